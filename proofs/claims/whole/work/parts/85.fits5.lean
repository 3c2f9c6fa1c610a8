/-! fits: the reference's rows -/
section F5
variable {M N N1 M1 M2 : Int → Int → Int} {G : GG} {td r rg : Int}
def dgU (M : Int → Int → Int) (td k t : Int) : Int := if 0 ≤ t ∧ t < M 24 2 ∧ M (td + 4) (4 * t) = 10 then dgt (M td 4) (uk (M (td + 4)) (M 24 2).toNat) (uk (M (td + 4)) t.toNat) k else 0
/-- what a search may change of the reference's -/
def rfF (M N : Int → Int → Int) : Prop := (∀ a, a ≠ 124 → a ≠ 129 → a ≠ 130 → a ≠ 131 → a ≠ 132 → a ≠ 142 → a ≠ 143 → a ≠ 144 → N a = M a) ∧ (∀ k, k ≠ 26 → N 124 k = M 124 k) ∧ ∀ i, 0 ≤ N 129 i ∧ N 129 i < 6
theorem rfF.q (h : rfF M N) : rQ M N := ⟨fun a ha => h.1 a (by omega) (by omega) (by omega) (by omega) (by omega) (by omega) (by omega) (by omega), fun k _ _ _ k3 _ _ => h.2.1 k k3, h.2.2⟩
theorem rfF.hi (h : rfF M N) {a : Int} (ha : 146 ≤ a) : N a = M a := h.1 a (by omega) (by omega) (by omega) (by omega) (by omega) (by omega) (by omega) (by omega)
theorem dgU_b (hg : 1 ≤ M td 4) (k t : Int) : 0 ≤ dgU M td k t ∧ dgU M td k t < M td 4 := by
  unfold dgU
  split
  · exact dgt_b hg
  · omega
theorem X11_isUnknown_ok (h0 : Inv0 M G td r) (hR : isR M G td rg) (hF : rfF M N) {t : Int} (t0 : 0 ≤ t) (t1 : t < M 24 2) : M_X11_isUnknown (N, G) 124 t = some (if M (td + 4) (4 * t) = 10 then 1 else 0) := by
  have hG := h0.1.1
  obtain ⟨k124, r3, r0, kr, -⟩ := hR.B hG
  obtain ⟨-, -, -, ⟨kr2, lr2⟩, ⟨kr3, lr3⟩, -⟩ := hR.2.1
  obtain ⟨-, q8, q9, -⟩ := hR.2.2.1
  have hwf := (tdw_ok h0 hR).2.2.2.2.2
  have hh := h0.tw
  obtain ⟨-, -, -, c4, c5, -⟩ := hR.2.2.2.2.2.2.1
  have hc4 := c4 t t0 t1
  have hc5 := c5 (4 * t) (by omega) (by omega)
  have hcob := hwf.2.2.2.2.2.2.2.2.1 t
  have herb := hwf.2.2.2.2.2.2.2.2.2.1 (4 * t)
  have hcz := hwf.2.2.2.2.2.2.2.2.2.2.2.1 t t0 t1
  have n3 : N 124 3 = rg := by rw [hF.2.1 3 (by omega)]; exact r3
  have n8 : N rg 8 = rg + 2 := by rw [hF.hi r0]; exact q8
  have n9 : N rg 9 = rg + 3 := by rw [hF.hi r0]; exact q9
  have e2 : N (rg + 2) t = M (td + 3) t := by rw [hF.hi (by omega)]; exact hc4
  have e3 : N (rg + 3) (4 * t) = M (td + 4) (4 * t) := by rw [hF.hi (by omega)]; exact hc5
  refine Ok.eq ?_
  unfold M_X11_isUnknown
  by_cases y : M (td + 3) t = -2
  · have := (hcz (by omega)).2
    rw [if_neg (by omega)]
    repeat' (with_reducible first | refine k_gf (by first | assumption | omega) (by first | assumption | ((try simp (disch := omega) only [sr_s, sr_a, sr_sr, u1_s, u1_k, n3, n8, n9, e2, e3]); exact rfl)) ?_ | refine k_gr (by first | assumption | omega) (by first | assumption | ((try simp (disch := omega) only [sr_s, sr_a, sr_sr, u1_s, u1_k, n3, n8, n9, e2, e3]); exact rfl)) (by omega) ?_ | refine k_ald (by first | assumption | omega) (by first | assumption | exact rfl) (by omega) (by omega) (by omega) (by first | assumption | ((try simp (disch := omega) only [sr_s, sr_a, sr_sr, u1_s, u1_k, n3, n8, n9, e2, e3]); exact rfl)) ?_ | refine k_ifT (by first | (simp (disch := omega) only [w32_id]; first | done | omega) | omega) ?_ | refine k_ifF (by first | (simp (disch := omega) only [w32_id]; first | done | omega) | omega) ?_ | refine k_pf (by first | assumption | omega) (by (try simp (disch := omega) only [sr_s, sr_a, sr_sr, u1_u1, n3, n8, n9, e2, e3]); exact rfl) ?_ | refine k_ast (by first | assumption | omega) (by first | assumption | exact rfl) (by omega) (by omega) (by omega) (by (try simp (disch := omega) only [sr_s, sr_a, sr_sr, u1_u1, n3, n8, n9, e2, e3]); exact rfl) ?_ | refine k_irm (by omega) (by omega) (by omega) (by omega) ?_ | refine k_idv (by omega) (by omega) (by omega) (by omega) ?_ | refine k_tk (by first | assumption | omega) ?_ | refine k_rp (by omega) ?_ | refine k_aldR (by first | assumption | omega) (by first | assumption | exact rfl) (by omega) (by omega) (by omega) (by first | assumption | ((try simp (disch := omega) only [sr_s, sr_a, sr_sr, u1_s, u1_k, n3, n8, n9, e2, e3]); exact rfl)) (by omega) ?_ | refine k_astR (by first | assumption | omega) (by first | assumption | exact rfl) (by omega) (by omega) (by omega) (by first | assumption | omega) (by (try simp (disch := omega) only [sr_s, sr_a, sr_sr, u1_u1, n3, n8, n9, e2, e3]); exact rfl) ?_ | refine k_pz (by first | assumption | omega) (by omega) (by (try simp (disch := omega) only [sr_s, sr_a, sr_sr, u1_u1, n3, n8, n9, e2, e3]); exact rfl) ?_ | refine k_alen (by first | assumption | omega) (by first | assumption | exact rfl) ?_ | refine k_cpy (by first | assumption | omega) (by first | assumption | omega) (by first | assumption | exact rfl) (by first | assumption | exact rfl) (by omega) (by omega) (by omega) (by omega) (by omega) (by omega) (by omega) (by omega) (by (try simp (disch := omega) only [sr_s, sr_a, sr_sr, u1_u1, n3, n8, n9, e2, e3]); exact rfl) ?_)
    exact Ok.ret rfl
  · by_cases y2 : M (td + 4) (4 * t) = 10
    · rw [if_pos y2]
      repeat' (with_reducible first | refine k_gf (by first | assumption | omega) (by first | assumption | ((try simp (disch := omega) only [sr_s, sr_a, sr_sr, u1_s, u1_k, n3, n8, n9, e2, e3]); exact rfl)) ?_ | refine k_gr (by first | assumption | omega) (by first | assumption | ((try simp (disch := omega) only [sr_s, sr_a, sr_sr, u1_s, u1_k, n3, n8, n9, e2, e3]); exact rfl)) (by omega) ?_ | refine k_ald (by first | assumption | omega) (by first | assumption | exact rfl) (by omega) (by omega) (by omega) (by first | assumption | ((try simp (disch := omega) only [sr_s, sr_a, sr_sr, u1_s, u1_k, n3, n8, n9, e2, e3]); exact rfl)) ?_ | refine k_ifT (by first | (simp (disch := omega) only [w32_id]; first | done | omega) | omega) ?_ | refine k_ifF (by first | (simp (disch := omega) only [w32_id]; first | done | omega) | omega) ?_ | refine k_pf (by first | assumption | omega) (by (try simp (disch := omega) only [sr_s, sr_a, sr_sr, u1_u1, n3, n8, n9, e2, e3]); exact rfl) ?_ | refine k_ast (by first | assumption | omega) (by first | assumption | exact rfl) (by omega) (by omega) (by omega) (by (try simp (disch := omega) only [sr_s, sr_a, sr_sr, u1_u1, n3, n8, n9, e2, e3]); exact rfl) ?_ | refine k_irm (by omega) (by omega) (by omega) (by omega) ?_ | refine k_idv (by omega) (by omega) (by omega) (by omega) ?_ | refine k_tk (by first | assumption | omega) ?_ | refine k_rp (by omega) ?_ | refine k_aldR (by first | assumption | omega) (by first | assumption | exact rfl) (by omega) (by omega) (by omega) (by first | assumption | ((try simp (disch := omega) only [sr_s, sr_a, sr_sr, u1_s, u1_k, n3, n8, n9, e2, e3]); exact rfl)) (by omega) ?_ | refine k_astR (by first | assumption | omega) (by first | assumption | exact rfl) (by omega) (by omega) (by omega) (by first | assumption | omega) (by (try simp (disch := omega) only [sr_s, sr_a, sr_sr, u1_u1, n3, n8, n9, e2, e3]); exact rfl) ?_ | refine k_pz (by first | assumption | omega) (by omega) (by (try simp (disch := omega) only [sr_s, sr_a, sr_sr, u1_u1, n3, n8, n9, e2, e3]); exact rfl) ?_ | refine k_alen (by first | assumption | omega) (by first | assumption | exact rfl) ?_ | refine k_cpy (by first | assumption | omega) (by first | assumption | omega) (by first | assumption | exact rfl) (by first | assumption | exact rfl) (by omega) (by omega) (by omega) (by omega) (by omega) (by omega) (by omega) (by omega) (by (try simp (disch := omega) only [sr_s, sr_a, sr_sr, u1_u1, n3, n8, n9, e2, e3]); exact rfl) ?_)
      exact Ok.ret rfl
    · rw [if_neg y2]
      repeat' (with_reducible first | refine k_gf (by first | assumption | omega) (by first | assumption | ((try simp (disch := omega) only [sr_s, sr_a, sr_sr, u1_s, u1_k, n3, n8, n9, e2, e3]); exact rfl)) ?_ | refine k_gr (by first | assumption | omega) (by first | assumption | ((try simp (disch := omega) only [sr_s, sr_a, sr_sr, u1_s, u1_k, n3, n8, n9, e2, e3]); exact rfl)) (by omega) ?_ | refine k_ald (by first | assumption | omega) (by first | assumption | exact rfl) (by omega) (by omega) (by omega) (by first | assumption | ((try simp (disch := omega) only [sr_s, sr_a, sr_sr, u1_s, u1_k, n3, n8, n9, e2, e3]); exact rfl)) ?_ | refine k_ifT (by first | (simp (disch := omega) only [w32_id]; first | done | omega) | omega) ?_ | refine k_ifF (by first | (simp (disch := omega) only [w32_id]; first | done | omega) | omega) ?_ | refine k_pf (by first | assumption | omega) (by (try simp (disch := omega) only [sr_s, sr_a, sr_sr, u1_u1, n3, n8, n9, e2, e3]); exact rfl) ?_ | refine k_ast (by first | assumption | omega) (by first | assumption | exact rfl) (by omega) (by omega) (by omega) (by (try simp (disch := omega) only [sr_s, sr_a, sr_sr, u1_u1, n3, n8, n9, e2, e3]); exact rfl) ?_ | refine k_irm (by omega) (by omega) (by omega) (by omega) ?_ | refine k_idv (by omega) (by omega) (by omega) (by omega) ?_ | refine k_tk (by first | assumption | omega) ?_ | refine k_rp (by omega) ?_ | refine k_aldR (by first | assumption | omega) (by first | assumption | exact rfl) (by omega) (by omega) (by omega) (by first | assumption | ((try simp (disch := omega) only [sr_s, sr_a, sr_sr, u1_s, u1_k, n3, n8, n9, e2, e3]); exact rfl)) (by omega) ?_ | refine k_astR (by first | assumption | omega) (by first | assumption | exact rfl) (by omega) (by omega) (by omega) (by first | assumption | omega) (by (try simp (disch := omega) only [sr_s, sr_a, sr_sr, u1_u1, n3, n8, n9, e2, e3]); exact rfl) ?_ | refine k_pz (by first | assumption | omega) (by omega) (by (try simp (disch := omega) only [sr_s, sr_a, sr_sr, u1_u1, n3, n8, n9, e2, e3]); exact rfl) ?_ | refine k_alen (by first | assumption | omega) (by first | assumption | exact rfl) ?_ | refine k_cpy (by first | assumption | omega) (by first | assumption | omega) (by first | assumption | exact rfl) (by first | assumption | exact rfl) (by omega) (by omega) (by omega) (by omega) (by omega) (by omega) (by omega) (by omega) (by (try simp (disch := omega) only [sr_s, sr_a, sr_sr, u1_u1, n3, n8, n9, e2, e3]); exact rfl) ?_)
      exact Ok.ret rfl
theorem X11_nextRow_ok (h0 : Inv0 M G td r) (hR : isR M G td rg) (hg : 1 ≤ M td 4) (hF : rfF M N) {k : Int} (k0 : 0 ≤ k) (hk : k < M td 4 ^ uk (M (td + 4)) (M 24 2).toNat) (hrow : ∀ t, 0 ≤ t → t < 6 → N 142 t = dgU M td k t) : Ok (M_X11_nextRow (N, G) 124) (fun z => ∃ N1, (∀ a, a ≠ 142 → N1 a = N a) ∧ (z = ((N1, G), 1) ∧ k + 1 < M td 4 ^ uk (M (td + 4)) (M 24 2).toNat ∧ (∀ t, 0 ≤ t → t < 6 → N1 142 t = dgU M td (k + 1) t) ∨ z = ((N1, G), 0) ∧ k + 1 = M td 4 ^ uk (M (td + 4)) (M 24 2).toNat)) := by
  have hG := h0.1.1
  obtain ⟨k124, r3, r0, kr, -⟩ := hR.B hG
  have hI := fiI_ok h0 hR
  have w2 := (tdw_ok h0 hR).2.2.2.1
  have h4 := hR.2.2.2.2.2.2.2.1.1
  have h3 := hR.2.2.2.1.2.2.2
  have hu4 : uk (M (td + 4)) (M 24 2).toNat ≤ 4 := by have := hI.2.2.2.2.2.2.2.1; rw [w2] at this; exact this
  have g5 := hI.2.2.2.2.2.2.2.2.2
  have hh := h0.tw
  have t1 := hR.cl.2.2.2.2.1.2.2.2.2.1
  have n3 : N 124 3 = rg := by rw [hF.2.1 3 (by omega)]; exact r3
  have n33 : N rg 3 = M 24 2 := by rw [hF.hi r0]; exact h3
  have n34 : N rg 4 = M td 4 := by rw [hF.hi r0]; exact h4
  have p38 : N 124 38 = 142 := by rw [hF.2.1 38 (by omega)]; exact pr124.p38 h0.2.2.1.1
  have hpb := pw_b hg g5 _ hu4
  have k142 := gk_142 hG
  have l142 := gl_142 hG
  unfold M_X11_nextRow
  repeat' (with_reducible first | refine k_gf (by first | assumption | omega) (by first | assumption | ((try simp (disch := omega) only [sr_s, sr_a, sr_sr, u1_s, u1_k, n3, n33]); exact rfl)) ?_ | refine k_gr (by first | assumption | omega) (by first | assumption | ((try simp (disch := omega) only [sr_s, sr_a, sr_sr, u1_s, u1_k, n3, n33]); exact rfl)) (by omega) ?_ | refine k_ald (by first | assumption | omega) (by first | assumption | exact rfl) (by omega) (by omega) (by omega) (by first | assumption | ((try simp (disch := omega) only [sr_s, sr_a, sr_sr, u1_s, u1_k, n3, n33]); exact rfl)) ?_ | refine k_ifT (by first | (simp (disch := omega) only [w32_id]; first | done | omega) | omega) ?_ | refine k_ifF (by first | (simp (disch := omega) only [w32_id]; first | done | omega) | omega) ?_ | refine k_pf (by first | assumption | omega) (by (try simp (disch := omega) only [sr_s, sr_a, sr_sr, u1_u1, n3, n33]); exact rfl) ?_ | refine k_ast (by first | assumption | omega) (by first | assumption | exact rfl) (by omega) (by omega) (by omega) (by (try simp (disch := omega) only [sr_s, sr_a, sr_sr, u1_u1, n3, n33]); exact rfl) ?_ | refine k_irm (by omega) (by omega) (by omega) (by omega) ?_ | refine k_idv (by omega) (by omega) (by omega) (by omega) ?_ | refine k_tk (by first | assumption | omega) ?_ | refine k_rp (by omega) ?_ | refine k_aldR (by first | assumption | omega) (by first | assumption | exact rfl) (by omega) (by omega) (by omega) (by first | assumption | ((try simp (disch := omega) only [sr_s, sr_a, sr_sr, u1_s, u1_k, n3, n33]); exact rfl)) (by omega) ?_ | refine k_astR (by first | assumption | omega) (by first | assumption | exact rfl) (by omega) (by omega) (by omega) (by first | assumption | omega) (by (try simp (disch := omega) only [sr_s, sr_a, sr_sr, u1_u1, n3, n33]); exact rfl) ?_ | refine k_pz (by first | assumption | omega) (by omega) (by (try simp (disch := omega) only [sr_s, sr_a, sr_sr, u1_u1, n3, n33]); exact rfl) ?_ | refine k_alen (by first | assumption | omega) (by first | assumption | exact rfl) ?_ | refine k_cpy (by first | assumption | omega) (by first | assumption | omega) (by first | assumption | exact rfl) (by first | assumption | exact rfl) (by omega) (by omega) (by omega) (by omega) (by omega) (by omega) (by omega) (by omega) (by (try simp (disch := omega) only [sr_s, sr_a, sr_sr, u1_u1, n3, n33]); exact rfl) ?_)
  unfold M_X11_nextRow_w10
  generalize hUC : uk (M (td + 4)) (M 24 2).toNat = uc at *
  have hlo : Ok (wh (S := (Hp × Int)) (T := (Hp ⊕ (Hp × Int))) (fun a => M_X11_nextRow_b10 a.1 124 a.2) FU ((N, G), M 24 2 - 1)) (lo (fun h => ∃ N1, h = (N1, G) ∧ (∀ a, a ≠ 142 → N1 a = N a) ∧ k + 1 = M td 4 ^ uc) (fun z => ∃ N1, z = ((N1, G), 1) ∧ (∀ a, a ≠ 142 → N1 a = N a) ∧ k + 1 < M td 4 ^ uc ∧ (∀ t, 0 ≤ t → t < 6 → N1 142 t = dgU M td (k + 1) t))) := by
    refine wh_for (fun i s => ∃ N1, s = ((N1, G), M 24 2 - 1 - (i : Int)) ∧ (∀ a, a ≠ 142 → N1 a = N a) ∧ (k + 1) % M td 4 ^ (uc - uk (M (td + 4)) ((M 24 2).toNat - i)) = 0 ∧ ∀ t, 0 ≤ t → t < 6 → N1 142 t = if M 24 2 - i ≤ t then 0 else dgU M td k t) _ (M 24 2).toNat (by omega) ⟨N, by rw [show M 24 2 - 1 - ((0 : Nat) : Int) = M 24 2 - 1 by omega], fun _ _ => rfl, ?_, fun t t0 t6 => ?_⟩ ?_ ?_
    · rw [Nat.sub_zero, hUC, Nat.sub_self, Int.pow_zero, Int.emod_one]
    · rw [hrow t t0 t6]
      by_cases y : M 24 2 - ((0 : Nat) : Int) ≤ t
      · rw [if_pos y]; unfold dgU; rw [if_neg (by omega)]
      · rw [if_neg y]
    · rintro i _ hi ⟨N1, rfl, f1, hmod, hv⟩
      have hF1 : rfF M N1 := ⟨fun a x1 x2 x3 x4 x5 x6 x7 x8 => (f1 a x6).trans (hF.1 a x1 x2 x3 x4 x5 x6 x7 x8), fun k hk => by rw [f1 124 (by omega)]; exact hF.2.1 k hk, by rw [f1 129 (by omega)]; exact hF.2.2⟩
      have hT : 0 ≤ M 24 2 - 1 - (i : Int) ∧ M 24 2 - 1 - (i : Int) < M 24 2 := by omega
      have hTn : (M 24 2).toNat - i = (M 24 2 - 1 - (i : Int)).toNat + 1 := by omega
      have hTn2 : (M 24 2).toNat - (i + 1) = (M 24 2 - 1 - (i : Int)).toNat := by omega
      have hTe : M 24 2 - ((i + 1 : Nat) : Int) = M 24 2 - 1 - (i : Int) := by omega
      have hTl : M 24 2 - (i : Int) = (M 24 2 - 1 - (i : Int)) + 1 := by omega
      have hnx : M 24 2 - 1 - (i : Int) + -1 = M 24 2 - 1 - ((i + 1 : Nat) : Int) := by omega
      have hun := X11_isUnknown_ok h0 hR hF1 hT.1 hT.2
      have hukle := uk_mono (er := M (td + 4)) (a := (M 24 2 - 1 - (i : Int)).toNat + 1) ((M 24 2).toNat - ((M 24 2 - 1 - (i : Int)).toNat + 1))
      rw [show (M 24 2 - 1 - (i : Int)).toNat + 1 + ((M 24 2).toNat - ((M 24 2 - 1 - (i : Int)).toNat + 1)) = (M 24 2).toNat by omega, hUC] at hukle
      have hvT := hv _ hT.1 (by omega)
      rw [hTl, if_neg (by omega)] at hvT
      rw [hTl] at hv
      rw [hTn] at hmod
      rw [hTn2, hTe]
      have huks : uk (M (td + 4)) ((M 24 2 - 1 - (i : Int)).toNat + 1) = uk (M (td + 4)) (M 24 2 - 1 - (i : Int)).toNat + (if M (td + 4) (4 * (M 24 2 - 1 - (i : Int))) = 10 then 1 else 0) := by
        show uk _ _ + (if M (td + 4) (4 * (((M 24 2 - 1 - (i : Int)).toNat : Nat) : Int)) = 10 then 1 else 0) = _
        rw [show (((M 24 2 - 1 - (i : Int)).toNat : Nat) : Int) = M 24 2 - 1 - (i : Int) by omega]
      have hdU : ∀ k', M (td + 4) (4 * (M 24 2 - 1 - (i : Int))) = 10 → dgU M td k' (M 24 2 - 1 - (i : Int)) = k' / M td 4 ^ (uc - 1 - uk (M (td + 4)) (M 24 2 - 1 - (i : Int)).toNat) % M td 4 := fun k' hy => by
        unfold dgU
        rw [if_pos ⟨hT.1, hT.2, hy⟩, hUC]
        rfl
      unfold M_X11_nextRow_b10 M_X11_nextRow_p60
      dsimp only
      rw [hnx]
      refine k_ifF (by rw [w32_id (by omega) (by omega)]; omega) (k_eq hun ?_)
      have f3' : N1 124 3 = rg := by rw [f1 124 (by omega)]; exact n3
      have f34 : N1 rg 4 = M td 4 := by rw [f1 rg (by omega)]; exact n34
      have f38 : N1 124 38 = 142 := by rw [f1 124 (by omega)]; exact p38
      generalize hTT : M 24 2 - 1 - (i : Int) = T at *
      by_cases y : M (td + 4) (4 * T) = 10
      · rw [if_pos y] at huks ⊢
        have hd := hdU k y
        rw [hd] at hvT
        rw [huks] at hmod hukle
        have hdb : 0 ≤ k / M td 4 ^ (uc - 1 - uk (M (td + 4)) T.toNat) % M td 4 ∧ k / M td 4 ^ (uc - 1 - uk (M (td + 4)) T.toNat) % M td 4 < M td 4 := ⟨Int.emod_nonneg _ (by omega), Int.emod_lt_of_pos _ (by omega)⟩
        rw [show uc - (uk (M (td + 4)) T.toNat + 1) = uc - 1 - uk (M (td + 4)) T.toNat by omega] at hmod
        refine k_ifF (by decide) ?_
        by_cases y2 : k / M td 4 ^ (uc - 1 - uk (M (td + 4)) T.toNat) % M td 4 + 1 < M td 4
        · have hat := dg_at (j := uc - 1 - uk (M (td + 4)) T.toNat) hg g5 (by omega) k0 hmod y2
          repeat' (with_reducible first | refine k_gf (by first | assumption | omega) (by first | assumption | ((try simp (disch := omega) only [sr_s, sr_a, sr_sr, u1_s, u1_k, f3', f34, f38, hvT]); exact rfl)) ?_ | refine k_gr (by first | assumption | omega) (by first | assumption | ((try simp (disch := omega) only [sr_s, sr_a, sr_sr, u1_s, u1_k, f3', f34, f38, hvT]); exact rfl)) (by omega) ?_ | refine k_ald (by first | assumption | omega) (by first | assumption | exact rfl) (by omega) (by omega) (by omega) (by first | assumption | ((try simp (disch := omega) only [sr_s, sr_a, sr_sr, u1_s, u1_k, f3', f34, f38, hvT]); exact rfl)) ?_ | refine k_ifT (by first | (simp (disch := omega) only [w32_id]; first | done | omega) | omega) ?_ | refine k_ifF (by first | (simp (disch := omega) only [w32_id]; first | done | omega) | omega) ?_ | refine k_pf (by first | assumption | omega) (by (try simp (disch := omega) only [sr_s, sr_a, sr_sr, u1_u1, f3', f34, f38, hvT]); exact rfl) ?_ | refine k_ast (by first | assumption | omega) (by first | assumption | exact rfl) (by omega) (by omega) (by omega) (by (try simp (disch := omega) only [sr_s, sr_a, sr_sr, u1_u1, f3', f34, f38, hvT]); exact rfl) ?_ | refine k_irm (by omega) (by omega) (by omega) (by omega) ?_ | refine k_idv (by omega) (by omega) (by omega) (by omega) ?_ | refine k_tk (by first | assumption | omega) ?_ | refine k_rp (by omega) ?_ | refine k_aldR (by first | assumption | omega) (by first | assumption | exact rfl) (by omega) (by omega) (by omega) (by first | assumption | ((try simp (disch := omega) only [sr_s, sr_a, sr_sr, u1_s, u1_k, f3', f34, f38, hvT]); exact rfl)) (by omega) ?_ | refine k_astR (by first | assumption | omega) (by first | assumption | exact rfl) (by omega) (by omega) (by omega) (by first | assumption | omega) (by (try simp (disch := omega) only [sr_s, sr_a, sr_sr, u1_u1, f3', f34, f38, hvT]); exact rfl) ?_ | refine k_pz (by first | assumption | omega) (by omega) (by (try simp (disch := omega) only [sr_s, sr_a, sr_sr, u1_u1, f3', f34, f38, hvT]); exact rfl) ?_ | refine k_alen (by first | assumption | omega) (by first | assumption | exact rfl) ?_ | refine k_cpy (by first | assumption | omega) (by first | assumption | omega) (by first | assumption | exact rfl) (by first | assumption | exact rfl) (by omega) (by omega) (by omega) (by omega) (by omega) (by omega) (by omega) (by omega) (by (try simp (disch := omega) only [sr_s, sr_a, sr_sr, u1_u1, f3', f34, f38, hvT]); exact rfl) ?_)
          refine Ok.ret ⟨_, rfl, fun a ha => by rw [sr_a _ _ ha]; exact f1 a ha, ?_, fun t t0 t6 => ?_⟩
          · by_cases y3 : k + 1 = M td 4 ^ uc
            · exfalso
              have hz : (k + 1) / M td 4 ^ (uc - 1 - uk (M (td + 4)) T.toNat) % M td 4 = 0 := dg_lo (j := uc) hg g5 (by omega) hu4 k0 (by rw [y3]; exact Int.emod_self)
              omega
            · omega
          · rw [sr_s]
            by_cases z : t = T
            · rw [u1_e _ _ z, z, hdU (k + 1) y, hat]
            · rw [u1_k _ _ z, hv t t0 t6]
              by_cases z2 : T + 1 ≤ t
              · rw [if_pos z2]
                unfold dgU
                by_cases z3 : 0 ≤ t ∧ t < M 24 2 ∧ M (td + 4) (4 * t) = 10
                · rw [if_pos z3, hUC]
                  have hlt : uk (M (td + 4)) T.toNat < uk (M (td + 4)) t.toNat := uk_lt (by omega) (by rw [show ((T.toNat : Nat) : Int) = T by omega]; exact y)
                  have hlt2 : uk (M (td + 4)) t.toNat < uc := by rw [← hUC]; exact uk_lt (by omega) (by rw [show ((t.toNat : Nat) : Int) = t by omega]; exact z3.2.2)
                  exact (dg_lo (j := uc - 1 - uk (M (td + 4)) T.toNat) (m := uc - 1 - uk (M (td + 4)) t.toNat) hg g5 (by omega) (by omega) k0 hmod).symm
                · rw [if_neg z3]
              · rw [if_neg z2]
                unfold dgU
                by_cases z3 : 0 ≤ t ∧ t < M 24 2 ∧ M (td + 4) (4 * t) = 10
                · rw [if_pos z3, if_pos z3, hUC]
                  have hlt : uk (M (td + 4)) t.toNat < uk (M (td + 4)) T.toNat := uk_lt (by omega) (by rw [show ((t.toNat : Nat) : Int) = t by omega]; exact z3.2.2)
                  exact (dg_hi (j := uc - 1 - uk (M (td + 4)) T.toNat) (m := uc - 1 - uk (M (td + 4)) t.toNat) hg g5 (by omega) (by omega) k0 hmod y2).symm
                · rw [if_neg z3, if_neg z3]
        · have hup := dg_up (j := uc - 1 - uk (M (td + 4)) T.toNat) hg g5 (by omega) k0 hmod y2
          repeat' (with_reducible first | refine k_gf (by first | assumption | omega) (by first | assumption | ((try simp (disch := omega) only [sr_s, sr_a, sr_sr, u1_s, u1_k, f3', f34, f38, hvT]); exact rfl)) ?_ | refine k_gr (by first | assumption | omega) (by first | assumption | ((try simp (disch := omega) only [sr_s, sr_a, sr_sr, u1_s, u1_k, f3', f34, f38, hvT]); exact rfl)) (by omega) ?_ | refine k_ald (by first | assumption | omega) (by first | assumption | exact rfl) (by omega) (by omega) (by omega) (by first | assumption | ((try simp (disch := omega) only [sr_s, sr_a, sr_sr, u1_s, u1_k, f3', f34, f38, hvT]); exact rfl)) ?_ | refine k_ifT (by first | (simp (disch := omega) only [w32_id]; first | done | omega) | omega) ?_ | refine k_ifF (by first | (simp (disch := omega) only [w32_id]; first | done | omega) | omega) ?_ | refine k_pf (by first | assumption | omega) (by (try simp (disch := omega) only [sr_s, sr_a, sr_sr, u1_u1, f3', f34, f38, hvT]); exact rfl) ?_ | refine k_ast (by first | assumption | omega) (by first | assumption | exact rfl) (by omega) (by omega) (by omega) (by (try simp (disch := omega) only [sr_s, sr_a, sr_sr, u1_u1, f3', f34, f38, hvT]); exact rfl) ?_ | refine k_irm (by omega) (by omega) (by omega) (by omega) ?_ | refine k_idv (by omega) (by omega) (by omega) (by omega) ?_ | refine k_tk (by first | assumption | omega) ?_ | refine k_rp (by omega) ?_ | refine k_aldR (by first | assumption | omega) (by first | assumption | exact rfl) (by omega) (by omega) (by omega) (by first | assumption | ((try simp (disch := omega) only [sr_s, sr_a, sr_sr, u1_s, u1_k, f3', f34, f38, hvT]); exact rfl)) (by omega) ?_ | refine k_astR (by first | assumption | omega) (by first | assumption | exact rfl) (by omega) (by omega) (by omega) (by first | assumption | omega) (by (try simp (disch := omega) only [sr_s, sr_a, sr_sr, u1_u1, f3', f34, f38, hvT]); exact rfl) ?_ | refine k_pz (by first | assumption | omega) (by omega) (by (try simp (disch := omega) only [sr_s, sr_a, sr_sr, u1_u1, f3', f34, f38, hvT]); exact rfl) ?_ | refine k_alen (by first | assumption | omega) (by first | assumption | exact rfl) ?_ | refine k_cpy (by first | assumption | omega) (by first | assumption | omega) (by first | assumption | exact rfl) (by first | assumption | exact rfl) (by omega) (by omega) (by omega) (by omega) (by omega) (by omega) (by omega) (by omega) (by (try simp (disch := omega) only [sr_s, sr_a, sr_sr, u1_u1, f3', f34, f38, hvT]); exact rfl) ?_)
          refine Ok.ret ⟨_, rfl, fun a ha => by rw [sr_a _ _ ha]; exact f1 a ha, ?_, fun t t0 t6 => ?_⟩
          · rw [show uc - uk (M (td + 4)) T.toNat = uc - 1 - uk (M (td + 4)) T.toNat + 1 by omega]
            exact hup
          · rw [sr_s]
            by_cases z : t = T
            · rw [u1_e _ _ z, if_pos (by omega)]
            · rw [u1_k _ _ z, hv t t0 t6]
              by_cases z2 : T + 1 ≤ t
              · rw [if_pos z2, if_pos (by omega)]
              · rw [if_neg z2, if_neg (by omega)]
      · rw [if_neg y] at huks ⊢
        refine k_ifT (by decide) ?_
        refine Ok.ret ⟨N1, rfl, f1, ?_, fun t t0 t6 => ?_⟩
        · rw [huks] at hmod
          exact hmod
        · rw [hv t t0 t6]
          by_cases z2 : T + 1 ≤ t
          · rw [if_pos z2, if_pos (by omega)]
          · rw [if_neg z2]
            by_cases z : t = T
            · rw [if_pos (by omega), z]; unfold dgU; rw [if_neg (fun q => y q.2.2)]
            · rw [if_neg (by omega)]
    · rintro _ ⟨N1, rfl, f1, hmod, hv⟩
      rw [Nat.sub_self] at hmod
      have hmod : (k + 1) % M td 4 ^ uc = 0 := hmod
      unfold M_X11_nextRow_b10
      dsimp only
      refine k_ifT (by rw [w32_id (by omega) (by omega)]; omega) (Ok.ret ⟨N1, rfl, f1, ?_⟩)
      generalize M td 4 ^ uc = al at *
      by_cases y : k + 1 < al
      · rw [Int.emod_eq_of_lt (by omega) y] at hmod
        omega
      · omega
  refine Ok.bind hlo ?_
  intro z hz
  cases z with
  | inl h =>
    obtain ⟨N1, rfl, f1, he⟩ := hz
    rw [exi_l]
    unfold M_X11_nextRow_p66
    exact Ok.ret ⟨N1, f1, Or.inr ⟨rfl, he⟩⟩
  | inr q =>
    obtain ⟨N1, rfl, f1, h1, h2⟩ := hz
    rw [exi_r]
    exact Ok.ret ⟨N1, f1, Or.inl ⟨rfl, h1, h2⟩⟩
end F5
