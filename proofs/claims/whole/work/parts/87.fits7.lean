/-! fits, fit, surely -/
section F7
variable {M N N1 M1 M2 : Int → Int → Int} {G : GG} {td r rg : Int}
theorem fitB_sf (h0 : Inv0 M G td r) (hR : isR M G td rg) (k : Int) : fstN (sfE M td (erF (M (td + 4)) (M (td + 6)) (M td 4) (uk (M (td + 4)) (M 24 2).toNat) k)) (M td 9).toNat 0 = -2 ↔ fitB M td k = true := by
  obtain ⟨-, w0, w1, w2, -⟩ := tdw_ok h0 hR
  rw [fst_iff]
  unfold fitB
  rw [seN_iff, w0, w1, w2]
  unfold sfE
  constructor
  · intro h i hi
    have := h i hi
    simpa using this
  · intro h i hi
    have := h i hi
    simpa using this
theorem X11_fitting_ok (h0 : Inv0 M G td r) (hR : isR M G td rg) (hg : 1 ≤ M td 4) {look : Int} (hl : i32 look) : Ok (M_X11_fitting (M, G) 124 look) (fun z => ∃ N, z = ((N, G), ((fitN M td (allR M td) : Nat) : Int)) ∧ ftI M N td look (allR M td)) := by
  have hG := h0.1.1
  have hI := fiI_ok h0 hR
  obtain ⟨-, -, -, w2, -, hwf⟩ := tdw_ok h0 hR
  have hu4 : uk (M (td + 4)) (M 24 2).toNat ≤ 4 := by have := hI.2.2.2.2.2.2.2.1; rw [w2] at this; exact this
  have g5 := hI.2.2.2.2.2.2.2.2.2
  have hpb := pw_b hg g5 _ hu4
  have hh := h0.tw
  have hmk := hR.mk
  have hal : allR M td = (M td 4 ^ uk (M (td + 4)) (M 24 2).toNat).toNat := by unfold allR; rw [w2]
  have hcg := hR.2.2.2.2.2.2.2.1
  obtain ⟨k124', r3, r0, kr, -⟩ := hR.B hG
  have e3 := hR.cl.2.2.2.1
  have k124 := gk_124 hG
  have k142 := gk_142 hG
  have l142 := gl_142 hG
  have k144 := gk_144 hG
  have l144 := gl_144 hG
  have p38 := pr124.p38 h0.2.2.1.1
  have p40 := pr124.p40 h0.2.2.1.1
  unfold M_X11_fitting
  refine k_tk k124 ?_
  unfold M_X11_fitting_w7
  refine Ok.bind (Q := fun h => ∃ N, h = (N, G) ∧ (∀ a, a ≠ 142 → a ≠ 144 → N a = M a) ∧ (∀ t, 0 ≤ t → t < 6 → N 142 t = 0) ∧ ∀ t, 0 ≤ t → t < 6 → N 144 t = 0) ?_ ?_
  · refine wh_for (fun n s => ∃ N, s = ((N, G), (n : Int)) ∧ (∀ a, a ≠ 142 → a ≠ 144 → N a = M a) ∧ (∀ t, 0 ≤ t → t < (n : Int) → N 142 t = 0) ∧ ∀ t, 0 ≤ t → t < (n : Int) → N 144 t = 0) _ 6 (by omega) ⟨M, rfl, fun _ _ _ => rfl, fun t t0 t1 => by omega, fun t t0 t1 => by omega⟩ ?_ ?_
    · rintro n _ hn ⟨N, rfl, f, h2, h4⟩
      have q38 : N 124 38 = 142 := by rw [f 124 (by omega) (by omega)]; exact p38
      have q40 : N 124 40 = 144 := by rw [f 124 (by omega) (by omega)]; exact p40
      unfold M_X11_fitting_b7
      dsimp only
      repeat' (with_reducible first | refine k_gf (by first | assumption | omega) (by first | assumption | ((try simp (disch := omega) only [sr_s, sr_a, sr_sr, u1_s, u1_k, q38, q40]); exact rfl)) ?_ | refine k_gr (by first | assumption | omega) (by first | assumption | ((try simp (disch := omega) only [sr_s, sr_a, sr_sr, u1_s, u1_k, q38, q40]); exact rfl)) (by omega) ?_ | refine k_ald (by first | assumption | omega) (by first | assumption | exact rfl) (by omega) (by omega) (by omega) (by first | assumption | ((try simp (disch := omega) only [sr_s, sr_a, sr_sr, u1_s, u1_k, q38, q40]); exact rfl)) ?_ | refine k_ifT (by first | (simp (disch := omega) only [w32_id]; first | done | omega) | omega) ?_ | refine k_ifF (by first | (simp (disch := omega) only [w32_id]; first | done | omega) | omega) ?_ | refine k_pf (by first | assumption | omega) (by (try simp (disch := omega) only [sr_s, sr_a, sr_sr, u1_u1, q38, q40]); exact rfl) ?_ | refine k_ast (by first | assumption | omega) (by first | assumption | exact rfl) (by omega) (by omega) (by omega) (by (try simp (disch := omega) only [sr_s, sr_a, sr_sr, u1_u1, q38, q40]); exact rfl) ?_ | refine k_irm (by omega) (by omega) (by omega) (by omega) ?_ | refine k_idv (by omega) (by omega) (by omega) (by omega) ?_ | refine k_tk (by first | assumption | omega) ?_ | refine k_rp (by omega) ?_ | refine k_aldR (by first | assumption | omega) (by first | assumption | exact rfl) (by omega) (by omega) (by omega) (by first | assumption | ((try simp (disch := omega) only [sr_s, sr_a, sr_sr, u1_s, u1_k, q38, q40]); exact rfl)) (by omega) ?_ | refine k_astR (by first | assumption | omega) (by first | assumption | exact rfl) (by omega) (by omega) (by omega) (by first | assumption | omega) (by (try simp (disch := omega) only [sr_s, sr_a, sr_sr, u1_u1, q38, q40]); exact rfl) ?_ | refine k_pz (by first | assumption | omega) (by omega) (by (try simp (disch := omega) only [sr_s, sr_a, sr_sr, u1_u1, q38, q40]); exact rfl) ?_ | refine k_alen (by first | assumption | omega) (by first | assumption | exact rfl) ?_ | refine k_cpy (by first | assumption | omega) (by first | assumption | omega) (by first | assumption | exact rfl) (by first | assumption | exact rfl) (by omega) (by omega) (by omega) (by omega) (by omega) (by omega) (by omega) (by omega) (by (try simp (disch := omega) only [sr_s, sr_a, sr_sr, u1_u1, q38, q40]); exact rfl) ?_)
      refine Ok.ret ⟨_, rfl, fun a n1 n2 => by rw [sr_a _ _ n2, sr_a _ _ n1]; exact f a n1 n2, fun t t0 t1 => ?_, fun t t0 t1 => ?_⟩
      · rw [sr_a _ _ (by omega), sr_s]
        by_cases y : t = (n : Int)
        · rw [u1_e _ _ y]
        · rw [u1_k _ _ y]; exact h2 t t0 (by omega)
      · rw [sr_s]
        by_cases y : t = (n : Int)
        · rw [u1_e _ _ y]
        · rw [u1_k _ _ y]; exact h4 t t0 (by omega)
    · rintro _ ⟨N, rfl, hS⟩
      unfold M_X11_fitting_b7
      dsimp only
      repeat' (with_reducible first | refine k_gf (by first | assumption | omega) (by first | assumption | ((try simp (disch := omega) only [sr_s, sr_a, sr_sr, u1_s, u1_k]); exact rfl)) ?_ | refine k_gr (by first | assumption | omega) (by first | assumption | ((try simp (disch := omega) only [sr_s, sr_a, sr_sr, u1_s, u1_k]); exact rfl)) (by omega) ?_ | refine k_ald (by first | assumption | omega) (by first | assumption | exact rfl) (by omega) (by omega) (by omega) (by first | assumption | ((try simp (disch := omega) only [sr_s, sr_a, sr_sr, u1_s, u1_k]); exact rfl)) ?_ | refine k_ifT (by first | (simp (disch := omega) only [w32_id]; first | done | omega) | omega) ?_ | refine k_ifF (by first | (simp (disch := omega) only [w32_id]; first | done | omega) | omega) ?_ | refine k_pf (by first | assumption | omega) (by (try simp (disch := omega) only [sr_s, sr_a, sr_sr, u1_u1]); exact rfl) ?_ | refine k_ast (by first | assumption | omega) (by first | assumption | exact rfl) (by omega) (by omega) (by omega) (by (try simp (disch := omega) only [sr_s, sr_a, sr_sr, u1_u1]); exact rfl) ?_ | refine k_irm (by omega) (by omega) (by omega) (by omega) ?_ | refine k_idv (by omega) (by omega) (by omega) (by omega) ?_ | refine k_tk (by first | assumption | omega) ?_ | refine k_rp (by omega) ?_ | refine k_aldR (by first | assumption | omega) (by first | assumption | exact rfl) (by omega) (by omega) (by omega) (by first | assumption | ((try simp (disch := omega) only [sr_s, sr_a, sr_sr, u1_s, u1_k]); exact rfl)) (by omega) ?_ | refine k_astR (by first | assumption | omega) (by first | assumption | exact rfl) (by omega) (by omega) (by omega) (by first | assumption | omega) (by (try simp (disch := omega) only [sr_s, sr_a, sr_sr, u1_u1]); exact rfl) ?_ | refine k_pz (by first | assumption | omega) (by omega) (by (try simp (disch := omega) only [sr_s, sr_a, sr_sr, u1_u1]); exact rfl) ?_ | refine k_alen (by first | assumption | omega) (by first | assumption | exact rfl) ?_ | refine k_cpy (by first | assumption | omega) (by first | assumption | omega) (by first | assumption | exact rfl) (by first | assumption | exact rfl) (by omega) (by omega) (by omega) (by omega) (by omega) (by omega) (by omega) (by omega) (by (try simp (disch := omega) only [sr_s, sr_a, sr_sr, u1_u1]); exact rfl) ?_)
      exact Ok.ret ⟨N, rfl, hS⟩
  · rintro _ ⟨N0, rfl, f0, h2, h4⟩
    have hF0 : rfF M N0 := ⟨fun a x1 x2 x3 x4 x5 x6 x7 x8 => f0 a x6 x8, fun j _ => by rw [f0 124 (by omega) (by omega)], by rw [f0 129 (by omega) (by omega)]; exact h0.2.2.1.2⟩
    have hft0 : ftI M N0 td look 0 := ⟨hF0, fun t t0 t6 => by rw [h4 t t0 t6]; rfl, fun r' hr' => by omega⟩
    have hr0 : ∀ t, 0 ≤ t → t < 6 → N0 142 t = dgU M td ((0 : Nat) : Int) t := fun t t0 t6 => by
      rw [h2 t t0 t6]
      unfold dgU dgt
      split
      · simp
      · rfl
    unfold M_X11_fitting_w36 M_X11_fitting_p203
    refine Ok.bind (Q := fun z => ∃ N, z = ((N, G), ((fitN M td (allR M td) : Nat) : Int)) ∧ ftI M N td look (allR M td)) ?_ ?_
    · refine wh_for (fun k s => ∃ N, (s = ((N, G), ((fitN M td k : Nat) : Int), 1) ∧ k < allR M td ∧ (∀ t, 0 ≤ t → t < 6 → N 142 t = dgU M td (k : Int) t) ∨ s = ((N, G), ((fitN M td k : Nat) : Int), 0) ∧ k = allR M td) ∧ ftI M N td look k) _ (allR M td) (by omega) ⟨N0, Or.inl ⟨rfl, by omega, hr0⟩, hft0⟩ ?_ ?_
      · rintro k _ hk ⟨N, (⟨rfl, hk2, hrow⟩ | ⟨rfl, hk2⟩), hft⟩
        · have hFN := hft.1
          have hN3 : N 124 3 = rg := by rw [hFN.2.1 3 (by omega)]; exact r3
          have hpN : pr124 (N 124) := pr124.u h0.2.2.1.1 (fun j hj => hFN.2.1 j (by omega))
          unfold M_X11_fitting_b36
          dsimp only
          refine k_ifF (by decide) ?_
          refine Ok.bind (X11_startsTold_ok (M := N) (rg := rg) hG hpN hFN.2.2 hR.2.1 (by rw [hFN.hi r0]; exact hR.2.2.1) hN3 (by rw [hFN.hi r0]; omega) (by rw [hFN.hi r0]; omega) (by rw [hFN.hi (by omega)]; exact hR.2.2.2.2.2.2.1.2.2.2.2.2.1)) ?_
          rintro _ ⟨S, rfl, hS⟩
          have hFS : rfF M S := ⟨fun a x1 x2 x3 x4 x5 x6 x7 x8 => (hS.1 a x1 x2 x3 x4).trans (hFN.1 a x1 x2 x3 x4 x5 x6 x7 x8), fun j hj => (hS.2.1 j hj).trans (hFN.2.1 j hj), hS.2.2.2.2.1⟩
          have hrowS : ∀ t, 0 ≤ t → t < 6 → S 142 t = dgU M td (k : Int) t := by rw [hS.1 142 (by omega) (by omega) (by omega) (by omega)]; exact hrow
          unfold M_X11_fitting_w47
          refine Ok.bind (X11_w47_loop h0 hR hg (k := k) hFS hrowS (fun i i0 i1 => by rw [hS.2.2.2.2.2.2 i i0 i1, hFN.hi (by omega)])) ?_
          rintro _ ⟨E, rfl, fE, hE⟩
          have hFE : rfF M E := ⟨fun a x1 x2 x3 x4 x5 x6 x7 x8 => (fE a x4).trans (hFS.1 a x1 x2 x3 x4 x5 x6 x7 x8), fun j hj => by rw [fE 124 (by omega)]; exact hFS.2.1 j hj, by rw [fE 129 (by omega)]; exact hFS.2.2⟩
          -- the told world with this row's errors
          have hwE := wfW_F (uc := uk (M (td + 4)) (M 24 2).toNat) (r := (k : Int)) hwf hg hcg.2.2.2.1 (fun g g0 g1 => (hcg.2.2.2.2.1 g g0 g1).1)
          have hSok : rC E G rg (M 24 0) (M 24 1) (M 24 2) (M (td + 3)) (erF (M (td + 4)) (M (td + 6)) (M td 4) (uk (M (td + 4)) (M 24 2).toNat) (k : Int)) ∧ rSt E E (M 24 0) (M 24 1) (M 24 2) 6 (M (td + 3)) (erF (M (td + 4)) (M (td + 6)) (M td 4) (uk (M (td + 4)) (M 24 2).toNat) (k : Int)) 0 (M (td + 2)) 0 0 := by
            have hz : ∀ N', N' = sr E 132 (M 132) → rC N' G rg (M 24 0) (M 24 1) (M 24 2) (M (td + 3)) (erF (M (td + 4)) (M (td + 6)) (M td 4) (uk (M (td + 4)) (M 24 2).toNat) (k : Int)) ∧ rSt N' N' (M 24 0) (M 24 1) (M 24 2) 6 (M (td + 3)) (erF (M (td + 4)) (M (td + 6)) (M td 4) (uk (M (td + 4)) (M 24 2).toNat) (k : Int)) 0 (M (td + 2)) 0 0 := by
              intro N' hN'
              have g : ∀ a, a ≠ 132 → N' a = E a := fun a ha => by rw [hN', sr_a _ _ ha]
              refine tld_C h0 hR (fun a x1 x2 x3 x4 x6 x7 x8 => ?_) (fun j hj => ?_) ?_ ?_ ?_ ?_ ?_
              · by_cases z : a = 132
                · rw [hN', z, sr_s]
                · rw [g a z]; exact hFE.1 a x1 x2 x3 x4 z x6 x7 x8
              · rw [g 124 (by omega)]; exact hFE.2.1 j hj
              · rw [g 124 (by omega), fE 124 (by omega)]; exact hS.2.2.1
              · rw [g 129 (by omega), fE 129 (by omega)]; intro i i0 i1; rw [hS.2.2.2.1 i i0 i1, hFN.hi (by omega)]
              · rw [g 129 (by omega)]; exact hFE.2.2
              · rw [g 130 (by omega), fE 130 (by omega)]; intro t t0 t1; rw [hS.2.2.2.2.2.1 t t0 (by rw [hFN.hi r0]; exact t1), hFN.hi (by omega)]
              · rw [g 131 (by omega)]; exact hE
            obtain ⟨hC, hT⟩ := hz _ rfl
            obtain ⟨c1, c2, c3, c4, c5, c6, c7, c8⟩ := hC
            have g : ∀ a, a ≠ 132 → sr E 132 (M 132) a = E a := fun a ha => sr_a _ _ ha
            rw [g 124 (by omega)] at c2
            rw [g rg (by omega)] at c4 c5 c6
            rw [g 130 (by omega)] at c7
            rw [g 131 (by omega)] at c8
            have c3' : rB E G rg := by
              unfold rB at *
              rw [g 124 (by omega), g rg (by omega)] at c3
              exact c3
            refine ⟨⟨c1, c2, c3', c4, c5, c6, c7, c8⟩, fun _ _ _ _ => rfl, fun _ _ => rfl, ?_, ?_, ?_, fun k t hk t0 t1 => by omega⟩
            · have := hT.2.2.1; rw [g 124 (by omega)] at this; exact this
            · have := hT.2.2.2.1; rw [g 129 (by omega)] at this; exact this
            · have := hT.2.2.2.2.1; rw [g 129 (by omega)] at this; exact this
          obtain ⟨hC, hT⟩ := hSok
          -- rounds, and what was seen
          have hseen : Ok ((M_X11_latestSeen (E, G) 124).bind fun L => (M_X11_steps (E, G) 124 L).bind fun h => (M_X11_firstUnseen h 124).bind fun x => some (h, x)) (fun z => ∃ M1, z = ((M1, G), fstN (sfE M td (erF (M (td + 4)) (M (td + 6)) (M td 4) (uk (M (td + 4)) (M 24 2).toNat) (k : Int))) (M td 9).toNat 0) ∧ (∀ a, a ≠ 124 → a ≠ 129 → a ≠ 132 → M1 a = E a) ∧ (∀ k, k ≠ 26 → M1 124 k = E 124 k) ∧ ∀ i, 0 ≤ M1 129 i ∧ M1 129 i < 6) := X11_seen_ok2 h0 hR hFE hC hT (wfW6 hwE)
          unfold M_X11_fitting_p121
          refine seen_k hseen ?_
          rintro _ x ⟨F, hFx, f1, f2, f3⟩
          simp only [Prod.mk.injEq] at hFx
          obtain ⟨rfl, rfl⟩ := hFx
          have hFF : rfF M F := ⟨fun a x1 x2 x3 x4 x5 x6 x7 x8 => (f1 a x1 x2 x5).trans (hFE.1 a x1 x2 x3 x4 x5 x6 x7 x8), fun j hj => (f2 j hj).trans (hFE.2.1 j hj), f3⟩
          have e142 : F 142 = N 142 := by rw [f1 142 (by omega) (by omega) (by omega), fE 142 (by omega), hS.1 142 (by omega) (by omega) (by omega) (by omega)]
          have e143 : F 143 = N 143 := by rw [f1 143 (by omega) (by omega) (by omega), fE 143 (by omega), hS.1 143 (by omega) (by omega) (by omega) (by omega)]
          have e144 : F 144 = N 144 := by rw [f1 144 (by omega) (by omega) (by omega), fE 144 (by omega), hS.1 144 (by omega) (by omega) (by omega) (by omega)]
          have hrowF : ∀ t, 0 ≤ t → t < 6 → F 142 t = dgU M td (k : Int) t := by rw [e142]; exact hrow
          have hftF : ftI M F td look k := hft.cg hFF e143 e144
          have hfs := fitB_sf h0 hR (k : Int)
          have hvb : -2 ≤ fstN (sfE M td (erF (M (td + 4)) (M (td + 6)) (M td 4) (uk (M (td + 4)) (M 24 2).toNat) (k : Int))) (M td 9).toNat 0 ∧ fstN (sfE M td (erF (M (td + 4)) (M (td + 6)) (M td 4) (uk (M (td + 4)) (M 24 2).toNat) (k : Int))) (M td 9).toNat 0 ≤ 8 := by
            have := hR.se.2.1
            rcases first_or (g := sfE M td (erF (M (td + 4)) (M (td + 6)) (M td 4) (uk (M (td + 4)) (M 24 2).toNat) (k : Int))) (M td 9).toNat with h | ⟨j, hj, h1, h2⟩
            · rw [fstN_no _ 0 (fun k _ hk => h k (by omega))]; omega
            · rw [fstN_hit _ 0 j (by omega) (by omega) h1 (fun k _ hk => h2 k hk)]; omega
          generalize fstN (sfE M td (erF (M (td + 4)) (M (td + 6)) (M td 4) (uk (M (td + 4)) (M 24 2).toNat) (k : Int))) (M td 9).toNat 0 = V at *
          have hnext : ∀ F' : Int → Int → Int, ftI M F' td look (k + 1) → (∀ t, 0 ≤ t → t < 6 → F' 142 t = dgU M td (k : Int) t) → ∀ c : Int, c = ((fitN M td (k + 1) : Nat) : Int) → Ok (M_X11_fitting_p195 (F', G) 124 look c) (lo (fun s => ∃ N, (s = ((N, G), ((fitN M td (k + 1) : Nat) : Int), 1) ∧ k + 1 < allR M td ∧ (∀ t, 0 ≤ t → t < 6 → N 142 t = dgU M td ((k + 1 : Nat) : Int) t) ∨ s = ((N, G), ((fitN M td (k + 1) : Nat) : Int), 0) ∧ k + 1 = allR M td) ∧ ftI M N td look (k + 1)) (fun z => ∃ N, z = ((N, G), ((fitN M td (allR M td) : Nat) : Int)) ∧ ftI M N td look (allR M td))) := by
            rintro F' hft' hrow' c rfl
            unfold M_X11_fitting_p195
            refine Ok.bd (X11_nextRow_ok h0 hR hg hft'.1 (k := (k : Int)) (by omega) (by omega) hrow') ?_
            rintro _ ⟨F2, g, (⟨rfl, h1, h2⟩ | ⟨rfl, h1⟩)⟩
            · refine Ok.ret ⟨F2, Or.inl ⟨rfl, by omega, h2⟩, hft'.cg ?_ (g 143 (by omega)) (g 144 (by omega))⟩
              exact ⟨fun a x1 x2 x3 x4 x5 x6 x7 x8 => (g a x6).trans (hft'.1.1 a x1 x2 x3 x4 x5 x6 x7 x8), fun j hj => by rw [g 124 (by omega)]; exact hft'.1.2.1 j hj, by rw [g 129 (by omega)]; exact hft'.1.2.2⟩
            · refine Ok.ret ⟨F2, Or.inr ⟨rfl, by omega⟩, hft'.cg ?_ (g 143 (by omega)) (g 144 (by omega))⟩
              exact ⟨fun a x1 x2 x3 x4 x5 x6 x7 x8 => (g a x6).trans (hft'.1.1 a x1 x2 x3 x4 x5 x6 x7 x8), fun j hj => by rw [g 124 (by omega)]; exact hft'.1.2.1 j hj, by rw [g 129 (by omega)]; exact hft'.1.2.2⟩
          by_cases y : V = -2
          · have hfk := hfs.1 y
            refine k_ifT (by rw [w32_id (by omega) (by omega)]; exact y) ?_
            unfold M_X11_fitting_w141
            refine Ok.bind (X11_w141_loop h0 hg g5 hl (by omega) hrowF hfk hftF) ?_
            rintro _ ⟨F', rfl, hft', h142⟩
            unfold M_X11_fitting_p192
            refine hnext F' hft' (by rw [h142]; exact hrowF) _ ?_
            show _ = ((fitN M td k + (if fitB M td (k : Int) = true then 1 else 0) : Nat) : Int)
            rw [if_pos hfk]
            omega
          · have hfk : ¬ fitB M td (k : Int) = true := fun z => y (hfs.2 z)
            refine k_ifF (by rw [w32_id (by omega) (by omega)]; exact y) ?_
            refine hnext F ⟨hFF, fun t t0 t6 => ?_, fun r' hr' hf' => ?_⟩ hrowF _ ?_
            · rw [hftF.2.1 t t0 t6]
              congr 1
              funext d
              show _ = (ocB M td t k d || (fitB M td (k : Int) && decide (d = dgU M td (k : Int) t)))
              rw [Bool.not_eq_true] at hfk
              rw [hfk, Bool.false_and, Bool.or_false]
            · by_cases z : r' = k
              · subst z; exact absurd hf' hfk
              · exact hftF.2.2 r' (by omega) hf'
            · show _ = ((fitN M td k + (if fitB M td (k : Int) = true then 1 else 0) : Nat) : Int)
              rw [if_neg hfk]
              rfl
        · omega
      · rintro _ ⟨N, (⟨rfl, hk2, hrow⟩ | ⟨rfl, hk2⟩), hft⟩
        · omega
        · unfold M_X11_fitting_b36
          dsimp only
          exact k_ifT (by decide) (Ok.ret ⟨N, rfl, hft⟩)
    · rintro _ ⟨N, rfl, hft⟩
      exact Ok.ret ⟨N, rfl, hft⟩
end F7
