/-! strokes: the reference's laysBears -/
section HC
variable {M N N1 : Int → Int → Int} {G : GG} {rg wd hi tw mk s0 : Int} {co er ce : Int → Int} {t q u p n : Int}
/-- what laysBears may change -/
def lbF (N N1 : Int → Int → Int) : Prop := (∀ a, a ≠ 124 → a ≠ 136 → a ≠ 139 → a ≠ 140 → N1 a = N a) ∧ ∀ k, k ≠ 36 → N1 124 k = N 124 k
theorem lbF.refl : lbF N N := ⟨fun _ _ _ _ _ => rfl, fun _ _ => rfl⟩
theorem rC.lb (h : rC N G rg wd hi tw co er) (f : lbF N N1) : rC N1 G rg wd hi tw co er := by
  obtain ⟨hG, hp, hB, h0, h1, h3, hc, he⟩ := h
  have hr : N1 rg = N rg := f.1 rg (by have := hB.2.2.1; omega) (by have := hB.2.2.1; omega) (by have := hB.2.2.1; omega) (by have := hB.2.2.1; omega)
  refine ⟨hG, hp.u (fun k hk => f.2 k (by omega)), hB.cg (f.2 3 (by omega)) hr, by rw [hr]; exact h0, by rw [hr]; exact h1, by rw [hr]; exact h3, ?_, ?_⟩
  · rw [f.1 130 (by omega) (by omega) (by omega) (by omega)]; exact hc
  · rw [f.1 131 (by omega) (by omega) (by omega) (by omega)]; exact he
/-- one round back -/
theorem X11_lb_round {P : Int → Int → Prop} (hC : rC N G rg wd hi tw co er) (hf : wfW wd hi tw mk co er s0 ce) (h : hgM N wd hi tw P) {j l1 l4 : Int} : Ok (M_X11_laysBears_w50 FU (N, G) 124 l1 l4 j 0) (fun z => ∃ N1, z = .inl ((N1, G), j + 1) ∧ lbF N N1 ∧ hgM N1 wd hi tw (fun t' q' => ∃ t q, (0 ≤ t ∧ t < tw) ∧ inV wd hi q ∧ P t q ∧ hgB wd hi co er t q t' q')) := by
  have hf' := hf
  obtain ⟨a1, a2, b1, b2, x1, x6, -⟩ := hf
  have hml := mul_b a1 a2 b1 b2
  have hG := hC.1
  have k124 := gk_124 hG
  have k139 := gk_139 hG
  have l139 := gl_139 hG
  have k140 := gk_140 hG
  have l140 := gl_140 hG
  have p34 := pr124.p34 hC.2.1
  have p35 := pr124.p35 hC.2.1
  unfold M_X11_laysBears_w50
  refine Ok.bind (Q := fun h => ∃ N1, h = (N1, G) ∧ (∀ a, a ≠ 139 → a ≠ 140 → N1 a = N a) ∧ (∀ i, 0 ≤ i → i < 216 → N1 140 i = N 139 i) ∧ ∀ i, 0 ≤ i → i < 216 → N1 139 i = 0) ?_ ?_
  · refine wh_for (fun k z => ∃ N1, z = ((N1, G), (k : Int)) ∧ (∀ a, a ≠ 139 → a ≠ 140 → N1 a = N a) ∧ (∀ i, 0 ≤ i → i < (k : Int) → N1 140 i = N 139 i) ∧ (∀ i, 0 ≤ i → i < (k : Int) → N1 139 i = 0) ∧ ∀ i, (k : Int) ≤ i → N1 139 i = N 139 i) _ 216 (by omega) ⟨N, rfl, fun _ _ _ => rfl, fun i i0 i1 => by omega, fun i i0 i1 => by omega, fun _ _ => rfl⟩ ?_ ?_
    · rintro k _ hk ⟨N1, rfl, f, g0, g1, g2⟩
      have q34 : N1 124 34 = 139 := by rw [f 124 (by omega) (by omega)]; exact p34
      have q35 : N1 124 35 = 140 := by rw [f 124 (by omega) (by omega)]; exact p35
      have hv := g2 k (by omega)
      have hb := h.1 k (by omega) (by omega)
      unfold M_X11_laysBears_b50
      dsimp only
      generalize N 139 (k : Int) = x at *
      repeat' (with_reducible first | refine k_gf (by first | assumption | omega) (by first | assumption | ((try simp (disch := omega) only [sr_s, sr_a, sr_sr, u1_s, u1_k, q34, q35, hv]); exact rfl)) ?_ | refine k_gr (by first | assumption | omega) (by first | assumption | ((try simp (disch := omega) only [sr_s, sr_a, sr_sr, u1_s, u1_k, q34, q35, hv]); exact rfl)) (by omega) ?_ | refine k_ald (by first | assumption | omega) (by first | assumption | exact rfl) (by omega) (by omega) (by omega) (by first | assumption | ((try simp (disch := omega) only [sr_s, sr_a, sr_sr, u1_s, u1_k, q34, q35, hv]); exact rfl)) ?_ | refine k_aZ (by first | assumption | omega) (by first | assumption | exact rfl) (by omega) (by omega) (by omega) (by omega) (by (try simp (disch := omega) only [sr_s, sr_a, sr_sr, u1_u1, q34, q35, hv]); exact rfl) ?_ | refine k_ifT (by first | (simp (disch := omega) only [w32_id]; first | done | omega) | omega) ?_ | refine k_ifF (by first | (simp (disch := omega) only [w32_id]; first | done | omega) | omega) ?_ | refine k_pf (by first | assumption | omega) (by (try simp (disch := omega) only [sr_s, sr_a, sr_sr, u1_u1, q34, q35, hv]); exact rfl) ?_ | refine k_ast (by first | assumption | omega) (by first | assumption | exact rfl) (by omega) (by omega) (by omega) (by (try simp (disch := omega) only [sr_s, sr_a, sr_sr, u1_u1, q34, q35, hv]); exact rfl) ?_ | refine k_irm (by omega) (by omega) (by omega) (by omega) ?_ | refine k_idv (by omega) (by omega) (by omega) (by omega) ?_ | refine k_tk (by first | assumption | omega) ?_ | refine k_rp (by omega) ?_ | refine k_aldR (by first | assumption | omega) (by first | assumption | exact rfl) (by omega) (by omega) (by omega) (by first | assumption | ((try simp (disch := omega) only [sr_s, sr_a, sr_sr, u1_s, u1_k, q34, q35, hv]); exact rfl)) (by omega) ?_ | refine k_astR (by first | assumption | omega) (by first | assumption | exact rfl) (by omega) (by omega) (by omega) (by first | assumption | omega) (by (try simp (disch := omega) only [sr_s, sr_a, sr_sr, u1_u1, q34, q35, hv]); exact rfl) ?_ | refine k_pz (by first | assumption | omega) (by omega) (by (try simp (disch := omega) only [sr_s, sr_a, sr_sr, u1_u1, q34, q35, hv]); exact rfl) ?_ | refine k_alen (by first | assumption | omega) (by first | assumption | exact rfl) ?_ | refine k_cpy (by first | assumption | omega) (by first | assumption | omega) (by first | assumption | exact rfl) (by first | assumption | exact rfl) (by omega) (by omega) (by omega) (by omega) (by omega) (by omega) (by omega) (by omega) (by (try simp (disch := omega) only [sr_s, sr_a, sr_sr, u1_u1, q34, q35, hv]); exact rfl) ?_)
      refine Ok.ret ⟨_, rfl, fun a n1 n2 => by rw [sr_a _ _ n1, sr_a _ _ n2]; exact f a n1 n2, fun i i0 i1 => ?_, fun i i0 i1 => ?_, fun i i0 => ?_⟩
      · rw [sr_a _ _ (by omega), sr_s]
        by_cases y : i = (k : Int)
        · subst y; rw [u1_s, ← hv, g2 _ (by omega)]
        · rw [u1_k _ _ y]; exact g0 i i0 (by omega)
      · rw [sr_s]
        by_cases y : i = (k : Int)
        · rw [u1_e _ _ y]
        · rw [u1_k _ _ y]; exact g1 i i0 (by omega)
      · rw [sr_s, u1_k _ _ (by omega)]; exact g2 i (by omega)
    · rintro _ ⟨N1, rfl, f, g0, g1, g2⟩
      unfold M_X11_laysBears_b50
      dsimp only
      exact k_ifF (by decide) (Ok.ret ⟨N1, rfl, f, g0, g1⟩)
  · rintro _ ⟨N1, rfl, f, g0, g1⟩
    have hF1 : lbF N N1 := ⟨fun a n1 n2 n3 n4 => f a n3 n4, fun k _ => by rw [f 124 (by omega) (by omega)]⟩
    have hH1 : hgM N1 wd hi tw (fun _ _ => False) := ⟨fun i i0 i1 => Or.inl (g1 i i0 i1), fun t q t0 t1 hin => ⟨fun z => by
      have := idx_b a1 a2 b2 hin
      rw [g1 _ (by omega) (by omega)] at z
      omega, False.elim⟩⟩
    unfold M_X11_laysBears_p86 M_X11_laysBears_w89 M_X11_laysBears_p152
    -- town by town, place by place
    refine Ok.bind (Q := fun h => ∃ N2, h = (N2, G) ∧ lbF N N2 ∧ N2 140 = N1 140 ∧ hgM N2 wd hi tw (fun t' q' => ∃ t q, (0 ≤ t ∧ t < tw) ∧ inV wd hi q ∧ P t q ∧ hgB wd hi co er t q t' q')) ?_ ?_
    · refine wh_for (fun k z => ∃ N2, z = ((N2, G), (k : Int)) ∧ lbF N N2 ∧ N2 140 = N1 140 ∧ hgM N2 wd hi tw (fun t' q' => ∃ t q, (0 ≤ t ∧ t < (k : Int)) ∧ inV wd hi q ∧ P t q ∧ hgB wd hi co er t q t' q')) _ tw.toNat (by omega) ⟨N1, rfl, hF1, rfl, hH1.1, fun t q t0 t1 hin => by rw [hH1.2 t q t0 t1 hin]; exact ⟨False.elim, fun ⟨t, q, ht, _⟩ => by omega⟩⟩ ?_ ?_
      · rintro k _ hk ⟨N2, rfl, hF2, e2, hH2⟩
        have hC2 := hC.lb hF2
        have r3 := hC2.2.2.1.2.1
        have r0 := hC2.2.2.1.2.2.1
        have kr := hC2.2.2.1.2.2.2.1
        have e33 := hC2.2.2.2.2.2.1
        unfold M_X11_laysBears_b89 M_X11_laysBears_w104 M_X11_laysBears_p146
        dsimp only
        refine k_gr k124 r3 (by omega) (k_gf kr e33 (k_ifT (by rw [w32_id (by omega) (by omega), w32_id (by omega) (by omega)]; omega) ?_))
        refine Ok.bind (Q := fun h => ∃ N3, h = (N3, G) ∧ lbF N N3 ∧ N3 140 = N1 140 ∧ hgM N3 wd hi tw (fun t' q' => ∃ t q, (0 ≤ t ∧ t < (k : Int) + 1) ∧ inV wd hi q ∧ P t q ∧ hgB wd hi co er t q t' q')) ?_ ?_
        · refine wh_for (fun i z => ∃ N3, z = ((N3, G), (i : Int)) ∧ lbF N N3 ∧ N3 140 = N1 140 ∧ hgM N3 wd hi tw (fun t' q' => ∃ t q, (0 ≤ t ∧ (t < (k : Int) ∨ t = k ∧ idx wd q < (i : Int))) ∧ inV wd hi q ∧ P t q ∧ hgB wd hi co er t q t' q')) _ (wd * hi).toNat (by omega) ⟨N2, rfl, hF2, e2, hH2.1, fun t q t0 t1 hin => by
            rw [hH2.2 t q t0 t1 hin]
            constructor
            · rintro ⟨t, q, ht, z⟩
              exact ⟨t, q, ⟨ht.1, Or.inl ht.2⟩, z⟩
            · rintro ⟨t, q, ht, hq, z⟩
              have := idx_b a1 a2 b2 hq
              exact ⟨t, q, by omega, hq, z⟩⟩ ?_ ?_
          · rintro i _ hi3 ⟨N3, rfl, hF3, e3, hH3⟩
            have hC3 := hC.lb hF3
            have r3' := hC3.2.2.1.2.1
            have hal := X10_all_ok hC3.2.2.1
            rw [hC3.2.2.2.1, hC3.2.2.2.2.1] at hal
            have q35 : N3 124 35 = 140 := pr124.p35 hC3.2.1
            have hin := inn_in a1 a2 b1 b2 (q := (i : Int)) (by omega) (by omega)
            have hix := idx_inn (wd := wd) a1 a2 (q := (i : Int)) (by omega)
            have hv : N3 140 (36 * (k : Int) + i) = N 139 (36 * k + i) := by rw [e3]; exact g0 _ (by omega) (by omega)
            have hb := h.1 (36 * (k : Int) + i) (by omega) (by omega)
            have hP := h.2 k (inn wd i) (by omega) (by omega) hin
            rw [hix] at hP
            have hstep : ∀ (Q : Int → Int → Prop), (∀ t' q', Q t' q' ↔ (∃ t q, (0 ≤ t ∧ (t < (k : Int) ∨ t = k ∧ idx wd q < (i : Int))) ∧ inV wd hi q ∧ P t q ∧ hgB wd hi co er t q t' q') ∨ P k (inn wd i) ∧ hgB wd hi co er k (inn wd i) t' q') → ∀ t' q', Q t' q' ↔ ∃ t q, (0 ≤ t ∧ (t < (k : Int) ∨ t = k ∧ idx wd q < ((i + 1 : Nat) : Int))) ∧ inV wd hi q ∧ P t q ∧ hgB wd hi co er t q t' q' := fun Q hQ t' q' => by
              rw [hQ]
              constructor
              · rintro (⟨t, q, ht, z⟩ | ⟨z1, z2⟩)
                · exact ⟨t, q, by omega, z⟩
                · exact ⟨k, inn wd i, ⟨by omega, Or.inr ⟨rfl, by omega⟩⟩, hin, z1, z2⟩
              · rintro ⟨t, q, ⟨ht0, ht⟩, hq, z1, z2⟩
                by_cases w : t = (k : Int) ∧ idx wd q = (i : Int)
                · obtain ⟨rfl, w2⟩ := w
                  have : q = inn wd i := by rw [← inn_idx a1 a2 hq, w2]
                  subst this
                  exact Or.inr ⟨z1, z2⟩
                · exact Or.inl ⟨t, q, ⟨ht0, by omega⟩, hq, z1, z2⟩
            unfold M_X11_laysBears_b104 M_X11_laysBears_p140
            dsimp only
            refine k_gr k124 r3' (by omega) (k_eq hal (k_ifT (by rw [w32_id (by omega) (by omega), w32_id (by omega) (by omega)]; omega) ?_))
            refine k_gr k124 q35 (by omega) (k_ald k140 l140 (by omega) (by omega) (by omega) hv ?_)
            by_cases y : N 139 (36 * (k : Int) + i) = 1
            · refine k_ifF (by rw [y]; decide) ?_
              have hh := X11_hangsBy_ok (t := (k : Int)) (q := inn wd i) hC3 hf' (by omega) (by omega) hin hH3
              rw [hix] at hh
              refine Ok.bind hh ?_
              rintro _ ⟨N4, rfl, f4, hH4⟩
              refine Ok.ret ⟨N4, rfl, ⟨fun a n1 n2 n3 n4 => (f4 a n3).trans (hF3.1 a n1 n2 n3 n4), fun j hj => by rw [f4 124 (by omega)]; exact hF3.2 j hj⟩, by rw [f4 140 (by omega)]; exact e3, hH4.1, fun t' q' t0' t1' hin' => ?_⟩
              rw [hH4.2 t' q' t0' t1' hin']
              exact hstep (fun t' q' => (∃ t q, (0 ≤ t ∧ (t < (k : Int) ∨ t = k ∧ idx wd q < (i : Int))) ∧ inV wd hi q ∧ P t q ∧ hgB wd hi co er t q t' q') ∨ hgB wd hi co er k (inn wd i) t' q') (fun t' q' => ⟨fun z => z.elim Or.inl (fun w => Or.inr ⟨hP.1 y, w⟩), fun z => z.elim Or.inl (fun w => Or.inr w.2)⟩) t' q'
            · have hb0 : N 139 (36 * (k : Int) + i) = 0 := by omega
              refine k_ifT (by rw [hb0]; decide) ?_
              refine Ok.ret ⟨N3, rfl, hF3, e3, hH3.1, fun t' q' t0' t1' hin' => ?_⟩
              rw [hH3.2 t' q' t0' t1' hin']
              exact hstep (fun t' q' => ∃ t q, (0 ≤ t ∧ (t < (k : Int) ∨ t = k ∧ idx wd q < (i : Int))) ∧ inV wd hi q ∧ P t q ∧ hgB wd hi co er t q t' q') (fun t' q' => ⟨Or.inl, fun z => z.resolve_right (fun w => y (hP.2 w.1))⟩) t' q'
          · rintro _ ⟨N3, rfl, hF3, e3, hH3⟩
            have hC3 := hC.lb hF3
            have r3' := hC3.2.2.1.2.1
            have hal := X10_all_ok hC3.2.2.1
            rw [hC3.2.2.2.1, hC3.2.2.2.2.1] at hal
            unfold M_X11_laysBears_b104
            dsimp only
            refine k_gr k124 r3' (by omega) (k_eq hal (k_ifF (by rw [w32_id (by omega) (by omega), w32_id (by omega) (by omega)]; omega) ?_))
            refine Ok.ret ⟨N3, rfl, hF3, e3, hH3.1, fun t' q' t0' t1' hin' => ?_⟩
            rw [hH3.2 t' q' t0' t1' hin']
            constructor
            · rintro ⟨t, q, ht, z⟩
              exact ⟨t, q, by omega, z⟩
            · rintro ⟨t, q, ht, hq, z⟩
              have := idx_b a1 a2 b2 hq
              exact ⟨t, q, by omega, hq, z⟩
        · rintro _ ⟨N3, rfl, hF3, e3, hH3⟩
          exact Ok.ret ⟨N3, rfl, hF3, e3, hH3⟩
      · rintro _ ⟨N2, rfl, hF2, e2, hH2⟩
        have hC2 := hC.lb hF2
        have r3 := hC2.2.2.1.2.1
        have r0 := hC2.2.2.1.2.2.1
        have kr := hC2.2.2.1.2.2.2.1
        have e33 := hC2.2.2.2.2.2.1
        unfold M_X11_laysBears_b89
        dsimp only
        refine k_gr k124 r3 (by omega) (k_gf kr e33 (k_ifF (by rw [w32_id (by omega) (by omega), w32_id (by omega) (by omega)]; omega) ?_))
        rw [show ((tw.toNat : Nat) : Int) = tw by omega] at hH2
        exact Ok.ret ⟨N2, rfl, hF2, e2, hH2⟩
    · rintro _ ⟨N2, rfl, hF2, -, hH2⟩
      exact Ok.ret ⟨N2, rfl, hF2, hH2⟩
theorem lbF.trans {N2 : Int → Int → Int} (h : lbF N N1) (h2 : lbF N1 N2) : lbF N N2 := ⟨fun a n1 n2 n3 n4 => (h2.1 a n1 n2 n3 n4).trans (h.1 a n1 n2 n3 n4), fun k hk => (h2.2 k hk).trans (h.2 k hk)⟩
theorem X11_laysBears_ok (hC : rC N G rg wd hi tw co er) (hf : wfW wd hi tw mk co er s0 ce) (t0 : 0 ≤ t) (t1 : t < tw) (u0 : 0 ≤ u) (u1' : u < tw) (hp : inV wd hi p) (n0 : 0 ≤ n) (n1 : n ≤ 60) : Ok (M_X11_laysBears (N, G) 124 t u (idx wd p) n) (fun h => ∃ N1 L, h = (N1, G) ∧ lbF N N1 ∧ N1 124 36 = L ∧ lsI (fun q => inV wd hi q ∧ HG wd hi co er u p n.toNat t q) (fun i => inn wd (N1 136 i)) L 36 ∧ ∀ i, 0 ≤ i → i < L → 0 ≤ N1 136 i ∧ N1 136 i < wd * hi) := by
  have hf' := hf
  obtain ⟨a1, a2, b1, b2, x1, x6, -⟩ := hf
  have hml := mul_b a1 a2 b1 b2
  have hpx := idx_b a1 a2 b2 hp
  have hG := hC.1
  have k124 := gk_124 hG
  have k136 := gk_136 hG
  have l136 := gl_136 hG
  have k139 := gk_139 hG
  have l139 := gl_139 hG
  have p34 := pr124.p34 hC.2.1
  unfold M_X11_laysBears M_X11_laysBears_w3
  refine k_tk k124 ?_
  refine Ok.bind (Q := fun h => ∃ N1, h = (N1, G) ∧ (∀ a, a ≠ 139 → N1 a = N a) ∧ ∀ i, 0 ≤ i → i < 216 → N1 139 i = 0) ?_ ?_
  · refine wh_for (fun k z => ∃ N1, z = ((N1, G), (k : Int)) ∧ (∀ a, a ≠ 139 → N1 a = N a) ∧ ∀ i, 0 ≤ i → i < (k : Int) → N1 139 i = 0) _ 216 (by omega) ⟨N, rfl, fun _ _ => rfl, fun i i0 i1 => by omega⟩ ?_ ?_
    · rintro k _ hk ⟨N1, rfl, f, g⟩
      have q34 : N1 124 34 = 139 := by rw [f 124 (by omega)]; exact p34
      unfold M_X11_laysBears_b3
      dsimp only
      repeat' (with_reducible first | refine k_gf (by first | assumption | omega) (by first | assumption | ((try simp (disch := omega) only [sr_s, sr_a, sr_sr, u1_s, u1_k, q34]); exact rfl)) ?_ | refine k_gr (by first | assumption | omega) (by first | assumption | ((try simp (disch := omega) only [sr_s, sr_a, sr_sr, u1_s, u1_k, q34]); exact rfl)) (by omega) ?_ | refine k_ald (by first | assumption | omega) (by first | assumption | exact rfl) (by omega) (by omega) (by omega) (by first | assumption | ((try simp (disch := omega) only [sr_s, sr_a, sr_sr, u1_s, u1_k, q34]); exact rfl)) ?_ | refine k_aZ (by first | assumption | omega) (by first | assumption | exact rfl) (by omega) (by omega) (by omega) (by omega) (by (try simp (disch := omega) only [sr_s, sr_a, sr_sr, u1_u1, q34]); exact rfl) ?_ | refine k_ifT (by first | (simp (disch := omega) only [w32_id]; first | done | omega) | omega) ?_ | refine k_ifF (by first | (simp (disch := omega) only [w32_id]; first | done | omega) | omega) ?_ | refine k_pf (by first | assumption | omega) (by (try simp (disch := omega) only [sr_s, sr_a, sr_sr, u1_u1, q34]); exact rfl) ?_ | refine k_ast (by first | assumption | omega) (by first | assumption | exact rfl) (by omega) (by omega) (by omega) (by (try simp (disch := omega) only [sr_s, sr_a, sr_sr, u1_u1, q34]); exact rfl) ?_ | refine k_irm (by omega) (by omega) (by omega) (by omega) ?_ | refine k_idv (by omega) (by omega) (by omega) (by omega) ?_ | refine k_tk (by first | assumption | omega) ?_ | refine k_rp (by omega) ?_ | refine k_aldR (by first | assumption | omega) (by first | assumption | exact rfl) (by omega) (by omega) (by omega) (by first | assumption | ((try simp (disch := omega) only [sr_s, sr_a, sr_sr, u1_s, u1_k, q34]); exact rfl)) (by omega) ?_ | refine k_astR (by first | assumption | omega) (by first | assumption | exact rfl) (by omega) (by omega) (by omega) (by first | assumption | omega) (by (try simp (disch := omega) only [sr_s, sr_a, sr_sr, u1_u1, q34]); exact rfl) ?_ | refine k_pz (by first | assumption | omega) (by omega) (by (try simp (disch := omega) only [sr_s, sr_a, sr_sr, u1_u1, q34]); exact rfl) ?_ | refine k_alen (by first | assumption | omega) (by first | assumption | exact rfl) ?_ | refine k_cpy (by first | assumption | omega) (by first | assumption | omega) (by first | assumption | exact rfl) (by first | assumption | exact rfl) (by omega) (by omega) (by omega) (by omega) (by omega) (by omega) (by omega) (by omega) (by (try simp (disch := omega) only [sr_s, sr_a, sr_sr, u1_u1, q34]); exact rfl) ?_)
      refine Ok.ret ⟨_, rfl, fun a ha => by rw [sr_a _ _ ha]; exact f a ha, fun i i0 i1 => ?_⟩
      rw [sr_s]
      by_cases y : i = (k : Int)
      · rw [u1_e _ _ y]
      · rw [u1_k _ _ y]; exact g i i0 (by omega)
    · rintro _ ⟨N1, rfl, f, g⟩
      unfold M_X11_laysBears_b3
      dsimp only
      exact k_ifF (by decide) (Ok.ret ⟨N1, rfl, f, g⟩)
  · rintro _ ⟨N1, rfl, f, g⟩
    have q34 : N1 124 34 = 139 := by rw [f 124 (by omega)]; exact p34
    unfold M_X11_laysBears_p25
    repeat' (with_reducible first | refine k_gf (by first | assumption | omega) (by first | assumption | ((try simp (disch := omega) only [sr_s, sr_a, sr_sr, u1_s, u1_k, q34]); exact rfl)) ?_ | refine k_gr (by first | assumption | omega) (by first | assumption | ((try simp (disch := omega) only [sr_s, sr_a, sr_sr, u1_s, u1_k, q34]); exact rfl)) (by omega) ?_ | refine k_ald (by first | assumption | omega) (by first | assumption | exact rfl) (by omega) (by omega) (by omega) (by first | assumption | ((try simp (disch := omega) only [sr_s, sr_a, sr_sr, u1_s, u1_k, q34]); exact rfl)) ?_ | refine k_aZ (by first | assumption | omega) (by first | assumption | exact rfl) (by omega) (by omega) (by omega) (by omega) (by (try simp (disch := omega) only [sr_s, sr_a, sr_sr, u1_u1, q34]); exact rfl) ?_ | refine k_ifT (by first | (simp (disch := omega) only [w32_id]; first | done | omega) | omega) ?_ | refine k_ifF (by first | (simp (disch := omega) only [w32_id]; first | done | omega) | omega) ?_ | refine k_pf (by first | assumption | omega) (by (try simp (disch := omega) only [sr_s, sr_a, sr_sr, u1_u1, q34]); exact rfl) ?_ | refine k_ast (by first | assumption | omega) (by first | assumption | exact rfl) (by omega) (by omega) (by omega) (by (try simp (disch := omega) only [sr_s, sr_a, sr_sr, u1_u1, q34]); exact rfl) ?_ | refine k_irm (by omega) (by omega) (by omega) (by omega) ?_ | refine k_idv (by omega) (by omega) (by omega) (by omega) ?_ | refine k_tk (by first | assumption | omega) ?_ | refine k_rp (by omega) ?_ | refine k_aldR (by first | assumption | omega) (by first | assumption | exact rfl) (by omega) (by omega) (by omega) (by first | assumption | ((try simp (disch := omega) only [sr_s, sr_a, sr_sr, u1_s, u1_k, q34]); exact rfl)) (by omega) ?_ | refine k_astR (by first | assumption | omega) (by first | assumption | exact rfl) (by omega) (by omega) (by omega) (by first | assumption | omega) (by (try simp (disch := omega) only [sr_s, sr_a, sr_sr, u1_u1, q34]); exact rfl) ?_ | refine k_pz (by first | assumption | omega) (by omega) (by (try simp (disch := omega) only [sr_s, sr_a, sr_sr, u1_u1, q34]); exact rfl) ?_ | refine k_alen (by first | assumption | omega) (by first | assumption | exact rfl) ?_ | refine k_cpy (by first | assumption | omega) (by first | assumption | omega) (by first | assumption | exact rfl) (by first | assumption | exact rfl) (by omega) (by omega) (by omega) (by omega) (by omega) (by omega) (by omega) (by omega) (by (try simp (disch := omega) only [sr_s, sr_a, sr_sr, u1_u1, q34]); exact rfl) ?_)
    generalize hNN : sr N1 139 (u1 (N1 139) (36 * u + idx wd p) 1) = N2
    have hF2 : lbF N N2 := ⟨fun a m1 m2 m3 m4 => by rw [← hNN, sr_a _ _ m3]; exact f a m3, fun k _ => by rw [← hNN, sr_a _ _ (by omega), f 124 (by omega)]⟩
    have hH2 : hgM N2 wd hi tw (HG wd hi co er u p 0) := by
      have h1 : hgM N1 wd hi tw (fun _ _ => False) := ⟨fun i i0 i1 => Or.inl (g i i0 i1), fun t q t0 t1 hin => ⟨fun z => by
        have := idx_b a1 a2 b2 hin
        rw [g _ (by omega) (by omega)] at z
        omega, False.elim⟩⟩
      have h2 := hgM_up (t' := u) (q' := p) (N1 := N2) a1 a2 b1 b2 h1 hp (by rw [← hNN, sr_s])
      exact ⟨h2.1, fun t q t0 t1 hin => by rw [h2.2 t q t0 t1 hin]; exact ⟨fun z => z.elim False.elim id, Or.inr⟩⟩
    clear hNN
    unfold M_X11_laysBears_w40
    refine Ok.bind (Q := fun h => ∃ N3, h = (N3, G) ∧ lbF N N3 ∧ hgM N3 wd hi tw (HG wd hi co er u p n.toNat)) ?_ ?_
    · refine wh_for (fun k z => ∃ N3, z = ((N3, G), (k : Int)) ∧ lbF N N3 ∧ hgM N3 wd hi tw (HG wd hi co er u p k)) _ n.toNat (by omega) ⟨N2, rfl, hF2, hH2⟩ ?_ ?_
      · rintro k _ hk ⟨N3, rfl, hF3, hH3⟩
        unfold M_X11_laysBears_b40
        dsimp only
        refine k_ifT (by rw [w32_id (by omega) (by omega), w32_id (by omega) (by omega)]; omega) ?_
        refine (X11_lb_round (hC.lb hF3) hf' hH3).mono ?_
        rintro _ ⟨N4, rfl, hF4, hH4⟩
        refine ⟨N4, rfl, hF3.trans hF4, hH4.1, fun t' q' t0' t1' hin' => ?_⟩
        rw [hH4.2 t' q' t0' t1' hin']
        constructor
        · rintro ⟨t, q, -, -, z1, z2⟩
          exact ⟨t, q, z1, z2⟩
        · rintro ⟨t, q, z1, z2⟩
          have := HG_in hf' u0 u1' hp k t q z1
          exact ⟨t, q, this.1, this.2, z1, z2⟩
      · rintro _ ⟨N3, rfl, hF3, hH3⟩
        unfold M_X11_laysBears_b40
        dsimp only
        exact k_ifF (by rw [w32_id (by omega) (by omega), w32_id (by omega) (by omega)]; omega) (Ok.ret ⟨N3, rfl, hF3, hH3⟩)
    · rintro _ ⟨N3, rfl, hF3, hH3⟩
      unfold M_X11_laysBears_p158
      repeat' (with_reducible first | refine k_gf (by first | assumption | omega) (by first | assumption | ((try simp (disch := omega) only [sr_s, sr_a, sr_sr, u1_s, u1_k]); exact rfl)) ?_ | refine k_gr (by first | assumption | omega) (by first | assumption | ((try simp (disch := omega) only [sr_s, sr_a, sr_sr, u1_s, u1_k]); exact rfl)) (by omega) ?_ | refine k_ald (by first | assumption | omega) (by first | assumption | exact rfl) (by omega) (by omega) (by omega) (by first | assumption | ((try simp (disch := omega) only [sr_s, sr_a, sr_sr, u1_s, u1_k]); exact rfl)) ?_ | refine k_aZ (by first | assumption | omega) (by first | assumption | exact rfl) (by omega) (by omega) (by omega) (by omega) (by (try simp (disch := omega) only [sr_s, sr_a, sr_sr, u1_u1]); exact rfl) ?_ | refine k_ifT (by first | (simp (disch := omega) only [w32_id]; first | done | omega) | omega) ?_ | refine k_ifF (by first | (simp (disch := omega) only [w32_id]; first | done | omega) | omega) ?_ | refine k_pf (by first | assumption | omega) (by (try simp (disch := omega) only [sr_s, sr_a, sr_sr, u1_u1]); exact rfl) ?_ | refine k_ast (by first | assumption | omega) (by first | assumption | exact rfl) (by omega) (by omega) (by omega) (by (try simp (disch := omega) only [sr_s, sr_a, sr_sr, u1_u1]); exact rfl) ?_ | refine k_irm (by omega) (by omega) (by omega) (by omega) ?_ | refine k_idv (by omega) (by omega) (by omega) (by omega) ?_ | refine k_tk (by first | assumption | omega) ?_ | refine k_rp (by omega) ?_ | refine k_aldR (by first | assumption | omega) (by first | assumption | exact rfl) (by omega) (by omega) (by omega) (by first | assumption | ((try simp (disch := omega) only [sr_s, sr_a, sr_sr, u1_s, u1_k]); exact rfl)) (by omega) ?_ | refine k_astR (by first | assumption | omega) (by first | assumption | exact rfl) (by omega) (by omega) (by omega) (by first | assumption | omega) (by (try simp (disch := omega) only [sr_s, sr_a, sr_sr, u1_u1]); exact rfl) ?_ | refine k_pz (by first | assumption | omega) (by omega) (by (try simp (disch := omega) only [sr_s, sr_a, sr_sr, u1_u1]); exact rfl) ?_ | refine k_alen (by first | assumption | omega) (by first | assumption | exact rfl) ?_ | refine k_cpy (by first | assumption | omega) (by first | assumption | omega) (by first | assumption | exact rfl) (by first | assumption | exact rfl) (by omega) (by omega) (by omega) (by omega) (by omega) (by omega) (by omega) (by omega) (by (try simp (disch := omega) only [sr_s, sr_a, sr_sr, u1_u1]); exact rfl) ?_)
      generalize hN4 : sr N3 124 (u1 (N3 124) 36 0) = N4
      have hF4 : lbF N3 N4 := ⟨fun a m1 m2 m3 m4 => by rw [← hN4, sr_a _ _ m1], fun k hk => by rw [← hN4, sr_s, u1_k _ _ hk]⟩
      have h36 : N4 124 36 = 0 := by rw [← hN4, sr_s, u1_s]
      have h139 : N4 139 = N3 139 := by rw [← hN4, sr_a _ _ (by omega)]
      clear hN4
      unfold M_X11_laysBears_w166 M_X11_laysBears_p256
      refine Ok.bind (Q := fun h => ∃ N5 L, h = (N5, G) ∧ lbF N N5 ∧ N5 124 36 = L ∧ lsI (fun q => inV wd hi q ∧ HG wd hi co er u p n.toNat t q) (fun i => inn wd (N5 136 i)) L 36 ∧ ∀ i, 0 ≤ i → i < L → 0 ≤ N5 136 i ∧ N5 136 i < wd * hi) ?_ (fun x hx => Ok.ret hx)
      have skip : ∀ (op : Int → Int) (L c : Int), 0 ≤ c → c < 6 → ∀ d : Nat, hi + d ≤ 6 → lsI (fun q => inV wd hi q ∧ HG wd hi co er u p n.toNat t q) op L (6 * c + hi) → lsI (fun q => inV wd hi q ∧ HG wd hi co er u p n.toNat t q) op L (6 * c + hi + d) := by
        intro op L c c0 c6 d
        induction d with
        | zero => intro _ h; rw [show 6 * c + hi + ((0 : Nat) : Int) = 6 * c + hi by omega]; exact h
        | succ d ih =>
          intro hd h
          have := lsI_no (p := 6 * (hi + d) + c) (ih (by omega) h) (by omega) (by omega) (by unfold kap; omega) (fun z => by have := z.1; unfold inV at this; omega)
          rw [show 6 * c + hi + ((d + 1 : Nat) : Int) = 6 * c + hi + d + 1 by omega]
          exact this
      have skip2 : ∀ (op : Int → Int) (L : Int), ∀ d : Nat, 6 * wd + d ≤ 36 → lsI (fun q => inV wd hi q ∧ HG wd hi co er u p n.toNat t q) op L (6 * wd) → lsI (fun q => inV wd hi q ∧ HG wd hi co er u p n.toNat t q) op L (6 * wd + d) := by
        intro op L d
        induction d with
        | zero => intro _ h; rw [show 6 * wd + ((0 : Nat) : Int) = 6 * wd by omega]; exact h
        | succ d ih =>
          intro hd h
          obtain ⟨c, r, hK, r0, r6, c0, c6⟩ : ∃ c r : Int, 6 * wd + d = 6 * c + r ∧ 0 ≤ r ∧ r < 6 ∧ wd ≤ c ∧ c < 6 := ⟨(6 * wd + d) / 6, (6 * wd + d) % 6, by omega, by omega, by omega, by omega, by omega⟩
          have := lsI_no (p := 6 * r + c) (ih (by omega) h) (by omega) (by omega) (by unfold kap; omega) (fun z => by have := z.1; unfold inV at this; omega)
          rw [show 6 * wd + ((d + 1 : Nat) : Int) = 6 * wd + d + 1 by omega]
          exact this
      refine wh_for (fun c z => ∃ N5 L, z = ((N5, G), (c : Int)) ∧ lbF N N5 ∧ N5 139 = N3 139 ∧ N5 124 36 = L ∧ lsI (fun q => inV wd hi q ∧ HG wd hi co er u p n.toNat t q) (fun i => inn wd (N5 136 i)) L (6 * (c : Int)) ∧ ∀ i, 0 ≤ i → i < L → 0 ≤ N5 136 i ∧ N5 136 i < wd * hi) _ wd.toNat (by omega) ⟨N4, 0, rfl, hF3.trans hF4, h139, h36, lsI_0 _ _, fun i i0 i1 => by omega⟩ ?_ ?_
      · rintro c _ hc ⟨N5, L, rfl, hF5, e139, e36, hL, hLb⟩
        have hC5 := hC.lb hF5
        have r3 := hC5.2.2.1.2.1
        have r0 := hC5.2.2.1.2.2.1
        have kr := hC5.2.2.1.2.2.2.1
        have e50 := hC5.2.2.2.1
        unfold M_X11_laysBears_b166 M_X11_laysBears_w181 M_X11_laysBears_p250
        dsimp only
        refine k_gr k124 r3 (by omega) (k_gf kr e50 (k_ifT (by rw [w32_id (by omega) (by omega), w32_id (by omega) (by omega)]; omega) ?_))
        refine Ok.bind (Q := fun h => ∃ N6 L, h = (N6, G) ∧ lbF N N6 ∧ N6 139 = N3 139 ∧ N6 124 36 = L ∧ lsI (fun q => inV wd hi q ∧ HG wd hi co er u p n.toNat t q) (fun i => inn wd (N6 136 i)) L (6 * (c : Int) + hi) ∧ ∀ i, 0 ≤ i → i < L → 0 ≤ N6 136 i ∧ N6 136 i < wd * hi) ?_ ?_
        · refine wh_for (fun i z => ∃ N6 L, z = ((N6, G), (i : Int)) ∧ lbF N N6 ∧ N6 139 = N3 139 ∧ N6 124 36 = L ∧ lsI (fun q => inV wd hi q ∧ HG wd hi co er u p n.toNat t q) (fun i => inn wd (N6 136 i)) L (6 * (c : Int) + i) ∧ ∀ i, 0 ≤ i → i < L → 0 ≤ N6 136 i ∧ N6 136 i < wd * hi) _ hi.toNat (by omega) ⟨N5, L, rfl, hF5, e139, e36, by rw [show 6 * (c : Int) + ((0 : Nat) : Int) = 6 * c by omega]; exact hL, hLb⟩ ?_ ?_
          · rintro i _ hi6 ⟨N6, L6, rfl, hF6, e139', e36', hL6, hLb6⟩
            have hC6 := hC.lb hF6
            have r3' := hC6.2.2.1.2.1
            have e61 := hC6.2.2.2.2.1
            have hin : inV wd hi (6 * (i : Int) + c) := by unfold inV; omega
            have hix := idx_b a1 a2 b2 hin
            have hat := X11_at_ok (c := (c : Int)) (r := (i : Int)) hC6.2.2.1
            have hidx : idx wd (6 * (i : Int) + c) = i * wd + c := idx_mk (by omega) (by omega)
            rw [hC6.2.2.2.1, ← hidx] at hat
            have m34 : N6 124 34 = 139 := pr124.p34 hC6.2.1
            have m31 : N6 124 31 = 136 := pr124.p31 hC6.2.1
            have hv := hH3.2 t (6 * (i : Int) + c) t0 t1 hin
            have hb := hH3.1 (36 * t + idx wd (6 * (i : Int) + c)) (by omega) (by omega)
            rw [← e139'] at hv hb
            have hkap : kap (6 * (i : Int) + c) = 6 * (c : Int) + i := by unfold kap; omega
            have hL0 := hL6.1
            have hL36 := hL6.2.1
            have hii := inn_idx a1 a2 hin
            unfold M_X11_laysBears_b181 M_X11_laysBears_p244
            dsimp only
            refine k_gr k124 r3' (by omega) (k_gf kr e61 (k_ifT (by rw [w32_id (by omega) (by omega), w32_id (by omega) (by omega)]; omega) ?_))
            generalize hX : idx wd (6 * (i : Int) + c) = X at *
            by_cases y : N6 139 (36 * t + X) = 1
            · repeat' (with_reducible first | refine k_gf (by first | assumption | omega) (by first | assumption | ((try simp (disch := omega) only [sr_s, sr_a, sr_sr, u1_s, u1_k, m34, m31, e36', y]); exact rfl)) ?_ | refine k_gr (by first | assumption | omega) (by first | assumption | ((try simp (disch := omega) only [sr_s, sr_a, sr_sr, u1_s, u1_k, m34, m31, e36', y]); exact rfl)) (by omega) ?_ | refine k_ald (by first | assumption | omega) (by first | assumption | exact rfl) (by omega) (by omega) (by omega) (by first | assumption | ((try simp (disch := omega) only [sr_s, sr_a, sr_sr, u1_s, u1_k, m34, m31, e36', y]); exact rfl)) ?_ | refine k_aZ (by first | assumption | omega) (by first | assumption | exact rfl) (by omega) (by omega) (by omega) (by omega) (by (try simp (disch := omega) only [sr_s, sr_a, sr_sr, u1_u1, m34, m31, e36', y]); exact rfl) ?_ | refine k_eq (hat) ?_ | refine k_ifT (by first | (simp (disch := omega) only [w32_id]; first | done | omega) | omega) ?_ | refine k_ifF (by first | (simp (disch := omega) only [w32_id]; first | done | omega) | omega) ?_ | refine k_pf (by first | assumption | omega) (by (try simp (disch := omega) only [sr_s, sr_a, sr_sr, u1_u1, m34, m31, e36', y]); exact rfl) ?_ | refine k_ast (by first | assumption | omega) (by first | assumption | exact rfl) (by omega) (by omega) (by omega) (by (try simp (disch := omega) only [sr_s, sr_a, sr_sr, u1_u1, m34, m31, e36', y]); exact rfl) ?_ | refine k_irm (by omega) (by omega) (by omega) (by omega) ?_ | refine k_idv (by omega) (by omega) (by omega) (by omega) ?_ | refine k_tk (by first | assumption | omega) ?_ | refine k_rp (by omega) ?_ | refine k_aldR (by first | assumption | omega) (by first | assumption | exact rfl) (by omega) (by omega) (by omega) (by first | assumption | ((try simp (disch := omega) only [sr_s, sr_a, sr_sr, u1_s, u1_k, m34, m31, e36', y]); exact rfl)) (by omega) ?_ | refine k_astR (by first | assumption | omega) (by first | assumption | exact rfl) (by omega) (by omega) (by omega) (by first | assumption | omega) (by (try simp (disch := omega) only [sr_s, sr_a, sr_sr, u1_u1, m34, m31, e36', y]); exact rfl) ?_ | refine k_pz (by first | assumption | omega) (by omega) (by (try simp (disch := omega) only [sr_s, sr_a, sr_sr, u1_u1, m34, m31, e36', y]); exact rfl) ?_ | refine k_alen (by first | assumption | omega) (by first | assumption | exact rfl) ?_ | refine k_cpy (by first | assumption | omega) (by first | assumption | omega) (by first | assumption | exact rfl) (by first | assumption | exact rfl) (by omega) (by omega) (by omega) (by omega) (by omega) (by omega) (by omega) (by omega) (by (try simp (disch := omega) only [sr_s, sr_a, sr_sr, u1_u1, m34, m31, e36', y]); exact rfl) ?_)
              refine Ok.ret ⟨_, L6 + 1, rfl, ⟨fun a m1 m2 m3 m4 => by rw [sr_a _ _ m1, sr_a _ _ m2]; exact hF6.1 a m1 m2 m3 m4, fun k hk => by rw [sr_s, u1_k _ _ hk]; exact hF6.2 k hk⟩, by rw [sr_a _ _ (by omega), sr_a _ _ (by omega)]; exact e139', by rw [sr_s, u1_s], ?_, fun j j0 j1 => ?_⟩
              · have h1 := lsI_up hL6 (p := 6 * (i : Int) + c) (by omega) (by omega) hkap ⟨hin, hv.1 y⟩
                rw [show 6 * (c : Int) + ((i + 1 : Nat) : Int) = 6 * c + i + 1 by omega]
                refine lsI_cg h1 (fun j j0 j1 => ?_)
                rw [sr_a _ _ (by omega), sr_s]
                by_cases w : j = L6
                · rw [u1_e _ _ w, u1_e _ _ w, hii]
                · rw [u1_k _ _ w, u1_k _ _ w]
              · rw [sr_a _ _ (by omega), sr_s]
                by_cases w : j = L6
                · rw [u1_e _ _ w]; exact hix
                · rw [u1_k _ _ w]; exact hLb6 j j0 (by omega)
            · have y0 : N6 139 (36 * t + X) = 0 := by omega
              repeat' (with_reducible first | refine k_gf (by first | assumption | omega) (by first | assumption | ((try simp (disch := omega) only [sr_s, sr_a, sr_sr, u1_s, u1_k, m34, m31, e36', y0]); exact rfl)) ?_ | refine k_gr (by first | assumption | omega) (by first | assumption | ((try simp (disch := omega) only [sr_s, sr_a, sr_sr, u1_s, u1_k, m34, m31, e36', y0]); exact rfl)) (by omega) ?_ | refine k_ald (by first | assumption | omega) (by first | assumption | exact rfl) (by omega) (by omega) (by omega) (by first | assumption | ((try simp (disch := omega) only [sr_s, sr_a, sr_sr, u1_s, u1_k, m34, m31, e36', y0]); exact rfl)) ?_ | refine k_aZ (by first | assumption | omega) (by first | assumption | exact rfl) (by omega) (by omega) (by omega) (by omega) (by (try simp (disch := omega) only [sr_s, sr_a, sr_sr, u1_u1, m34, m31, e36', y0]); exact rfl) ?_ | refine k_eq (hat) ?_ | refine k_ifT (by first | (simp (disch := omega) only [w32_id]; first | done | omega) | omega) ?_ | refine k_ifF (by first | (simp (disch := omega) only [w32_id]; first | done | omega) | omega) ?_ | refine k_pf (by first | assumption | omega) (by (try simp (disch := omega) only [sr_s, sr_a, sr_sr, u1_u1, m34, m31, e36', y0]); exact rfl) ?_ | refine k_ast (by first | assumption | omega) (by first | assumption | exact rfl) (by omega) (by omega) (by omega) (by (try simp (disch := omega) only [sr_s, sr_a, sr_sr, u1_u1, m34, m31, e36', y0]); exact rfl) ?_ | refine k_irm (by omega) (by omega) (by omega) (by omega) ?_ | refine k_idv (by omega) (by omega) (by omega) (by omega) ?_ | refine k_tk (by first | assumption | omega) ?_ | refine k_rp (by omega) ?_ | refine k_aldR (by first | assumption | omega) (by first | assumption | exact rfl) (by omega) (by omega) (by omega) (by first | assumption | ((try simp (disch := omega) only [sr_s, sr_a, sr_sr, u1_s, u1_k, m34, m31, e36', y0]); exact rfl)) (by omega) ?_ | refine k_astR (by first | assumption | omega) (by first | assumption | exact rfl) (by omega) (by omega) (by omega) (by first | assumption | omega) (by (try simp (disch := omega) only [sr_s, sr_a, sr_sr, u1_u1, m34, m31, e36', y0]); exact rfl) ?_ | refine k_pz (by first | assumption | omega) (by omega) (by (try simp (disch := omega) only [sr_s, sr_a, sr_sr, u1_u1, m34, m31, e36', y0]); exact rfl) ?_ | refine k_alen (by first | assumption | omega) (by first | assumption | exact rfl) ?_ | refine k_cpy (by first | assumption | omega) (by first | assumption | omega) (by first | assumption | exact rfl) (by first | assumption | exact rfl) (by omega) (by omega) (by omega) (by omega) (by omega) (by omega) (by omega) (by omega) (by (try simp (disch := omega) only [sr_s, sr_a, sr_sr, u1_u1, m34, m31, e36', y0]); exact rfl) ?_)
              refine Ok.ret ⟨N6, L6, rfl, hF6, e139', e36', ?_, hLb6⟩
              rw [show 6 * (c : Int) + ((i + 1 : Nat) : Int) = 6 * c + i + 1 by omega]
              exact lsI_no hL6 (p := 6 * (i : Int) + c) (by omega) (by omega) hkap (fun z => y (hv.2 z.2))
          · rintro _ ⟨N6, L6, rfl, hF6, e139', e36', hL6, hLb6⟩
            have hC6 := hC.lb hF6
            have r3' := hC6.2.2.1.2.1
            have e61 := hC6.2.2.2.2.1
            unfold M_X11_laysBears_b181
            dsimp only
            refine k_gr k124 r3' (by omega) (k_gf kr e61 (k_ifF (by rw [w32_id (by omega) (by omega), w32_id (by omega) (by omega)]; omega) ?_))
            rw [show ((hi.toNat : Nat) : Int) = hi by omega] at hL6
            exact Ok.ret ⟨N6, L6, rfl, hF6, e139', e36', hL6, hLb6⟩
        · rintro _ ⟨N6, L6, rfl, hF6, e139', e36', hL6, hLb6⟩
          refine Ok.ret ⟨N6, L6, rfl, hF6, e139', e36', ?_, hLb6⟩
          have := skip _ L6 c (by omega) (by omega) (6 - hi).toNat (by omega) hL6
          rw [show 6 * (c : Int) + hi + (((6 - hi).toNat : Nat) : Int) = 6 * ((c + 1 : Nat) : Int) by omega] at this
          exact this
      · rintro _ ⟨N5, L, rfl, hF5, e139, e36, hL, hLb⟩
        have hC5 := hC.lb hF5
        have r3 := hC5.2.2.1.2.1
        have r0 := hC5.2.2.1.2.2.1
        have kr := hC5.2.2.1.2.2.2.1
        have e50 := hC5.2.2.2.1
        unfold M_X11_laysBears_b166
        dsimp only
        refine k_gr k124 r3 (by omega) (k_gf kr e50 (k_ifF (by rw [w32_id (by omega) (by omega), w32_id (by omega) (by omega)]; omega) ?_))
        rw [show ((wd.toNat : Nat) : Int) = wd by omega] at hL
        have := skip2 _ L (36 - 6 * wd).toNat (by omega) hL
        rw [show 6 * wd + (((36 - 6 * wd).toNat : Nat) : Int) = 36 by omega] at this
        exact Ok.ret ⟨N5, L, rfl, hF5, e36, this, hLb⟩
end HC
