/-! strokes: what hangs by what, as the reference has it -/
/-- the place that a town's error copies, whatever the marks are -/
def frV (wd hi : Int) (er : Int → Int) (t q : Int) : Int := if er (4 * t) = 2 ∨ er (4 * t) = 3 ∨ er (4 * t) = 4 ∨ er (4 * t) = 8 then srcV wd hi (er (4 * t)) (er (4 * t + 1)) (er (4 * t + 2)) (er (4 * t + 3)) (fun _ => 0) q 0 else q
def hgB (wd hi : Int) (co er : Int → Int) (t q t' q' : Int) : Prop := (co t < 0 ∧ t' = t ∧ q' = q) ∨ (0 ≤ co t ∧ t' = co t ∧ (q' = frV wd hi er t q ∨ er (4 * t) = 6 ∧ bsd wd hi q q'))
def HG (wd hi : Int) (co er : Int → Int) (u p : Int) : Nat → Int → Int → Prop
  | 0, t, q => t = u ∧ q = p
  | k + 1, t', q' => ∃ t q, HG wd hi co er u p k t q ∧ hgB wd hi co er t q t' q'
section HA
variable {wd hi tw mk s0 : Int} {co er ce ce' : Int → Int} {u p t q : Int}
theorem frV_in (hf : wfW wd hi tw mk co er s0 ce) (t0 : 0 ≤ t) (t1 : t < tw) (hq : inV wd hi q) : inV wd hi (frV wd hi er t q) := by
  obtain ⟨a1, a2, b1, b2, x1, x6, k2, k6, hco, her, het, -⟩ := hf
  unfold frV
  split
  · have hs := srcV_in (m := fun _ => 0) (dr := 0) a1 a2 b1 b2 (het t t0 t1) hq
    rcases hs with h | h
    · have := srcV_ne a1 a2 b1 b2 (het t t0 t1) hq h
      omega
    · exact h
  · exact hq
theorem hgB_in (hf : wfW wd hi tw mk co er s0 ce) (t0 : 0 ≤ t) (t1 : t < tw) (hq : inV wd hi q) {t' q' : Int} (h : hgB wd hi co er t q t' q') : (0 ≤ t' ∧ t' < tw) ∧ inV wd hi q' := by
  have hco := hf.2.2.2.2.2.2.2.2.1 t
  rcases h with ⟨-, rfl, rfl⟩ | ⟨h0, rfl, rfl | ⟨-, h⟩⟩
  · exact ⟨⟨t0, t1⟩, hq⟩
  · exact ⟨⟨h0, hco.2⟩, frV_in hf t0 t1 hq⟩
  · exact ⟨⟨h0, hco.2⟩, (bsd_sym hf.2.1 hq h).2⟩
theorem HG_in (hf : wfW wd hi tw mk co er s0 ce) (u0 : 0 ≤ u) (u1 : u < tw) (hp : inV wd hi p) : ∀ (k : Nat) (t q : Int), HG wd hi co er u p k t q → (0 ≤ t ∧ t < tw) ∧ inV wd hi q
  | 0, t, q, h => by obtain ⟨rfl, rfl⟩ := h; exact ⟨⟨u0, u1⟩, hp⟩
  | k + 1, t', q', h => by
    obtain ⟨t, q, h1, h2⟩ := h
    have := HG_in hf u0 u1 hp k t q h1
    exact hgB_in hf this.1.1 this.1.2 this.2 h2
/-- only what it hangs by counts -/
theorem HG_dep (hf : wfW wd hi tw mk co er s0 ce) (u0 : 0 ≤ u) (u1 : u < tw) (hp : inV wd hi p) {n : Nat} (h : ∀ t q, HG wd hi co er u p n t q → ce (36 * t + q) = ce' (36 * t + q)) : ∀ (j : Nat), j ≤ n → ∀ t q, HG wd hi co er u p (n - j) t q → bh wd hi tw co er s0 ce j (36 * t + q) = bh wd hi tw co er s0 ce' j (36 * t + q)
  | 0, _, t, q, hH => h t q hH
  | j + 1, hj, t, q, hH => by
    have hf' := hf
    obtain ⟨a1, a2, b1, b2, x1, x6, k2, k6, hco, her, het, hcz, -⟩ := hf
    obtain ⟨⟨t0, t1⟩, hin⟩ := HG_in hf' u0 u1 hp _ t q hH
    have hq36 := inV_36 a2 b2 hin
    have hnx : ∀ t' q', hgB wd hi co er t q t' q' → bh wd hi tw co er s0 ce j (36 * t' + q') = bh wd hi tw co er s0 ce' j (36 * t' + q') := fun t' q' hb => by
      refine HG_dep hf' u0 u1 hp h j (by omega) t' q' ?_
      rw [show n - j = (n - (j + 1)) + 1 by omega]
      exact ⟨t, q, hH, hb⟩
    by_cases c : co t < 0
    · rw [bh_still c hq36.1 hq36.2, bh_still c hq36.1 hq36.2]
      have := hnx t q (Or.inl ⟨c, rfl, rfl⟩)
      rw [bh_still c hq36.1 hq36.2, bh_still c hq36.1 hq36.2] at this
      exact this
    · rw [bh_step b2 a2 t0 t1 (by omega) hin, bh_step b2 a2 t0 t1 (by omega) hin]
      refine mkV_dep a1 a2 b1 b2 (het t t0 t1) hin (fun hs => ?_) (fun h6 d d0 d1 hd => ?_)
      · refine hnx (co t) _ (Or.inr ⟨by omega, rfl, Or.inl ?_⟩)
        unfold frV
        unfold srcC at hs ⊢
        by_cases z7 : er (4 * t) = 7 ∨ er (4 * t) = 6
        · rw [if_pos z7, if_neg (by omega)]
        · rw [if_neg z7] at hs ⊢
          by_cases z : er (4 * t) = 2 ∨ er (4 * t) = 3 ∨ er (4 * t) = 4 ∨ er (4 * t) = 8
          · rw [if_pos z]
            exact srcV_dr (by omega)
          · rw [if_neg z]
            unfold srcV at hs ⊢
            by_cases z1 : er (4 * t) = 1
            · rw [if_pos z1] at hs ⊢
              by_cases w : q % 6 = er (4 * t + 2) ∧ q / 6 = er (4 * t + 3)
              · rw [if_pos w] at hs; exact absurd rfl hs
              · rw [if_neg w]
            · rw [if_neg z1, if_neg (by omega), if_neg (by omega), if_neg (by omega), if_neg (by omega), if_neg (by omega), if_neg (by omega)] at hs ⊢
              by_cases z9 : er (4 * t) = 9
              · rw [if_pos z9] at hs ⊢
                by_cases w : q = drV wd hi tw er s0 j t
                · rw [if_pos w] at hs; exact absurd rfl hs
                · rw [if_neg w]
              · rw [if_neg z9]
      · exact hnx (co t) _ (Or.inr ⟨by omega, rfl, Or.inr ⟨h6, d, d0, d1, rfl, hd⟩⟩)
end HA
section HB
variable {M N N1 : Int → Int → Int} {G : GG} {rg wd hi tw mk s0 : Int} {co er ce : Int → Int} {t q u p : Int}
/-- the row of what hangs -/
def hgM (N : Int → Int → Int) (wd hi tw : Int) (P : Int → Int → Prop) : Prop := (∀ i, 0 ≤ i → i < 216 → N 139 i = 0 ∨ N 139 i = 1) ∧ ∀ t q, 0 ≤ t → t < tw → inV wd hi q → (N 139 (36 * t + idx wd q) = 1 ↔ P t q)
theorem ix_inj {t t' q' : Int} (a1 : 2 ≤ wd) (a2 : wd ≤ 6) (b1 : 2 ≤ hi) (b2 : hi ≤ 6) (hq : inV wd hi q) (hq' : inV wd hi q') (e : 36 * t + idx wd q = 36 * t' + idx wd q') : t = t' ∧ q = q' := by
  have h1 := idx_b a1 a2 b2 hq
  have h2 := idx_b a1 a2 b2 hq'
  have hm := mul_b a1 a2 b1 b2
  have : t = t' := by omega
  exact ⟨this, idx_inj a1 a2 hq hq' (by omega)⟩
theorem hgM_up {P : Int → Int → Prop} {t' q' : Int} (a1 : 2 ≤ wd) (a2 : wd ≤ 6) (b1 : 2 ≤ hi) (b2 : hi ≤ 6) (h : hgM N wd hi tw P) (hq : inV wd hi q') (e : N1 139 = u1 (N 139) (36 * t' + idx wd q') 1) : hgM N1 wd hi tw (fun t q => P t q ∨ t = t' ∧ q = q') := by
  refine ⟨fun i i0 i1 => ?_, fun t q t0 t1 hin => ?_⟩
  · rw [e]
    by_cases y : i = 36 * t' + idx wd q'
    · rw [u1_e _ _ y]; exact Or.inr rfl
    · rw [u1_k _ _ y]; exact h.1 i i0 i1
  · rw [e]
    by_cases y : 36 * t + idx wd q = 36 * t' + idx wd q'
    · rw [u1_e _ _ y]
      exact ⟨fun _ => Or.inr (ix_inj a1 a2 b1 b2 hin hq y), fun _ => rfl⟩
    · rw [u1_k _ _ y, h.2 t q t0 t1 hin]
      exact ⟨Or.inl, fun z => z.resolve_right (fun w => y (by rw [w.1, w.2]))⟩
theorem X11_hangsBy_ok {P : Int → Int → Prop} (hC : rC N G rg wd hi tw co er) (hf : wfW wd hi tw mk co er s0 ce) (t0 : 0 ≤ t) (t1 : t < tw) (hin : inV wd hi q) (h : hgM N wd hi tw P) : Ok (M_X11_hangsBy (N, G) 124 t (idx wd q)) (fun h => ∃ N1, h = (N1, G) ∧ (∀ a, a ≠ 139 → N1 a = N a) ∧ hgM N1 wd hi tw (fun t' q' => P t' q' ∨ hgB wd hi co er t q t' q')) := by
  have hC' := hC
  obtain ⟨hG, hp, hB, h0, h1, h3, hc, he⟩ := hC
  have hf' := hf
  obtain ⟨a1, a2, b1, b2, x1, x6, k2, k6, hco, her, het, hcz, -⟩ := hf
  have hml := mul_b a1 a2 b1 b2
  have hqx := idx_b a1 a2 b2 hin
  have hct := hc t t0 t1
  have hcb := hco t
  have het' := het t t0 t1
  have hes0 : 0 ≤ er (4 * t) ∧ er (4 * t) ≤ 10 := ⟨het'.1, het'.2.1⟩
  have e0 : N 131 (4 * t) = er (4 * t) := he _ (by omega) (by omega)
  have e1 : N 131 (4 * t + 1) = er (4 * t + 1) := he _ (by omega) (by omega)
  have e2 : N 131 (4 * t + 2) = er (4 * t + 2) := he _ (by omega) (by omega)
  have e3 : N 131 (4 * t + 3) = er (4 * t + 3) := he _ (by omega) (by omega)
  have k124 := gk_124 hG
  have k130 := gk_130 hG
  have l130 := gl_130 hG
  have k131 := gk_131 hG
  have l131 := gl_131 hG
  have k139 := gk_139 hG
  have l139 := gl_139 hG
  have p23 := pr124.p23 hp
  have p24 := pr124.p24 hp
  have p34 := pr124.p34 hp
  unfold M_X11_hangsBy
  by_cases c : co t = -2
  · repeat' (with_reducible first | refine k_gf (by first | assumption | omega) (by first | assumption | ((try simp (disch := omega) only [sr_s, sr_a, sr_sr, u1_s, u1_k, p23, p34, hct]); exact rfl)) ?_ | refine k_gr (by first | assumption | omega) (by first | assumption | ((try simp (disch := omega) only [sr_s, sr_a, sr_sr, u1_s, u1_k, p23, p34, hct]); exact rfl)) (by omega) ?_ | refine k_ald (by first | assumption | omega) (by first | assumption | exact rfl) (by omega) (by omega) (by omega) (by first | assumption | ((try simp (disch := omega) only [sr_s, sr_a, sr_sr, u1_s, u1_k, p23, p34, hct]); exact rfl)) ?_ | refine k_aZ (by first | assumption | omega) (by first | assumption | exact rfl) (by omega) (by omega) (by omega) (by omega) (by (try simp (disch := omega) only [sr_s, sr_a, sr_sr, u1_u1, p23, p34, hct]); exact rfl) ?_ | refine k_ifT (by first | (simp (disch := omega) only [w32_id]; first | done | omega) | omega) ?_ | refine k_ifF (by first | (simp (disch := omega) only [w32_id]; first | done | omega) | omega) ?_ | refine k_pf (by first | assumption | omega) (by (try simp (disch := omega) only [sr_s, sr_a, sr_sr, u1_u1, p23, p34, hct]); exact rfl) ?_ | refine k_ast (by first | assumption | omega) (by first | assumption | exact rfl) (by omega) (by omega) (by omega) (by (try simp (disch := omega) only [sr_s, sr_a, sr_sr, u1_u1, p23, p34, hct]); exact rfl) ?_ | refine k_irm (by omega) (by omega) (by omega) (by omega) ?_ | refine k_idv (by omega) (by omega) (by omega) (by omega) ?_ | refine k_tk (by first | assumption | omega) ?_ | refine k_rp (by omega) ?_ | refine k_aldR (by first | assumption | omega) (by first | assumption | exact rfl) (by omega) (by omega) (by omega) (by first | assumption | ((try simp (disch := omega) only [sr_s, sr_a, sr_sr, u1_s, u1_k, p23, p34, hct]); exact rfl)) (by omega) ?_ | refine k_astR (by first | assumption | omega) (by first | assumption | exact rfl) (by omega) (by omega) (by omega) (by first | assumption | omega) (by (try simp (disch := omega) only [sr_s, sr_a, sr_sr, u1_u1, p23, p34, hct]); exact rfl) ?_ | refine k_pz (by first | assumption | omega) (by omega) (by (try simp (disch := omega) only [sr_s, sr_a, sr_sr, u1_u1, p23, p34, hct]); exact rfl) ?_ | refine k_alen (by first | assumption | omega) (by first | assumption | exact rfl) ?_ | refine k_cpy (by first | assumption | omega) (by first | assumption | omega) (by first | assumption | exact rfl) (by first | assumption | exact rfl) (by omega) (by omega) (by omega) (by omega) (by omega) (by omega) (by omega) (by omega) (by (try simp (disch := omega) only [sr_s, sr_a, sr_sr, u1_u1, p23, p34, hct]); exact rfl) ?_)
    refine Ok.ret ⟨_, rfl, fun a ha => sr_a _ _ ha, ?_⟩
    have := hgM_up (t' := t) (q' := q) (N1 := sr N 139 (u1 (N 139) (36 * t + idx wd q) 1)) a1 a2 b1 b2 h hin (by rw [sr_s])
    refine ⟨this.1, fun t' q' t0' t1' hin' => ?_⟩
    rw [this.2 t' q' t0' t1' hin']
    constructor
    · rintro (z | ⟨rfl, rfl⟩)
      · exact Or.inl z
      · exact Or.inr (Or.inl ⟨by omega, rfl, rfl⟩)
    · rintro (z | ⟨-, rfl, rfl⟩ | ⟨z, -⟩)
      · exact Or.inl z
      · exact Or.inr ⟨rfl, rfl⟩
      · omega
  · have c0 : 0 ≤ co t := by
      by_cases w : co t < 0
      · exact absurd (hcz t t0 t1 w).1 c
      · omega
    have hfr := frV_in hf' t0 t1 hin
    have hfx := idx_b a1 a2 b2 hfr
    have hfrom := X11_from_ok (m := fun _ => 0) (dr := 0) (mk := mk) (t := t) (q := idx wd q) hB ⟨p24, k131, l131, t0, by omega, by rw [h0, h1]; show errB _ _ _ _ _ _ _; rw [e0, e1, e2, e3]; exact het'⟩ hqx.1 (by rw [h0, h1]; exact hqx.2)
    rw [h0, h1, inn_idx a1 a2 hin, e0, e1, e2, e3] at hfrom
    have hfrom : M_X11_from (N, G) 124 t (idx wd q) = some (idx wd (frV wd hi er t q)) := by
      rw [hfrom]
      unfold frV
      split <;> rfl
    generalize hFV : frV wd hi er t q = F at *
    repeat' (with_reducible first | refine k_gf (by first | assumption | omega) (by first | assumption | ((try simp (disch := omega) only [sr_s, sr_a, sr_sr, u1_s, u1_k, p23, p24, p34, hct, e0]); exact rfl)) ?_ | refine k_gr (by first | assumption | omega) (by first | assumption | ((try simp (disch := omega) only [sr_s, sr_a, sr_sr, u1_s, u1_k, p23, p24, p34, hct, e0]); exact rfl)) (by omega) ?_ | refine k_ald (by first | assumption | omega) (by first | assumption | exact rfl) (by omega) (by omega) (by omega) (by first | assumption | ((try simp (disch := omega) only [sr_s, sr_a, sr_sr, u1_s, u1_k, p23, p24, p34, hct, e0]); exact rfl)) ?_ | refine k_aZ (by first | assumption | omega) (by first | assumption | exact rfl) (by omega) (by omega) (by omega) (by omega) (by (try simp (disch := omega) only [sr_s, sr_a, sr_sr, u1_u1, p23, p24, p34, hct, e0]); exact rfl) ?_ | refine k_eq (hfrom) ?_ | refine k_ifT (by first | (simp (disch := omega) only [w32_id]; first | done | omega) | omega) ?_ | refine k_ifF (by first | (simp (disch := omega) only [w32_id]; first | done | omega) | omega) ?_ | refine k_pf (by first | assumption | omega) (by (try simp (disch := omega) only [sr_s, sr_a, sr_sr, u1_u1, p23, p24, p34, hct, e0]); exact rfl) ?_ | refine k_ast (by first | assumption | omega) (by first | assumption | exact rfl) (by omega) (by omega) (by omega) (by (try simp (disch := omega) only [sr_s, sr_a, sr_sr, u1_u1, p23, p24, p34, hct, e0]); exact rfl) ?_ | refine k_irm (by omega) (by omega) (by omega) (by omega) ?_ | refine k_idv (by omega) (by omega) (by omega) (by omega) ?_ | refine k_tk (by first | assumption | omega) ?_ | refine k_rp (by omega) ?_ | refine k_aldR (by first | assumption | omega) (by first | assumption | exact rfl) (by omega) (by omega) (by omega) (by first | assumption | ((try simp (disch := omega) only [sr_s, sr_a, sr_sr, u1_s, u1_k, p23, p24, p34, hct, e0]); exact rfl)) (by omega) ?_ | refine k_astR (by first | assumption | omega) (by first | assumption | exact rfl) (by omega) (by omega) (by omega) (by first | assumption | omega) (by (try simp (disch := omega) only [sr_s, sr_a, sr_sr, u1_u1, p23, p24, p34, hct, e0]); exact rfl) ?_ | refine k_pz (by first | assumption | omega) (by omega) (by (try simp (disch := omega) only [sr_s, sr_a, sr_sr, u1_u1, p23, p24, p34, hct, e0]); exact rfl) ?_ | refine k_alen (by first | assumption | omega) (by first | assumption | exact rfl) ?_ | refine k_cpy (by first | assumption | omega) (by first | assumption | omega) (by first | assumption | exact rfl) (by first | assumption | exact rfl) (by omega) (by omega) (by omega) (by omega) (by omega) (by omega) (by omega) (by omega) (by (try simp (disch := omega) only [sr_s, sr_a, sr_sr, u1_u1, p23, p24, p34, hct, e0]); exact rfl) ?_)
    generalize hN1 : sr N 139 (u1 (N 139) (36 * co t + idx wd F) 1) = N1
    have n : ∀ a, a ≠ 139 → N1 a = N a := fun a ha => by rw [← hN1, sr_a _ _ ha]
    have hup : hgM N1 wd hi tw (fun t' q' => P t' q' ∨ t' = co t ∧ q' = F) := hgM_up a1 a2 b1 b2 h hfr (by rw [← hN1, sr_s])
    clear hN1
    have n24 : N1 124 24 = 131 := by rw [n 124 (by omega)]; exact p24
    have n0 : N1 131 (4 * t) = er (4 * t) := by rw [n 131 (by omega)]; exact e0
    by_cases c6 : er (4 * t) = 6
    · refine k_ifT (by rw [c6]; decide) ?_
      unfold M_X11_hangsBy_w65 M_X11_hangsBy_p103
      refine Ok.bind (Q := fun h => ∃ N2, h = (N2, G) ∧ (∀ a, a ≠ 139 → N2 a = N a) ∧ hgM N2 wd hi tw (fun t' q' => (P t' q' ∨ t' = co t ∧ q' = F) ∨ t' = co t ∧ ∃ d, 0 ≤ d ∧ d < 4 ∧ bsV wd hi q d = q' ∧ q' ≠ -1)) ?_ ?_
      · refine wh_for (fun i z => ∃ N2, z = ((N2, G), (i : Int)) ∧ (∀ a, a ≠ 139 → N2 a = N a) ∧ hgM N2 wd hi tw (fun t' q' => (P t' q' ∨ t' = co t ∧ q' = F) ∨ t' = co t ∧ ∃ d, 0 ≤ d ∧ d < (i : Int) ∧ bsV wd hi q d = q' ∧ q' ≠ -1)) _ 4 (by omega) ⟨N1, rfl, n, hup.1, fun t' q' t0' t1' hin' => by rw [hup.2 t' q' t0' t1' hin']; exact ⟨Or.inl, fun z => z.resolve_right (fun ⟨_, d, d0, d1, _⟩ => by omega)⟩⟩ ?_ ?_
        · rintro i _ hi4 ⟨N2, rfl, f, hg⟩
          have hB2 : rB N2 G rg := hB.cg (by rw [f 124 (by omega)]) (f rg (by have := hB.2.2.1; omega))
          have frg : N2 rg = N rg := f rg (by have := hB.2.2.1; omega)
          have hbe := X11_beside_ok (q := idx wd q) (d := (i : Int)) hB2 hqx.1 (by rw [frg, h0, h1]; exact hqx.2) (by omega) (by omega)
          rw [frg, h0, h1, inn_idx a1 a2 hin] at hbe
          have m34 : N2 124 34 = 139 := by rw [f 124 (by omega)]; exact p34
          have hbi := bsV_in (d := (i : Int)) a2 hin
          have hnx : ∀ (P' : Int → Int → Prop), (∀ t' q', P' t' q' ↔ ((P t' q' ∨ t' = co t ∧ q' = F) ∨ t' = co t ∧ ∃ d, 0 ≤ d ∧ d < (i : Int) ∧ bsV wd hi q d = q' ∧ q' ≠ -1) ∨ t' = co t ∧ bsV wd hi q (i : Int) = q' ∧ q' ≠ -1) → ∀ t' q', P' t' q' ↔ ((P t' q' ∨ t' = co t ∧ q' = F) ∨ t' = co t ∧ ∃ d, 0 ≤ d ∧ d < ((i + 1 : Nat) : Int) ∧ bsV wd hi q d = q' ∧ q' ≠ -1) := fun P' hP t' q' => by
            rw [hP]
            constructor
            · rintro ((z | ⟨z, d, d0, d1, z2⟩) | ⟨z, z2⟩)
              · exact Or.inl z
              · exact Or.inr ⟨z, d, d0, by omega, z2⟩
              · exact Or.inr ⟨z, i, by omega, by omega, z2⟩
            · rintro (z | ⟨z, d, d0, d1, z2⟩)
              · exact Or.inl (Or.inl z)
              · by_cases w : d = (i : Int)
                · subst w; exact Or.inr ⟨z, z2⟩
                · exact Or.inl (Or.inr ⟨z, d, d0, by omega, z2⟩)
          unfold M_X11_hangsBy_b65 M_X11_hangsBy_p97
          dsimp only
          generalize hBV : bsV wd hi q (i : Int) = x at *
          by_cases y : x = -1
          · rw [if_pos y] at hbe
            repeat' (with_reducible first | refine k_gf (by first | assumption | omega) (by first | assumption | ((try simp (disch := omega) only [sr_s, sr_a, sr_sr, u1_s, u1_k, m34]); exact rfl)) ?_ | refine k_gr (by first | assumption | omega) (by first | assumption | ((try simp (disch := omega) only [sr_s, sr_a, sr_sr, u1_s, u1_k, m34]); exact rfl)) (by omega) ?_ | refine k_ald (by first | assumption | omega) (by first | assumption | exact rfl) (by omega) (by omega) (by omega) (by first | assumption | ((try simp (disch := omega) only [sr_s, sr_a, sr_sr, u1_s, u1_k, m34]); exact rfl)) ?_ | refine k_aZ (by first | assumption | omega) (by first | assumption | exact rfl) (by omega) (by omega) (by omega) (by omega) (by (try simp (disch := omega) only [sr_s, sr_a, sr_sr, u1_u1, m34]); exact rfl) ?_ | refine k_eq (hbe) ?_ | refine k_ifT (by first | (simp (disch := omega) only [w32_id]; first | done | omega) | omega) ?_ | refine k_ifF (by first | (simp (disch := omega) only [w32_id]; first | done | omega) | omega) ?_ | refine k_pf (by first | assumption | omega) (by (try simp (disch := omega) only [sr_s, sr_a, sr_sr, u1_u1, m34]); exact rfl) ?_ | refine k_ast (by first | assumption | omega) (by first | assumption | exact rfl) (by omega) (by omega) (by omega) (by (try simp (disch := omega) only [sr_s, sr_a, sr_sr, u1_u1, m34]); exact rfl) ?_ | refine k_irm (by omega) (by omega) (by omega) (by omega) ?_ | refine k_idv (by omega) (by omega) (by omega) (by omega) ?_ | refine k_tk (by first | assumption | omega) ?_ | refine k_rp (by omega) ?_ | refine k_aldR (by first | assumption | omega) (by first | assumption | exact rfl) (by omega) (by omega) (by omega) (by first | assumption | ((try simp (disch := omega) only [sr_s, sr_a, sr_sr, u1_s, u1_k, m34]); exact rfl)) (by omega) ?_ | refine k_astR (by first | assumption | omega) (by first | assumption | exact rfl) (by omega) (by omega) (by omega) (by first | assumption | omega) (by (try simp (disch := omega) only [sr_s, sr_a, sr_sr, u1_u1, m34]); exact rfl) ?_ | refine k_pz (by first | assumption | omega) (by omega) (by (try simp (disch := omega) only [sr_s, sr_a, sr_sr, u1_u1, m34]); exact rfl) ?_ | refine k_alen (by first | assumption | omega) (by first | assumption | exact rfl) ?_ | refine k_cpy (by first | assumption | omega) (by first | assumption | omega) (by first | assumption | exact rfl) (by first | assumption | exact rfl) (by omega) (by omega) (by omega) (by omega) (by omega) (by omega) (by omega) (by omega) (by (try simp (disch := omega) only [sr_s, sr_a, sr_sr, u1_u1, m34]); exact rfl) ?_)
            refine Ok.ret ⟨N2, rfl, f, hg.1, fun t' q' t0' t1' hin' => ?_⟩
            rw [hg.2 t' q' t0' t1' hin']
            exact hnx (fun t' q' => (P t' q' ∨ t' = co t ∧ q' = F) ∨ t' = co t ∧ ∃ d, 0 ≤ d ∧ d < (i : Int) ∧ bsV wd hi q d = q' ∧ q' ≠ -1) (fun t' q' => ⟨Or.inl, fun z => z.resolve_right (fun w => w.2.2 (by omega))⟩) t' q'
          · rw [if_neg y] at hbe
            have hxin := hbi.resolve_left y
            have hxx := idx_b a1 a2 b2 hxin
            repeat' (with_reducible first | refine k_gf (by first | assumption | omega) (by first | assumption | ((try simp (disch := omega) only [sr_s, sr_a, sr_sr, u1_s, u1_k, m34]); exact rfl)) ?_ | refine k_gr (by first | assumption | omega) (by first | assumption | ((try simp (disch := omega) only [sr_s, sr_a, sr_sr, u1_s, u1_k, m34]); exact rfl)) (by omega) ?_ | refine k_ald (by first | assumption | omega) (by first | assumption | exact rfl) (by omega) (by omega) (by omega) (by first | assumption | ((try simp (disch := omega) only [sr_s, sr_a, sr_sr, u1_s, u1_k, m34]); exact rfl)) ?_ | refine k_aZ (by first | assumption | omega) (by first | assumption | exact rfl) (by omega) (by omega) (by omega) (by omega) (by (try simp (disch := omega) only [sr_s, sr_a, sr_sr, u1_u1, m34]); exact rfl) ?_ | refine k_eq (hbe) ?_ | refine k_ifT (by first | (simp (disch := omega) only [w32_id]; first | done | omega) | omega) ?_ | refine k_ifF (by first | (simp (disch := omega) only [w32_id]; first | done | omega) | omega) ?_ | refine k_pf (by first | assumption | omega) (by (try simp (disch := omega) only [sr_s, sr_a, sr_sr, u1_u1, m34]); exact rfl) ?_ | refine k_ast (by first | assumption | omega) (by first | assumption | exact rfl) (by omega) (by omega) (by omega) (by (try simp (disch := omega) only [sr_s, sr_a, sr_sr, u1_u1, m34]); exact rfl) ?_ | refine k_irm (by omega) (by omega) (by omega) (by omega) ?_ | refine k_idv (by omega) (by omega) (by omega) (by omega) ?_ | refine k_tk (by first | assumption | omega) ?_ | refine k_rp (by omega) ?_ | refine k_aldR (by first | assumption | omega) (by first | assumption | exact rfl) (by omega) (by omega) (by omega) (by first | assumption | ((try simp (disch := omega) only [sr_s, sr_a, sr_sr, u1_s, u1_k, m34]); exact rfl)) (by omega) ?_ | refine k_astR (by first | assumption | omega) (by first | assumption | exact rfl) (by omega) (by omega) (by omega) (by first | assumption | omega) (by (try simp (disch := omega) only [sr_s, sr_a, sr_sr, u1_u1, m34]); exact rfl) ?_ | refine k_pz (by first | assumption | omega) (by omega) (by (try simp (disch := omega) only [sr_s, sr_a, sr_sr, u1_u1, m34]); exact rfl) ?_ | refine k_alen (by first | assumption | omega) (by first | assumption | exact rfl) ?_ | refine k_cpy (by first | assumption | omega) (by first | assumption | omega) (by first | assumption | exact rfl) (by first | assumption | exact rfl) (by omega) (by omega) (by omega) (by omega) (by omega) (by omega) (by omega) (by omega) (by (try simp (disch := omega) only [sr_s, sr_a, sr_sr, u1_u1, m34]); exact rfl) ?_)
            refine Ok.ret ⟨_, rfl, fun a ha => by rw [sr_a _ _ ha]; exact f a ha, ?_⟩
            have := hgM_up (t' := co t) (q' := x) (N1 := sr N2 139 (u1 (N2 139) (36 * co t + idx wd x) 1)) a1 a2 b1 b2 hg hxin (by rw [sr_s])
            refine ⟨this.1, fun t' q' t0' t1' hin' => ?_⟩
            rw [this.2 t' q' t0' t1' hin']
            exact hnx (fun t' q' => ((P t' q' ∨ t' = co t ∧ q' = F) ∨ t' = co t ∧ ∃ d, 0 ≤ d ∧ d < (i : Int) ∧ bsV wd hi q d = q' ∧ q' ≠ -1) ∨ t' = co t ∧ q' = x) (fun t' q' => ⟨fun z => z.elim Or.inl (fun w => Or.inr ⟨w.1, w.2.symm, by rw [w.2]; exact y⟩), fun z => z.elim Or.inl (fun w => Or.inr ⟨w.1, w.2.1.symm⟩)⟩) t' q'
        · rintro _ ⟨N2, rfl, f, hg⟩
          unfold M_X11_hangsBy_b65
          dsimp only
          exact k_ifF (by decide) (Ok.ret ⟨N2, rfl, f, hg⟩)
      · rintro _ ⟨N2, rfl, f, hg⟩
        refine Ok.ret ⟨N2, rfl, f, hg.1, fun t' q' t0' t1' hin' => ?_⟩
        rw [hg.2 t' q' t0' t1' hin']
        constructor
        · rintro ((z | ⟨z, z2⟩) | ⟨z, d, z2⟩)
          · exact Or.inl z
          · exact Or.inr (Or.inr ⟨c0, z, Or.inl (by rw [z2, hFV])⟩)
          · exact Or.inr (Or.inr ⟨c0, z, Or.inr ⟨c6, d, z2⟩⟩)
        · rintro (z | ⟨z, -⟩ | ⟨-, z, z2 | ⟨-, d, z2⟩⟩)
          · exact Or.inl (Or.inl z)
          · omega
          · exact Or.inl (Or.inr ⟨z, by rw [z2, hFV]⟩)
          · exact Or.inr ⟨z, d, z2⟩
    · refine k_ifF (by rw [w32_id (by omega) (by omega)]; exact c6) (Ok.ret ⟨N1, rfl, n, hup.1, fun t' q' t0' t1' hin' => ?_⟩)
      rw [hup.2 t' q' t0' t1' hin']
      constructor
      · rintro (z | ⟨z, z2⟩)
        · exact Or.inl z
        · exact Or.inr (Or.inr ⟨c0, z, Or.inl (by rw [z2, hFV])⟩)
      · rintro (z | ⟨z, -⟩ | ⟨-, z, z2 | ⟨z2, -⟩⟩)
        · exact Or.inl z
        · omega
        · exact Or.inr ⟨z, by rw [z2, hFV]⟩
        · exact absurd z2 c6
end HB
