/-! ink -/
section I4
variable {M M' M1 M2 : Int → Int → Int} {G : GG} {rg td r t k p : Int}
theorem X11_ink_go (hG : gAll G) (hp124 : pr124 (M 124)) (hmp : ∀ i, 0 ≤ M 129 i ∧ M 129 i < 6) (hB : rB M G rg) (k0 : 0 ≤ k) (k6 : k < 6) (t0 : 0 ≤ t) (t6 : t < 6) (hm1 : ∀ i, 0 ≤ i → i < 216 → 0 ≤ M 126 i ∧ M 126 i < 6) {c : Int → Int} (hc : ∀ q, inV (M rg 0) (M rg 1) q → c q = if M 126 (36 * t + idx (M rg 0) q) = k then 0 else 1) (hcb : ∀ q, 0 ≤ c q ∧ c q ≤ 1) (hp : i32 p) (hpl : plC (M rg 0) (M rg 1) p) {x : Int} (hx : x = 1000 ∨ ∃ n, wyE (M rg 0) (M rg 1) c n (ipC p) x) (hx2 : ∀ n w, wyE (M rg 0) (M rg 1) c n (ipC p) w → x ≤ w) : Ok (M_X11_ink_w37 FU (M, G) 124 p k (36 * t) 0) (rP M G x 0) := by
  have hB' := hB
  obtain ⟨kk, r3, r0, kr, a1, a2, b1, b2⟩ := hB
  have hml := mul_b a1 a2 b1 b2
  have hfr := ipC_in hpl a2
  have hfx := idx_b a1 a2 b2 hfr
  have k124 := gk_124 hG
  have k126 := gk_126 hG
  have l126 := gl_126 hG
  have k141 := gk_141 hG
  have l141 := gl_141 hG
  unfold M_X11_ink_w37
  refine Ok.bind (Q := fun z => ∃ M1, z = (M1, G) ∧ (∀ a, a ≠ 141 → M1 a = M a) ∧ ∀ i, 0 ≤ i → i < 36 → M1 141 i = 99) ?_ ?_
  · refine wh_for (fun n z => ∃ M1, z = ((M1, G), (n : Int)) ∧ (∀ a, a ≠ 141 → M1 a = M a) ∧ ∀ i, 0 ≤ i → i < (n : Int) → M1 141 i = 99) _ 36 (by omega) ⟨M, rfl, fun _ _ => rfl, fun i i0 i1 => by omega⟩ ?_ ?_
    · rintro n _ hn ⟨M1, rfl, f, hz⟩
      have p37 : M1 124 37 = 141 := by rw [f 124 (by omega)]; exact pr124.p37 hp124
      unfold M_X11_ink_b37
      dsimp only
      repeat' (with_reducible first | refine k_gf (by first | assumption | omega) (by first | assumption | ((try simp (disch := omega) only [sr_s, sr_a, sr_sr, u1_s, u1_k, p37]); exact rfl)) ?_ | refine k_gr (by first | assumption | omega) (by first | assumption | ((try simp (disch := omega) only [sr_s, sr_a, sr_sr, u1_s, u1_k, p37]); exact rfl)) (by omega) ?_ | refine k_ald (by first | assumption | omega) (by first | assumption | exact rfl) (by omega) (by omega) (by omega) (by first | assumption | ((try simp (disch := omega) only [sr_s, sr_a, sr_sr, u1_s, u1_k, p37]); exact rfl)) ?_ | refine k_ifT (by first | (simp (disch := omega) only [w32_id]; first | done | omega) | omega) ?_ | refine k_ifF (by first | (simp (disch := omega) only [w32_id]; first | done | omega) | omega) ?_ | refine k_pf (by first | assumption | omega) (by (try simp (disch := omega) only [sr_s, sr_a, sr_sr, u1_u1, p37]); exact rfl) ?_ | refine k_ast (by first | assumption | omega) (by first | assumption | exact rfl) (by omega) (by omega) (by omega) (by (try simp (disch := omega) only [sr_s, sr_a, sr_sr, u1_u1, p37]); exact rfl) ?_ | refine k_irm (by omega) (by omega) (by omega) (by omega) ?_ | refine k_idv (by omega) (by omega) (by omega) (by omega) ?_ | refine k_tk (by first | assumption | omega) ?_ | refine k_rp (by omega) ?_ | refine k_aldR (by first | assumption | omega) (by first | assumption | exact rfl) (by omega) (by omega) (by omega) (by first | assumption | ((try simp (disch := omega) only [sr_s, sr_a, sr_sr, u1_s, u1_k, p37]); exact rfl)) (by omega) ?_ | refine k_astR (by first | assumption | omega) (by first | assumption | exact rfl) (by omega) (by omega) (by omega) (by first | assumption | omega) (by (try simp (disch := omega) only [sr_s, sr_a, sr_sr, u1_u1, p37]); exact rfl) ?_ | refine k_pz (by first | assumption | omega) (by omega) (by (try simp (disch := omega) only [sr_s, sr_a, sr_sr, u1_u1, p37]); exact rfl) ?_ | refine k_alen (by first | assumption | omega) (by first | assumption | exact rfl) ?_ | refine k_cpy (by first | assumption | omega) (by first | assumption | omega) (by first | assumption | exact rfl) (by first | assumption | exact rfl) (by omega) (by omega) (by omega) (by omega) (by omega) (by omega) (by omega) (by omega) (by (try simp (disch := omega) only [sr_s, sr_a, sr_sr, u1_u1, p37]); exact rfl) ?_)
      refine Ok.ret ⟨_, rfl, fun a ha => by rw [sr_a _ _ ha]; exact f a ha, fun i i0 i1 => ?_⟩
      rw [sr_s]
      by_cases y : i = (n : Int)
      · rw [u1_e _ _ y]
      · rw [u1_k _ _ y]; exact hz i i0 (by omega)
    · rintro _ ⟨M1, rfl, hS⟩
      unfold M_X11_ink_b37
      dsimp only
      repeat' (with_reducible first | refine k_gf (by first | assumption | omega) (by first | assumption | ((try simp (disch := omega) only [sr_s, sr_a, sr_sr, u1_s, u1_k]); exact rfl)) ?_ | refine k_gr (by first | assumption | omega) (by first | assumption | ((try simp (disch := omega) only [sr_s, sr_a, sr_sr, u1_s, u1_k]); exact rfl)) (by omega) ?_ | refine k_ald (by first | assumption | omega) (by first | assumption | exact rfl) (by omega) (by omega) (by omega) (by first | assumption | ((try simp (disch := omega) only [sr_s, sr_a, sr_sr, u1_s, u1_k]); exact rfl)) ?_ | refine k_ifT (by first | (simp (disch := omega) only [w32_id]; first | done | omega) | omega) ?_ | refine k_ifF (by first | (simp (disch := omega) only [w32_id]; first | done | omega) | omega) ?_ | refine k_pf (by first | assumption | omega) (by (try simp (disch := omega) only [sr_s, sr_a, sr_sr, u1_u1]); exact rfl) ?_ | refine k_ast (by first | assumption | omega) (by first | assumption | exact rfl) (by omega) (by omega) (by omega) (by (try simp (disch := omega) only [sr_s, sr_a, sr_sr, u1_u1]); exact rfl) ?_ | refine k_irm (by omega) (by omega) (by omega) (by omega) ?_ | refine k_idv (by omega) (by omega) (by omega) (by omega) ?_ | refine k_tk (by first | assumption | omega) ?_ | refine k_rp (by omega) ?_ | refine k_aldR (by first | assumption | omega) (by first | assumption | exact rfl) (by omega) (by omega) (by omega) (by first | assumption | ((try simp (disch := omega) only [sr_s, sr_a, sr_sr, u1_s, u1_k]); exact rfl)) (by omega) ?_ | refine k_astR (by first | assumption | omega) (by first | assumption | exact rfl) (by omega) (by omega) (by omega) (by first | assumption | omega) (by (try simp (disch := omega) only [sr_s, sr_a, sr_sr, u1_u1]); exact rfl) ?_ | refine k_pz (by first | assumption | omega) (by omega) (by (try simp (disch := omega) only [sr_s, sr_a, sr_sr, u1_u1]); exact rfl) ?_ | refine k_alen (by first | assumption | omega) (by first | assumption | exact rfl) ?_ | refine k_cpy (by first | assumption | omega) (by first | assumption | omega) (by first | assumption | exact rfl) (by first | assumption | exact rfl) (by omega) (by omega) (by omega) (by omega) (by omega) (by omega) (by omega) (by omega) (by (try simp (disch := omega) only [sr_s, sr_a, sr_sr, u1_u1]); exact rfl) ?_)
      exact Ok.ret ⟨M1, rfl, hS⟩
  · rintro _ ⟨M1, rfl, f, h99⟩
    have frg := f rg (by omega)
    have f126 := f 126 (by omega)
    have hB1 : rB M1 G rg := hB'.cg (by rw [f 124 (by omega)]) frg
    have hpo := X11_placeOf_T hB1 hp (by rw [frg]; exact hpl)
    rw [frg] at hpo
    have p37 : M1 124 37 = 141 := by rw [f 124 (by omega)]; exact pr124.p37 hp124
    have p17 : M1 124 17 = 126 := by rw [f 124 (by omega)]; exact pr124.p17 hp124
    have hv := hm1 (36 * t + idx (M rg 0) (ipC p)) (by omega) (by omega)
    have hcv := hc _ hfr
    rw [← f126] at hv hcv
    -- behind the first place's own cost
    have key : Ok (M_X11_ink_p91 (M1, G) 124 k (36 * t) 141 (idx (M rg 0) (ipC p)) (c (ipC p))) (rP M G x 0) := by
      have hcf := hcb (ipC p)
      unfold M_X11_ink_p91
      repeat' (with_reducible first | refine k_gf (by first | assumption | omega) (by first | assumption | ((try simp (disch := omega) only [sr_s, sr_a, sr_sr, u1_s, u1_k]); exact rfl)) ?_ | refine k_gr (by first | assumption | omega) (by first | assumption | ((try simp (disch := omega) only [sr_s, sr_a, sr_sr, u1_s, u1_k]); exact rfl)) (by omega) ?_ | refine k_ald (by first | assumption | omega) (by first | assumption | exact rfl) (by omega) (by omega) (by omega) (by first | assumption | ((try simp (disch := omega) only [sr_s, sr_a, sr_sr, u1_s, u1_k]); exact rfl)) ?_ | refine k_ifT (by first | (simp (disch := omega) only [w32_id]; first | done | omega) | omega) ?_ | refine k_ifF (by first | (simp (disch := omega) only [w32_id]; first | done | omega) | omega) ?_ | refine k_pf (by first | assumption | omega) (by (try simp (disch := omega) only [sr_s, sr_a, sr_sr, u1_u1]); exact rfl) ?_ | refine k_ast (by first | assumption | omega) (by first | assumption | exact rfl) (by omega) (by omega) (by omega) (by (try simp (disch := omega) only [sr_s, sr_a, sr_sr, u1_u1]); exact rfl) ?_ | refine k_irm (by omega) (by omega) (by omega) (by omega) ?_ | refine k_idv (by omega) (by omega) (by omega) (by omega) ?_ | refine k_tk (by first | assumption | omega) ?_ | refine k_rp (by omega) ?_ | refine k_aldR (by first | assumption | omega) (by first | assumption | exact rfl) (by omega) (by omega) (by omega) (by first | assumption | ((try simp (disch := omega) only [sr_s, sr_a, sr_sr, u1_s, u1_k]); exact rfl)) (by omega) ?_ | refine k_astR (by first | assumption | omega) (by first | assumption | exact rfl) (by omega) (by omega) (by omega) (by first | assumption | omega) (by (try simp (disch := omega) only [sr_s, sr_a, sr_sr, u1_u1]); exact rfl) ?_ | refine k_pz (by first | assumption | omega) (by omega) (by (try simp (disch := omega) only [sr_s, sr_a, sr_sr, u1_u1]); exact rfl) ?_ | refine k_alen (by first | assumption | omega) (by first | assumption | exact rfl) ?_ | refine k_cpy (by first | assumption | omega) (by first | assumption | omega) (by first | assumption | exact rfl) (by first | assumption | exact rfl) (by omega) (by omega) (by omega) (by omega) (by omega) (by omega) (by omega) (by omega) (by (try simp (disch := omega) only [sr_s, sr_a, sr_sr, u1_u1]); exact rfl) ?_)
      generalize hN : sr M1 141 (u1 (M1 141) (idx (M rg 0) (ipC p)) (c (ipC p))) = N0
      have g : ∀ a, a ≠ 141 → N0 a = M a := fun a ha => by rw [← hN, sr_a _ _ ha]; exact f a ha
      have hF0 : icF (M rg 0) (M rg 1) c (ipC p) (N0 141) := by
        rw [← hN, sr_s]
        refine ⟨fun q hq => ?_, by rw [u1_s]; exact Int.le_refl _, fun q hq => ?_⟩
        · have hqx := idx_b a1 a2 b2 hq
          by_cases z : idx (M rg 0) q = idx (M rg 0) (ipC p)
          · rw [u1_e _ _ z]; omega
          · rw [u1_k _ _ z, h99 _ hqx.1 (by omega)]; omega
        · have hqx := idx_b a1 a2 b2 hq
          by_cases z : idx (M rg 0) q = idx (M rg 0) (ipC p)
          · have := idx_inj a1 a2 hq hfr z
            rw [u1_e _ _ z]
            exact Or.inr ⟨0, hq, this, by rw [this]⟩
          · rw [u1_k _ _ z]; exact Or.inl (h99 _ hqx.1 (by omega))
      clear hN
      unfold M_X11_ink_w95
      refine Ok.bind (Q := fun z => ∃ M1, z = (M1, G) ∧ (∀ a, a ≠ 141 → M1 a = M a) ∧ icF (M rg 0) (M rg 1) c (ipC p) (M1 141) ∧ ∀ q n w, wyF (M rg 0) (M rg 1) c (ipC p) n q w → M1 141 (idx (M rg 0) q) ≤ w) ?_ ?_
      · refine wh_for (fun i z => ∃ M1, z = ((M1, G), (i : Int)) ∧ (∀ a, a ≠ 141 → M1 a = M a) ∧ icF (M rg 0) (M rg 1) c (ipC p) (M1 141) ∧ prg (M rg 0) (M rg 1) (wyF (M rg 0) (M rg 1) c (ipC p)) (fun q => M1 141 (idx (M rg 0) q)) i) _ (M rg 0 * M rg 1).toNat (by omega) ⟨N0, rfl, g, hF0, prg_0⟩ ?_ ?_
        · rintro i _ hi ⟨M2, rfl, f2, hF2, hpr⟩
          have frg2 := f2 rg (by omega)
          have f1262 := f2 126 (by omega)
          have hB2 : rB M2 G rg := hB'.cg (by rw [f2 124 (by omega)]) frg2
          have r3' := hB2.2.1
          have hal := X10_all_ok hB2
          rw [frg2] at hal
          have hw := X11_ink_w110_ok (M := M2) (rg := rg) (fr := ipC p) (mk := k) (t := t) (c := c) (jr := (i : Int)) hG (by rw [f2 124 (by omega)]; exact hp124) hB2 k0 k6 t0 t6 (by rw [f1262]; exact hm1) (by rw [frg2, f1262]; exact hc) (by rw [frg2]; exact hfr) (by rw [frg2]; exact hF2)
          rw [frg2] at hw
          unfold M_X11_ink_b95
          dsimp only
          refine k_gr k124 (v := rg) r3' (by omega) (k_eq hal ?_)
          refine k_ifT (by rw [w32_id (by omega) (by omega), w32_id (by omega) (by omega)]; omega) ?_
          refine hw.mono ?_
          rintro _ ⟨M3, rfl, f3, hF3, hR3⟩
          refine ⟨M3, rfl, fun a ha => (f3 a ha).trans (f2 a ha), hF3, ?_⟩
          refine prg_step (f := fun q => M2 141 (idx (M rg 0) q)) (N := fun q q' => inV (M rg 0) (M rg 1) q ∧ bsd (M rg 0) (M rg 1) q q') (c := c) a1 a2 b2 wyF_in (fun n q w hq => ?_) (fun n q q' w hqq hq => ?_) (fun n q w hq => ?_) (fun q w hq => ?_) (fun q q' n w hqq hq => ?_) (fun q hq => ?_) hpr
          · obtain ⟨hin, q', hb, h⟩ := hq
            exact ⟨q', ⟨hin, hb⟩, h⟩
          · exact ⟨hqq.1, q', hqq.2, by rw [show w + c q - c q = w by omega]; exact hq⟩
          · have := wyF_0 (fun q => (hcb q).1) n q w hq
            have := hcb q
            omega
          · obtain ⟨hin, he, hw⟩ := hq
            subst he
            rw [hw]
            exact hF3.2.1
          · obtain ⟨d, d0, d1, e, hne⟩ := (bsd_sym a2 hqq.1 hqq.2).1
            have hq' := (bsd_sym a2 hqq.1 hqq.2).2
            have hqx := idx_b a1 a2 b2 hq'
            have := hR3.2 q' d hq' d0 d1 (Or.inl hqx.2) (by rw [e]; exact hne)
            rw [e] at this
            exact this
          · exact hR3.1 q hq
        · rintro _ ⟨M2, rfl, f2, hF2, hpr⟩
          have frg2 := f2 rg (by omega)
          have hB2 : rB M2 G rg := hB'.cg (by rw [f2 124 (by omega)]) frg2
          have r3' := hB2.2.1
          have hal := X10_all_ok hB2
          rw [frg2] at hal
          unfold M_X11_ink_b95
          dsimp only
          refine k_gr k124 (v := rg) r3' (by omega) (k_eq hal ?_)
          refine k_ifF (by rw [w32_id (by omega) (by omega), w32_id (by omega) (by omega)]; omega) ?_
          exact Ok.ret ⟨M2, rfl, f2, hF2, prg_end a1 a2 b2 wyF_in (Nat.le_refl _) hpr⟩
      · rintro _ ⟨M2, rfl, f2, hF2, hdone⟩
        have frg2 := f2 rg (by omega)
        have hB2 : rB M2 G rg := hB'.cg (by rw [f2 124 (by omega)]) frg2
        have r3' := hB2.2.1
        have hal := X10_all_ok hB2
        rw [frg2] at hal
        have p37 : M2 124 37 = 141 := by rw [f2 124 (by omega)]; exact pr124.p37 hp124
        have hq2 : rQ M M2 := ⟨fun a ha => f2 a (by omega), fun j _ _ _ _ _ _ => by rw [f2 124 (by omega)], by rw [f2 129 (by omega)]; exact hmp⟩
        unfold M_X11_ink_p218 M_X11_ink_w225
        refine Ok.bind (Q := fun y => (y = 99 ∨ ∃ n q, edg (M rg 0) (M rg 1) q ∧ wyF (M rg 0) (M rg 1) c (ipC p) n q y) ∧ ∀ q, inV (M rg 0) (M rg 1) q → edg (M rg 0) (M rg 1) q → y ≤ M2 141 (idx (M rg 0) q)) ?_ ?_
        · refine wh_for (fun i z => z.2 = (i : Int) ∧ 0 ≤ z.1 ∧ z.1 ≤ 99 ∧ (z.1 = 99 ∨ ∃ n q, edg (M rg 0) (M rg 1) q ∧ wyF (M rg 0) (M rg 1) c (ipC p) n q z.1) ∧ ∀ q, inV (M rg 0) (M rg 1) q → idx (M rg 0) q < (i : Int) → edg (M rg 0) (M rg 1) q → z.1 ≤ M2 141 (idx (M rg 0) q)) _ (M rg 0 * M rg 1).toNat (by omega) ⟨rfl, by dsimp only; omega, by dsimp only; omega, Or.inl rfl, fun q hq h1 => by have := idx_b a1 a2 b2 hq; omega⟩ ?_ ?_
          · rintro i ⟨y, j⟩ hi ⟨e, y0, y1, hy, hle⟩
            dsimp only at e y0 y1 hy hle ⊢
            subst e
            have hin := inn_in a1 a2 b1 b2 (q := (i : Int)) (by omega) (by omega)
            have hix := idx_inn (wd := M rg 0) a1 a2 (q := (i : Int)) (by omega)
            have hgi := hF2.1 _ hin
            rw [hix] at hgi
            have hext : ∀ y' : Int, y' ≤ y → (edg (M rg 0) (M rg 1) (inn (M rg 0) i) → y' ≤ M2 141 (i : Int)) → ∀ q, inV (M rg 0) (M rg 1) q → idx (M rg 0) q < ((i + 1 : Nat) : Int) → edg (M rg 0) (M rg 1) q → y' ≤ M2 141 (idx (M rg 0) q) := fun y' h1 h2 q hq hl he => by
              by_cases z : idx (M rg 0) q = (i : Int)
              · have hqi : q = inn (M rg 0) i := by rw [← inn_idx a1 a2 hq, z]
                rw [z]
                exact h2 (by rw [← hqi]; exact he)
              · exact Int.le_trans h1 (hle q hq (by omega) he)
            unfold M_X11_ink_b225 M_X11_ink_p267
            refine k_gr k124 (v := rg) r3' (by omega) (k_eq hal ?_)
            refine k_ifT (by rw [w32_id (by omega) (by omega), w32_id (by omega) (by omega)]; omega) ?_
            have hed := X11_isEdge_ok (q := (i : Int)) hB2 (by omega) (by rw [frg2]; omega)
            rw [frg2] at hed
            refine Ok.bind hed ?_
            rintro _ (⟨rfl, he⟩ | ⟨rfl, he⟩)
            · by_cases z : M2 141 (i : Int) < y
              · repeat' (with_reducible first | refine k_gf (by first | assumption | omega) (by first | assumption | ((try simp (disch := omega) only [sr_s, sr_a, sr_sr, u1_s, u1_k, p37]); exact rfl)) ?_ | refine k_gr (by first | assumption | omega) (by first | assumption | ((try simp (disch := omega) only [sr_s, sr_a, sr_sr, u1_s, u1_k, p37]); exact rfl)) (by omega) ?_ | refine k_ald (by first | assumption | omega) (by first | assumption | exact rfl) (by omega) (by omega) (by omega) (by first | assumption | ((try simp (disch := omega) only [sr_s, sr_a, sr_sr, u1_s, u1_k, p37]); exact rfl)) ?_ | refine k_ifT (by first | (simp (disch := omega) only [w32_id]; first | done | omega) | omega) ?_ | refine k_ifF (by first | (simp (disch := omega) only [w32_id]; first | done | omega) | omega) ?_ | refine k_pf (by first | assumption | omega) (by (try simp (disch := omega) only [sr_s, sr_a, sr_sr, u1_u1, p37]); exact rfl) ?_ | refine k_ast (by first | assumption | omega) (by first | assumption | exact rfl) (by omega) (by omega) (by omega) (by (try simp (disch := omega) only [sr_s, sr_a, sr_sr, u1_u1, p37]); exact rfl) ?_ | refine k_irm (by omega) (by omega) (by omega) (by omega) ?_ | refine k_idv (by omega) (by omega) (by omega) (by omega) ?_ | refine k_tk (by first | assumption | omega) ?_ | refine k_rp (by omega) ?_ | refine k_aldR (by first | assumption | omega) (by first | assumption | exact rfl) (by omega) (by omega) (by omega) (by first | assumption | ((try simp (disch := omega) only [sr_s, sr_a, sr_sr, u1_s, u1_k, p37]); exact rfl)) (by omega) ?_ | refine k_astR (by first | assumption | omega) (by first | assumption | exact rfl) (by omega) (by omega) (by omega) (by first | assumption | omega) (by (try simp (disch := omega) only [sr_s, sr_a, sr_sr, u1_u1, p37]); exact rfl) ?_ | refine k_pz (by first | assumption | omega) (by omega) (by (try simp (disch := omega) only [sr_s, sr_a, sr_sr, u1_u1, p37]); exact rfl) ?_ | refine k_alen (by first | assumption | omega) (by first | assumption | exact rfl) ?_ | refine k_cpy (by first | assumption | omega) (by first | assumption | omega) (by first | assumption | exact rfl) (by first | assumption | exact rfl) (by omega) (by omega) (by omega) (by omega) (by omega) (by omega) (by omega) (by omega) (by (try simp (disch := omega) only [sr_s, sr_a, sr_sr, u1_u1, p37]); exact rfl) ?_)
                refine Ok.ret ⟨by dsimp only; omega, hgi.1, hgi.2, ?_, hext _ (by omega) (fun _ => Int.le_refl _)⟩
                have := hF2.2.2 _ hin
                rw [hix] at this
                rcases this with h1 | ⟨n, h1⟩
                · exact Or.inl h1
                · exact Or.inr ⟨n, _, he, h1⟩
              · repeat' (with_reducible first | refine k_gf (by first | assumption | omega) (by first | assumption | ((try simp (disch := omega) only [sr_s, sr_a, sr_sr, u1_s, u1_k, p37]); exact rfl)) ?_ | refine k_gr (by first | assumption | omega) (by first | assumption | ((try simp (disch := omega) only [sr_s, sr_a, sr_sr, u1_s, u1_k, p37]); exact rfl)) (by omega) ?_ | refine k_ald (by first | assumption | omega) (by first | assumption | exact rfl) (by omega) (by omega) (by omega) (by first | assumption | ((try simp (disch := omega) only [sr_s, sr_a, sr_sr, u1_s, u1_k, p37]); exact rfl)) ?_ | refine k_ifT (by first | (simp (disch := omega) only [w32_id]; first | done | omega) | omega) ?_ | refine k_ifF (by first | (simp (disch := omega) only [w32_id]; first | done | omega) | omega) ?_ | refine k_pf (by first | assumption | omega) (by (try simp (disch := omega) only [sr_s, sr_a, sr_sr, u1_u1, p37]); exact rfl) ?_ | refine k_ast (by first | assumption | omega) (by first | assumption | exact rfl) (by omega) (by omega) (by omega) (by (try simp (disch := omega) only [sr_s, sr_a, sr_sr, u1_u1, p37]); exact rfl) ?_ | refine k_irm (by omega) (by omega) (by omega) (by omega) ?_ | refine k_idv (by omega) (by omega) (by omega) (by omega) ?_ | refine k_tk (by first | assumption | omega) ?_ | refine k_rp (by omega) ?_ | refine k_aldR (by first | assumption | omega) (by first | assumption | exact rfl) (by omega) (by omega) (by omega) (by first | assumption | ((try simp (disch := omega) only [sr_s, sr_a, sr_sr, u1_s, u1_k, p37]); exact rfl)) (by omega) ?_ | refine k_astR (by first | assumption | omega) (by first | assumption | exact rfl) (by omega) (by omega) (by omega) (by first | assumption | omega) (by (try simp (disch := omega) only [sr_s, sr_a, sr_sr, u1_u1, p37]); exact rfl) ?_ | refine k_pz (by first | assumption | omega) (by omega) (by (try simp (disch := omega) only [sr_s, sr_a, sr_sr, u1_u1, p37]); exact rfl) ?_ | refine k_alen (by first | assumption | omega) (by first | assumption | exact rfl) ?_ | refine k_cpy (by first | assumption | omega) (by first | assumption | omega) (by first | assumption | exact rfl) (by first | assumption | exact rfl) (by omega) (by omega) (by omega) (by omega) (by omega) (by omega) (by omega) (by omega) (by (try simp (disch := omega) only [sr_s, sr_a, sr_sr, u1_u1, p37]); exact rfl) ?_)
                exact Ok.ret ⟨by dsimp only; omega, y0, y1, hy, hext _ (Int.le_refl _) (fun _ => by omega)⟩
            · refine k_ifT (by decide) ?_
              exact Ok.ret ⟨by dsimp only; omega, y0, y1, hy, hext _ (Int.le_refl _) (fun z => absurd z he)⟩
          · rintro ⟨y, j⟩ ⟨e, y0, y1, hy, hle⟩
            dsimp only at e y0 y1 hy hle ⊢
            subst e
            unfold M_X11_ink_b225
            refine k_gr k124 (v := rg) r3' (by omega) (k_eq hal ?_)
            refine k_ifF (by rw [w32_id (by omega) (by omega), w32_id (by omega) (by omega)]; omega) ?_
            exact Ok.ret ⟨hy, fun q hq he => hle q hq (by have := idx_b a1 a2 b2 hq; omega) he⟩
        · rintro y ⟨hy, hle⟩
          have hxy : x = y := wy_eq a1 a2 hcb hfr hx hx2 hy (fun n q w he hq => Int.le_trans (hle q (wyF_in n q w hq) he) (hdone q n w hq))
          subst hxy
          unfold M_X11_ink_p273
          exact e_good hG hq2
    unfold M_X11_ink_p59
    by_cases y : M1 126 (36 * t + idx (M rg 0) (ipC p)) = k
    · rw [if_pos y] at hcv
      rw [hcv] at key
      repeat' (with_reducible first | refine k_gf (by first | assumption | omega) (by first | assumption | ((try simp (disch := omega) only [sr_s, sr_a, sr_sr, u1_s, u1_k, p17, p37]); exact rfl)) ?_ | refine k_gr (by first | assumption | omega) (by first | assumption | ((try simp (disch := omega) only [sr_s, sr_a, sr_sr, u1_s, u1_k, p17, p37]); exact rfl)) (by omega) ?_ | refine k_ald (by first | assumption | omega) (by first | assumption | exact rfl) (by omega) (by omega) (by omega) (by first | assumption | ((try simp (disch := omega) only [sr_s, sr_a, sr_sr, u1_s, u1_k, p17, p37]); exact rfl)) ?_ | refine k_eq (hpo) ?_ | refine k_ifT (by first | (simp (disch := omega) only [w32_id]; first | done | omega) | omega) ?_ | refine k_ifF (by first | (simp (disch := omega) only [w32_id]; first | done | omega) | omega) ?_ | refine k_pf (by first | assumption | omega) (by (try simp (disch := omega) only [sr_s, sr_a, sr_sr, u1_u1, p17, p37]); exact rfl) ?_ | refine k_ast (by first | assumption | omega) (by first | assumption | exact rfl) (by omega) (by omega) (by omega) (by (try simp (disch := omega) only [sr_s, sr_a, sr_sr, u1_u1, p17, p37]); exact rfl) ?_ | refine k_irm (by omega) (by omega) (by omega) (by omega) ?_ | refine k_idv (by omega) (by omega) (by omega) (by omega) ?_ | refine k_tk (by first | assumption | omega) ?_ | refine k_rp (by omega) ?_ | refine k_aldR (by first | assumption | omega) (by first | assumption | exact rfl) (by omega) (by omega) (by omega) (by first | assumption | ((try simp (disch := omega) only [sr_s, sr_a, sr_sr, u1_s, u1_k, p17, p37]); exact rfl)) (by omega) ?_ | refine k_astR (by first | assumption | omega) (by first | assumption | exact rfl) (by omega) (by omega) (by omega) (by first | assumption | omega) (by (try simp (disch := omega) only [sr_s, sr_a, sr_sr, u1_u1, p17, p37]); exact rfl) ?_ | refine k_pz (by first | assumption | omega) (by omega) (by (try simp (disch := omega) only [sr_s, sr_a, sr_sr, u1_u1, p17, p37]); exact rfl) ?_ | refine k_alen (by first | assumption | omega) (by first | assumption | exact rfl) ?_ | refine k_cpy (by first | assumption | omega) (by first | assumption | omega) (by first | assumption | exact rfl) (by first | assumption | exact rfl) (by omega) (by omega) (by omega) (by omega) (by omega) (by omega) (by omega) (by omega) (by (try simp (disch := omega) only [sr_s, sr_a, sr_sr, u1_u1, p17, p37]); exact rfl) ?_)
      exact key
    · rw [if_neg y] at hcv
      rw [hcv] at key
      repeat' (with_reducible first | refine k_gf (by first | assumption | omega) (by first | assumption | ((try simp (disch := omega) only [sr_s, sr_a, sr_sr, u1_s, u1_k, p17, p37]); exact rfl)) ?_ | refine k_gr (by first | assumption | omega) (by first | assumption | ((try simp (disch := omega) only [sr_s, sr_a, sr_sr, u1_s, u1_k, p17, p37]); exact rfl)) (by omega) ?_ | refine k_ald (by first | assumption | omega) (by first | assumption | exact rfl) (by omega) (by omega) (by omega) (by first | assumption | ((try simp (disch := omega) only [sr_s, sr_a, sr_sr, u1_s, u1_k, p17, p37]); exact rfl)) ?_ | refine k_eq (hpo) ?_ | refine k_ifT (by first | (simp (disch := omega) only [w32_id]; first | done | omega) | omega) ?_ | refine k_ifF (by first | (simp (disch := omega) only [w32_id]; first | done | omega) | omega) ?_ | refine k_pf (by first | assumption | omega) (by (try simp (disch := omega) only [sr_s, sr_a, sr_sr, u1_u1, p17, p37]); exact rfl) ?_ | refine k_ast (by first | assumption | omega) (by first | assumption | exact rfl) (by omega) (by omega) (by omega) (by (try simp (disch := omega) only [sr_s, sr_a, sr_sr, u1_u1, p17, p37]); exact rfl) ?_ | refine k_irm (by omega) (by omega) (by omega) (by omega) ?_ | refine k_idv (by omega) (by omega) (by omega) (by omega) ?_ | refine k_tk (by first | assumption | omega) ?_ | refine k_rp (by omega) ?_ | refine k_aldR (by first | assumption | omega) (by first | assumption | exact rfl) (by omega) (by omega) (by omega) (by first | assumption | ((try simp (disch := omega) only [sr_s, sr_a, sr_sr, u1_s, u1_k, p17, p37]); exact rfl)) (by omega) ?_ | refine k_astR (by first | assumption | omega) (by first | assumption | exact rfl) (by omega) (by omega) (by omega) (by first | assumption | omega) (by (try simp (disch := omega) only [sr_s, sr_a, sr_sr, u1_u1, p17, p37]); exact rfl) ?_ | refine k_pz (by first | assumption | omega) (by omega) (by (try simp (disch := omega) only [sr_s, sr_a, sr_sr, u1_u1, p17, p37]); exact rfl) ?_ | refine k_alen (by first | assumption | omega) (by first | assumption | exact rfl) ?_ | refine k_cpy (by first | assumption | omega) (by first | assumption | omega) (by first | assumption | exact rfl) (by first | assumption | exact rfl) (by omega) (by omega) (by omega) (by omega) (by omega) (by omega) (by omega) (by omega) (by (try simp (disch := omega) only [sr_s, sr_a, sr_sr, u1_u1, p17, p37]); exact rfl) ?_)
      exact key
theorem q_ink (h : Inv M G) (ht : i32 t) (hp : i32 p) (hk : i32 k) : Both M G (fun h => M_X9_ink h 0 t p k) (fun h => M_X11_ink h 124 t p k) := by
  obtain ⟨htr, td, r, h0⟩ := h
  have hG := h0.1.1
  have ht' := ht
  have hp' := hp
  have hk' := hk
  unfold i32 at ht' hp' hk'
  have hh := h0.tw
  have hp0 := h0.1.2.1
  have hp117 := h0.2.1.2.2.2.2.2.2.1
  have htd : td = 2 ∨ td = 13 := h0.1.2.2.1
  obtain ⟨m3, m4, m5⟩ := h0.now
  have p4 := pr0.p4 hp0
  have p11 := pr0.p11 hp0
  have p0 := pr117.p0 hp117
  have k0 := gk_0 hG
  have k24 := gk_24 hG
  have k25 := gk_25 hG
  have l25 := gl_25 hG
  have k117 := gk_117 hG
  have k118 := gk_118 hG
  have l118 := gl_118 hG
  have k124 := gk_124 hG
  unfold M_X9_ink M_X11_ink
  by_cases c : 0 ≤ t ∧ t < M 24 2
  · obtain ⟨rg, hR⟩ := h0.ring (by omega)
    have hmk := hR.mk
    by_cases c2 : plC (M 24 0) (M 24 1) p
    · by_cases c3 : 0 ≤ k ∧ k < M td 0
      · obtain ⟨a1, a2, b1, b2, t1, t6, k2, k6, -, -, -, -, -, -, hce⟩ := hR.cl.2.2.2.2.1
        have hin := ipC_in c2 a2
        have p0' := c2.1
        generalize hN : sr M 118 (cp1 (M 118) (M 25) (36 * t) 0 36) = N
        have g : ∀ a, a ≠ 118 → N a = M a := fun a ha => by rw [← hN, sr_a _ _ ha]
        have g118 : ∀ q, inV (M 24 0) (M 24 1) q → N 118 q = M 25 (36 * t + q) := fun q hq => by
          have := inV_36 a2 b2 hq
          rw [← hN, sr_s]; unfold cp1; rw [if_pos (by omega)]
          congr 1; omega
        have gb : ∀ i, 0 ≤ N 118 i ∧ N 118 i ≤ 9 := fun i => by
          rw [← hN, sr_s]; unfold cp1
          split
          · have := hce (36 * t + (i - 0)); omega
          · exact h0.2.1.2.2.2.2.2.2.2.2.1 i
        have g24 := g 24 (by omega)
        have hli := X2_leastInk_ok (M := N) (mk := k) (p := ipC p) hG (by rw [g 117 (by omega)]; exact hp117) (by rw [g24]; exact a1) (by rw [g24]; exact a2) (by rw [g24]; exact b1) (by rw [g24]; exact b2) c3.1 (by omega) gb (by rw [g24]; exact hin)
        obtain ⟨_, eli, M1, x, rfl, f1, hx, hx2⟩ := hli
        rw [g24] at hx hx2
        have hq1 : cQ M M1 := by
          obtain ⟨v1, v2, v3, v4, v5, v6, v7, v8, v9, v10⟩ := h0.2.1
          have w : ∀ a, (a ≠ 118 ∧ a ≠ 121) → M1 a = M a := fun a ha => (f1 a ha.2).trans (g a ha.1)
          refine ⟨fun a ha => w a (by omega), fun j hj => by rw [w 0 (by omega)], ?_, ?_, ?_, ?_, ?_, ?_, ?_, ?_, ?_, ?_⟩
          · unfold shW mW zoW at *; simp (disch := omega) only [w]; exact v1
          · unfold shW mW zoW at *; simp (disch := omega) only [w]; exact v2
          · unfold chI at *; simp (disch := omega) only [w]; exact v3
          · rw [w 106 (by omega)]; exact v4
          · rw [w 111 (by omega)]; exact v5
          · rw [w 111 (by omega)]; exact v6
          · rw [w 117 (by omega)]; exact v7
          · rw [w 123 (by omega)]; exact v8
          · rw [f1 118 (by omega)]; exact gb
          · rw [w 122 (by omega)]; exact v10
        refine Both.go h0 x 0 (by omega) (by omega) (by omega) ?_ (fun M2 h2 f => ?_)
        · have n0 : N 0 = M 0 := g 0 (by omega)
          repeat' (with_reducible first | refine k_gf (by first | assumption | omega) (by first | assumption | ((try simp (disch := omega) only [sr_s, sr_a, sr_sr, u1_s, u1_k, p4, m3, p11, p0]); exact rfl)) ?_ | refine k_gr (by first | assumption | omega) (by first | assumption | ((try simp (disch := omega) only [sr_s, sr_a, sr_sr, u1_s, u1_k, p4, m3, p11, p0]); exact rfl)) (by omega) ?_ | refine k_ald (by first | assumption | omega) (by first | assumption | exact rfl) (by omega) (by omega) (by omega) (by first | assumption | ((try simp (disch := omega) only [sr_s, sr_a, sr_sr, u1_s, u1_k, p4, m3, p11, p0]); exact rfl)) ?_ | refine k_eq (X9_isTown_T h0 ht c) ?_ | refine k_eq (X9_isPlace_T h0 hp c2) ?_ | refine k_eq (X9_isMark_T h0 hk (by omega) c3) ?_ | refine k_ifT (by first | (simp (disch := omega) only [w32_id]; first | done | omega) | omega) ?_ | refine k_ifF (by first | (simp (disch := omega) only [w32_id]; first | done | omega) | omega) ?_ | refine k_pf (by first | assumption | omega) (by (try simp (disch := omega) only [sr_s, sr_a, sr_sr, u1_u1, p4, m3, p11, p0]); exact rfl) ?_ | refine k_ast (by first | assumption | omega) (by first | assumption | exact rfl) (by omega) (by omega) (by omega) (by (try simp (disch := omega) only [sr_s, sr_a, sr_sr, u1_u1, p4, m3, p11, p0]); exact rfl) ?_ | refine k_irm (by omega) (by omega) (by omega) (by omega) ?_ | refine k_idv (by omega) (by omega) (by omega) (by omega) ?_ | refine k_tk (by first | assumption | omega) ?_ | refine k_rp (by omega) ?_ | refine k_aldR (by first | assumption | omega) (by first | assumption | exact rfl) (by omega) (by omega) (by omega) (by first | assumption | ((try simp (disch := omega) only [sr_s, sr_a, sr_sr, u1_s, u1_k, p4, m3, p11, p0]); exact rfl)) (by omega) ?_ | refine k_astR (by first | assumption | omega) (by first | assumption | exact rfl) (by omega) (by omega) (by omega) (by first | assumption | omega) (by (try simp (disch := omega) only [sr_s, sr_a, sr_sr, u1_u1, p4, m3, p11, p0]); exact rfl) ?_ | refine k_pz (by first | assumption | omega) (by omega) (by (try simp (disch := omega) only [sr_s, sr_a, sr_sr, u1_u1, p4, m3, p11, p0]); exact rfl) ?_ | refine k_alen (by first | assumption | omega) (by first | assumption | exact rfl) ?_ | refine k_cpy (by first | assumption | omega) (by first | assumption | omega) (by first | assumption | exact rfl) (by first | assumption | exact rfl) (by omega) (by omega) (by omega) (by omega) (by omega) (by omega) (by omega) (by omega) (by (try simp (disch := omega) only [sr_s, sr_a, sr_sr, u1_u1, p4, m3, p11, p0]); exact rfl) ?_ | refine k_if (by (try simp (disch := omega) only [w32_id]); exact Iff.rfl) (fun c => ?_) (fun c => ?_))
          rw [hN]
          repeat' (with_reducible first | refine k_gf (by first | assumption | omega) (by first | assumption | ((try simp (disch := omega) only [sr_s, sr_a, sr_sr, u1_s, u1_k, n0, p4, p11]); exact rfl)) ?_ | refine k_gr (by first | assumption | omega) (by first | assumption | ((try simp (disch := omega) only [sr_s, sr_a, sr_sr, u1_s, u1_k, n0, p4, p11]); exact rfl)) (by omega) ?_ | refine k_ald (by first | assumption | omega) (by first | assumption | exact rfl) (by omega) (by omega) (by omega) (by first | assumption | ((try simp (disch := omega) only [sr_s, sr_a, sr_sr, u1_s, u1_k, n0, p4, p11]); exact rfl)) ?_ | refine k_eq (X9_inner_ok p0' hp) ?_ | refine k_ifT (by first | (simp (disch := omega) only [w32_id]; first | done | omega) | omega) ?_ | refine k_ifF (by first | (simp (disch := omega) only [w32_id]; first | done | omega) | omega) ?_ | refine k_pf (by first | assumption | omega) (by (try simp (disch := omega) only [sr_s, sr_a, sr_sr, u1_u1, n0, p4, p11]); exact rfl) ?_ | refine k_ast (by first | assumption | omega) (by first | assumption | exact rfl) (by omega) (by omega) (by omega) (by (try simp (disch := omega) only [sr_s, sr_a, sr_sr, u1_u1, n0, p4, p11]); exact rfl) ?_ | refine k_irm (by omega) (by omega) (by omega) (by omega) ?_ | refine k_idv (by omega) (by omega) (by omega) (by omega) ?_ | refine k_tk (by first | assumption | omega) ?_ | refine k_rp (by omega) ?_ | refine k_aldR (by first | assumption | omega) (by first | assumption | exact rfl) (by omega) (by omega) (by omega) (by first | assumption | ((try simp (disch := omega) only [sr_s, sr_a, sr_sr, u1_s, u1_k, n0, p4, p11]); exact rfl)) (by omega) ?_ | refine k_astR (by first | assumption | omega) (by first | assumption | exact rfl) (by omega) (by omega) (by omega) (by first | assumption | omega) (by (try simp (disch := omega) only [sr_s, sr_a, sr_sr, u1_u1, n0, p4, p11]); exact rfl) ?_ | refine k_pz (by first | assumption | omega) (by omega) (by (try simp (disch := omega) only [sr_s, sr_a, sr_sr, u1_u1, n0, p4, p11]); exact rfl) ?_ | refine k_alen (by first | assumption | omega) (by first | assumption | exact rfl) ?_ | refine k_cpy (by first | assumption | omega) (by first | assumption | omega) (by first | assumption | exact rfl) (by first | assumption | exact rfl) (by omega) (by omega) (by omega) (by omega) (by omega) (by omega) (by omega) (by omega) (by (try simp (disch := omega) only [sr_s, sr_a, sr_sr, u1_u1, n0, p4, p11]); exact rfl) ?_ | refine k_if (by (try simp (disch := omega) only [w32_id]); exact Iff.rfl) (fun c => ?_) (fun c => ?_))
          refine k_bd eli ?_
          exact e_ans hG hq1
        · have f24 : M2 24 = M 24 := f 24 (by omega)
          have ftd : M2 td = M td := f td (by omega)
          have c' : 0 ≤ t ∧ t < M2 24 2 := by rw [f24]; exact c
          have c2' : plC (M2 24 0) (M2 24 1) p := by rw [f24]; exact c2
          obtain ⟨rg2, hR2⟩ := h2.ring (by omega)
          have c3' : 0 ≤ k ∧ k < M2 td 0 := by rw [ftd]; exact c3
          obtain ⟨e0, e1, -, -, -, hc1, -⟩ := hR2.cl
          have e0' : M2 rg2 0 = M 24 0 := by rw [e0, f24]
          have e1' : M2 rg2 1 = M 24 1 := by rw [e1, f24]
          have hw6 := hR2.2.2.2.2.2.2.2.2.2.1.2.2.2.2.2
          repeat' (with_reducible first | refine k_gf (by first | assumption | omega) (by first | assumption | ((try simp (disch := omega) only [sr_s, sr_a, sr_sr, u1_s, u1_k]); exact rfl)) ?_ | refine k_gr (by first | assumption | omega) (by first | assumption | ((try simp (disch := omega) only [sr_s, sr_a, sr_sr, u1_s, u1_k]); exact rfl)) (by omega) ?_ | refine k_ald (by first | assumption | omega) (by first | assumption | exact rfl) (by omega) (by omega) (by omega) (by first | assumption | ((try simp (disch := omega) only [sr_s, sr_a, sr_sr, u1_s, u1_k]); exact rfl)) ?_ | refine k_eq (X11_isPlace_T h2 ht hp c' c2') ?_ | refine k_eq (X11_mark_T hR2 hG hk c3') ?_ | refine k_ifT (by first | (simp (disch := omega) only [w32_id]; first | done | omega) | omega) ?_ | refine k_ifF (by first | (simp (disch := omega) only [w32_id]; first | done | omega) | omega) ?_ | refine k_pf (by first | assumption | omega) (by (try simp (disch := omega) only [sr_s, sr_a, sr_sr, u1_u1]); exact rfl) ?_ | refine k_ast (by first | assumption | omega) (by first | assumption | exact rfl) (by omega) (by omega) (by omega) (by (try simp (disch := omega) only [sr_s, sr_a, sr_sr, u1_u1]); exact rfl) ?_ | refine k_irm (by omega) (by omega) (by omega) (by omega) ?_ | refine k_idv (by omega) (by omega) (by omega) (by omega) ?_ | refine k_tk (by first | assumption | omega) ?_ | refine k_rp (by omega) ?_ | refine k_aldR (by first | assumption | omega) (by first | assumption | exact rfl) (by omega) (by omega) (by omega) (by first | assumption | ((try simp (disch := omega) only [sr_s, sr_a, sr_sr, u1_s, u1_k]); exact rfl)) (by omega) ?_ | refine k_astR (by first | assumption | omega) (by first | assumption | exact rfl) (by omega) (by omega) (by omega) (by first | assumption | omega) (by (try simp (disch := omega) only [sr_s, sr_a, sr_sr, u1_u1]); exact rfl) ?_ | refine k_pz (by first | assumption | omega) (by omega) (by (try simp (disch := omega) only [sr_s, sr_a, sr_sr, u1_u1]); exact rfl) ?_ | refine k_alen (by first | assumption | omega) (by first | assumption | exact rfl) ?_ | refine k_cpy (by first | assumption | omega) (by first | assumption | omega) (by first | assumption | exact rfl) (by first | assumption | exact rfl) (by omega) (by omega) (by omega) (by omega) (by omega) (by omega) (by omega) (by omega) (by (try simp (disch := omega) only [sr_s, sr_a, sr_sr, u1_u1]); exact rfl) ?_ | refine k_if (by (try simp (disch := omega) only [w32_id]); exact Iff.rfl) (fun c => ?_) (fun c => ?_))
          refine X11_ink_go (c := csV k (N 118)) hG h2.2.2.1.1 h2.2.2.1.2 (hR2.B hG) c3.1 (by omega) c.1 (by omega) (fun i i0 i1 => ?_) (fun q hq => ?_) (fun q => csV_b) hp (by rw [e0', e1']; exact c2) (by rw [e0', e1']; exact hx) (by rw [e0', e1']; exact hx2)
          · have := hw6 i i0 i1
            rw [Int.zero_add] at this
            exact this
          · rw [e0', e1'] at hq
            have := hc1 t q c.1 (by omega) (by rw [f24]; exact hq)
            rw [e0', ← f24, this]
            unfold csV
            rw [g118 q hq, f 25 (by omega)]
      · refine Both.go h0 (-1) 1 (by omega) (by omega) (by omega) ?_ (fun M2 h2 f => ?_)
        · repeat' (with_reducible first | refine k_gf (by first | assumption | omega) (by first | assumption | ((try simp (disch := omega) only [sr_s, sr_a, sr_sr, u1_s, u1_k]); exact rfl)) ?_ | refine k_gr (by first | assumption | omega) (by first | assumption | ((try simp (disch := omega) only [sr_s, sr_a, sr_sr, u1_s, u1_k]); exact rfl)) (by omega) ?_ | refine k_ald (by first | assumption | omega) (by first | assumption | exact rfl) (by omega) (by omega) (by omega) (by first | assumption | ((try simp (disch := omega) only [sr_s, sr_a, sr_sr, u1_s, u1_k]); exact rfl)) ?_ | refine k_eq (X9_isTown_T h0 ht c) ?_ | refine k_eq (X9_isPlace_T h0 hp c2) ?_ | refine k_eq (X9_isMark_F h0 hk (by omega) c3) ?_ | refine k_ifT (by first | (simp (disch := omega) only [w32_id]; first | done | omega) | omega) ?_ | refine k_ifF (by first | (simp (disch := omega) only [w32_id]; first | done | omega) | omega) ?_ | refine k_pf (by first | assumption | omega) (by (try simp (disch := omega) only [sr_s, sr_a, sr_sr, u1_u1]); exact rfl) ?_ | refine k_ast (by first | assumption | omega) (by first | assumption | exact rfl) (by omega) (by omega) (by omega) (by (try simp (disch := omega) only [sr_s, sr_a, sr_sr, u1_u1]); exact rfl) ?_ | refine k_irm (by omega) (by omega) (by omega) (by omega) ?_ | refine k_idv (by omega) (by omega) (by omega) (by omega) ?_ | refine k_tk (by first | assumption | omega) ?_ | refine k_rp (by omega) ?_ | refine k_aldR (by first | assumption | omega) (by first | assumption | exact rfl) (by omega) (by omega) (by omega) (by first | assumption | ((try simp (disch := omega) only [sr_s, sr_a, sr_sr, u1_s, u1_k]); exact rfl)) (by omega) ?_ | refine k_astR (by first | assumption | omega) (by first | assumption | exact rfl) (by omega) (by omega) (by omega) (by first | assumption | omega) (by (try simp (disch := omega) only [sr_s, sr_a, sr_sr, u1_u1]); exact rfl) ?_ | refine k_pz (by first | assumption | omega) (by omega) (by (try simp (disch := omega) only [sr_s, sr_a, sr_sr, u1_u1]); exact rfl) ?_ | refine k_alen (by first | assumption | omega) (by first | assumption | exact rfl) ?_ | refine k_cpy (by first | assumption | omega) (by first | assumption | omega) (by first | assumption | exact rfl) (by first | assumption | exact rfl) (by omega) (by omega) (by omega) (by omega) (by omega) (by omega) (by omega) (by omega) (by (try simp (disch := omega) only [sr_s, sr_a, sr_sr, u1_u1]); exact rfl) ?_ | refine k_if (by (try simp (disch := omega) only [w32_id]); exact Iff.rfl) (fun c => ?_) (fun c => ?_))
          exact e_ref hG (cQ.refl h0.2.1)
        · have f24 : M2 24 = M 24 := f 24 (by omega)
          have ftd : M2 td = M td := f td (by omega)
          have c' : 0 ≤ t ∧ t < M2 24 2 := by rw [f24]; exact c
          have c2' : plC (M2 24 0) (M2 24 1) p := by rw [f24]; exact c2
          obtain ⟨rg2, hR2⟩ := h2.ring (by omega)
          have c3' : ¬ (0 ≤ k ∧ k < M2 td 0) := by rw [ftd]; exact c3
          repeat' (with_reducible first | refine k_gf (by first | assumption | omega) (by first | assumption | ((try simp (disch := omega) only [sr_s, sr_a, sr_sr, u1_s, u1_k]); exact rfl)) ?_ | refine k_gr (by first | assumption | omega) (by first | assumption | ((try simp (disch := omega) only [sr_s, sr_a, sr_sr, u1_s, u1_k]); exact rfl)) (by omega) ?_ | refine k_ald (by first | assumption | omega) (by first | assumption | exact rfl) (by omega) (by omega) (by omega) (by first | assumption | ((try simp (disch := omega) only [sr_s, sr_a, sr_sr, u1_s, u1_k]); exact rfl)) ?_ | refine k_eq (X11_isPlace_T h2 ht hp c' c2') ?_ | refine k_eq (X11_mark_F hR2 hG hk c3') ?_ | refine k_ifT (by first | (simp (disch := omega) only [w32_id]; first | done | omega) | omega) ?_ | refine k_ifF (by first | (simp (disch := omega) only [w32_id]; first | done | omega) | omega) ?_ | refine k_pf (by first | assumption | omega) (by (try simp (disch := omega) only [sr_s, sr_a, sr_sr, u1_u1]); exact rfl) ?_ | refine k_ast (by first | assumption | omega) (by first | assumption | exact rfl) (by omega) (by omega) (by omega) (by (try simp (disch := omega) only [sr_s, sr_a, sr_sr, u1_u1]); exact rfl) ?_ | refine k_irm (by omega) (by omega) (by omega) (by omega) ?_ | refine k_idv (by omega) (by omega) (by omega) (by omega) ?_ | refine k_tk (by first | assumption | omega) ?_ | refine k_rp (by omega) ?_ | refine k_aldR (by first | assumption | omega) (by first | assumption | exact rfl) (by omega) (by omega) (by omega) (by first | assumption | ((try simp (disch := omega) only [sr_s, sr_a, sr_sr, u1_s, u1_k]); exact rfl)) (by omega) ?_ | refine k_astR (by first | assumption | omega) (by first | assumption | exact rfl) (by omega) (by omega) (by omega) (by first | assumption | omega) (by (try simp (disch := omega) only [sr_s, sr_a, sr_sr, u1_u1]); exact rfl) ?_ | refine k_pz (by first | assumption | omega) (by omega) (by (try simp (disch := omega) only [sr_s, sr_a, sr_sr, u1_u1]); exact rfl) ?_ | refine k_alen (by first | assumption | omega) (by first | assumption | exact rfl) ?_ | refine k_cpy (by first | assumption | omega) (by first | assumption | omega) (by first | assumption | exact rfl) (by first | assumption | exact rfl) (by omega) (by omega) (by omega) (by omega) (by omega) (by omega) (by omega) (by omega) (by (try simp (disch := omega) only [sr_s, sr_a, sr_sr, u1_u1]); exact rfl) ?_ | refine k_if (by (try simp (disch := omega) only [w32_id]); exact Iff.rfl) (fun c => ?_) (fun c => ?_))
          exact e_rref hG (rQ.refl h2.2.2.1.2)
    · refine Both.go h0 (-1) 1 (by omega) (by omega) (by omega) ?_ (fun M2 h2 f => ?_)
      · repeat' (with_reducible first | refine k_gf (by first | assumption | omega) (by first | assumption | ((try simp (disch := omega) only [sr_s, sr_a, sr_sr, u1_s, u1_k]); exact rfl)) ?_ | refine k_gr (by first | assumption | omega) (by first | assumption | ((try simp (disch := omega) only [sr_s, sr_a, sr_sr, u1_s, u1_k]); exact rfl)) (by omega) ?_ | refine k_ald (by first | assumption | omega) (by first | assumption | exact rfl) (by omega) (by omega) (by omega) (by first | assumption | ((try simp (disch := omega) only [sr_s, sr_a, sr_sr, u1_s, u1_k]); exact rfl)) ?_ | refine k_eq (X9_isTown_T h0 ht c) ?_ | refine k_eq (X9_isPlace_F h0 hp c2) ?_ | refine k_ifT (by first | (simp (disch := omega) only [w32_id]; first | done | omega) | omega) ?_ | refine k_ifF (by first | (simp (disch := omega) only [w32_id]; first | done | omega) | omega) ?_ | refine k_pf (by first | assumption | omega) (by (try simp (disch := omega) only [sr_s, sr_a, sr_sr, u1_u1]); exact rfl) ?_ | refine k_ast (by first | assumption | omega) (by first | assumption | exact rfl) (by omega) (by omega) (by omega) (by (try simp (disch := omega) only [sr_s, sr_a, sr_sr, u1_u1]); exact rfl) ?_ | refine k_irm (by omega) (by omega) (by omega) (by omega) ?_ | refine k_idv (by omega) (by omega) (by omega) (by omega) ?_ | refine k_tk (by first | assumption | omega) ?_ | refine k_rp (by omega) ?_ | refine k_aldR (by first | assumption | omega) (by first | assumption | exact rfl) (by omega) (by omega) (by omega) (by first | assumption | ((try simp (disch := omega) only [sr_s, sr_a, sr_sr, u1_s, u1_k]); exact rfl)) (by omega) ?_ | refine k_astR (by first | assumption | omega) (by first | assumption | exact rfl) (by omega) (by omega) (by omega) (by first | assumption | omega) (by (try simp (disch := omega) only [sr_s, sr_a, sr_sr, u1_u1]); exact rfl) ?_ | refine k_pz (by first | assumption | omega) (by omega) (by (try simp (disch := omega) only [sr_s, sr_a, sr_sr, u1_u1]); exact rfl) ?_ | refine k_alen (by first | assumption | omega) (by first | assumption | exact rfl) ?_ | refine k_cpy (by first | assumption | omega) (by first | assumption | omega) (by first | assumption | exact rfl) (by first | assumption | exact rfl) (by omega) (by omega) (by omega) (by omega) (by omega) (by omega) (by omega) (by omega) (by (try simp (disch := omega) only [sr_s, sr_a, sr_sr, u1_u1]); exact rfl) ?_ | refine k_if (by (try simp (disch := omega) only [w32_id]); exact Iff.rfl) (fun c => ?_) (fun c => ?_))
        exact e_ref hG (cQ.refl h0.2.1)
      · rw [← f 24 (by omega)] at c2
        have hnp := X11_isPlace_F h2 ht hp (fun z => c2 z.2)
        repeat' (with_reducible first | refine k_gf (by first | assumption | omega) (by first | assumption | ((try simp (disch := omega) only [sr_s, sr_a, sr_sr, u1_s, u1_k]); exact rfl)) ?_ | refine k_gr (by first | assumption | omega) (by first | assumption | ((try simp (disch := omega) only [sr_s, sr_a, sr_sr, u1_s, u1_k]); exact rfl)) (by omega) ?_ | refine k_ald (by first | assumption | omega) (by first | assumption | exact rfl) (by omega) (by omega) (by omega) (by first | assumption | ((try simp (disch := omega) only [sr_s, sr_a, sr_sr, u1_s, u1_k]); exact rfl)) ?_ | refine k_eq (hnp) ?_ | refine k_ifT (by first | (simp (disch := omega) only [w32_id]; first | done | omega) | omega) ?_ | refine k_ifF (by first | (simp (disch := omega) only [w32_id]; first | done | omega) | omega) ?_ | refine k_pf (by first | assumption | omega) (by (try simp (disch := omega) only [sr_s, sr_a, sr_sr, u1_u1]); exact rfl) ?_ | refine k_ast (by first | assumption | omega) (by first | assumption | exact rfl) (by omega) (by omega) (by omega) (by (try simp (disch := omega) only [sr_s, sr_a, sr_sr, u1_u1]); exact rfl) ?_ | refine k_irm (by omega) (by omega) (by omega) (by omega) ?_ | refine k_idv (by omega) (by omega) (by omega) (by omega) ?_ | refine k_tk (by first | assumption | omega) ?_ | refine k_rp (by omega) ?_ | refine k_aldR (by first | assumption | omega) (by first | assumption | exact rfl) (by omega) (by omega) (by omega) (by first | assumption | ((try simp (disch := omega) only [sr_s, sr_a, sr_sr, u1_s, u1_k]); exact rfl)) (by omega) ?_ | refine k_astR (by first | assumption | omega) (by first | assumption | exact rfl) (by omega) (by omega) (by omega) (by first | assumption | omega) (by (try simp (disch := omega) only [sr_s, sr_a, sr_sr, u1_u1]); exact rfl) ?_ | refine k_pz (by first | assumption | omega) (by omega) (by (try simp (disch := omega) only [sr_s, sr_a, sr_sr, u1_u1]); exact rfl) ?_ | refine k_alen (by first | assumption | omega) (by first | assumption | exact rfl) ?_ | refine k_cpy (by first | assumption | omega) (by first | assumption | omega) (by first | assumption | exact rfl) (by first | assumption | exact rfl) (by omega) (by omega) (by omega) (by omega) (by omega) (by omega) (by omega) (by omega) (by (try simp (disch := omega) only [sr_s, sr_a, sr_sr, u1_u1]); exact rfl) ?_ | refine k_if (by (try simp (disch := omega) only [w32_id]); exact Iff.rfl) (fun c => ?_) (fun c => ?_))
        exact e_rref hG (rQ.refl h2.2.2.1.2)
  · refine Both.go h0 (-1) 1 (by omega) (by omega) (by omega) ?_ (fun M2 h2 f => ?_)
    · repeat' (with_reducible first | refine k_gf (by first | assumption | omega) (by first | assumption | ((try simp (disch := omega) only [sr_s, sr_a, sr_sr, u1_s, u1_k]); exact rfl)) ?_ | refine k_gr (by first | assumption | omega) (by first | assumption | ((try simp (disch := omega) only [sr_s, sr_a, sr_sr, u1_s, u1_k]); exact rfl)) (by omega) ?_ | refine k_ald (by first | assumption | omega) (by first | assumption | exact rfl) (by omega) (by omega) (by omega) (by first | assumption | ((try simp (disch := omega) only [sr_s, sr_a, sr_sr, u1_s, u1_k]); exact rfl)) ?_ | refine k_eq (X9_isTown_F h0 ht c) ?_ | refine k_ifT (by first | (simp (disch := omega) only [w32_id]; first | done | omega) | omega) ?_ | refine k_ifF (by first | (simp (disch := omega) only [w32_id]; first | done | omega) | omega) ?_ | refine k_pf (by first | assumption | omega) (by (try simp (disch := omega) only [sr_s, sr_a, sr_sr, u1_u1]); exact rfl) ?_ | refine k_ast (by first | assumption | omega) (by first | assumption | exact rfl) (by omega) (by omega) (by omega) (by (try simp (disch := omega) only [sr_s, sr_a, sr_sr, u1_u1]); exact rfl) ?_ | refine k_irm (by omega) (by omega) (by omega) (by omega) ?_ | refine k_idv (by omega) (by omega) (by omega) (by omega) ?_ | refine k_tk (by first | assumption | omega) ?_ | refine k_rp (by omega) ?_ | refine k_aldR (by first | assumption | omega) (by first | assumption | exact rfl) (by omega) (by omega) (by omega) (by first | assumption | ((try simp (disch := omega) only [sr_s, sr_a, sr_sr, u1_s, u1_k]); exact rfl)) (by omega) ?_ | refine k_astR (by first | assumption | omega) (by first | assumption | exact rfl) (by omega) (by omega) (by omega) (by first | assumption | omega) (by (try simp (disch := omega) only [sr_s, sr_a, sr_sr, u1_u1]); exact rfl) ?_ | refine k_pz (by first | assumption | omega) (by omega) (by (try simp (disch := omega) only [sr_s, sr_a, sr_sr, u1_u1]); exact rfl) ?_ | refine k_alen (by first | assumption | omega) (by first | assumption | exact rfl) ?_ | refine k_cpy (by first | assumption | omega) (by first | assumption | omega) (by first | assumption | exact rfl) (by first | assumption | exact rfl) (by omega) (by omega) (by omega) (by omega) (by omega) (by omega) (by omega) (by omega) (by (try simp (disch := omega) only [sr_s, sr_a, sr_sr, u1_u1]); exact rfl) ?_ | refine k_if (by (try simp (disch := omega) only [w32_id]); exact Iff.rfl) (fun c => ?_) (fun c => ?_))
      exact e_ref hG (cQ.refl h0.2.1)
    · rw [← f 24 (by omega)] at c
      have hnp := X11_isPlace_F h2 ht hp (fun z => c z.1)
      repeat' (with_reducible first | refine k_gf (by first | assumption | omega) (by first | assumption | ((try simp (disch := omega) only [sr_s, sr_a, sr_sr, u1_s, u1_k]); exact rfl)) ?_ | refine k_gr (by first | assumption | omega) (by first | assumption | ((try simp (disch := omega) only [sr_s, sr_a, sr_sr, u1_s, u1_k]); exact rfl)) (by omega) ?_ | refine k_ald (by first | assumption | omega) (by first | assumption | exact rfl) (by omega) (by omega) (by omega) (by first | assumption | ((try simp (disch := omega) only [sr_s, sr_a, sr_sr, u1_s, u1_k]); exact rfl)) ?_ | refine k_eq (hnp) ?_ | refine k_ifT (by first | (simp (disch := omega) only [w32_id]; first | done | omega) | omega) ?_ | refine k_ifF (by first | (simp (disch := omega) only [w32_id]; first | done | omega) | omega) ?_ | refine k_pf (by first | assumption | omega) (by (try simp (disch := omega) only [sr_s, sr_a, sr_sr, u1_u1]); exact rfl) ?_ | refine k_ast (by first | assumption | omega) (by first | assumption | exact rfl) (by omega) (by omega) (by omega) (by (try simp (disch := omega) only [sr_s, sr_a, sr_sr, u1_u1]); exact rfl) ?_ | refine k_irm (by omega) (by omega) (by omega) (by omega) ?_ | refine k_idv (by omega) (by omega) (by omega) (by omega) ?_ | refine k_tk (by first | assumption | omega) ?_ | refine k_rp (by omega) ?_ | refine k_aldR (by first | assumption | omega) (by first | assumption | exact rfl) (by omega) (by omega) (by omega) (by first | assumption | ((try simp (disch := omega) only [sr_s, sr_a, sr_sr, u1_s, u1_k]); exact rfl)) (by omega) ?_ | refine k_astR (by first | assumption | omega) (by first | assumption | exact rfl) (by omega) (by omega) (by omega) (by first | assumption | omega) (by (try simp (disch := omega) only [sr_s, sr_a, sr_sr, u1_u1]); exact rfl) ?_ | refine k_pz (by first | assumption | omega) (by omega) (by (try simp (disch := omega) only [sr_s, sr_a, sr_sr, u1_u1]); exact rfl) ?_ | refine k_alen (by first | assumption | omega) (by first | assumption | exact rfl) ?_ | refine k_cpy (by first | assumption | omega) (by first | assumption | omega) (by first | assumption | exact rfl) (by first | assumption | exact rfl) (by omega) (by omega) (by omega) (by omega) (by omega) (by omega) (by omega) (by omega) (by (try simp (disch := omega) only [sr_s, sr_a, sr_sr, u1_u1]); exact rfl) ?_ | refine k_if (by (try simp (disch := omega) only [w32_id]); exact Iff.rfl) (fun c => ?_) (fun c => ?_))
      exact e_rref hG (rQ.refl h2.2.2.1.2)
end I4
