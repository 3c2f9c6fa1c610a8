/-! strokes, strokeAt -/
section SB
variable {M M1 M2 N N1 : Int → Int → Int} {G : GG} {td r rg t u p mark due n m L i : Int}
def otV (p : Int) : Int := 10 * (p % 6) + p / 6
/-- what the reference's search keeps -/
def soI (M N : Int → Int → Int) (bs : Int → Int) (L : Int) : Prop := rQ M N ∧ N 136 = bs ∧ N 124 36 = L
theorem X11_sta_q (h0 : Inv0 M G td r) (hR : isR M G td rg) (hq : rQ M N) : Inv0 N G td r ∧ isR N G td rg := ⟨h0.rf hq, hR.cg (fun a ha => hq.1 a (by omega)) (hq.2.1 3 (by omega) (by omega) (by omega) (by omega) (by omega) (by omega)) (hq.2.1 20 (by omega) (by omega) (by omega) (by omega) (by omega) (by omega)) (hq.2.1 21 (by omega) (by omega) (by omega) (by omega) (by omega) (by omega)) h0.1.2.2.1 h0.1.2.2.2.2.2.2.2.2.2.2.2.2.2.1⟩
theorem Wst_cg (f : ∀ a, (24 ≤ a ∧ a < 28) → N a = M a) (S : Int → Bool) : Wst N t mark u p due n S ↔ Wst M t mark u p due n S := by
  unfold Wst
  rw [f 24 (by omega), f 25 (by omega), f 26 (by omega), f 27 (by omega)]
/-- all picks of m places -/
theorem X11_many_ok (h0 : Inv0 M G td r) (hR : isR M G td rg) (ht : 0 ≤ t ∧ t < M 24 2) (hmk : 0 ≤ mark ∧ mark < 6) (hu : 0 ≤ u ∧ u < M 24 2) (hin : inV (M 24 0) (M 24 1) p) (hd : 0 ≤ due ∧ due < 6) (hn : 0 ≤ n ∧ n ≤ 12) {bs : Int → Int} (hl0 : 0 ≤ L) (hl36 : L ≤ 36) (hb : ∀ i, 0 ≤ i → i < L → 0 ≤ bs i ∧ bs i < M 24 0 * M 24 1) (hm : 1 ≤ m ∧ m ≤ 3) (hmL : m ≤ L) (hS : soI M N bs L) : Ok (M_X11_strokesOf_w35 FU (N, G) 124 t mark u (idx (M 24 0) p) due n m 0) (fun z => ∃ N1, soI M N1 bs L ∧ (z = .inl ((N1, G), m + 1) ∧ (∀ a b c, pkV L m a b c → ¬ Wst M t mark u p due n (pkD (fun i => inn (M 24 0) (bs i)) m a b c)) ∨ z = .inr (.inr ((N1, G), m)) ∧ ∃ a b c, pkV L m a b c ∧ Wst M t mark u p due n (pkD (fun i => inn (M 24 0) (bs i)) m a b c) ∧ (∀ a' b' c', pkV L m a' b' c' → pkL a' b' c' a b c → ¬ Wst M t mark u p due n (pkD (fun i => inn (M 24 0) (bs i)) m a' b' c')) ∧ pkM (N1 138) m (otV (inn (M 24 0) (bs a))) (otV (inn (M 24 0) (bs b))) (otV (inn (M 24 0) (bs c))))) := by
  have hG := h0.1.1
  obtain ⟨e0, e1, e2, e3, ⟨a1, a2, b1, b2, t1, t6, k2, k6, -⟩, -⟩ := hR.cl
  have hml := mul_b a1 a2 b1 b2
  have hrg := hR.2.1.1
  have k124 := gk_124 hG
  have k136 := gk_136 hG
  have l136 := gl_136 hG
  have k137 := gk_137 hG
  have l137 := gl_137 hG
  have k138 := gk_138 hG
  have l138 := gl_138 hG
  unfold M_X11_strokesOf_w35
  refine Ok.bind (Q := fun h => ∃ N1, h = (N1, G) ∧ soI M N1 bs L ∧ ∀ k, 0 ≤ k → k < m → N1 137 k = k) ?_ ?_
  · refine wh_for (fun i z => ∃ N1, z = ((N1, G), (i : Int)) ∧ soI M N1 bs L ∧ ∀ k, 0 ≤ k → k < (i : Int) → N1 137 k = k) _ m.toNat (by omega) ⟨N, rfl, hS, fun k k0 k1 => by omega⟩ ?_ ?_
    · rintro i _ hi ⟨N1, rfl, hS1, hv⟩
      have q32 : N1 124 32 = 137 := by rw [hS1.1.2.1 32 (by omega) (by omega) (by omega) (by omega) (by omega) (by omega)]; exact pr124.p32 h0.2.2.1.1
      unfold M_X11_strokesOf_b35
      dsimp only
      repeat' (with_reducible first | refine k_gf (by first | assumption | omega) (by first | assumption | ((try simp (disch := omega) only [sr_s, sr_a, sr_sr, u1_s, u1_k, q32]); exact rfl)) ?_ | refine k_gr (by first | assumption | omega) (by first | assumption | ((try simp (disch := omega) only [sr_s, sr_a, sr_sr, u1_s, u1_k, q32]); exact rfl)) (by omega) ?_ | refine k_ald (by first | assumption | omega) (by first | assumption | exact rfl) (by omega) (by omega) (by omega) (by first | assumption | ((try simp (disch := omega) only [sr_s, sr_a, sr_sr, u1_s, u1_k, q32]); exact rfl)) ?_ | refine k_ifT (by first | (simp (disch := omega) only [w32_id]; first | done | omega) | omega) ?_ | refine k_ifF (by first | (simp (disch := omega) only [w32_id]; first | done | omega) | omega) ?_ | refine k_pf (by first | assumption | omega) (by (try simp (disch := omega) only [sr_s, sr_a, sr_sr, u1_u1, q32]); exact rfl) ?_ | refine k_ast (by first | assumption | omega) (by first | assumption | exact rfl) (by omega) (by omega) (by omega) (by (try simp (disch := omega) only [sr_s, sr_a, sr_sr, u1_u1, q32]); exact rfl) ?_ | refine k_irm (by omega) (by omega) (by omega) (by omega) ?_ | refine k_idv (by omega) (by omega) (by omega) (by omega) ?_ | refine k_tk (by first | assumption | omega) ?_ | refine k_rp (by omega) ?_ | refine k_aldR (by first | assumption | omega) (by first | assumption | exact rfl) (by omega) (by omega) (by omega) (by first | assumption | ((try simp (disch := omega) only [sr_s, sr_a, sr_sr, u1_s, u1_k, q32]); exact rfl)) (by omega) ?_ | refine k_astR (by first | assumption | omega) (by first | assumption | exact rfl) (by omega) (by omega) (by omega) (by first | assumption | omega) (by (try simp (disch := omega) only [sr_s, sr_a, sr_sr, u1_u1, q32]); exact rfl) ?_ | refine k_pz (by first | assumption | omega) (by omega) (by (try simp (disch := omega) only [sr_s, sr_a, sr_sr, u1_u1, q32]); exact rfl) ?_ | refine k_alen (by first | assumption | omega) (by first | assumption | exact rfl) ?_ | refine k_cpy (by first | assumption | omega) (by first | assumption | omega) (by first | assumption | exact rfl) (by first | assumption | exact rfl) (by omega) (by omega) (by omega) (by omega) (by omega) (by omega) (by omega) (by omega) (by (try simp (disch := omega) only [sr_s, sr_a, sr_sr, u1_u1, q32]); exact rfl) ?_)
      refine Ok.ret ⟨_, rfl, ⟨hS1.1.trans ⟨fun a ha => sr_a _ _ (by omega), fun k _ _ _ _ _ _ => by rw [sr_a _ _ (by omega)], by rw [sr_a _ _ (by omega)]; exact hS1.1.2.2⟩, by rw [sr_a _ _ (by omega)]; exact hS1.2.1, by rw [sr_a _ _ (by omega)]; exact hS1.2.2⟩, fun k k0 k1 => ?_⟩
      rw [sr_s]
      by_cases y : k = (i : Int)
      · rw [u1_e _ _ y, y]
      · rw [u1_k _ _ y]; exact hv k k0 (by omega)
    · rintro _ ⟨N1, rfl, hS1, hv⟩
      unfold M_X11_strokesOf_b35
      dsimp only
      exact k_ifF (by rw [w32_id (by omega) (by omega), w32_id (by omega) (by omega)]; omega) (Ok.ret ⟨N1, rfl, hS1, fun k k0 k1 => hv k k0 (by omega)⟩)
  · rintro _ ⟨N1, rfl, hS1, hv⟩
    have hs0 := pk0_V hm hmL
    have hpk0 : pkM (N1 137) m 0 (if 2 ≤ m then 1 else 0) (if m = 3 then 2 else 0) := ⟨hv 0 (by omega) (by omega), fun z => by rw [if_pos z]; exact hv 1 (by omega) (by omega), fun z => by rw [if_pos z]; exact hv 2 (by omega) (by omega)⟩
    unfold M_X11_strokesOf_p57 M_X11_strokesOf_w60
    have hlo : Ok (wh (S := (Hp × Int)) (T := (Hp ⊕ (Hp × Int))) (fun a => M_X11_strokesOf_b60 a.1 124 t mark u (idx (M 24 0) p) due n m a.2) FU ((N1, G), 1)) (lo (fun h => ∃ N2, h = (N2, G) ∧ soI M N2 bs L ∧ ∀ a b c, pkV L m a b c → ¬ Wst M t mark u p due n (pkD (fun i => inn (M 24 0) (bs i)) m a b c)) (fun z => ∃ N2, z = ((N2, G), m) ∧ soI M N2 bs L ∧ ∃ a b c, pkV L m a b c ∧ Wst M t mark u p due n (pkD (fun i => inn (M 24 0) (bs i)) m a b c) ∧ (∀ a' b' c', pkV L m a' b' c' → pkL a' b' c' a b c → ¬ Wst M t mark u p due n (pkD (fun i => inn (M 24 0) (bs i)) m a' b' c')) ∧ pkM (N2 138) m (otV (inn (M 24 0) (bs a))) (otV (inn (M 24 0) (bs b))) (otV (inn (M 24 0) (bs c))))) := by
      refine wh_for (fun k s => ∃ N2 more, s = ((N2, G), more) ∧ soI M N2 bs L ∧ (more = 1 ∧ (∃ a b c, pkV L m a b c ∧ pkM (N2 137) m a b c ∧ pkR L m a b c + k ≤ 7139 ∧ ∀ a' b' c', pkV L m a' b' c' → pkL a' b' c' a b c → ¬ Wst M t mark u p due n (pkD (fun i => inn (M 24 0) (bs i)) m a' b' c')) ∨ more = 0 ∧ ∀ a b c, pkV L m a b c → ¬ Wst M t mark u p due n (pkD (fun i => inn (M 24 0) (bs i)) m a b c))) _ 7140 (by omega) ⟨N1, 1, rfl, hS1, Or.inl ⟨rfl, 0, (if 2 ≤ m then 1 else 0), (if m = 3 then 2 else 0), hs0, hpk0, by have := pkR_b hs0 hl36; omega, fun a b c hv hl => absurd hl (pk0_lt hv)⟩⟩ ?_ ?_
      · rintro k _ hk ⟨N2, more, rfl, hS2, hmo⟩
        unfold M_X11_strokesOf_b60
        dsimp only
        rcases hmo with ⟨rfl, a, b, c, hV, hpk, hR', hlt⟩ | ⟨rfl, hall⟩
        · refine k_ifF (by decide) ?_
          obtain ⟨h2, hR2⟩ := X11_sta_q h0 hR hS2.1
          have g24 : N2 24 = M 24 := hS2.1.1 24 (by omega)
          have g : ∀ x, (24 ≤ x ∧ x < 28) → N2 x = M x := fun x hx => hS2.1.1 x (by omega)
          have hst : ∀ k, 0 ≤ k → k < m → (0 ≤ N2 137 k ∧ N2 137 k < L) := fun k k0 k1 => by
            unfold pkV at hV
            unfold pkM at hpk
            have hk' : k = 0 ∨ k = 1 ∨ k = 2 := by omega
            rcases hk' with rfl | rfl | rfl
            · rw [hpk.1]; omega
            · rw [hpk.2.1 (by omega)]; omega
            · rw [hpk.2.2 (by omega)]; omega
          have hdr := X11_isDrawn_ok (N := N2) (S := pkD (fun i => inn (M 24 0) (bs i)) m a b c) (t := t) (u := u) (p := p) (mark := mark) (due := due) (n := n) (m := m) h2 hR2 (by rw [g24]; exact ht) hmk (by rw [g24]; exact hu) (by rw [g24]; exact hin) hd hn (by omega) (fun k k0 k1 => by
              have h1 := hst k k0 k1
              have h3 := hb _ h1.1 h1.2
              rw [hS2.2.1, g24]
              exact ⟨by omega, h3⟩) (fun q hq => by
              rw [g24] at hq ⊢
              rw [hS2.2.1]
              unfold pkD
              simp only [Bool.or_eq_true, Bool.and_eq_true, decide_eq_true_eq]
              have hinn : ∀ j, 0 ≤ j → j < L → (q = inn (M 24 0) (bs j) ↔ bs j = idx (M 24 0) q) := fun j j0 j1 => by
                have h3 := hb j j0 j1
                constructor
                · intro e
                  rw [e, idx_inn a1 a2 h3.1]
                · intro e
                  rw [e, inn_idx a1 a2 hq]
              have hV' := hV
              unfold pkV at hV
              constructor
              · rintro ((z | ⟨h2, z⟩) | ⟨h2, z⟩)
                · exact ⟨0, by omega, by omega, by rw [hpk.1]; exact (hinn a (by omega) (by omega)).1 z⟩
                · exact ⟨1, by omega, by omega, by rw [hpk.2.1 h2]; exact (hinn b (by omega) (by omega)).1 z⟩
                · exact ⟨2, by omega, by omega, by rw [hpk.2.2 h2]; exact (hinn c (by omega) (by omega)).1 z⟩
              · rintro ⟨k, k0, k1, z⟩
                have hk' : k = 0 ∨ k = 1 ∨ k = 2 := by omega
                rcases hk' with rfl | rfl | rfl
                · rw [hpk.1] at z; exact Or.inl (Or.inl ((hinn a (by omega) (by omega)).2 z))
                · rw [hpk.2.1 (by omega)] at z; exact Or.inl (Or.inr ⟨by omega, (hinn b (by omega) (by omega)).2 z⟩)
                · rw [hpk.2.2 (by omega)] at z; exact Or.inr ⟨by omega, (hinn c (by omega) (by omega)).2 z⟩)
          rw [g24] at hdr
          refine Ok.bd hdr ?_
          rintro _ ⟨N3, hq3, e136, e137, e36, (⟨rfl, hW⟩ | ⟨rfl, hW⟩)⟩
          · rw [Wst_cg g] at hW
            refine k_ifF (by show ¬ w32 1 = 0; decide) ?_
            have hS3 : soI M N3 bs L := ⟨hS2.1.trans hq3, by rw [e136]; exact hS2.2.1, by rw [e36]; exact hS2.2.2⟩
            obtain ⟨h3, hR3⟩ := X11_sta_q h0 hR hS3.1
            unfold M_X11_strokesOf_w86 M_X11_strokesOf_p122
            refine Ok.bind (Q := fun h => ∃ N4, h = (N4, G) ∧ soI M N4 bs L ∧ ∀ k, 0 ≤ k → k < m → N4 138 k = otV (inn (M 24 0) (bs (N2 137 k)))) ?_ ?_
            · refine wh_for (fun j z => ∃ N4, z = ((N4, G), (j : Int)) ∧ soI M N4 bs L ∧ N4 137 = N2 137 ∧ ∀ k, 0 ≤ k → k < (j : Int) → N4 138 k = otV (inn (M 24 0) (bs (N2 137 k)))) _ m.toNat (by omega) ⟨N3, rfl, hS3, e137, fun k k0 k1 => by omega⟩ ?_ ?_
              · rintro j _ hj ⟨N4, rfl, hS4, f137, hw⟩
                obtain ⟨h4, hR4⟩ := X11_sta_q h0 hR hS4.1
                have hB4 := hR4.B hG
                have q31 := pr124.p31 h4.2.2.1.1
                have q32 := pr124.p32 h4.2.2.1.1
                have q33 := pr124.p33 h4.2.2.1.1
                have hsj := hst j (by omega) (by omega)
                have hbj := hb _ hsj.1 hsj.2
                have f136 := hS4.2.1
                have frg : N4 rg = M rg := hS4.1.1 rg (by omega)
                have hti := inn_in a1 a2 b1 b2 hbj.1 hbj.2
                have htold := X11_told_ok (p := inn (M 24 0) (bs (N2 137 j))) hB4 (by rw [frg, e0, e1]; exact hti)
                rw [frg, e0, idx_inn a1 a2 hbj.1] at htold
                have htold : M_X11_told (N4, G) 124 (bs (N2 137 j)) = some (otV (inn (M 24 0) (bs (N2 137 j)))) := htold
                unfold M_X11_strokesOf_b86
                dsimp only
                repeat' (with_reducible first | refine k_gf (by first | assumption | omega) (by first | assumption | ((try simp (disch := omega) only [sr_s, sr_a, sr_sr, u1_s, u1_k, q31, q32, q33, f137, f136]); exact rfl)) ?_ | refine k_gr (by first | assumption | omega) (by first | assumption | ((try simp (disch := omega) only [sr_s, sr_a, sr_sr, u1_s, u1_k, q31, q32, q33, f137, f136]); exact rfl)) (by omega) ?_ | refine k_ald (by first | assumption | omega) (by first | assumption | exact rfl) (by omega) (by omega) (by omega) (by first | assumption | ((try simp (disch := omega) only [sr_s, sr_a, sr_sr, u1_s, u1_k, q31, q32, q33, f137, f136]); exact rfl)) ?_ | refine k_eq (htold) ?_ | refine k_ifT (by first | (simp (disch := omega) only [w32_id]; first | done | omega) | omega) ?_ | refine k_ifF (by first | (simp (disch := omega) only [w32_id]; first | done | omega) | omega) ?_ | refine k_pf (by first | assumption | omega) (by (try simp (disch := omega) only [sr_s, sr_a, sr_sr, u1_u1, q31, q32, q33, f137, f136]); exact rfl) ?_ | refine k_ast (by first | assumption | omega) (by first | assumption | exact rfl) (by omega) (by omega) (by omega) (by (try simp (disch := omega) only [sr_s, sr_a, sr_sr, u1_u1, q31, q32, q33, f137, f136]); exact rfl) ?_ | refine k_irm (by omega) (by omega) (by omega) (by omega) ?_ | refine k_idv (by omega) (by omega) (by omega) (by omega) ?_ | refine k_tk (by first | assumption | omega) ?_ | refine k_rp (by omega) ?_ | refine k_aldR (by first | assumption | omega) (by first | assumption | exact rfl) (by omega) (by omega) (by omega) (by first | assumption | ((try simp (disch := omega) only [sr_s, sr_a, sr_sr, u1_s, u1_k, q31, q32, q33, f137, f136]); exact rfl)) (by omega) ?_ | refine k_astR (by first | assumption | omega) (by first | assumption | exact rfl) (by omega) (by omega) (by omega) (by first | assumption | omega) (by (try simp (disch := omega) only [sr_s, sr_a, sr_sr, u1_u1, q31, q32, q33, f137, f136]); exact rfl) ?_ | refine k_pz (by first | assumption | omega) (by omega) (by (try simp (disch := omega) only [sr_s, sr_a, sr_sr, u1_u1, q31, q32, q33, f137, f136]); exact rfl) ?_ | refine k_alen (by first | assumption | omega) (by first | assumption | exact rfl) ?_ | refine k_cpy (by first | assumption | omega) (by first | assumption | omega) (by first | assumption | exact rfl) (by first | assumption | exact rfl) (by omega) (by omega) (by omega) (by omega) (by omega) (by omega) (by omega) (by omega) (by (try simp (disch := omega) only [sr_s, sr_a, sr_sr, u1_u1, q31, q32, q33, f137, f136]); exact rfl) ?_)
                refine Ok.ret ⟨_, rfl, ⟨hS4.1.trans ⟨fun a ha => sr_a _ _ (by omega), fun k _ _ _ _ _ _ => by rw [sr_a _ _ (by omega)], by rw [sr_a _ _ (by omega)]; exact hS4.1.2.2⟩, by rw [sr_a _ _ (by omega)]; exact f136, by rw [sr_a _ _ (by omega)]; exact hS4.2.2⟩, by rw [sr_a _ _ (by omega)]; exact f137, fun k k0 k1 => ?_⟩
                rw [sr_s]
                by_cases y : k = (j : Int)
                · rw [u1_e _ _ y, y]
                · rw [u1_k _ _ y]; exact hw k k0 (by omega)
              · rintro _ ⟨N4, rfl, hS4, f137, hw⟩
                unfold M_X11_strokesOf_b86
                dsimp only
                exact k_ifF (by rw [w32_id (by omega) (by omega), w32_id (by omega) (by omega)]; omega) (Ok.ret ⟨N4, rfl, hS4, fun k k0 k1 => hw k k0 (by omega)⟩)
            · rintro _ ⟨N4, rfl, hS4, hw⟩
              refine Ok.ret ⟨N4, rfl, hS4, a, b, c, hV, hW, hlt, ?_, fun z => ?_, fun z => ?_⟩
              · rw [hw 0 (by omega) (by omega), hpk.1]
              · rw [hw 1 (by omega) (by omega), hpk.2.1 z]
              · rw [hw 2 (by omega) (by omega), hpk.2.2 z]
          · rw [Wst_cg g] at hW
            refine k_ifT (by show w32 0 = 0; decide) ?_
            have hS3 : soI M N3 bs L := ⟨hS2.1.trans hq3, by rw [e136]; exact hS2.2.1, by rw [e36]; exact hS2.2.2⟩
            obtain ⟨h3, hR3⟩ := X11_sta_q h0 hR hS3.1
            refine Ok.bd (X11_next_ok (N := N3) (L := L) (m := m) hG h3.2.2.1.1 hS3.2.2 hl0 hl36 (by omega) (fun k k0 k1 => ?_)) ?_
            · rw [e137]
              unfold pkV at hV
              unfold pkM at hpk
              have hk' : k = 0 ∨ k = 1 ∨ k = 2 := by omega
              rcases hk' with rfl | rfl | rfl
              · rw [hpk.1]; omega
              · rw [hpk.2.1 (by omega)]; omega
              · rw [hpk.2.2 (by omega)]; omega
            rintro _ ⟨N4, f4, hz⟩
            have hS4 : soI M N4 bs L := ⟨hS3.1.trans ⟨fun a ha => f4 a (by omega), fun k _ _ _ _ _ _ => by rw [f4 124 (by omega)], by rw [f4 129 (by omega)]; exact hS3.1.2.2⟩, by rw [f4 136 (by omega)]; exact hS3.2.1, by rw [f4 124 (by omega)]; exact hS3.2.2⟩
            rcases hz with ⟨rfl, hn'⟩ | ⟨rfl, -, hn'⟩
            · rw [e137] at hn'
              obtain ⟨a', b', c', hSu, w0, w1, w2⟩ := nxP_S hm hV hpk.1 hpk.2.1 hpk.2.2 hn'
              have hRR := pkR_S hV hSu
              refine Ok.ret ⟨N4, 1, rfl, hS4, Or.inl ⟨rfl, a', b', c', pkS_V hV hSu, ⟨w0, w1, w2⟩, by omega, fun x y z hv' hl' => ?_⟩⟩
              rcases pkS_lt hV hSu hv' hl' with h | ⟨rfl, rfl, rfl⟩
              · exact hlt x y z hv' h
              · exact hW
            · rw [e137] at hn'
              have hE := nxE_E hm hpk.1 hpk.2.1 hpk.2.2 hn'
              refine Ok.ret ⟨N4, 0, rfl, hS4, Or.inr ⟨rfl, fun x y z hv' => ?_⟩⟩
              rcases pkE_lt hV hE hv' with h | ⟨rfl, rfl, rfl⟩
              · exact hlt x y z hv' h
              · exact hW
        · exact k_ifT (by decide) (Ok.ret ⟨N2, rfl, hS2, hall⟩)
      · rintro _ ⟨N2, more, rfl, hS2, hmo⟩
        unfold M_X11_strokesOf_b60
        dsimp only
        rcases hmo with ⟨rfl, a, b, c, hV, hpk, hR', hlt⟩ | ⟨rfl, hall⟩
        · omega
        · exact k_ifT (by decide) (Ok.ret ⟨N2, rfl, hS2, hall⟩)
    refine Ok.bind hlo ?_
    intro z hz
    cases z with
    | inl h =>
      obtain ⟨N2, rfl, hS2, hall⟩ := hz
      rw [exi_l]
      unfold M_X11_strokesOf_p136
      exact Ok.ret ⟨N2, hS2, Or.inl ⟨rfl, hall⟩⟩
    | inr q =>
      obtain ⟨N2, rfl, hS2, h⟩ := hz
      rw [exi_r]
      exact Ok.ret ⟨N2, hS2, Or.inr ⟨rfl, h⟩⟩
theorem X11_strokesOf_ok (h0 : Inv0 M G td r) (hR : isR M G td rg) (ht : 0 ≤ t ∧ t < M 24 2) (hmk : 0 ≤ mark ∧ mark < 6) (hu : 0 ≤ u ∧ u < M 24 2) (hin : inV (M 24 0) (M 24 1) p) (hd : 0 ≤ due ∧ due < 6) (hn : 0 ≤ n ∧ n ≤ 12) : Ok (M_X11_strokesOf (M, G) 124 t mark u (idx (M 24 0) p) due n) (fun z => ∃ N v x y w, z = ((N, G), if v = -2 then -1 else v) ∧ rQ M N ∧ strP (Wst M t mark u p due n) v x y w ∧ (1 ≤ v → pkM (N 138) v (otV x) (otV y) (otV w))) := by
  have hG := h0.1.1
  obtain ⟨sC, sS, sQ⟩ := sta_C h0 hR
  have hwf6 := wfW6 hR.cl.2.2.2.2.1
  obtain ⟨e0, e1, e2, e3, ⟨a1, a2, b1, b2, t1, t6, k2, k6, -⟩, -⟩ := hR.cl
  have hml := mul_b a1 a2 b1 b2
  have k124 := gk_124 hG
  unfold M_X11_strokesOf
  refine k_tk k124 (k_eq (X11_starts_ok hG h0.2.2.1.1) ?_)
  refine Ok.bind (X11_laysBears_ok (t := t) (u := u) (p := p) (n := n) sC hwf6 ht.1 ht.2 hu.1 hu.2 hin hn.1 (by omega)) ?_
  rintro _ ⟨N1, L, rfl, hF1, hL36, hL, hLb⟩
  have hl0 := hL.1
  have hl36 := hL.2.1
  have hS1 : soI M N1 (N1 136) L := ⟨sQ.trans ⟨fun a ha => hF1.1 a (by omega) (by omega) (by omega) (by omega), fun k _ _ _ _ _ k6 => hF1.2 k k6, by rw [hF1.1 129 (by omega) (by omega) (by omega) (by omega)]; exact sQ.2.2⟩, rfl, hL36⟩
  have hD := dep_rf (t := t) (mark := mark) (due := due) (n := n) hwf6 hmk hu hin
  generalize N1 136 = bs at *
  unfold M_X11_strokesOf_w17
  have hlo : Ok (wh (S := (Hp × Int)) (T := (Hp ⊕ (Hp × Int))) (fun a => M_X11_strokesOf_b17 a.1 124 t mark u (idx (M 24 0) p) due n a.2) FU ((N1, G), 0)) (lo (fun h => ∃ N2, h = (N2, G) ∧ soI M N2 bs L ∧ nW (Wst M t mark u p due n) 0 ∧ nW (Wst M t mark u p due n) 1 ∧ nW (Wst M t mark u p due n) 2 ∧ nW (Wst M t mark u p due n) 3) (fun z => ∃ N2 v x y w, z = ((N2, G), v) ∧ 0 ≤ v ∧ soI M N2 bs L ∧ strP (Wst M t mark u p due n) v x y w ∧ (1 ≤ v → pkM (N2 138) v (otV x) (otV y) (otV w)))) := by
    refine wh_for (fun i s => ∃ N2, s = ((N2, G), (i : Int)) ∧ soI M N2 bs L ∧ (1 ≤ i → nW (Wst M t mark u p due n) 0) ∧ (2 ≤ i → nW (Wst M t mark u p due n) 1) ∧ (3 ≤ i → nW (Wst M t mark u p due n) 2) ∧ (4 ≤ i → nW (Wst M t mark u p due n) 3)) _ 4 (by omega) ⟨N1, rfl, hS1, fun z => by omega, fun z => by omega, fun z => by omega, fun z => by omega⟩ ?_ ?_
    · rintro i _ hi ⟨N2, rfl, hS2, n0, n1, n2, n3⟩
      have e36 := hS2.2.2
      unfold M_X11_strokesOf_b17
      dsimp only
      refine k_ifF (by rw [w32_id (by omega) (by omega)]; omega) (k_gf k124 e36 ?_)
      by_cases yL : L < (i : Int)
      · refine k_ifT (by rw [w32_id (by omega) (by omega), w32_id (by omega) (by omega)]; exact yL) (Ok.ret ⟨N2, rfl, hS2, n0 (by omega), ?_⟩)
        have v1 : L < 1 → nW (Wst M t mark u p due n) 1 := fun z => nW_step (m := 1) hD hL (by omega) (n0 (by omega)) (fun a b c hv => by unfold pkV at hv; omega)
        have w1 : nW (Wst M t mark u p due n) 1 := by
          by_cases z : L < 1
          · exact v1 z
          · exact n1 (by omega)
        have w2 : nW (Wst M t mark u p due n) 2 := by
          by_cases z : L < 2
          · exact nW_step (m := 2) hD hL (by omega) w1 (fun a b c hv => by unfold pkV at hv; omega)
          · exact n2 (by omega)
        exact ⟨w1, w2, nW_step (m := 3) hD hL (by omega) w2 (fun a b c hv => by unfold pkV at hv; omega)⟩
      · refine k_ifF (by rw [w32_id (by omega) (by omega), w32_id (by omega) (by omega)]; exact yL) ?_
        by_cases yi : i = 0
        · subst yi
          -- nothing drawn
          obtain ⟨h2, hR2⟩ := X11_sta_q h0 hR hS2.1
          have g24 : N2 24 = M 24 := hS2.1.1 24 (by omega)
          have g : ∀ x, (24 ≤ x ∧ x < 28) → N2 x = M x := fun x hx => hS2.1.1 x (by omega)
          unfold M_X11_strokesOf_w35
          refine Ok.bind (Q := fun h => h = (N2, G)) ?_ ?_
          · refine wh_for (fun i s => s = ((N2, G), (0 : Int))) _ 0 (by omega) rfl (fun i s hi _ => by omega) ?_
            rintro _ rfl
            unfold M_X11_strokesOf_b35
            dsimp only
            exact k_ifF (by decide) (Ok.ret rfl)
          · rintro _ rfl
            unfold M_X11_strokesOf_p57 M_X11_strokesOf_w60
            have hdr := X11_isDrawn_ok (N := N2) (S := fun _ => false) (t := t) (u := u) (p := p) (mark := mark) (due := due) (n := n) (m := 0) h2 hR2 (by rw [g24]; exact ht) hmk (by rw [g24]; exact hu) (by rw [g24]; exact hin) hd hn (by omega) (fun k k0 k1 => by omega) (fun q hq => ⟨fun z => (by cases z), fun ⟨k, k0, k1, _⟩ => by omega⟩)
            rw [g24] at hdr
            have hlo2 : Ok (wh (S := (Hp × Int)) (T := (Hp ⊕ (Hp × Int))) (fun a => M_X11_strokesOf_b60 a.1 124 t mark u (idx (M 24 0) p) due n 0 a.2) FU ((N2, G), 1)) (lo (fun h => ∃ N3, h = (N3, G) ∧ soI M N3 bs L ∧ ¬ Wst M t mark u p due n (fun _ => false)) (fun z => ∃ N3, z = ((N3, G), 0) ∧ soI M N3 bs L ∧ Wst M t mark u p due n (fun _ => false))) := by
              refine wh_for (fun k s => k = 0 ∧ s = ((N2, G), (1 : Int)) ∨ k = 1 ∧ ∃ N3, s = ((N3, G), (0 : Int)) ∧ soI M N3 bs L ∧ ¬ Wst M t mark u p due n (fun _ => false)) _ 1 (by omega) (Or.inl ⟨rfl, rfl⟩) ?_ ?_
              · rintro k _ hk (⟨-, rfl⟩ | ⟨h, -⟩)
                · unfold M_X11_strokesOf_b60
                  dsimp only
                  refine k_ifF (by decide) ?_
                  refine Ok.bd hdr ?_
                  rintro _ ⟨N3, hq3, e136, e137, e36', (⟨rfl, hW⟩ | ⟨rfl, hW⟩)⟩
                  · rw [Wst_cg g] at hW
                    refine k_ifF (by show ¬ w32 1 = 0; decide) ?_
                    have hS3 : soI M N3 bs L := ⟨hS2.1.trans hq3, by rw [e136]; exact hS2.2.1, by rw [e36']; exact hS2.2.2⟩
                    unfold M_X11_strokesOf_w86 M_X11_strokesOf_p122
                    refine Ok.bind (Q := fun h => h = (N3, G)) ?_ ?_
                    · refine wh_for (fun i s => s = ((N3, G), (0 : Int))) _ 0 (by omega) rfl (fun i s hi _ => by omega) ?_
                      rintro _ rfl
                      unfold M_X11_strokesOf_b86
                      dsimp only
                      exact k_ifF (by decide) (Ok.ret rfl)
                    · rintro _ rfl
                      exact Ok.ret ⟨N3, rfl, hS3, hW⟩
                  · rw [Wst_cg g] at hW
                    refine k_ifT (by show w32 0 = 0; decide) ?_
                    have hS3 : soI M N3 bs L := ⟨hS2.1.trans hq3, by rw [e136]; exact hS2.2.1, by rw [e36']; exact hS2.2.2⟩
                    obtain ⟨h3, hR3⟩ := X11_sta_q h0 hR hS3.1
                    refine Ok.bd (X11_next_ok (N := N3) (L := L) (m := 0) hG h3.2.2.1.1 hS3.2.2 hl0 hl36 (by omega) (fun k k0 k1 => by omega)) ?_
                    rintro _ ⟨N4, f4, (⟨rfl, j, j0, j1, _⟩ | ⟨rfl, rfl, -⟩)⟩
                    · omega
                    · exact Ok.ret (Or.inr ⟨by omega, N4, rfl, hS3, hW⟩)
                · omega
              · rintro _ (⟨h, -⟩ | ⟨-, N3, rfl, hS3, hW⟩)
                · omega
                · unfold M_X11_strokesOf_b60
                  dsimp only
                  exact k_ifT (by decide) (Ok.ret ⟨N3, rfl, hS3, hW⟩)
            refine Ok.bind hlo2 ?_
            intro z hz
            cases z with
            | inl h =>
              obtain ⟨N3, rfl, hS3, hW⟩ := hz
              rw [exi_l]
              unfold M_X11_strokesOf_p136
              exact Ok.ret ⟨N3, rfl, hS3, fun _ => hW, fun z => by omega, fun z => by omega, fun z => by omega⟩
            | inr q =>
              obtain ⟨N3, rfl, hS3, hW⟩ := hz
              rw [exi_r]
              exact Ok.ret ⟨N3, 0, 0, 0, 0, rfl, by omega, hS3, Or.inl ⟨rfl, fun z => z hW, rfl, rfl, rfl⟩, fun z => by omega⟩
        · have hm : 1 ≤ (i : Int) ∧ (i : Int) ≤ 3 := by omega
          have hni : nW (Wst M t mark u p due n) ((i : Int) - 1) := by
            have hi3 : i = 1 ∨ i = 2 ∨ i = 3 := by omega
            rcases hi3 with rfl | rfl | rfl
            · exact n0 (by omega)
            · exact n1 (by omega)
            · exact n2 (by omega)
          refine (X11_many_ok (m := (i : Int)) h0 hR ht hmk hu hin hd hn hl0 hl36 hLb hm (by omega) hS2).mono ?_
          rintro _ ⟨N3, hS3, (⟨rfl, hall⟩ | ⟨rfl, a, b, c, hV, hW, hlt, hpk⟩)⟩
          · have hmm := nW_step hD hL hm hni hall
            refine ⟨N3, rfl, hS3, fun _ => n0 (by omega), fun z => ?_, fun z => ?_, fun z => ?_⟩
            · by_cases y : i = 1
              · subst y; exact hmm
              · exact n1 (by omega)
            · by_cases y : i = 2
              · subst y; exact hmm
              · exact n2 (by omega)
            · have : i = 3 := by omega
              subst this; exact hmm
          · have hfs := fsW_of hD hL hm hni hV hW hlt
            refine ⟨N3, _, _, _, _, rfl, by omega, hS3, Or.inr (Or.inl ⟨by omega, n0 (by omega), fun z => n1 (by omega), fun z => n2 (by omega), hfs⟩), fun _ => ⟨hpk.1, fun z => by rw [if_pos z]; exact hpk.2.1 z, fun z => by rw [if_pos z]; exact hpk.2.2 z⟩⟩
    · rintro _ ⟨N2, rfl, hS2, n0, n1, n2, n3⟩
      unfold M_X11_strokesOf_b17
      dsimp only
      exact k_ifT (by decide) (Ok.ret ⟨N2, rfl, hS2, n0 (by omega), n1 (by omega), n2 (by omega), n3 (by omega)⟩)
  refine Ok.bind hlo ?_
  intro z hz
  cases z with
  | inl h =>
    obtain ⟨N2, rfl, hS2, n0, n1, n2, n3⟩ := hz
    rw [exi_l]
    unfold M_X11_strokesOf_p142
    exact Ok.ret ⟨N2, -2, 0, 0, 0, rfl, hS2.1, Or.inr (Or.inr ⟨rfl, n0, n1, n2, n3, rfl, rfl, rfl⟩), fun z => by omega⟩
  | inr q =>
    obtain ⟨N2, v, x, y, w, rfl, hv, hS2, hst, hpk⟩ := hz
    rw [exi_r]
    exact Ok.ret ⟨N2, v, x, y, w, by rw [if_neg (by omega)], hS2.1, hst, hpk⟩
end SB
