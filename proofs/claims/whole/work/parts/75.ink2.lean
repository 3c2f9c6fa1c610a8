/-! ink: the class's search -/
section I2
variable {M M' M1 : Int → Int → Int} {G : GG} {mk p : Int}
/-- what wayBy answers -/
def wbP (wd hi : Int) (c f : Int → Int) (p x : Int) : Prop := 0 ≤ x ∧ x ≤ 1001 ∧ (edg wd hi p → x ≤ c p) ∧ (∀ q, bsd wd hi p q → x ≤ f q + c p) ∧ (1000 ≤ x ∨ (edg wd hi p ∧ x = c p) ∨ ∃ q, bsd wd hi p q ∧ x = f q + c p)
theorem imin_i {x y : Int} (x0 : 0 ≤ x) (x1 : x ≤ 2000) (y0 : 0 ≤ y) (y1 : y ≤ 2000) : imin x y = if y < x then y else x := by
  unfold imin
  rw [w32_id (by omega) (by omega), w32_id (by omega) (by omega)]
theorem X2_wayBy_ok (hG : gAll G) (hp117 : pr117 (M 117)) (a1 : 2 ≤ M 24 0) (a2 : M 24 0 ≤ 6) (b1 : 2 ≤ M 24 1) (b2 : M 24 1 ≤ 6) (hp : inV (M 24 0) (M 24 1) p) (k0 : 0 ≤ mk) (k6 : mk ≤ 6) (hm : ∀ i, 0 ≤ M 118 i ∧ M 118 i ≤ 9) (hf : ∀ q, inV (M 24 0) (M 24 1) q → 0 ≤ M 121 q ∧ M 121 q ≤ 1000) : Ok (M_X2_wayBy (M, G) 117 24 p mk) (wbP (M 24 0) (M 24 1) (csV mk (M 118)) (M 121) p) := by
  have hb := inV_36 a2 b2 hp
  have hed := X8_isEdge_ok (M := M) (w := 24) (p := p) (gW_24 hG) a1 a2 b1 b2 hb.1 hb.2
  have k117 := gk_117 hG
  have k118 := gk_118 hG
  have l118 := gl_118 hG
  have k121 := gk_121 hG
  have l121 := gl_121 hG
  have p0 := pr117.p0 hp117
  have p5 := pr117.p5 hp117
  have hmp := hm p
  have key : ∀ s0, (s0 = 0 ∧ edg (M 24 0) (M 24 1) p ∨ s0 = 1000 ∧ ¬ edg (M 24 0) (M 24 1) p) → Ok (M_X2_wayBy_p15 (M, G) 117 24 p mk s0) (wbP (M 24 0) (M 24 1) (csV mk (M 118)) (M 121) p) := by
    intro s0 hs0
    unfold M_X2_wayBy_p15 M_X2_wayBy_w20
    refine Ok.bind (Q := fun x => 0 ≤ x ∧ x ≤ s0 ∧ (∀ d, 0 ≤ d → d < 4 → bsV (M 24 0) (M 24 1) p d ≠ -1 → x ≤ M 121 (bsV (M 24 0) (M 24 1) p d)) ∧ (x = s0 ∨ ∃ q, bsd (M 24 0) (M 24 1) p q ∧ x = M 121 q)) ?_ ?_
    · refine wh_for (fun i s => s.2 = (i : Int) ∧ 0 ≤ s.1 ∧ s.1 ≤ s0 ∧ (∀ d, 0 ≤ d → d < (i : Int) → bsV (M 24 0) (M 24 1) p d ≠ -1 → s.1 ≤ M 121 (bsV (M 24 0) (M 24 1) p d)) ∧ (s.1 = s0 ∨ ∃ q, bsd (M 24 0) (M 24 1) p q ∧ s.1 = M 121 q)) _ 4 (by omega) ⟨rfl, by dsimp only; omega, Int.le_refl _, fun d d0 d1 => by omega, Or.inl rfl⟩ ?_ ?_
      · rintro i ⟨x, j⟩ hi ⟨e, x0, x1, hd, hx⟩
        dsimp only at e x0 x1 hd hx ⊢
        subst e
        have hbe := X8_beside_ok (M := M) (w := 24) (p := p) (d := (i : Int)) (gW_24 hG) a1 a2 b1 b2 hb.1 hb.2 (by omega) (by omega)
        have hbe : M_X8_beside (M, G) 24 p (i : Int) = some (bsV (M 24 0) (M 24 1) p (i : Int)) := hbe
        have hbi := bsV_in (d := (i : Int)) a2 hp
        have hdd : ∀ x' : Int, x' ≤ x → (bsV (M 24 0) (M 24 1) p (i : Int) ≠ -1 → x' ≤ M 121 (bsV (M 24 0) (M 24 1) p (i : Int))) → ∀ d, 0 ≤ d → d < ((i + 1 : Nat) : Int) → bsV (M 24 0) (M 24 1) p d ≠ -1 → x' ≤ M 121 (bsV (M 24 0) (M 24 1) p d) := fun x' hx' hi' d d0 d1 hn => by
          by_cases y : d = (i : Int)
          · subst y; exact hi' hn
          · exact Int.le_trans hx' (hd d d0 (by omega) hn)
        have hbs : bsV (M 24 0) (M 24 1) p (i : Int) ≠ -1 → bsd (M 24 0) (M 24 1) p (bsV (M 24 0) (M 24 1) p (i : Int)) := fun hn => ⟨i, by omega, by omega, rfl, hn⟩
        unfold M_X2_wayBy_b20 M_X2_wayBy_p55
        generalize bsV (M 24 0) (M 24 1) p (i : Int) = q at *
        by_cases y : q = -1
        · repeat' (with_reducible first | refine k_gf (by first | assumption | omega) (by first | assumption | ((try simp (disch := omega) only [sr_s, sr_a, sr_sr, u1_s, u1_k, p0, p5]); exact rfl)) ?_ | refine k_gr (by first | assumption | omega) (by first | assumption | ((try simp (disch := omega) only [sr_s, sr_a, sr_sr, u1_s, u1_k, p0, p5]); exact rfl)) (by omega) ?_ | refine k_ald (by first | assumption | omega) (by first | assumption | exact rfl) (by omega) (by omega) (by omega) (by first | assumption | ((try simp (disch := omega) only [sr_s, sr_a, sr_sr, u1_s, u1_k, p0, p5]); exact rfl)) ?_ | refine k_eq (hbe) ?_ | refine k_ifT (by first | (simp (disch := omega) only [w32_id]; first | done | omega) | omega) ?_ | refine k_ifF (by first | (simp (disch := omega) only [w32_id]; first | done | omega) | omega) ?_ | refine k_pf (by first | assumption | omega) (by (try simp (disch := omega) only [sr_s, sr_a, sr_sr, u1_u1, p0, p5]); exact rfl) ?_ | refine k_ast (by first | assumption | omega) (by first | assumption | exact rfl) (by omega) (by omega) (by omega) (by (try simp (disch := omega) only [sr_s, sr_a, sr_sr, u1_u1, p0, p5]); exact rfl) ?_ | refine k_irm (by omega) (by omega) (by omega) (by omega) ?_ | refine k_idv (by omega) (by omega) (by omega) (by omega) ?_ | refine k_tk (by first | assumption | omega) ?_ | refine k_rp (by omega) ?_ | refine k_aldR (by first | assumption | omega) (by first | assumption | exact rfl) (by omega) (by omega) (by omega) (by first | assumption | ((try simp (disch := omega) only [sr_s, sr_a, sr_sr, u1_s, u1_k, p0, p5]); exact rfl)) (by omega) ?_ | refine k_astR (by first | assumption | omega) (by first | assumption | exact rfl) (by omega) (by omega) (by omega) (by first | assumption | omega) (by (try simp (disch := omega) only [sr_s, sr_a, sr_sr, u1_u1, p0, p5]); exact rfl) ?_ | refine k_pz (by first | assumption | omega) (by omega) (by (try simp (disch := omega) only [sr_s, sr_a, sr_sr, u1_u1, p0, p5]); exact rfl) ?_ | refine k_alen (by first | assumption | omega) (by first | assumption | exact rfl) ?_ | refine k_cpy (by first | assumption | omega) (by first | assumption | omega) (by first | assumption | exact rfl) (by first | assumption | exact rfl) (by omega) (by omega) (by omega) (by omega) (by omega) (by omega) (by omega) (by omega) (by (try simp (disch := omega) only [sr_s, sr_a, sr_sr, u1_u1, p0, p5]); exact rfl) ?_)
          exact Ok.ret ⟨by dsimp only; omega, x0, x1, hdd x (Int.le_refl _) (fun z => absurd y z), hx⟩
        · have hqin := hbi.resolve_left y
          have hq36 := inV_36 a2 b2 hqin
          have hqf := hf q hqin
          repeat' (with_reducible first | refine k_gf (by first | assumption | omega) (by first | assumption | ((try simp (disch := omega) only [sr_s, sr_a, sr_sr, u1_s, u1_k, p0, p5]); exact rfl)) ?_ | refine k_gr (by first | assumption | omega) (by first | assumption | ((try simp (disch := omega) only [sr_s, sr_a, sr_sr, u1_s, u1_k, p0, p5]); exact rfl)) (by omega) ?_ | refine k_ald (by first | assumption | omega) (by first | assumption | exact rfl) (by omega) (by omega) (by omega) (by first | assumption | ((try simp (disch := omega) only [sr_s, sr_a, sr_sr, u1_s, u1_k, p0, p5]); exact rfl)) ?_ | refine k_eq (hbe) ?_ | refine k_ifT (by first | (simp (disch := omega) only [w32_id]; first | done | omega) | omega) ?_ | refine k_ifF (by first | (simp (disch := omega) only [w32_id]; first | done | omega) | omega) ?_ | refine k_pf (by first | assumption | omega) (by (try simp (disch := omega) only [sr_s, sr_a, sr_sr, u1_u1, p0, p5]); exact rfl) ?_ | refine k_ast (by first | assumption | omega) (by first | assumption | exact rfl) (by omega) (by omega) (by omega) (by (try simp (disch := omega) only [sr_s, sr_a, sr_sr, u1_u1, p0, p5]); exact rfl) ?_ | refine k_irm (by omega) (by omega) (by omega) (by omega) ?_ | refine k_idv (by omega) (by omega) (by omega) (by omega) ?_ | refine k_tk (by first | assumption | omega) ?_ | refine k_rp (by omega) ?_ | refine k_aldR (by first | assumption | omega) (by first | assumption | exact rfl) (by omega) (by omega) (by omega) (by first | assumption | ((try simp (disch := omega) only [sr_s, sr_a, sr_sr, u1_s, u1_k, p0, p5]); exact rfl)) (by omega) ?_ | refine k_astR (by first | assumption | omega) (by first | assumption | exact rfl) (by omega) (by omega) (by omega) (by first | assumption | omega) (by (try simp (disch := omega) only [sr_s, sr_a, sr_sr, u1_u1, p0, p5]); exact rfl) ?_ | refine k_pz (by first | assumption | omega) (by omega) (by (try simp (disch := omega) only [sr_s, sr_a, sr_sr, u1_u1, p0, p5]); exact rfl) ?_ | refine k_alen (by first | assumption | omega) (by first | assumption | exact rfl) ?_ | refine k_cpy (by first | assumption | omega) (by first | assumption | omega) (by first | assumption | exact rfl) (by first | assumption | exact rfl) (by omega) (by omega) (by omega) (by omega) (by omega) (by omega) (by omega) (by omega) (by (try simp (disch := omega) only [sr_s, sr_a, sr_sr, u1_u1, p0, p5]); exact rfl) ?_)
          refine Ok.ret ?_
          rw [imin_i x0 (by omega) hqf.1 (by omega)]
          by_cases y2 : M 121 q < x
          · rw [if_pos y2]
            exact ⟨by dsimp only; omega, hqf.1, by dsimp only; omega, hdd _ (by omega) (fun _ => Int.le_refl _), Or.inr ⟨q, hbs y, rfl⟩⟩
          · rw [if_neg y2]
            exact ⟨by dsimp only; omega, x0, x1, hdd _ (Int.le_refl _) (fun _ => by omega), hx⟩
      · rintro ⟨x, j⟩ ⟨e, x0, x1, hd, hx⟩
        dsimp only at e x0 x1 hd hx ⊢
        subst e
        unfold M_X2_wayBy_b20
        repeat' (with_reducible first | refine k_gf (by first | assumption | omega) (by first | assumption | ((try simp (disch := omega) only [sr_s, sr_a, sr_sr, u1_s, u1_k]); exact rfl)) ?_ | refine k_gr (by first | assumption | omega) (by first | assumption | ((try simp (disch := omega) only [sr_s, sr_a, sr_sr, u1_s, u1_k]); exact rfl)) (by omega) ?_ | refine k_ald (by first | assumption | omega) (by first | assumption | exact rfl) (by omega) (by omega) (by omega) (by first | assumption | ((try simp (disch := omega) only [sr_s, sr_a, sr_sr, u1_s, u1_k]); exact rfl)) ?_ | refine k_ifT (by first | (simp (disch := omega) only [w32_id]; first | done | omega) | omega) ?_ | refine k_ifF (by first | (simp (disch := omega) only [w32_id]; first | done | omega) | omega) ?_ | refine k_pf (by first | assumption | omega) (by (try simp (disch := omega) only [sr_s, sr_a, sr_sr, u1_u1]); exact rfl) ?_ | refine k_ast (by first | assumption | omega) (by first | assumption | exact rfl) (by omega) (by omega) (by omega) (by (try simp (disch := omega) only [sr_s, sr_a, sr_sr, u1_u1]); exact rfl) ?_ | refine k_irm (by omega) (by omega) (by omega) (by omega) ?_ | refine k_idv (by omega) (by omega) (by omega) (by omega) ?_ | refine k_tk (by first | assumption | omega) ?_ | refine k_rp (by omega) ?_ | refine k_aldR (by first | assumption | omega) (by first | assumption | exact rfl) (by omega) (by omega) (by omega) (by first | assumption | ((try simp (disch := omega) only [sr_s, sr_a, sr_sr, u1_s, u1_k]); exact rfl)) (by omega) ?_ | refine k_astR (by first | assumption | omega) (by first | assumption | exact rfl) (by omega) (by omega) (by omega) (by first | assumption | omega) (by (try simp (disch := omega) only [sr_s, sr_a, sr_sr, u1_u1]); exact rfl) ?_ | refine k_pz (by first | assumption | omega) (by omega) (by (try simp (disch := omega) only [sr_s, sr_a, sr_sr, u1_u1]); exact rfl) ?_ | refine k_alen (by first | assumption | omega) (by first | assumption | exact rfl) ?_ | refine k_cpy (by first | assumption | omega) (by first | assumption | omega) (by first | assumption | exact rfl) (by first | assumption | exact rfl) (by omega) (by omega) (by omega) (by omega) (by omega) (by omega) (by omega) (by omega) (by (try simp (disch := omega) only [sr_s, sr_a, sr_sr, u1_u1]); exact rfl) ?_)
        exact Ok.ret ⟨x0, x1, hd, hx⟩
    · rintro x ⟨x0, x1, hd, hx⟩
      have hxx : wbP (M 24 0) (M 24 1) (csV mk (M 118)) (M 121) p (x + csV mk (M 118) p) := by
        have hc := csV_b (mk := mk) (m := M 118) (p := p)
        refine ⟨by omega, by omega, fun he => ?_, fun q hq => ?_, ?_⟩
        · rcases hs0 with ⟨e, -⟩ | ⟨-, e⟩
          · omega
          · exact absurd he e
        · obtain ⟨d, d0, d1, e, hne⟩ := hq
          have := hd d d0 d1 (by rw [e]; exact hne)
          rw [e] at this
          omega
        · rcases hx with hx | ⟨q, hq, hx⟩
          · rcases hs0 with ⟨e, he⟩ | ⟨e, -⟩
            · exact Or.inr (Or.inl ⟨he, by omega⟩)
            · exact Or.inl (by omega)
          · exact Or.inr (Or.inr ⟨q, hq, by omega⟩)
      unfold M_X2_wayBy_p61
      unfold csV at hxx
      by_cases y : M 118 p = mk
      · rw [if_pos y, Int.add_zero] at hxx
        repeat' (with_reducible first | refine k_gf (by first | assumption | omega) (by first | assumption | ((try simp (disch := omega) only [sr_s, sr_a, sr_sr, u1_s, u1_k, p0]); exact rfl)) ?_ | refine k_gr (by first | assumption | omega) (by first | assumption | ((try simp (disch := omega) only [sr_s, sr_a, sr_sr, u1_s, u1_k, p0]); exact rfl)) (by omega) ?_ | refine k_ald (by first | assumption | omega) (by first | assumption | exact rfl) (by omega) (by omega) (by omega) (by first | assumption | ((try simp (disch := omega) only [sr_s, sr_a, sr_sr, u1_s, u1_k, p0]); exact rfl)) ?_ | refine k_ifT (by first | (simp (disch := omega) only [w32_id]; first | done | omega) | omega) ?_ | refine k_ifF (by first | (simp (disch := omega) only [w32_id]; first | done | omega) | omega) ?_ | refine k_pf (by first | assumption | omega) (by (try simp (disch := omega) only [sr_s, sr_a, sr_sr, u1_u1, p0]); exact rfl) ?_ | refine k_ast (by first | assumption | omega) (by first | assumption | exact rfl) (by omega) (by omega) (by omega) (by (try simp (disch := omega) only [sr_s, sr_a, sr_sr, u1_u1, p0]); exact rfl) ?_ | refine k_irm (by omega) (by omega) (by omega) (by omega) ?_ | refine k_idv (by omega) (by omega) (by omega) (by omega) ?_ | refine k_tk (by first | assumption | omega) ?_ | refine k_rp (by omega) ?_ | refine k_aldR (by first | assumption | omega) (by first | assumption | exact rfl) (by omega) (by omega) (by omega) (by first | assumption | ((try simp (disch := omega) only [sr_s, sr_a, sr_sr, u1_s, u1_k, p0]); exact rfl)) (by omega) ?_ | refine k_astR (by first | assumption | omega) (by first | assumption | exact rfl) (by omega) (by omega) (by omega) (by first | assumption | omega) (by (try simp (disch := omega) only [sr_s, sr_a, sr_sr, u1_u1, p0]); exact rfl) ?_ | refine k_pz (by first | assumption | omega) (by omega) (by (try simp (disch := omega) only [sr_s, sr_a, sr_sr, u1_u1, p0]); exact rfl) ?_ | refine k_alen (by first | assumption | omega) (by first | assumption | exact rfl) ?_ | refine k_cpy (by first | assumption | omega) (by first | assumption | omega) (by first | assumption | exact rfl) (by first | assumption | exact rfl) (by omega) (by omega) (by omega) (by omega) (by omega) (by omega) (by omega) (by omega) (by (try simp (disch := omega) only [sr_s, sr_a, sr_sr, u1_u1, p0]); exact rfl) ?_)
        exact Ok.ret hxx
      · rw [if_neg y] at hxx
        repeat' (with_reducible first | refine k_gf (by first | assumption | omega) (by first | assumption | ((try simp (disch := omega) only [sr_s, sr_a, sr_sr, u1_s, u1_k, p0]); exact rfl)) ?_ | refine k_gr (by first | assumption | omega) (by first | assumption | ((try simp (disch := omega) only [sr_s, sr_a, sr_sr, u1_s, u1_k, p0]); exact rfl)) (by omega) ?_ | refine k_ald (by first | assumption | omega) (by first | assumption | exact rfl) (by omega) (by omega) (by omega) (by first | assumption | ((try simp (disch := omega) only [sr_s, sr_a, sr_sr, u1_s, u1_k, p0]); exact rfl)) ?_ | refine k_ifT (by first | (simp (disch := omega) only [w32_id]; first | done | omega) | omega) ?_ | refine k_ifF (by first | (simp (disch := omega) only [w32_id]; first | done | omega) | omega) ?_ | refine k_pf (by first | assumption | omega) (by (try simp (disch := omega) only [sr_s, sr_a, sr_sr, u1_u1, p0]); exact rfl) ?_ | refine k_ast (by first | assumption | omega) (by first | assumption | exact rfl) (by omega) (by omega) (by omega) (by (try simp (disch := omega) only [sr_s, sr_a, sr_sr, u1_u1, p0]); exact rfl) ?_ | refine k_irm (by omega) (by omega) (by omega) (by omega) ?_ | refine k_idv (by omega) (by omega) (by omega) (by omega) ?_ | refine k_tk (by first | assumption | omega) ?_ | refine k_rp (by omega) ?_ | refine k_aldR (by first | assumption | omega) (by first | assumption | exact rfl) (by omega) (by omega) (by omega) (by first | assumption | ((try simp (disch := omega) only [sr_s, sr_a, sr_sr, u1_s, u1_k, p0]); exact rfl)) (by omega) ?_ | refine k_astR (by first | assumption | omega) (by first | assumption | exact rfl) (by omega) (by omega) (by omega) (by first | assumption | omega) (by (try simp (disch := omega) only [sr_s, sr_a, sr_sr, u1_u1, p0]); exact rfl) ?_ | refine k_pz (by first | assumption | omega) (by omega) (by (try simp (disch := omega) only [sr_s, sr_a, sr_sr, u1_u1, p0]); exact rfl) ?_ | refine k_alen (by first | assumption | omega) (by first | assumption | exact rfl) ?_ | refine k_cpy (by first | assumption | omega) (by first | assumption | omega) (by first | assumption | exact rfl) (by first | assumption | exact rfl) (by omega) (by omega) (by omega) (by omega) (by omega) (by omega) (by omega) (by omega) (by (try simp (disch := omega) only [sr_s, sr_a, sr_sr, u1_u1, p0]); exact rfl) ?_)
        exact Ok.ret hxx
  unfold M_X2_wayBy
  refine k_tk k117 (k_eq hed ?_)
  by_cases y : edg (M 24 0) (M 24 1) p
  · rw [if_pos (show p % 6 = 0 ∨ p / 6 = 0 ∨ p % 6 = M 24 0 - 1 ∨ p / 6 = M 24 1 - 1 from y)]
    exact k_ifF (by decide) (key 0 (Or.inl ⟨rfl, y⟩))
  · rw [if_neg (show ¬ (p % 6 = 0 ∨ p / 6 = 0 ∨ p % 6 = M 24 0 - 1 ∨ p / 6 = M 24 1 - 1) from y)]
    exact k_ifT (by decide) (key 1000 (Or.inr ⟨rfl, y⟩))
/-- the row of ways; what lies beyond the map stays 1000 -/
def iwF (wd hi : Int) (c f : Int → Int) : Prop := (∀ q, 0 ≤ q → q < 36 → 0 ≤ f q ∧ f q ≤ 1000) ∧ (∀ q, 0 ≤ q → q < 36 → ¬ inV wd hi q → f q = 1000) ∧ ∀ q, inV wd hi q → f q = 1000 ∨ ∃ n, wyE wd hi c n q (f q)
def iwR (wd hi : Int) (c f f' : Int → Int) (i : Int) : Prop := (∀ q, 0 ≤ q → q < 36 → f' q ≤ f q) ∧ (∀ q, inV wd hi q → q < i → edg wd hi q → f' q ≤ c q) ∧ ∀ q q', inV wd hi q → q < i → bsd wd hi q q' → f' q ≤ f q' + c q
/-- one pass -/
theorem X2_pass_ok (hG : gAll G) (hp117 : pr117 (M 117)) (a1 : 2 ≤ M 24 0) (a2 : M 24 0 ≤ 6) (b1 : 2 ≤ M 24 1) (b2 : M 24 1 ≤ 6) (k0 : 0 ≤ mk) (k6 : mk ≤ 6) (hm : ∀ i, 0 ≤ M 118 i ∧ M 118 i ≤ 9) {pl j : Int} (hF : iwF (M 24 0) (M 24 1) (csV mk (M 118)) (M 121)) : Ok (M_X2_leastInk_w34 FU (M, G) 117 24 pl mk 0 j 0) (fun z => ∃ M1 b, z = .inl ((M1, G), b, j + 1) ∧ (∀ a, a ≠ 121 → M1 a = M a) ∧ (b = 0 ∨ b = 1) ∧ (b = 0 → M1 121 = M 121) ∧ iwF (M 24 0) (M 24 1) (csV mk (M 118)) (M1 121) ∧ iwR (M 24 0) (M 24 1) (csV mk (M 118)) (M 121) (M1 121) 36) := by
  unfold M_X2_leastInk_w34 M_X2_leastInk_p96
  refine Ok.bind (Q := fun z => ∃ M1 b, z = ((M1, G), b) ∧ (∀ a, a ≠ 121 → M1 a = M a) ∧ (b = 0 ∨ b = 1) ∧ (b = 0 → M1 121 = M 121) ∧ iwF (M 24 0) (M 24 1) (csV mk (M 118)) (M1 121) ∧ iwR (M 24 0) (M 24 1) (csV mk (M 118)) (M 121) (M1 121) 36) ?_ ?_
  · refine wh_for (fun i z => ∃ M1 b, z = ((M1, G), b, (i : Int)) ∧ (∀ a, a ≠ 121 → M1 a = M a) ∧ (b = 0 ∨ b = 1) ∧ (b = 0 → M1 121 = M 121) ∧ iwF (M 24 0) (M 24 1) (csV mk (M 118)) (M1 121) ∧ iwR (M 24 0) (M 24 1) (csV mk (M 118)) (M 121) (M1 121) (i : Int)) _ 36 (by omega) ⟨M, 0, rfl, fun _ _ => rfl, Or.inl rfl, fun _ => rfl, hF, fun q _ _ => Int.le_refl _, fun q hq h1 => by unfold inV at hq; omega, fun q q' hq h1 => by unfold inV at hq; omega⟩ ?_ ?_
    · rintro i _ hi ⟨M1, b, rfl, f, hb, hb0, hF1, hR1⟩
      have f24 := f 24 (by omega)
      have f117 := f 117 (by omega)
      have f118 := f 118 (by omega)
      have hp117' : pr117 (M1 117) := by rw [f117]; exact hp117
      have k117 := gk_117 hG
      have k118 := gk_118 hG
      have l118 := gl_118 hG
      have k121 := gk_121 hG
      have l121 := gl_121 hG
      have p5 := pr117.p5 hp117'
      have hho := X8_holds_ok (M := M1) (w := 24) (p := (i : Int)) (gW_24 hG) (by omega) (by omega) (by rw [f24]; omega) (by rw [f24]; omega) (by rw [f24]; omega) (by rw [f24]; omega)
      rw [f24] at hho
      unfold holdsV at hho
      have hfi := hF1.1 i (by omega) (by omega)
      unfold M_X2_leastInk_b34 M_X2_leastInk_p64 M_X2_leastInk_p90
      dsimp only
      by_cases y : (i : Int) % 6 < M 24 0 ∧ (i : Int) / 6 < M 24 1
      · rw [if_pos y] at hho
        have hin : inV (M 24 0) (M 24 1) (i : Int) := ⟨by omega, y.1, y.2⟩
        repeat' (with_reducible first | refine k_gf (by first | assumption | omega) (by first | assumption | ((try simp (disch := omega) only [sr_s, sr_a, sr_sr, u1_s, u1_k]); exact rfl)) ?_ | refine k_gr (by first | assumption | omega) (by first | assumption | ((try simp (disch := omega) only [sr_s, sr_a, sr_sr, u1_s, u1_k]); exact rfl)) (by omega) ?_ | refine k_ald (by first | assumption | omega) (by first | assumption | exact rfl) (by omega) (by omega) (by omega) (by first | assumption | ((try simp (disch := omega) only [sr_s, sr_a, sr_sr, u1_s, u1_k]); exact rfl)) ?_ | refine k_eq (hho) ?_ | refine k_ifT (by first | (simp (disch := omega) only [w32_id]; first | done | omega) | omega) ?_ | refine k_ifF (by first | (simp (disch := omega) only [w32_id]; first | done | omega) | omega) ?_ | refine k_pf (by first | assumption | omega) (by (try simp (disch := omega) only [sr_s, sr_a, sr_sr, u1_u1]); exact rfl) ?_ | refine k_ast (by first | assumption | omega) (by first | assumption | exact rfl) (by omega) (by omega) (by omega) (by (try simp (disch := omega) only [sr_s, sr_a, sr_sr, u1_u1]); exact rfl) ?_ | refine k_irm (by omega) (by omega) (by omega) (by omega) ?_ | refine k_idv (by omega) (by omega) (by omega) (by omega) ?_ | refine k_tk (by first | assumption | omega) ?_ | refine k_rp (by omega) ?_ | refine k_aldR (by first | assumption | omega) (by first | assumption | exact rfl) (by omega) (by omega) (by omega) (by first | assumption | ((try simp (disch := omega) only [sr_s, sr_a, sr_sr, u1_s, u1_k]); exact rfl)) (by omega) ?_ | refine k_astR (by first | assumption | omega) (by first | assumption | exact rfl) (by omega) (by omega) (by omega) (by first | assumption | omega) (by (try simp (disch := omega) only [sr_s, sr_a, sr_sr, u1_u1]); exact rfl) ?_ | refine k_pz (by first | assumption | omega) (by omega) (by (try simp (disch := omega) only [sr_s, sr_a, sr_sr, u1_u1]); exact rfl) ?_ | refine k_alen (by first | assumption | omega) (by first | assumption | exact rfl) ?_ | refine k_cpy (by first | assumption | omega) (by first | assumption | omega) (by first | assumption | exact rfl) (by first | assumption | exact rfl) (by omega) (by omega) (by omega) (by omega) (by omega) (by omega) (by omega) (by omega) (by (try simp (disch := omega) only [sr_s, sr_a, sr_sr, u1_u1]); exact rfl) ?_)
        have hwb := X2_wayBy_ok (M := M1) (p := (i : Int)) (mk := mk) hG hp117' (by rw [f24]; exact a1) (by rw [f24]; exact a2) (by rw [f24]; exact b1) (by rw [f24]; exact b2) (by rw [f24]; exact hin) k0 k6 (by rw [f118]; exact hm) (fun q hq => by rw [f24] at hq; have := inV_36 a2 b2 hq; exact hF1.1 q this.1 this.2)
        rw [f24, f118] at hwb
        refine Ok.bind hwb ?_
        rintro x ⟨x0, x1, hx1, hx2, hx3⟩
        by_cases y2 : x < M1 121 (i : Int)
        · repeat' (with_reducible first | refine k_gf (by first | assumption | omega) (by first | assumption | ((try simp (disch := omega) only [sr_s, sr_a, sr_sr, u1_s, u1_k, p5]); exact rfl)) ?_ | refine k_gr (by first | assumption | omega) (by first | assumption | ((try simp (disch := omega) only [sr_s, sr_a, sr_sr, u1_s, u1_k, p5]); exact rfl)) (by omega) ?_ | refine k_ald (by first | assumption | omega) (by first | assumption | exact rfl) (by omega) (by omega) (by omega) (by first | assumption | ((try simp (disch := omega) only [sr_s, sr_a, sr_sr, u1_s, u1_k, p5]); exact rfl)) ?_ | refine k_ifT (by first | (simp (disch := omega) only [w32_id]; first | done | omega) | omega) ?_ | refine k_ifF (by first | (simp (disch := omega) only [w32_id]; first | done | omega) | omega) ?_ | refine k_pf (by first | assumption | omega) (by (try simp (disch := omega) only [sr_s, sr_a, sr_sr, u1_u1, p5]); exact rfl) ?_ | refine k_ast (by first | assumption | omega) (by first | assumption | exact rfl) (by omega) (by omega) (by omega) (by (try simp (disch := omega) only [sr_s, sr_a, sr_sr, u1_u1, p5]); exact rfl) ?_ | refine k_irm (by omega) (by omega) (by omega) (by omega) ?_ | refine k_idv (by omega) (by omega) (by omega) (by omega) ?_ | refine k_tk (by first | assumption | omega) ?_ | refine k_rp (by omega) ?_ | refine k_aldR (by first | assumption | omega) (by first | assumption | exact rfl) (by omega) (by omega) (by omega) (by first | assumption | ((try simp (disch := omega) only [sr_s, sr_a, sr_sr, u1_s, u1_k, p5]); exact rfl)) (by omega) ?_ | refine k_astR (by first | assumption | omega) (by first | assumption | exact rfl) (by omega) (by omega) (by omega) (by first | assumption | omega) (by (try simp (disch := omega) only [sr_s, sr_a, sr_sr, u1_u1, p5]); exact rfl) ?_ | refine k_pz (by first | assumption | omega) (by omega) (by (try simp (disch := omega) only [sr_s, sr_a, sr_sr, u1_u1, p5]); exact rfl) ?_ | refine k_alen (by first | assumption | omega) (by first | assumption | exact rfl) ?_ | refine k_cpy (by first | assumption | omega) (by first | assumption | omega) (by first | assumption | exact rfl) (by first | assumption | exact rfl) (by omega) (by omega) (by omega) (by omega) (by omega) (by omega) (by omega) (by omega) (by (try simp (disch := omega) only [sr_s, sr_a, sr_sr, u1_u1, p5]); exact rfl) ?_)
          refine Ok.ret ⟨_, 1, rfl, fun a ha => by rw [sr_a _ _ ha]; exact f a ha, Or.inr rfl, fun z => by omega, ?_, ?_⟩
          · rw [sr_s]
            refine ⟨fun q q0 q1 => ?_, fun q q0 q1 hq => ?_, fun q hq => ?_⟩
            · by_cases z : q = (i : Int)
              · rw [u1_e _ _ z]; omega
              · rw [u1_k _ _ z]; exact hF1.1 q q0 q1
            · rw [u1_k _ _ (fun z => hq (by rw [z]; exact hin))]
              exact hF1.2.1 q q0 q1 hq
            · by_cases z : q = (i : Int)
              · subst z
                rw [u1_s]
                right
                rcases hx3 with hx3 | ⟨he, hx3⟩ | ⟨q', hq', hx3⟩
                · omega
                · exact ⟨0, hin, he, hx3⟩
                · have hq'in := (bsd_sym a2 hin hq').2
                  have h36 := inV_36 a2 b2 hq'in
                  have hc := csV_b (mk := mk) (m := M 118) (p := (i : Int))
                  rcases hF1.2.2 q' hq'in with h1 | ⟨n, h1⟩
                  · omega
                  · exact ⟨n + 1, hin, q', hq', by rw [hx3, show M1 121 q' + csV mk (M 118) (i : Int) - csV mk (M 118) (i : Int) = M1 121 q' by omega]; exact h1⟩
              · rw [u1_k _ _ z]; exact hF1.2.2 q hq
          · rw [sr_s]
            refine ⟨fun q q0 q1 => ?_, fun q hq q1 he => ?_, fun q q' hq q1 hqq => ?_⟩
            · by_cases z : q = (i : Int)
              · rw [u1_e _ _ z]
                have := hR1.1 q q0 q1
                rw [z] at this ⊢
                omega
              · rw [u1_k _ _ z]; exact hR1.1 q q0 q1
            · by_cases z : q = (i : Int)
              · rw [u1_e _ _ z, z]; exact hx1 (by rw [← z]; exact he)
              · rw [u1_k _ _ z]; exact hR1.2.1 q hq (by omega) he
            · by_cases z : q = (i : Int)
              · subst z
                rw [u1_s]
                have h36 := inV_36 a2 b2 (bsd_sym a2 hin hqq).2
                have := hx2 q' hqq
                have := hR1.1 q' h36.1 h36.2
                omega
              · rw [u1_k _ _ z]; exact hR1.2.2 q q' hq (by omega) hqq
        · repeat' (with_reducible first | refine k_gf (by first | assumption | omega) (by first | assumption | ((try simp (disch := omega) only [sr_s, sr_a, sr_sr, u1_s, u1_k, p5]); exact rfl)) ?_ | refine k_gr (by first | assumption | omega) (by first | assumption | ((try simp (disch := omega) only [sr_s, sr_a, sr_sr, u1_s, u1_k, p5]); exact rfl)) (by omega) ?_ | refine k_ald (by first | assumption | omega) (by first | assumption | exact rfl) (by omega) (by omega) (by omega) (by first | assumption | ((try simp (disch := omega) only [sr_s, sr_a, sr_sr, u1_s, u1_k, p5]); exact rfl)) ?_ | refine k_ifT (by first | (simp (disch := omega) only [w32_id]; first | done | omega) | omega) ?_ | refine k_ifF (by first | (simp (disch := omega) only [w32_id]; first | done | omega) | omega) ?_ | refine k_pf (by first | assumption | omega) (by (try simp (disch := omega) only [sr_s, sr_a, sr_sr, u1_u1, p5]); exact rfl) ?_ | refine k_ast (by first | assumption | omega) (by first | assumption | exact rfl) (by omega) (by omega) (by omega) (by (try simp (disch := omega) only [sr_s, sr_a, sr_sr, u1_u1, p5]); exact rfl) ?_ | refine k_irm (by omega) (by omega) (by omega) (by omega) ?_ | refine k_idv (by omega) (by omega) (by omega) (by omega) ?_ | refine k_tk (by first | assumption | omega) ?_ | refine k_rp (by omega) ?_ | refine k_aldR (by first | assumption | omega) (by first | assumption | exact rfl) (by omega) (by omega) (by omega) (by first | assumption | ((try simp (disch := omega) only [sr_s, sr_a, sr_sr, u1_s, u1_k, p5]); exact rfl)) (by omega) ?_ | refine k_astR (by first | assumption | omega) (by first | assumption | exact rfl) (by omega) (by omega) (by omega) (by first | assumption | omega) (by (try simp (disch := omega) only [sr_s, sr_a, sr_sr, u1_u1, p5]); exact rfl) ?_ | refine k_pz (by first | assumption | omega) (by omega) (by (try simp (disch := omega) only [sr_s, sr_a, sr_sr, u1_u1, p5]); exact rfl) ?_ | refine k_alen (by first | assumption | omega) (by first | assumption | exact rfl) ?_ | refine k_cpy (by first | assumption | omega) (by first | assumption | omega) (by first | assumption | exact rfl) (by first | assumption | exact rfl) (by omega) (by omega) (by omega) (by omega) (by omega) (by omega) (by omega) (by omega) (by (try simp (disch := omega) only [sr_s, sr_a, sr_sr, u1_u1, p5]); exact rfl) ?_)
          refine Ok.ret ⟨M1, b, rfl, f, hb, hb0, hF1, hR1.1, fun q hq q1 he => ?_, fun q q' hq q1 hqq => ?_⟩
          · by_cases z : q = (i : Int)
            · subst z
              have := hx1 he
              omega
            · exact hR1.2.1 q hq (by omega) he
          · by_cases z : q = (i : Int)
            · subst z
              have h36 := inV_36 a2 b2 (bsd_sym a2 hin hqq).2
              have := hx2 q' hqq
              have := hR1.1 q' h36.1 h36.2
              omega
            · exact hR1.2.2 q q' hq (by omega) hqq
      · rw [if_neg y] at hho
        have hni : ¬ inV (M 24 0) (M 24 1) (i : Int) := fun z => y ⟨z.2.1, z.2.2⟩
        have hfz := hF1.2.1 i (by omega) (by omega) hni
        repeat' (with_reducible first | refine k_gf (by first | assumption | omega) (by first | assumption | ((try simp (disch := omega) only [sr_s, sr_a, sr_sr, u1_s, u1_k, p5, hfz]); exact rfl)) ?_ | refine k_gr (by first | assumption | omega) (by first | assumption | ((try simp (disch := omega) only [sr_s, sr_a, sr_sr, u1_s, u1_k, p5, hfz]); exact rfl)) (by omega) ?_ | refine k_ald (by first | assumption | omega) (by first | assumption | exact rfl) (by omega) (by omega) (by omega) (by first | assumption | ((try simp (disch := omega) only [sr_s, sr_a, sr_sr, u1_s, u1_k, p5, hfz]); exact rfl)) ?_ | refine k_eq (hho) ?_ | refine k_ifT (by first | (simp (disch := omega) only [w32_id]; first | done | omega) | omega) ?_ | refine k_ifF (by first | (simp (disch := omega) only [w32_id]; first | done | omega) | omega) ?_ | refine k_pf (by first | assumption | omega) (by (try simp (disch := omega) only [sr_s, sr_a, sr_sr, u1_u1, p5, hfz]); exact rfl) ?_ | refine k_ast (by first | assumption | omega) (by first | assumption | exact rfl) (by omega) (by omega) (by omega) (by (try simp (disch := omega) only [sr_s, sr_a, sr_sr, u1_u1, p5, hfz]); exact rfl) ?_ | refine k_irm (by omega) (by omega) (by omega) (by omega) ?_ | refine k_idv (by omega) (by omega) (by omega) (by omega) ?_ | refine k_tk (by first | assumption | omega) ?_ | refine k_rp (by omega) ?_ | refine k_aldR (by first | assumption | omega) (by first | assumption | exact rfl) (by omega) (by omega) (by omega) (by first | assumption | ((try simp (disch := omega) only [sr_s, sr_a, sr_sr, u1_s, u1_k, p5, hfz]); exact rfl)) (by omega) ?_ | refine k_astR (by first | assumption | omega) (by first | assumption | exact rfl) (by omega) (by omega) (by omega) (by first | assumption | omega) (by (try simp (disch := omega) only [sr_s, sr_a, sr_sr, u1_u1, p5, hfz]); exact rfl) ?_ | refine k_pz (by first | assumption | omega) (by omega) (by (try simp (disch := omega) only [sr_s, sr_a, sr_sr, u1_u1, p5, hfz]); exact rfl) ?_ | refine k_alen (by first | assumption | omega) (by first | assumption | exact rfl) ?_ | refine k_cpy (by first | assumption | omega) (by first | assumption | omega) (by first | assumption | exact rfl) (by first | assumption | exact rfl) (by omega) (by omega) (by omega) (by omega) (by omega) (by omega) (by omega) (by omega) (by (try simp (disch := omega) only [sr_s, sr_a, sr_sr, u1_u1, p5, hfz]); exact rfl) ?_)
        refine Ok.ret ⟨M1, b, rfl, f, hb, hb0, hF1, hR1.1, fun q hq q1 he => ?_, fun q q' hq q1 hqq => ?_⟩
        · by_cases z : q = (i : Int)
          · exact absurd (by rw [← z]; exact hq) hni
          · exact hR1.2.1 q hq (by omega) he
        · by_cases z : q = (i : Int)
          · exact absurd (by rw [← z]; exact hq) hni
          · exact hR1.2.2 q q' hq (by omega) hqq
    · rintro _ ⟨M1, b, rfl, hS⟩
      unfold M_X2_leastInk_b34
      dsimp only
      repeat' (with_reducible first | refine k_gf (by first | assumption | omega) (by first | assumption | ((try simp (disch := omega) only [sr_s, sr_a, sr_sr, u1_s, u1_k]); exact rfl)) ?_ | refine k_gr (by first | assumption | omega) (by first | assumption | ((try simp (disch := omega) only [sr_s, sr_a, sr_sr, u1_s, u1_k]); exact rfl)) (by omega) ?_ | refine k_ald (by first | assumption | omega) (by first | assumption | exact rfl) (by omega) (by omega) (by omega) (by first | assumption | ((try simp (disch := omega) only [sr_s, sr_a, sr_sr, u1_s, u1_k]); exact rfl)) ?_ | refine k_ifT (by first | (simp (disch := omega) only [w32_id]; first | done | omega) | omega) ?_ | refine k_ifF (by first | (simp (disch := omega) only [w32_id]; first | done | omega) | omega) ?_ | refine k_pf (by first | assumption | omega) (by (try simp (disch := omega) only [sr_s, sr_a, sr_sr, u1_u1]); exact rfl) ?_ | refine k_ast (by first | assumption | omega) (by first | assumption | exact rfl) (by omega) (by omega) (by omega) (by (try simp (disch := omega) only [sr_s, sr_a, sr_sr, u1_u1]); exact rfl) ?_ | refine k_irm (by omega) (by omega) (by omega) (by omega) ?_ | refine k_idv (by omega) (by omega) (by omega) (by omega) ?_ | refine k_tk (by first | assumption | omega) ?_ | refine k_rp (by omega) ?_ | refine k_aldR (by first | assumption | omega) (by first | assumption | exact rfl) (by omega) (by omega) (by omega) (by first | assumption | ((try simp (disch := omega) only [sr_s, sr_a, sr_sr, u1_s, u1_k]); exact rfl)) (by omega) ?_ | refine k_astR (by first | assumption | omega) (by first | assumption | exact rfl) (by omega) (by omega) (by omega) (by first | assumption | omega) (by (try simp (disch := omega) only [sr_s, sr_a, sr_sr, u1_u1]); exact rfl) ?_ | refine k_pz (by first | assumption | omega) (by omega) (by (try simp (disch := omega) only [sr_s, sr_a, sr_sr, u1_u1]); exact rfl) ?_ | refine k_alen (by first | assumption | omega) (by first | assumption | exact rfl) ?_ | refine k_cpy (by first | assumption | omega) (by first | assumption | omega) (by first | assumption | exact rfl) (by first | assumption | exact rfl) (by omega) (by omega) (by omega) (by omega) (by omega) (by omega) (by omega) (by omega) (by (try simp (disch := omega) only [sr_s, sr_a, sr_sr, u1_u1]); exact rfl) ?_)
      exact Ok.ret ⟨M1, b, rfl, hS⟩
  · rintro _ ⟨M1, b, rfl, hS⟩
    exact Ok.ret ⟨M1, b, rfl, hS⟩
theorem X2_leastInk_ok (hG : gAll G) (hp117 : pr117 (M 117)) (a1 : 2 ≤ M 24 0) (a2 : M 24 0 ≤ 6) (b1 : 2 ≤ M 24 1) (b2 : M 24 1 ≤ 6) (k0 : 0 ≤ mk) (k6 : mk ≤ 6) (hm : ∀ i, 0 ≤ M 118 i ∧ M 118 i ≤ 9) (hp : inV (M 24 0) (M 24 1) p) : Ok (M_X2_leastInk (M, G) 117 24 p mk) (fun z => ∃ M1 x, z = ((M1, G), x) ∧ (∀ a, a ≠ 121 → M1 a = M a) ∧ (x = 1000 ∨ ∃ n, wyE (M 24 0) (M 24 1) (csV mk (M 118)) n p x) ∧ ∀ n w, wyE (M 24 0) (M 24 1) (csV mk (M 118)) n p w → x ≤ w) := by
  have hpb := inV_36 a2 b2 hp
  have hml := mul_b a1 a2 b1 b2
  have hcb : ∀ q, 0 ≤ csV mk (M 118) q := fun q => csV_b.1
  have k117 := gk_117 hG
  have k121 := gk_121 hG
  have l121 := gl_121 hG
  have p5 := pr117.p5 hp117
  unfold M_X2_leastInk
  repeat' (with_reducible first | refine k_gf (by first | assumption | omega) (by first | assumption | ((try simp (disch := omega) only [sr_s, sr_a, sr_sr, u1_s, u1_k, p5]); exact rfl)) ?_ | refine k_gr (by first | assumption | omega) (by first | assumption | ((try simp (disch := omega) only [sr_s, sr_a, sr_sr, u1_s, u1_k, p5]); exact rfl)) (by omega) ?_ | refine k_ald (by first | assumption | omega) (by first | assumption | exact rfl) (by omega) (by omega) (by omega) (by first | assumption | ((try simp (disch := omega) only [sr_s, sr_a, sr_sr, u1_s, u1_k, p5]); exact rfl)) ?_ | refine k_eq (J7_fill_ok k121 l121 (by omega) (by omega)) ?_ | refine k_ifT (by first | (simp (disch := omega) only [w32_id]; first | done | omega) | omega) ?_ | refine k_ifF (by first | (simp (disch := omega) only [w32_id]; first | done | omega) | omega) ?_ | refine k_pf (by first | assumption | omega) (by (try simp (disch := omega) only [sr_s, sr_a, sr_sr, u1_u1, p5]); exact rfl) ?_ | refine k_ast (by first | assumption | omega) (by first | assumption | exact rfl) (by omega) (by omega) (by omega) (by (try simp (disch := omega) only [sr_s, sr_a, sr_sr, u1_u1, p5]); exact rfl) ?_ | refine k_irm (by omega) (by omega) (by omega) (by omega) ?_ | refine k_idv (by omega) (by omega) (by omega) (by omega) ?_ | refine k_tk (by first | assumption | omega) ?_ | refine k_rp (by omega) ?_ | refine k_aldR (by first | assumption | omega) (by first | assumption | exact rfl) (by omega) (by omega) (by omega) (by first | assumption | ((try simp (disch := omega) only [sr_s, sr_a, sr_sr, u1_s, u1_k, p5]); exact rfl)) (by omega) ?_ | refine k_astR (by first | assumption | omega) (by first | assumption | exact rfl) (by omega) (by omega) (by omega) (by first | assumption | omega) (by (try simp (disch := omega) only [sr_s, sr_a, sr_sr, u1_u1, p5]); exact rfl) ?_ | refine k_pz (by first | assumption | omega) (by omega) (by (try simp (disch := omega) only [sr_s, sr_a, sr_sr, u1_u1, p5]); exact rfl) ?_ | refine k_alen (by first | assumption | omega) (by first | assumption | exact rfl) ?_ | refine k_cpy (by first | assumption | omega) (by first | assumption | omega) (by first | assumption | exact rfl) (by first | assumption | exact rfl) (by omega) (by omega) (by omega) (by omega) (by omega) (by omega) (by omega) (by omega) (by (try simp (disch := omega) only [sr_s, sr_a, sr_sr, u1_u1, p5]); exact rfl) ?_)
  generalize hN : sr M 121 (fun j => if 0 ≤ j ∧ j < 36 then 1000 else M 121 j) = N0
  have g : ∀ a, a ≠ 121 → N0 a = M a := fun a ha => by rw [← hN, sr_a _ _ ha]
  have g121 : ∀ q, 0 ≤ q → q < 36 → N0 121 q = 1000 := fun q q0 q1 => by rw [← hN, sr_s, if_pos ⟨q0, q1⟩]
  have hF0 : iwF (M 24 0) (M 24 1) (csV mk (M 118)) (N0 121) := ⟨fun q q0 q1 => by rw [g121 q q0 q1]; omega, fun q q0 q1 _ => g121 q q0 q1, fun q hq => by have := inV_36 a2 b2 hq; exact Or.inl (g121 q this.1 this.2)⟩
  clear hN
  unfold M_X2_leastInk_w16
  refine Ok.bind (Q := fun z => ∃ M1, z = (M1, G) ∧ (∀ a, a ≠ 121 → M1 a = M a) ∧ iwF (M 24 0) (M 24 1) (csV mk (M 118)) (M1 121) ∧ ∀ q n w, wyE (M 24 0) (M 24 1) (csV mk (M 118)) n q w → M1 121 q ≤ w) ?_ ?_
  · refine wh_for (fun i z => ∃ M1 b, z = ((M1, G), b, (i : Int)) ∧ (∀ a, a ≠ 121 → M1 a = M a) ∧ (b = 0 ∨ b = 1) ∧ iwF (M 24 0) (M 24 1) (csV mk (M 118)) (M1 121) ∧ prg (M 24 0) (M 24 1) (wyE (M 24 0) (M 24 1) (csV mk (M 118))) (M1 121) i ∧ (b = 0 → ∀ q n w, wyE (M 24 0) (M 24 1) (csV mk (M 118)) n q w → M1 121 q ≤ w)) _ 37 (by omega) ⟨N0, 1, rfl, g, Or.inr rfl, hF0, prg_0, fun z => by omega⟩ ?_ ?_
    · rintro i _ hi ⟨M1, b, rfl, f, hb, hF1, hpr, hdone⟩
      unfold M_X2_leastInk_b16
      dsimp only
      refine k_ifF (by rw [w32_id (by omega) (by omega)]; omega) ?_
      by_cases y : b = 0
      · subst y
        exact k_ifT (by decide) (Ok.ret ⟨M1, rfl, f, hF1, hdone rfl⟩)
      · refine k_ifF (by rw [w32_id (by omega) (by omega)]; exact y) ?_
        have f24 := f 24 (by omega)
        have f117 := f 117 (by omega)
        have f118 := f 118 (by omega)
        have hps := X2_pass_ok (M := M1) (mk := mk) (pl := p) (j := (i : Int)) hG (by rw [f117]; exact hp117) (by rw [f24]; exact a1) (by rw [f24]; exact a2) (by rw [f24]; exact b1) (by rw [f24]; exact b2) k0 k6 (by rw [f118]; exact hm) (by rw [f24, f118]; exact hF1)
        rw [f24, f118] at hps
        refine hps.mono ?_
        rintro _ ⟨M2, b2', rfl, f2, hb2, hb20, hF2, hR2⟩
        have dn : ∀ n q w, wyE (M 24 0) (M 24 1) (csV mk (M 118)) (n + 1) q w → ∃ q', (inV (M 24 0) (M 24 1) q ∧ bsd (M 24 0) (M 24 1) q q') ∧ wyE (M 24 0) (M 24 1) (csV mk (M 118)) n q' (w - csV mk (M 118) q) := fun n q w hq => by
          obtain ⟨hin, q', hb, h⟩ := hq
          exact ⟨q', ⟨hin, hb⟩, h⟩
        have up : ∀ n q q' w, (inV (M 24 0) (M 24 1) q ∧ bsd (M 24 0) (M 24 1) q q') → wyE (M 24 0) (M 24 1) (csV mk (M 118)) n q' w → wyE (M 24 0) (M 24 1) (csV mk (M 118)) (n + 1) q (w + csV mk (M 118) q) := fun n q q' w hqq hq => ⟨hqq.1, q', hqq.2, by rw [show w + csV mk (M 118) q - csV mk (M 118) q = w by omega]; exact hq⟩
        have ps : ∀ n q w, wyE (M 24 0) (M 24 1) (csV mk (M 118)) n q w → 0 ≤ w := fun n q w hq => Int.le_trans (hcb q) (wyE_0 hcb n q w hq)
        have bs : ∀ q w, wyE (M 24 0) (M 24 1) (csV mk (M 118)) 0 q w → M2 121 q ≤ w := fun q w hq => by
          obtain ⟨hin, he, hw⟩ := hq
          rw [hw]
          exact hR2.2.1 q hin (inV_36 a2 b2 hin).2 he
        have rl : ∀ q q' n w, (inV (M 24 0) (M 24 1) q ∧ bsd (M 24 0) (M 24 1) q q') → wyE (M 24 0) (M 24 1) (csV mk (M 118)) n q' w → M2 121 q ≤ M1 121 q' + csV mk (M 118) q := fun q q' n w hqq _ => hR2.2.2 q q' hqq.1 (inV_36 a2 b2 hqq.1).2 hqq.2
        have mo : ∀ q, inV (M 24 0) (M 24 1) q → M2 121 q ≤ M1 121 q := fun q hq => hR2.1 q (inV_36 a2 b2 hq).1 (inV_36 a2 b2 hq).2
        refine ⟨M2, b2', rfl, fun a ha => (f2 a ha).trans (f a ha), hb2, hF2, prg_step a1 a2 b2 wyE_in dn up ps bs rl mo hpr, fun z => ?_⟩
        by_cases w : ∀ q n w, wyE (M 24 0) (M 24 1) (csV mk (M 118)) n q w → M1 121 q ≤ w
        · rw [hb20 z]; exact w
        · obtain ⟨q, -, h1, h2⟩ := pass_new dn up ps bs rl w
          rw [hb20 z] at h2
          exact absurd h2 h1
    · rintro _ ⟨M1, b, rfl, f, hb, hF1, hpr, hdone⟩
      unfold M_X2_leastInk_b16
      dsimp only
      exact k_ifT (by decide) (Ok.ret ⟨M1, rfl, f, hF1, prg_end a1 a2 b2 wyE_in (by omega) hpr⟩)
  · rintro _ ⟨M1, rfl, f, hF1, hdone⟩
    have p5' : M1 117 5 = 121 := by rw [f 117 (by omega)]; exact p5
    unfold M_X2_leastInk_p102
    repeat' (with_reducible first | refine k_gf (by first | assumption | omega) (by first | assumption | ((try simp (disch := omega) only [sr_s, sr_a, sr_sr, u1_s, u1_k, p5']); exact rfl)) ?_ | refine k_gr (by first | assumption | omega) (by first | assumption | ((try simp (disch := omega) only [sr_s, sr_a, sr_sr, u1_s, u1_k, p5']); exact rfl)) (by omega) ?_ | refine k_ald (by first | assumption | omega) (by first | assumption | exact rfl) (by omega) (by omega) (by omega) (by first | assumption | ((try simp (disch := omega) only [sr_s, sr_a, sr_sr, u1_s, u1_k, p5']); exact rfl)) ?_ | refine k_ifT (by first | (simp (disch := omega) only [w32_id]; first | done | omega) | omega) ?_ | refine k_ifF (by first | (simp (disch := omega) only [w32_id]; first | done | omega) | omega) ?_ | refine k_pf (by first | assumption | omega) (by (try simp (disch := omega) only [sr_s, sr_a, sr_sr, u1_u1, p5']); exact rfl) ?_ | refine k_ast (by first | assumption | omega) (by first | assumption | exact rfl) (by omega) (by omega) (by omega) (by (try simp (disch := omega) only [sr_s, sr_a, sr_sr, u1_u1, p5']); exact rfl) ?_ | refine k_irm (by omega) (by omega) (by omega) (by omega) ?_ | refine k_idv (by omega) (by omega) (by omega) (by omega) ?_ | refine k_tk (by first | assumption | omega) ?_ | refine k_rp (by omega) ?_ | refine k_aldR (by first | assumption | omega) (by first | assumption | exact rfl) (by omega) (by omega) (by omega) (by first | assumption | ((try simp (disch := omega) only [sr_s, sr_a, sr_sr, u1_s, u1_k, p5']); exact rfl)) (by omega) ?_ | refine k_astR (by first | assumption | omega) (by first | assumption | exact rfl) (by omega) (by omega) (by omega) (by first | assumption | omega) (by (try simp (disch := omega) only [sr_s, sr_a, sr_sr, u1_u1, p5']); exact rfl) ?_ | refine k_pz (by first | assumption | omega) (by omega) (by (try simp (disch := omega) only [sr_s, sr_a, sr_sr, u1_u1, p5']); exact rfl) ?_ | refine k_alen (by first | assumption | omega) (by first | assumption | exact rfl) ?_ | refine k_cpy (by first | assumption | omega) (by first | assumption | omega) (by first | assumption | exact rfl) (by first | assumption | exact rfl) (by omega) (by omega) (by omega) (by omega) (by omega) (by omega) (by omega) (by omega) (by (try simp (disch := omega) only [sr_s, sr_a, sr_sr, u1_u1, p5']); exact rfl) ?_)
    exact Ok.ret ⟨M1, _, rfl, f, hF1.2.2 p hp, fun n w h => hdone p n w h⟩
end I2
