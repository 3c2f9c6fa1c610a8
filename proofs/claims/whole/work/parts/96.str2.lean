/-! strokes: the class tries picks -/
section S6
variable {M M1 N : Int → Int → Int} {G : GG} {mk n b t q mark L m A B p due : Int}
/-- the row of picks holds a pick -/
def pkM (f : Int → Int) (m a b c : Int) : Prop := f 0 = a ∧ (2 ≤ m → f 1 = b) ∧ (m = 3 → f 2 = c)
theorem X6_tryPick_ok {tr a b c : Int} (hG : gAll G) (hp106 : pr106 (M 106)) (hp111 : pr111 (M 111)) (pa : M 111 1 = A) (hA : A = 112 ∨ A = 113) (hm : 1 ≤ m ∧ m ≤ 3) (hV : pkV L m a b c) (l36 : L ≤ 36) (hpk : pkM (M 109) m a b c) (hop : ∀ i, 0 ≤ i → i < L → 0 ≤ M 107 i ∧ M 107 i < 36) (t0 : 0 ≤ tr) (t1 : tr < 64) (m0 : 0 ≤ mark) (m8 : mark < 8) : Ok (M_X6_tryPick (M, G) 106 tr m mark) (fun h => ∃ M1, h = (M1, G) ∧ (∀ x, x ≠ A → x ≠ 110 → M1 x = M x) ∧ pkM (fun i => M1 110 (3 * tr + i)) m (M 107 a) (M 107 b) (M 107 c) ∧ (∀ j, j < 3 * tr ∨ 3 * tr + 3 ≤ j → M1 110 j = M 110 j) ∧ ∀ q s v, 0 ≤ s → s < 64 → enc (M A) q s v → enc (M1 A) q s (if s = tr ∧ pkD (M 107) m a b c q = true then mark else v)) := by
  have kA : G.1 A = 2 := by rcases hA with rfl | rfl; exact gk_112 hG; exact gk_113 hG
  have lA : G.2.1 A = 108 := by rcases hA with rfl | rfl; exact gl_112 hG; exact gl_113 hG
  have k106 := gk_106 hG
  have k107 := gk_107 hG
  have l107 := gl_107 hG
  have k109 := gk_109 hG
  have l109 := gl_109 hG
  have k110 := gk_110 hG
  have l110 := gl_110 hG
  have k111 := gk_111 hG
  have p1 := pr106.p1 hp106
  have p2 := pr106.p2 hp106
  have p5 := pr106.p5 hp106
  have p6 := pr106.p6 hp106
  -- one place put
  have put : ∀ (N : Int → Int → Int) (i x : Int), N 106 = M 106 → N 107 = M 107 → N 109 = M 109 → N 111 = M 111 → 0 ≤ i → i < m → M 109 i = x → 0 ≤ x → x < L → Ok (M_X6_tryPick_b3 (N, G) 106 tr m mark i) (fun z => ∃ N1, z = .inl ((N1, G), i + 1) ∧ (∀ y, y ≠ A → y ≠ 110 → N1 y = N y) ∧ N1 110 (3 * tr + i) = M 107 x ∧ (∀ j, j ≠ 3 * tr + i → N1 110 j = N 110 j) ∧ ∀ q s v, 0 ≤ s → s < 64 → enc (N A) q s v → enc (N1 A) q s (if s = tr ∧ q = M 107 x then mark else v)) := by
    intro N i x n6 n7 n9 n11 i0 i1 hx x0 x1
    have hox := hop x x0 x1
    have hov := X7_overlay_ok (M := N) (a := A) (q := M 107 x) (T := lshl 1 tr) (mk := mark) kA lA hox.1 hox.2 m0 m8
    have hput : M_X7_put (N, G) 111 tr (M 107 x) mark = some (sr N A (ovR (N A) (M 107 x) (lshl 1 tr) mark 3), G) := by
      refine Ok.eq ?_
      unfold M_X7_put
      refine k_tk k111 (k_gr k111 (v := A) (by rw [n11]; exact pa) (by omega) (k_eq hov (Ok.ret rfl)))
    generalize hN : sr N A (ovR (N A) (M 107 x) (lshl 1 tr) mark 3) = N2 at *
    have g : ∀ y, y ≠ A → N2 y = N y := fun y hy => by rw [← hN, sr_a _ _ hy]
    have gA : N2 A = ovR (N A) (M 107 x) (lshl 1 tr) mark 3 := by rw [← hN, sr_s]
    have g106 : N2 106 = M 106 := (g 106 (by omega)).trans n6
    unfold M_X6_tryPick_b3
    repeat' (with_reducible first | refine k_gf (by first | assumption | omega) (by first | assumption | ((try simp (disch := omega) only [sr_s, sr_a, sr_sr, u1_s, u1_k, n6, n7, n9, p1, p2, p5, hx]); exact rfl)) ?_ | refine k_gr (by first | assumption | omega) (by first | assumption | ((try simp (disch := omega) only [sr_s, sr_a, sr_sr, u1_s, u1_k, n6, n7, n9, p1, p2, p5, hx]); exact rfl)) (by omega) ?_ | refine k_ald (by first | assumption | omega) (by first | assumption | exact rfl) (by omega) (by omega) (by omega) (by first | assumption | ((try simp (disch := omega) only [sr_s, sr_a, sr_sr, u1_s, u1_k, n6, n7, n9, p1, p2, p5, hx]); exact rfl)) ?_ | refine k_eq (hput) ?_ | refine k_ifT (by first | (simp (disch := omega) only [w32_id]; first | done | omega) | omega) ?_ | refine k_ifF (by first | (simp (disch := omega) only [w32_id]; first | done | omega) | omega) ?_ | refine k_pf (by first | assumption | omega) (by (try simp (disch := omega) only [sr_s, sr_a, sr_sr, u1_u1, n6, n7, n9, p1, p2, p5, hx]); exact rfl) ?_ | refine k_ast (by first | assumption | omega) (by first | assumption | exact rfl) (by omega) (by omega) (by omega) (by (try simp (disch := omega) only [sr_s, sr_a, sr_sr, u1_u1, n6, n7, n9, p1, p2, p5, hx]); exact rfl) ?_ | refine k_irm (by omega) (by omega) (by omega) (by omega) ?_ | refine k_idv (by omega) (by omega) (by omega) (by omega) ?_ | refine k_tk (by first | assumption | omega) ?_ | refine k_rp (by omega) ?_ | refine k_aldR (by first | assumption | omega) (by first | assumption | exact rfl) (by omega) (by omega) (by omega) (by first | assumption | ((try simp (disch := omega) only [sr_s, sr_a, sr_sr, u1_s, u1_k, n6, n7, n9, p1, p2, p5, hx]); exact rfl)) (by omega) ?_ | refine k_astR (by first | assumption | omega) (by first | assumption | exact rfl) (by omega) (by omega) (by omega) (by first | assumption | omega) (by (try simp (disch := omega) only [sr_s, sr_a, sr_sr, u1_u1, n6, n7, n9, p1, p2, p5, hx]); exact rfl) ?_ | refine k_pz (by first | assumption | omega) (by omega) (by (try simp (disch := omega) only [sr_s, sr_a, sr_sr, u1_u1, n6, n7, n9, p1, p2, p5, hx]); exact rfl) ?_ | refine k_alen (by first | assumption | omega) (by first | assumption | exact rfl) ?_ | refine k_cpy (by first | assumption | omega) (by first | assumption | omega) (by first | assumption | exact rfl) (by first | assumption | exact rfl) (by omega) (by omega) (by omega) (by omega) (by omega) (by omega) (by omega) (by omega) (by (try simp (disch := omega) only [sr_s, sr_a, sr_sr, u1_u1, n6, n7, n9, p1, p2, p5, hx]); exact rfl) ?_)
    repeat' (with_reducible first | refine k_gf (by first | assumption | omega) (by first | assumption | ((try simp (disch := omega) only [sr_s, sr_a, sr_sr, u1_s, u1_k, g106, p6]); exact rfl)) ?_ | refine k_gr (by first | assumption | omega) (by first | assumption | ((try simp (disch := omega) only [sr_s, sr_a, sr_sr, u1_s, u1_k, g106, p6]); exact rfl)) (by omega) ?_ | refine k_ald (by first | assumption | omega) (by first | assumption | exact rfl) (by omega) (by omega) (by omega) (by first | assumption | ((try simp (disch := omega) only [sr_s, sr_a, sr_sr, u1_s, u1_k, g106, p6]); exact rfl)) ?_ | refine k_ifT (by first | (simp (disch := omega) only [w32_id]; first | done | omega) | omega) ?_ | refine k_ifF (by first | (simp (disch := omega) only [w32_id]; first | done | omega) | omega) ?_ | refine k_pf (by first | assumption | omega) (by (try simp (disch := omega) only [sr_s, sr_a, sr_sr, u1_u1, g106, p6]); exact rfl) ?_ | refine k_ast (by first | assumption | omega) (by first | assumption | exact rfl) (by omega) (by omega) (by omega) (by (try simp (disch := omega) only [sr_s, sr_a, sr_sr, u1_u1, g106, p6]); exact rfl) ?_ | refine k_irm (by omega) (by omega) (by omega) (by omega) ?_ | refine k_idv (by omega) (by omega) (by omega) (by omega) ?_ | refine k_tk (by first | assumption | omega) ?_ | refine k_rp (by omega) ?_ | refine k_aldR (by first | assumption | omega) (by first | assumption | exact rfl) (by omega) (by omega) (by omega) (by first | assumption | ((try simp (disch := omega) only [sr_s, sr_a, sr_sr, u1_s, u1_k, g106, p6]); exact rfl)) (by omega) ?_ | refine k_astR (by first | assumption | omega) (by first | assumption | exact rfl) (by omega) (by omega) (by omega) (by first | assumption | omega) (by (try simp (disch := omega) only [sr_s, sr_a, sr_sr, u1_u1, g106, p6]); exact rfl) ?_ | refine k_pz (by first | assumption | omega) (by omega) (by (try simp (disch := omega) only [sr_s, sr_a, sr_sr, u1_u1, g106, p6]); exact rfl) ?_ | refine k_alen (by first | assumption | omega) (by first | assumption | exact rfl) ?_ | refine k_cpy (by first | assumption | omega) (by first | assumption | omega) (by first | assumption | exact rfl) (by first | assumption | exact rfl) (by omega) (by omega) (by omega) (by omega) (by omega) (by omega) (by omega) (by omega) (by (try simp (disch := omega) only [sr_s, sr_a, sr_sr, u1_u1, g106, p6]); exact rfl) ?_)
    refine Ok.ret ⟨_, rfl, fun y h1 h2 => by rw [sr_a _ _ h2]; exact g y h1, by rw [sr_s, u1_s], fun j hj => by rw [sr_s, u1_k _ _ hj, g 110 (by omega)], fun q s v s0 s1 he => ?_⟩
    rw [sr_a _ _ (by omega), gA]
    have hsh := shl1_bt (q := tr) (p := s) t0 t1 s0 s1
    by_cases y : q = M 107 x
    · subst y
      refine enc_ov s0 s1 (fun z => ?_) (fun z => ?_)
      · rw [hsh] at z
        rw [if_neg (fun w => of_decide_eq_false z w.1)]
        exact he
      · rw [hsh] at z
        rw [if_pos ⟨of_decide_eq_true z, rfl⟩]
    · rw [if_neg (fun w => y w.2)]
      exact enc_o he (fun c c0 c3 => ovR_o y c0 c3)
  unfold M_X6_tryPick M_X6_tryPick_w3 M_X6_tryPick_p53
  refine k_tk k106 ?_
  refine Ok.bind (Q := fun h => ∃ M1, h = (M1, G) ∧ (∀ x, x ≠ A → x ≠ 110 → M1 x = M x) ∧ (∀ i x, 0 ≤ i → i < m → M 109 i = x → M1 110 (3 * tr + i) = M 107 x) ∧ (∀ j, j < 3 * tr ∨ 3 * tr + m ≤ j → M1 110 j = M 110 j) ∧ ∀ q s v, 0 ≤ s → s < 64 → enc (M A) q s v → (s = tr ∧ (∃ i x, 0 ≤ i ∧ i < m ∧ M 109 i = x ∧ q = M 107 x) → enc (M1 A) q s mark) ∧ (¬ (s = tr ∧ (∃ i x, 0 ≤ i ∧ i < m ∧ M 109 i = x ∧ q = M 107 x)) → enc (M1 A) q s v)) ?_ ?_
  · have hpkb : ∀ i, 0 ≤ i → i < m → 0 ≤ M 109 i ∧ M 109 i < L := fun i i0 i1 => by
      unfold pkV at hV
      unfold pkM at hpk
      have hm' : m = 1 ∨ m = 2 ∨ m = 3 := by omega
      have hi' : i = 0 ∨ i = 1 ∨ i = 2 := by omega
      rcases hi' with rfl | rfl | rfl
      · rw [hpk.1]; omega
      · rw [hpk.2.1 (by omega)]; omega
      · rw [hpk.2.2 (by omega)]; omega
    refine wh_for (fun k z => ∃ M1, z = ((M1, G), (k : Int)) ∧ (∀ x, x ≠ A → x ≠ 110 → M1 x = M x) ∧ (∀ i x, 0 ≤ i → i < (k : Int) → M 109 i = x → M1 110 (3 * tr + i) = M 107 x) ∧ (∀ j, j < 3 * tr ∨ 3 * tr + (k : Int) ≤ j → M1 110 j = M 110 j) ∧ ∀ q s v, 0 ≤ s → s < 64 → enc (M A) q s v → (s = tr ∧ (∃ i x, 0 ≤ i ∧ i < (k : Int) ∧ M 109 i = x ∧ q = M 107 x) → enc (M1 A) q s mark) ∧ (¬ (s = tr ∧ (∃ i x, 0 ≤ i ∧ i < (k : Int) ∧ M 109 i = x ∧ q = M 107 x)) → enc (M1 A) q s v)) _ m.toNat (by omega) ⟨M, rfl, fun _ _ _ => rfl, fun i x i0 i1 => by omega, fun _ _ => rfl, fun q s v s0 s1 he => ⟨fun ⟨_, i, x, i0, i1, _⟩ => by omega, fun _ => he⟩⟩ ?_ ?_
    · rintro k _ hk ⟨M1, rfl, f, h110, h110', hen⟩
      have hb := hpkb k (by omega) (by omega)
      refine (put M1 k (M 109 k) (f 106 (by omega) (by omega)) (f 107 (by omega) (by omega)) (f 109 (by omega) (by omega)) (f 111 (by omega) (by omega)) (by omega) (by omega) rfl hb.1 hb.2).mono ?_
      rintro _ ⟨N1, rfl, g, g1, g2, g3⟩
      refine ⟨N1, rfl, fun x h1 h2 => (g x h1 h2).trans (f x h1 h2), fun i x i0 i1 hx => ?_, fun j hj => ?_, fun q s v s0 s1 he => ?_⟩
      · by_cases y : i = (k : Int)
        · subst y; rw [g1, hx]
        · rw [g2 _ (by omega)]; exact h110 i x i0 (by omega) hx
      · rw [g2 j (by omega)]; exact h110' j (by omega)
      · have h0 := hen q s v s0 s1 he
        refine ⟨?_, fun hn => ?_⟩
        · rintro ⟨y, i, x, i0, i1, hx, hq⟩
          by_cases y2 : q = M 107 (M 109 k)
          · have h1 := g3 q s _ s0 s1 (Classical.byCases (p := s = tr ∧ (∃ i x, 0 ≤ i ∧ i < (k : Int) ∧ M 109 i = x ∧ q = M 107 x)) (fun z => (⟨_, h0.1 z⟩ : ∃ w, enc (M1 A) q s w)) (fun z => ⟨_, h0.2 z⟩)).choose_spec
            rw [if_pos ⟨y, y2⟩] at h1
            exact h1
          · have h1 := g3 q s _ s0 s1 (h0.1 ⟨y, i, x, i0, by
              by_cases y4 : i = (k : Int)
              · subst y4; subst hx; exact absurd hq y2
              · omega, hx, hq⟩)
            rw [if_neg (fun z => y2 z.2)] at h1
            exact h1
        · have h1 := g3 q s _ s0 s1 (h0.2 (fun ⟨z, i, x, i0, i1, hx, hq⟩ => hn ⟨z, i, x, i0, by omega, hx, hq⟩))
          rw [if_neg (fun z => hn ⟨z.1, k, M 109 k, by omega, by omega, rfl, z.2⟩)] at h1
          exact h1
    · rintro _ ⟨M1, rfl, f, h110, h110', hen⟩
      unfold M_X6_tryPick_b3
      dsimp only
      refine k_ifF (by rw [w32_id (by omega) (by omega), w32_id (by omega) (by omega)]; omega) ?_
      rw [show ((m.toNat : Nat) : Int) = m by omega] at h110 h110' hen
      exact Ok.ret ⟨M1, rfl, f, h110, h110', hen⟩
  · rintro _ ⟨M1, rfl, f, h110, h110', hen⟩
    refine Ok.ret ⟨M1, rfl, f, ⟨?_, fun z => ?_, fun z => ?_⟩, fun j hj => h110' j (by omega), fun q s v s0 s1 he => ?_⟩
    · exact h110 0 a (by omega) (by omega) hpk.1
    · exact h110 1 b (by omega) (by omega) (hpk.2.1 z)
    · exact h110 2 c (by omega) (by omega) (hpk.2.2 z)
    · have h1 := hen q s v s0 s1 he
      have hiff : (∃ i x, 0 ≤ i ∧ i < m ∧ M 109 i = x ∧ q = M 107 x) ↔ pkD (M 107) m a b c q = true := by
        unfold pkD
        simp only [Bool.or_eq_true, Bool.and_eq_true, decide_eq_true_eq]
        constructor
        · rintro ⟨i, x, i0, i1, hx, hq⟩
          have hi' : i = 0 ∨ i = 1 ∨ i = 2 := by omega
          rcases hi' with rfl | rfl | rfl
          · rw [← hx, hpk.1] at hq; exact Or.inl (Or.inl hq)
          · rw [← hx, hpk.2.1 (by omega)] at hq; exact Or.inl (Or.inr ⟨by omega, hq⟩)
          · rw [← hx, hpk.2.2 (by omega)] at hq; exact Or.inr ⟨by omega, hq⟩
        · rintro ((hq | ⟨h2, hq⟩) | ⟨h2, hq⟩)
          · exact ⟨0, a, by omega, by omega, hpk.1, hq⟩
          · exact ⟨1, b, by omega, by omega, hpk.2.1 h2, hq⟩
          · exact ⟨2, c, by omega, by omega, hpk.2.2 h2, hq⟩
      by_cases y : s = tr ∧ pkD (M 107) m a b c q = true
      · rw [if_pos y]; exact h1.1 ⟨y.1, hiff.2 y.2⟩
      · rw [if_neg y]; exact h1.2 (fun z => y ⟨z.1, hiff.1 z.2⟩)
theorem X6_takeFirst_ok {X : Int} (hG : gAll G) (hp106 : pr106 (M 106)) (hm : 1 ≤ m ∧ m ≤ 3) : Ok (M_X6_takeFirst (M, G) 106 X m) (fun z => (∃ tr, 0 ≤ tr ∧ tr < 64 ∧ bt X tr = true ∧ (∀ s, 0 ≤ s → s < tr → bt X s = false) ∧ ∃ M1, z = ((M1, G), 1) ∧ (∀ a, a ≠ 108 → M1 a = M a) ∧ ∀ i, 0 ≤ i → i < m → M1 108 i = M 110 (3 * tr + i)) ∨ z = ((M, G), 0) ∧ ∀ s, 0 ≤ s → s < 64 → bt X s = false) := by
  have k106 := gk_106 hG
  have k108 := gk_108 hG
  have l108 := gl_108 hG
  have k110 := gk_110 hG
  have l110 := gl_110 hG
  have p4 := pr106.p4 hp106
  have p6 := pr106.p6 hp106
  have h1 : lshl 1 0 = 1 := by decide
  unfold M_X6_takeFirst M_X6_takeFirst_w3
  refine k_tk k106 ?_
  have hlo : Ok (wh (S := Int) (T := (Unit ⊕ (Hp × Int))) (fun a => M_X6_takeFirst_b3 (M, G) 106 X m a) FU 0) (lo (fun _ => ∀ s, 0 ≤ s → s < 64 → bt X s = false) (fun z => ∃ tr, 0 ≤ tr ∧ tr < 64 ∧ bt X tr = true ∧ (∀ s, 0 ≤ s → s < tr → bt X s = false) ∧ ∃ M1, z = ((M1, G), 1) ∧ (∀ a, a ≠ 108 → M1 a = M a) ∧ ∀ i, 0 ≤ i → i < m → M1 108 i = M 110 (3 * tr + i))) := by
    refine wh_for (fun i s => s = (i : Int) ∧ ∀ s, 0 ≤ s → s < (i : Int) → bt X s = false) _ 64 (by omega) ⟨rfl, fun s s0 s1 => by omega⟩ ?_ ?_
    · rintro i _ hi ⟨rfl, hx⟩
      have hk := land_bt (x := lushr X (i : Int)) (q := 0) (by omega) (by omega)
      rw [h1, ushr_bt (by omega) (by omega)] at hk
      unfold M_X6_takeFirst_b3
      refine k_ifT (by rw [w32_id (by omega) (by omega)]; omega) ?_
      refine k_if hk (fun c => ?_) (fun c => ?_)
      · refine Ok.ret ⟨by omega, fun s s0 s1 => ?_⟩
        by_cases y : s = (i : Int)
        · rw [y]; exact c
        · exact hx s s0 (by omega)
      · repeat' (with_reducible first | refine k_gf (by first | assumption | omega) (by first | assumption | ((try simp (disch := omega) only [sr_s, sr_a, sr_sr, u1_s, u1_k, p4, p6]); exact rfl)) ?_ | refine k_gr (by first | assumption | omega) (by first | assumption | ((try simp (disch := omega) only [sr_s, sr_a, sr_sr, u1_s, u1_k, p4, p6]); exact rfl)) (by omega) ?_ | refine k_ald (by first | assumption | omega) (by first | assumption | exact rfl) (by omega) (by omega) (by omega) (by first | assumption | ((try simp (disch := omega) only [sr_s, sr_a, sr_sr, u1_s, u1_k, p4, p6]); exact rfl)) ?_ | refine k_ifT (by first | (simp (disch := omega) only [w32_id]; first | done | omega) | omega) ?_ | refine k_ifF (by first | (simp (disch := omega) only [w32_id]; first | done | omega) | omega) ?_ | refine k_pf (by first | assumption | omega) (by (try simp (disch := omega) only [sr_s, sr_a, sr_sr, u1_u1, p4, p6]); exact rfl) ?_ | refine k_ast (by first | assumption | omega) (by first | assumption | exact rfl) (by omega) (by omega) (by omega) (by (try simp (disch := omega) only [sr_s, sr_a, sr_sr, u1_u1, p4, p6]); exact rfl) ?_ | refine k_irm (by omega) (by omega) (by omega) (by omega) ?_ | refine k_idv (by omega) (by omega) (by omega) (by omega) ?_ | refine k_tk (by first | assumption | omega) ?_ | refine k_rp (by omega) ?_ | refine k_aldR (by first | assumption | omega) (by first | assumption | exact rfl) (by omega) (by omega) (by omega) (by first | assumption | ((try simp (disch := omega) only [sr_s, sr_a, sr_sr, u1_s, u1_k, p4, p6]); exact rfl)) (by omega) ?_ | refine k_astR (by first | assumption | omega) (by first | assumption | exact rfl) (by omega) (by omega) (by omega) (by first | assumption | omega) (by (try simp (disch := omega) only [sr_s, sr_a, sr_sr, u1_u1, p4, p6]); exact rfl) ?_ | refine k_pz (by first | assumption | omega) (by omega) (by (try simp (disch := omega) only [sr_s, sr_a, sr_sr, u1_u1, p4, p6]); exact rfl) ?_ | refine k_alen (by first | assumption | omega) (by first | assumption | exact rfl) ?_ | refine k_cpy (by first | assumption | omega) (by first | assumption | omega) (by first | assumption | exact rfl) (by first | assumption | exact rfl) (by omega) (by omega) (by omega) (by omega) (by omega) (by omega) (by omega) (by omega) (by (try simp (disch := omega) only [sr_s, sr_a, sr_sr, u1_u1, p4, p6]); exact rfl) ?_)
        refine Ok.ret ⟨i, by omega, by omega, by simpa using c, hx, _, rfl, fun a ha => sr_a _ _ ha, fun j j0 j1 => ?_⟩
        rw [sr_s]; unfold cp1; rw [if_pos (by omega), show 3 * (i : Int) + (j - 0) = 3 * i + j by omega]
    · rintro _ ⟨rfl, hx⟩
      unfold M_X6_takeFirst_b3
      exact k_ifF (by decide) (Ok.ret hx)
  refine Ok.bind hlo ?_
  intro z hz
  cases z with
  | inl u =>
    rw [exi_l]
    unfold M_X6_takeFirst_p46
    exact Ok.ret (Or.inr ⟨rfl, hz⟩)
  | inr q =>
    rw [exi_r]
    exact Ok.ret (Or.inl hz)
end S6
