/-! fits: the class's search -/
theorem rk_cg2 {e e' : Int → Int} : ∀ n : Nat, (∀ t : Nat, t < n → e (4 * (t : Int)) = e' (4 * (t : Int))) → rk e n = rk e' n
  | 0, _ => rfl
  | n + 1, h => by
    show rk e n + _ = rk e' n + _
    rw [rk_cg2 n (fun t ht => h t (by omega)), h n (by omega)]
theorem bh_er2 {wd hi tw s0 : Int} {co e e' ce : Int → Int} (h : ∀ i, 0 ≤ i → i < 4 * tw → e i = e' i) : ∀ k, bh wd hi tw co e s0 ce k = bh wd hi tw co e' s0 ce k
  | 0 => rfl
  | k + 1 => by
    show cellV wd hi tw co e (drV wd hi tw e s0 k) (bh wd hi tw co e s0 ce k) = cellV wd hi tw co e' (drV wd hi tw e' s0 k) (bh wd hi tw co e' s0 ce k)
    rw [bh_er2 h k]
    funext i
    unfold cellV
    by_cases c : 0 ≤ i ∧ i < 36 * tw ∧ i % 36 % 6 < wd ∧ i % 36 / 6 < hi ∧ 0 ≤ co (i / 36)
    · rw [if_pos c, if_pos c]
      unfold drV
      rw [h _ (by omega) (by omega), h _ (by omega) (by omega), h _ (by omega) (by omega), h _ (by omega) (by omega), rk_cg2 tw.toNat (fun t ht => h _ (by omega) (by omega)), rk_cg2 (i / 36).toNat (fun t ht => h _ (by omega) (by omega))]
    · rw [if_neg c, if_neg c]
theorem fst_iff {F : Nat → Bool} (n : Nat) : fstN F n 0 = -2 ↔ ∀ i, i < n → F i = false := by
  rcases first_or (g := F) n with h | ⟨j, hj, h1, h2⟩
  · exact ⟨fun _ => h, fun _ => fstN_no n 0 (fun k _ hk => h k (by omega))⟩
  · have := fstN_hit (g := F) n 0 j (by omega) (by omega) h1 (fun k _ hk => h2 k hk)
    rw [this]
    exact ⟨fun z => by omega, fun z => by have := z j hj; rw [h1] at this; cases this⟩
theorem seN_iff {f : Int → Bool} : ∀ n : Nat, seN f n = true ↔ ∀ i : Nat, i < n → f (i : Int) = true
  | 0 => ⟨fun _ i hi => by omega, fun _ => rfl⟩
  | n + 1 => by
    show (seN f n && f (n : Int)) = true ↔ _
    rw [Bool.and_eq_true, seN_iff n]
    constructor
    · intro h i hi
      by_cases y : i = n
      · subst y; exact h.2
      · exact h.1 i (by omega)
    · intro h
      exact ⟨fun i hi => h i (by omega), h n (by omega)⟩
theorem uk_le {er : Int → Int} : ∀ n, uk er n ≤ n
  | 0 => Nat.le_refl _
  | n + 1 => by
    show uk er n + _ ≤ n + 1
    have := uk_le (er := er) n
    split <;> omega
theorem uk_mono {er : Int → Int} {a : Nat} : ∀ d, uk er a ≤ uk er (a + d)
  | 0 => Nat.le_refl _
  | d + 1 => by
    show uk er a ≤ uk er (a + d) + _
    have := uk_mono (er := er) (a := a) d
    omega
theorem uk_lt {er : Int → Int} {t n : Nat} (h : t < n) (e : er (4 * (t : Int)) = 10) : uk er t < uk er n := by
  have h1 := uk_mono (er := er) (a := t + 1) (n - (t + 1))
  rw [show t + 1 + (n - (t + 1)) = n by omega] at h1
  have h2 : uk er (t + 1) = uk er t + 1 := by show uk er t + _ = _; rw [if_pos e]
  omega
theorem fitN_le {M : Int → Int → Int} {td : Int} : ∀ n, fitN M td n ≤ n
  | 0 => Nat.le_refl _
  | n + 1 => by
    show fitN M td n + _ ≤ n + 1
    have := fitN_le (M := M) (td := td) n
    split <;> omega
theorem pw_b {g : Int} (g1 : 1 ≤ g) (g5 : g ≤ 5) : ∀ n : Nat, n ≤ 4 → 1 ≤ g ^ n ∧ g ^ n ≤ 625 := by
  intro n hn
  have hg : g = 1 ∨ g = 2 ∨ g = 3 ∨ g = 4 ∨ g = 5 := by omega
  have hn : n = 0 ∨ n = 1 ∨ n = 2 ∨ n = 3 ∨ n = 4 := by omega
  rcases hg with rfl | rfl | rfl | rfl | rfl <;> rcases hn with rfl | rfl | rfl | rfl | rfl <;> decide
theorem pw_b0 {g : Int} (g0 : 0 ≤ g) (g5 : g ≤ 5) : ∀ n : Nat, n ≤ 4 → 0 ≤ g ^ n ∧ g ^ n ≤ 625 := by
  intro n hn
  have hg : g = 0 ∨ g = 1 ∨ g = 2 ∨ g = 3 ∨ g = 4 ∨ g = 5 := by omega
  have hn : n = 0 ∨ n = 1 ∨ n = 2 ∨ n = 3 ∨ n = 4 := by omega
  rcases hg with rfl | rfl | rfl | rfl | rfl | rfl <;> rcases hn with rfl | rfl | rfl | rfl | rfl <;> decide
section F1
variable {M M1 M2 : Int → Int → Int} {G : GG} {td r rg : Int}
/-- what the class's search needs of a ring -/
def fiI (M : Int → Int → Int) (G : GG) (td : Int) : Prop := gAll G ∧ (td = 2 ∨ td = 13) ∧ shR M td ∧ shW M (td + 1) ∧ 0 ≤ M (td + 1) 2 ∧ M (td + 1) 2 ≤ 6 ∧ (∀ i, -2 ≤ M (td + 4) i ∧ M (td + 4) i ≤ 10) ∧ uk (M (td + 4)) (M (td + 1) 2).toNat ≤ 4 ∧ 0 ≤ M td 4 ∧ M td 4 ≤ 5
theorem fiI.cg (h : fiI M G td) (f : ∀ a, 0 < a → a < 24 → M1 a = M a) : fiI M1 G td := by
  obtain ⟨hG, ht, h1, h2, h3⟩ := h
  unfold fiI shR shW mW zoW at *
  simp (disch := omega) only [f]
  exact ⟨hG, ht, h1, h2, h3⟩
theorem X5_isUnknown_ok (h : fiI M G td) {t : Int} (t0 : 0 ≤ t) (t6 : t < 6) : M_X5_isUnknown (M, G) td t = some (if M (td + 4) (4 * t) = 10 then 1 else 0) := by
  obtain ⟨hG, htd, ⟨s1, s2, s3, s5, s6, s7, s8, -⟩, ⟨⟨m3, m4, m5⟩, -⟩, h0, h6, her, huc, g0, g5⟩ := h
  obtain ⟨g1, ⟨gw0, gw, -, -, -, -, gw3, gl3⟩, -⟩ := gRn_ok hG htd
  have gw3' : G.1 (td + 4) = 1 := by rw [show td + 4 = td + 1 + 3 by omega]; exact gw3
  have gl3' : G.2.1 (td + 4) = 24 := by rw [show td + 4 = td + 1 + 3 by omega]; exact gl3
  have m5' : M (td + 1) 5 = td + 4 := by rw [m5]; omega
  have hb := her (4 * t)
  refine Ok.eq ?_
  unfold M_X5_isUnknown
  by_cases y : M (td + 4) (4 * t) = 10
  · rw [if_pos y]
    repeat' (with_reducible first | refine k_gf (by first | assumption | omega) (by first | assumption | ((try simp (disch := omega) only [sr_s, sr_a, sr_sr, u1_s, u1_k, s1, m5', y]); exact rfl)) ?_ | refine k_gr (by first | assumption | omega) (by first | assumption | ((try simp (disch := omega) only [sr_s, sr_a, sr_sr, u1_s, u1_k, s1, m5', y]); exact rfl)) (by omega) ?_ | refine k_ald (by first | assumption | omega) (by first | assumption | exact rfl) (by omega) (by omega) (by omega) (by first | assumption | ((try simp (disch := omega) only [sr_s, sr_a, sr_sr, u1_s, u1_k, s1, m5', y]); exact rfl)) ?_ | refine k_ifT (by first | (simp (disch := omega) only [w32_id]; first | done | omega) | omega) ?_ | refine k_ifF (by first | (simp (disch := omega) only [w32_id]; first | done | omega) | omega) ?_ | refine k_pf (by first | assumption | omega) (by (try simp (disch := omega) only [sr_s, sr_a, sr_sr, u1_u1, s1, m5', y]); exact rfl) ?_ | refine k_ast (by first | assumption | omega) (by first | assumption | exact rfl) (by omega) (by omega) (by omega) (by (try simp (disch := omega) only [sr_s, sr_a, sr_sr, u1_u1, s1, m5', y]); exact rfl) ?_ | refine k_irm (by omega) (by omega) (by omega) (by omega) ?_ | refine k_idv (by omega) (by omega) (by omega) (by omega) ?_ | refine k_tk (by first | assumption | omega) ?_ | refine k_rp (by omega) ?_ | refine k_aldR (by first | assumption | omega) (by first | assumption | exact rfl) (by omega) (by omega) (by omega) (by first | assumption | ((try simp (disch := omega) only [sr_s, sr_a, sr_sr, u1_s, u1_k, s1, m5', y]); exact rfl)) (by omega) ?_ | refine k_astR (by first | assumption | omega) (by first | assumption | exact rfl) (by omega) (by omega) (by omega) (by first | assumption | omega) (by (try simp (disch := omega) only [sr_s, sr_a, sr_sr, u1_u1, s1, m5', y]); exact rfl) ?_ | refine k_pz (by first | assumption | omega) (by omega) (by (try simp (disch := omega) only [sr_s, sr_a, sr_sr, u1_u1, s1, m5', y]); exact rfl) ?_ | refine k_alen (by first | assumption | omega) (by first | assumption | exact rfl) ?_ | refine k_cpy (by first | assumption | omega) (by first | assumption | omega) (by first | assumption | exact rfl) (by first | assumption | exact rfl) (by omega) (by omega) (by omega) (by omega) (by omega) (by omega) (by omega) (by omega) (by (try simp (disch := omega) only [sr_s, sr_a, sr_sr, u1_u1, s1, m5', y]); exact rfl) ?_)
    exact Ok.ret rfl
  · rw [if_neg y]
    repeat' (with_reducible first | refine k_gf (by first | assumption | omega) (by first | assumption | ((try simp (disch := omega) only [sr_s, sr_a, sr_sr, u1_s, u1_k, s1, m5']); exact rfl)) ?_ | refine k_gr (by first | assumption | omega) (by first | assumption | ((try simp (disch := omega) only [sr_s, sr_a, sr_sr, u1_s, u1_k, s1, m5']); exact rfl)) (by omega) ?_ | refine k_ald (by first | assumption | omega) (by first | assumption | exact rfl) (by omega) (by omega) (by omega) (by first | assumption | ((try simp (disch := omega) only [sr_s, sr_a, sr_sr, u1_s, u1_k, s1, m5']); exact rfl)) ?_ | refine k_ifT (by first | (simp (disch := omega) only [w32_id]; first | done | omega) | omega) ?_ | refine k_ifF (by first | (simp (disch := omega) only [w32_id]; first | done | omega) | omega) ?_ | refine k_pf (by first | assumption | omega) (by (try simp (disch := omega) only [sr_s, sr_a, sr_sr, u1_u1, s1, m5']); exact rfl) ?_ | refine k_ast (by first | assumption | omega) (by first | assumption | exact rfl) (by omega) (by omega) (by omega) (by (try simp (disch := omega) only [sr_s, sr_a, sr_sr, u1_u1, s1, m5']); exact rfl) ?_ | refine k_irm (by omega) (by omega) (by omega) (by omega) ?_ | refine k_idv (by omega) (by omega) (by omega) (by omega) ?_ | refine k_tk (by first | assumption | omega) ?_ | refine k_rp (by omega) ?_ | refine k_aldR (by first | assumption | omega) (by first | assumption | exact rfl) (by omega) (by omega) (by omega) (by first | assumption | ((try simp (disch := omega) only [sr_s, sr_a, sr_sr, u1_s, u1_k, s1, m5']); exact rfl)) (by omega) ?_ | refine k_astR (by first | assumption | omega) (by first | assumption | exact rfl) (by omega) (by omega) (by omega) (by first | assumption | omega) (by (try simp (disch := omega) only [sr_s, sr_a, sr_sr, u1_u1, s1, m5']); exact rfl) ?_ | refine k_pz (by first | assumption | omega) (by omega) (by (try simp (disch := omega) only [sr_s, sr_a, sr_sr, u1_u1, s1, m5']); exact rfl) ?_ | refine k_alen (by first | assumption | omega) (by first | assumption | exact rfl) ?_ | refine k_cpy (by first | assumption | omega) (by first | assumption | omega) (by first | assumption | exact rfl) (by first | assumption | exact rfl) (by omega) (by omega) (by omega) (by omega) (by omega) (by omega) (by omega) (by omega) (by (try simp (disch := omega) only [sr_s, sr_a, sr_sr, u1_u1, s1, m5']); exact rfl) ?_)
    exact Ok.ret rfl
theorem X5_unknownsBelow_ok (h : fiI M G td) {t : Int} (t0 : 0 ≤ t) (t6 : t ≤ 6) : M_X5_unknownsBelow (M, G) td t = some (uk (M (td + 4)) t.toNat : Nat) := by
  have g1 := (gRn_ok h.1 h.2.1).1
  refine Ok.eq ?_
  unfold M_X5_unknownsBelow M_X5_unknownsBelow_w4 M_X5_unknownsBelow_p26
  refine k_tk g1 (k_eq (wh_st (fun i => (((uk (M (td + 4)) i : Nat) : Int), (i : Int))) t.toNat (by omega) (t := ((uk (M (td + 4)) t.toNat : Nat) : Int)) rfl ?_ ?_) (Ok.ret rfl))
  · intro i hi
    have hu := X5_isUnknown_ok h (t := (i : Int)) (by omega) (by omega)
    refine Ok.eq ?_
    unfold M_X5_unknownsBelow_b4 M_X5_unknownsBelow_p20
    show Ok _ (fun r => r = Sum.inl (((uk (M (td + 4)) i + (if M (td + 4) (4 * (i : Int)) = 10 then 1 else 0) : Nat) : Int), ((i + 1 : Nat) : Int)))
    dsimp only
    by_cases y : M (td + 4) (4 * (i : Int)) = 10
    · rw [if_pos y] at hu ⊢
      repeat' (with_reducible first | refine k_gf (by first | assumption | omega) (by first | assumption | ((try simp (disch := omega) only [sr_s, sr_a, sr_sr, u1_s, u1_k]); exact rfl)) ?_ | refine k_gr (by first | assumption | omega) (by first | assumption | ((try simp (disch := omega) only [sr_s, sr_a, sr_sr, u1_s, u1_k]); exact rfl)) (by omega) ?_ | refine k_ald (by first | assumption | omega) (by first | assumption | exact rfl) (by omega) (by omega) (by omega) (by first | assumption | ((try simp (disch := omega) only [sr_s, sr_a, sr_sr, u1_s, u1_k]); exact rfl)) ?_ | refine k_eq (hu) ?_ | refine k_ifT (by first | (simp (disch := omega) only [w32_id]; first | done | omega) | omega) ?_ | refine k_ifF (by first | (simp (disch := omega) only [w32_id]; first | done | omega) | omega) ?_ | refine k_pf (by first | assumption | omega) (by (try simp (disch := omega) only [sr_s, sr_a, sr_sr, u1_u1]); exact rfl) ?_ | refine k_ast (by first | assumption | omega) (by first | assumption | exact rfl) (by omega) (by omega) (by omega) (by (try simp (disch := omega) only [sr_s, sr_a, sr_sr, u1_u1]); exact rfl) ?_ | refine k_irm (by omega) (by omega) (by omega) (by omega) ?_ | refine k_idv (by omega) (by omega) (by omega) (by omega) ?_ | refine k_tk (by first | assumption | omega) ?_ | refine k_rp (by omega) ?_ | refine k_aldR (by first | assumption | omega) (by first | assumption | exact rfl) (by omega) (by omega) (by omega) (by first | assumption | ((try simp (disch := omega) only [sr_s, sr_a, sr_sr, u1_s, u1_k]); exact rfl)) (by omega) ?_ | refine k_astR (by first | assumption | omega) (by first | assumption | exact rfl) (by omega) (by omega) (by omega) (by first | assumption | omega) (by (try simp (disch := omega) only [sr_s, sr_a, sr_sr, u1_u1]); exact rfl) ?_ | refine k_pz (by first | assumption | omega) (by omega) (by (try simp (disch := omega) only [sr_s, sr_a, sr_sr, u1_u1]); exact rfl) ?_ | refine k_alen (by first | assumption | omega) (by first | assumption | exact rfl) ?_ | refine k_cpy (by first | assumption | omega) (by first | assumption | omega) (by first | assumption | exact rfl) (by first | assumption | exact rfl) (by omega) (by omega) (by omega) (by omega) (by omega) (by omega) (by omega) (by omega) (by (try simp (disch := omega) only [sr_s, sr_a, sr_sr, u1_u1]); exact rfl) ?_)
      exact Ok.ret rfl
    · rw [if_neg y] at hu ⊢
      repeat' (with_reducible first | refine k_gf (by first | assumption | omega) (by first | assumption | ((try simp (disch := omega) only [sr_s, sr_a, sr_sr, u1_s, u1_k]); exact rfl)) ?_ | refine k_gr (by first | assumption | omega) (by first | assumption | ((try simp (disch := omega) only [sr_s, sr_a, sr_sr, u1_s, u1_k]); exact rfl)) (by omega) ?_ | refine k_ald (by first | assumption | omega) (by first | assumption | exact rfl) (by omega) (by omega) (by omega) (by first | assumption | ((try simp (disch := omega) only [sr_s, sr_a, sr_sr, u1_s, u1_k]); exact rfl)) ?_ | refine k_eq (hu) ?_ | refine k_ifT (by first | (simp (disch := omega) only [w32_id]; first | done | omega) | omega) ?_ | refine k_ifF (by first | (simp (disch := omega) only [w32_id]; first | done | omega) | omega) ?_ | refine k_pf (by first | assumption | omega) (by (try simp (disch := omega) only [sr_s, sr_a, sr_sr, u1_u1]); exact rfl) ?_ | refine k_ast (by first | assumption | omega) (by first | assumption | exact rfl) (by omega) (by omega) (by omega) (by (try simp (disch := omega) only [sr_s, sr_a, sr_sr, u1_u1]); exact rfl) ?_ | refine k_irm (by omega) (by omega) (by omega) (by omega) ?_ | refine k_idv (by omega) (by omega) (by omega) (by omega) ?_ | refine k_tk (by first | assumption | omega) ?_ | refine k_rp (by omega) ?_ | refine k_aldR (by first | assumption | omega) (by first | assumption | exact rfl) (by omega) (by omega) (by omega) (by first | assumption | ((try simp (disch := omega) only [sr_s, sr_a, sr_sr, u1_s, u1_k]); exact rfl)) (by omega) ?_ | refine k_astR (by first | assumption | omega) (by first | assumption | exact rfl) (by omega) (by omega) (by omega) (by first | assumption | omega) (by (try simp (disch := omega) only [sr_s, sr_a, sr_sr, u1_u1]); exact rfl) ?_ | refine k_pz (by first | assumption | omega) (by omega) (by (try simp (disch := omega) only [sr_s, sr_a, sr_sr, u1_u1]); exact rfl) ?_ | refine k_alen (by first | assumption | omega) (by first | assumption | exact rfl) ?_ | refine k_cpy (by first | assumption | omega) (by first | assumption | omega) (by first | assumption | exact rfl) (by first | assumption | exact rfl) (by omega) (by omega) (by omega) (by omega) (by omega) (by omega) (by omega) (by omega) (by (try simp (disch := omega) only [sr_s, sr_a, sr_sr, u1_u1]); exact rfl) ?_)
      exact Ok.ret rfl
  · refine Ok.eq ?_
    unfold M_X5_unknownsBelow_b4
    dsimp only
    repeat' (with_reducible first | refine k_gf (by first | assumption | omega) (by first | assumption | ((try simp (disch := omega) only [sr_s, sr_a, sr_sr, u1_s, u1_k]); exact rfl)) ?_ | refine k_gr (by first | assumption | omega) (by first | assumption | ((try simp (disch := omega) only [sr_s, sr_a, sr_sr, u1_s, u1_k]); exact rfl)) (by omega) ?_ | refine k_ald (by first | assumption | omega) (by first | assumption | exact rfl) (by omega) (by omega) (by omega) (by first | assumption | ((try simp (disch := omega) only [sr_s, sr_a, sr_sr, u1_s, u1_k]); exact rfl)) ?_ | refine k_ifT (by first | (simp (disch := omega) only [w32_id]; first | done | omega) | omega) ?_ | refine k_ifF (by first | (simp (disch := omega) only [w32_id]; first | done | omega) | omega) ?_ | refine k_pf (by first | assumption | omega) (by (try simp (disch := omega) only [sr_s, sr_a, sr_sr, u1_u1]); exact rfl) ?_ | refine k_ast (by first | assumption | omega) (by first | assumption | exact rfl) (by omega) (by omega) (by omega) (by (try simp (disch := omega) only [sr_s, sr_a, sr_sr, u1_u1]); exact rfl) ?_ | refine k_irm (by omega) (by omega) (by omega) (by omega) ?_ | refine k_idv (by omega) (by omega) (by omega) (by omega) ?_ | refine k_tk (by first | assumption | omega) ?_ | refine k_rp (by omega) ?_ | refine k_aldR (by first | assumption | omega) (by first | assumption | exact rfl) (by omega) (by omega) (by omega) (by first | assumption | ((try simp (disch := omega) only [sr_s, sr_a, sr_sr, u1_s, u1_k]); exact rfl)) (by omega) ?_ | refine k_astR (by first | assumption | omega) (by first | assumption | exact rfl) (by omega) (by omega) (by omega) (by first | assumption | omega) (by (try simp (disch := omega) only [sr_s, sr_a, sr_sr, u1_u1]); exact rfl) ?_ | refine k_pz (by first | assumption | omega) (by omega) (by (try simp (disch := omega) only [sr_s, sr_a, sr_sr, u1_u1]); exact rfl) ?_ | refine k_alen (by first | assumption | omega) (by first | assumption | exact rfl) ?_ | refine k_cpy (by first | assumption | omega) (by first | assumption | omega) (by first | assumption | exact rfl) (by first | assumption | exact rfl) (by omega) (by omega) (by omega) (by omega) (by omega) (by omega) (by omega) (by omega) (by (try simp (disch := omega) only [sr_s, sr_a, sr_sr, u1_u1]); exact rfl) ?_)
    exact Ok.ret rfl
theorem X5_unknownCount_ok (h : fiI M G td) : M_X5_unknownCount (M, G) td = some (uk (M (td + 4)) (M (td + 1) 2).toNat : Nat) := by
  have hu := X5_unknownsBelow_ok h (t := M (td + 1) 2) h.2.2.2.2.1 h.2.2.2.2.2.1
  obtain ⟨hG, htd, ⟨s1, s2, s3, s5, s6, s7, s8, -⟩, -⟩ := h
  obtain ⟨g1, ⟨gw0, gw, -⟩, -⟩ := gRn_ok hG htd
  refine Ok.eq ?_
  unfold M_X5_unknownCount
  repeat' (with_reducible first | refine k_gf (by first | assumption | omega) (by first | assumption | ((try simp (disch := omega) only [sr_s, sr_a, sr_sr, u1_s, u1_k, s1]); exact rfl)) ?_ | refine k_gr (by first | assumption | omega) (by first | assumption | ((try simp (disch := omega) only [sr_s, sr_a, sr_sr, u1_s, u1_k, s1]); exact rfl)) (by omega) ?_ | refine k_ald (by first | assumption | omega) (by first | assumption | exact rfl) (by omega) (by omega) (by omega) (by first | assumption | ((try simp (disch := omega) only [sr_s, sr_a, sr_sr, u1_s, u1_k, s1]); exact rfl)) ?_ | refine k_ifT (by first | (simp (disch := omega) only [w32_id]; first | done | omega) | omega) ?_ | refine k_ifF (by first | (simp (disch := omega) only [w32_id]; first | done | omega) | omega) ?_ | refine k_pf (by first | assumption | omega) (by (try simp (disch := omega) only [sr_s, sr_a, sr_sr, u1_u1, s1]); exact rfl) ?_ | refine k_ast (by first | assumption | omega) (by first | assumption | exact rfl) (by omega) (by omega) (by omega) (by (try simp (disch := omega) only [sr_s, sr_a, sr_sr, u1_u1, s1]); exact rfl) ?_ | refine k_irm (by omega) (by omega) (by omega) (by omega) ?_ | refine k_idv (by omega) (by omega) (by omega) (by omega) ?_ | refine k_tk (by first | assumption | omega) ?_ | refine k_rp (by omega) ?_ | refine k_aldR (by first | assumption | omega) (by first | assumption | exact rfl) (by omega) (by omega) (by omega) (by first | assumption | ((try simp (disch := omega) only [sr_s, sr_a, sr_sr, u1_s, u1_k, s1]); exact rfl)) (by omega) ?_ | refine k_astR (by first | assumption | omega) (by first | assumption | exact rfl) (by omega) (by omega) (by omega) (by first | assumption | omega) (by (try simp (disch := omega) only [sr_s, sr_a, sr_sr, u1_u1, s1]); exact rfl) ?_ | refine k_pz (by first | assumption | omega) (by omega) (by (try simp (disch := omega) only [sr_s, sr_a, sr_sr, u1_u1, s1]); exact rfl) ?_ | refine k_alen (by first | assumption | omega) (by first | assumption | exact rfl) ?_ | refine k_cpy (by first | assumption | omega) (by first | assumption | omega) (by first | assumption | exact rfl) (by first | assumption | exact rfl) (by omega) (by omega) (by omega) (by omega) (by omega) (by omega) (by omega) (by omega) (by (try simp (disch := omega) only [sr_s, sr_a, sr_sr, u1_u1, s1]); exact rfl) ?_)
  exact k_eq hu (Ok.ret rfl)
theorem X1_weight_ok (h : fiI M G td) {d : Int} (d0 : 0 ≤ d) (d4 : d ≤ 4) : M_X1_weight (M, G) td d = some (M td 4 ^ d.toNat) := by
  have g1 := (gRn_ok h.1 h.2.1).1
  refine Ok.eq ?_
  unfold M_X1_weight M_X1_weight_w4 M_X1_weight_p27
  refine k_eq (wh_st (fun i => (M td 4 ^ i, (i : Int))) d.toNat (by omega) (t := M td 4 ^ d.toNat) (by rw [Int.pow_zero]; rfl) ?_ ?_) (Ok.ret rfl)
  · intro i hi
    refine Ok.eq ?_
    unfold M_X1_weight_b4
    dsimp only
    repeat' (with_reducible first | refine k_gf (by first | assumption | omega) (by first | assumption | ((try simp (disch := omega) only [sr_s, sr_a, sr_sr, u1_s, u1_k]); exact rfl)) ?_ | refine k_gr (by first | assumption | omega) (by first | assumption | ((try simp (disch := omega) only [sr_s, sr_a, sr_sr, u1_s, u1_k]); exact rfl)) (by omega) ?_ | refine k_ald (by first | assumption | omega) (by first | assumption | exact rfl) (by omega) (by omega) (by omega) (by first | assumption | ((try simp (disch := omega) only [sr_s, sr_a, sr_sr, u1_s, u1_k]); exact rfl)) ?_ | refine k_ifT (by first | (simp (disch := omega) only [w32_id]; first | done | omega) | omega) ?_ | refine k_ifF (by first | (simp (disch := omega) only [w32_id]; first | done | omega) | omega) ?_ | refine k_pf (by first | assumption | omega) (by (try simp (disch := omega) only [sr_s, sr_a, sr_sr, u1_u1]); exact rfl) ?_ | refine k_ast (by first | assumption | omega) (by first | assumption | exact rfl) (by omega) (by omega) (by omega) (by (try simp (disch := omega) only [sr_s, sr_a, sr_sr, u1_u1]); exact rfl) ?_ | refine k_irm (by omega) (by omega) (by omega) (by omega) ?_ | refine k_idv (by omega) (by omega) (by omega) (by omega) ?_ | refine k_tk (by first | assumption | omega) ?_ | refine k_rp (by omega) ?_ | refine k_aldR (by first | assumption | omega) (by first | assumption | exact rfl) (by omega) (by omega) (by omega) (by first | assumption | ((try simp (disch := omega) only [sr_s, sr_a, sr_sr, u1_s, u1_k]); exact rfl)) (by omega) ?_ | refine k_astR (by first | assumption | omega) (by first | assumption | exact rfl) (by omega) (by omega) (by omega) (by first | assumption | omega) (by (try simp (disch := omega) only [sr_s, sr_a, sr_sr, u1_u1]); exact rfl) ?_ | refine k_pz (by first | assumption | omega) (by omega) (by (try simp (disch := omega) only [sr_s, sr_a, sr_sr, u1_u1]); exact rfl) ?_ | refine k_alen (by first | assumption | omega) (by first | assumption | exact rfl) ?_ | refine k_cpy (by first | assumption | omega) (by first | assumption | omega) (by first | assumption | exact rfl) (by first | assumption | exact rfl) (by omega) (by omega) (by omega) (by omega) (by omega) (by omega) (by omega) (by omega) (by (try simp (disch := omega) only [sr_s, sr_a, sr_sr, u1_u1]); exact rfl) ?_)
    exact Ok.ret (by rw [Int.pow_succ]; rfl)
  · refine Ok.eq ?_
    unfold M_X1_weight_b4
    dsimp only
    repeat' (with_reducible first | refine k_gf (by first | assumption | omega) (by first | assumption | ((try simp (disch := omega) only [sr_s, sr_a, sr_sr, u1_s, u1_k]); exact rfl)) ?_ | refine k_gr (by first | assumption | omega) (by first | assumption | ((try simp (disch := omega) only [sr_s, sr_a, sr_sr, u1_s, u1_k]); exact rfl)) (by omega) ?_ | refine k_ald (by first | assumption | omega) (by first | assumption | exact rfl) (by omega) (by omega) (by omega) (by first | assumption | ((try simp (disch := omega) only [sr_s, sr_a, sr_sr, u1_s, u1_k]); exact rfl)) ?_ | refine k_ifT (by first | (simp (disch := omega) only [w32_id]; first | done | omega) | omega) ?_ | refine k_ifF (by first | (simp (disch := omega) only [w32_id]; first | done | omega) | omega) ?_ | refine k_pf (by first | assumption | omega) (by (try simp (disch := omega) only [sr_s, sr_a, sr_sr, u1_u1]); exact rfl) ?_ | refine k_ast (by first | assumption | omega) (by first | assumption | exact rfl) (by omega) (by omega) (by omega) (by (try simp (disch := omega) only [sr_s, sr_a, sr_sr, u1_u1]); exact rfl) ?_ | refine k_irm (by omega) (by omega) (by omega) (by omega) ?_ | refine k_idv (by omega) (by omega) (by omega) (by omega) ?_ | refine k_tk (by first | assumption | omega) ?_ | refine k_rp (by omega) ?_ | refine k_aldR (by first | assumption | omega) (by first | assumption | exact rfl) (by omega) (by omega) (by omega) (by first | assumption | ((try simp (disch := omega) only [sr_s, sr_a, sr_sr, u1_s, u1_k]); exact rfl)) (by omega) ?_ | refine k_astR (by first | assumption | omega) (by first | assumption | exact rfl) (by omega) (by omega) (by omega) (by first | assumption | omega) (by (try simp (disch := omega) only [sr_s, sr_a, sr_sr, u1_u1]); exact rfl) ?_ | refine k_pz (by first | assumption | omega) (by omega) (by (try simp (disch := omega) only [sr_s, sr_a, sr_sr, u1_u1]); exact rfl) ?_ | refine k_alen (by first | assumption | omega) (by first | assumption | exact rfl) ?_ | refine k_cpy (by first | assumption | omega) (by first | assumption | omega) (by first | assumption | exact rfl) (by first | assumption | exact rfl) (by omega) (by omega) (by omega) (by omega) (by omega) (by omega) (by omega) (by omega) (by (try simp (disch := omega) only [sr_s, sr_a, sr_sr, u1_u1]); exact rfl) ?_)
    exact Ok.ret rfl
/-- the guess of an unknown town in a row -/
def dgt (gc : Int) (uc u : Nat) (r : Int) : Int := r / gc ^ (uc - 1 - u) % gc
theorem X1_guessIn_ok (h : fiI M G td) (hg : 1 ≤ M td 4) {row : Int} {u : Nat} (r0 : 0 ≤ row) (r1 : row ≤ 625) (hu : u < uk (M (td + 4)) (M (td + 1) 2).toNat) : M_X1_guessIn (M, G) 115 td row (u : Int) = some (dgt (M td 4) (uk (M (td + 4)) (M (td + 1) 2).toNat) u row) := by
  have huc := X5_unknownCount_ok h
  have hu4 := h.2.2.2.2.2.2.2.1
  have g5 := h.2.2.2.2.2.2.2.2.2
  have g1 := (gRn_ok h.1 h.2.1).1
  have k115 := gk_115 h.1
  generalize uk (M (td + 4)) (M (td + 1) 2).toNat = uc at *
  have hw := X1_weight_ok h (d := ((uc : Int) - 1) - u) (by omega) (by omega)
  rw [show (((uc : Int) - 1) - u).toNat = uc - 1 - u by omega] at hw
  have hpb := pw_b hg g5 (uc - 1 - u) (by omega)
  have hdb : 0 ≤ row / M td 4 ^ (uc - 1 - u) ∧ row / M td 4 ^ (uc - 1 - u) ≤ 625 := by
    refine ⟨Int.ediv_nonneg r0 (by omega), ?_⟩
    exact Int.le_trans (Int.ediv_le_self _ r0) r1
  refine Ok.eq ?_
  unfold M_X1_guessIn dgt
  generalize M td 4 ^ (uc - 1 - u) = W at *
  refine k_tk k115 (k_eq huc (k_eq hw ?_))
  repeat' (with_reducible first | refine k_gf (by first | assumption | omega) (by first | assumption | ((try simp (disch := omega) only [sr_s, sr_a, sr_sr, u1_s, u1_k]); exact rfl)) ?_ | refine k_gr (by first | assumption | omega) (by first | assumption | ((try simp (disch := omega) only [sr_s, sr_a, sr_sr, u1_s, u1_k]); exact rfl)) (by omega) ?_ | refine k_ald (by first | assumption | omega) (by first | assumption | exact rfl) (by omega) (by omega) (by omega) (by first | assumption | ((try simp (disch := omega) only [sr_s, sr_a, sr_sr, u1_s, u1_k]); exact rfl)) ?_ | refine k_ifT (by first | (simp (disch := omega) only [w32_id]; first | done | omega) | omega) ?_ | refine k_ifF (by first | (simp (disch := omega) only [w32_id]; first | done | omega) | omega) ?_ | refine k_pf (by first | assumption | omega) (by (try simp (disch := omega) only [sr_s, sr_a, sr_sr, u1_u1]); exact rfl) ?_ | refine k_ast (by first | assumption | omega) (by first | assumption | exact rfl) (by omega) (by omega) (by omega) (by (try simp (disch := omega) only [sr_s, sr_a, sr_sr, u1_u1]); exact rfl) ?_ | refine k_irm (by omega) (by omega) (by omega) (by omega) ?_ | refine k_idv (by omega) (by omega) (by omega) (by omega) ?_ | refine k_tk (by first | assumption | omega) ?_ | refine k_rp (by omega) ?_ | refine k_aldR (by first | assumption | omega) (by first | assumption | exact rfl) (by omega) (by omega) (by omega) (by first | assumption | ((try simp (disch := omega) only [sr_s, sr_a, sr_sr, u1_s, u1_k]); exact rfl)) (by omega) ?_ | refine k_astR (by first | assumption | omega) (by first | assumption | exact rfl) (by omega) (by omega) (by omega) (by first | assumption | omega) (by (try simp (disch := omega) only [sr_s, sr_a, sr_sr, u1_u1]); exact rfl) ?_ | refine k_pz (by first | assumption | omega) (by omega) (by (try simp (disch := omega) only [sr_s, sr_a, sr_sr, u1_u1]); exact rfl) ?_ | refine k_alen (by first | assumption | omega) (by first | assumption | exact rfl) ?_ | refine k_cpy (by first | assumption | omega) (by first | assumption | omega) (by first | assumption | exact rfl) (by first | assumption | exact rfl) (by omega) (by omega) (by omega) (by omega) (by omega) (by omega) (by omega) (by omega) (by (try simp (disch := omega) only [sr_s, sr_a, sr_sr, u1_u1]); exact rfl) ?_)
  exact Ok.ret rfl
end F1
