/-! trials: one step of the chain for all of them -/
section T2
variable {M M1 : Int → Int → Int} {G : GG} {mk n b t s q : Int} {ce : Int → Int}
theorem chP_fr {w : Int} (h : chP M G w mk n b t) (f : ∀ a, a < 106 → M1 a = M a) : chP M1 G w mk n b t := by
  have h99 := h.1.2.2.1.2.2.2
  unfold chP chX chI wOK mW wfM chL chD wS clP at *
  simp (disch := omega) only [f]
  exact h
/-- a mark of the chain's map of step s, where the cells at first are ce -/
def tV (M : Int → Int → Int) (ce : Int → Int) (s q : Int) : Int := bh (M 24 0) (M 24 1) (M 24 2) (M 26) (M 27) (M 24 6) ce s.toNat (36 * M 100 s + q)
theorem tV_step (hP : chP M G 24 mk n b t) (s0 : b < s) (s1 : s ≤ n) (hin : inV (M 24 0) (M 24 1) q) : tV M ce s q = mkT (M 24 0) (M 24 1) (M 27) (M 100 s) (fun x => tV M ce (s - 1) x) q (M 101 s) := by
  obtain ⟨⟨hG, ⟨hp99, hd, hmp⟩, ⟨hg, hm, hwf, hw99⟩, ⟨l0, l1', l2, b0, bn, n6, ln, lt, lc, lb⟩, hD⟩, hw, hc, -⟩ := hP
  obtain ⟨a1, a2, b1, b2, x1, x6, k2, k6, hco, her, het, hcz, y0, y1, hce⟩ := hwf
  have ht := lt s (by omega) s1
  have hcT : M 26 (M 100 s) = M 100 (s - 1) := lc s s0 s1
  have ht1 := lt (s - 1) (by omega) (by omega)
  unfold tV
  rw [show s.toNat = (s - 1).toNat + 1 by omega, bh_step b2 a2 ht.1 ht.2 (by rw [hcT]; exact ht1.1) hin, hcT]
  by_cases h9 : M 27 (4 * M 100 s) = 9
  · have := hD.2 s s0 s1 (Or.inl (by omega)) h9
    rw [this]
    rfl
  · exact mkV_dr h9
theorem tV_b (hP : chP M G 24 mk n b t) (hce : ∀ i, 0 ≤ ce i ∧ ce i < mk) (s q : Int) : 0 ≤ tV M ce s q ∧ tV M ce s q < mk := by
  obtain ⟨⟨hG, ⟨hp99, hd, hmp⟩, ⟨hg, hm, hwf, hw99⟩, -⟩, -⟩ := hP
  obtain ⟨a1, a2, b1, b2, x1, x6, k2, k6, hco, her, het, hcz, y0, y1, -⟩ := hwf
  have hwf2 : wfW (M 24 0) (M 24 1) (M 24 2) mk (M 26) (M 27) (M 24 6) ce := ⟨a1, a2, b1, b2, x1, x6, k2, k6, hco, her, het, hcz, y0, y1, hce⟩
  exact (bh_wf hwf2 s.toNat).2.2.2.2.2.2.2.2.2.2.2.2.2.2 _
/-- where the chain begins nothing has changed -/
theorem tV_begin (hP : chP M G 24 mk n b t) (q0 : 0 ≤ q) (q1 : q < 36) : tV M ce b q = ce (36 * M 100 b + q) := by
  obtain ⟨⟨hG, ⟨hp99, hd, hmp⟩, -, ⟨l0, l1', l2, b0, bn, n6, ln, lt, lc, lb⟩, hD⟩, -⟩ := hP
  unfold tV
  rcases lb with rfl | h
  · rfl
  · exact bh_still h q0 q1 _
/-- a mark by an error, by the place that is copied -/
theorem mkV_tri {wd hi s e1 e2 e3 p dr : Int} {m : Int → Int} (p0 : 0 ≤ p) (a2 : wd ≤ 6) (hp : inV wd hi p) : mkV wd hi s e1 e2 e3 m p dr = if s = 6 then (if m p = e1 ∨ (bsV wd hi p 0 ≠ -1 ∧ m (bsV wd hi p 0) = e1) ∨ (bsV wd hi p 1 ≠ -1 ∧ m (bsV wd hi p 1) = e1) ∨ (bsV wd hi p 2 ≠ -1 ∧ m (bsV wd hi p 2) = e1) ∨ (bsV wd hi p 3 ≠ -1 ∧ m (bsV wd hi p 3) = e1) then e1 else m p) else if s = 7 then (if m p = e1 then 0 else m p) else if srcC wd hi s e1 e2 e3 p dr = -1 then e1 else if s = 5 then (if m (srcC wd hi s e1 e2 e3 p dr) = e1 then e2 else if m (srcC wd hi s e1 e2 e3 p dr) = e2 then e1 else m (srcC wd hi s e1 e2 e3 p dr)) else m (srcC wd hi s e1 e2 e3 p dr) := by
  by_cases z6 : s = 6
  · rw [if_pos z6]
    have hst := stV_in (m := m) (k := e1) a2 hp
    have hs : srcV wd hi s e1 e2 e3 m p dr = stV wd hi m p e1 := by
      subst z6
      unfold srcV
      simp only [Int.reduceEq, if_false, if_true]
    unfold mkV
    rw [hs, if_neg (by unfold inV at hst; omega), if_neg (by omega)]
    rw [stV_ways p0]
    by_cases c : m p = e1
    · rw [if_pos c, if_pos (Or.inl c)]; exact c
    · rw [if_neg c]
      by_cases c0 : bsV wd hi p 0 ≠ -1 ∧ m (bsV wd hi p 0) = e1
      · rw [if_pos c0, if_pos (Or.inr (Or.inl c0))]; exact c0.2
      · rw [if_neg c0]
        by_cases c1 : bsV wd hi p 1 ≠ -1 ∧ m (bsV wd hi p 1) = e1
        · rw [if_pos c1, if_pos (Or.inr (Or.inr (Or.inl c1)))]; exact c1.2
        · rw [if_neg c1]
          by_cases c2 : bsV wd hi p 2 ≠ -1 ∧ m (bsV wd hi p 2) = e1
          · rw [if_pos c2, if_pos (Or.inr (Or.inr (Or.inr (Or.inl c2))))]; exact c2.2
          · rw [if_neg c2]
            by_cases c3 : bsV wd hi p 3 ≠ -1 ∧ m (bsV wd hi p 3) = e1
            · rw [if_pos c3, if_pos (Or.inr (Or.inr (Or.inr (Or.inr c3))))]; exact c3.2
            · rw [if_neg c3, if_neg]
              rintro (z | z | z | z | z)
              · exact c z
              · exact c0 z
              · exact c1 z
              · exact c2 z
              · exact c3 z
  rw [if_neg z6]
  by_cases z7 : s = 7
  · rw [if_pos z7]
    subst z7
    unfold mkV srcV
    simp only [Int.reduceEq, if_false, if_true]
    by_cases c : m p = e1
    · rw [if_pos c, if_pos c, if_pos rfl]
    · rw [if_neg c, if_neg c, if_neg (by omega)]
  rw [if_neg z7]
  have hs : srcV wd hi s e1 e2 e3 m p dr = srcC wd hi s e1 e2 e3 p dr := by
    unfold srcC
    rw [if_neg (by omega)]
    exact srcV_m (by omega)
  unfold mkV
  rw [hs]
  by_cases c : srcC wd hi s e1 e2 e3 p dr = -1
  · rw [if_pos c, if_pos c, if_neg z7]
  · rw [if_neg c, if_neg c]
/-- which trials stain -/
theorem X7_stainedAt_ok (hP : chP M G 24 mk n b t) (hp111 : pr111 (M 111)) (hin : inV (M 24 0) (M 24 1) q) : Ok (M_X7_stainedAt (M, G) 111 q) (fun X => ∀ tr, 0 ≤ tr → tr < 64 → bt X tr = (bt (M 114 q) tr || (decide (bsV (M 24 0) (M 24 1) q 0 ≠ -1) && bt (M 114 (bsV (M 24 0) (M 24 1) q 0)) tr) || (decide (bsV (M 24 0) (M 24 1) q 1 ≠ -1) && bt (M 114 (bsV (M 24 0) (M 24 1) q 1)) tr) || (decide (bsV (M 24 0) (M 24 1) q 2 ≠ -1) && bt (M 114 (bsV (M 24 0) (M 24 1) q 2)) tr) || (decide (bsV (M 24 0) (M 24 1) q 3 ≠ -1) && bt (M 114 (bsV (M 24 0) (M 24 1) q 3)) tr))) := by
  obtain ⟨⟨hG, ⟨hp99, hd, hmp⟩, ⟨hg, hm, ⟨a1, a2, b1, b2, -⟩, hw99⟩, ⟨l0, -⟩, hD⟩, -⟩ := hP
  have hb := inV_36 a2 b2 hin
  have k99 := gk_99 hG
  have k111 := gk_111 hG
  have k114 := gk_114 hG
  have l114 := gl_114 hG
  have p0 := pr111.p0 hp111
  have p3 := pr111.p3 hp111
  unfold M_X7_stainedAt
  repeat' (with_reducible first | refine k_gf (by first | assumption | omega) (by first | assumption | ((try simp (disch := omega) only [sr_s, sr_a, sr_sr, u1_s, u1_k, p0, p3]); exact rfl)) ?_ | refine k_gr (by first | assumption | omega) (by first | assumption | ((try simp (disch := omega) only [sr_s, sr_a, sr_sr, u1_s, u1_k, p0, p3]); exact rfl)) (by omega) ?_ | refine k_ald (by first | assumption | omega) (by first | assumption | exact rfl) (by omega) (by omega) (by omega) (by first | assumption | ((try simp (disch := omega) only [sr_s, sr_a, sr_sr, u1_s, u1_k, p0, p3]); exact rfl)) ?_ | refine k_ifT (by first | (simp (disch := omega) only [w32_id]; first | done | omega) | omega) ?_ | refine k_ifF (by first | (simp (disch := omega) only [w32_id]; first | done | omega) | omega) ?_ | refine k_pf (by first | assumption | omega) (by (try simp (disch := omega) only [sr_s, sr_a, sr_sr, u1_u1, p0, p3]); exact rfl) ?_ | refine k_ast (by first | assumption | omega) (by first | assumption | exact rfl) (by omega) (by omega) (by omega) (by (try simp (disch := omega) only [sr_s, sr_a, sr_sr, u1_u1, p0, p3]); exact rfl) ?_ | refine k_irm (by omega) (by omega) (by omega) (by omega) ?_ | refine k_idv (by omega) (by omega) (by omega) (by omega) ?_ | refine k_tk (by first | assumption | omega) ?_ | refine k_rp (by omega) ?_ | refine k_aldR (by first | assumption | omega) (by first | assumption | exact rfl) (by omega) (by omega) (by omega) (by first | assumption | ((try simp (disch := omega) only [sr_s, sr_a, sr_sr, u1_s, u1_k, p0, p3]); exact rfl)) (by omega) ?_ | refine k_astR (by first | assumption | omega) (by first | assumption | exact rfl) (by omega) (by omega) (by omega) (by first | assumption | omega) (by (try simp (disch := omega) only [sr_s, sr_a, sr_sr, u1_u1, p0, p3]); exact rfl) ?_ | refine k_pz (by first | assumption | omega) (by omega) (by (try simp (disch := omega) only [sr_s, sr_a, sr_sr, u1_u1, p0, p3]); exact rfl) ?_ | refine k_alen (by first | assumption | omega) (by first | assumption | exact rfl) ?_ | refine k_cpy (by first | assumption | omega) (by first | assumption | omega) (by first | assumption | exact rfl) (by first | assumption | exact rfl) (by omega) (by omega) (by omega) (by omega) (by omega) (by omega) (by omega) (by omega) (by (try simp (disch := omega) only [sr_s, sr_a, sr_sr, u1_u1, p0, p3]); exact rfl) ?_)
  unfold M_X7_stainedAt_w10 M_X7_stainedAt_p53
  refine Ok.bind (Q := fun X => ∀ tr, 0 ≤ tr → tr < 64 → bt X tr = (bt (M 114 q) tr || (decide (bsV (M 24 0) (M 24 1) q 0 ≠ -1) && bt (M 114 (bsV (M 24 0) (M 24 1) q 0)) tr) || (decide (bsV (M 24 0) (M 24 1) q 1 ≠ -1) && bt (M 114 (bsV (M 24 0) (M 24 1) q 1)) tr) || (decide (bsV (M 24 0) (M 24 1) q 2 ≠ -1) && bt (M 114 (bsV (M 24 0) (M 24 1) q 2)) tr) || (decide (bsV (M 24 0) (M 24 1) q 3 ≠ -1) && bt (M 114 (bsV (M 24 0) (M 24 1) q 3)) tr))) ?_ (fun x hx => Ok.ret hx)
  have stp : ∀ (d : Nat) (X : Int), d < 4 → Ok (M_X7_stainedAt_b10 (M, G) 111 q X (d : Int)) (fun z => ∃ X', z = .inl (X', ((d + 1 : Nat) : Int)) ∧ ∀ tr, bt X' tr = (bt X tr || (decide (bsV (M 24 0) (M 24 1) q (d : Int) ≠ -1) && bt (M 114 (bsV (M 24 0) (M 24 1) q (d : Int))) tr))) := by
    intro d X hd4
    have hbe := X8_beside_ok (M := M) (w := 24) (p := q) (d := (d : Int)) hg a1 a2 b1 b2 hb.1 hb.2 (by omega) (by omega)
    have hbe : M_X8_beside (M, G) 24 q (d : Int) = some (bsV (M 24 0) (M 24 1) q (d : Int)) := hbe
    have hbi := bsV_in (d := (d : Int)) a2 hin
    unfold M_X7_stainedAt_b10 M_X7_stainedAt_p47
    generalize bsV (M 24 0) (M 24 1) q (d : Int) = x at *
    by_cases y : x = -1
    · repeat' (with_reducible first | refine k_gf (by first | assumption | omega) (by first | assumption | ((try simp (disch := omega) only [sr_s, sr_a, sr_sr, u1_s, u1_k, p0, l0]); exact rfl)) ?_ | refine k_gr (by first | assumption | omega) (by first | assumption | ((try simp (disch := omega) only [sr_s, sr_a, sr_sr, u1_s, u1_k, p0, l0]); exact rfl)) (by omega) ?_ | refine k_ald (by first | assumption | omega) (by first | assumption | exact rfl) (by omega) (by omega) (by omega) (by first | assumption | ((try simp (disch := omega) only [sr_s, sr_a, sr_sr, u1_s, u1_k, p0, l0]); exact rfl)) ?_ | refine k_eq (hbe) ?_ | refine k_ifT (by first | (simp (disch := omega) only [w32_id]; first | done | omega) | omega) ?_ | refine k_ifF (by first | (simp (disch := omega) only [w32_id]; first | done | omega) | omega) ?_ | refine k_pf (by first | assumption | omega) (by (try simp (disch := omega) only [sr_s, sr_a, sr_sr, u1_u1, p0, l0]); exact rfl) ?_ | refine k_ast (by first | assumption | omega) (by first | assumption | exact rfl) (by omega) (by omega) (by omega) (by (try simp (disch := omega) only [sr_s, sr_a, sr_sr, u1_u1, p0, l0]); exact rfl) ?_ | refine k_irm (by omega) (by omega) (by omega) (by omega) ?_ | refine k_idv (by omega) (by omega) (by omega) (by omega) ?_ | refine k_tk (by first | assumption | omega) ?_ | refine k_rp (by omega) ?_ | refine k_aldR (by first | assumption | omega) (by first | assumption | exact rfl) (by omega) (by omega) (by omega) (by first | assumption | ((try simp (disch := omega) only [sr_s, sr_a, sr_sr, u1_s, u1_k, p0, l0]); exact rfl)) (by omega) ?_ | refine k_astR (by first | assumption | omega) (by first | assumption | exact rfl) (by omega) (by omega) (by omega) (by first | assumption | omega) (by (try simp (disch := omega) only [sr_s, sr_a, sr_sr, u1_u1, p0, l0]); exact rfl) ?_ | refine k_pz (by first | assumption | omega) (by omega) (by (try simp (disch := omega) only [sr_s, sr_a, sr_sr, u1_u1, p0, l0]); exact rfl) ?_ | refine k_alen (by first | assumption | omega) (by first | assumption | exact rfl) ?_ | refine k_cpy (by first | assumption | omega) (by first | assumption | omega) (by first | assumption | exact rfl) (by first | assumption | exact rfl) (by omega) (by omega) (by omega) (by omega) (by omega) (by omega) (by omega) (by omega) (by (try simp (disch := omega) only [sr_s, sr_a, sr_sr, u1_u1, p0, l0]); exact rfl) ?_)
      refine Ok.ret ⟨X, rfl, fun tr => ?_⟩
      rw [decide_eq_false (by omega), Bool.false_and, Bool.or_false]
    · have hx := inV_36 a2 b2 (hbi.resolve_left y)
      repeat' (with_reducible first | refine k_gf (by first | assumption | omega) (by first | assumption | ((try simp (disch := omega) only [sr_s, sr_a, sr_sr, u1_s, u1_k, p0, p3, l0]); exact rfl)) ?_ | refine k_gr (by first | assumption | omega) (by first | assumption | ((try simp (disch := omega) only [sr_s, sr_a, sr_sr, u1_s, u1_k, p0, p3, l0]); exact rfl)) (by omega) ?_ | refine k_ald (by first | assumption | omega) (by first | assumption | exact rfl) (by omega) (by omega) (by omega) (by first | assumption | ((try simp (disch := omega) only [sr_s, sr_a, sr_sr, u1_s, u1_k, p0, p3, l0]); exact rfl)) ?_ | refine k_eq (hbe) ?_ | refine k_ifT (by first | (simp (disch := omega) only [w32_id]; first | done | omega) | omega) ?_ | refine k_ifF (by first | (simp (disch := omega) only [w32_id]; first | done | omega) | omega) ?_ | refine k_pf (by first | assumption | omega) (by (try simp (disch := omega) only [sr_s, sr_a, sr_sr, u1_u1, p0, p3, l0]); exact rfl) ?_ | refine k_ast (by first | assumption | omega) (by first | assumption | exact rfl) (by omega) (by omega) (by omega) (by (try simp (disch := omega) only [sr_s, sr_a, sr_sr, u1_u1, p0, p3, l0]); exact rfl) ?_ | refine k_irm (by omega) (by omega) (by omega) (by omega) ?_ | refine k_idv (by omega) (by omega) (by omega) (by omega) ?_ | refine k_tk (by first | assumption | omega) ?_ | refine k_rp (by omega) ?_ | refine k_aldR (by first | assumption | omega) (by first | assumption | exact rfl) (by omega) (by omega) (by omega) (by first | assumption | ((try simp (disch := omega) only [sr_s, sr_a, sr_sr, u1_s, u1_k, p0, p3, l0]); exact rfl)) (by omega) ?_ | refine k_astR (by first | assumption | omega) (by first | assumption | exact rfl) (by omega) (by omega) (by omega) (by first | assumption | omega) (by (try simp (disch := omega) only [sr_s, sr_a, sr_sr, u1_u1, p0, p3, l0]); exact rfl) ?_ | refine k_pz (by first | assumption | omega) (by omega) (by (try simp (disch := omega) only [sr_s, sr_a, sr_sr, u1_u1, p0, p3, l0]); exact rfl) ?_ | refine k_alen (by first | assumption | omega) (by first | assumption | exact rfl) ?_ | refine k_cpy (by first | assumption | omega) (by first | assumption | omega) (by first | assumption | exact rfl) (by first | assumption | exact rfl) (by omega) (by omega) (by omega) (by omega) (by omega) (by omega) (by omega) (by omega) (by (try simp (disch := omega) only [sr_s, sr_a, sr_sr, u1_u1, p0, p3, l0]); exact rfl) ?_)
      refine Ok.ret ⟨_, rfl, fun tr => ?_⟩
      rw [bt_lor2, decide_eq_true y, Bool.true_and]
  refine wh_for (fun d z => ∃ X, z = (X, (d : Int)) ∧ ∀ tr, 0 ≤ tr → tr < 64 → bt X tr = (bt (M 114 q) tr || (decide (0 < d) && (decide (bsV (M 24 0) (M 24 1) q 0 ≠ -1) && bt (M 114 (bsV (M 24 0) (M 24 1) q 0)) tr)) || (decide (1 < d) && (decide (bsV (M 24 0) (M 24 1) q 1 ≠ -1) && bt (M 114 (bsV (M 24 0) (M 24 1) q 1)) tr)) || (decide (2 < d) && (decide (bsV (M 24 0) (M 24 1) q 2 ≠ -1) && bt (M 114 (bsV (M 24 0) (M 24 1) q 2)) tr)) || (decide (3 < d) && (decide (bsV (M 24 0) (M 24 1) q 3 ≠ -1) && bt (M 114 (bsV (M 24 0) (M 24 1) q 3)) tr)))) _ 4 (by omega) ⟨_, rfl, fun tr t0 t1 => by simp⟩ ?_ ?_
  · rintro d _ hd4 ⟨X, rfl, hX⟩
    refine (stp d X hd4).mono ?_
    rintro _ ⟨X', rfl, hX'⟩
    refine ⟨X', rfl, fun tr t0 t1 => ?_⟩
    rw [hX' tr, hX tr t0 t1]
    have : d = 0 ∨ d = 1 ∨ d = 2 ∨ d = 3 := by omega
    rcases this with rfl | rfl | rfl | rfl
    · simp
    · simp
    · simp
    · simp
  · rintro _ ⟨X, rfl, hX⟩
    unfold M_X7_stainedAt_b10
    refine k_ifF (by show ¬ w32 ((4 : Nat) : Int) < 4; decide) (Ok.ret (fun tr t0 t1 => ?_))
    rw [hX tr t0 t1]
    simp
/-- the marks of step s, for all trials -/
def trI (M : Int → Int → Int) (R : Int → Int) (ceT : Int → Int → Int) (s : Int) : Prop := ∀ q, 0 ≤ q → q < 36 → bt (M 105 s) q = true → ∀ tr, 0 ≤ tr → tr < 64 → enc R q tr (tV M (ceT tr) s q)
theorem X7_listStained_ok {A : Int} {ceT : Int → Int → Int} (hP : chP M G 24 mk n b t) (hmk : mk ≤ 6) (hp111 : pr111 (M 111)) (pa : M 111 1 = A) (ha : A = 112 ∨ A = 113) (hce : ∀ tr i, 0 ≤ ceT tr i ∧ ceT tr i < mk) (s0 : b ≤ s) (s1 : s ≤ n) (hI : trI M (M A) ceT s) {e : Int} (e0 : 0 ≤ e) (e8 : e < 8) : Ok (M_X7_listStained (M, G) 111 s e) (fun h => ∃ M1, h = (M1, G) ∧ (∀ a, a ≠ 114 → M1 a = M a) ∧ ∀ q, 0 ≤ q → q < 36 → bt (M 105 s) q = true → ∀ tr, 0 ≤ tr → tr < 64 → bt (M1 114 q) tr = decide (tV M (ceT tr) s q = e)) := by
  have hP' := hP
  obtain ⟨⟨hG, ⟨hp99, hd, hmp⟩, ⟨hg, hm, hwf, hw99⟩, ⟨l0, l1', l2, b0, bn, n6, ln, lt, lc, lb⟩, hD⟩, hw, hc, -⟩ := hP
  obtain ⟨a1, a2, b1, b2, -⟩ := hwf
  obtain ⟨ws1, ws2, ws3⟩ := hw s s0 s1
  have hcb := cntB_b (M 105 s) 36
  have k99 := gk_99 hG
  have k103 := gk_103 hG
  have l103 := gl_103 hG
  have k104 := gk_104 hG
  have l104 := gl_104 hG
  have k111 := gk_111 hG
  have k114 := gk_114 hG
  have l114 := gl_114 hG
  unfold M_X7_listStained M_X7_listStained_w2 M_X7_listStained_p51
  refine k_tk k111 ?_
  refine Ok.bind (Q := fun h => ∃ M1, h = (M1, G) ∧ (∀ a, a ≠ 114 → M1 a = M a) ∧ ∀ j, 0 ≤ j → j < M 104 s → ∀ tr, 0 ≤ tr → tr < 64 → bt (M1 114 (M 103 (36 * s + j))) tr = decide (tV M (ceT tr) s (M 103 (36 * s + j)) = e)) ?_ ?_
  · refine wh_for (fun i z => ∃ M1, z = ((M1, G), (i : Int)) ∧ (∀ a, a ≠ 114 → M1 a = M a) ∧ ∀ j, 0 ≤ j → j < (i : Int) → ∀ tr, 0 ≤ tr → tr < 64 → bt (M1 114 (M 103 (36 * s + j))) tr = decide (tV M (ceT tr) s (M 103 (36 * s + j)) = e)) _ (M 104 s).toNat (by omega) ⟨M, rfl, fun _ _ => rfl, fun j j0 j1 => by omega⟩ ?_ ?_
    · rintro i _ hi ⟨M1, rfl, f, hv⟩
      obtain ⟨hin, hbt⟩ := ws2 i (by omega) (by omega)
      have hp36 := inV_36 a2 b2 hin
      have f99 : M1 99 = M 99 := f 99 (by omega)
      have f103 : M1 103 = M 103 := f 103 (by omega)
      have f104 : M1 104 = M 104 := f 104 (by omega)
      have f111 : M1 111 = M 111 := f 111 (by omega)
      have p0 := pr111.p0 hp111
      have p3 := pr111.p3 hp111
      have p6 := pr99.p6 hp99
      have p7 := pr99.p7 hp99
      unfold M_X7_listStained_b2
      dsimp only
      repeat' (with_reducible first | refine k_gf (by first | assumption | omega) (by first | assumption | ((try simp (disch := omega) only [sr_s, sr_a, sr_sr, u1_s, u1_k, f99, f103, f104, f111, p0, p3, p6, p7]); exact rfl)) ?_ | refine k_gr (by first | assumption | omega) (by first | assumption | ((try simp (disch := omega) only [sr_s, sr_a, sr_sr, u1_s, u1_k, f99, f103, f104, f111, p0, p3, p6, p7]); exact rfl)) (by omega) ?_ | refine k_ald (by first | assumption | omega) (by first | assumption | exact rfl) (by omega) (by omega) (by omega) (by first | assumption | ((try simp (disch := omega) only [sr_s, sr_a, sr_sr, u1_s, u1_k, f99, f103, f104, f111, p0, p3, p6, p7]); exact rfl)) ?_ | refine k_ifT (by first | (simp (disch := omega) only [w32_id]; first | done | omega) | omega) ?_ | refine k_ifF (by first | (simp (disch := omega) only [w32_id]; first | done | omega) | omega) ?_ | refine k_pf (by first | assumption | omega) (by (try simp (disch := omega) only [sr_s, sr_a, sr_sr, u1_u1, f99, f103, f104, f111, p0, p3, p6, p7]); exact rfl) ?_ | refine k_ast (by first | assumption | omega) (by first | assumption | exact rfl) (by omega) (by omega) (by omega) (by (try simp (disch := omega) only [sr_s, sr_a, sr_sr, u1_u1, f99, f103, f104, f111, p0, p3, p6, p7]); exact rfl) ?_ | refine k_irm (by omega) (by omega) (by omega) (by omega) ?_ | refine k_idv (by omega) (by omega) (by omega) (by omega) ?_ | refine k_tk (by first | assumption | omega) ?_ | refine k_rp (by omega) ?_ | refine k_aldR (by first | assumption | omega) (by first | assumption | exact rfl) (by omega) (by omega) (by omega) (by first | assumption | ((try simp (disch := omega) only [sr_s, sr_a, sr_sr, u1_s, u1_k, f99, f103, f104, f111, p0, p3, p6, p7]); exact rfl)) (by omega) ?_ | refine k_astR (by first | assumption | omega) (by first | assumption | exact rfl) (by omega) (by omega) (by omega) (by first | assumption | omega) (by (try simp (disch := omega) only [sr_s, sr_a, sr_sr, u1_u1, f99, f103, f104, f111, p0, p3, p6, p7]); exact rfl) ?_ | refine k_pz (by first | assumption | omega) (by omega) (by (try simp (disch := omega) only [sr_s, sr_a, sr_sr, u1_u1, f99, f103, f104, f111, p0, p3, p6, p7]); exact rfl) ?_ | refine k_alen (by first | assumption | omega) (by first | assumption | exact rfl) ?_ | refine k_cpy (by first | assumption | omega) (by first | assumption | omega) (by first | assumption | exact rfl) (by first | assumption | exact rfl) (by omega) (by omega) (by omega) (by omega) (by omega) (by omega) (by omega) (by omega) (by (try simp (disch := omega) only [sr_s, sr_a, sr_sr, u1_u1, f99, f103, f104, f111, p0, p3, p6, p7]); exact rfl) ?_)
      have hwi := X7_with_ok (M := M1) (a := A) (q := M 103 (36 * s + i)) (mk := e) hG (by rw [f111]; exact pa) ha hp36.1 hp36.2 e0 e8
      rw [f A (by omega)] at hwi
      refine Ok.bind hwi ?_
      intro X hX
      repeat' (with_reducible first | refine k_gf (by first | assumption | omega) (by first | assumption | ((try simp (disch := omega) only [sr_s, sr_a, sr_sr, u1_s, u1_k]); exact rfl)) ?_ | refine k_gr (by first | assumption | omega) (by first | assumption | ((try simp (disch := omega) only [sr_s, sr_a, sr_sr, u1_s, u1_k]); exact rfl)) (by omega) ?_ | refine k_ald (by first | assumption | omega) (by first | assumption | exact rfl) (by omega) (by omega) (by omega) (by first | assumption | ((try simp (disch := omega) only [sr_s, sr_a, sr_sr, u1_s, u1_k]); exact rfl)) ?_ | refine k_ifT (by first | (simp (disch := omega) only [w32_id]; first | done | omega) | omega) ?_ | refine k_ifF (by first | (simp (disch := omega) only [w32_id]; first | done | omega) | omega) ?_ | refine k_pf (by first | assumption | omega) (by (try simp (disch := omega) only [sr_s, sr_a, sr_sr, u1_u1]); exact rfl) ?_ | refine k_ast (by first | assumption | omega) (by first | assumption | exact rfl) (by omega) (by omega) (by omega) (by (try simp (disch := omega) only [sr_s, sr_a, sr_sr, u1_u1]); exact rfl) ?_ | refine k_irm (by omega) (by omega) (by omega) (by omega) ?_ | refine k_idv (by omega) (by omega) (by omega) (by omega) ?_ | refine k_tk (by first | assumption | omega) ?_ | refine k_rp (by omega) ?_ | refine k_aldR (by first | assumption | omega) (by first | assumption | exact rfl) (by omega) (by omega) (by omega) (by first | assumption | ((try simp (disch := omega) only [sr_s, sr_a, sr_sr, u1_s, u1_k]); exact rfl)) (by omega) ?_ | refine k_astR (by first | assumption | omega) (by first | assumption | exact rfl) (by omega) (by omega) (by omega) (by first | assumption | omega) (by (try simp (disch := omega) only [sr_s, sr_a, sr_sr, u1_u1]); exact rfl) ?_ | refine k_pz (by first | assumption | omega) (by omega) (by (try simp (disch := omega) only [sr_s, sr_a, sr_sr, u1_u1]); exact rfl) ?_ | refine k_alen (by first | assumption | omega) (by first | assumption | exact rfl) ?_ | refine k_cpy (by first | assumption | omega) (by first | assumption | omega) (by first | assumption | exact rfl) (by first | assumption | exact rfl) (by omega) (by omega) (by omega) (by omega) (by omega) (by omega) (by omega) (by omega) (by (try simp (disch := omega) only [sr_s, sr_a, sr_sr, u1_u1]); exact rfl) ?_)
      refine Ok.ret ⟨_, rfl, fun a h => by rw [sr_a _ _ h]; exact f a h, fun j j0 j1 tr t0 t1 => ?_⟩
      rw [sr_s]
      by_cases y : M 103 (36 * s + j) = M 103 (36 * s + i)
      · rw [y, u1_s, hX tr t0 t1]
        have hb := tV_b hP' (hce tr) s (M 103 (36 * s + i))
        exact enc_w3 hb.1 (by omega) e0 e8 (hI _ hp36.1 hp36.2 hbt tr t0 t1)
      · rw [u1_k _ _ y]
        by_cases ej : j = i
        · subst ej; exact absurd rfl y
        · exact hv j j0 (by omega) tr t0 t1
    · rintro _ ⟨M1, rfl, f, hv⟩
      have f99 : M1 99 = M 99 := f 99 (by omega)
      have f104 : M1 104 = M 104 := f 104 (by omega)
      have f111 : M1 111 = M 111 := f 111 (by omega)
      have p0 := pr111.p0 hp111
      have p7 := pr99.p7 hp99
      unfold M_X7_listStained_b2
      dsimp only
      repeat' (with_reducible first | refine k_gf (by first | assumption | omega) (by first | assumption | ((try simp (disch := omega) only [sr_s, sr_a, sr_sr, u1_s, u1_k, f99, f104, f111, p0, p7]); exact rfl)) ?_ | refine k_gr (by first | assumption | omega) (by first | assumption | ((try simp (disch := omega) only [sr_s, sr_a, sr_sr, u1_s, u1_k, f99, f104, f111, p0, p7]); exact rfl)) (by omega) ?_ | refine k_ald (by first | assumption | omega) (by first | assumption | exact rfl) (by omega) (by omega) (by omega) (by first | assumption | ((try simp (disch := omega) only [sr_s, sr_a, sr_sr, u1_s, u1_k, f99, f104, f111, p0, p7]); exact rfl)) ?_ | refine k_ifT (by first | (simp (disch := omega) only [w32_id]; first | done | omega) | omega) ?_ | refine k_ifF (by first | (simp (disch := omega) only [w32_id]; first | done | omega) | omega) ?_ | refine k_pf (by first | assumption | omega) (by (try simp (disch := omega) only [sr_s, sr_a, sr_sr, u1_u1, f99, f104, f111, p0, p7]); exact rfl) ?_ | refine k_ast (by first | assumption | omega) (by first | assumption | exact rfl) (by omega) (by omega) (by omega) (by (try simp (disch := omega) only [sr_s, sr_a, sr_sr, u1_u1, f99, f104, f111, p0, p7]); exact rfl) ?_ | refine k_irm (by omega) (by omega) (by omega) (by omega) ?_ | refine k_idv (by omega) (by omega) (by omega) (by omega) ?_ | refine k_tk (by first | assumption | omega) ?_ | refine k_rp (by omega) ?_ | refine k_aldR (by first | assumption | omega) (by first | assumption | exact rfl) (by omega) (by omega) (by omega) (by first | assumption | ((try simp (disch := omega) only [sr_s, sr_a, sr_sr, u1_s, u1_k, f99, f104, f111, p0, p7]); exact rfl)) (by omega) ?_ | refine k_astR (by first | assumption | omega) (by first | assumption | exact rfl) (by omega) (by omega) (by omega) (by first | assumption | omega) (by (try simp (disch := omega) only [sr_s, sr_a, sr_sr, u1_u1, f99, f104, f111, p0, p7]); exact rfl) ?_ | refine k_pz (by first | assumption | omega) (by omega) (by (try simp (disch := omega) only [sr_s, sr_a, sr_sr, u1_u1, f99, f104, f111, p0, p7]); exact rfl) ?_ | refine k_alen (by first | assumption | omega) (by first | assumption | exact rfl) ?_ | refine k_cpy (by first | assumption | omega) (by first | assumption | omega) (by first | assumption | exact rfl) (by first | assumption | exact rfl) (by omega) (by omega) (by omega) (by omega) (by omega) (by omega) (by omega) (by omega) (by (try simp (disch := omega) only [sr_s, sr_a, sr_sr, u1_u1, f99, f104, f111, p0, p7]); exact rfl) ?_)
      exact Ok.ret ⟨M1, rfl, f, fun j j0 j1 => hv j j0 (by omega)⟩
  · rintro _ ⟨M1, rfl, f, hv⟩
    refine Ok.ret ⟨M1, rfl, f, fun q q0 q1 hq tr t0 t1 => ?_⟩
    obtain ⟨j, j0, j1, rfl⟩ := ws3 q q0 q1 hq
    exact hv j j0 j1 tr t0 t1
end T2
