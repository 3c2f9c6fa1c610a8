/-! the class's Chain: what stands behind so many rounds -/
theorem mkV_dep {wd hi mk s e1 e2 e3 p dr : Int} {m m' : Int → Int} (a1 : 2 ≤ wd) (a2 : wd ≤ 6) (b1 : 2 ≤ hi) (b2 : hi ≤ 6) (he : errB wd hi mk s e1 e2 e3) (hp : inV wd hi p) (h1 : srcC wd hi s e1 e2 e3 p dr ≠ -1 → m (srcC wd hi s e1 e2 e3 p dr) = m' (srcC wd hi s e1 e2 e3 p dr)) (h2 : s = 6 → ∀ d, 0 ≤ d → d < 4 → bsV wd hi p d ≠ -1 → m (bsV wd hi p d) = m' (bsV wd hi p d)) : mkV wd hi s e1 e2 e3 m p dr = mkV wd hi s e1 e2 e3 m' p dr := by
  have p0 : 0 ≤ p := hp.1
  by_cases z7 : s = 7
  · have e : srcC wd hi s e1 e2 e3 p dr = p := by unfold srcC; rw [if_pos (Or.inl z7)]
    rw [e] at h1
    have hm := h1 (by omega)
    subst z7
    unfold mkV srcV
    simp only [Int.reduceEq, if_false, if_true, hm]
    split
    · rfl
    · split <;> first | rfl | exact hm | omega
  by_cases z6 : s = 6
  · have e : srcC wd hi s e1 e2 e3 p dr = p := by unfold srcC; rw [if_pos (Or.inr z6)]
    rw [e] at h1
    have hm := h1 (by omega)
    have h3 := h2 z6
    subst z6
    have g : ∀ d, 0 ≤ d → d < 4 → ((bsV wd hi p d ≠ -1 ∧ m (bsV wd hi p d) = e1) ↔ (bsV wd hi p d ≠ -1 ∧ m' (bsV wd hi p d) = e1)) := fun d d0 d1 => by
      constructor
      · rintro ⟨x, y⟩; exact ⟨x, by rw [← h3 d d0 d1 x]; exact y⟩
      · rintro ⟨x, y⟩; exact ⟨x, by rw [h3 d d0 d1 x]; exact y⟩
    have hst : stV wd hi m p e1 = stV wd hi m' p e1 := by
      rw [stV_ways p0, stV_ways p0, hm]
      simp only [g 0 (by omega) (by omega), g 1 (by omega) (by omega), g 2 (by omega) (by omega), g 3 (by omega) (by omega)]
    have hv : m (stV wd hi m' p e1) = m' (stV wd hi m' p e1) := by
      rw [stV_ways p0]
      by_cases c0 : m' p = e1
      · rw [if_pos c0]; exact hm
      rw [if_neg c0]
      by_cases c1 : bsV wd hi p 0 ≠ -1 ∧ m' (bsV wd hi p 0) = e1
      · rw [if_pos c1]; exact h3 0 (by omega) (by omega) c1.1
      rw [if_neg c1]
      by_cases c2 : bsV wd hi p 1 ≠ -1 ∧ m' (bsV wd hi p 1) = e1
      · rw [if_pos c2]; exact h3 1 (by omega) (by omega) c2.1
      rw [if_neg c2]
      by_cases c3 : bsV wd hi p 2 ≠ -1 ∧ m' (bsV wd hi p 2) = e1
      · rw [if_pos c3]; exact h3 2 (by omega) (by omega) c3.1
      rw [if_neg c3]
      by_cases c4 : bsV wd hi p 3 ≠ -1 ∧ m' (bsV wd hi p 3) = e1
      · rw [if_pos c4]; exact h3 3 (by omega) (by omega) c4.1
      rw [if_neg c4]; exact hm
    have k6 : ∀ m, srcV wd hi 6 e1 e2 e3 m p dr = stV wd hi m p e1 := fun _ => rfl
    unfold mkV
    rw [k6, k6, hst, hv]
  · have e : ∀ m, srcC wd hi s e1 e2 e3 p dr = srcV wd hi s e1 e2 e3 m p dr := fun m => by unfold srcC; rw [if_neg (by omega)]; exact srcV_m (by omega)
    unfold mkV
    rw [← e m, ← e m']
    by_cases c : srcC wd hi s e1 e2 e3 p dr = -1
    · rw [if_pos c, if_pos c]
    · rw [if_neg c, if_neg c, h1 c]
theorem bh_still {wd hi tw s0 t q : Int} {co er ce : Int → Int} (hc : co t < 0) (q0 : 0 ≤ q) (q1 : q < 36) : ∀ k, bh wd hi tw co er s0 ce k (36 * t + q) = ce (36 * t + q)
  | 0 => rfl
  | k + 1 => by
    show cellV _ _ _ _ _ _ _ _ = _
    unfold cellV
    rw [show (36 * t + q) / 36 = t by omega, if_neg (by omega)]
    exact bh_still hc q0 q1 k
theorem bh_step {wd hi tw s0 t p : Int} {co er ce : Int → Int} (b2 : hi ≤ 6) (a2 : wd ≤ 6) (t0 : 0 ≤ t) (t1 : t < tw) (hc : 0 ≤ co t) (hp : inV wd hi p) (k : Nat) : bh wd hi tw co er s0 ce (k + 1) (36 * t + p) = mkT wd hi er t (fun q => bh wd hi tw co er s0 ce k (36 * co t + q)) p (drV wd hi tw er s0 k t) := by
  unfold inV at hp
  show cellV _ _ _ _ _ _ _ _ = _
  unfold cellV
  rw [show (36 * t + p) / 36 = t by omega, show (36 * t + p) % 36 = p by omega, if_pos (by omega)]
/-- a chain that is laid and prepared -/
def chP (M : Int → Int → Int) (G : GG) (w mk n b t : Int) : Prop := chX M G w mk n b t ∧ (∀ s, b ≤ s → s ≤ n → wS M (M w 0) (M w 1) s) ∧ (∀ s, b < s → s ≤ n → ∀ p, 0 ≤ p → p < 36 → bt (M 105 s) p = true → clP M w s p) ∧ ∀ q, 0 ≤ q → q < 36 → M 102 (36 * b + q) = M (w + 1) (36 * M 100 b + q)
/-- the cells behind k rounds of the world at w -/
abbrev bhM (M : Int → Int → Int) (w : Int) (k : Nat) : Int → Int := bh (M w 0) (M w 1) (M w 2) (M (w + 2)) (M (w + 3)) (M w 6) (M (w + 1)) k
/-- the wanted places of a step's map are built -/
def chV (M : Int → Int → Int) (w s : Int) : Prop := ∀ p, 0 ≤ p → p < 36 → bt (M 105 s) p = true → M 102 (36 * s + p) = bhM M w s.toNat (36 * M 100 s + p)
section CD
variable {M : Int → Int → Int} {G : GG} {w n b t s p mk : Int}
theorem X0_prepare_ok (hX : chX M G w mk n b t) (hw : ∀ s, b ≤ s → s ≤ n → wS M (M w 0) (M w 1) s) : Ok (M_X0_prepare (M, G) 99) (fun h => ∃ M1, h = (M1, G) ∧ (∀ a, a < 102 ∨ 105 < a → M1 a = M a) ∧ chP M1 G w mk n b t ∧ ∀ s p, b ≤ s → s ≤ n → bt (M 105 s) p = true → bt (M1 105 s) p = true) := by
  have hX' := hX
  obtain ⟨hG, ⟨hp99, hd, hmp⟩, ⟨hg, hm, ⟨a1, a2, b1, b2, x1, x6, k2, k6, hco, her, het, hcz, y0, y1, hce⟩, hw99⟩, ⟨l0, l1, l2, b0, bn, n6, ln, lt, lc, lb⟩, hD⟩ := hX
  have k99 := gk_99 hG
  have k100 := gk_100 hG
  have l100 := gl_100 hG
  have k102 := gk_102 hG
  have l102 := gl_102 hG
  have p3 := pr99.p3 hp99
  have p5 := pr99.p5 hp99
  have hg0 := hg.1
  have hm' := hm
  have hg' := hg
  obtain ⟨m3, m4, m5⟩ := hm
  obtain ⟨-, g1, g2, g3, g4, g5, g6, g7⟩ := hg
  have hwe : ∀ i, w32 (M (w + 3) i) = M (w + 3) i := fun i => w32_id (by have := her i; omega) (by have := her i; omega)
  unfold M_X0_prepare M_X0_prepare_w5
  repeat' (with_reducible first | refine k_gf (by first | assumption | omega) (by first | assumption | ((try simp (disch := omega) only [sr_s, sr_a, sr_sr, u1_s, u1_k, l1]); exact rfl)) ?_ | refine k_gr (by first | assumption | omega) (by first | assumption | ((try simp (disch := omega) only [sr_s, sr_a, sr_sr, u1_s, u1_k, l1]); exact rfl)) (by omega) ?_ | refine k_ald (by first | assumption | omega) (by first | assumption | exact rfl) (by omega) (by omega) (by omega) (by first | assumption | ((try simp (disch := omega) only [sr_s, sr_a, sr_sr, u1_s, u1_k, l1]); exact rfl)) ?_ | refine k_ifT (by first | (simp (disch := omega) only [w32_id]; first | done | omega) | omega) ?_ | refine k_ifF (by first | (simp (disch := omega) only [w32_id]; first | done | omega) | omega) ?_ | refine k_pf (by first | assumption | omega) (by (try simp (disch := omega) only [sr_s, sr_a, sr_sr, u1_u1, l1]); exact rfl) ?_ | refine k_ast (by first | assumption | omega) (by first | assumption | exact rfl) (by omega) (by omega) (by omega) (by (try simp (disch := omega) only [sr_s, sr_a, sr_sr, u1_u1, l1]); exact rfl) ?_ | refine k_irm (by omega) (by omega) (by omega) (by omega) ?_ | refine k_idv (by omega) (by omega) (by omega) (by omega) ?_ | refine k_tk (by first | assumption | omega) ?_ | refine k_rp (by omega) ?_ | refine k_aldR (by first | assumption | omega) (by first | assumption | exact rfl) (by omega) (by omega) (by omega) (by first | assumption | ((try simp (disch := omega) only [sr_s, sr_a, sr_sr, u1_s, u1_k, l1]); exact rfl)) (by omega) ?_ | refine k_astR (by first | assumption | omega) (by first | assumption | exact rfl) (by omega) (by omega) (by omega) (by first | assumption | omega) (by (try simp (disch := omega) only [sr_s, sr_a, sr_sr, u1_u1, l1]); exact rfl) ?_ | refine k_pz (by first | assumption | omega) (by omega) (by (try simp (disch := omega) only [sr_s, sr_a, sr_sr, u1_u1, l1]); exact rfl) ?_ | refine k_alen (by first | assumption | omega) (by first | assumption | exact rfl) ?_ | refine k_cpy (by first | assumption | omega) (by first | assumption | omega) (by first | assumption | exact rfl) (by first | assumption | exact rfl) (by omega) (by omega) (by omega) (by omega) (by omega) (by omega) (by omega) (by omega) (by (try simp (disch := omega) only [sr_s, sr_a, sr_sr, u1_u1, l1]); exact rfl) ?_ | refine k_if (by (try simp (disch := omega) only [w32_id]); exact Iff.rfl) (fun c => ?_) (fun c => ?_))
  refine Ok.bind (wh_for (fun i st => ∃ M1, st = ((M1, G), n - (i : Int)) ∧ (∀ a, a ≠ 103 → a ≠ 104 → a ≠ 105 → M1 a = M a) ∧ (∀ s, b ≤ s → s ≤ n → wS M1 (M w 0) (M w 1) s) ∧ (∀ s p, b ≤ s → s ≤ n → bt (M 105 s) p = true → bt (M1 105 s) p = true) ∧ ∀ s, n - (i : Int) < s → s ≤ n → ∀ p, 0 ≤ p → p < 36 → bt (M1 105 s) p = true → clP M1 w s p) (fun h => ∃ M1, h = (M1, G) ∧ (∀ a, a ≠ 103 → a ≠ 104 → a ≠ 105 → M1 a = M a) ∧ (∀ s, b ≤ s → s ≤ n → wS M1 (M w 0) (M w 1) s) ∧ (∀ s p, b ≤ s → s ≤ n → bt (M 105 s) p = true → bt (M1 105 s) p = true) ∧ ∀ s, b < s → s ≤ n → ∀ p, 0 ≤ p → p < 36 → bt (M1 105 s) p = true → clP M1 w s p) (n - b).toNat (by omega) ⟨M, by rw [show n - ((0 : Nat) : Int) = n by omega], fun _ _ _ _ => rfl, hw, fun _ _ _ _ h => h, fun s x y => by omega⟩ ?_ ?_) ?_
  · rintro i _ hi ⟨M1, rfl, f, hw1, hmn, hcl⟩
    dsimp only
    have hX1 := hX'.cg f
    have f99 : M1 99 = M 99 := f 99 (by omega) (by omega) (by omega)
    have fw : M1 w = M w := f w (by omega) (by omega) (by omega)
    have fw3 : M1 (w + 3) = M (w + 3) := f (w + 3) (by omega) (by omega) (by omega)
    have f100 : M1 100 = M 100 := f 100 (by omega) (by omega) (by omega)
    have ht := lt (n - i) (by omega) (by omega)
    have hdo : ∀ x : Int, x = (if M1 (w + 3) (4 * M1 100 (n - (i : Int))) = 6 then 1 else 0) → Ok (M_X0_prepare_p39 (M1, G) 99 (n - (i : Int)) x) (lo (fun st => ∃ M1, st = ((M1, G), n - ((i + 1 : Nat) : Int)) ∧ (∀ a, a ≠ 103 → a ≠ 104 → a ≠ 105 → M1 a = M a) ∧ (∀ s, b ≤ s → s ≤ n → wS M1 (M w 0) (M w 1) s) ∧ (∀ s p, b ≤ s → s ≤ n → bt (M 105 s) p = true → bt (M1 105 s) p = true) ∧ ∀ s, n - ((i + 1 : Nat) : Int) < s → s ≤ n → ∀ p, 0 ≤ p → p < 36 → bt (M1 105 s) p = true → clP M1 w s p) (fun h => ∃ M1, h = (M1, G) ∧ (∀ a, a ≠ 103 → a ≠ 104 → a ≠ 105 → M1 a = M a) ∧ (∀ s, b ≤ s → s ≤ n → wS M1 (M w 0) (M w 1) s) ∧ (∀ s p, b ≤ s → s ≤ n → bt (M 105 s) p = true → bt (M1 105 s) p = true) ∧ ∀ s, b < s → s ≤ n → ∀ p, 0 ≤ p → p < 36 → bt (M1 105 s) p = true → clP M1 w s p)) := by
      intro x hx
      unfold M_X0_prepare_p39 M_X0_prepare_w42 M_X0_prepare_p108
      refine Ok.bind (X0_prepStep hX1 (by omega) (by omega) (by rw [fw]; exact hw1 _ (by omega) (by omega)) (by rw [fw]; exact hw1 _ (by omega) (by omega)) hx) ?_
      rintro _ ⟨M2, rfl, hF, hw2, hc2⟩
      rw [fw] at hw2
      refine Ok.ret ⟨M2, by rw [show n - ((i + 1 : Nat) : Int) = n - i + -1 by omega], fun a u1 u2 u3 => (hF.1 a u1 u2 u3).trans (f a u1 u2 u3), fun s u v => ?_, fun s p u v h => ?_, fun s u v p p0 p1 h => ?_⟩
      · by_cases e : s = n - i - 1
        · rw [e]; exact hw2
        · exact (hw1 s u v).cg hF e
      · have h := hmn s p u v h
        by_cases e : s = n - i - 1
        · rw [e] at h ⊢; exact hF.2.2 p h
        · rw [(hF.2.1 s e).2.1]; exact h
      · have e : s ≠ n - i - 1 := by omega
        rw [(hF.2.1 s e).2.1] at h
        by_cases es : s = n - i
        · subst es; exact hc2 p p0 p1 h
        · exact (hcl s (by omega) v p p0 p1 h).up hw99 hg0 hF
    unfold M_X0_prepare_b5
    repeat' (with_reducible first | refine k_gf (by first | assumption | omega) (by first | assumption | ((try simp (disch := omega) only [sr_s, sr_a, sr_sr, u1_s, u1_k, l0, l2, m5, p3, f99, fw, fw3, f100]); exact rfl)) ?_ | refine k_gr (by first | assumption | omega) (by first | assumption | ((try simp (disch := omega) only [sr_s, sr_a, sr_sr, u1_s, u1_k, l0, l2, m5, p3, f99, fw, fw3, f100]); exact rfl)) (by omega) ?_ | refine k_ald (by first | assumption | omega) (by first | assumption | exact rfl) (by omega) (by omega) (by omega) (by first | assumption | ((try simp (disch := omega) only [sr_s, sr_a, sr_sr, u1_s, u1_k, l0, l2, m5, p3, f99, fw, fw3, f100]); exact rfl)) ?_ | refine k_ifT (by first | (simp (disch := omega) only [w32_id, hwe]; first | done | omega) | omega) ?_ | refine k_ifF (by first | (simp (disch := omega) only [w32_id, hwe]; first | done | omega) | omega) ?_ | refine k_pf (by first | assumption | omega) (by (try simp (disch := omega) only [sr_s, sr_a, sr_sr, u1_u1, l0, l2, m5, p3, f99, fw, fw3, f100]); exact rfl) ?_ | refine k_ast (by first | assumption | omega) (by first | assumption | exact rfl) (by omega) (by omega) (by omega) (by (try simp (disch := omega) only [sr_s, sr_a, sr_sr, u1_u1, l0, l2, m5, p3, f99, fw, fw3, f100]); exact rfl) ?_ | refine k_irm (by omega) (by omega) (by omega) (by omega) ?_ | refine k_idv (by omega) (by omega) (by omega) (by omega) ?_ | refine k_tk (by first | assumption | omega) ?_ | refine k_rp (by omega) ?_ | refine k_aldR (by first | assumption | omega) (by first | assumption | exact rfl) (by omega) (by omega) (by omega) (by first | assumption | ((try simp (disch := omega) only [sr_s, sr_a, sr_sr, u1_s, u1_k, l0, l2, m5, p3, f99, fw, fw3, f100]); exact rfl)) (by omega) ?_ | refine k_astR (by first | assumption | omega) (by first | assumption | exact rfl) (by omega) (by omega) (by omega) (by first | assumption | omega) (by (try simp (disch := omega) only [sr_s, sr_a, sr_sr, u1_u1, l0, l2, m5, p3, f99, fw, fw3, f100]); exact rfl) ?_ | refine k_pz (by first | assumption | omega) (by omega) (by (try simp (disch := omega) only [sr_s, sr_a, sr_sr, u1_u1, l0, l2, m5, p3, f99, fw, fw3, f100]); exact rfl) ?_ | refine k_alen (by first | assumption | omega) (by first | assumption | exact rfl) ?_ | refine k_cpy (by first | assumption | omega) (by first | assumption | omega) (by first | assumption | exact rfl) (by first | assumption | exact rfl) (by omega) (by omega) (by omega) (by omega) (by omega) (by omega) (by omega) (by omega) (by (try simp (disch := omega) only [sr_s, sr_a, sr_sr, u1_u1, l0, l2, m5, p3, f99, fw, fw3, f100]); exact rfl) ?_ | refine k_if (by (try simp (disch := omega) only [w32_id, hwe]); exact Iff.rfl) (fun c => ?_) (fun c => ?_))
    · exact hdo 1 (by rw [fw3, f100, if_pos (by assumption)])
    · exact hdo 0 (by rw [fw3, f100, if_neg (by assumption)])
  · rintro _ ⟨M1, rfl, f, hw1, hmn, hcl⟩
    dsimp only
    have f99 : M1 99 = M 99 := f 99 (by omega) (by omega) (by omega)
    unfold M_X0_prepare_b5
    repeat' (with_reducible first | refine k_gf (by first | assumption | omega) (by first | assumption | ((try simp (disch := omega) only [sr_s, sr_a, sr_sr, u1_s, u1_k, l2, f99]); exact rfl)) ?_ | refine k_gr (by first | assumption | omega) (by first | assumption | ((try simp (disch := omega) only [sr_s, sr_a, sr_sr, u1_s, u1_k, l2, f99]); exact rfl)) (by omega) ?_ | refine k_ald (by first | assumption | omega) (by first | assumption | exact rfl) (by omega) (by omega) (by omega) (by first | assumption | ((try simp (disch := omega) only [sr_s, sr_a, sr_sr, u1_s, u1_k, l2, f99]); exact rfl)) ?_ | refine k_ifT (by first | (simp (disch := omega) only [w32_id]; first | done | omega) | omega) ?_ | refine k_ifF (by first | (simp (disch := omega) only [w32_id]; first | done | omega) | omega) ?_ | refine k_pf (by first | assumption | omega) (by (try simp (disch := omega) only [sr_s, sr_a, sr_sr, u1_u1, l2, f99]); exact rfl) ?_ | refine k_ast (by first | assumption | omega) (by first | assumption | exact rfl) (by omega) (by omega) (by omega) (by (try simp (disch := omega) only [sr_s, sr_a, sr_sr, u1_u1, l2, f99]); exact rfl) ?_ | refine k_irm (by omega) (by omega) (by omega) (by omega) ?_ | refine k_idv (by omega) (by omega) (by omega) (by omega) ?_ | refine k_tk (by first | assumption | omega) ?_ | refine k_rp (by omega) ?_ | refine k_aldR (by first | assumption | omega) (by first | assumption | exact rfl) (by omega) (by omega) (by omega) (by first | assumption | ((try simp (disch := omega) only [sr_s, sr_a, sr_sr, u1_s, u1_k, l2, f99]); exact rfl)) (by omega) ?_ | refine k_astR (by first | assumption | omega) (by first | assumption | exact rfl) (by omega) (by omega) (by omega) (by first | assumption | omega) (by (try simp (disch := omega) only [sr_s, sr_a, sr_sr, u1_u1, l2, f99]); exact rfl) ?_ | refine k_pz (by first | assumption | omega) (by omega) (by (try simp (disch := omega) only [sr_s, sr_a, sr_sr, u1_u1, l2, f99]); exact rfl) ?_ | refine k_alen (by first | assumption | omega) (by first | assumption | exact rfl) ?_ | refine k_cpy (by first | assumption | omega) (by first | assumption | omega) (by first | assumption | exact rfl) (by first | assumption | exact rfl) (by omega) (by omega) (by omega) (by omega) (by omega) (by omega) (by omega) (by omega) (by (try simp (disch := omega) only [sr_s, sr_a, sr_sr, u1_u1, l2, f99]); exact rfl) ?_ | refine k_if (by (try simp (disch := omega) only [w32_id]); exact Iff.rfl) (fun c => ?_) (fun c => ?_))
    exact Ok.ret ⟨M1, rfl, f, hw1, hmn, fun s u v => hcl s (by omega) v⟩
  · rintro _ ⟨M1, rfl, f, hw1, hmn, hcl⟩
    have hX1 := hX'.cg f
    have f99 : M1 99 = M 99 := f 99 (by omega) (by omega) (by omega)
    have fw : M1 w = M w := f w (by omega) (by omega) (by omega)
    have fw1 : M1 (w + 1) = M (w + 1) := f (w + 1) (by omega) (by omega) (by omega)
    have fw2 : M1 (w + 2) = M (w + 2) := f (w + 2) (by omega) (by omega) (by omega)
    have fw3 : M1 (w + 3) = M (w + 3) := f (w + 3) (by omega) (by omega) (by omega)
    have f100 : M1 100 = M 100 := f 100 (by omega) (by omega) (by omega)
    have f102 : M1 102 = M 102 := f 102 (by omega) (by omega) (by omega)
    have ht := lt b (by omega) (by omega)
    unfold M_X0_prepare_p114
    repeat' (with_reducible first | refine k_gf (by first | assumption | omega) (by first | assumption | ((try simp (disch := omega) only [sr_s, sr_a, sr_sr, u1_s, u1_k, l0, l2, m3, p3, p5, f99, fw, f100]); exact rfl)) ?_ | refine k_gr (by first | assumption | omega) (by first | assumption | ((try simp (disch := omega) only [sr_s, sr_a, sr_sr, u1_s, u1_k, l0, l2, m3, p3, p5, f99, fw, f100]); exact rfl)) (by omega) ?_ | refine k_ald (by first | assumption | omega) (by first | assumption | exact rfl) (by omega) (by omega) (by omega) (by first | assumption | ((try simp (disch := omega) only [sr_s, sr_a, sr_sr, u1_s, u1_k, l0, l2, m3, p3, p5, f99, fw, f100]); exact rfl)) ?_ | refine k_ifT (by first | (simp (disch := omega) only [w32_id]; first | done | omega) | omega) ?_ | refine k_ifF (by first | (simp (disch := omega) only [w32_id]; first | done | omega) | omega) ?_ | refine k_pf (by first | assumption | omega) (by (try simp (disch := omega) only [sr_s, sr_a, sr_sr, u1_u1, l0, l2, m3, p3, p5, f99, fw, f100]); exact rfl) ?_ | refine k_ast (by first | assumption | omega) (by first | assumption | exact rfl) (by omega) (by omega) (by omega) (by (try simp (disch := omega) only [sr_s, sr_a, sr_sr, u1_u1, l0, l2, m3, p3, p5, f99, fw, f100]); exact rfl) ?_ | refine k_irm (by omega) (by omega) (by omega) (by omega) ?_ | refine k_idv (by omega) (by omega) (by omega) (by omega) ?_ | refine k_tk (by first | assumption | omega) ?_ | refine k_rp (by omega) ?_ | refine k_aldR (by first | assumption | omega) (by first | assumption | exact rfl) (by omega) (by omega) (by omega) (by first | assumption | ((try simp (disch := omega) only [sr_s, sr_a, sr_sr, u1_s, u1_k, l0, l2, m3, p3, p5, f99, fw, f100]); exact rfl)) (by omega) ?_ | refine k_astR (by first | assumption | omega) (by first | assumption | exact rfl) (by omega) (by omega) (by omega) (by first | assumption | omega) (by (try simp (disch := omega) only [sr_s, sr_a, sr_sr, u1_u1, l0, l2, m3, p3, p5, f99, fw, f100]); exact rfl) ?_ | refine k_pz (by first | assumption | omega) (by omega) (by (try simp (disch := omega) only [sr_s, sr_a, sr_sr, u1_u1, l0, l2, m3, p3, p5, f99, fw, f100]); exact rfl) ?_ | refine k_alen (by first | assumption | omega) (by first | assumption | exact rfl) ?_ | refine k_cpy (by first | assumption | omega) (by first | assumption | omega) (by first | assumption | exact rfl) (by first | assumption | exact rfl) (by omega) (by omega) (by omega) (by omega) (by omega) (by omega) (by omega) (by omega) (by (try simp (disch := omega) only [sr_s, sr_a, sr_sr, u1_u1, l0, l2, m3, p3, p5, f99, fw, f100]); exact rfl) ?_ | refine k_if (by (try simp (disch := omega) only [w32_id]); exact Iff.rfl) (fun c => ?_) (fun c => ?_))
    have g : ∀ a, a ≠ 102 → sr M1 102 (cp1 (M1 102) (M1 (w + 1)) (36 * M 100 b) (36 * b) 36) a = M1 a := fun a ha => sr_a _ _ ha
    refine Ok.ret ⟨_, rfl, fun a ha => by rw [g a (by omega)]; exact f a (by omega) (by omega) (by omega), ⟨?_, ?_, ?_, ?_⟩, ?_⟩
    · obtain ⟨q1, ⟨q2, q3, q4⟩, q5, q6, q7⟩ := hX1
      refine ⟨q1, ⟨by rw [g 99 (by omega)]; exact q2, by rw [g 101 (by omega)]; exact q3, fun i => ?_⟩, q5.fr (fun a ha => g a (by omega)), ?_, ?_⟩
      · rw [sr_s]
        unfold cp1
        split
        · rw [fw1]; have := hce (36 * M 100 b + (i - 36 * b)); omega
        · exact q4 i
      · unfold chL at *; rw [g 99 (by omega), g 100 (by omega), g w (by omega), g (w + 2) (by omega)]; exact q6
      · unfold chD at *; rw [g 101 (by omega), g 100 (by omega), g w (by omega), g (w + 3) (by omega)]; exact q7
    · intro s u v
      have := hw1 s u v
      unfold wS at *
      rw [g 103 (by omega), g 104 (by omega), g 105 (by omega), g w (by omega), fw]
      exact this
    · intro s u v p p0 p1 h
      rw [g 105 (by omega)] at h
      have := hcl s u v p p0 p1 h
      unfold clP at *
      rw [g 105 (by omega), g w (by omega), g (w + 3) (by omega), g 100 (by omega), g 101 (by omega)]
      exact this
    · intro q q0 q1
      rw [sr_s, g (w + 1) (by omega), g 100 (by omega), f100]
      unfold cp1
      rw [if_pos (by omega), show 36 * b + q - 36 * b = q by omega]
    · rw [g 105 (by omega)]; exact hmn
end CD
