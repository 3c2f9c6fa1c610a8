/-! round: the reference's loops -/
section R9
variable {M M' M1 M2 : Int → Int → Int} {G : GG} {td r rg w mk : Int}
theorem sta_C (h : Inv0 M G td r) (hR : isR M G td rg) : rC (staM M) G rg (M 24 0) (M 24 1) (M 24 2) (M 26) (M 27) ∧ rSt (staM M) (staM M) (M 24 0) (M 24 1) (M 24 2) 6 (M 26) (M 27) (M 24 6) (M 25) 0 0 ∧ rQ M (staM M) := by
  have hG := h.1.1
  have hp124 := h.2.2.1.1
  have hmp := h.2.2.1.2
  have hB := hR.B hG
  have hrg : 146 ≤ rg := hB.2.2.1
  obtain ⟨-, -, -, ⟨h4, h5, h6, h7⟩, ⟨-, -, -, hwf, -⟩, -, -, -, -, ⟨c1, c2, c3, c4, c5, c6⟩, -⟩ := hR
  obtain ⟨a1, a2, b1, b2, t1, t6, -⟩ := hwf
  have e124 : ∀ k, k ≠ 26 → staM M 124 k = M 124 k := fun k hk => by unfold staM; rw [sr_s, u1_k _ _ hk]
  have e : ∀ a, a ≠ 124 → a ≠ 129 → a ≠ 130 → a ≠ 131 → staM M a = M a := fun a x1 x2 x3 x4 => by unfold staM; simp (disch := first | assumption | omega) only [sr_s, sr_a, sr_sr]
  have e130 : staM M 130 = cp1 (M 130) (M 126) 216 0 6 := by unfold staM; simp (disch := first | assumption | omega) only [sr_s, sr_a, sr_sr]
  have e131 : staM M 131 = cp1 (M 131) (M 126) 222 0 24 := by unfold staM; simp (disch := first | assumption | omega) only [sr_s, sr_a, sr_sr]
  have e129 : staM M 129 = cp1 (M 129) (M 126) 0 0 216 := by unfold staM; simp (disch := first | assumption | omega) only [sr_s, sr_a, sr_sr]
  have hb : ∀ i, 0 ≤ staM M 129 i ∧ staM M 129 i < 6 := fun i => by
    rw [e129]; unfold cp1
    split
    · have := c6 i (by omega) (by omega)
      rw [show (0 : Int) + (i - 0) = 0 + i by omega]; exact this
    · exact hmp i
  refine ⟨⟨hG, pr124.u hp124 (fun k hk => e124 k (by omega)), hB.cg (e124 3 (by omega)) (e rg (by omega) (by omega) (by omega) (by omega)), ?_, ?_, ?_, fun t t0 t1 => ?_, fun i i0 i1 => ?_⟩, ⟨fun _ _ _ _ => rfl, fun _ _ => rfl, ?_, hb, fun k t q hk t0 t1 q0 q1 => ?_, fun k t hk t0 t1 => by omega⟩, fun a ha => e a (by omega) (by omega) (by omega) (by omega), fun k k0 k1 k2 k3 _ _ => e124 k k3, hb⟩
  · rw [e rg (by omega) (by omega) (by omega) (by omega)]; exact h4
  · rw [e rg (by omega) (by omega) (by omega) (by omega)]; exact h5
  · rw [e rg (by omega) (by omega) (by omega) (by omega)]; exact h7
  · rw [e130]; unfold cp1; rw [if_pos (by omega)]
    have := c2 t t0 t1
    rw [show (0 : Int) + 216 + t = 216 + (t - 0) by omega] at this
    exact this
  · rw [e131]; unfold cp1; rw [if_pos (by omega)]
    have := c3 i i0 i1
    rw [show (0 : Int) + 222 + i = 222 + (i - 0) by omega] at this
    exact this
  · rw [show (0 * rk (M 27) (M 24 2).toNat + rk (M 27) (0 : Int).toNat) = 0 by rw [Nat.zero_mul]; rfl]
    unfold staM
    rw [sr_s, u1_s]
    exact c5
  · have hk : k = 0 := by omega
    subst hk
    have hm := mul_b a1 a2 b1 b2
    rw [e129]; unfold cp1
    rw [if_pos (by omega)]
    have := c1 t (inn (M 24 0) q) t0 t1 (inn_in a1 a2 b1 b2 q0 q1)
    rw [idx_inn a1 a2 q0] at this
    show _ = M (24 + 1) (36 * t + inn (M 24 0) q)
    rw [← this]
    congr 1
    omega
def smS (M : Int → Int → Int) (j : Nat) : Int := smT (fun t q => bhM M 24 j (36 * t + inn (M 24 0) q)) (M 24 0 * M 24 1).toNat (M 24 2).toNat
def rdR (M M' : Int → Int → Int) (G : GG) (rg : Int) (i n : Nat) : Prop := rQ M M' ∧ rC M' G rg (M 24 0) (M 24 1) (M 24 2) (M 26) (M 27) ∧ rSt M' M' (M 24 0) (M 24 1) (M 24 2) 6 (M 26) (M 27) (M 24 6) (M 25) i 0 ∧ ∀ j : Nat, j < n → M' 135 (j : Int) = smS M j
theorem rdR_step (hwf : wfW (M 24 0) (M 24 1) (M 24 2) 6 (M 26) (M 27) (M 24 6) (M 25)) {i n : Nat} (hi : i < 400) (h : rdR M M' G rg i n) : Ok (M_X11_step (M', G) 124 (i : Int)) (fun h => ∃ M1, h = (M1, G) ∧ rdR M M1 G rg (i + 1) n) := by
  obtain ⟨hq, hC, hS, hs⟩ := h
  refine (X11_step_ok hC hwf hi hS).mono ?_
  rintro ⟨M1, G1⟩ ⟨e1, h1⟩
  dsimp only at e1 h1
  subst e1
  refine ⟨M1, rfl, hq.trans ⟨fun a ha => h1.1 a (by omega) (by omega) (by omega), fun k _ _ _ k3 _ _ => h1.2.1 k k3, h1.2.2.2.1⟩, hC.cg h1.1 h1.2.1, h1.self, fun j hj => ?_⟩
  rw [h1.1 135 (by omega) (by omega) (by omega)]
  exact hs j hj
theorem rdR_put {i : Nat} (h : rdR M M' G rg i i) : rdR M (sr M' 135 (u1 (M' 135) (i : Int) (smS M i))) G rg i (i + 1) := by
  obtain ⟨hq, ⟨hG, hp, hB, h0, h1, h3, hc, he⟩, hS, hs⟩ := h
  have hrg := hB.2.2.1
  have f : ∀ a, a ≠ 135 → sr M' 135 (u1 (M' 135) (i : Int) (smS M i)) a = M' a := fun a ha => sr_a _ _ ha
  refine ⟨hq.trans ⟨fun a ha => f a (by omega), fun k _ _ _ _ _ _ => by rw [f 124 (by omega)], by rw [f 129 (by omega)]; exact hS.2.2.2.1⟩, ⟨hG, by rw [f 124 (by omega)]; exact hp, hB.cg (by rw [f 124 (by omega)]) (f rg (by omega)), by rw [f rg (by omega)]; exact h0, by rw [f rg (by omega)]; exact h1, by rw [f rg (by omega)]; exact h3, by rw [f 130 (by omega)]; exact hc, by rw [f 131 (by omega)]; exact he⟩, ⟨fun _ _ _ _ => rfl, fun _ _ => rfl, ?_, ?_, ?_, ?_⟩, fun j hj => ?_⟩
  · rw [f 124 (by omega)]; exact hS.2.2.1
  · rw [f 129 (by omega)]; exact hS.2.2.2.1
  · rw [f 129 (by omega)]; exact hS.2.2.2.2.1
  · rw [f 132 (by omega)]; exact hS.2.2.2.2.2
  · rw [sr_s]
    by_cases y : j = i
    · subst y; rw [u1_s]
    · rw [u1_k _ _ (by omega)]
      exact hs j (by omega)
theorem rdR_sum (t1 : 1 ≤ M 24 2) (t6 : M 24 2 ≤ 6) {i n : Nat} (hi : i ≤ 400) (h : rdR M M' G rg i n) : M_X11_sumOf (M', G) 124 (i : Int) = some (smS M i) := by
  obtain ⟨hq, ⟨hG, hp, hB, h0, h1, h3, hc, he⟩, hS, hs⟩ := h
  have := X11_sumOf_ok (n := (i : Int)) hG hB (pr124.p22 hp) hS.2.2.2.1 h3 (by omega) t6 (by omega) (by omega)
  rw [this, h0, h1]
  unfold smS
  rw [smT_cg (M 24 2).toNat (fun t q ht hq => ?_)]
  exact hS.2.2.2.2.1 i t q (Or.inl (Nat.le_refl _)) (by omega) (by omega) (by omega) (by omega)
theorem rdR_same (a1 : 2 ≤ M 24 0) (a2 : M 24 0 ≤ 6) (b1 : 2 ≤ M 24 1) (b2 : M 24 1 ≤ 6) (t1 : 1 ≤ M 24 2) (t6 : M 24 2 ≤ 6) {i n j k : Nat} (hi : i ≤ 400) (hj : j ≤ i) (hk : k ≤ i) (h : rdR M M' G rg i n) : Ok (M_X11_isSame (M', G) 124 (j : Int) (k : Int)) (fun z => z = 1 ∧ bhM M 24 j = bhM M 24 k ∨ z = 0 ∧ bhM M 24 j ≠ bhM M 24 k) := by
  obtain ⟨hq, ⟨hG, hp, hB, h0, h1, h3, hc, he⟩, hS, hs⟩ := h
  have hm := mul_b a1 a2 b1 b2
  refine (X11_isSame_ok (n := (j : Int)) (n' := (k : Int)) hG hB (pr124.p22 hp) hS.2.2.2.1 h3 (by omega) t6 (by omega) (by omega) (by omega) (by omega)).mono ?_
  have hv : ∀ (l : Nat) (t q : Nat), l ≤ i → (t : Int) < M 24 2 → (q : Int) < M 24 0 * M 24 1 → M' 129 (216 * l + 36 * t + q) = bhM M 24 l (36 * t + inn (M 24 0) q) := fun l t q hl ht hq => hS.2.2.2.2.1 l t q (Or.inl hl) (by omega) ht (by omega) hq
  rw [h0, h1]
  rintro z (⟨rfl, hz⟩ | ⟨rfl, hz⟩)
  · refine Or.inl ⟨rfl, ?_⟩
    funext x
    by_cases c : 0 ≤ x ∧ x < 36 * M 24 2 ∧ x % 36 % 6 < M 24 0 ∧ x % 36 / 6 < M 24 1
    · have hin : inV (M 24 0) (M 24 1) (x % 36) := by unfold inV; omega
      have hb := idx_b a1 a2 b2 hin
      have e1 := hz (x / 36).toNat (idx (M 24 0) (x % 36)).toNat (by omega) (by omega)
      rw [hv j _ _ hj (by omega) (by omega), hv k _ _ hk (by omega) (by omega)] at e1
      rw [show ((idx (M 24 0) (x % 36)).toNat : Int) = idx (M 24 0) (x % 36) by omega, inn_idx a1 a2 hin, show 36 * (((x / 36).toNat : Nat) : Int) + x % 36 = x by omega] at e1
      exact e1
    · show bh _ _ _ _ _ _ _ _ _ = bh _ _ _ _ _ _ _ _ _
      rw [bh_out c, bh_out c]
  · refine Or.inr ⟨rfl, fun e => hz (fun t q ht hq => ?_)⟩
    rw [hv j t q hj ht hq, hv k t q hk ht hq, e]
theorem X11_round_w120_ok (a1 : 2 ≤ M 24 0) (a2 : M 24 0 ≤ 6) (b1 : 2 ≤ M 24 1) (b2 : M 24 1 ≤ 6) (t1 : 1 ≤ M 24 2) (t6 : M 24 2 ≤ 6) {z : Int} (hz : z = 0 ∨ z = 1) {k : Nat} (hk : k ≤ 400) (h : rdR M M' G rg k (k + 1)) (hno : ∀ i j, i < j → j < k → bhM M 24 i ≠ bhM M 24 j) : Ok (M_X11_round_w120 FU (M', G) 124 z (k : Int) 0) (lo (fun s => s = ((M', G), ((k + 1 : Nat) : Int)) ∧ ∀ i, i < k → bhM M 24 i ≠ bhM M 24 k) (lo (fun _ => False) (fun q => ∃ a, isRho (bhM M 24) a k ∧ rP M G (if z = 0 then (k : Int) - a else a) 0 q))) := by
  have hG := h.2.1.1
  have hp124 := h.2.1.2.1
  have hs := h.2.2.2
  have k124 := gk_124 hG
  have k135 := gk_135 hG
  have l135 := gl_135 hG
  have p30 := pr124.p30 hp124
  unfold M_X11_round_w120
  have hlo : Ok (wh (S := Int) (T := (Unit ⊕ (Hp × Int))) (fun a => M_X11_round_b120 (M', G) 124 z (k : Int) a) FU 0) (lo (fun _ => ∀ i, i < k → bhM M 24 i ≠ bhM M 24 k) (fun q => ∃ a, isRho (bhM M 24) a k ∧ rP M G (if z = 0 then (k : Int) - a else a) 0 q)) := by
    refine wh_for (fun i s => s = (i : Int) ∧ ∀ j, j < i → bhM M 24 j ≠ bhM M 24 k) _ k (by omega) ⟨rfl, fun j hj => by omega⟩ ?_ ?_
    · rintro i _ hi ⟨rfl, ha⟩
      have hsi := hs i (by omega)
      have hsk := hs k (by omega)
      unfold M_X11_round_b120
      repeat' (with_reducible first | refine k_gf (by first | assumption | omega) (by first | assumption | ((try simp (disch := omega) only [sr_s, sr_a, sr_sr, u1_s, u1_k, p30, hsi, hsk]); exact rfl)) ?_ | refine k_gr (by first | assumption | omega) (by first | assumption | ((try simp (disch := omega) only [sr_s, sr_a, sr_sr, u1_s, u1_k, p30, hsi, hsk]); exact rfl)) (by omega) ?_ | refine k_ald (by first | assumption | omega) (by first | assumption | exact rfl) (by omega) (by omega) (by omega) (by first | assumption | ((try simp (disch := omega) only [sr_s, sr_a, sr_sr, u1_s, u1_k, p30, hsi, hsk]); exact rfl)) ?_ | refine k_ifT (by first | (simp (disch := omega) only [w32_id]; first | done | omega) | omega) ?_ | refine k_ifF (by first | (simp (disch := omega) only [w32_id]; first | done | omega) | omega) ?_ | refine k_pf (by first | assumption | omega) (by (try simp (disch := omega) only [sr_s, sr_a, sr_sr, u1_u1, p30, hsi, hsk]); exact rfl) ?_ | refine k_ast (by first | assumption | omega) (by first | assumption | exact rfl) (by omega) (by omega) (by omega) (by (try simp (disch := omega) only [sr_s, sr_a, sr_sr, u1_u1, p30, hsi, hsk]); exact rfl) ?_ | refine k_irm (by omega) (by omega) (by omega) (by omega) ?_ | refine k_idv (by omega) (by omega) (by omega) (by omega) ?_ | refine k_tk (by first | assumption | omega) ?_ | refine k_rp (by omega) ?_ | refine k_aldR (by first | assumption | omega) (by first | assumption | exact rfl) (by omega) (by omega) (by omega) (by first | assumption | ((try simp (disch := omega) only [sr_s, sr_a, sr_sr, u1_s, u1_k, p30, hsi, hsk]); exact rfl)) (by omega) ?_ | refine k_astR (by first | assumption | omega) (by first | assumption | exact rfl) (by omega) (by omega) (by omega) (by first | assumption | omega) (by (try simp (disch := omega) only [sr_s, sr_a, sr_sr, u1_u1, p30, hsi, hsk]); exact rfl) ?_ | refine k_pz (by first | assumption | omega) (by omega) (by (try simp (disch := omega) only [sr_s, sr_a, sr_sr, u1_u1, p30, hsi, hsk]); exact rfl) ?_ | refine k_alen (by first | assumption | omega) (by first | assumption | exact rfl) ?_ | refine k_cpy (by first | assumption | omega) (by first | assumption | omega) (by first | assumption | exact rfl) (by first | assumption | exact rfl) (by omega) (by omega) (by omega) (by omega) (by omega) (by omega) (by omega) (by omega) (by (try simp (disch := omega) only [sr_s, sr_a, sr_sr, u1_u1, p30, hsi, hsk]); exact rfl) ?_)
      by_cases y : w32 (lcmp (smS M i) (smS M k)) = 0
      · refine k_ifT y ?_
        refine Ok.bind (rdR_same a1 a2 b1 b2 t1 t6 hk (Nat.le_of_lt hi) (Nat.le_refl k) h) ?_
        rintro x (⟨rfl, hx⟩ | ⟨rfl, hx⟩)
        · refine k_ifF (by decide) ?_
          have hr : isRho (bhM M 24) i k := ⟨hi, hx, hno⟩
          have h2 := rQ.tr (M := M') h.2.2.1.2.2.2.1 0
          rcases hz with rfl | rfl
          · refine k_ifT (by decide) (k_bd (X11_good_ok hG) (Ok.ret ⟨i, hr, _, ?_, h.1.trans h2.1, h2.2⟩))
            rw [if_pos rfl]
          · refine k_ifF (by decide) (k_bd (X11_good_ok hG) (Ok.ret ⟨i, hr, _, ?_, h.1.trans h2.1, h2.2⟩))
            rw [if_neg (by decide)]
        · refine k_ifT (by decide) ?_
          unfold M_X11_round_p166
          refine Ok.ret ⟨by omega, fun j hj => ?_⟩
          by_cases y2 : j = i
          · subst y2; exact hx
          · exact ha j (by omega)
      · refine k_ifF y ?_
        unfold M_X11_round_p166
        refine Ok.ret ⟨by omega, fun j hj => ?_⟩
        by_cases y2 : j = i
        · subst y2
          intro e
          refine y (lcmp_eq0 ?_)
          unfold smS
          rw [e]
        · exact ha j (by omega)
    · rintro _ ⟨rfl, ha⟩
      unfold M_X11_round_b120
      repeat' (with_reducible first | refine k_gf (by first | assumption | omega) (by first | assumption | ((try simp (disch := omega) only [sr_s, sr_a, sr_sr, u1_s, u1_k]); exact rfl)) ?_ | refine k_gr (by first | assumption | omega) (by first | assumption | ((try simp (disch := omega) only [sr_s, sr_a, sr_sr, u1_s, u1_k]); exact rfl)) (by omega) ?_ | refine k_ald (by first | assumption | omega) (by first | assumption | exact rfl) (by omega) (by omega) (by omega) (by first | assumption | ((try simp (disch := omega) only [sr_s, sr_a, sr_sr, u1_s, u1_k]); exact rfl)) ?_ | refine k_ifT (by first | (simp (disch := omega) only [w32_id]; first | done | omega) | omega) ?_ | refine k_ifF (by first | (simp (disch := omega) only [w32_id]; first | done | omega) | omega) ?_ | refine k_pf (by first | assumption | omega) (by (try simp (disch := omega) only [sr_s, sr_a, sr_sr, u1_u1]); exact rfl) ?_ | refine k_ast (by first | assumption | omega) (by first | assumption | exact rfl) (by omega) (by omega) (by omega) (by (try simp (disch := omega) only [sr_s, sr_a, sr_sr, u1_u1]); exact rfl) ?_ | refine k_irm (by omega) (by omega) (by omega) (by omega) ?_ | refine k_idv (by omega) (by omega) (by omega) (by omega) ?_ | refine k_tk (by first | assumption | omega) ?_ | refine k_rp (by omega) ?_ | refine k_aldR (by first | assumption | omega) (by first | assumption | exact rfl) (by omega) (by omega) (by omega) (by first | assumption | ((try simp (disch := omega) only [sr_s, sr_a, sr_sr, u1_s, u1_k]); exact rfl)) (by omega) ?_ | refine k_astR (by first | assumption | omega) (by first | assumption | exact rfl) (by omega) (by omega) (by omega) (by first | assumption | omega) (by (try simp (disch := omega) only [sr_s, sr_a, sr_sr, u1_u1]); exact rfl) ?_ | refine k_pz (by first | assumption | omega) (by omega) (by (try simp (disch := omega) only [sr_s, sr_a, sr_sr, u1_u1]); exact rfl) ?_ | refine k_alen (by first | assumption | omega) (by first | assumption | exact rfl) ?_ | refine k_cpy (by first | assumption | omega) (by first | assumption | omega) (by first | assumption | exact rfl) (by first | assumption | exact rfl) (by omega) (by omega) (by omega) (by omega) (by omega) (by omega) (by omega) (by omega) (by (try simp (disch := omega) only [sr_s, sr_a, sr_sr, u1_u1]); exact rfl) ?_)
      exact Ok.ret ha
  refine Ok.bind hlo ?_
  intro x hx
  cases x with
  | inl u =>
    have hx : ∀ i, i < k → bhM M 24 i ≠ bhM M 24 k := hx
    rw [exi_l]
    unfold M_X11_round_p172
    exact Ok.ret ⟨rfl, hx⟩
  | inr q =>
    rw [exi_r]
    exact Ok.ret hx
theorem X11_round_go {z v : Int} (h0 : Inv0 M G td r) (hR : isR M G td rg) (hz : z = 0 ∨ z = 1) (hv : roP (bhM M 24) z v) : Ok (M_X11_round_p76 (M, G) 124 z) (rP M G v 0) := by
  have hG := h0.1.1
  have hp124 := h0.2.2.1.1
  have hwf := hR.cl.2.2.2.2.1
  have hwf6 := wfW6 hwf
  obtain ⟨a1, a2, b1, b2, t1, t6, -⟩ := hwf
  obtain ⟨sC, sS, sQ⟩ := sta_C h0 hR
  have k124 := gk_124 hG
  have k135 := gk_135 hG
  have l135 := gl_135 hG
  unfold M_X11_round_p76
  refine k_eq (X11_starts_ok hG hp124) ?_
  have h1 : rdR M (staM M) G rg 0 0 := ⟨sQ, sC, sS, fun j hj => by omega⟩
  have hsu := rdR_sum t1 t6 (by omega) h1
  have p30 := pr124.p30 sC.2.1
  repeat' (with_reducible first | refine k_gf (by first | assumption | omega) (by first | assumption | ((try simp (disch := omega) only [sr_s, sr_a, sr_sr, u1_s, u1_k, p30]); exact rfl)) ?_ | refine k_gr (by first | assumption | omega) (by first | assumption | ((try simp (disch := omega) only [sr_s, sr_a, sr_sr, u1_s, u1_k, p30]); exact rfl)) (by omega) ?_ | refine k_ald (by first | assumption | omega) (by first | assumption | exact rfl) (by omega) (by omega) (by omega) (by first | assumption | ((try simp (disch := omega) only [sr_s, sr_a, sr_sr, u1_s, u1_k, p30]); exact rfl)) ?_ | refine k_eq (hsu) ?_ | refine k_ifT (by first | (simp (disch := omega) only [w32_id]; first | done | omega) | omega) ?_ | refine k_ifF (by first | (simp (disch := omega) only [w32_id]; first | done | omega) | omega) ?_ | refine k_pf (by first | assumption | omega) (by (try simp (disch := omega) only [sr_s, sr_a, sr_sr, u1_u1, p30]); exact rfl) ?_ | refine k_ast (by first | assumption | omega) (by first | assumption | exact rfl) (by omega) (by omega) (by omega) (by (try simp (disch := omega) only [sr_s, sr_a, sr_sr, u1_u1, p30]); exact rfl) ?_ | refine k_irm (by omega) (by omega) (by omega) (by omega) ?_ | refine k_idv (by omega) (by omega) (by omega) (by omega) ?_ | refine k_tk (by first | assumption | omega) ?_ | refine k_rp (by omega) ?_ | refine k_aldR (by first | assumption | omega) (by first | assumption | exact rfl) (by omega) (by omega) (by omega) (by first | assumption | ((try simp (disch := omega) only [sr_s, sr_a, sr_sr, u1_s, u1_k, p30]); exact rfl)) (by omega) ?_ | refine k_astR (by first | assumption | omega) (by first | assumption | exact rfl) (by omega) (by omega) (by omega) (by first | assumption | omega) (by (try simp (disch := omega) only [sr_s, sr_a, sr_sr, u1_u1, p30]); exact rfl) ?_ | refine k_pz (by first | assumption | omega) (by omega) (by (try simp (disch := omega) only [sr_s, sr_a, sr_sr, u1_u1, p30]); exact rfl) ?_ | refine k_alen (by first | assumption | omega) (by first | assumption | exact rfl) ?_ | refine k_cpy (by first | assumption | omega) (by first | assumption | omega) (by first | assumption | exact rfl) (by first | assumption | exact rfl) (by omega) (by omega) (by omega) (by omega) (by omega) (by omega) (by omega) (by omega) (by (try simp (disch := omega) only [sr_s, sr_a, sr_sr, u1_u1, p30]); exact rfl) ?_)
  have h2 := rdR_put h1
  unfold M_X11_round_w93
  have hlo : Ok (wh (S := (Hp × Int)) (T := (Hp ⊕ (Hp × Int))) (fun a => M_X11_round_b93 a.1 124 z a.2) FU ((sr (staM M) 135 (u1 (staM M 135) 0 (smS M 0)), G), 1)) (lo (fun h => ∃ M1, h = (M1, G) ∧ rQ M M1 ∧ ∀ i j, i < j → j ≤ 400 → bhM M 24 i ≠ bhM M 24 j) (fun q => ∃ a k, isRho (bhM M 24) a k ∧ k ≤ 400 ∧ rP M G (if z = 0 then (k : Int) - a else a) 0 q)) := by
    refine wh_for (fun i s => ∃ M1, s = ((M1, G), ((i + 1 : Nat) : Int)) ∧ rdR M M1 G rg i (i + 1) ∧ ∀ i' j, i' < j → j ≤ i → bhM M 24 i' ≠ bhM M 24 j) _ 400 (by omega) ⟨_, rfl, h2, fun i' j h1 h2 => by omega⟩ ?_ ?_
    · rintro i _ hi ⟨M1, rfl, hS1, hno⟩
      unfold M_X11_round_b93
      dsimp only
      refine k_ifF (by rw [w32_id (by omega) (by omega)]; omega) ?_
      rw [show ((i + 1 : Nat) : Int) - 1 = (i : Int) by omega]
      refine Ok.bind (rdR_step hwf6 hi hS1) ?_
      rintro _ ⟨M2, rfl, hS2⟩
      have p30 := pr124.p30 hS2.2.1.2.1
      have hsu := rdR_sum t1 t6 (by omega) hS2
      repeat' (with_reducible first | refine k_gf (by first | assumption | omega) (by first | assumption | ((try simp (disch := omega) only [sr_s, sr_a, sr_sr, u1_s, u1_k, p30]); exact rfl)) ?_ | refine k_gr (by first | assumption | omega) (by first | assumption | ((try simp (disch := omega) only [sr_s, sr_a, sr_sr, u1_s, u1_k, p30]); exact rfl)) (by omega) ?_ | refine k_ald (by first | assumption | omega) (by first | assumption | exact rfl) (by omega) (by omega) (by omega) (by first | assumption | ((try simp (disch := omega) only [sr_s, sr_a, sr_sr, u1_s, u1_k, p30]); exact rfl)) ?_ | refine k_eq (hsu) ?_ | refine k_ifT (by first | (simp (disch := omega) only [w32_id]; first | done | omega) | omega) ?_ | refine k_ifF (by first | (simp (disch := omega) only [w32_id]; first | done | omega) | omega) ?_ | refine k_pf (by first | assumption | omega) (by (try simp (disch := omega) only [sr_s, sr_a, sr_sr, u1_u1, p30]); exact rfl) ?_ | refine k_ast (by first | assumption | omega) (by first | assumption | exact rfl) (by omega) (by omega) (by omega) (by (try simp (disch := omega) only [sr_s, sr_a, sr_sr, u1_u1, p30]); exact rfl) ?_ | refine k_irm (by omega) (by omega) (by omega) (by omega) ?_ | refine k_idv (by omega) (by omega) (by omega) (by omega) ?_ | refine k_tk (by first | assumption | omega) ?_ | refine k_rp (by omega) ?_ | refine k_aldR (by first | assumption | omega) (by first | assumption | exact rfl) (by omega) (by omega) (by omega) (by first | assumption | ((try simp (disch := omega) only [sr_s, sr_a, sr_sr, u1_s, u1_k, p30]); exact rfl)) (by omega) ?_ | refine k_astR (by first | assumption | omega) (by first | assumption | exact rfl) (by omega) (by omega) (by omega) (by first | assumption | omega) (by (try simp (disch := omega) only [sr_s, sr_a, sr_sr, u1_u1, p30]); exact rfl) ?_ | refine k_pz (by first | assumption | omega) (by omega) (by (try simp (disch := omega) only [sr_s, sr_a, sr_sr, u1_u1, p30]); exact rfl) ?_ | refine k_alen (by first | assumption | omega) (by first | assumption | exact rfl) ?_ | refine k_cpy (by first | assumption | omega) (by first | assumption | omega) (by first | assumption | exact rfl) (by first | assumption | exact rfl) (by omega) (by omega) (by omega) (by omega) (by omega) (by omega) (by omega) (by omega) (by (try simp (disch := omega) only [sr_s, sr_a, sr_sr, u1_u1, p30]); exact rfl) ?_)
      have hS3 := rdR_put hS2
      refine (X11_round_w120_ok a1 a2 b1 b2 t1 t6 hz (by omega) hS3 (fun x y h1 h2 => hno x y h1 (by omega))).mono ?_
      intro x hx
      cases x with
      | inl s =>
        obtain ⟨rfl, hn2⟩ := hx
        refine ⟨_, rfl, hS3, fun x y h1 h2 => ?_⟩
        by_cases e : y = i + 1
        · subst e; exact hn2 x h1
        · exact hno x y h1 (by omega)
      | inr s =>
        cases s with
        | inl s => exact absurd hx id
        | inr q =>
          obtain ⟨a, hr, hq⟩ := hx
          exact ⟨a, i + 1, hr, by omega, hq⟩
    · rintro _ ⟨M1, rfl, hS1, hno⟩
      unfold M_X11_round_b93
      dsimp only
      refine k_ifT (by decide) (Ok.ret ⟨M1, rfl, hS1.1, hno⟩)
  refine Ok.bind hlo ?_
  intro x hx
  cases x with
  | inl s =>
    obtain ⟨M1, rfl, hq, hno⟩ := hx
    rw [exi_l]
    unfold M_X11_round_p178
    have : v = -2 := roP_unq hv (Or.inr ⟨fun ⟨a, b, hr, hb⟩ => hno a b hr.1 hb hr.2.1, rfl⟩)
    subst this
    exact e_good hG hq
  | inr q =>
    obtain ⟨a, k, hr, hk, hq⟩ := hx
    rw [exi_r]
    have : v = if z = 0 then (k : Int) - a else a := roP_unq hv (Or.inl ⟨a, k, hr, hk, rfl⟩)
    rw [this]
    exact Ok.ret hq
end R9
