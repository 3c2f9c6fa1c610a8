/-! the class's Chain: which places matter -/
def srcC (wd hi s e1 e2 e3 p dr : Int) : Int := if s = 7 ∨ s = 6 then p else srcV wd hi s e1 e2 e3 (fun _ => 0) p dr
abbrev srcT (wd hi : Int) (er : Int → Int) (t p dr : Int) : Int := srcC wd hi (er (4 * t)) (er (4 * t + 1)) (er (4 * t + 2)) (er (4 * t + 3)) p dr
theorem srcV_m {wd hi s e1 e2 e3 p dr : Int} {m m' : Int → Int} (h : ¬ (s = 7 ∨ s = 6)) : srcV wd hi s e1 e2 e3 m p dr = srcV wd hi s e1 e2 e3 m' p dr := by
  unfold srcV
  simp (disch := omega) only [if_neg]
theorem srcC_in {wd hi mk s e1 e2 e3 p dr : Int} (a1 : 2 ≤ wd) (a2 : wd ≤ 6) (b1 : 2 ≤ hi) (b2 : hi ≤ 6) (he : errB wd hi mk s e1 e2 e3) (hp : inV wd hi p) : srcC wd hi s e1 e2 e3 p dr = -1 ∨ inV wd hi (srcC wd hi s e1 e2 e3 p dr) := by
  unfold srcC
  split
  · exact Or.inr hp
  · exact srcV_in a1 a2 b1 b2 he hp
/-- all of a laid chain but its wants -/
def chX (M : Int → Int → Int) (G : GG) (w mk n b t : Int) : Prop := gAll G ∧ chI M ∧ wOK M G w mk ∧ chL M w (M w 2) n b t ∧ chD M (M w 0) (M w 1) (M w 2) (M w 6) b n (M (w + 3)) n.toNat 0
theorem chX.cg {M M' : Int → Int → Int} {G : GG} {w mk n b t : Int} (h : chX M G w mk n b t) (f : ∀ a, a ≠ 103 → a ≠ 104 → a ≠ 105 → M' a = M a) : chX M' G w mk n b t := by
  obtain ⟨hG, hI, hW, hL, hD⟩ := h
  have h99 := hW.2.2.2
  have g0 := hW.1.1
  refine ⟨hG, ?_, hW.fr (fun a ha => f a (by omega) (by omega) (by omega)), ?_, ?_⟩
  · unfold chI at *; rw [f 99 (by omega) (by omega) (by omega), f 101 (by omega) (by omega) (by omega), f 102 (by omega) (by omega) (by omega)]; exact hI
  · unfold chL at *; rw [f 99 (by omega) (by omega) (by omega), f 100 (by omega) (by omega) (by omega), f w (by omega) (by omega) (by omega), f (w + 2) (by omega) (by omega) (by omega)]; exact hL
  · unfold chD at *; rw [f 101 (by omega) (by omega) (by omega), f 100 (by omega) (by omega) (by omega), f w (by omega) (by omega) (by omega), f (w + 3) (by omega) (by omega) (by omega)]; exact hD
section CC
variable {M : Int → Int → Int} {G : GG} {w n b t s p mk : Int}
theorem X0_source_ok (hX : chX M G w mk n b t) (s0 : b < s) (s1 : s ≤ n) (hp : inV (M w 0) (M w 1) p) : M_X0_source (M, G) 99 s p = some (srcT (M w 0) (M w 1) (M (w + 3)) (M 100 s) p (M 101 s)) := by
  obtain ⟨hG, ⟨hp99, hd, hmp⟩, ⟨hg, hm, ⟨a1, a2, b1, b2, x1, x6, k2, k6, hco, her, het, hcz, y0, y1, hce⟩, hw99⟩, ⟨l0, l1, l2, b0, bn, n6, ln, lt, lc, lb⟩, hD⟩ := hX
  have k99 := gk_99 hG
  have k100 := gk_100 hG
  have l100 := gl_100 hG
  have k101 := gk_101 hG
  have l101 := gl_101 hG
  have k102 := gk_102 hG
  have l102 := gl_102 hG
  have p3 := pr99.p3 hp99
  have p4 := pr99.p4 hp99
  have p5 := pr99.p5 hp99
  have hg' := hg
  have hm' := hm
  obtain ⟨g0, g1, g2, g3, g4, g5, g6, g7⟩ := hg
  obtain ⟨m3, m4, m5⟩ := hm
  have hwe : ∀ i, w32 (M (w + 3) i) = M (w + 3) i := fun i => w32_id (by have := her i; omega) (by have := her i; omega)
  have ht := lt s (by omega) s1
  have hds := hd s
  refine Ok.eq ?_
  unfold M_X0_source srcT srcC
  repeat' (with_reducible first | refine k_gf (by first | assumption | omega) (by first | assumption | ((try simp (disch := omega) only [sr_s, sr_a, sr_sr, u1_s, u1_k, l0, m5, p3, p4, p5]); exact rfl)) ?_ | refine k_gr (by first | assumption | omega) (by first | assumption | ((try simp (disch := omega) only [sr_s, sr_a, sr_sr, u1_s, u1_k, l0, m5, p3, p4, p5]); exact rfl)) (by omega) ?_ | refine k_ald (by first | assumption | omega) (by first | assumption | exact rfl) (by omega) (by omega) (by omega) (by first | assumption | ((try simp (disch := omega) only [sr_s, sr_a, sr_sr, u1_s, u1_k, l0, m5, p3, p4, p5]); exact rfl)) ?_ | refine k_ifT (by first | (simp (disch := omega) only [w32_id, hwe]; first | done | omega) | omega) ?_ | refine k_ifF (by first | (simp (disch := omega) only [w32_id, hwe]; first | done | omega) | omega) ?_ | refine k_pf (by first | assumption | omega) (by (try simp (disch := omega) only [sr_s, sr_a, sr_sr, u1_u1, l0, m5, p3, p4, p5]); exact rfl) ?_ | refine k_ast (by first | assumption | omega) (by first | assumption | exact rfl) (by omega) (by omega) (by omega) (by (try simp (disch := omega) only [sr_s, sr_a, sr_sr, u1_u1, l0, m5, p3, p4, p5]); exact rfl) ?_ | refine k_irm (by omega) (by omega) (by omega) (by omega) ?_ | refine k_idv (by omega) (by omega) (by omega) (by omega) ?_ | refine k_tk (by first | assumption | omega) ?_ | refine k_rp (by omega) ?_ | refine k_aldR (by first | assumption | omega) (by first | assumption | exact rfl) (by omega) (by omega) (by omega) (by first | assumption | ((try simp (disch := omega) only [sr_s, sr_a, sr_sr, u1_s, u1_k, l0, m5, p3, p4, p5]); exact rfl)) (by omega) ?_ | refine k_astR (by first | assumption | omega) (by first | assumption | exact rfl) (by omega) (by omega) (by omega) (by first | assumption | omega) (by (try simp (disch := omega) only [sr_s, sr_a, sr_sr, u1_u1, l0, m5, p3, p4, p5]); exact rfl) ?_ | refine k_pz (by first | assumption | omega) (by omega) (by (try simp (disch := omega) only [sr_s, sr_a, sr_sr, u1_u1, l0, m5, p3, p4, p5]); exact rfl) ?_ | refine k_alen (by first | assumption | omega) (by first | assumption | exact rfl) ?_ | refine k_cpy (by first | assumption | omega) (by first | assumption | omega) (by first | assumption | exact rfl) (by first | assumption | exact rfl) (by omega) (by omega) (by omega) (by omega) (by omega) (by omega) (by omega) (by omega) (by (try simp (disch := omega) only [sr_s, sr_a, sr_sr, u1_u1, l0, m5, p3, p4, p5]); exact rfl) ?_ | refine k_if (by (try simp (disch := omega) only [w32_id, hwe]); exact Iff.rfl) (fun c => ?_) (fun c => ?_))
  · rw [if_pos (Or.inl (by assumption))]; exact Ok.ret rfl
  · rw [if_pos (Or.inr (by assumption))]; exact Ok.ret rfl
  · rw [if_neg (by omega)]
    refine k_eq (X8_source_ok (mk := mk) hg' hm' a1 a2 b1 b2 (by omega) (by omega) (het _ (by omega) (by omega)) hp k102 (by omega) (by omega) (by omega) hmp (by omega) (by omega)) (Ok.ret ?_)
    exact srcV_m (by omega)
theorem X0_wantAround_ok (hX : chX M G w mk n b t) (s0 : 0 ≤ s) (s1 : s ≤ 60) (hp : inV (M w 0) (M w 1) p) (hw : wS M (M w 0) (M w 1) s) : Ok (M_X0_wantAround (M, G) 99 s p) (fun h => ∃ M1, h = (M1, G) ∧ wF M M1 s ∧ wS M1 (M w 0) (M w 1) s ∧ ∀ d, 0 ≤ d → d < 4 → bsV (M w 0) (M w 1) p d ≠ -1 → bt (M1 105 s) (bsV (M w 0) (M w 1) p d) = true) := by
  have hX' := hX
  obtain ⟨hG, ⟨hp99, hd, hmp⟩, ⟨hg, hm, ⟨a1, a2, b1, b2, x1, x6, k2, k6, hco, her, het, hcz, y0, y1, hce⟩, hw99⟩, ⟨l0, l1, l2, b0, bn, n6, ln, lt, lc, lb⟩, hD⟩ := hX
  have k99 := gk_99 hG
  have hg0 := hg.1
  have hp36 : 0 ≤ p ∧ p < 36 := by unfold inV at hp; omega
  unfold M_X0_wantAround M_X0_wantAround_w2 M_X0_wantAround_p37
  refine k_tk k99 ?_
  refine Ok.bind (wh_for (fun i st => ∃ M1, st = ((M1, G), (i : Int)) ∧ wF M M1 s ∧ wS M1 (M w 0) (M w 1) s ∧ ∀ d, 0 ≤ d → d < (i : Int) → bsV (M w 0) (M w 1) p d ≠ -1 → bt (M1 105 s) (bsV (M w 0) (M w 1) p d) = true) (fun h => ∃ M1, h = (M1, G) ∧ wF M M1 s ∧ wS M1 (M w 0) (M w 1) s ∧ ∀ d, 0 ≤ d → d < 4 → bsV (M w 0) (M w 1) p d ≠ -1 → bt (M1 105 s) (bsV (M w 0) (M w 1) p d) = true) 4 (by omega) ⟨M, rfl, wF.refl M s, hw, fun d x y => by omega⟩ ?_ ?_) (fun h hh => Ok.ret hh)
  · rintro i _ hi ⟨M1, rfl, hF, hw1, hb⟩
    dsimp only
    have hX1 := hX'.cg hF.1
    have f99 : M1 99 = M 99 := hF.1 99 (by omega) (by omega) (by omega)
    have fw : M1 w = M w := hF.1 w (by omega) (by omega) (by omega)
    unfold M_X0_wantAround_b2 M_X0_wantAround_p31
    have hk : M_X8_beside (M1, G) w p i = some (bsV (M w 0) (M w 1) p i) := by
      rw [X8_beside_ok hg (by rw [fw]; exact a1) (by rw [fw]; exact a2) (by rw [fw]; exact b1) (by rw [fw]; exact b2) hp36.1 hp36.2 (by omega) (by omega), fw]
      rfl
    have hbi := bsV_in (d := i) a2 hp
    have hbb : -1 ≤ bsV (M w 0) (M w 1) p i ∧ bsV (M w 0) (M w 1) p i < 36 := by unfold inV at hbi; omega
    repeat' (with_reducible first | refine k_gf (by first | assumption | omega) (by first | assumption | ((try simp (disch := omega) only [sr_s, sr_a, sr_sr, u1_s, u1_k, l0, f99]); exact rfl)) ?_ | refine k_gr (by first | assumption | omega) (by first | assumption | ((try simp (disch := omega) only [sr_s, sr_a, sr_sr, u1_s, u1_k, l0, f99]); exact rfl)) (by omega) ?_ | refine k_ald (by first | assumption | omega) (by first | assumption | exact rfl) (by omega) (by omega) (by omega) (by first | assumption | ((try simp (disch := omega) only [sr_s, sr_a, sr_sr, u1_s, u1_k, l0, f99]); exact rfl)) ?_ | refine k_eq (hk) ?_ | refine k_ifT (by first | (simp (disch := omega) only [w32_id]; first | done | omega) | omega) ?_ | refine k_ifF (by first | (simp (disch := omega) only [w32_id]; first | done | omega) | omega) ?_ | refine k_pf (by first | assumption | omega) (by (try simp (disch := omega) only [sr_s, sr_a, sr_sr, u1_u1, l0, f99]); exact rfl) ?_ | refine k_ast (by first | assumption | omega) (by first | assumption | exact rfl) (by omega) (by omega) (by omega) (by (try simp (disch := omega) only [sr_s, sr_a, sr_sr, u1_u1, l0, f99]); exact rfl) ?_ | refine k_irm (by omega) (by omega) (by omega) (by omega) ?_ | refine k_idv (by omega) (by omega) (by omega) (by omega) ?_ | refine k_tk (by first | assumption | omega) ?_ | refine k_rp (by omega) ?_ | refine k_aldR (by first | assumption | omega) (by first | assumption | exact rfl) (by omega) (by omega) (by omega) (by first | assumption | ((try simp (disch := omega) only [sr_s, sr_a, sr_sr, u1_s, u1_k, l0, f99]); exact rfl)) (by omega) ?_ | refine k_astR (by first | assumption | omega) (by first | assumption | exact rfl) (by omega) (by omega) (by omega) (by first | assumption | omega) (by (try simp (disch := omega) only [sr_s, sr_a, sr_sr, u1_u1, l0, f99]); exact rfl) ?_ | refine k_pz (by first | assumption | omega) (by omega) (by (try simp (disch := omega) only [sr_s, sr_a, sr_sr, u1_u1, l0, f99]); exact rfl) ?_ | refine k_alen (by first | assumption | omega) (by first | assumption | exact rfl) ?_ | refine k_cpy (by first | assumption | omega) (by first | assumption | omega) (by first | assumption | exact rfl) (by first | assumption | exact rfl) (by omega) (by omega) (by omega) (by omega) (by omega) (by omega) (by omega) (by omega) (by (try simp (disch := omega) only [sr_s, sr_a, sr_sr, u1_u1, l0, f99]); exact rfl) ?_ | refine k_if (by (try simp (disch := omega) only [w32_id]); exact Iff.rfl) (fun c => ?_) (fun c => ?_))
    · have e : bsV (M w 0) (M w 1) p i = -1 := by assumption
      refine Ok.ret ⟨M1, rfl, hF, hw1, fun d x y z => ?_⟩
      by_cases ed : d = i
      · rw [ed] at z; exact absurd e z
      · exact hb d x (by omega) z
    · have e : ¬ bsV (M w 0) (M w 1) p i = -1 := by assumption
      refine Ok.bind (X0_want_ok (wd := M w 0) (hi := M w 1) hG (by rw [f99]; exact hp99) s0 s1 (hbi.resolve_left e) a2 b2 hw1) ?_
      rintro _ ⟨M2, rfl, hF2, hw2, hb2⟩
      refine Ok.ret ⟨M2, rfl, hF.trans hF2, hw2, fun d x y z => ?_⟩
      by_cases ed : d = i
      · rw [ed]; exact hb2
      · exact hF2.2.2 _ (hb d x (by omega) z)
  · rintro _ ⟨M1, rfl, hF, hw1, hb⟩
    dsimp only
    unfold M_X0_wantAround_b2
    repeat' (with_reducible first | refine k_gf (by first | assumption | omega) (by first | assumption | ((try simp (disch := omega) only [sr_s, sr_a, sr_sr, u1_s, u1_k]); exact rfl)) ?_ | refine k_gr (by first | assumption | omega) (by first | assumption | ((try simp (disch := omega) only [sr_s, sr_a, sr_sr, u1_s, u1_k]); exact rfl)) (by omega) ?_ | refine k_ald (by first | assumption | omega) (by first | assumption | exact rfl) (by omega) (by omega) (by omega) (by first | assumption | ((try simp (disch := omega) only [sr_s, sr_a, sr_sr, u1_s, u1_k]); exact rfl)) ?_ | refine k_ifT (by first | (simp (disch := omega) only [w32_id]; first | done | omega) | omega) ?_ | refine k_ifF (by first | (simp (disch := omega) only [w32_id]; first | done | omega) | omega) ?_ | refine k_pf (by first | assumption | omega) (by (try simp (disch := omega) only [sr_s, sr_a, sr_sr, u1_u1]); exact rfl) ?_ | refine k_ast (by first | assumption | omega) (by first | assumption | exact rfl) (by omega) (by omega) (by omega) (by (try simp (disch := omega) only [sr_s, sr_a, sr_sr, u1_u1]); exact rfl) ?_ | refine k_irm (by omega) (by omega) (by omega) (by omega) ?_ | refine k_idv (by omega) (by omega) (by omega) (by omega) ?_ | refine k_tk (by first | assumption | omega) ?_ | refine k_rp (by omega) ?_ | refine k_aldR (by first | assumption | omega) (by first | assumption | exact rfl) (by omega) (by omega) (by omega) (by first | assumption | ((try simp (disch := omega) only [sr_s, sr_a, sr_sr, u1_s, u1_k]); exact rfl)) (by omega) ?_ | refine k_astR (by first | assumption | omega) (by first | assumption | exact rfl) (by omega) (by omega) (by omega) (by first | assumption | omega) (by (try simp (disch := omega) only [sr_s, sr_a, sr_sr, u1_u1]); exact rfl) ?_ | refine k_pz (by first | assumption | omega) (by omega) (by (try simp (disch := omega) only [sr_s, sr_a, sr_sr, u1_u1]); exact rfl) ?_ | refine k_alen (by first | assumption | omega) (by first | assumption | exact rfl) ?_ | refine k_cpy (by first | assumption | omega) (by first | assumption | omega) (by first | assumption | exact rfl) (by first | assumption | exact rfl) (by omega) (by omega) (by omega) (by omega) (by omega) (by omega) (by omega) (by omega) (by (try simp (disch := omega) only [sr_s, sr_a, sr_sr, u1_u1]); exact rfl) ?_ | refine k_if (by (try simp (disch := omega) only [w32_id]); exact Iff.rfl) (fun c => ?_) (fun c => ?_))
    exact Ok.ret ⟨M1, rfl, hF, hw1, hb⟩
/-- what a wanted place hangs on is wanted too -/
def clP (M : Int → Int → Int) (w s p : Int) : Prop := (srcT (M w 0) (M w 1) (M (w + 3)) (M 100 s) p (M 101 s) ≠ -1 → bt (M 105 (s - 1)) (srcT (M w 0) (M w 1) (M (w + 3)) (M 100 s) p (M 101 s)) = true) ∧ (M (w + 3) (4 * M 100 s) = 6 → ∀ d, 0 ≤ d → d < 4 → bsV (M w 0) (M w 1) p d ≠ -1 → bt (M 105 (s - 1)) (bsV (M w 0) (M w 1) p d) = true)
theorem clP.up {M M' : Int → Int → Int} {w s p r : Int} (h : clP M w s p) (hw : w + 3 < 99) (w0 : 0 ≤ w) (hF : wF M M' r) : clP M' w s p := by
  have hb : ∀ q, bt (M 105 (s - 1)) q = true → bt (M' 105 (s - 1)) q = true := fun q hq => by
    by_cases e : s - 1 = r
    · rw [e] at hq ⊢; exact hF.2.2 q hq
    · rw [(hF.2.1 _ e).2.1]; exact hq
  unfold clP at *
  rw [hF.1 w (by omega) (by omega) (by omega), hF.1 (w + 3) (by omega) (by omega) (by omega), hF.1 100 (by omega) (by omega) (by omega), hF.1 101 (by omega) (by omega) (by omega)]
  exact ⟨fun x => hb _ (h.1 x), fun x d d0 d1 y => hb _ (h.2 x d d0 d1 y)⟩
/-- the wants of one step handed down -/
theorem X0_prepStep (hX : chX M G w mk n b t) (s0 : b < s) (s1 : s ≤ n) (hws : wS M (M w 0) (M w 1) s) (hw : wS M (M w 0) (M w 1) (s - 1)) {x : Int} (hx : x = if M (w + 3) (4 * M 100 s) = 6 then 1 else 0) : Ok (wh (S := (Hp × Int)) (T := Hp) (fun a => M_X0_prepare_b42 a.1 99 s x a.2) FU ((M, G), 0)) (fun h => ∃ M1, h = (M1, G) ∧ wF M M1 (s - 1) ∧ wS M1 (M w 0) (M w 1) (s - 1) ∧ ∀ p, 0 ≤ p → p < 36 → bt (M 105 s) p = true → clP M1 w s p) := by
  have hX' := hX
  obtain ⟨hG, ⟨hp99, hd, hmp⟩, ⟨hg, hm, ⟨a1, a2, b1, b2, x1, x6, k2, k6, hco, her, het, hcz, y0, y1, hce⟩, hw99⟩, ⟨l0, l1, l2, b0, bn, n6, ln, lt, lc, lb⟩, hD⟩ := hX
  have k99 := gk_99 hG
  have k103 := gk_103 hG
  have l103 := gl_103 hG
  have k104 := gk_104 hG
  have l104 := gl_104 hG
  have p6 := pr99.p6 hp99
  have p7 := pr99.p7 hp99
  have hg0 := hg.1
  have hcb := cntB_b (M 105 s) 36
  obtain ⟨ws1, ws2, ws3⟩ := hws
  have ht := lt s (by omega) s1
  have hes := het _ ht.1 ht.2
  refine wh_for (fun i st => ∃ M1, st = ((M1, G), (i : Int)) ∧ wF M M1 (s - 1) ∧ wS M1 (M w 0) (M w 1) (s - 1) ∧ ∀ j, 0 ≤ j → j < (i : Int) → clP M1 w s (M 103 (36 * s + j))) _ (M 104 s).toNat (by omega) ⟨M, rfl, wF.refl M _, hw, fun j x y => by omega⟩ ?_ ?_
  · rintro i _ hi ⟨M1, rfl, hF, hw1, hc⟩
    dsimp only
    have hX1 := hX'.cg hF.1
    have f99 : M1 99 = M 99 := hF.1 99 (by omega) (by omega) (by omega)
    have fw : M1 w = M w := hF.1 w (by omega) (by omega) (by omega)
    have fw3 : M1 (w + 3) = M (w + 3) := hF.1 (w + 3) (by omega) (by omega) (by omega)
    have f100 : M1 100 = M 100 := hF.1 100 (by omega) (by omega) (by omega)
    have f101 : M1 101 = M 101 := hF.1 101 (by omega) (by omega) (by omega)
    obtain ⟨f104, f105, f103⟩ := hF.2.1 s (by omega)
    have f103 := f103 i (by omega) (by omega)
    obtain ⟨hin, hbt⟩ := ws2 i (by omega) (by omega)
    have hk := X0_source_ok (p := M 103 (36 * s + i)) hX1 s0 s1 (by rw [fw]; exact hin)
    rw [fw, fw3, f100, f101] at hk
    have hsi : srcT (M w 0) (M w 1) (M (w + 3)) (M 100 s) (M 103 (36 * s + i)) (M 101 s) = -1 ∨ inV (M w 0) (M w 1) (srcT (M w 0) (M w 1) (M (w + 3)) (M 100 s) (M 103 (36 * s + i)) (M 101 s)) := srcC_in a1 a2 b1 b2 hes hin
    have hsb : -1 ≤ srcT (M w 0) (M w 1) (M (w + 3)) (M 100 s) (M 103 (36 * s + i)) (M 101 s) ∧ srcT (M w 0) (M w 1) (M (w + 3)) (M 100 s) (M 103 (36 * s + i)) (M 101 s) < 36 := by unfold inV at hsi; omega
    -- the second half: around
    have hend : ∀ M2, wF M1 M2 (s - 1) → wS M2 (M w 0) (M w 1) (s - 1) → (srcT (M w 0) (M w 1) (M (w + 3)) (M 100 s) (M 103 (36 * s + i)) (M 101 s) ≠ -1 → bt (M2 105 (s - 1)) (srcT (M w 0) (M w 1) (M (w + 3)) (M 100 s) (M 103 (36 * s + i)) (M 101 s)) = true) → Ok (M_X0_prepare_p89 (M2, G) 99 s x i (M 103 (36 * s + i))) (lo (fun st => ∃ M1, st = ((M1, G), ((i + 1 : Nat) : Int)) ∧ wF M M1 (s - 1) ∧ wS M1 (M w 0) (M w 1) (s - 1) ∧ ∀ j, 0 ≤ j → j < ((i + 1 : Nat) : Int) → clP M1 w s (M 103 (36 * s + j))) (fun h => ∃ M1, h = (M1, G) ∧ wF M M1 (s - 1) ∧ wS M1 (M w 0) (M w 1) (s - 1) ∧ ∀ p, 0 ≤ p → p < 36 → bt (M 105 s) p = true → clP M1 w s p)) := by
      intro M2 hF2 hw2 hsrc
      have hF12 := hF.trans hF2
      have hfin : ∀ M3, wF M2 M3 (s - 1) → wS M3 (M w 0) (M w 1) (s - 1) → (M (w + 3) (4 * M 100 s) = 6 → ∀ d, 0 ≤ d → d < 4 → bsV (M w 0) (M w 1) (M 103 (36 * s + i)) d ≠ -1 → bt (M3 105 (s - 1)) (bsV (M w 0) (M w 1) (M 103 (36 * s + i)) d) = true) → ∃ M1, ((M3, G), (i : Int) + 1) = ((M1, G), ((i + 1 : Nat) : Int)) ∧ wF M M1 (s - 1) ∧ wS M1 (M w 0) (M w 1) (s - 1) ∧ ∀ j, 0 ≤ j → j < ((i + 1 : Nat) : Int) → clP M1 w s (M 103 (36 * s + j)) := by
        intro M3 hF3 hw3 har
        have hF13 := hF12.trans hF3
        refine ⟨M3, rfl, hF13, hw3, fun j j0 j1 => ?_⟩
        by_cases e : j = i
        · subst e
          unfold clP
          rw [hF13.1 w (by omega) (by omega) (by omega), hF13.1 (w + 3) (by omega) (by omega) (by omega), hF13.1 100 (by omega) (by omega) (by omega), hF13.1 101 (by omega) (by omega) (by omega)]
          exact ⟨fun z => hF3.2.2 _ (hsrc z), har⟩
        · exact ((hc j j0 (by omega)).up hw99 hg0 hF2).up hw99 hg0 hF3
      unfold M_X0_prepare_p89 M_X0_prepare_p102
      by_cases h6 : M (w + 3) (4 * M 100 s) = 6
      · rw [if_pos h6] at hx
        subst hx
        refine k_ifF (by decide) ?_
        have hX2 := hX'.cg hF12.1
        have fw2 : M2 w = M w := hF12.1 w (by omega) (by omega) (by omega)
        refine Ok.bind (X0_wantAround_ok hX2 (by omega) (by omega) (by rw [fw2]; exact hin) (by rw [fw2]; exact hw2)) ?_
        rintro _ ⟨M3, rfl, hF3, hw3, har⟩
        rw [fw2] at hw3 har
        exact Ok.ret (hfin M3 hF3 hw3 (fun _ => har))
      · rw [if_neg h6] at hx
        subst hx
        refine k_ifT (by decide) (Ok.ret (hfin M2 (wF.refl M2 _) hw2 (fun z => absurd z h6)))
    unfold M_X0_prepare_b42
    repeat' (with_reducible first | refine k_gf (by first | assumption | omega) (by first | assumption | ((try simp (disch := omega) only [sr_s, sr_a, sr_sr, u1_s, u1_k, p6, p7, f99, f104, f103]); exact rfl)) ?_ | refine k_gr (by first | assumption | omega) (by first | assumption | ((try simp (disch := omega) only [sr_s, sr_a, sr_sr, u1_s, u1_k, p6, p7, f99, f104, f103]); exact rfl)) (by omega) ?_ | refine k_ald (by first | assumption | omega) (by first | assumption | exact rfl) (by omega) (by omega) (by omega) (by first | assumption | ((try simp (disch := omega) only [sr_s, sr_a, sr_sr, u1_s, u1_k, p6, p7, f99, f104, f103]); exact rfl)) ?_ | refine k_eq (hk) ?_ | refine k_ifT (by first | (simp (disch := omega) only [w32_id]; first | done | omega) | omega) ?_ | refine k_ifF (by first | (simp (disch := omega) only [w32_id]; first | done | omega) | omega) ?_ | refine k_pf (by first | assumption | omega) (by (try simp (disch := omega) only [sr_s, sr_a, sr_sr, u1_u1, p6, p7, f99, f104, f103]); exact rfl) ?_ | refine k_ast (by first | assumption | omega) (by first | assumption | exact rfl) (by omega) (by omega) (by omega) (by (try simp (disch := omega) only [sr_s, sr_a, sr_sr, u1_u1, p6, p7, f99, f104, f103]); exact rfl) ?_ | refine k_irm (by omega) (by omega) (by omega) (by omega) ?_ | refine k_idv (by omega) (by omega) (by omega) (by omega) ?_ | refine k_tk (by first | assumption | omega) ?_ | refine k_rp (by omega) ?_ | refine k_aldR (by first | assumption | omega) (by first | assumption | exact rfl) (by omega) (by omega) (by omega) (by first | assumption | ((try simp (disch := omega) only [sr_s, sr_a, sr_sr, u1_s, u1_k, p6, p7, f99, f104, f103]); exact rfl)) (by omega) ?_ | refine k_astR (by first | assumption | omega) (by first | assumption | exact rfl) (by omega) (by omega) (by omega) (by first | assumption | omega) (by (try simp (disch := omega) only [sr_s, sr_a, sr_sr, u1_u1, p6, p7, f99, f104, f103]); exact rfl) ?_ | refine k_pz (by first | assumption | omega) (by omega) (by (try simp (disch := omega) only [sr_s, sr_a, sr_sr, u1_u1, p6, p7, f99, f104, f103]); exact rfl) ?_ | refine k_alen (by first | assumption | omega) (by first | assumption | exact rfl) ?_ | refine k_cpy (by first | assumption | omega) (by first | assumption | omega) (by first | assumption | exact rfl) (by first | assumption | exact rfl) (by omega) (by omega) (by omega) (by omega) (by omega) (by omega) (by omega) (by omega) (by (try simp (disch := omega) only [sr_s, sr_a, sr_sr, u1_u1, p6, p7, f99, f104, f103]); exact rfl) ?_ | refine k_if (by (try simp (disch := omega) only [w32_id]); exact Iff.rfl) (fun c => ?_) (fun c => ?_))
    · exact hend M1 (wF.refl M1 _) hw1 (fun z => absurd (by assumption) z)
    · have e : ¬ srcT (M w 0) (M w 1) (M (w + 3)) (M 100 s) (M 103 (36 * s + i)) (M 101 s) = -1 := by assumption
      refine Ok.bind (X0_want_ok (wd := M w 0) (hi := M w 1) hG (by rw [f99]; exact hp99) (by omega) (by omega) (hsi.resolve_left e) a2 b2 hw1) ?_
      rintro _ ⟨M2, rfl, hF2, hw2, hb2⟩
      exact hend M2 hF2 hw2 (fun _ => hb2)
  · rintro _ ⟨M1, rfl, hF, hw1, hc⟩
    dsimp only
    have f99 : M1 99 = M 99 := hF.1 99 (by omega) (by omega) (by omega)
    obtain ⟨f104, f105, f103⟩ := hF.2.1 s (by omega)
    unfold M_X0_prepare_b42
    repeat' (with_reducible first | refine k_gf (by first | assumption | omega) (by first | assumption | ((try simp (disch := omega) only [sr_s, sr_a, sr_sr, u1_s, u1_k, p6, p7, f99, f104]); exact rfl)) ?_ | refine k_gr (by first | assumption | omega) (by first | assumption | ((try simp (disch := omega) only [sr_s, sr_a, sr_sr, u1_s, u1_k, p6, p7, f99, f104]); exact rfl)) (by omega) ?_ | refine k_ald (by first | assumption | omega) (by first | assumption | exact rfl) (by omega) (by omega) (by omega) (by first | assumption | ((try simp (disch := omega) only [sr_s, sr_a, sr_sr, u1_s, u1_k, p6, p7, f99, f104]); exact rfl)) ?_ | refine k_ifT (by first | (simp (disch := omega) only [w32_id]; first | done | omega) | omega) ?_ | refine k_ifF (by first | (simp (disch := omega) only [w32_id]; first | done | omega) | omega) ?_ | refine k_pf (by first | assumption | omega) (by (try simp (disch := omega) only [sr_s, sr_a, sr_sr, u1_u1, p6, p7, f99, f104]); exact rfl) ?_ | refine k_ast (by first | assumption | omega) (by first | assumption | exact rfl) (by omega) (by omega) (by omega) (by (try simp (disch := omega) only [sr_s, sr_a, sr_sr, u1_u1, p6, p7, f99, f104]); exact rfl) ?_ | refine k_irm (by omega) (by omega) (by omega) (by omega) ?_ | refine k_idv (by omega) (by omega) (by omega) (by omega) ?_ | refine k_tk (by first | assumption | omega) ?_ | refine k_rp (by omega) ?_ | refine k_aldR (by first | assumption | omega) (by first | assumption | exact rfl) (by omega) (by omega) (by omega) (by first | assumption | ((try simp (disch := omega) only [sr_s, sr_a, sr_sr, u1_s, u1_k, p6, p7, f99, f104]); exact rfl)) (by omega) ?_ | refine k_astR (by first | assumption | omega) (by first | assumption | exact rfl) (by omega) (by omega) (by omega) (by first | assumption | omega) (by (try simp (disch := omega) only [sr_s, sr_a, sr_sr, u1_u1, p6, p7, f99, f104]); exact rfl) ?_ | refine k_pz (by first | assumption | omega) (by omega) (by (try simp (disch := omega) only [sr_s, sr_a, sr_sr, u1_u1, p6, p7, f99, f104]); exact rfl) ?_ | refine k_alen (by first | assumption | omega) (by first | assumption | exact rfl) ?_ | refine k_cpy (by first | assumption | omega) (by first | assumption | omega) (by first | assumption | exact rfl) (by first | assumption | exact rfl) (by omega) (by omega) (by omega) (by omega) (by omega) (by omega) (by omega) (by omega) (by (try simp (disch := omega) only [sr_s, sr_a, sr_sr, u1_u1, p6, p7, f99, f104]); exact rfl) ?_ | refine k_if (by (try simp (disch := omega) only [w32_id]); exact Iff.rfl) (fun c => ?_) (fun c => ?_))
    refine Ok.ret ⟨M1, rfl, hF, hw1, fun p p0 p1 hp => ?_⟩
    obtain ⟨i, i0, i1, rfl⟩ := ws3 p p0 p1 hp
    exact hc i i0 (by omega)
end CC
