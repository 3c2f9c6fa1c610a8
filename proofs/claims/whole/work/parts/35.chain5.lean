/-! the class's Chain: maps built -/
section CE
variable {M M' : Int → Int → Int} {G : GG} {w n b t s p mk : Int}
theorem chP.cg (h : chP M G w mk n b t) (f : ∀ a, a ≠ 102 → M' a = M a) (hb : ∀ i, 0 ≤ M' 102 i ∧ M' 102 i ≤ 9) (hq : ∀ q, 0 ≤ q → q < 36 → M' 102 (36 * b + q) = M 102 (36 * b + q)) : chP M' G w mk n b t := by
  obtain ⟨⟨q1, ⟨q2, q3, q4⟩, q5, q6, q7⟩, hw, hc, hm⟩ := h
  have h99 := q5.2.2.2
  have g0 := q5.1.1
  refine ⟨⟨q1, ⟨by rw [f 99 (by omega)]; exact q2, by rw [f 101 (by omega)]; exact q3, hb⟩, q5.fr (fun a ha => f a (by omega)), ?_, ?_⟩, ?_, ?_, ?_⟩
  · unfold chL at *; rw [f 99 (by omega), f 100 (by omega), f w (by omega), f (w + 2) (by omega)]; exact q6
  · unfold chD at *; rw [f 101 (by omega), f 100 (by omega), f w (by omega), f (w + 3) (by omega)]; exact q7
  · intro s u v
    have := hw s u v
    unfold wS at *
    rw [f 103 (by omega), f 104 (by omega), f 105 (by omega), f w (by omega)]
    exact this
  · intro s u v p p0 p1 h
    rw [f 105 (by omega)] at h
    have := hc s u v p p0 p1 h
    unfold clP at *
    rw [f 105 (by omega), f w (by omega), f (w + 3) (by omega), f 100 (by omega), f 101 (by omega)]
    exact this
  · intro q q0 q1
    rw [hq q q0 q1, f (w + 1) (by omega), f 100 (by omega)]
    exact hm q q0 q1
/-- a step's map, of the one ahead of it -/
theorem X0_buildStep (hP : chP M G w mk n b t) (s0 : b < s) (s1 : s ≤ n) (hV : chV M w (s - 1)) {l1 : Int} : Ok (wh (S := (Hp × Int)) (T := Hp) (fun a => M_X0_build_b29 a.1 99 l1 s (36 * s) (36 * s - 36) a.2) FU ((M, G), 0)) (fun h => ∃ M1, h = (M1, G) ∧ (∀ a, a ≠ 102 → M1 a = M a) ∧ (∀ x, x < 36 * s ∨ 36 * s + 36 ≤ x → M1 102 x = M 102 x) ∧ (∀ i, 0 ≤ M1 102 i ∧ M1 102 i ≤ 9) ∧ chV M1 w s) := by
  have hP' := hP
  obtain ⟨⟨hG, ⟨hp99, hd, hmp⟩, ⟨hg, hm, hwf, hw99⟩, ⟨l0, l1', l2, b0, bn, n6, ln, lt, lc, lb⟩, hD⟩, hw, hc, -⟩ := hP
  have hwf' := hwf
  obtain ⟨a1, a2, b1, b2, x1, x6, k2, k6, hco, her, het, hcz, y0, y1, hce⟩ := hwf
  have k99 := gk_99 hG
  have k100 := gk_100 hG
  have l100 := gl_100 hG
  have k101 := gk_101 hG
  have l101 := gl_101 hG
  have k102 := gk_102 hG
  have l102 := gl_102 hG
  have k103 := gk_103 hG
  have l103 := gl_103 hG
  have k104 := gk_104 hG
  have l104 := gl_104 hG
  have p3 := pr99.p3 hp99
  have p4 := pr99.p4 hp99
  have p5 := pr99.p5 hp99
  have p6 := pr99.p6 hp99
  have p7 := pr99.p7 hp99
  have hg0 := hg.1
  obtain ⟨ws1, ws2, ws3⟩ := hw s (by omega) s1
  have hcb := cntB_b (M 105 s) 36
  have ht := lt s (by omega) s1
  have hes := het _ ht.1 ht.2
  have hcT := lc s s0 s1
  have ht1 := lt (s - 1) (by omega) (by omega)
  have hds := hd s
  have hbw : ∀ k x, 0 ≤ bhM M w k x ∧ bhM M w k x < mk := fun k x => (bh_wf hwf' k).2.2.2.2.2.2.2.2.2.2.2.2.2.2 x
  refine wh_for (fun i st => ∃ M1, st = ((M1, G), (i : Int)) ∧ (∀ a, a ≠ 102 → M1 a = M a) ∧ (∀ x, x < 36 * s ∨ 36 * s + 36 ≤ x → M1 102 x = M 102 x) ∧ (∀ i, 0 ≤ M1 102 i ∧ M1 102 i ≤ 9) ∧ ∀ j, 0 ≤ j → j < (i : Int) → M1 102 (36 * s + M 103 (36 * s + j)) = bhM M w s.toNat (36 * M 100 s + M 103 (36 * s + j))) _ (M 104 s).toNat (by omega) ⟨M, rfl, fun _ _ => rfl, fun _ _ => rfl, hmp, fun j u v => by omega⟩ ?_ ?_
  · rintro i _ hi ⟨M1, rfl, f, f2, hb, hv⟩
    dsimp only
    obtain ⟨hin, hbt⟩ := ws2 i (by omega) (by omega)
    have hp36 : 0 ≤ M 103 (36 * s + i) ∧ M 103 (36 * s + i) < 36 := by unfold inV at hin; omega
    have f99 : M1 99 = M 99 := f 99 (by omega)
    have fw : M1 w = M w := f w (by omega)
    have fw3 : M1 (w + 3) = M (w + 3) := f (w + 3) (by omega)
    have f100 : M1 100 = M 100 := f 100 (by omega)
    have f101 : M1 101 = M 101 := f 101 (by omega)
    have f103 : M1 103 = M 103 := f 103 (by omega)
    have f104 : M1 104 = M 104 := f 104 (by omega)
    have hk := X8_markFor_ok (M := M1) (t := M 100 s) (ma := 102) (mo := 36 * s - 36) (p := M 103 (36 * s + i)) (dr := M 101 s) (mk := mk) hg (by unfold mW; rw [fw]; exact hm) (by rw [fw]; exact a1) (by rw [fw]; exact a2) (by rw [fw]; exact b1) (by rw [fw]; exact b2) (by omega) (by omega) (by rw [fw, fw3]; exact hes) (by rw [fw]; exact hin) k102 (by omega) (by omega) (by omega) hb (by omega) (by omega)
    rw [fw, fw3] at hk
    have hval : mkV (M w 0) (M w 1) (M (w + 3) (4 * M 100 s)) (M (w + 3) (4 * M 100 s + 1)) (M (w + 3) (4 * M 100 s + 2)) (M (w + 3) (4 * M 100 s + 3)) (fun q => M1 102 (36 * s - 36 + q)) (M 103 (36 * s + i)) (M 101 s) = bhM M w s.toNat (36 * M 100 s + M 103 (36 * s + i)) := by
      have hcl := hc s s0 s1 _ hp36.1 hp36.2 hbt
      rw [show s.toNat = (s - 1).toNat + 1 by omega]
      show _ = bh _ _ _ _ _ _ _ _ _
      rw [bh_step b2 a2 ht.1 ht.2 (by rw [hcT]; exact ht1.1) hin]
      have hdr : mkT (M w 0) (M w 1) (M (w + 3)) (M 100 s) (fun q => bhM M w (s - 1).toNat (36 * M (w + 2) (M 100 s) + q)) (M 103 (36 * s + i)) (drV (M w 0) (M w 1) (M w 2) (M (w + 3)) (M w 6) (s - 1).toNat (M 100 s)) = mkT (M w 0) (M w 1) (M (w + 3)) (M 100 s) (fun q => bhM M w (s - 1).toNat (36 * M (w + 2) (M 100 s) + q)) (M 103 (36 * s + i)) (M 101 s) := by
        by_cases h9 : M (w + 3) (4 * M 100 s) = 9
        · rw [hD.2 s s0 s1 (Or.inl (by omega)) h9]
        · exact mkV_dr h9
      rw [hdr]
      refine mkV_dep a1 a2 b1 b2 hes hin (fun h => ?_) (fun h d d0 d1 hd => ?_)
      · have hb1 := hcl.1 h
        have hsi := (srcC_in (dr := M 101 s) a1 a2 b1 b2 hes hin).resolve_left h
        unfold inV at hsi
        have := hV _ hsi.1 (by omega) hb1
        rw [f2 _ (by omega), hcT, show 36 * s - 36 = 36 * (s - 1) by omega]
        exact this
      · have hb1 := hcl.2 h d d0 d1 hd
        have hsi := (bsV_in (d := d) a2 hin).resolve_left hd
        unfold inV at hsi
        have := hV _ hsi.1 (by omega) hb1
        rw [f2 _ (by omega), hcT, show 36 * s - 36 = 36 * (s - 1) by omega]
        exact this
    rw [hval] at hk
    unfold M_X0_build_b29
    repeat' (with_reducible first | refine k_gf (by first | assumption | omega) (by first | assumption | ((try simp (disch := omega) only [sr_s, sr_a, sr_sr, u1_s, u1_k, l0, p3, p4, p5, p6, p7, f99, f100, f101, f103, f104]); exact rfl)) ?_ | refine k_gr (by first | assumption | omega) (by first | assumption | ((try simp (disch := omega) only [sr_s, sr_a, sr_sr, u1_s, u1_k, l0, p3, p4, p5, p6, p7, f99, f100, f101, f103, f104]); exact rfl)) (by omega) ?_ | refine k_ald (by first | assumption | omega) (by first | assumption | exact rfl) (by omega) (by omega) (by omega) (by first | assumption | ((try simp (disch := omega) only [sr_s, sr_a, sr_sr, u1_s, u1_k, l0, p3, p4, p5, p6, p7, f99, f100, f101, f103, f104]); exact rfl)) ?_ | refine k_eq (hk) ?_ | refine k_ifT (by first | (simp (disch := omega) only [w32_id]; first | done | omega) | omega) ?_ | refine k_ifF (by first | (simp (disch := omega) only [w32_id]; first | done | omega) | omega) ?_ | refine k_pf (by first | assumption | omega) (by (try simp (disch := omega) only [sr_s, sr_a, sr_sr, u1_u1, l0, p3, p4, p5, p6, p7, f99, f100, f101, f103, f104]); exact rfl) ?_ | refine k_ast (by first | assumption | omega) (by first | assumption | exact rfl) (by omega) (by omega) (by omega) (by (try simp (disch := omega) only [sr_s, sr_a, sr_sr, u1_u1, l0, p3, p4, p5, p6, p7, f99, f100, f101, f103, f104]); exact rfl) ?_ | refine k_irm (by omega) (by omega) (by omega) (by omega) ?_ | refine k_idv (by omega) (by omega) (by omega) (by omega) ?_ | refine k_tk (by first | assumption | omega) ?_ | refine k_rp (by omega) ?_ | refine k_aldR (by first | assumption | omega) (by first | assumption | exact rfl) (by omega) (by omega) (by omega) (by first | assumption | ((try simp (disch := omega) only [sr_s, sr_a, sr_sr, u1_s, u1_k, l0, p3, p4, p5, p6, p7, f99, f100, f101, f103, f104]); exact rfl)) (by omega) ?_ | refine k_astR (by first | assumption | omega) (by first | assumption | exact rfl) (by omega) (by omega) (by omega) (by first | assumption | omega) (by (try simp (disch := omega) only [sr_s, sr_a, sr_sr, u1_u1, l0, p3, p4, p5, p6, p7, f99, f100, f101, f103, f104]); exact rfl) ?_ | refine k_pz (by first | assumption | omega) (by omega) (by (try simp (disch := omega) only [sr_s, sr_a, sr_sr, u1_u1, l0, p3, p4, p5, p6, p7, f99, f100, f101, f103, f104]); exact rfl) ?_ | refine k_alen (by first | assumption | omega) (by first | assumption | exact rfl) ?_ | refine k_cpy (by first | assumption | omega) (by first | assumption | omega) (by first | assumption | exact rfl) (by first | assumption | exact rfl) (by omega) (by omega) (by omega) (by omega) (by omega) (by omega) (by omega) (by omega) (by (try simp (disch := omega) only [sr_s, sr_a, sr_sr, u1_u1, l0, p3, p4, p5, p6, p7, f99, f100, f101, f103, f104]); exact rfl) ?_ | refine k_if (by (try simp (disch := omega) only [w32_id]); exact Iff.rfl) (fun c => ?_) (fun c => ?_))
    refine Ok.ret ⟨_, rfl, fun a ha => by rw [sr_a _ _ ha]; exact f a ha, fun x hx => ?_, fun x => ?_, fun j j0 j1 => ?_⟩
    · rw [sr_s, u1_k _ _ (by omega)]; exact f2 x hx
    · rw [sr_s]
      unfold u1
      split
      · have := hbw s.toNat (36 * M 100 s + M 103 (36 * s + i)); omega
      · exact hb x
    · rw [sr_s]
      by_cases e : M 103 (36 * s + j) = M 103 (36 * s + i)
      · rw [e, u1_s]
      · rw [u1_k _ _ (by omega)]
        by_cases ej : j = i
        · subst ej; exact absurd rfl e
        · exact hv j j0 (by omega)
  · rintro _ ⟨M1, rfl, f, f2, hb, hv⟩
    dsimp only
    have f99 : M1 99 = M 99 := f 99 (by omega)
    have f104 : M1 104 = M 104 := f 104 (by omega)
    unfold M_X0_build_b29
    repeat' (with_reducible first | refine k_gf (by first | assumption | omega) (by first | assumption | ((try simp (disch := omega) only [sr_s, sr_a, sr_sr, u1_s, u1_k, p7, f99, f104]); exact rfl)) ?_ | refine k_gr (by first | assumption | omega) (by first | assumption | ((try simp (disch := omega) only [sr_s, sr_a, sr_sr, u1_s, u1_k, p7, f99, f104]); exact rfl)) (by omega) ?_ | refine k_ald (by first | assumption | omega) (by first | assumption | exact rfl) (by omega) (by omega) (by omega) (by first | assumption | ((try simp (disch := omega) only [sr_s, sr_a, sr_sr, u1_s, u1_k, p7, f99, f104]); exact rfl)) ?_ | refine k_ifT (by first | (simp (disch := omega) only [w32_id]; first | done | omega) | omega) ?_ | refine k_ifF (by first | (simp (disch := omega) only [w32_id]; first | done | omega) | omega) ?_ | refine k_pf (by first | assumption | omega) (by (try simp (disch := omega) only [sr_s, sr_a, sr_sr, u1_u1, p7, f99, f104]); exact rfl) ?_ | refine k_ast (by first | assumption | omega) (by first | assumption | exact rfl) (by omega) (by omega) (by omega) (by (try simp (disch := omega) only [sr_s, sr_a, sr_sr, u1_u1, p7, f99, f104]); exact rfl) ?_ | refine k_irm (by omega) (by omega) (by omega) (by omega) ?_ | refine k_idv (by omega) (by omega) (by omega) (by omega) ?_ | refine k_tk (by first | assumption | omega) ?_ | refine k_rp (by omega) ?_ | refine k_aldR (by first | assumption | omega) (by first | assumption | exact rfl) (by omega) (by omega) (by omega) (by first | assumption | ((try simp (disch := omega) only [sr_s, sr_a, sr_sr, u1_s, u1_k, p7, f99, f104]); exact rfl)) (by omega) ?_ | refine k_astR (by first | assumption | omega) (by first | assumption | exact rfl) (by omega) (by omega) (by omega) (by first | assumption | omega) (by (try simp (disch := omega) only [sr_s, sr_a, sr_sr, u1_u1, p7, f99, f104]); exact rfl) ?_ | refine k_pz (by first | assumption | omega) (by omega) (by (try simp (disch := omega) only [sr_s, sr_a, sr_sr, u1_u1, p7, f99, f104]); exact rfl) ?_ | refine k_alen (by first | assumption | omega) (by first | assumption | exact rfl) ?_ | refine k_cpy (by first | assumption | omega) (by first | assumption | omega) (by first | assumption | exact rfl) (by first | assumption | exact rfl) (by omega) (by omega) (by omega) (by omega) (by omega) (by omega) (by omega) (by omega) (by (try simp (disch := omega) only [sr_s, sr_a, sr_sr, u1_u1, p7, f99, f104]); exact rfl) ?_ | refine k_if (by (try simp (disch := omega) only [w32_id]); exact Iff.rfl) (fun c => ?_) (fun c => ?_))
    refine Ok.ret ⟨M1, rfl, f, f2, hb, fun p p0 p1 hp => ?_⟩
    rw [f 105 (by omega)] at hp
    obtain ⟨j, j0, j1, rfl⟩ := ws3 p p0 p1 hp
    show _ = bh (M1 w 0) (M1 w 1) (M1 w 2) (M1 (w + 2)) (M1 (w + 3)) (M1 w 6) (M1 (w + 1)) _ _
    rw [f w (by omega), f (w + 1) (by omega), f (w + 2) (by omega), f (w + 3) (by omega), f 100 (by omega)]
    exact hv j j0 (by omega)
theorem X0_build_ok (hP : chP M G w mk n b t) (p0 : 0 ≤ p) (p1 : p < 36) : Ok (M_X0_build (M, G) 99 p) (fun h => ∃ M1, h = ((M1, G), M1 102 (36 * n + p)) ∧ (∀ a, a ≠ 102 → M1 a = M a) ∧ chP M1 G w mk n b t ∧ ∀ s, b ≤ s → s ≤ n → chV M1 w s) := by
  have hP' := hP
  obtain ⟨⟨hG, ⟨hp99, hd, hmp⟩, ⟨hg, hm, hwf, hw99⟩, ⟨l0, l1', l2, b0, bn, n6, ln, lt, lc, lb⟩, hD⟩, hw, hc, hbg⟩ := hP
  have k99 := gk_99 hG
  have k102 := gk_102 hG
  have l102 := gl_102 hG
  have p5 := pr99.p5 hp99
  have hg0 := hg.1
  unfold M_X0_build M_X0_build_w7
  repeat' (with_reducible first | refine k_gf (by first | assumption | omega) (by first | assumption | ((try simp (disch := omega) only [sr_s, sr_a, sr_sr, u1_s, u1_k, l2]); exact rfl)) ?_ | refine k_gr (by first | assumption | omega) (by first | assumption | ((try simp (disch := omega) only [sr_s, sr_a, sr_sr, u1_s, u1_k, l2]); exact rfl)) (by omega) ?_ | refine k_ald (by first | assumption | omega) (by first | assumption | exact rfl) (by omega) (by omega) (by omega) (by first | assumption | ((try simp (disch := omega) only [sr_s, sr_a, sr_sr, u1_s, u1_k, l2]); exact rfl)) ?_ | refine k_ifT (by first | (simp (disch := omega) only [w32_id]; first | done | omega) | omega) ?_ | refine k_ifF (by first | (simp (disch := omega) only [w32_id]; first | done | omega) | omega) ?_ | refine k_pf (by first | assumption | omega) (by (try simp (disch := omega) only [sr_s, sr_a, sr_sr, u1_u1, l2]); exact rfl) ?_ | refine k_ast (by first | assumption | omega) (by first | assumption | exact rfl) (by omega) (by omega) (by omega) (by (try simp (disch := omega) only [sr_s, sr_a, sr_sr, u1_u1, l2]); exact rfl) ?_ | refine k_irm (by omega) (by omega) (by omega) (by omega) ?_ | refine k_idv (by omega) (by omega) (by omega) (by omega) ?_ | refine k_tk (by first | assumption | omega) ?_ | refine k_rp (by omega) ?_ | refine k_aldR (by first | assumption | omega) (by first | assumption | exact rfl) (by omega) (by omega) (by omega) (by first | assumption | ((try simp (disch := omega) only [sr_s, sr_a, sr_sr, u1_s, u1_k, l2]); exact rfl)) (by omega) ?_ | refine k_astR (by first | assumption | omega) (by first | assumption | exact rfl) (by omega) (by omega) (by omega) (by first | assumption | omega) (by (try simp (disch := omega) only [sr_s, sr_a, sr_sr, u1_u1, l2]); exact rfl) ?_ | refine k_pz (by first | assumption | omega) (by omega) (by (try simp (disch := omega) only [sr_s, sr_a, sr_sr, u1_u1, l2]); exact rfl) ?_ | refine k_alen (by first | assumption | omega) (by first | assumption | exact rfl) ?_ | refine k_cpy (by first | assumption | omega) (by first | assumption | omega) (by first | assumption | exact rfl) (by first | assumption | exact rfl) (by omega) (by omega) (by omega) (by omega) (by omega) (by omega) (by omega) (by omega) (by (try simp (disch := omega) only [sr_s, sr_a, sr_sr, u1_u1, l2]); exact rfl) ?_ | refine k_if (by (try simp (disch := omega) only [w32_id]); exact Iff.rfl) (fun c => ?_) (fun c => ?_))
  refine Ok.bind (wh_for (fun i st => ∃ M1, st = ((M1, G), b + 1 + (i : Int)) ∧ (∀ a, a ≠ 102 → M1 a = M a) ∧ chP M1 G w mk n b t ∧ ∀ s, b ≤ s → s ≤ b + (i : Int) → chV M1 w s) (fun h => ∃ M1, h = (M1, G) ∧ (∀ a, a ≠ 102 → M1 a = M a) ∧ chP M1 G w mk n b t ∧ ∀ s, b ≤ s → s ≤ n → chV M1 w s) (n - b).toNat (by omega) ⟨M, by rw [show b + 1 + ((0 : Nat) : Int) = b + 1 by omega], fun _ _ => rfl, hP', fun s u v => ?_⟩ ?_ ?_) ?_
  · have e : s = b := by omega
    subst e
    intro q q0 q1 hq
    rw [hbg q q0 q1]
    rcases lb with e | e
    · rw [e]; rfl
    · exact (bh_still e q0 q1 _).symm
  · rintro i _ hi ⟨M1, rfl, f, hP1, hv⟩
    dsimp only
    have f99 : M1 99 = M 99 := f 99 (by omega)
    unfold M_X0_build_b7 M_X0_build_w29 M_X0_build_p93
    repeat' (with_reducible first | refine k_gf (by first | assumption | omega) (by first | assumption | ((try simp (disch := omega) only [sr_s, sr_a, sr_sr, u1_s, u1_k, l1', f99]); exact rfl)) ?_ | refine k_gr (by first | assumption | omega) (by first | assumption | ((try simp (disch := omega) only [sr_s, sr_a, sr_sr, u1_s, u1_k, l1', f99]); exact rfl)) (by omega) ?_ | refine k_ald (by first | assumption | omega) (by first | assumption | exact rfl) (by omega) (by omega) (by omega) (by first | assumption | ((try simp (disch := omega) only [sr_s, sr_a, sr_sr, u1_s, u1_k, l1', f99]); exact rfl)) ?_ | refine k_ifT (by first | (simp (disch := omega) only [w32_id]; first | done | omega) | omega) ?_ | refine k_ifF (by first | (simp (disch := omega) only [w32_id]; first | done | omega) | omega) ?_ | refine k_pf (by first | assumption | omega) (by (try simp (disch := omega) only [sr_s, sr_a, sr_sr, u1_u1, l1', f99]); exact rfl) ?_ | refine k_ast (by first | assumption | omega) (by first | assumption | exact rfl) (by omega) (by omega) (by omega) (by (try simp (disch := omega) only [sr_s, sr_a, sr_sr, u1_u1, l1', f99]); exact rfl) ?_ | refine k_irm (by omega) (by omega) (by omega) (by omega) ?_ | refine k_idv (by omega) (by omega) (by omega) (by omega) ?_ | refine k_tk (by first | assumption | omega) ?_ | refine k_rp (by omega) ?_ | refine k_aldR (by first | assumption | omega) (by first | assumption | exact rfl) (by omega) (by omega) (by omega) (by first | assumption | ((try simp (disch := omega) only [sr_s, sr_a, sr_sr, u1_s, u1_k, l1', f99]); exact rfl)) (by omega) ?_ | refine k_astR (by first | assumption | omega) (by first | assumption | exact rfl) (by omega) (by omega) (by omega) (by first | assumption | omega) (by (try simp (disch := omega) only [sr_s, sr_a, sr_sr, u1_u1, l1', f99]); exact rfl) ?_ | refine k_pz (by first | assumption | omega) (by omega) (by (try simp (disch := omega) only [sr_s, sr_a, sr_sr, u1_u1, l1', f99]); exact rfl) ?_ | refine k_alen (by first | assumption | omega) (by first | assumption | exact rfl) ?_ | refine k_cpy (by first | assumption | omega) (by first | assumption | omega) (by first | assumption | exact rfl) (by first | assumption | exact rfl) (by omega) (by omega) (by omega) (by omega) (by omega) (by omega) (by omega) (by omega) (by (try simp (disch := omega) only [sr_s, sr_a, sr_sr, u1_u1, l1', f99]); exact rfl) ?_ | refine k_if (by (try simp (disch := omega) only [w32_id]); exact Iff.rfl) (fun c => ?_) (fun c => ?_))
    have hvi := hv (b + i) (by omega) (by omega)
    refine Ok.bind (X0_buildStep hP1 (s := b + 1 + i) (by omega) (by omega) (by rw [show b + 1 + (i : Int) - 1 = b + i by omega]; exact hvi)) ?_
    rintro _ ⟨M2, rfl, g, g2, hb, hv2⟩
    refine Ok.ret ⟨M2, by rw [show b + 1 + ((i + 1 : Nat) : Int) = b + 1 + i + 1 by omega], fun a ha => (g a ha).trans (f a ha), hP1.cg g hb (fun q q0 q1 => g2 _ (by omega)), fun s u v => ?_⟩
    by_cases e : s = b + 1 + i
    · rw [e]; exact hv2
    · intro q q0 q1 hq
      rw [g 105 (by omega)] at hq
      have := hv s u (by omega) q q0 q1 hq
      show _ = bh (M2 w 0) (M2 w 1) (M2 w 2) (M2 (w + 2)) (M2 (w + 3)) (M2 w 6) (M2 (w + 1)) _ _
      rw [g w (by omega), g (w + 1) (by omega), g (w + 2) (by omega), g (w + 3) (by omega), g 100 (by omega), g2 _ (by omega)]
      exact this
  · rintro _ ⟨M1, rfl, f, hP1, hv⟩
    dsimp only
    have f99 : M1 99 = M 99 := f 99 (by omega)
    unfold M_X0_build_b7
    repeat' (with_reducible first | refine k_gf (by first | assumption | omega) (by first | assumption | ((try simp (disch := omega) only [sr_s, sr_a, sr_sr, u1_s, u1_k, l1', f99]); exact rfl)) ?_ | refine k_gr (by first | assumption | omega) (by first | assumption | ((try simp (disch := omega) only [sr_s, sr_a, sr_sr, u1_s, u1_k, l1', f99]); exact rfl)) (by omega) ?_ | refine k_ald (by first | assumption | omega) (by first | assumption | exact rfl) (by omega) (by omega) (by omega) (by first | assumption | ((try simp (disch := omega) only [sr_s, sr_a, sr_sr, u1_s, u1_k, l1', f99]); exact rfl)) ?_ | refine k_ifT (by first | (simp (disch := omega) only [w32_id]; first | done | omega) | omega) ?_ | refine k_ifF (by first | (simp (disch := omega) only [w32_id]; first | done | omega) | omega) ?_ | refine k_pf (by first | assumption | omega) (by (try simp (disch := omega) only [sr_s, sr_a, sr_sr, u1_u1, l1', f99]); exact rfl) ?_ | refine k_ast (by first | assumption | omega) (by first | assumption | exact rfl) (by omega) (by omega) (by omega) (by (try simp (disch := omega) only [sr_s, sr_a, sr_sr, u1_u1, l1', f99]); exact rfl) ?_ | refine k_irm (by omega) (by omega) (by omega) (by omega) ?_ | refine k_idv (by omega) (by omega) (by omega) (by omega) ?_ | refine k_tk (by first | assumption | omega) ?_ | refine k_rp (by omega) ?_ | refine k_aldR (by first | assumption | omega) (by first | assumption | exact rfl) (by omega) (by omega) (by omega) (by first | assumption | ((try simp (disch := omega) only [sr_s, sr_a, sr_sr, u1_s, u1_k, l1', f99]); exact rfl)) (by omega) ?_ | refine k_astR (by first | assumption | omega) (by first | assumption | exact rfl) (by omega) (by omega) (by omega) (by first | assumption | omega) (by (try simp (disch := omega) only [sr_s, sr_a, sr_sr, u1_u1, l1', f99]); exact rfl) ?_ | refine k_pz (by first | assumption | omega) (by omega) (by (try simp (disch := omega) only [sr_s, sr_a, sr_sr, u1_u1, l1', f99]); exact rfl) ?_ | refine k_alen (by first | assumption | omega) (by first | assumption | exact rfl) ?_ | refine k_cpy (by first | assumption | omega) (by first | assumption | omega) (by first | assumption | exact rfl) (by first | assumption | exact rfl) (by omega) (by omega) (by omega) (by omega) (by omega) (by omega) (by omega) (by omega) (by (try simp (disch := omega) only [sr_s, sr_a, sr_sr, u1_u1, l1', f99]); exact rfl) ?_ | refine k_if (by (try simp (disch := omega) only [w32_id]); exact Iff.rfl) (fun c => ?_) (fun c => ?_))
    exact Ok.ret ⟨M1, rfl, f, hP1, fun s u v => hv s u (by omega)⟩
  · rintro _ ⟨M1, rfl, f, hP1, hv⟩
    have f99 : M1 99 = M 99 := f 99 (by omega)
    unfold M_X0_build_p99
    repeat' (with_reducible first | refine k_gf (by first | assumption | omega) (by first | assumption | ((try simp (disch := omega) only [sr_s, sr_a, sr_sr, u1_s, u1_k, l1', p5, f99]); exact rfl)) ?_ | refine k_gr (by first | assumption | omega) (by first | assumption | ((try simp (disch := omega) only [sr_s, sr_a, sr_sr, u1_s, u1_k, l1', p5, f99]); exact rfl)) (by omega) ?_ | refine k_ald (by first | assumption | omega) (by first | assumption | exact rfl) (by omega) (by omega) (by omega) (by first | assumption | ((try simp (disch := omega) only [sr_s, sr_a, sr_sr, u1_s, u1_k, l1', p5, f99]); exact rfl)) ?_ | refine k_ifT (by first | (simp (disch := omega) only [w32_id]; first | done | omega) | omega) ?_ | refine k_ifF (by first | (simp (disch := omega) only [w32_id]; first | done | omega) | omega) ?_ | refine k_pf (by first | assumption | omega) (by (try simp (disch := omega) only [sr_s, sr_a, sr_sr, u1_u1, l1', p5, f99]); exact rfl) ?_ | refine k_ast (by first | assumption | omega) (by first | assumption | exact rfl) (by omega) (by omega) (by omega) (by (try simp (disch := omega) only [sr_s, sr_a, sr_sr, u1_u1, l1', p5, f99]); exact rfl) ?_ | refine k_irm (by omega) (by omega) (by omega) (by omega) ?_ | refine k_idv (by omega) (by omega) (by omega) (by omega) ?_ | refine k_tk (by first | assumption | omega) ?_ | refine k_rp (by omega) ?_ | refine k_aldR (by first | assumption | omega) (by first | assumption | exact rfl) (by omega) (by omega) (by omega) (by first | assumption | ((try simp (disch := omega) only [sr_s, sr_a, sr_sr, u1_s, u1_k, l1', p5, f99]); exact rfl)) (by omega) ?_ | refine k_astR (by first | assumption | omega) (by first | assumption | exact rfl) (by omega) (by omega) (by omega) (by first | assumption | omega) (by (try simp (disch := omega) only [sr_s, sr_a, sr_sr, u1_u1, l1', p5, f99]); exact rfl) ?_ | refine k_pz (by first | assumption | omega) (by omega) (by (try simp (disch := omega) only [sr_s, sr_a, sr_sr, u1_u1, l1', p5, f99]); exact rfl) ?_ | refine k_alen (by first | assumption | omega) (by first | assumption | exact rfl) ?_ | refine k_cpy (by first | assumption | omega) (by first | assumption | omega) (by first | assumption | exact rfl) (by first | assumption | exact rfl) (by omega) (by omega) (by omega) (by omega) (by omega) (by omega) (by omega) (by omega) (by (try simp (disch := omega) only [sr_s, sr_a, sr_sr, u1_u1, l1', p5, f99]); exact rfl) ?_ | refine k_if (by (try simp (disch := omega) only [w32_id]); exact Iff.rfl) (fun c => ?_) (fun c => ?_))
    exact Ok.ret ⟨M1, rfl, f, hP1, hv⟩
/-- a chain in full: laid, prepared, built -/
def chF (M : Int → Int → Int) (G : GG) (w mk n b t : Int) : Prop := chP M G w mk n b t ∧ ∀ s, b ≤ s → s ≤ n → chV M w s
theorem X0_markBehind_ok (hG : gAll G) (hI : chI M) (hW : wOK M G w mk) (t0 : 0 ≤ t) (t1 : t < M w 2) (n0 : 0 ≤ n) (n1 : n ≤ 60) (hp : inV (M w 0) (M w 1) p) : Ok (M_X0_markBehind (M, G) 99 w t p n) (fun h => ∃ M1, h = ((M1, G), bhM M w n.toNat (36 * t + p)) ∧ (∀ a, a < 99 ∨ 105 < a → M1 a = M a) ∧ ∃ b, chF M1 G w mk n b t ∧ bt (M1 105 n) p = true) := by
  have k99 := gk_99 hG
  have hW' := hW
  obtain ⟨hg, hm, ⟨a1, a2, b1, b2, x1, x6, k2, k6, hco, her, het, hcz, y0, y1, hce⟩, hw99⟩ := hW
  have hg0 := hg.1
  have hp36 : 0 ≤ p ∧ p < 36 := by unfold inV at hp; omega
  unfold M_X0_markBehind
  refine k_tk k99 (Ok.bind (X0_lay_ok hG hI hW' t0 t1 n0 n1) ?_)
  rintro _ ⟨M1, rfl, f, hI1, b, hL, hD, hz⟩
  have fw : M1 w = M w := f w (by omega)
  have fw3 : M1 (w + 3) = M (w + 3) := f (w + 3) (by omega)
  have hX1 : chX M1 G w mk n b t := ⟨hG, hI1, hW'.fr (fun a ha => f a (Or.inl ha)), by rw [fw]; exact hL, by rw [fw, fw3]; exact hD⟩
  have hw1 : ∀ s, b ≤ s → s ≤ n → wS M1 (M w 0) (M w 1) s := fun s u v => by
    obtain ⟨z1, z2⟩ := hz s u v
    unfold wS
    rw [z1, z2, cntB_0]
    exact ⟨rfl, fun i i0 i1 => by omega, fun q _ _ h => by rw [bt_0] at h; cases h⟩
  have hl := hL
  obtain ⟨l0, l1, l2, b0, bn, n6, ln, lt, lc, lb⟩ := hl
  refine k_gf k99 l1 ?_
  refine Ok.bind (X0_want_ok (wd := M w 0) (hi := M w 1) hG hI1.1 (by omega) (by omega) hp a2 b2 (hw1 n bn (Int.le_refl n))) ?_
  rintro _ ⟨M2, rfl, hF, hw2, hb2⟩
  have hX2 := hX1.cg hF.1
  have gw : M2 w = M w := (hF.1 w (by omega) (by omega) (by omega)).trans fw
  refine Ok.bind (X0_prepare_ok hX2 (fun s u v => ?_)) ?_
  · rw [gw]
    by_cases e : s = n
    · rw [e]; exact hw2
    · exact (hw1 s u v).cg hF e
  rintro _ ⟨M3, rfl, f3, hP3, hmn⟩
  refine Ok.bd (X0_build_ok hP3 hp36.1 hp36.2) ?_
  rintro _ ⟨M4, rfl, f4, hP4, hv⟩
  have fr : ∀ a, a < 99 ∨ 105 < a → M4 a = M a := fun a ha => by rw [f4 a (by omega), f3 a (by omega), hF.1 a (by omega) (by omega) (by omega)]; exact f a ha
  have hb4 : bt (M4 105 n) p = true := by rw [f4 105 (by omega)]; exact hmn n p bn (Int.le_refl n) hb2
  have hval := hv n bn (Int.le_refl n) p hp36.1 hp36.2 hb4
  have ht4 : M4 100 n = t := hP4.1.2.2.2.1.2.2.2.2.2.2.1
  refine Ok.ret ⟨M4, ?_, fr, b, ⟨hP4, hv⟩, hb4⟩
  rw [hval, ht4]
  show _ = ((M4, G), bh (M w 0) (M w 1) (M w 2) (M (w + 2)) (M (w + 3)) (M w 6) (M (w + 1)) _ _)
  rw [← fr w (by omega), ← fr (w + 1) (by omega), ← fr (w + 2) (by omega), ← fr (w + 3) (by omega)]
end CE
