/-! the class's World: a round -/
theorem srcV_dr {wd hi s e1 e2 e3 p dr dr' : Int} {m : Int → Int} (h : s ≠ 9) : srcV wd hi s e1 e2 e3 m p dr = srcV wd hi s e1 e2 e3 m p dr' := by
  unfold srcV
  rw [if_neg h, if_neg h]
theorem mkV_dr {wd hi s e1 e2 e3 p dr dr' : Int} {m : Int → Int} (h : s ≠ 9) : mkV wd hi s e1 e2 e3 m p dr = mkV wd hi s e1 e2 e3 m p dr' := by
  unfold mkV
  rw [srcV_dr h]
/-- the mark of a place that town t has from the map m -/
abbrev mkT (wd hi : Int) (er : Int → Int) (t : Int) (m : Int → Int) (p dr : Int) : Int := mkV wd hi (er (4 * t)) (er (4 * t + 1)) (er (4 * t + 2)) (er (4 * t + 3)) m p dr
abbrev errT (wd hi mk : Int) (er : Int → Int) (t : Int) : Prop := errB wd hi mk (er (4 * t)) (er (4 * t + 1)) (er (4 * t + 2)) (er (4 * t + 3))
def bldV (wd t : Int) (V f : Int → Int) (r c : Int) : Int → Int := fun i => if 36 * t ≤ i ∧ i < 36 * t + 36 ∧ (i % 36 / 6 < r ∧ i % 36 % 6 < wd ∨ i % 36 / 6 = r ∧ i % 36 % 6 < c) then V (i % 36) else f i
section WU
variable {M M' : Int → Int → Int} {G : GG} {w v t sc dr mk ma mo p : Int}
theorem X8_markFor_cg (e0 : M' w = M w) (e3 : M' (w + 3) = M (w + 3)) (es : M' ma = M ma) (hg : gW G w) (hm : mW M w) (a1 : 2 ≤ M w 0) (a2 : M w 0 ≤ 6) (b1 : 2 ≤ M w 1) (b2 : M w 1 ≤ 6) (t0 : 0 ≤ t) (t1 : t < 6) (he : errT (M w 0) (M w 1) mk (M (w + 3)) t) (hp : inV (M w 0) (M w 1) p) (q1 : G.1 ma = 1) (q2 : 0 ≤ mo) (q3 : mo + 36 ≤ G.2.1 ma) (q4 : G.2.1 ma ≤ 100000)
    (hb : ∀ i, 0 ≤ M ma i ∧ M ma i ≤ 9) (k1 : -9 ≤ dr) (k2 : dr ≤ 99) : M_X8_markFor (M', G) w t ma mo p dr = some (mkT (M w 0) (M w 1) (M (w + 3)) t (fun q => M ma (mo + q)) p dr) := by
  have h := X8_markFor_ok (M := M') (t := t) (ma := ma) (mo := mo) (p := p) (dr := dr) (mk := mk) hg (by unfold mW; rw [e0]; exact hm) (by rw [e0]; exact a1) (by rw [e0]; exact a2) (by rw [e0]; exact b1) (by rw [e0]; exact b2) t0 t1 (by rw [e0, e3]; exact he) (by rw [e0]; exact hp) q1 q2 q3 q4 (by rw [es]; exact hb) k1 k2
  rw [h, e0, e3, es]
theorem X8_build_ok (hg : gW G w) (hm : mW M w) (a1 : 2 ≤ M w 0) (a2 : M w 0 ≤ 6) (b1 : 2 ≤ M w 1) (b2 : M w 1 ≤ 6) (t0 : 0 ≤ t) (t1 : t < 6) (he : errT (M w 0) (M w 1) mk (M (w + 3)) t) (c0 : 0 ≤ M (w + 2) t) (c1 : M (w + 2) t < 6) (q1 : G.1 sc = 1) (q3 : G.2.1 sc = 216) (hs : sc ≠ w + 1)
    (hb : ∀ i, 0 ≤ M sc i ∧ M sc i ≤ 9) (k1 : -9 ≤ dr) (k2 : dr ≤ 99) : M_X8_build (M, G) w t sc dr = some (sr M (w + 1) (bldV (M w 0) t (fun p => mkT (M w 0) (M w 1) (M (w + 3)) t (fun q => M sc (36 * M (w + 2) t + q)) p dr) (M (w + 1)) (M w 1) 0), G) := by
  have hg' := hg
  have hm' := hm
  obtain ⟨g0, g1, g2, g3, g4, g5, g6, g7⟩ := hg
  obtain ⟨m3, m4, m5⟩ := hm
  refine Ok.eq ?_
  unfold M_X8_build M_X8_build_w14 M_X8_build_p80
  repeat' (with_reducible first | refine k_gf (by first | assumption | omega) (by first | assumption | ((try simp (disch := omega) only [sr_s, sr_a, sr_sr, u1_s, u1_k, m4]); exact rfl)) ?_ | refine k_gr (by first | assumption | omega) (by first | assumption | ((try simp (disch := omega) only [sr_s, sr_a, sr_sr, u1_s, u1_k, m4]); exact rfl)) (by omega) ?_ | refine k_ald (by first | assumption | omega) (by first | assumption | exact rfl) (by omega) (by omega) (by omega) (by first | assumption | ((try simp (disch := omega) only [sr_s, sr_a, sr_sr, u1_s, u1_k, m4]); exact rfl)) ?_ | refine k_ifT (by first | (simp (disch := omega) only [w32_id]; first | done | omega) | omega) ?_ | refine k_ifF (by first | (simp (disch := omega) only [w32_id]; first | done | omega) | omega) ?_ | refine k_pf (by first | assumption | omega) (by (try simp (disch := omega) only [sr_s, sr_a, sr_sr, u1_u1, m4]); exact rfl) ?_ | refine k_ast (by first | assumption | omega) (by first | assumption | exact rfl) (by omega) (by omega) (by omega) (by (try simp (disch := omega) only [sr_s, sr_a, sr_sr, u1_u1, m4]); exact rfl) ?_ | refine k_irm (by omega) (by omega) (by omega) (by omega) ?_ | refine k_idv (by omega) (by omega) (by omega) (by omega) ?_ | refine k_tk (by first | assumption | omega) ?_ | refine k_rp (by omega) ?_ | refine k_aldR (by first | assumption | omega) (by first | assumption | exact rfl) (by omega) (by omega) (by omega) (by first | assumption | ((try simp (disch := omega) only [sr_s, sr_a, sr_sr, u1_s, u1_k, m4]); exact rfl)) (by omega) ?_ | refine k_astR (by first | assumption | omega) (by first | assumption | exact rfl) (by omega) (by omega) (by omega) (by first | assumption | omega) (by (try simp (disch := omega) only [sr_s, sr_a, sr_sr, u1_u1, m4]); exact rfl) ?_ | refine k_pz (by first | assumption | omega) (by omega) (by (try simp (disch := omega) only [sr_s, sr_a, sr_sr, u1_u1, m4]); exact rfl) ?_ | refine k_alen (by first | assumption | omega) (by first | assumption | exact rfl) ?_ | refine k_cpy (by first | assumption | omega) (by first | assumption | omega) (by first | assumption | exact rfl) (by first | assumption | exact rfl) (by omega) (by omega) (by omega) (by omega) (by omega) (by omega) (by omega) (by omega) (by (try simp (disch := omega) only [sr_s, sr_a, sr_sr, u1_u1, m4]); exact rfl) ?_ | refine k_if (by (try simp (disch := omega) only [w32_id]); exact Iff.rfl) (fun c => ?_) (fun c => ?_))
  generalize hV : (fun p => mkT (M w 0) (M w 1) (M (w + 3)) t (fun q => M sc (36 * M (w + 2) t + q)) p dr) = V
  refine k_eq (wh_st (fun i => ((sr M (w + 1) (bldV (M w 0) t V (M (w + 1)) (i : Int) 0), G), (i : Int))) (M w 1).toNat (by omega) (t := (sr M (w + 1) (bldV (M w 0) t V (M (w + 1)) (M w 1) 0), G)) ?_ ?_ ?_) (Ok.ret rfl)
  · simp only [Prod.mk.injEq, and_true]
    refine ⟨?_, by omega⟩
    conv => lhs; rw [← sr_id M (w + 1)]
    congr 1
    unfold bldV
    (funext j; (try simp only [u1, cp1]); (repeat' split) <;> first | rfl | omega)
  · intro r hr
    refine Ok.eq ?_
    unfold M_X8_build_b14 M_X8_build_w26 M_X8_build_p74
    dsimp only
    repeat' (with_reducible first | refine k_gf (by first | assumption | omega) (by first | assumption | ((try simp (disch := omega) only [sr_s, sr_a, sr_sr, u1_s, u1_k]); exact rfl)) ?_ | refine k_gr (by first | assumption | omega) (by first | assumption | ((try simp (disch := omega) only [sr_s, sr_a, sr_sr, u1_s, u1_k]); exact rfl)) (by omega) ?_ | refine k_ald (by first | assumption | omega) (by first | assumption | exact rfl) (by omega) (by omega) (by omega) (by first | assumption | ((try simp (disch := omega) only [sr_s, sr_a, sr_sr, u1_s, u1_k]); exact rfl)) ?_ | refine k_ifT (by first | (simp (disch := omega) only [w32_id]; first | done | omega) | omega) ?_ | refine k_ifF (by first | (simp (disch := omega) only [w32_id]; first | done | omega) | omega) ?_ | refine k_pf (by first | assumption | omega) (by (try simp (disch := omega) only [sr_s, sr_a, sr_sr, u1_u1]); exact rfl) ?_ | refine k_ast (by first | assumption | omega) (by first | assumption | exact rfl) (by omega) (by omega) (by omega) (by (try simp (disch := omega) only [sr_s, sr_a, sr_sr, u1_u1]); exact rfl) ?_ | refine k_irm (by omega) (by omega) (by omega) (by omega) ?_ | refine k_idv (by omega) (by omega) (by omega) (by omega) ?_ | refine k_tk (by first | assumption | omega) ?_ | refine k_rp (by omega) ?_ | refine k_aldR (by first | assumption | omega) (by first | assumption | exact rfl) (by omega) (by omega) (by omega) (by first | assumption | ((try simp (disch := omega) only [sr_s, sr_a, sr_sr, u1_s, u1_k]); exact rfl)) (by omega) ?_ | refine k_astR (by first | assumption | omega) (by first | assumption | exact rfl) (by omega) (by omega) (by omega) (by first | assumption | omega) (by (try simp (disch := omega) only [sr_s, sr_a, sr_sr, u1_u1]); exact rfl) ?_ | refine k_pz (by first | assumption | omega) (by omega) (by (try simp (disch := omega) only [sr_s, sr_a, sr_sr, u1_u1]); exact rfl) ?_ | refine k_alen (by first | assumption | omega) (by first | assumption | exact rfl) ?_ | refine k_cpy (by first | assumption | omega) (by first | assumption | omega) (by first | assumption | exact rfl) (by first | assumption | exact rfl) (by omega) (by omega) (by omega) (by omega) (by omega) (by omega) (by omega) (by omega) (by (try simp (disch := omega) only [sr_s, sr_a, sr_sr, u1_u1]); exact rfl) ?_ | refine k_if (by (try simp (disch := omega) only [w32_id]); exact Iff.rfl) (fun c => ?_) (fun c => ?_))
    refine k_eq (wh_st (fun i => ((sr M (w + 1) (bldV (M w 0) t V (M (w + 1)) (r : Int) (i : Int)), G), (i : Int))) (M w 0).toNat (by omega) (t := (sr M (w + 1) (bldV (M w 0) t V (M (w + 1)) (((r + 1 : Nat) : Int)) 0), G)) rfl ?_ ?_) (Ok.ret rfl)
    · intro c hc
      have hk := X8_markFor_cg (M' := sr M (w + 1) (bldV (M w 0) t V (M (w + 1)) (r : Int) (c : Int))) (M := M) (mo := 36 * M (w + 2) t) (p := 6 * (r : Int) + (c : Int)) (ma := sc) (dr := dr) (sr_a _ _ (by omega)) (sr_a _ _ (by omega)) (sr_a _ _ (by omega)) hg' hm' a1 a2 b1 b2 t0 t1 he (by unfold inV; omega) q1 (by omega) (by omega) (by omega) hb k1 k2
      refine Ok.eq ?_
      unfold M_X8_build_b26
      dsimp only
      repeat' (with_reducible first | refine k_gf (by first | assumption | omega) (by first | assumption | ((try simp (disch := omega) only [sr_s, sr_a, sr_sr, u1_s, u1_k, m3]); exact rfl)) ?_ | refine k_gr (by first | assumption | omega) (by first | assumption | ((try simp (disch := omega) only [sr_s, sr_a, sr_sr, u1_s, u1_k, m3]); exact rfl)) (by omega) ?_ | refine k_ald (by first | assumption | omega) (by first | assumption | exact rfl) (by omega) (by omega) (by omega) (by first | assumption | ((try simp (disch := omega) only [sr_s, sr_a, sr_sr, u1_s, u1_k, m3]); exact rfl)) ?_ | refine k_ifT (by first | (simp (disch := omega) only [w32_id]; first | done | omega) | omega) ?_ | refine k_ifF (by first | (simp (disch := omega) only [w32_id]; first | done | omega) | omega) ?_ | refine k_pf (by first | assumption | omega) (by (try simp (disch := omega) only [sr_s, sr_a, sr_sr, u1_u1, m3]); exact rfl) ?_ | refine k_ast (by first | assumption | omega) (by first | assumption | exact rfl) (by omega) (by omega) (by omega) (by (try simp (disch := omega) only [sr_s, sr_a, sr_sr, u1_u1, m3]); exact rfl) ?_ | refine k_irm (by omega) (by omega) (by omega) (by omega) ?_ | refine k_idv (by omega) (by omega) (by omega) (by omega) ?_ | refine k_tk (by first | assumption | omega) ?_ | refine k_rp (by omega) ?_ | refine k_aldR (by first | assumption | omega) (by first | assumption | exact rfl) (by omega) (by omega) (by omega) (by first | assumption | ((try simp (disch := omega) only [sr_s, sr_a, sr_sr, u1_s, u1_k, m3]); exact rfl)) (by omega) ?_ | refine k_astR (by first | assumption | omega) (by first | assumption | exact rfl) (by omega) (by omega) (by omega) (by first | assumption | omega) (by (try simp (disch := omega) only [sr_s, sr_a, sr_sr, u1_u1, m3]); exact rfl) ?_ | refine k_pz (by first | assumption | omega) (by omega) (by (try simp (disch := omega) only [sr_s, sr_a, sr_sr, u1_u1, m3]); exact rfl) ?_ | refine k_alen (by first | assumption | omega) (by first | assumption | exact rfl) ?_ | refine k_cpy (by first | assumption | omega) (by first | assumption | omega) (by first | assumption | exact rfl) (by first | assumption | exact rfl) (by omega) (by omega) (by omega) (by omega) (by omega) (by omega) (by omega) (by omega) (by (try simp (disch := omega) only [sr_s, sr_a, sr_sr, u1_u1, m3]); exact rfl) ?_ | refine k_if (by (try simp (disch := omega) only [w32_id]); exact Iff.rfl) (fun c => ?_) (fun c => ?_))
      refine k_eq hk ?_
      repeat' (with_reducible first | refine k_gf (by first | assumption | omega) (by first | assumption | ((try simp (disch := omega) only [sr_s, sr_a, sr_sr, u1_s, u1_k, m3]); exact rfl)) ?_ | refine k_gr (by first | assumption | omega) (by first | assumption | ((try simp (disch := omega) only [sr_s, sr_a, sr_sr, u1_s, u1_k, m3]); exact rfl)) (by omega) ?_ | refine k_ald (by first | assumption | omega) (by first | assumption | exact rfl) (by omega) (by omega) (by omega) (by first | assumption | ((try simp (disch := omega) only [sr_s, sr_a, sr_sr, u1_s, u1_k, m3]); exact rfl)) ?_ | refine k_ifT (by first | (simp (disch := omega) only [w32_id]; first | done | omega) | omega) ?_ | refine k_ifF (by first | (simp (disch := omega) only [w32_id]; first | done | omega) | omega) ?_ | refine k_pf (by first | assumption | omega) (by (try simp (disch := omega) only [sr_s, sr_a, sr_sr, u1_u1, m3]); exact rfl) ?_ | refine k_ast (by first | assumption | omega) (by first | assumption | exact rfl) (by omega) (by omega) (by omega) (by (try simp (disch := omega) only [sr_s, sr_a, sr_sr, u1_u1, m3]); exact rfl) ?_ | refine k_irm (by omega) (by omega) (by omega) (by omega) ?_ | refine k_idv (by omega) (by omega) (by omega) (by omega) ?_ | refine k_tk (by first | assumption | omega) ?_ | refine k_rp (by omega) ?_ | refine k_aldR (by first | assumption | omega) (by first | assumption | exact rfl) (by omega) (by omega) (by omega) (by first | assumption | ((try simp (disch := omega) only [sr_s, sr_a, sr_sr, u1_s, u1_k, m3]); exact rfl)) (by omega) ?_ | refine k_astR (by first | assumption | omega) (by first | assumption | exact rfl) (by omega) (by omega) (by omega) (by first | assumption | omega) (by (try simp (disch := omega) only [sr_s, sr_a, sr_sr, u1_u1, m3]); exact rfl) ?_ | refine k_pz (by first | assumption | omega) (by omega) (by (try simp (disch := omega) only [sr_s, sr_a, sr_sr, u1_u1, m3]); exact rfl) ?_ | refine k_alen (by first | assumption | omega) (by first | assumption | exact rfl) ?_ | refine k_cpy (by first | assumption | omega) (by first | assumption | omega) (by first | assumption | exact rfl) (by first | assumption | exact rfl) (by omega) (by omega) (by omega) (by omega) (by omega) (by omega) (by omega) (by omega) (by (try simp (disch := omega) only [sr_s, sr_a, sr_sr, u1_u1, m3]); exact rfl) ?_ | refine k_if (by (try simp (disch := omega) only [w32_id]); exact Iff.rfl) (fun c => ?_) (fun c => ?_))
      refine Ok.ret ?_
      simp only [Sum.inl.injEq, Prod.mk.injEq, and_true, true_and]
      refine ⟨?_, by omega⟩
      congr 1
      rw [show mkT (M w 0) (M w 1) (M (w + 3)) t (fun q => M sc (36 * M (w + 2) t + q)) (6 * (r : Int) + (c : Int)) dr = V (6 * (r : Int) + (c : Int)) from by rw [← hV]]
      funext j
      simp only [u1, bldV]
      by_cases c1 : j = 36 * t + (6 * (r : Int) + (c : Int))
      · rw [if_pos c1, if_pos (by omega)]
        congr 1
        omega
      · rw [if_neg c1]
        (repeat' split) <;> first | rfl | omega
    · refine Ok.eq ?_
      unfold M_X8_build_b26
      dsimp only
      repeat' (with_reducible first | refine k_gf (by first | assumption | omega) (by first | assumption | ((try simp (disch := omega) only [sr_s, sr_a, sr_sr, u1_s, u1_k]); exact rfl)) ?_ | refine k_gr (by first | assumption | omega) (by first | assumption | ((try simp (disch := omega) only [sr_s, sr_a, sr_sr, u1_s, u1_k]); exact rfl)) (by omega) ?_ | refine k_ald (by first | assumption | omega) (by first | assumption | exact rfl) (by omega) (by omega) (by omega) (by first | assumption | ((try simp (disch := omega) only [sr_s, sr_a, sr_sr, u1_s, u1_k]); exact rfl)) ?_ | refine k_ifT (by first | (simp (disch := omega) only [w32_id]; first | done | omega) | omega) ?_ | refine k_ifF (by first | (simp (disch := omega) only [w32_id]; first | done | omega) | omega) ?_ | refine k_pf (by first | assumption | omega) (by (try simp (disch := omega) only [sr_s, sr_a, sr_sr, u1_u1]); exact rfl) ?_ | refine k_ast (by first | assumption | omega) (by first | assumption | exact rfl) (by omega) (by omega) (by omega) (by (try simp (disch := omega) only [sr_s, sr_a, sr_sr, u1_u1]); exact rfl) ?_ | refine k_irm (by omega) (by omega) (by omega) (by omega) ?_ | refine k_idv (by omega) (by omega) (by omega) (by omega) ?_ | refine k_tk (by first | assumption | omega) ?_ | refine k_rp (by omega) ?_ | refine k_aldR (by first | assumption | omega) (by first | assumption | exact rfl) (by omega) (by omega) (by omega) (by first | assumption | ((try simp (disch := omega) only [sr_s, sr_a, sr_sr, u1_s, u1_k]); exact rfl)) (by omega) ?_ | refine k_astR (by first | assumption | omega) (by first | assumption | exact rfl) (by omega) (by omega) (by omega) (by first | assumption | omega) (by (try simp (disch := omega) only [sr_s, sr_a, sr_sr, u1_u1]); exact rfl) ?_ | refine k_pz (by first | assumption | omega) (by omega) (by (try simp (disch := omega) only [sr_s, sr_a, sr_sr, u1_u1]); exact rfl) ?_ | refine k_alen (by first | assumption | omega) (by first | assumption | exact rfl) ?_ | refine k_cpy (by first | assumption | omega) (by first | assumption | omega) (by first | assumption | exact rfl) (by first | assumption | exact rfl) (by omega) (by omega) (by omega) (by omega) (by omega) (by omega) (by omega) (by omega) (by (try simp (disch := omega) only [sr_s, sr_a, sr_sr, u1_u1]); exact rfl) ?_ | refine k_if (by (try simp (disch := omega) only [w32_id]); exact Iff.rfl) (fun c => ?_) (fun c => ?_))
      refine Ok.ret ?_
      simp only [Sum.inr.injEq, Prod.mk.injEq, and_true, true_and]
      congr 1
      unfold bldV
      (funext j; (try simp only [u1, cp1]); (repeat' split) <;> first | rfl | omega)
  · refine Ok.eq ?_
    unfold M_X8_build_b14
    dsimp only
    repeat' (with_reducible first | refine k_gf (by first | assumption | omega) (by first | assumption | ((try simp (disch := omega) only [sr_s, sr_a, sr_sr, u1_s, u1_k]); exact rfl)) ?_ | refine k_gr (by first | assumption | omega) (by first | assumption | ((try simp (disch := omega) only [sr_s, sr_a, sr_sr, u1_s, u1_k]); exact rfl)) (by omega) ?_ | refine k_ald (by first | assumption | omega) (by first | assumption | exact rfl) (by omega) (by omega) (by omega) (by first | assumption | ((try simp (disch := omega) only [sr_s, sr_a, sr_sr, u1_s, u1_k]); exact rfl)) ?_ | refine k_ifT (by first | (simp (disch := omega) only [w32_id]; first | done | omega) | omega) ?_ | refine k_ifF (by first | (simp (disch := omega) only [w32_id]; first | done | omega) | omega) ?_ | refine k_pf (by first | assumption | omega) (by (try simp (disch := omega) only [sr_s, sr_a, sr_sr, u1_u1]); exact rfl) ?_ | refine k_ast (by first | assumption | omega) (by first | assumption | exact rfl) (by omega) (by omega) (by omega) (by (try simp (disch := omega) only [sr_s, sr_a, sr_sr, u1_u1]); exact rfl) ?_ | refine k_irm (by omega) (by omega) (by omega) (by omega) ?_ | refine k_idv (by omega) (by omega) (by omega) (by omega) ?_ | refine k_tk (by first | assumption | omega) ?_ | refine k_rp (by omega) ?_ | refine k_aldR (by first | assumption | omega) (by first | assumption | exact rfl) (by omega) (by omega) (by omega) (by first | assumption | ((try simp (disch := omega) only [sr_s, sr_a, sr_sr, u1_s, u1_k]); exact rfl)) (by omega) ?_ | refine k_astR (by first | assumption | omega) (by first | assumption | exact rfl) (by omega) (by omega) (by omega) (by first | assumption | omega) (by (try simp (disch := omega) only [sr_s, sr_a, sr_sr, u1_u1]); exact rfl) ?_ | refine k_pz (by first | assumption | omega) (by omega) (by (try simp (disch := omega) only [sr_s, sr_a, sr_sr, u1_u1]); exact rfl) ?_ | refine k_alen (by first | assumption | omega) (by first | assumption | exact rfl) ?_ | refine k_cpy (by first | assumption | omega) (by first | assumption | omega) (by first | assumption | exact rfl) (by first | assumption | exact rfl) (by omega) (by omega) (by omega) (by omega) (by omega) (by omega) (by omega) (by omega) (by (try simp (disch := omega) only [sr_s, sr_a, sr_sr, u1_u1]); exact rfl) ?_ | refine k_if (by (try simp (disch := omega) only [w32_id]); exact Iff.rfl) (fun c => ?_) (fun c => ?_))
    refine Ok.ret ?_
    simp only [Sum.inr.injEq, Prod.mk.injEq, and_true, true_and]
    congr 1
    unfold bldV
    (funext j; (try simp only [u1, cp1]); (repeat' split) <;> first | rfl | omega)
theorem cellV_o {wd hi tw : Int} {co er d ce : Int → Int} (h6 : tw ≤ 6) (hz : zO 216 ce) : zO 216 (cellV wd hi tw co er d ce) := fun k hk => by
  unfold cellV
  rw [if_neg (by omega)]
  exact hz k hk
theorem cell_step {wd hi tw i d : Int} {co er dv ce F : Int → Int} (hF : cellV wd hi tw co er dv ce = F) (i0 : 0 ≤ i) (i1 : i < tw) (c0 : 0 ≤ co i) (h6 : hi ≤ 6) (hd : er (4 * i) = 9 → d = dv i) : bldV wd i (fun p => mkT wd hi er i (fun q => ce (36 * co i + q)) p d) (fun j => if j < 36 * i then F j else ce j) hi 0 = fun j => if j < 36 * (i + 1) then F j else ce j := by
  funext j
  have hm : ∀ p, mkT wd hi er i (fun q => ce (36 * co i + q)) p d = mkT wd hi er i (fun q => ce (36 * co i + q)) p (dv i) := fun p => by
    by_cases h9 : er (4 * i) = 9
    · rw [hd h9]
    · exact mkV_dr h9
  simp only [bldV]
  by_cases c1 : 36 * i ≤ j ∧ j < 36 * i + 36
  · have e : j / 36 = i := by omega
    by_cases c2 : j % 36 / 6 < hi ∧ j % 36 % 6 < wd
    · rw [if_pos (by omega), if_pos (by omega), hm, ← hF]
      unfold cellV
      rw [e, if_pos (by omega)]
    · rw [if_neg (by omega), if_neg (by omega), if_pos (by omega), ← hF]
      unfold cellV
      rw [if_neg (by omega)]
  · rw [if_neg (by omega)]
    (repeat' split) <;> first | rfl | omega
theorem X8_goOn_ok (hg : gW G w) (hm : mW M w) (hz : zoW M w) (hf : wfM M w mk) (q1 : G.1 sc = 1) (q3 : G.2.1 sc = 216) (hs : sc < w ∨ w + 3 < sc) (hzs : zO 216 (M sc)) : M_X8_goOn (M, G) w sc = some (sr (sr (sr M sc (M (w + 1))) (w + 1) (cellV (M w 0) (M w 1) (M w 2) (M (w + 2)) (M (w + 3)) (drV (M w 0) (M w 1) (M w 2) (M (w + 3)) (M w 6) 0) (M (w + 1)))) w (u1 (M w) 6 (nsI (rk (M (w + 3)) (M w 2).toNat) (M w 6))), G) := by
  have hg' := hg
  have hm' := hm
  obtain ⟨g0, g1, g2, g3, g4, g5, g6, g7⟩ := hg
  obtain ⟨m3, m4, m5⟩ := hm
  obtain ⟨z1, z2, z3⟩ := hz
  obtain ⟨a1, a2, b1, b2, t1, t6, k2, k6, hco, her, het, hcz, s0, s1, hce⟩ := hf
  have hwe : ∀ i, w32 (M (w + 3) i) = M (w + 3) i := fun i => w32_id (by have := her i; omega) (by have := her i; omega)
  have hwc : ∀ i, w32 (M (w + 2) i) = M (w + 2) i := fun i => w32_id (by have := hco i; omega) (by have := hco i; omega)
  have hcb : ∀ i, 0 ≤ M (w + 1) i ∧ M (w + 1) i ≤ 9 := fun i => by have := hce i; omega
  refine Ok.eq ?_
  unfold M_X8_goOn M_X8_goOn_w17 M_X8_goOn_p82
  repeat' (with_reducible first | refine k_gf (by first | assumption | omega) (by first | assumption | ((try simp (disch := omega) only [sr_s, sr_a, sr_sr, u1_s, u1_k, m3]); exact rfl)) ?_ | refine k_gr (by first | assumption | omega) (by first | assumption | ((try simp (disch := omega) only [sr_s, sr_a, sr_sr, u1_s, u1_k, m3]); exact rfl)) (by omega) ?_ | refine k_ald (by first | assumption | omega) (by first | assumption | exact rfl) (by omega) (by omega) (by omega) (by first | assumption | ((try simp (disch := omega) only [sr_s, sr_a, sr_sr, u1_s, u1_k, m3]); exact rfl)) ?_ | refine k_ifT (by first | (simp (disch := omega) only [w32_id]; first | done | omega) | omega) ?_ | refine k_ifF (by first | (simp (disch := omega) only [w32_id]; first | done | omega) | omega) ?_ | refine k_pf (by first | assumption | omega) (by (try simp (disch := omega) only [sr_s, sr_a, sr_sr, u1_u1, m3]); exact rfl) ?_ | refine k_ast (by first | assumption | omega) (by first | assumption | exact rfl) (by omega) (by omega) (by omega) (by (try simp (disch := omega) only [sr_s, sr_a, sr_sr, u1_u1, m3]); exact rfl) ?_ | refine k_irm (by omega) (by omega) (by omega) (by omega) ?_ | refine k_idv (by omega) (by omega) (by omega) (by omega) ?_ | refine k_tk (by first | assumption | omega) ?_ | refine k_rp (by omega) ?_ | refine k_aldR (by first | assumption | omega) (by first | assumption | exact rfl) (by omega) (by omega) (by omega) (by first | assumption | ((try simp (disch := omega) only [sr_s, sr_a, sr_sr, u1_s, u1_k, m3]); exact rfl)) (by omega) ?_ | refine k_astR (by first | assumption | omega) (by first | assumption | exact rfl) (by omega) (by omega) (by omega) (by first | assumption | omega) (by (try simp (disch := omega) only [sr_s, sr_a, sr_sr, u1_u1, m3]); exact rfl) ?_ | refine k_pz (by first | assumption | omega) (by omega) (by (try simp (disch := omega) only [sr_s, sr_a, sr_sr, u1_u1, m3]); exact rfl) ?_ | refine k_alen (by first | assumption | omega) (by first | assumption | exact rfl) ?_ | refine k_cpy (by first | assumption | omega) (by first | assumption | omega) (by first | assumption | exact rfl) (by first | assumption | exact rfl) (by omega) (by omega) (by omega) (by omega) (by omega) (by omega) (by omega) (by omega) (by (try simp (disch := omega) only [sr_s, sr_a, sr_sr, u1_u1, m3]); exact rfl) ?_ | refine k_if (by (try simp (disch := omega) only [w32_id]); exact Iff.rfl) (fun c => ?_) (fun c => ?_))
  rw [cp1_all z1 hzs]
  generalize hF : cellV (M w 0) (M w 1) (M w 2) (M (w + 2)) (M (w + 3)) (drV (M w 0) (M w 1) (M w 2) (M (w + 3)) (M w 6) 0) (M (w + 1)) = F
  refine k_eq (wh_st (fun i => ((sr (sr (sr M sc (M (w + 1))) (w + 1) (fun j => if j < 36 * (i : Int) then F j else M (w + 1) j)) w (u1 (M w) 6 (nsI (rk (M (w + 3)) i) (M w 6))), G), (i : Int))) (M w 2).toNat (by omega) (t := (sr (sr (sr M sc (M (w + 1))) (w + 1) F) w (u1 (M w) 6 (nsI (rk (M (w + 3)) (M w 2).toNat) (M w 6))), G)) ?_ ?_ ?_) (Ok.ret rfl)
  · simp only [Prod.mk.injEq, and_true]
    refine ⟨?_, by omega⟩
    (funext a; simp only [sr]; (repeat' split) <;> first | rfl | omega | skip)
    · rename_i h1; subst h1; funext j; unfold u1; split
      · rename_i h; rw [h]; rfl
      · rfl
    · rename_i h1 h2; subst h2; funext j; split
      · rw [← hF]; unfold cellV; rw [if_neg (by omega)]
      · rfl
  · intro i hi
    refine Ok.eq ?_
    unfold M_X8_goOn_b17 M_X8_goOn_p76 M_X8_goOn_p69 M_X8_goOn_p76
    dsimp only
    have hti := het i (by omega) (by omega)
    have hci := hco i
    have hsb := nsI_b s0 s1 (rk (M (w + 3)) i)
    repeat' (with_reducible first | refine k_gf (by first | assumption | omega) (by first | assumption | ((try simp (disch := omega) only [sr_s, sr_a, sr_sr, u1_s, u1_k, m4, m5]); exact rfl)) ?_ | refine k_gr (by first | assumption | omega) (by first | assumption | ((try simp (disch := omega) only [sr_s, sr_a, sr_sr, u1_s, u1_k, m4, m5]); exact rfl)) (by omega) ?_ | refine k_ald (by first | assumption | omega) (by first | assumption | exact rfl) (by omega) (by omega) (by omega) (by first | assumption | ((try simp (disch := omega) only [sr_s, sr_a, sr_sr, u1_s, u1_k, m4, m5]); exact rfl)) ?_ | refine k_ifT (by first | (simp (disch := omega) only [w32_id, hwc, hwe]; first | done | omega) | omega) ?_ | refine k_ifF (by first | (simp (disch := omega) only [w32_id, hwc, hwe]; first | done | omega) | omega) ?_ | refine k_pf (by first | assumption | omega) (by (try simp (disch := omega) only [sr_s, sr_a, sr_sr, u1_u1, m4, m5]); exact rfl) ?_ | refine k_ast (by first | assumption | omega) (by first | assumption | exact rfl) (by omega) (by omega) (by omega) (by (try simp (disch := omega) only [sr_s, sr_a, sr_sr, u1_u1, m4, m5]); exact rfl) ?_ | refine k_irm (by omega) (by omega) (by omega) (by omega) ?_ | refine k_idv (by omega) (by omega) (by omega) (by omega) ?_ | refine k_tk (by first | assumption | omega) ?_ | refine k_rp (by omega) ?_ | refine k_aldR (by first | assumption | omega) (by first | assumption | exact rfl) (by omega) (by omega) (by omega) (by first | assumption | ((try simp (disch := omega) only [sr_s, sr_a, sr_sr, u1_s, u1_k, m4, m5]); exact rfl)) (by omega) ?_ | refine k_astR (by first | assumption | omega) (by first | assumption | exact rfl) (by omega) (by omega) (by omega) (by first | assumption | omega) (by (try simp (disch := omega) only [sr_s, sr_a, sr_sr, u1_u1, m4, m5]); exact rfl) ?_ | refine k_pz (by first | assumption | omega) (by omega) (by (try simp (disch := omega) only [sr_s, sr_a, sr_sr, u1_u1, m4, m5]); exact rfl) ?_ | refine k_alen (by first | assumption | omega) (by first | assumption | exact rfl) ?_ | refine k_cpy (by first | assumption | omega) (by first | assumption | omega) (by first | assumption | exact rfl) (by first | assumption | exact rfl) (by omega) (by omega) (by omega) (by omega) (by omega) (by omega) (by omega) (by omega) (by (try simp (disch := omega) only [sr_s, sr_a, sr_sr, u1_u1, m4, m5]); exact rfl) ?_ | refine k_if (by (try simp (disch := omega) only [w32_id, hwc, hwe]); exact Iff.rfl) (fun c => ?_) (fun c => ?_))
    · refine Ok.ret ?_
      simp only [Sum.inl.injEq, Prod.mk.injEq, and_true, true_and]
      refine ⟨?_, by omega⟩
      have hr : rk (M (w + 3)) (i + 1) = rk (M (w + 3)) i := by show _ + _ = _; rw [if_neg (by have := (hcz i (by omega) (by omega) (by assumption)).2; omega)]; rfl
      rw [hr]
      congr 2
      funext j
      rw [← hF]
      by_cases c1 : j < 36 * (i : Int)
      · rw [if_pos c1, if_pos (by omega)]
      · rw [if_neg c1]
        split
        · unfold cellV
          rw [if_neg (by rw [show j / 36 = (i : Int) by omega]; omega)]
        · rfl
    · refine k_eq (X8_nextSeed_ok (by omega) (by omega)) ?_
      repeat' (with_reducible first | refine k_gf (by first | assumption | omega) (by first | assumption | ((try simp (disch := omega) only [sr_s, sr_a, sr_sr, u1_s, u1_k, m4, m5]); exact rfl)) ?_ | refine k_gr (by first | assumption | omega) (by first | assumption | ((try simp (disch := omega) only [sr_s, sr_a, sr_sr, u1_s, u1_k, m4, m5]); exact rfl)) (by omega) ?_ | refine k_ald (by first | assumption | omega) (by first | assumption | exact rfl) (by omega) (by omega) (by omega) (by first | assumption | ((try simp (disch := omega) only [sr_s, sr_a, sr_sr, u1_s, u1_k, m4, m5]); exact rfl)) ?_ | refine k_ifT (by first | (simp (disch := omega) only [w32_id, hwc, hwe]; first | done | omega) | omega) ?_ | refine k_ifF (by first | (simp (disch := omega) only [w32_id, hwc, hwe]; first | done | omega) | omega) ?_ | refine k_pf (by first | assumption | omega) (by (try simp (disch := omega) only [sr_s, sr_a, sr_sr, u1_u1, m4, m5]); exact rfl) ?_ | refine k_ast (by first | assumption | omega) (by first | assumption | exact rfl) (by omega) (by omega) (by omega) (by (try simp (disch := omega) only [sr_s, sr_a, sr_sr, u1_u1, m4, m5]); exact rfl) ?_ | refine k_irm (by omega) (by omega) (by omega) (by omega) ?_ | refine k_idv (by omega) (by omega) (by omega) (by omega) ?_ | refine k_tk (by first | assumption | omega) ?_ | refine k_rp (by omega) ?_ | refine k_aldR (by first | assumption | omega) (by first | assumption | exact rfl) (by omega) (by omega) (by omega) (by first | assumption | ((try simp (disch := omega) only [sr_s, sr_a, sr_sr, u1_s, u1_k, m4, m5]); exact rfl)) (by omega) ?_ | refine k_astR (by first | assumption | omega) (by first | assumption | exact rfl) (by omega) (by omega) (by omega) (by first | assumption | omega) (by (try simp (disch := omega) only [sr_s, sr_a, sr_sr, u1_u1, m4, m5]); exact rfl) ?_ | refine k_pz (by first | assumption | omega) (by omega) (by (try simp (disch := omega) only [sr_s, sr_a, sr_sr, u1_u1, m4, m5]); exact rfl) ?_ | refine k_alen (by first | assumption | omega) (by first | assumption | exact rfl) ?_ | refine k_cpy (by first | assumption | omega) (by first | assumption | omega) (by first | assumption | exact rfl) (by first | assumption | exact rfl) (by omega) (by omega) (by omega) (by omega) (by omega) (by omega) (by omega) (by omega) (by (try simp (disch := omega) only [sr_s, sr_a, sr_sr, u1_u1, m4, m5]); exact rfl) ?_ | refine k_if (by (try simp (disch := omega) only [w32_id, hwc, hwe]); exact Iff.rfl) (fun c => ?_) (fun c => ?_))
      have hnb := nsV_b (s := nsI (rk (M (w + 3)) i) (M w 6))
      have hdp := dpV_in (s := nsV (nsI (rk (M (w + 3)) i) (M w 6))) a1 a2 b1 b2
      refine k_eq (X8_drawnPlace_ok hg' (by simp (disch := omega) only [sr_s, u1_k]; exact a1) (by simp (disch := omega) only [sr_s, u1_k]; exact a2) (by simp (disch := omega) only [sr_s, u1_k]; exact b1) (by simp (disch := omega) only [sr_s, u1_k]; exact b2) (by omega) (by omega)) ?_
      simp (disch := omega) only [sr_s, u1_k]
      unfold inV at hdp
      refine k_eq (X8_build_ok (mk := mk) hg' (by unfold mW; simp (disch := omega) only [sr_s, u1_k]; exact hm') (by simp (disch := omega) only [sr_s, u1_k]; exact a1) (by simp (disch := omega) only [sr_s, u1_k]; exact a2) (by simp (disch := omega) only [sr_s, u1_k]; exact b1) (by simp (disch := omega) only [sr_s, u1_k]; exact b2) (by omega) (by omega) (by simp (disch := omega) only [sr_s, sr_a, u1_k]; exact hti) (by simp (disch := omega) only [sr_s, sr_a, u1_k]; omega) (by simp (disch := omega) only [sr_s, sr_a, u1_k]; omega) q1 q3 (by omega) (by simp (disch := omega) only [sr_s, sr_a]; exact hcb) (by omega) (by omega)) ?_
      refine Ok.ret ?_
      simp only [Sum.inl.injEq, Prod.mk.injEq, and_true, true_and]
      refine ⟨?_, by omega⟩
      have hr : rk (M (w + 3)) (i + 1) = rk (M (w + 3)) i + 1 := by show _ + _ = _; rw [if_pos (by assumption)]
      rw [hr]
      simp (disch := omega) only [sr_s, sr_a, u1_k]
      rw [sr_cm _ _ _ (by omega), sr_sr]
      congr 2
      have := cell_step hF (i := i) (d := dpV (M w 0) (M w 1) (nsV (nsI (rk (M (w + 3)) i) (M w 6)))) (by omega) (by omega) (by omega) b2 (fun _ => by
        show _ = dpV _ _ (nsI (0 * _ + rk (M (w + 3)) ((i : Int).toNat) + 1) _)
        rw [Nat.zero_mul, Nat.zero_add, Int.toNat_natCast]; rfl)
      rw [this]
      rfl
    · refine k_eq (X8_build_ok (mk := mk) hg' (by unfold mW; simp (disch := omega) only [sr_s, u1_k]; exact hm') (by simp (disch := omega) only [sr_s, u1_k]; exact a1) (by simp (disch := omega) only [sr_s, u1_k]; exact a2) (by simp (disch := omega) only [sr_s, u1_k]; exact b1) (by simp (disch := omega) only [sr_s, u1_k]; exact b2) (by omega) (by omega) (by simp (disch := omega) only [sr_s, sr_a, u1_k]; exact hti) (by simp (disch := omega) only [sr_s, sr_a, u1_k]; omega) (by simp (disch := omega) only [sr_s, sr_a, u1_k]; omega) q1 q3 (by omega) (by simp (disch := omega) only [sr_s, sr_a]; exact hcb) (by omega) (by omega)) ?_
      refine Ok.ret ?_
      simp only [Sum.inl.injEq, Prod.mk.injEq, and_true, true_and]
      refine ⟨?_, by omega⟩
      have hr : rk (M (w + 3)) (i + 1) = rk (M (w + 3)) i := by show _ + _ = _; rw [if_neg (by assumption)]; rfl
      rw [hr]
      simp (disch := omega) only [sr_s, sr_a, u1_k]
      rw [sr_cm _ _ _ (by omega), sr_sr]
      congr 2
      have := cell_step hF (i := i) (d := -1) (by omega) (by omega) (by omega) b2 (fun h => absurd h (by assumption))
      rw [this]
      rfl
  · refine Ok.eq ?_
    unfold M_X8_goOn_b17
    dsimp only
    repeat' (with_reducible first | refine k_gf (by first | assumption | omega) (by first | assumption | ((try simp (disch := omega) only [sr_s, sr_a, sr_sr, u1_s, u1_k]); exact rfl)) ?_ | refine k_gr (by first | assumption | omega) (by first | assumption | ((try simp (disch := omega) only [sr_s, sr_a, sr_sr, u1_s, u1_k]); exact rfl)) (by omega) ?_ | refine k_ald (by first | assumption | omega) (by first | assumption | exact rfl) (by omega) (by omega) (by omega) (by first | assumption | ((try simp (disch := omega) only [sr_s, sr_a, sr_sr, u1_s, u1_k]); exact rfl)) ?_ | refine k_ifT (by first | (simp (disch := omega) only [w32_id]; first | done | omega) | omega) ?_ | refine k_ifF (by first | (simp (disch := omega) only [w32_id]; first | done | omega) | omega) ?_ | refine k_pf (by first | assumption | omega) (by (try simp (disch := omega) only [sr_s, sr_a, sr_sr, u1_u1]); exact rfl) ?_ | refine k_ast (by first | assumption | omega) (by first | assumption | exact rfl) (by omega) (by omega) (by omega) (by (try simp (disch := omega) only [sr_s, sr_a, sr_sr, u1_u1]); exact rfl) ?_ | refine k_irm (by omega) (by omega) (by omega) (by omega) ?_ | refine k_idv (by omega) (by omega) (by omega) (by omega) ?_ | refine k_tk (by first | assumption | omega) ?_ | refine k_rp (by omega) ?_ | refine k_aldR (by first | assumption | omega) (by first | assumption | exact rfl) (by omega) (by omega) (by omega) (by first | assumption | ((try simp (disch := omega) only [sr_s, sr_a, sr_sr, u1_s, u1_k]); exact rfl)) (by omega) ?_ | refine k_astR (by first | assumption | omega) (by first | assumption | exact rfl) (by omega) (by omega) (by omega) (by first | assumption | omega) (by (try simp (disch := omega) only [sr_s, sr_a, sr_sr, u1_u1]); exact rfl) ?_ | refine k_pz (by first | assumption | omega) (by omega) (by (try simp (disch := omega) only [sr_s, sr_a, sr_sr, u1_u1]); exact rfl) ?_ | refine k_alen (by first | assumption | omega) (by first | assumption | exact rfl) ?_ | refine k_cpy (by first | assumption | omega) (by first | assumption | omega) (by first | assumption | exact rfl) (by first | assumption | exact rfl) (by omega) (by omega) (by omega) (by omega) (by omega) (by omega) (by omega) (by omega) (by (try simp (disch := omega) only [sr_s, sr_a, sr_sr, u1_u1]); exact rfl) ?_ | refine k_if (by (try simp (disch := omega) only [w32_id]); exact Iff.rfl) (fun c => ?_) (fun c => ?_))
    refine Ok.ret ?_
    simp only [Sum.inr.injEq, Prod.mk.injEq, and_true, true_and]
    congr 2
    funext j
    split
    · rfl
    · rw [← hF]; unfold cellV; rw [if_neg (by omega)]
/-- so many rounds -/
theorem bh_o {wd hi tw s0 : Int} {co er ce : Int → Int} (h6 : tw ≤ 6) (hz : zO 216 ce) : ∀ k, zO 216 (bh wd hi tw co er s0 ce k)
  | 0 => hz
  | k + 1 => cellV_o h6 (bh_o h6 hz k)
theorem cellV_b {wd hi tw mk s0 : Int} {co er ce dv : Int → Int} (hf : wfW wd hi tw mk co er s0 ce) : ∀ i, 0 ≤ cellV wd hi tw co er dv ce i ∧ cellV wd hi tw co er dv ce i < mk := by
  obtain ⟨a1, a2, b1, b2, t1, t6, k2, k6, hco, her, het, hcz, s0, s1, hce⟩ := hf
  intro i
  unfold cellV
  split
  · rename_i h
    exact mkV_b a1 a2 b1 b2 (by omega) (het _ (by omega) (by omega)) ⟨by omega, h.2.2.1, h.2.2.2.1⟩ (fun q _ => hce _)
  · exact hce i
theorem bh_wf {wd hi tw mk s0 : Int} {co er ce : Int → Int} (hf : wfW wd hi tw mk co er s0 ce) : ∀ k, wfW wd hi tw mk co er (nsI (k * rk er tw.toNat) s0) (bh wd hi tw co er s0 ce k)
  | 0 => by rw [Nat.zero_mul]; exact hf
  | k + 1 => by
    have h := cellV_b (dv := drV wd hi tw er s0 k) (bh_wf hf k)
    obtain ⟨a1, a2, b1, b2, t1, t6, k2, k6, hco, her, het, hcz, s0, s1, hce⟩ := hf
    have hb := nsI_b s0 s1 ((k + 1) * rk er tw.toNat)
    exact ⟨a1, a2, b1, b2, t1, t6, k2, k6, hco, her, het, hcz, hb.1, hb.2, h⟩
theorem drV_go {wd hi tw s0 : Int} {er : Int → Int} (k : Nat) : drV wd hi tw er (nsI (k * rk er tw.toNat) s0) 0 = drV wd hi tw er s0 k := by
  funext t
  unfold drV
  rw [← nsI_add]
  congr 2
  omega
/-- the memory in which the World at w has gone on k rounds -/
def goM (M : Int → Int → Int) (w sc : Int) (k : Nat) : Int → Int → Int := sr (sr (sr M sc (if k = 0 then M sc else bh (M w 0) (M w 1) (M w 2) (M (w + 2)) (M (w + 3)) (M w 6) (M (w + 1)) (k - 1))) (w + 1) (bh (M w 0) (M w 1) (M w 2) (M (w + 2)) (M (w + 3)) (M w 6) (M (w + 1)) k)) w (u1 (M w) 6 (nsI (k * rk (M (w + 3)) (M w 2).toNat) (M w 6)))
theorem goM_0 (hs : sc < w ∨ w + 3 < sc) : goM M w sc 0 = M := by
  unfold goM
  rw [if_pos rfl, Nat.zero_mul]
  show sr (sr (sr M sc (M sc)) (w + 1) (M (w + 1))) w (u1 (M w) 6 (M w 6)) = M
  rw [sr_id, sr_id]
  rw [show u1 (M w) 6 (M w 6) = M w from by funext j; unfold u1; split <;> first | rfl | (rename_i h; rw [h])]
  exact sr_id M w
theorem goM_ok (hg : gW G w) (hm : mW M w) (hz : zoW M w) (hf : wfM M w mk) (q1 : G.1 sc = 1) (q3 : G.2.1 sc = 216) (hs : sc < w ∨ w + 3 < sc) (hzs : zO 216 (M sc)) (k : Nat) : M_X8_goOn (goM M w sc k, G) w sc = some (goM M w sc (k + 1), G) := by
  have hw := bh_wf hf k
  have e0 : goM M w sc k w = u1 (M w) 6 (nsI (k * rk (M (w + 3)) (M w 2).toNat) (M w 6)) := sr_s _ _ _
  have e1 : goM M w sc k (w + 1) = bh (M w 0) (M w 1) (M w 2) (M (w + 2)) (M (w + 3)) (M w 6) (M (w + 1)) k := by unfold goM; rw [sr_a _ _ (by omega), sr_s]
  have e2 : goM M w sc k (w + 2) = M (w + 2) := by unfold goM; simp (disch := first | assumption | omega) only [sr_s, sr_a, sr_sr]
  have e3 : goM M w sc k (w + 3) = M (w + 3) := by unfold goM; simp (disch := first | assumption | omega) only [sr_s, sr_a, sr_sr]
  have es : goM M w sc k sc = if k = 0 then M sc else bh (M w 0) (M w 1) (M w 2) (M (w + 2)) (M (w + 3)) (M w 6) (M (w + 1)) (k - 1) := by unfold goM; simp (disch := first | assumption | omega) only [sr_s, sr_a, sr_sr]
  have f : ∀ j, j ≠ 6 → goM M w sc k w j = M w j := fun j hj => by rw [e0, u1_k _ _ hj]
  have f6 : goM M w sc k w 6 = nsI (k * rk (M (w + 3)) (M w 2).toNat) (M w 6) := by rw [e0, u1_s]
  have h6 : M w 2 ≤ 6 := hf.2.2.2.2.2.1
  have hwf : wfM (goM M w sc k) w mk := by
    show wfW _ _ _ _ _ _ _ _
    rw [f 0 (by omega), f 1 (by omega), f 2 (by omega), f6, e1, e2, e3]
    exact hw
  have hz2 : zO 216 (goM M w sc k sc) := by
    rw [es]
    by_cases h : k = 0
    · rw [if_pos h]; exact hzs
    · rw [if_neg h]; exact bh_o h6 hz.1 _
  rw [X8_goOn_ok (mk := mk) hg ⟨by rw [f 3 (by omega)]; exact hm.1, by rw [f 4 (by omega)]; exact hm.2.1, by rw [f 5 (by omega)]; exact hm.2.2⟩ ⟨by rw [e1]; exact bh_o h6 hz.1 k, by rw [e2]; exact hz.2.1, by rw [e3]; exact hz.2.2⟩ hwf q1 q3 hs hz2]
  rw [f 0 (by omega), f 1 (by omega), f 2 (by omega), f6, e1, e2, e3, drV_go, e0, u1_u1, ← nsI_add]
  congr 2
  rw [show rk (M (w + 3)) (M w 2).toNat + k * rk (M (w + 3)) (M w 2).toNat = (k + 1) * rk (M (w + 3)) (M w 2).toNat by rw [Nat.succ_mul]; omega]
  unfold goM
  rw [if_neg (show ¬ (k + 1 = 0) by omega), Nat.add_sub_cancel]
  generalize u1 (M w) 6 (nsI ((k + 1) * rk (M (w + 3)) (M w 2).toNat) (M w 6)) = A
  generalize u1 (M w) 6 (nsI (k * rk (M (w + 3)) (M w 2).toNat) (M w 6)) = B
  show sr (sr (sr (sr (sr (sr M sc _) (w + 1) _) w B) sc _) (w + 1) (bh _ _ _ _ _ _ _ (k + 1))) w A = _
  funext a
  by_cases h1 : a = w
  · subst h1; simp (disch := first | assumption | omega) only [sr_s, sr_a, sr_sr]
  by_cases h2 : a = w + 1
  · subst h2; simp (disch := first | assumption | omega) only [sr_s, sr_a, sr_sr]
  by_cases h3 : a = sc
  · subst h3; simp (disch := first | assumption | omega) only [sr_s, sr_a, sr_sr]
  simp (disch := first | assumption | omega) only [sr_s, sr_a, sr_sr]
end WU
