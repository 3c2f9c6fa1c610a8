/-! areas: the class's search -/
section A2
variable {M M1 : Int → Int → Int} {G : GG} {p : Int} {s : aS} {v : vS}
def arM (M : Int → Int → Int) (s : aS) : Int → Int → Int := sr (sr M 120 s.1) 119 s.2.1
theorem arM_120 : arM M s 120 = s.1 := by unfold arM; rw [sr_a _ _ (by omega), sr_s]
theorem arM_119 : arM M s 119 = s.2.1 := by unfold arM; rw [sr_s]
theorem arM_a {a : Int} (h : a ≠ 119) (h2 : a ≠ 120) : arM M s a = M a := by unfold arM; rw [sr_a _ _ h, sr_a _ _ h2]
theorem arM_up (f g : Int → Int) (l : Int) : sr (sr (arM M s) 120 f) 119 g = arM M (f, g, l) := by
  funext a
  unfold arM sr
  by_cases c : a = 119
  · simp [c]
  · by_cases c2 : a = 120
    · simp [c2]
    · simp [c, c2]
theorem X2_w35_ok (hG : gAll G) (hp117 : pr117 (M 117)) (a1 : 2 ≤ M 24 0) (a2 : M 24 0 ≤ 6) (b1 : 2 ≤ M 24 1) (b2 : M 24 1 ≤ 6) (h : arI (M 24 0) (M 24 1) s) {i : Int} (i0 : 0 ≤ i) (i1 : i < s.2.2) : M_X2_areaFrom_w35 FU (arM M s, G) 117 24 s.2.2 i 0 = some (.inl ((arM M (nbN (M 24 0) (M 24 1) (s.2.1 i) s 4), G), (nbN (M 24 0) (M 24 1) (s.2.1 i) s 4).2.2, i + 1)) := by
  have hin := h.2.1 i i0 i1
  have hb := inV_36 a2 b2 hin
  generalize hpp : s.2.1 i = p at *
  refine Ok.eq ?_
  unfold M_X2_areaFrom_w35 M_X2_areaFrom_p97
  refine k_eq (wh_st (fun d => ((arM M (nbN (M 24 0) (M 24 1) p s d), G), (nbN (M 24 0) (M 24 1) p s d).2.2, (d : Int))) 4 (by omega) (t := ((arM M (nbN (M 24 0) (M 24 1) p s 4), G), (nbN (M 24 0) (M 24 1) p s 4).2.2)) rfl ?_ ?_) (Ok.ret rfl)
  · intro d hd
    have hI := nbN_I a2 b2 hin h d
    have hq := nbN_q (wd := M 24 0) (hi := M 24 1) (p := p) i1 d
    rw [hpp] at hq
    have hl := hI.le
    have hl1 := hI.2.2.1
    show _ = some (Sum.inl ((arM M (nb1 (M 24 0) (M 24 1) p (nbN (M 24 0) (M 24 1) p s d) (d : Int)), G), (nb1 (M 24 0) (M 24 1) p (nbN (M 24 0) (M 24 1) p s d) (d : Int)).2.2, ((d + 1 : Nat) : Int)))
    generalize nbN (M 24 0) (M 24 1) p s d = s1 at *
    have hbe := X8_beside_ok (M := arM M s1) (w := 24) (p := p) (d := (d : Int)) (gW_24 hG) (by rw [arM_a (by omega) (by omega)]; exact a1) (by rw [arM_a (by omega) (by omega)]; exact a2) (by rw [arM_a (by omega) (by omega)]; exact b1) (by rw [arM_a (by omega) (by omega)]; exact b2) hb.1 hb.2 (by omega) (by omega)
    rw [arM_a (by omega) (by omega)] at hbe
    have hbe : M_X8_beside (arM M s1, G) 24 p (d : Int) = some (bsV (M 24 0) (M 24 1) p (d : Int)) := hbe
    have m117 := arM_a (M := M) (s := s1) (a := 117) (by omega) (by omega)
    have m119 := arM_119 (M := M) (s := s1)
    have m120 := arM_120 (M := M) (s := s1)
    have hqi := hq.1
    have k117 := gk_117 hG
    have k119 := gk_119 hG
    have l119 := gl_119 hG
    have k120 := gk_120 hG
    have l120 := gl_120 hG
    have p3 := pr117.p3 hp117
    have p4 := pr117.p4 hp117
    refine Ok.eq ?_
    unfold M_X2_areaFrom_b35 M_X2_areaFrom_p91
    dsimp only
    unfold nb1
    have hbi := bsV_in (d := (d : Int)) a2 hin
    generalize bsV (M 24 0) (M 24 1) p (d : Int) = q at *
    by_cases y : q = -1
    · rw [if_pos y]
      repeat' (with_reducible first | refine k_gf (by first | assumption | omega) (by first | assumption | ((try simp (disch := omega) only [sr_s, sr_a, sr_sr, u1_s, u1_k, m117, m119, m120, p3, p4, hqi]); exact rfl)) ?_ | refine k_gr (by first | assumption | omega) (by first | assumption | ((try simp (disch := omega) only [sr_s, sr_a, sr_sr, u1_s, u1_k, m117, m119, m120, p3, p4, hqi]); exact rfl)) (by omega) ?_ | refine k_ald (by first | assumption | omega) (by first | assumption | exact rfl) (by omega) (by omega) (by omega) (by first | assumption | ((try simp (disch := omega) only [sr_s, sr_a, sr_sr, u1_s, u1_k, m117, m119, m120, p3, p4, hqi]); exact rfl)) ?_ | refine k_aZ (by first | assumption | omega) (by first | assumption | exact rfl) (by omega) (by omega) (by omega) (by omega) (by (try simp (disch := omega) only [sr_s, sr_a, sr_sr, u1_u1, m117, m119, m120, p3, p4, hqi]); exact rfl) ?_ | refine k_eq (hbe) ?_ | refine k_ifT (by first | (simp (disch := omega) only [w32_id]; first | done | omega) | omega) ?_ | refine k_ifF (by first | (simp (disch := omega) only [w32_id]; first | done | omega) | omega) ?_ | refine k_pf (by first | assumption | omega) (by (try simp (disch := omega) only [sr_s, sr_a, sr_sr, u1_u1, m117, m119, m120, p3, p4, hqi]); exact rfl) ?_ | refine k_ast (by first | assumption | omega) (by first | assumption | exact rfl) (by omega) (by omega) (by omega) (by (try simp (disch := omega) only [sr_s, sr_a, sr_sr, u1_u1, m117, m119, m120, p3, p4, hqi]); exact rfl) ?_ | refine k_irm (by omega) (by omega) (by omega) (by omega) ?_ | refine k_idv (by omega) (by omega) (by omega) (by omega) ?_ | refine k_tk (by first | assumption | omega) ?_ | refine k_rp (by omega) ?_ | refine k_aldR (by first | assumption | omega) (by first | assumption | exact rfl) (by omega) (by omega) (by omega) (by first | assumption | ((try simp (disch := omega) only [sr_s, sr_a, sr_sr, u1_s, u1_k, m117, m119, m120, p3, p4, hqi]); exact rfl)) (by omega) ?_ | refine k_astR (by first | assumption | omega) (by first | assumption | exact rfl) (by omega) (by omega) (by omega) (by first | assumption | omega) (by (try simp (disch := omega) only [sr_s, sr_a, sr_sr, u1_u1, m117, m119, m120, p3, p4, hqi]); exact rfl) ?_ | refine k_pz (by first | assumption | omega) (by omega) (by (try simp (disch := omega) only [sr_s, sr_a, sr_sr, u1_u1, m117, m119, m120, p3, p4, hqi]); exact rfl) ?_ | refine k_alen (by first | assumption | omega) (by first | assumption | exact rfl) ?_ | refine k_cpy (by first | assumption | omega) (by first | assumption | omega) (by first | assumption | exact rfl) (by first | assumption | exact rfl) (by omega) (by omega) (by omega) (by omega) (by omega) (by omega) (by omega) (by omega) (by (try simp (disch := omega) only [sr_s, sr_a, sr_sr, u1_u1, m117, m119, m120, p3, p4, hqi]); exact rfl) ?_)
      exact Ok.ret rfl
    · have hq36 := inV_36 a2 b2 (hbi.resolve_left y)
      rw [if_neg y]
      by_cases y2 : s1.1 q = 0
      · rw [if_pos y2]
        have hlt := hI.lt hq36.1 hq36.2 y2
        repeat' (with_reducible first | refine k_gf (by first | assumption | omega) (by first | assumption | ((try simp (disch := omega) only [sr_s, sr_a, sr_sr, u1_s, u1_k, m117, m119, m120, p3, p4, hqi, y2]); exact rfl)) ?_ | refine k_gr (by first | assumption | omega) (by first | assumption | ((try simp (disch := omega) only [sr_s, sr_a, sr_sr, u1_s, u1_k, m117, m119, m120, p3, p4, hqi, y2]); exact rfl)) (by omega) ?_ | refine k_ald (by first | assumption | omega) (by first | assumption | exact rfl) (by omega) (by omega) (by omega) (by first | assumption | ((try simp (disch := omega) only [sr_s, sr_a, sr_sr, u1_s, u1_k, m117, m119, m120, p3, p4, hqi, y2]); exact rfl)) ?_ | refine k_aZ (by first | assumption | omega) (by first | assumption | exact rfl) (by omega) (by omega) (by omega) (by omega) (by (try simp (disch := omega) only [sr_s, sr_a, sr_sr, u1_u1, m117, m119, m120, p3, p4, hqi, y2]); exact rfl) ?_ | refine k_eq (hbe) ?_ | refine k_ifT (by first | (simp (disch := omega) only [w32_id]; first | done | omega) | omega) ?_ | refine k_ifF (by first | (simp (disch := omega) only [w32_id]; first | done | omega) | omega) ?_ | refine k_pf (by first | assumption | omega) (by (try simp (disch := omega) only [sr_s, sr_a, sr_sr, u1_u1, m117, m119, m120, p3, p4, hqi, y2]); exact rfl) ?_ | refine k_ast (by first | assumption | omega) (by first | assumption | exact rfl) (by omega) (by omega) (by omega) (by (try simp (disch := omega) only [sr_s, sr_a, sr_sr, u1_u1, m117, m119, m120, p3, p4, hqi, y2]); exact rfl) ?_ | refine k_irm (by omega) (by omega) (by omega) (by omega) ?_ | refine k_idv (by omega) (by omega) (by omega) (by omega) ?_ | refine k_tk (by first | assumption | omega) ?_ | refine k_rp (by omega) ?_ | refine k_aldR (by first | assumption | omega) (by first | assumption | exact rfl) (by omega) (by omega) (by omega) (by first | assumption | ((try simp (disch := omega) only [sr_s, sr_a, sr_sr, u1_s, u1_k, m117, m119, m120, p3, p4, hqi, y2]); exact rfl)) (by omega) ?_ | refine k_astR (by first | assumption | omega) (by first | assumption | exact rfl) (by omega) (by omega) (by omega) (by first | assumption | omega) (by (try simp (disch := omega) only [sr_s, sr_a, sr_sr, u1_u1, m117, m119, m120, p3, p4, hqi, y2]); exact rfl) ?_ | refine k_pz (by first | assumption | omega) (by omega) (by (try simp (disch := omega) only [sr_s, sr_a, sr_sr, u1_u1, m117, m119, m120, p3, p4, hqi, y2]); exact rfl) ?_ | refine k_alen (by first | assumption | omega) (by first | assumption | exact rfl) ?_ | refine k_cpy (by first | assumption | omega) (by first | assumption | omega) (by first | assumption | exact rfl) (by first | assumption | exact rfl) (by omega) (by omega) (by omega) (by omega) (by omega) (by omega) (by omega) (by omega) (by (try simp (disch := omega) only [sr_s, sr_a, sr_sr, u1_u1, m117, m119, m120, p3, p4, hqi, y2]); exact rfl) ?_)
        refine Ok.ret ?_
        rw [arM_up _ _ (s1.2.2 + 1)]
        rfl
      · rw [if_neg y2]
        have h01 := hI.1 q hq36.1 hq36.2
        repeat' (with_reducible first | refine k_gf (by first | assumption | omega) (by first | assumption | ((try simp (disch := omega) only [sr_s, sr_a, sr_sr, u1_s, u1_k, m117, m119, m120, p3, p4, hqi]); exact rfl)) ?_ | refine k_gr (by first | assumption | omega) (by first | assumption | ((try simp (disch := omega) only [sr_s, sr_a, sr_sr, u1_s, u1_k, m117, m119, m120, p3, p4, hqi]); exact rfl)) (by omega) ?_ | refine k_ald (by first | assumption | omega) (by first | assumption | exact rfl) (by omega) (by omega) (by omega) (by first | assumption | ((try simp (disch := omega) only [sr_s, sr_a, sr_sr, u1_s, u1_k, m117, m119, m120, p3, p4, hqi]); exact rfl)) ?_ | refine k_aZ (by first | assumption | omega) (by first | assumption | exact rfl) (by omega) (by omega) (by omega) (by omega) (by (try simp (disch := omega) only [sr_s, sr_a, sr_sr, u1_u1, m117, m119, m120, p3, p4, hqi]); exact rfl) ?_ | refine k_eq (hbe) ?_ | refine k_ifT (by first | (simp (disch := omega) only [w32_id]; first | done | omega) | omega) ?_ | refine k_ifF (by first | (simp (disch := omega) only [w32_id]; first | done | omega) | omega) ?_ | refine k_pf (by first | assumption | omega) (by (try simp (disch := omega) only [sr_s, sr_a, sr_sr, u1_u1, m117, m119, m120, p3, p4, hqi]); exact rfl) ?_ | refine k_ast (by first | assumption | omega) (by first | assumption | exact rfl) (by omega) (by omega) (by omega) (by (try simp (disch := omega) only [sr_s, sr_a, sr_sr, u1_u1, m117, m119, m120, p3, p4, hqi]); exact rfl) ?_ | refine k_irm (by omega) (by omega) (by omega) (by omega) ?_ | refine k_idv (by omega) (by omega) (by omega) (by omega) ?_ | refine k_tk (by first | assumption | omega) ?_ | refine k_rp (by omega) ?_ | refine k_aldR (by first | assumption | omega) (by first | assumption | exact rfl) (by omega) (by omega) (by omega) (by first | assumption | ((try simp (disch := omega) only [sr_s, sr_a, sr_sr, u1_s, u1_k, m117, m119, m120, p3, p4, hqi]); exact rfl)) (by omega) ?_ | refine k_astR (by first | assumption | omega) (by first | assumption | exact rfl) (by omega) (by omega) (by omega) (by first | assumption | omega) (by (try simp (disch := omega) only [sr_s, sr_a, sr_sr, u1_u1, m117, m119, m120, p3, p4, hqi]); exact rfl) ?_ | refine k_pz (by first | assumption | omega) (by omega) (by (try simp (disch := omega) only [sr_s, sr_a, sr_sr, u1_u1, m117, m119, m120, p3, p4, hqi]); exact rfl) ?_ | refine k_alen (by first | assumption | omega) (by first | assumption | exact rfl) ?_ | refine k_cpy (by first | assumption | omega) (by first | assumption | omega) (by first | assumption | exact rfl) (by first | assumption | exact rfl) (by omega) (by omega) (by omega) (by omega) (by omega) (by omega) (by omega) (by omega) (by (try simp (disch := omega) only [sr_s, sr_a, sr_sr, u1_u1, m117, m119, m120, p3, p4, hqi]); exact rfl) ?_)
        exact Ok.ret rfl
  · refine Ok.eq ?_
    unfold M_X2_areaFrom_b35
    dsimp only
    repeat' (with_reducible first | refine k_gf (by first | assumption | omega) (by first | assumption | ((try simp (disch := omega) only [sr_s, sr_a, sr_sr, u1_s, u1_k]); exact rfl)) ?_ | refine k_gr (by first | assumption | omega) (by first | assumption | ((try simp (disch := omega) only [sr_s, sr_a, sr_sr, u1_s, u1_k]); exact rfl)) (by omega) ?_ | refine k_ald (by first | assumption | omega) (by first | assumption | exact rfl) (by omega) (by omega) (by omega) (by first | assumption | ((try simp (disch := omega) only [sr_s, sr_a, sr_sr, u1_s, u1_k]); exact rfl)) ?_ | refine k_aZ (by first | assumption | omega) (by first | assumption | exact rfl) (by omega) (by omega) (by omega) (by omega) (by (try simp (disch := omega) only [sr_s, sr_a, sr_sr, u1_u1]); exact rfl) ?_ | refine k_ifT (by first | (simp (disch := omega) only [w32_id]; first | done | omega) | omega) ?_ | refine k_ifF (by first | (simp (disch := omega) only [w32_id]; first | done | omega) | omega) ?_ | refine k_pf (by first | assumption | omega) (by (try simp (disch := omega) only [sr_s, sr_a, sr_sr, u1_u1]); exact rfl) ?_ | refine k_ast (by first | assumption | omega) (by first | assumption | exact rfl) (by omega) (by omega) (by omega) (by (try simp (disch := omega) only [sr_s, sr_a, sr_sr, u1_u1]); exact rfl) ?_ | refine k_irm (by omega) (by omega) (by omega) (by omega) ?_ | refine k_idv (by omega) (by omega) (by omega) (by omega) ?_ | refine k_tk (by first | assumption | omega) ?_ | refine k_rp (by omega) ?_ | refine k_aldR (by first | assumption | omega) (by first | assumption | exact rfl) (by omega) (by omega) (by omega) (by first | assumption | ((try simp (disch := omega) only [sr_s, sr_a, sr_sr, u1_s, u1_k]); exact rfl)) (by omega) ?_ | refine k_astR (by first | assumption | omega) (by first | assumption | exact rfl) (by omega) (by omega) (by omega) (by first | assumption | omega) (by (try simp (disch := omega) only [sr_s, sr_a, sr_sr, u1_u1]); exact rfl) ?_ | refine k_pz (by first | assumption | omega) (by omega) (by (try simp (disch := omega) only [sr_s, sr_a, sr_sr, u1_u1]); exact rfl) ?_ | refine k_alen (by first | assumption | omega) (by first | assumption | exact rfl) ?_ | refine k_cpy (by first | assumption | omega) (by first | assumption | omega) (by first | assumption | exact rfl) (by first | assumption | exact rfl) (by omega) (by omega) (by omega) (by omega) (by omega) (by omega) (by omega) (by omega) (by (try simp (disch := omega) only [sr_s, sr_a, sr_sr, u1_u1]); exact rfl) ?_)
    exact Ok.ret rfl
theorem X2_areaFrom_ok (hG : gAll G) (hp117 : pr117 (M 117)) (a1 : 2 ≤ M 24 0) (a2 : M 24 0 ≤ 6) (b1 : 2 ≤ M 24 1) (b2 : M 24 1 ≤ 6) (h : arI (M 24 0) (M 24 1) (u1 (M 120) p 1, u1 (M 119) 0 p, 1)) (p0 : 0 ≤ p) (p1 : p < 36) : M_X2_areaFrom (M, G) 117 24 p = some ((arM M (arN (M 24 0) (M 24 1) (u1 (M 120) p 1, u1 (M 119) 0 p, 1) 36), G), (arN (M 24 0) (M 24 1) (u1 (M 120) p 1, u1 (M 119) 0 p, 1) 36).2.2) := by
  have k117 := gk_117 hG
  have k119 := gk_119 hG
  have l119 := gl_119 hG
  have k120 := gk_120 hG
  have l120 := gl_120 hG
  have p3 := pr117.p3 hp117
  have p4 := pr117.p4 hp117
  refine Ok.eq ?_
  unfold M_X2_areaFrom
  repeat' (with_reducible first | refine k_gf (by first | assumption | omega) (by first | assumption | ((try simp (disch := omega) only [sr_s, sr_a, sr_sr, u1_s, u1_k, p3, p4]); exact rfl)) ?_ | refine k_gr (by first | assumption | omega) (by first | assumption | ((try simp (disch := omega) only [sr_s, sr_a, sr_sr, u1_s, u1_k, p3, p4]); exact rfl)) (by omega) ?_ | refine k_ald (by first | assumption | omega) (by first | assumption | exact rfl) (by omega) (by omega) (by omega) (by first | assumption | ((try simp (disch := omega) only [sr_s, sr_a, sr_sr, u1_s, u1_k, p3, p4]); exact rfl)) ?_ | refine k_aZ (by first | assumption | omega) (by first | assumption | exact rfl) (by omega) (by omega) (by omega) (by omega) (by (try simp (disch := omega) only [sr_s, sr_a, sr_sr, u1_u1, p3, p4]); exact rfl) ?_ | refine k_ifT (by first | (simp (disch := omega) only [w32_id]; first | done | omega) | omega) ?_ | refine k_ifF (by first | (simp (disch := omega) only [w32_id]; first | done | omega) | omega) ?_ | refine k_pf (by first | assumption | omega) (by (try simp (disch := omega) only [sr_s, sr_a, sr_sr, u1_u1, p3, p4]); exact rfl) ?_ | refine k_ast (by first | assumption | omega) (by first | assumption | exact rfl) (by omega) (by omega) (by omega) (by (try simp (disch := omega) only [sr_s, sr_a, sr_sr, u1_u1, p3, p4]); exact rfl) ?_ | refine k_irm (by omega) (by omega) (by omega) (by omega) ?_ | refine k_idv (by omega) (by omega) (by omega) (by omega) ?_ | refine k_tk (by first | assumption | omega) ?_ | refine k_rp (by omega) ?_ | refine k_aldR (by first | assumption | omega) (by first | assumption | exact rfl) (by omega) (by omega) (by omega) (by first | assumption | ((try simp (disch := omega) only [sr_s, sr_a, sr_sr, u1_s, u1_k, p3, p4]); exact rfl)) (by omega) ?_ | refine k_astR (by first | assumption | omega) (by first | assumption | exact rfl) (by omega) (by omega) (by omega) (by first | assumption | omega) (by (try simp (disch := omega) only [sr_s, sr_a, sr_sr, u1_u1, p3, p4]); exact rfl) ?_ | refine k_pz (by first | assumption | omega) (by omega) (by (try simp (disch := omega) only [sr_s, sr_a, sr_sr, u1_u1, p3, p4]); exact rfl) ?_ | refine k_alen (by first | assumption | omega) (by first | assumption | exact rfl) ?_ | refine k_cpy (by first | assumption | omega) (by first | assumption | omega) (by first | assumption | exact rfl) (by first | assumption | exact rfl) (by omega) (by omega) (by omega) (by omega) (by omega) (by omega) (by omega) (by omega) (by (try simp (disch := omega) only [sr_s, sr_a, sr_sr, u1_u1, p3, p4]); exact rfl) ?_)
  have e0 : sr (sr M 119 (u1 (M 119) 0 p)) 120 (u1 (M 120) p 1) = arM M (u1 (M 120) p 1, u1 (M 119) 0 p, 1) := by
    unfold arM
    rw [sr_cm _ _ _ (by omega)]
  rw [e0]
  generalize hs : (u1 (M 120) p 1, u1 (M 119) 0 p, (1 : Int)) = s at *
  have hs1 : (1 : Int) = (arN (M 24 0) (M 24 1) s 0).2.2 := by rw [← hs]; rfl
  unfold M_X2_areaFrom_w19 M_X2_areaFrom_p103
  refine Ok.bind (Q := fun b => b = ((arM M (arN (M 24 0) (M 24 1) s 36), G), (arN (M 24 0) (M 24 1) s 36).2.2)) ?_ (fun b hb => Ok.ret (by rw [hb]))
  refine wh_for (fun i z => z = ((arM M (arN (M 24 0) (M 24 1) s i), G), (arN (M 24 0) (M 24 1) s i).2.2, (i : Int))) _ 36 (by omega) (by rw [← hs1]; rfl) ?_ ?_
  · rintro i _ hi rfl
    have hI := arN_I a2 b2 h i
    have hl := hI.le
    have hl1 := hI.2.2.1
    unfold M_X2_areaFrom_b19
    dsimp only
    by_cases y : (i : Int) < (arN (M 24 0) (M 24 1) s i).2.2
    · refine k_ifT (by rw [w32_id (by omega) (by omega), w32_id (by omega) (by omega)]; exact y) (k_ifT (by rw [w32_id (by omega) (by omega)]; omega) ?_)
      refine Ok.of (X2_w35_ok hG hp117 a1 a2 b1 b2 hI (by omega) y) ?_
      show _ = _
      have e : arN (M 24 0) (M 24 1) s (i + 1) = nbN (M 24 0) (M 24 1) ((arN (M 24 0) (M 24 1) s i).2.1 (i : Int)) (arN (M 24 0) (M 24 1) s i) 4 := if_pos y
      rw [e]
      rfl
    · refine k_ifF (by rw [w32_id (by omega) (by omega), w32_id (by omega) (by omega)]; exact y) (Ok.ret ?_)
      show _ = _
      rw [arN_36 (by omega) y]
  · rintro _ rfl
    have hI := arN_I a2 b2 h 36
    have hl := hI.le
    have hl1 := hI.2.2.1
    generalize arN (M 24 0) (M 24 1) s 36 = s36 at *
    unfold M_X2_areaFrom_b19
    dsimp only
    exact k_ifF (by rw [w32_id (by omega) (by omega), w32_id (by omega) (by omega)]; omega) (Ok.ret rfl)
def svM (M : Int → Int → Int) (v : vS) : Int → Int → Int := sr (sr (sr M 120 v.1) 119 v.2.1) 117 (u1 (u1 (M 117) 1 v.2.2.1) 2 v.2.2.2)
theorem svM_117 : svM M v 117 = u1 (u1 (M 117) 1 v.2.2.1) 2 v.2.2.2 := by unfold svM; rw [sr_s]
theorem svM_119 : svM M v 119 = v.2.1 := by unfold svM; rw [sr_a _ _ (by omega), sr_s]
theorem svM_120 : svM M v 120 = v.1 := by unfold svM; rw [sr_a _ _ (by omega), sr_a _ _ (by omega), sr_s]
theorem svM_a {a : Int} (h : a ≠ 117) (h1 : a ≠ 119) (h2 : a ≠ 120) : svM M v a = M a := by unfold svM; rw [sr_a _ _ h, sr_a _ _ h1, sr_a _ _ h2]
theorem imax_i {x y : Int} (x0 : 0 ≤ x) (x1 : x ≤ 1000) (y0 : 0 ≤ y) (y1 : y ≤ 1000) : imax x y = if x < y then y else x := by
  unfold imax
  rw [w32_id (by omega) (by omega), w32_id (by omega) (by omega)]
theorem X2_survey_loop (hG : gAll G) (hp117 : pr117 (M 117)) (a1 : 2 ≤ M 24 0) (a2 : M 24 0 ≤ 6) (b1 : 2 ≤ M 24 1) (b2 : M 24 1 ≤ 6) (h : svI (M 24 0) (M 24 1) v 0) : M_X2_survey_w55 FU (svM M v, G) 117 24 0 = some (svM M (svN (M 24 0) (M 24 1) v 36), G) := by
  refine Ok.eq ?_
  unfold M_X2_survey_w55 M_X2_survey_p103
  refine k_eq (wh_st (fun i => ((svM M (svN (M 24 0) (M 24 1) v i), G), (i : Int))) 36 (by omega) (t := (svM M (svN (M 24 0) (M 24 1) v 36), G)) rfl ?_ ?_) (Ok.ret rfl)
  · intro i hi
    have hI := svN_I a2 b2 h i (by omega)
    show _ = some (Sum.inl ((svM M (sv1 (M 24 0) (M 24 1) (svN (M 24 0) (M 24 1) v i) (i : Int)), G), ((i + 1 : Nat) : Int)))
    generalize svN (M 24 0) (M 24 1) v i = v1 at *
    have h01 := hI.1 i (by omega) (by omega)
    have m117 := svM_117 (M := M) (v := v1)
    have m119 := svM_119 (M := M) (v := v1)
    have m120 := svM_120 (M := M) (v := v1)
    have m24 := svM_a (M := M) (v := v1) (a := 24) (by omega) (by omega) (by omega)
    obtain ⟨c1, c2, c3, c4⟩ := hI.2.2
    have k117 := gk_117 hG
    have k119 := gk_119 hG
    have l119 := gl_119 hG
    have k120 := gk_120 hG
    have l120 := gl_120 hG
    have p3 := pr117.p3 hp117
    have p4 := pr117.p4 hp117
    refine Ok.eq ?_
    unfold M_X2_survey_b55 M_X2_survey_p97
    dsimp only
    unfold sv1
    by_cases y : v1.1 (i : Int) = 0
    · rw [if_pos y]
      obtain ⟨hin, hA⟩ := hI.a a2 b2 (p := (i : Int)) (by omega) (by omega) y
      have hAl := (arN_I a2 b2 hA 36).le
      have hAl1 := (arN_I a2 b2 hA 36).2.2.1
      repeat' (with_reducible first | refine k_gf (by first | assumption | omega) (by first | assumption | ((try simp (disch := omega) only [sr_s, sr_a, sr_sr, u1_s, u1_k, m117, m119, m120, p3, p4, y]); exact rfl)) ?_ | refine k_gr (by first | assumption | omega) (by first | assumption | ((try simp (disch := omega) only [sr_s, sr_a, sr_sr, u1_s, u1_k, m117, m119, m120, p3, p4, y]); exact rfl)) (by omega) ?_ | refine k_ald (by first | assumption | omega) (by first | assumption | exact rfl) (by omega) (by omega) (by omega) (by first | assumption | ((try simp (disch := omega) only [sr_s, sr_a, sr_sr, u1_s, u1_k, m117, m119, m120, p3, p4, y]); exact rfl)) ?_ | refine k_aZ (by first | assumption | omega) (by first | assumption | exact rfl) (by omega) (by omega) (by omega) (by omega) (by (try simp (disch := omega) only [sr_s, sr_a, sr_sr, u1_u1, m117, m119, m120, p3, p4, y]); exact rfl) ?_ | refine k_ifT (by first | (simp (disch := omega) only [w32_id]; first | done | omega) | omega) ?_ | refine k_ifF (by first | (simp (disch := omega) only [w32_id]; first | done | omega) | omega) ?_ | refine k_pf (by first | assumption | omega) (by (try simp (disch := omega) only [sr_s, sr_a, sr_sr, u1_u1, m117, m119, m120, p3, p4, y]); exact rfl) ?_ | refine k_ast (by first | assumption | omega) (by first | assumption | exact rfl) (by omega) (by omega) (by omega) (by (try simp (disch := omega) only [sr_s, sr_a, sr_sr, u1_u1, m117, m119, m120, p3, p4, y]); exact rfl) ?_ | refine k_irm (by omega) (by omega) (by omega) (by omega) ?_ | refine k_idv (by omega) (by omega) (by omega) (by omega) ?_ | refine k_tk (by first | assumption | omega) ?_ | refine k_rp (by omega) ?_ | refine k_aldR (by first | assumption | omega) (by first | assumption | exact rfl) (by omega) (by omega) (by omega) (by first | assumption | ((try simp (disch := omega) only [sr_s, sr_a, sr_sr, u1_s, u1_k, m117, m119, m120, p3, p4, y]); exact rfl)) (by omega) ?_ | refine k_astR (by first | assumption | omega) (by first | assumption | exact rfl) (by omega) (by omega) (by omega) (by first | assumption | omega) (by (try simp (disch := omega) only [sr_s, sr_a, sr_sr, u1_u1, m117, m119, m120, p3, p4, y]); exact rfl) ?_ | refine k_pz (by first | assumption | omega) (by omega) (by (try simp (disch := omega) only [sr_s, sr_a, sr_sr, u1_u1, m117, m119, m120, p3, p4, y]); exact rfl) ?_ | refine k_alen (by first | assumption | omega) (by first | assumption | exact rfl) ?_ | refine k_cpy (by first | assumption | omega) (by first | assumption | omega) (by first | assumption | exact rfl) (by first | assumption | exact rfl) (by omega) (by omega) (by omega) (by omega) (by omega) (by omega) (by omega) (by omega) (by (try simp (disch := omega) only [sr_s, sr_a, sr_sr, u1_u1, m117, m119, m120, p3, p4, y]); exact rfl) ?_)
      generalize hN : sr (svM M v1) 117 (u1 (u1 (u1 (M 117) 1 v1.2.2.1) 2 v1.2.2.2) 1 (v1.2.2.1 + 1)) = N
      have n24 : N 24 = M 24 := by rw [← hN, sr_a _ _ (by omega), m24]
      have n117 : N 117 = u1 (u1 (u1 (M 117) 1 v1.2.2.1) 2 v1.2.2.2) 1 (v1.2.2.1 + 1) := by rw [← hN, sr_s]
      have n119 : N 119 = v1.2.1 := by rw [← hN, sr_a _ _ (by omega), m119]
      have n120 : N 120 = v1.1 := by rw [← hN, sr_a _ _ (by omega), m120]
      have har := X2_areaFrom_ok (M := N) (p := (i : Int)) hG (by rw [n117]; exact pr117.u hp117 (fun k hk => by rw [u1_k _ _ (by omega), u1_k _ _ (by omega), u1_k _ _ (by omega)])) (by rw [n24]; exact a1) (by rw [n24]; exact a2) (by rw [n24]; exact b1) (by rw [n24]; exact b2) (by rw [n24, n119, n120]; exact hA) (by omega) (by omega)
      rw [n24, n119, n120] at har
      refine k_bd har ?_
      generalize arN (M 24 0) (M 24 1) (u1 v1.1 (i : Int) 1, u1 v1.2.1 0 (i : Int), 1) 36 = s1 at *
      rw [imax_i c3 (by omega) (by omega) (by omega)]
      have q117 : arM N s1 117 = u1 (u1 (u1 (M 117) 1 v1.2.2.1) 2 v1.2.2.2) 1 (v1.2.2.1 + 1) := by rw [arM_a (by omega) (by omega), n117]
      repeat' (with_reducible first | refine k_gf (by first | assumption | omega) (by first | assumption | ((try simp (disch := omega) only [sr_s, sr_a, sr_sr, u1_s, u1_k, q117]); exact rfl)) ?_ | refine k_gr (by first | assumption | omega) (by first | assumption | ((try simp (disch := omega) only [sr_s, sr_a, sr_sr, u1_s, u1_k, q117]); exact rfl)) (by omega) ?_ | refine k_ald (by first | assumption | omega) (by first | assumption | exact rfl) (by omega) (by omega) (by omega) (by first | assumption | ((try simp (disch := omega) only [sr_s, sr_a, sr_sr, u1_s, u1_k, q117]); exact rfl)) ?_ | refine k_aZ (by first | assumption | omega) (by first | assumption | exact rfl) (by omega) (by omega) (by omega) (by omega) (by (try simp (disch := omega) only [sr_s, sr_a, sr_sr, u1_u1, q117]); exact rfl) ?_ | refine k_ifT (by first | (simp (disch := omega) only [w32_id]; first | done | omega) | omega) ?_ | refine k_ifF (by first | (simp (disch := omega) only [w32_id]; first | done | omega) | omega) ?_ | refine k_pf (by first | assumption | omega) (by (try simp (disch := omega) only [sr_s, sr_a, sr_sr, u1_u1, q117]); exact rfl) ?_ | refine k_ast (by first | assumption | omega) (by first | assumption | exact rfl) (by omega) (by omega) (by omega) (by (try simp (disch := omega) only [sr_s, sr_a, sr_sr, u1_u1, q117]); exact rfl) ?_ | refine k_irm (by omega) (by omega) (by omega) (by omega) ?_ | refine k_idv (by omega) (by omega) (by omega) (by omega) ?_ | refine k_tk (by first | assumption | omega) ?_ | refine k_rp (by omega) ?_ | refine k_aldR (by first | assumption | omega) (by first | assumption | exact rfl) (by omega) (by omega) (by omega) (by first | assumption | ((try simp (disch := omega) only [sr_s, sr_a, sr_sr, u1_s, u1_k, q117]); exact rfl)) (by omega) ?_ | refine k_astR (by first | assumption | omega) (by first | assumption | exact rfl) (by omega) (by omega) (by omega) (by first | assumption | omega) (by (try simp (disch := omega) only [sr_s, sr_a, sr_sr, u1_u1, q117]); exact rfl) ?_ | refine k_pz (by first | assumption | omega) (by omega) (by (try simp (disch := omega) only [sr_s, sr_a, sr_sr, u1_u1, q117]); exact rfl) ?_ | refine k_alen (by first | assumption | omega) (by first | assumption | exact rfl) ?_ | refine k_cpy (by first | assumption | omega) (by first | assumption | omega) (by first | assumption | exact rfl) (by first | assumption | exact rfl) (by omega) (by omega) (by omega) (by omega) (by omega) (by omega) (by omega) (by omega) (by (try simp (disch := omega) only [sr_s, sr_a, sr_sr, u1_u1, q117]); exact rfl) ?_)
      refine Ok.ret ?_
      refine congrArg Sum.inl (Prod.ext (Prod.ext ?_ rfl) rfl)
      show sr (arM N s1) 117 _ = svM M _
      funext a
      unfold svM arM
      rw [← hN]
      unfold svM
      by_cases z1 : a = 117
      · subst z1
        rw [sr_s, sr_s]
        funext k
        unfold u1
        by_cases w2 : k = 2
        · simp [w2]
        · by_cases w1 : k = 1
          · simp [w1]
          · simp [w1, w2]
      · rw [sr_a _ _ z1, sr_a _ _ z1]
        by_cases z2 : a = 119
        · subst z2; rw [sr_s, sr_s]
        · rw [sr_a _ _ z2, sr_a _ _ z2]
          by_cases z3 : a = 120
          · subst z3; rw [sr_s, sr_s]
          · rw [sr_a _ _ z3, sr_a _ _ z3, sr_a _ _ z1, sr_a _ _ z1, sr_a _ _ z2, sr_a _ _ z3]
    · rw [if_neg y]
      repeat' (with_reducible first | refine k_gf (by first | assumption | omega) (by first | assumption | ((try simp (disch := omega) only [sr_s, sr_a, sr_sr, u1_s, u1_k, m117, m119, m120, p3, p4]); exact rfl)) ?_ | refine k_gr (by first | assumption | omega) (by first | assumption | ((try simp (disch := omega) only [sr_s, sr_a, sr_sr, u1_s, u1_k, m117, m119, m120, p3, p4]); exact rfl)) (by omega) ?_ | refine k_ald (by first | assumption | omega) (by first | assumption | exact rfl) (by omega) (by omega) (by omega) (by first | assumption | ((try simp (disch := omega) only [sr_s, sr_a, sr_sr, u1_s, u1_k, m117, m119, m120, p3, p4]); exact rfl)) ?_ | refine k_aZ (by first | assumption | omega) (by first | assumption | exact rfl) (by omega) (by omega) (by omega) (by omega) (by (try simp (disch := omega) only [sr_s, sr_a, sr_sr, u1_u1, m117, m119, m120, p3, p4]); exact rfl) ?_ | refine k_ifT (by first | (simp (disch := omega) only [w32_id]; first | done | omega) | omega) ?_ | refine k_ifF (by first | (simp (disch := omega) only [w32_id]; first | done | omega) | omega) ?_ | refine k_pf (by first | assumption | omega) (by (try simp (disch := omega) only [sr_s, sr_a, sr_sr, u1_u1, m117, m119, m120, p3, p4]); exact rfl) ?_ | refine k_ast (by first | assumption | omega) (by first | assumption | exact rfl) (by omega) (by omega) (by omega) (by (try simp (disch := omega) only [sr_s, sr_a, sr_sr, u1_u1, m117, m119, m120, p3, p4]); exact rfl) ?_ | refine k_irm (by omega) (by omega) (by omega) (by omega) ?_ | refine k_idv (by omega) (by omega) (by omega) (by omega) ?_ | refine k_tk (by first | assumption | omega) ?_ | refine k_rp (by omega) ?_ | refine k_aldR (by first | assumption | omega) (by first | assumption | exact rfl) (by omega) (by omega) (by omega) (by first | assumption | ((try simp (disch := omega) only [sr_s, sr_a, sr_sr, u1_s, u1_k, m117, m119, m120, p3, p4]); exact rfl)) (by omega) ?_ | refine k_astR (by first | assumption | omega) (by first | assumption | exact rfl) (by omega) (by omega) (by omega) (by first | assumption | omega) (by (try simp (disch := omega) only [sr_s, sr_a, sr_sr, u1_u1, m117, m119, m120, p3, p4]); exact rfl) ?_ | refine k_pz (by first | assumption | omega) (by omega) (by (try simp (disch := omega) only [sr_s, sr_a, sr_sr, u1_u1, m117, m119, m120, p3, p4]); exact rfl) ?_ | refine k_alen (by first | assumption | omega) (by first | assumption | exact rfl) ?_ | refine k_cpy (by first | assumption | omega) (by first | assumption | omega) (by first | assumption | exact rfl) (by first | assumption | exact rfl) (by omega) (by omega) (by omega) (by omega) (by omega) (by omega) (by omega) (by omega) (by (try simp (disch := omega) only [sr_s, sr_a, sr_sr, u1_u1, m117, m119, m120, p3, p4]); exact rfl) ?_)
      exact Ok.ret rfl
  · refine Ok.eq ?_
    unfold M_X2_survey_b55
    dsimp only
    repeat' (with_reducible first | refine k_gf (by first | assumption | omega) (by first | assumption | ((try simp (disch := omega) only [sr_s, sr_a, sr_sr, u1_s, u1_k]); exact rfl)) ?_ | refine k_gr (by first | assumption | omega) (by first | assumption | ((try simp (disch := omega) only [sr_s, sr_a, sr_sr, u1_s, u1_k]); exact rfl)) (by omega) ?_ | refine k_ald (by first | assumption | omega) (by first | assumption | exact rfl) (by omega) (by omega) (by omega) (by first | assumption | ((try simp (disch := omega) only [sr_s, sr_a, sr_sr, u1_s, u1_k]); exact rfl)) ?_ | refine k_aZ (by first | assumption | omega) (by first | assumption | exact rfl) (by omega) (by omega) (by omega) (by omega) (by (try simp (disch := omega) only [sr_s, sr_a, sr_sr, u1_u1]); exact rfl) ?_ | refine k_ifT (by first | (simp (disch := omega) only [w32_id]; first | done | omega) | omega) ?_ | refine k_ifF (by first | (simp (disch := omega) only [w32_id]; first | done | omega) | omega) ?_ | refine k_pf (by first | assumption | omega) (by (try simp (disch := omega) only [sr_s, sr_a, sr_sr, u1_u1]); exact rfl) ?_ | refine k_ast (by first | assumption | omega) (by first | assumption | exact rfl) (by omega) (by omega) (by omega) (by (try simp (disch := omega) only [sr_s, sr_a, sr_sr, u1_u1]); exact rfl) ?_ | refine k_irm (by omega) (by omega) (by omega) (by omega) ?_ | refine k_idv (by omega) (by omega) (by omega) (by omega) ?_ | refine k_tk (by first | assumption | omega) ?_ | refine k_rp (by omega) ?_ | refine k_aldR (by first | assumption | omega) (by first | assumption | exact rfl) (by omega) (by omega) (by omega) (by first | assumption | ((try simp (disch := omega) only [sr_s, sr_a, sr_sr, u1_s, u1_k]); exact rfl)) (by omega) ?_ | refine k_astR (by first | assumption | omega) (by first | assumption | exact rfl) (by omega) (by omega) (by omega) (by first | assumption | omega) (by (try simp (disch := omega) only [sr_s, sr_a, sr_sr, u1_u1]); exact rfl) ?_ | refine k_pz (by first | assumption | omega) (by omega) (by (try simp (disch := omega) only [sr_s, sr_a, sr_sr, u1_u1]); exact rfl) ?_ | refine k_alen (by first | assumption | omega) (by first | assumption | exact rfl) ?_ | refine k_cpy (by first | assumption | omega) (by first | assumption | omega) (by first | assumption | exact rfl) (by first | assumption | exact rfl) (by omega) (by omega) (by omega) (by omega) (by omega) (by omega) (by omega) (by omega) (by (try simp (disch := omega) only [sr_s, sr_a, sr_sr, u1_u1]); exact rfl) ?_)
    exact Ok.ret rfl
/-- what is looked for at first -/
def mt0 (wd hi mk : Int) (f : Int → Int) (p : Int) : Int := if (p % 6 < wd ∧ p / 6 < hi) ∧ f p = mk then 0 else 1
def mtS (m g : Int → Int) (i : Int) : Int → Int := fun j => if 0 ≤ j ∧ j < i then g j else m j
theorem mtS_0 (m g : Int → Int) : mtS m g 0 = m := by funext j; unfold mtS; rw [if_neg (by omega)]
theorem mtS_up (m g : Int → Int) {i : Int} (i0 : 0 ≤ i) : u1 (mtS m g i) i (g i) = mtS m g (i + 1) := by
  funext j
  unfold u1 mtS
  by_cases y : j = i
  · subst y; rw [if_pos rfl, if_pos (by omega)]
  · rw [if_neg y]
    by_cases y2 : 0 ≤ j ∧ j < i
    · rw [if_pos y2, if_pos (by omega)]
    · rw [if_neg y2, if_neg (by omega)]
theorem X2_survey_ok {mk : Int} (hG : gAll G) (hp117 : pr117 (M 117)) (a1 : 2 ≤ M 24 0) (a2 : M 24 0 ≤ 6) (b1 : 2 ≤ M 24 1) (b2 : M 24 1 ≤ 6) (k0 : 0 ≤ mk) (k1 : mk ≤ 6) (hf : ∀ i, 0 ≤ M 118 i ∧ M 118 i ≤ 9) : M_X2_survey (M, G) 117 24 mk = some (svM M (svN (M 24 0) (M 24 1) (mtS (M 120) (mt0 (M 24 0) (M 24 1) mk (M 118)) 36, M 119, 0, 0) 36), G) := by
  have k117 := gk_117 hG
  have k118 := gk_118 hG
  have l118 := gl_118 hG
  have k119 := gk_119 hG
  have l119 := gl_119 hG
  have k120 := gk_120 hG
  have l120 := gl_120 hG
  have p0 := pr117.p0 hp117
  have p4 := pr117.p4 hp117
  have hI : svI (M 24 0) (M 24 1) (mtS (M 120) (mt0 (M 24 0) (M 24 1) mk (M 118)) 36, M 119, 0, 0) 0 := by
    refine ⟨fun k k0 k1 => ?_, fun k hk k0 k1 => ?_, Int.le_refl _, Int.le_refl _, Int.le_refl _, (by decide : (0 : Int) ≤ 36)⟩
    · show mtS _ _ 36 k = 0 ∨ mtS _ _ 36 k = 1
      unfold mtS mt0
      rw [if_pos ⟨k0, k1⟩]
      split <;> omega
    · show mtS _ _ 36 k = 1
      unfold mtS mt0
      rw [if_pos ⟨k0, k1⟩, if_neg (fun z => hk ⟨k0, z.1.1, z.1.2⟩)]
  have hlo := X2_survey_loop hG hp117 a1 a2 b1 b2 hI
  refine Ok.eq ?_
  unfold M_X2_survey
  repeat' (with_reducible first | refine k_gf (by first | assumption | omega) (by first | assumption | ((try simp (disch := omega) only [sr_s, sr_a, sr_sr, u1_s, u1_k, p0, p4]); exact rfl)) ?_ | refine k_gr (by first | assumption | omega) (by first | assumption | ((try simp (disch := omega) only [sr_s, sr_a, sr_sr, u1_s, u1_k, p0, p4]); exact rfl)) (by omega) ?_ | refine k_ald (by first | assumption | omega) (by first | assumption | exact rfl) (by omega) (by omega) (by omega) (by first | assumption | ((try simp (disch := omega) only [sr_s, sr_a, sr_sr, u1_s, u1_k, p0, p4]); exact rfl)) ?_ | refine k_aZ (by first | assumption | omega) (by first | assumption | exact rfl) (by omega) (by omega) (by omega) (by omega) (by (try simp (disch := omega) only [sr_s, sr_a, sr_sr, u1_u1, p0, p4]); exact rfl) ?_ | refine k_ifT (by first | (simp (disch := omega) only [w32_id]; first | done | omega) | omega) ?_ | refine k_ifF (by first | (simp (disch := omega) only [w32_id]; first | done | omega) | omega) ?_ | refine k_pf (by first | assumption | omega) (by (try simp (disch := omega) only [sr_s, sr_a, sr_sr, u1_u1, p0, p4]); exact rfl) ?_ | refine k_ast (by first | assumption | omega) (by first | assumption | exact rfl) (by omega) (by omega) (by omega) (by (try simp (disch := omega) only [sr_s, sr_a, sr_sr, u1_u1, p0, p4]); exact rfl) ?_ | refine k_irm (by omega) (by omega) (by omega) (by omega) ?_ | refine k_idv (by omega) (by omega) (by omega) (by omega) ?_ | refine k_tk (by first | assumption | omega) ?_ | refine k_rp (by omega) ?_ | refine k_aldR (by first | assumption | omega) (by first | assumption | exact rfl) (by omega) (by omega) (by omega) (by first | assumption | ((try simp (disch := omega) only [sr_s, sr_a, sr_sr, u1_s, u1_k, p0, p4]); exact rfl)) (by omega) ?_ | refine k_astR (by first | assumption | omega) (by first | assumption | exact rfl) (by omega) (by omega) (by omega) (by first | assumption | omega) (by (try simp (disch := omega) only [sr_s, sr_a, sr_sr, u1_u1, p0, p4]); exact rfl) ?_ | refine k_pz (by first | assumption | omega) (by omega) (by (try simp (disch := omega) only [sr_s, sr_a, sr_sr, u1_u1, p0, p4]); exact rfl) ?_ | refine k_alen (by first | assumption | omega) (by first | assumption | exact rfl) ?_ | refine k_cpy (by first | assumption | omega) (by first | assumption | omega) (by first | assumption | exact rfl) (by first | assumption | exact rfl) (by omega) (by omega) (by omega) (by omega) (by omega) (by omega) (by omega) (by omega) (by (try simp (disch := omega) only [sr_s, sr_a, sr_sr, u1_u1, p0, p4]); exact rfl) ?_)
  unfold M_X2_survey_w12 M_X2_survey_p53
  refine k_eq (wh_st (fun i => ((svM M (mtS (M 120) (mt0 (M 24 0) (M 24 1) mk (M 118)) (i : Int), M 119, 0, 0), G), (i : Int))) 36 (by omega) (t := (svM M (mtS (M 120) (mt0 (M 24 0) (M 24 1) mk (M 118)) 36, M 119, 0, 0), G)) ?_ ?_ ?_) ?_
  · show _ = ((svM M (mtS (M 120) (mt0 (M 24 0) (M 24 1) mk (M 118)) 0, M 119, 0, 0), G), (0 : Int))
    rw [mtS_0]
    congr 2
    unfold svM
    dsimp only
    rw [sr_id, sr_id]
  · intro i hi
    have m117 := svM_117 (M := M) (v := (mtS (M 120) (mt0 (M 24 0) (M 24 1) mk (M 118)) (i : Int), M 119, 0, 0))
    have m120 := svM_120 (M := M) (v := (mtS (M 120) (mt0 (M 24 0) (M 24 1) mk (M 118)) (i : Int), M 119, 0, 0))
    have m24 := svM_a (M := M) (v := (mtS (M 120) (mt0 (M 24 0) (M 24 1) mk (M 118)) (i : Int), M 119, 0, 0)) (a := 24) (by omega) (by omega) (by omega)
    have m118 := svM_a (M := M) (v := (mtS (M 120) (mt0 (M 24 0) (M 24 1) mk (M 118)) (i : Int), M 119, 0, 0)) (a := 118) (by omega) (by omega) (by omega)
    have hho := X8_holds_ok (M := svM M (mtS (M 120) (mt0 (M 24 0) (M 24 1) mk (M 118)) (i : Int), M 119, 0, 0)) (w := 24) (p := (i : Int)) (gW_24 hG) (by omega) (by omega) (by rw [m24]; omega) (by rw [m24]; omega) (by rw [m24]; omega) (by rw [m24]; omega)
    rw [m24] at hho
    have hup := mtS_up (M 120) (mt0 (M 24 0) (M 24 1) mk (M 118)) (i := (i : Int)) (by omega)
    have hfi := hf i
    have hnx : sr (svM M (mtS (M 120) (mt0 (M 24 0) (M 24 1) mk (M 118)) (i : Int), M 119, 0, 0)) 120 (u1 (mtS (M 120) (mt0 (M 24 0) (M 24 1) mk (M 118)) (i : Int)) (i : Int) (mt0 (M 24 0) (M 24 1) mk (M 118) (i : Int))) = svM M (mtS (M 120) (mt0 (M 24 0) (M 24 1) mk (M 118)) ((i + 1 : Nat) : Int), M 119, 0, 0) := by
      rw [hup]
      unfold svM
      dsimp only
      rw [sr_cm _ _ _ (show (117 : Int) ≠ 120 by omega), sr_cm _ _ _ (show (119 : Int) ≠ 120 by omega), sr_sr]
      rfl
    generalize svM M (mtS (M 120) (mt0 (M 24 0) (M 24 1) mk (M 118)) ((i + 1 : Nat) : Int), M 119, 0, 0) = N1 at *
    generalize mtS (M 120) (mt0 (M 24 0) (M 24 1) mk (M 118)) (i : Int) = ms at *
    generalize svM M (ms, M 119, 0, 0) = N at *
    refine Ok.eq ?_
    unfold M_X2_survey_b12 M_X2_survey_p41 M_X2_survey_p46
    dsimp only
    unfold holdsV at hho
    unfold mt0 at hnx
    by_cases y : (i : Int) % 6 < M 24 0 ∧ (i : Int) / 6 < M 24 1
    · rw [if_pos y] at hho
      by_cases y2 : M 118 (i : Int) = mk
      · rw [if_pos ⟨y, y2⟩] at hnx
        repeat' (with_reducible first | refine k_gf (by first | assumption | omega) (by first | assumption | ((try simp (disch := omega) only [sr_s, sr_a, sr_sr, u1_s, u1_k, m117, m118, m120, p0, p4, hnx]); exact rfl)) ?_ | refine k_gr (by first | assumption | omega) (by first | assumption | ((try simp (disch := omega) only [sr_s, sr_a, sr_sr, u1_s, u1_k, m117, m118, m120, p0, p4, hnx]); exact rfl)) (by omega) ?_ | refine k_ald (by first | assumption | omega) (by first | assumption | exact rfl) (by omega) (by omega) (by omega) (by first | assumption | ((try simp (disch := omega) only [sr_s, sr_a, sr_sr, u1_s, u1_k, m117, m118, m120, p0, p4, hnx]); exact rfl)) ?_ | refine k_aZ (by first | assumption | omega) (by first | assumption | exact rfl) (by omega) (by omega) (by omega) (by omega) (by (try simp (disch := omega) only [sr_s, sr_a, sr_sr, u1_u1, m117, m118, m120, p0, p4, hnx]); exact rfl) ?_ | refine k_eq (hho) ?_ | refine k_ifT (by first | (simp (disch := omega) only [w32_id]; first | done | omega) | omega) ?_ | refine k_ifF (by first | (simp (disch := omega) only [w32_id]; first | done | omega) | omega) ?_ | refine k_pf (by first | assumption | omega) (by (try simp (disch := omega) only [sr_s, sr_a, sr_sr, u1_u1, m117, m118, m120, p0, p4, hnx]); exact rfl) ?_ | refine k_ast (by first | assumption | omega) (by first | assumption | exact rfl) (by omega) (by omega) (by omega) (by (try simp (disch := omega) only [sr_s, sr_a, sr_sr, u1_u1, m117, m118, m120, p0, p4, hnx]); exact rfl) ?_ | refine k_irm (by omega) (by omega) (by omega) (by omega) ?_ | refine k_idv (by omega) (by omega) (by omega) (by omega) ?_ | refine k_tk (by first | assumption | omega) ?_ | refine k_rp (by omega) ?_ | refine k_aldR (by first | assumption | omega) (by first | assumption | exact rfl) (by omega) (by omega) (by omega) (by first | assumption | ((try simp (disch := omega) only [sr_s, sr_a, sr_sr, u1_s, u1_k, m117, m118, m120, p0, p4, hnx]); exact rfl)) (by omega) ?_ | refine k_astR (by first | assumption | omega) (by first | assumption | exact rfl) (by omega) (by omega) (by omega) (by first | assumption | omega) (by (try simp (disch := omega) only [sr_s, sr_a, sr_sr, u1_u1, m117, m118, m120, p0, p4, hnx]); exact rfl) ?_ | refine k_pz (by first | assumption | omega) (by omega) (by (try simp (disch := omega) only [sr_s, sr_a, sr_sr, u1_u1, m117, m118, m120, p0, p4, hnx]); exact rfl) ?_ | refine k_alen (by first | assumption | omega) (by first | assumption | exact rfl) ?_ | refine k_cpy (by first | assumption | omega) (by first | assumption | omega) (by first | assumption | exact rfl) (by first | assumption | exact rfl) (by omega) (by omega) (by omega) (by omega) (by omega) (by omega) (by omega) (by omega) (by (try simp (disch := omega) only [sr_s, sr_a, sr_sr, u1_u1, m117, m118, m120, p0, p4, hnx]); exact rfl) ?_)
        exact Ok.ret rfl
      · rw [if_neg (fun z => y2 z.2)] at hnx
        repeat' (with_reducible first | refine k_gf (by first | assumption | omega) (by first | assumption | ((try simp (disch := omega) only [sr_s, sr_a, sr_sr, u1_s, u1_k, m117, m118, m120, p0, p4, hnx]); exact rfl)) ?_ | refine k_gr (by first | assumption | omega) (by first | assumption | ((try simp (disch := omega) only [sr_s, sr_a, sr_sr, u1_s, u1_k, m117, m118, m120, p0, p4, hnx]); exact rfl)) (by omega) ?_ | refine k_ald (by first | assumption | omega) (by first | assumption | exact rfl) (by omega) (by omega) (by omega) (by first | assumption | ((try simp (disch := omega) only [sr_s, sr_a, sr_sr, u1_s, u1_k, m117, m118, m120, p0, p4, hnx]); exact rfl)) ?_ | refine k_aZ (by first | assumption | omega) (by first | assumption | exact rfl) (by omega) (by omega) (by omega) (by omega) (by (try simp (disch := omega) only [sr_s, sr_a, sr_sr, u1_u1, m117, m118, m120, p0, p4, hnx]); exact rfl) ?_ | refine k_eq (hho) ?_ | refine k_ifT (by first | (simp (disch := omega) only [w32_id]; first | done | omega) | omega) ?_ | refine k_ifF (by first | (simp (disch := omega) only [w32_id]; first | done | omega) | omega) ?_ | refine k_pf (by first | assumption | omega) (by (try simp (disch := omega) only [sr_s, sr_a, sr_sr, u1_u1, m117, m118, m120, p0, p4, hnx]); exact rfl) ?_ | refine k_ast (by first | assumption | omega) (by first | assumption | exact rfl) (by omega) (by omega) (by omega) (by (try simp (disch := omega) only [sr_s, sr_a, sr_sr, u1_u1, m117, m118, m120, p0, p4, hnx]); exact rfl) ?_ | refine k_irm (by omega) (by omega) (by omega) (by omega) ?_ | refine k_idv (by omega) (by omega) (by omega) (by omega) ?_ | refine k_tk (by first | assumption | omega) ?_ | refine k_rp (by omega) ?_ | refine k_aldR (by first | assumption | omega) (by first | assumption | exact rfl) (by omega) (by omega) (by omega) (by first | assumption | ((try simp (disch := omega) only [sr_s, sr_a, sr_sr, u1_s, u1_k, m117, m118, m120, p0, p4, hnx]); exact rfl)) (by omega) ?_ | refine k_astR (by first | assumption | omega) (by first | assumption | exact rfl) (by omega) (by omega) (by omega) (by first | assumption | omega) (by (try simp (disch := omega) only [sr_s, sr_a, sr_sr, u1_u1, m117, m118, m120, p0, p4, hnx]); exact rfl) ?_ | refine k_pz (by first | assumption | omega) (by omega) (by (try simp (disch := omega) only [sr_s, sr_a, sr_sr, u1_u1, m117, m118, m120, p0, p4, hnx]); exact rfl) ?_ | refine k_alen (by first | assumption | omega) (by first | assumption | exact rfl) ?_ | refine k_cpy (by first | assumption | omega) (by first | assumption | omega) (by first | assumption | exact rfl) (by first | assumption | exact rfl) (by omega) (by omega) (by omega) (by omega) (by omega) (by omega) (by omega) (by omega) (by (try simp (disch := omega) only [sr_s, sr_a, sr_sr, u1_u1, m117, m118, m120, p0, p4, hnx]); exact rfl) ?_)
        exact Ok.ret rfl
    · rw [if_neg y] at hho
      rw [if_neg (fun z => y z.1)] at hnx
      repeat' (with_reducible first | refine k_gf (by first | assumption | omega) (by first | assumption | ((try simp (disch := omega) only [sr_s, sr_a, sr_sr, u1_s, u1_k, m117, m118, m120, p0, p4, hnx]); exact rfl)) ?_ | refine k_gr (by first | assumption | omega) (by first | assumption | ((try simp (disch := omega) only [sr_s, sr_a, sr_sr, u1_s, u1_k, m117, m118, m120, p0, p4, hnx]); exact rfl)) (by omega) ?_ | refine k_ald (by first | assumption | omega) (by first | assumption | exact rfl) (by omega) (by omega) (by omega) (by first | assumption | ((try simp (disch := omega) only [sr_s, sr_a, sr_sr, u1_s, u1_k, m117, m118, m120, p0, p4, hnx]); exact rfl)) ?_ | refine k_aZ (by first | assumption | omega) (by first | assumption | exact rfl) (by omega) (by omega) (by omega) (by omega) (by (try simp (disch := omega) only [sr_s, sr_a, sr_sr, u1_u1, m117, m118, m120, p0, p4, hnx]); exact rfl) ?_ | refine k_eq (hho) ?_ | refine k_ifT (by first | (simp (disch := omega) only [w32_id]; first | done | omega) | omega) ?_ | refine k_ifF (by first | (simp (disch := omega) only [w32_id]; first | done | omega) | omega) ?_ | refine k_pf (by first | assumption | omega) (by (try simp (disch := omega) only [sr_s, sr_a, sr_sr, u1_u1, m117, m118, m120, p0, p4, hnx]); exact rfl) ?_ | refine k_ast (by first | assumption | omega) (by first | assumption | exact rfl) (by omega) (by omega) (by omega) (by (try simp (disch := omega) only [sr_s, sr_a, sr_sr, u1_u1, m117, m118, m120, p0, p4, hnx]); exact rfl) ?_ | refine k_irm (by omega) (by omega) (by omega) (by omega) ?_ | refine k_idv (by omega) (by omega) (by omega) (by omega) ?_ | refine k_tk (by first | assumption | omega) ?_ | refine k_rp (by omega) ?_ | refine k_aldR (by first | assumption | omega) (by first | assumption | exact rfl) (by omega) (by omega) (by omega) (by first | assumption | ((try simp (disch := omega) only [sr_s, sr_a, sr_sr, u1_s, u1_k, m117, m118, m120, p0, p4, hnx]); exact rfl)) (by omega) ?_ | refine k_astR (by first | assumption | omega) (by first | assumption | exact rfl) (by omega) (by omega) (by omega) (by first | assumption | omega) (by (try simp (disch := omega) only [sr_s, sr_a, sr_sr, u1_u1, m117, m118, m120, p0, p4, hnx]); exact rfl) ?_ | refine k_pz (by first | assumption | omega) (by omega) (by (try simp (disch := omega) only [sr_s, sr_a, sr_sr, u1_u1, m117, m118, m120, p0, p4, hnx]); exact rfl) ?_ | refine k_alen (by first | assumption | omega) (by first | assumption | exact rfl) ?_ | refine k_cpy (by first | assumption | omega) (by first | assumption | omega) (by first | assumption | exact rfl) (by first | assumption | exact rfl) (by omega) (by omega) (by omega) (by omega) (by omega) (by omega) (by omega) (by omega) (by (try simp (disch := omega) only [sr_s, sr_a, sr_sr, u1_u1, m117, m118, m120, p0, p4, hnx]); exact rfl) ?_)
      exact Ok.ret rfl
  · refine Ok.eq ?_
    unfold M_X2_survey_b12
    dsimp only
    repeat' (with_reducible first | refine k_gf (by first | assumption | omega) (by first | assumption | ((try simp (disch := omega) only [sr_s, sr_a, sr_sr, u1_s, u1_k]); exact rfl)) ?_ | refine k_gr (by first | assumption | omega) (by first | assumption | ((try simp (disch := omega) only [sr_s, sr_a, sr_sr, u1_s, u1_k]); exact rfl)) (by omega) ?_ | refine k_ald (by first | assumption | omega) (by first | assumption | exact rfl) (by omega) (by omega) (by omega) (by first | assumption | ((try simp (disch := omega) only [sr_s, sr_a, sr_sr, u1_s, u1_k]); exact rfl)) ?_ | refine k_aZ (by first | assumption | omega) (by first | assumption | exact rfl) (by omega) (by omega) (by omega) (by omega) (by (try simp (disch := omega) only [sr_s, sr_a, sr_sr, u1_u1]); exact rfl) ?_ | refine k_ifT (by first | (simp (disch := omega) only [w32_id]; first | done | omega) | omega) ?_ | refine k_ifF (by first | (simp (disch := omega) only [w32_id]; first | done | omega) | omega) ?_ | refine k_pf (by first | assumption | omega) (by (try simp (disch := omega) only [sr_s, sr_a, sr_sr, u1_u1]); exact rfl) ?_ | refine k_ast (by first | assumption | omega) (by first | assumption | exact rfl) (by omega) (by omega) (by omega) (by (try simp (disch := omega) only [sr_s, sr_a, sr_sr, u1_u1]); exact rfl) ?_ | refine k_irm (by omega) (by omega) (by omega) (by omega) ?_ | refine k_idv (by omega) (by omega) (by omega) (by omega) ?_ | refine k_tk (by first | assumption | omega) ?_ | refine k_rp (by omega) ?_ | refine k_aldR (by first | assumption | omega) (by first | assumption | exact rfl) (by omega) (by omega) (by omega) (by first | assumption | ((try simp (disch := omega) only [sr_s, sr_a, sr_sr, u1_s, u1_k]); exact rfl)) (by omega) ?_ | refine k_astR (by first | assumption | omega) (by first | assumption | exact rfl) (by omega) (by omega) (by omega) (by first | assumption | omega) (by (try simp (disch := omega) only [sr_s, sr_a, sr_sr, u1_u1]); exact rfl) ?_ | refine k_pz (by first | assumption | omega) (by omega) (by (try simp (disch := omega) only [sr_s, sr_a, sr_sr, u1_u1]); exact rfl) ?_ | refine k_alen (by first | assumption | omega) (by first | assumption | exact rfl) ?_ | refine k_cpy (by first | assumption | omega) (by first | assumption | omega) (by first | assumption | exact rfl) (by first | assumption | exact rfl) (by omega) (by omega) (by omega) (by omega) (by omega) (by omega) (by omega) (by omega) (by (try simp (disch := omega) only [sr_s, sr_a, sr_sr, u1_u1]); exact rfl) ?_)
    exact Ok.ret rfl
  · exact Ok.of hlo rfl
end A2
