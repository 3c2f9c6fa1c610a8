/-! the class's World: what changes -/
theorem rk_le (er : Int → Int) : ∀ (a d : Nat), rk er a ≤ rk er (a + d)
  | a, 0 => Nat.le_refl _
  | a, d + 1 => by have := rk_le er a d; show rk er a ≤ rk er (a + d) + _; omega
theorem rk_pos {er : Int → Int} {i n : Nat} (hi : i < n) (h : er (4 * (i : Int)) = 9) : 0 < rk er n := by
  have h1 := rk_le er (i + 1) (n - (i + 1))
  rw [show i + 1 + (n - (i + 1)) = n by omega] at h1
  have h2 : rk er (i + 1) = rk er i + 1 := by show rk er i + _ = _; rw [if_pos h]
  omega
section WT
variable {M : Int → Int → Int} {G : GG} {w v t sc dr mk : Int}
theorem X8_sneezes_ok (hg : gW G w) (m5 : M w 5 = w + 3) (h0 : 0 ≤ M w 2) (h1 : M w 2 ≤ 6) (he : ∀ i, -2 ≤ M (w + 3) i ∧ M (w + 3) i ≤ 10) : M_X8_sneezes (M, G) w = some (if 0 < rk (M (w + 3)) (M w 2).toNat then 1 else 0) := by
  obtain ⟨g0, g1, g2, g3, g4, g5, g6, g7⟩ := hg
  have hw : ∀ i, w32 (M (w + 3) i) = M (w + 3) i := fun i => w32_id (by have := he i; omega) (by have := he i; omega)
  refine Ok.eq ?_
  unfold M_X8_sneezes M_X8_sneezes_w2
  simp (disch := first | assumption | omega) only [tk_ok, b_gf, b_gr, b_pf, b_pz, b_rp, b_ald, b_aldR, b_ast, b_astR, b_alen, b_cpy, b_idv, b_irm, bd_some, Option.bind_some, w32_id, lq_m1, lq_m2]
  refine Ok.bind (wh_for (fun i s => s = (i : Int) ∧ rk (M (w + 3)) i = 0) (fun z => match z with | .inl _ => rk (M (w + 3)) (M w 2).toNat = 0 | .inr q => q = 1 ∧ 0 < rk (M (w + 3)) (M w 2).toNat) (M w 2).toNat (by omega) ⟨rfl, rfl⟩ ?_ ?_) ?_
  · rintro i s hi ⟨rfl, hr⟩
    unfold M_X8_sneezes_b2
    simp (disch := first | assumption | omega) only [tk_ok, b_gf, b_gr, b_pf, b_pz, b_rp, b_ald, b_aldR, b_ast, b_astR, b_alen, b_cpy, b_idv, b_irm, bd_some, Option.bind_some, w32_id, lq_m1, lq_m2, sr_s, sr_a, sr_sr, u1_s, u1_k, if_pos, if_neg, m5, hw]
    refine Ok.ite (fun c => ?_) (fun c => ?_)
    · exact Ok.ret ⟨rfl, rk_pos hi c⟩
    · refine Ok.ret ⟨by omega, ?_⟩
      show rk (M (w + 3)) i + _ = 0
      rw [hr, if_neg c]
  · rintro s ⟨rfl, hr⟩
    unfold M_X8_sneezes_b2
    simp (disch := first | assumption | omega) only [tk_ok, b_gf, b_gr, b_pf, b_pz, b_rp, b_ald, b_aldR, b_ast, b_astR, b_alen, b_cpy, b_idv, b_irm, bd_some, Option.bind_some, w32_id, lq_m1, lq_m2, sr_s, sr_a, sr_sr, u1_s, u1_k, if_pos, if_neg, m5]
    exact Ok.ret hr
  · rintro z hz
    cases z with
    | inl u => rw [exi_l]; unfold M_X8_sneezes_p31; refine Ok.ret ?_; rw [if_neg (by have : rk (M (w + 3)) (M w 2).toNat = 0 := hz; omega)]
    | inr q => rw [exi_r]; refine Ok.ret ?_; rw [if_pos hz.2]; exact hz.1
def mtV (f : Int → Int) (t : Int) : Int → Int := fun j => if j = 4 * t then 0 else if 4 * t < j ∧ j < 4 * t + 4 then -2 else f j
theorem X8_makeTrue_ok (hg : gW G w) (m5 : M w 5 = w + 3) (t0 : 0 ≤ t) (t1 : t < 6) : M_X8_makeTrue (M, G) w t = some (sr M (w + 3) (mtV (M (w + 3)) t), G) := by
  obtain ⟨g0, g1, g2, g3, g4, g5, g6, g7⟩ := hg
  refine Ok.eq ?_
  unfold M_X8_makeTrue M_X8_makeTrue_w11 M_X8_makeTrue_p34
  repeat' (with_reducible first | refine k_gf (by first | assumption | omega) (by first | assumption | ((try simp (disch := omega) only [sr_s, sr_a, sr_sr, u1_s, u1_k, m5]); exact rfl)) ?_ | refine k_gr (by first | assumption | omega) (by first | assumption | ((try simp (disch := omega) only [sr_s, sr_a, sr_sr, u1_s, u1_k, m5]); exact rfl)) (by omega) ?_ | refine k_ald (by first | assumption | omega) (by first | assumption | exact rfl) (by omega) (by omega) (by omega) (by first | assumption | ((try simp (disch := omega) only [sr_s, sr_a, sr_sr, u1_s, u1_k, m5]); exact rfl)) ?_ | refine k_ifT (by first | (simp (disch := omega) only [w32_id]; first | done | omega) | omega) ?_ | refine k_ifF (by first | (simp (disch := omega) only [w32_id]; first | done | omega) | omega) ?_ | refine k_pf (by first | assumption | omega) (by (try simp (disch := omega) only [sr_s, sr_a, sr_sr, u1_u1, m5]); exact rfl) ?_ | refine k_ast (by first | assumption | omega) (by first | assumption | exact rfl) (by omega) (by omega) (by omega) (by (try simp (disch := omega) only [sr_s, sr_a, sr_sr, u1_u1, m5]); exact rfl) ?_ | refine k_irm (by omega) (by omega) (by omega) (by omega) ?_ | refine k_idv (by omega) (by omega) (by omega) (by omega) ?_ | refine k_tk (by first | assumption | omega) ?_ | refine k_rp (by omega) ?_ | refine k_aldR (by first | assumption | omega) (by first | assumption | exact rfl) (by omega) (by omega) (by omega) (by first | assumption | ((try simp (disch := omega) only [sr_s, sr_a, sr_sr, u1_s, u1_k, m5]); exact rfl)) (by omega) ?_ | refine k_astR (by first | assumption | omega) (by first | assumption | exact rfl) (by omega) (by omega) (by omega) (by first | assumption | omega) (by (try simp (disch := omega) only [sr_s, sr_a, sr_sr, u1_u1, m5]); exact rfl) ?_ | refine k_pz (by first | assumption | omega) (by omega) (by (try simp (disch := omega) only [sr_s, sr_a, sr_sr, u1_u1, m5]); exact rfl) ?_ | refine k_alen (by first | assumption | omega) (by first | assumption | exact rfl) ?_ | refine k_cpy (by first | assumption | omega) (by first | assumption | omega) (by first | assumption | exact rfl) (by first | assumption | exact rfl) (by omega) (by omega) (by omega) (by omega) (by omega) (by omega) (by omega) (by omega) (by (try simp (disch := omega) only [sr_s, sr_a, sr_sr, u1_u1, m5]); exact rfl) ?_ | refine k_if (by (try simp (disch := omega) only [w32_id]); exact Iff.rfl) (fun c => ?_) (fun c => ?_))
  refine k_eq (wh_st (fun i => ((sr M (w + 3) (fun j => if j = 4 * t then 0 else if 4 * t < j ∧ j < 4 * t + 1 + i then -2 else M (w + 3) j), G), 1 + (i : Int))) 3 (by omega) (t := (sr M (w + 3) (mtV (M (w + 3)) t), G)) ?_ ?_ ?_) (Ok.ret rfl)
  · simp only [Prod.mk.injEq, and_true]
    refine ⟨?_, by omega⟩
    congr 1
    (funext j; (try simp only [u1, cp1]); (repeat' split) <;> first | rfl | omega)
  · intro i hi
    refine Ok.eq ?_
    unfold M_X8_makeTrue_b11
    dsimp only
    repeat' (with_reducible first | refine k_gf (by first | assumption | omega) (by first | assumption | ((try simp (disch := omega) only [sr_s, sr_a, sr_sr, u1_s, u1_k, m5]); exact rfl)) ?_ | refine k_gr (by first | assumption | omega) (by first | assumption | ((try simp (disch := omega) only [sr_s, sr_a, sr_sr, u1_s, u1_k, m5]); exact rfl)) (by omega) ?_ | refine k_ald (by first | assumption | omega) (by first | assumption | exact rfl) (by omega) (by omega) (by omega) (by first | assumption | ((try simp (disch := omega) only [sr_s, sr_a, sr_sr, u1_s, u1_k, m5]); exact rfl)) ?_ | refine k_ifT (by first | (simp (disch := omega) only [w32_id]; first | done | omega) | omega) ?_ | refine k_ifF (by first | (simp (disch := omega) only [w32_id]; first | done | omega) | omega) ?_ | refine k_pf (by first | assumption | omega) (by (try simp (disch := omega) only [sr_s, sr_a, sr_sr, u1_u1, m5]); exact rfl) ?_ | refine k_ast (by first | assumption | omega) (by first | assumption | exact rfl) (by omega) (by omega) (by omega) (by (try simp (disch := omega) only [sr_s, sr_a, sr_sr, u1_u1, m5]); exact rfl) ?_ | refine k_irm (by omega) (by omega) (by omega) (by omega) ?_ | refine k_idv (by omega) (by omega) (by omega) (by omega) ?_ | refine k_tk (by first | assumption | omega) ?_ | refine k_rp (by omega) ?_ | refine k_aldR (by first | assumption | omega) (by first | assumption | exact rfl) (by omega) (by omega) (by omega) (by first | assumption | ((try simp (disch := omega) only [sr_s, sr_a, sr_sr, u1_s, u1_k, m5]); exact rfl)) (by omega) ?_ | refine k_astR (by first | assumption | omega) (by first | assumption | exact rfl) (by omega) (by omega) (by omega) (by first | assumption | omega) (by (try simp (disch := omega) only [sr_s, sr_a, sr_sr, u1_u1, m5]); exact rfl) ?_ | refine k_pz (by first | assumption | omega) (by omega) (by (try simp (disch := omega) only [sr_s, sr_a, sr_sr, u1_u1, m5]); exact rfl) ?_ | refine k_alen (by first | assumption | omega) (by first | assumption | exact rfl) ?_ | refine k_cpy (by first | assumption | omega) (by first | assumption | omega) (by first | assumption | exact rfl) (by first | assumption | exact rfl) (by omega) (by omega) (by omega) (by omega) (by omega) (by omega) (by omega) (by omega) (by (try simp (disch := omega) only [sr_s, sr_a, sr_sr, u1_u1, m5]); exact rfl) ?_ | refine k_if (by (try simp (disch := omega) only [w32_id]); exact Iff.rfl) (fun c => ?_) (fun c => ?_))
    refine Ok.ret ?_
    simp only [Sum.inl.injEq, Prod.mk.injEq, and_true, true_and]
    refine ⟨?_, by omega⟩
    congr 1
    (funext j; (try simp only [u1, cp1]); (repeat' split) <;> first | rfl | omega)
  · refine Ok.eq ?_
    unfold M_X8_makeTrue_b11
    dsimp only
    repeat' (with_reducible first | refine k_gf (by first | assumption | omega) (by first | assumption | ((try simp (disch := omega) only [sr_s, sr_a, sr_sr, u1_s, u1_k, m5]); exact rfl)) ?_ | refine k_gr (by first | assumption | omega) (by first | assumption | ((try simp (disch := omega) only [sr_s, sr_a, sr_sr, u1_s, u1_k, m5]); exact rfl)) (by omega) ?_ | refine k_ald (by first | assumption | omega) (by first | assumption | exact rfl) (by omega) (by omega) (by omega) (by first | assumption | ((try simp (disch := omega) only [sr_s, sr_a, sr_sr, u1_s, u1_k, m5]); exact rfl)) ?_ | refine k_ifT (by first | (simp (disch := omega) only [w32_id]; first | done | omega) | omega) ?_ | refine k_ifF (by first | (simp (disch := omega) only [w32_id]; first | done | omega) | omega) ?_ | refine k_pf (by first | assumption | omega) (by (try simp (disch := omega) only [sr_s, sr_a, sr_sr, u1_u1, m5]); exact rfl) ?_ | refine k_ast (by first | assumption | omega) (by first | assumption | exact rfl) (by omega) (by omega) (by omega) (by (try simp (disch := omega) only [sr_s, sr_a, sr_sr, u1_u1, m5]); exact rfl) ?_ | refine k_irm (by omega) (by omega) (by omega) (by omega) ?_ | refine k_idv (by omega) (by omega) (by omega) (by omega) ?_ | refine k_tk (by first | assumption | omega) ?_ | refine k_rp (by omega) ?_ | refine k_aldR (by first | assumption | omega) (by first | assumption | exact rfl) (by omega) (by omega) (by omega) (by first | assumption | ((try simp (disch := omega) only [sr_s, sr_a, sr_sr, u1_s, u1_k, m5]); exact rfl)) (by omega) ?_ | refine k_astR (by first | assumption | omega) (by first | assumption | exact rfl) (by omega) (by omega) (by omega) (by first | assumption | omega) (by (try simp (disch := omega) only [sr_s, sr_a, sr_sr, u1_u1, m5]); exact rfl) ?_ | refine k_pz (by first | assumption | omega) (by omega) (by (try simp (disch := omega) only [sr_s, sr_a, sr_sr, u1_u1, m5]); exact rfl) ?_ | refine k_alen (by first | assumption | omega) (by first | assumption | exact rfl) ?_ | refine k_cpy (by first | assumption | omega) (by first | assumption | omega) (by first | assumption | exact rfl) (by first | assumption | exact rfl) (by omega) (by omega) (by omega) (by omega) (by omega) (by omega) (by omega) (by omega) (by (try simp (disch := omega) only [sr_s, sr_a, sr_sr, u1_u1, m5]); exact rfl) ?_ | refine k_if (by (try simp (disch := omega) only [w32_id]); exact Iff.rfl) (fun c => ?_) (fun c => ?_))
    refine Ok.ret ?_
    simp only [Sum.inr.injEq, Prod.mk.injEq, and_true, true_and]
    congr 1
    unfold mtV
    (funext j; (try simp only [u1, cp1]); (repeat' split) <;> first | rfl | omega)
/-- a World's rows have nothing beyond their ends -/
def zoW (M : Int → Int → Int) (w : Int) : Prop := zO 216 (M (w + 1)) ∧ zO 6 (M (w + 2)) ∧ zO 24 (M (w + 3))
/-- a World at w with the numbers of another one, v -/
def beM (M : Int → Int → Int) (w v : Int) : Int → Int → Int := sr (sr (sr (sr M w (fun k => if k = 0 then M v 0 else if k = 1 then M v 1 else if k = 2 then M v 2 else if k = 6 then M v 6 else if k = 7 then M v 7 else M w k)) (w + 1) (M (v + 1))) (w + 2) (M (v + 2))) (w + 3) (M (v + 3))
theorem X8_become_ok (hg : gW G w) (hm : mW M w) (hz : zoW M w) (hg' : gW G v) (hm' : mW M v) (hz' : zoW M v) (hne : v + 3 < w ∨ w + 3 < v) : M_X8_become (M, G) w v = some (beM M w v, G) := by
  obtain ⟨g0, g1, g2, g3, g4, g5, g6, g7⟩ := hg
  obtain ⟨m3, m4, m5⟩ := hm
  obtain ⟨z1, z2, z3⟩ := hz
  obtain ⟨g0', g1', g2', g3', g4', g5', g6', g7'⟩ := hg'
  obtain ⟨m3', m4', m5'⟩ := hm'
  obtain ⟨z1', z2', z3'⟩ := hz'
  refine Ok.eq ?_
  unfold M_X8_become
  repeat' (with_reducible first | refine k_gf (by first | assumption | omega) (by first | assumption | ((try simp (disch := omega) only [sr_s, sr_a, sr_sr, u1_s, u1_k, m3, m4, m5, m3', m4', m5']); exact rfl)) ?_ | refine k_gr (by first | assumption | omega) (by first | assumption | ((try simp (disch := omega) only [sr_s, sr_a, sr_sr, u1_s, u1_k, m3, m4, m5, m3', m4', m5']); exact rfl)) (by omega) ?_ | refine k_ald (by first | assumption | omega) (by first | assumption | exact rfl) (by omega) (by omega) (by omega) (by first | assumption | ((try simp (disch := omega) only [sr_s, sr_a, sr_sr, u1_s, u1_k, m3, m4, m5, m3', m4', m5']); exact rfl)) ?_ | refine k_ifT (by first | (simp (disch := omega) only [w32_id]; first | done | omega) | omega) ?_ | refine k_ifF (by first | (simp (disch := omega) only [w32_id]; first | done | omega) | omega) ?_ | refine k_pf (by first | assumption | omega) (by (try simp (disch := omega) only [sr_s, sr_a, sr_sr, u1_u1, m3, m4, m5, m3', m4', m5']); exact rfl) ?_ | refine k_ast (by first | assumption | omega) (by first | assumption | exact rfl) (by omega) (by omega) (by omega) (by (try simp (disch := omega) only [sr_s, sr_a, sr_sr, u1_u1, m3, m4, m5, m3', m4', m5']); exact rfl) ?_ | refine k_irm (by omega) (by omega) (by omega) (by omega) ?_ | refine k_idv (by omega) (by omega) (by omega) (by omega) ?_ | refine k_tk (by first | assumption | omega) ?_ | refine k_rp (by omega) ?_ | refine k_aldR (by first | assumption | omega) (by first | assumption | exact rfl) (by omega) (by omega) (by omega) (by first | assumption | ((try simp (disch := omega) only [sr_s, sr_a, sr_sr, u1_s, u1_k, m3, m4, m5, m3', m4', m5']); exact rfl)) (by omega) ?_ | refine k_astR (by first | assumption | omega) (by first | assumption | exact rfl) (by omega) (by omega) (by omega) (by first | assumption | omega) (by (try simp (disch := omega) only [sr_s, sr_a, sr_sr, u1_u1, m3, m4, m5, m3', m4', m5']); exact rfl) ?_ | refine k_pz (by first | assumption | omega) (by omega) (by (try simp (disch := omega) only [sr_s, sr_a, sr_sr, u1_u1, m3, m4, m5, m3', m4', m5']); exact rfl) ?_ | refine k_alen (by first | assumption | omega) (by first | assumption | exact rfl) ?_ | refine k_cpy (by first | assumption | omega) (by first | assumption | omega) (by first | assumption | exact rfl) (by first | assumption | exact rfl) (by omega) (by omega) (by omega) (by omega) (by omega) (by omega) (by omega) (by omega) (by (try simp (disch := omega) only [sr_s, sr_a, sr_sr, u1_u1, m3, m4, m5, m3', m4', m5']); exact rfl) ?_ | refine k_if (by (try simp (disch := omega) only [w32_id]); exact Iff.rfl) (fun c => ?_) (fun c => ?_))
  refine Ok.ret ?_
  simp only [Prod.mk.injEq, and_true]
  rw [cp1_all z1' z1, cp1_all z2' z2, cp1_all z3' z3]
  unfold beM
  funext a
  by_cases e3 : a = w + 3
  · subst e3; simp (disch := first | assumption | omega) only [sr_s, sr_a, sr_sr]
  by_cases e2 : a = w + 2
  · subst e2; simp (disch := first | assumption | omega) only [sr_s, sr_a, sr_sr]
  by_cases e1 : a = w + 1
  · subst e1; simp (disch := first | assumption | omega) only [sr_s, sr_a, sr_sr]
  by_cases e0 : a = w
  · subst e0
    simp (disch := first | assumption | omega) only [sr_s, sr_a, sr_sr]
    funext k
    unfold u1
    by_cases k7 : k = 7
    · subst k7; simp
    by_cases k6 : k = 6
    · subst k6; simp
    by_cases k2 : k = 2
    · subst k2; simp
    by_cases k1 : k = 1
    · subst k1; simp
    by_cases k0 : k = 0
    · subst k0; simp
    simp [k0, k1, k2, k6, k7]
  · simp (disch := first | assumption | omega) only [sr_s, sr_a, sr_sr]
theorem J7_fill_ok {a n x : Int} (e : G.1 a = 1) (e2 : G.2.1 a = n) (n0 : 0 ≤ n) (n1 : n < 100000) : M_J7_fill_53178 (M, G) a x = some (sr M a (fun j => if 0 ≤ j ∧ j < n then x else M a j), G) := by
  refine Ok.eq ?_
  unfold M_J7_fill_53178
  repeat' (with_reducible first | refine k_gf (by first | assumption | omega) (by first | assumption | ((try simp (disch := omega) only [sr_s, sr_a, sr_sr, u1_s, u1_k]); exact rfl)) ?_ | refine k_gr (by first | assumption | omega) (by first | assumption | ((try simp (disch := omega) only [sr_s, sr_a, sr_sr, u1_s, u1_k]); exact rfl)) (by omega) ?_ | refine k_ald (by first | assumption | omega) (by first | assumption | exact rfl) (by omega) (by omega) (by omega) (by first | assumption | ((try simp (disch := omega) only [sr_s, sr_a, sr_sr, u1_s, u1_k]); exact rfl)) ?_ | refine k_ifT (by first | (simp (disch := omega) only [w32_id]; first | done | omega) | omega) ?_ | refine k_ifF (by first | (simp (disch := omega) only [w32_id]; first | done | omega) | omega) ?_ | refine k_pf (by first | assumption | omega) (by (try simp (disch := omega) only [sr_s, sr_a, sr_sr, u1_u1]); exact rfl) ?_ | refine k_ast (by first | assumption | omega) (by first | assumption | exact rfl) (by omega) (by omega) (by omega) (by (try simp (disch := omega) only [sr_s, sr_a, sr_sr, u1_u1]); exact rfl) ?_ | refine k_irm (by omega) (by omega) (by omega) (by omega) ?_ | refine k_idv (by omega) (by omega) (by omega) (by omega) ?_ | refine k_tk (by first | assumption | omega) ?_ | refine k_rp (by omega) ?_ | refine k_aldR (by first | assumption | omega) (by first | assumption | exact rfl) (by omega) (by omega) (by omega) (by first | assumption | ((try simp (disch := omega) only [sr_s, sr_a, sr_sr, u1_s, u1_k]); exact rfl)) (by omega) ?_ | refine k_astR (by first | assumption | omega) (by first | assumption | exact rfl) (by omega) (by omega) (by omega) (by first | assumption | omega) (by (try simp (disch := omega) only [sr_s, sr_a, sr_sr, u1_u1]); exact rfl) ?_ | refine k_pz (by first | assumption | omega) (by omega) (by (try simp (disch := omega) only [sr_s, sr_a, sr_sr, u1_u1]); exact rfl) ?_ | refine k_alen (by first | assumption | omega) (by first | assumption | exact rfl) ?_ | refine k_cpy (by first | assumption | omega) (by first | assumption | omega) (by first | assumption | exact rfl) (by first | assumption | exact rfl) (by omega) (by omega) (by omega) (by omega) (by omega) (by omega) (by omega) (by omega) (by (try simp (disch := omega) only [sr_s, sr_a, sr_sr, u1_u1]); exact rfl) ?_ | refine k_if (by (try simp (disch := omega) only [w32_id]); exact Iff.rfl) (fun c => ?_) (fun c => ?_))
  unfold M_J7_fill_53178_w5 M_J7_fill_53178_p20
  refine k_eq (wh_st (fun i => ((sr M a (fun j => if 0 ≤ j ∧ j < (i : Int) then x else M a j), G), (i : Int))) n.toNat (by omega) (t := (sr M a (fun j => if 0 ≤ j ∧ j < n then x else M a j), G)) ?_ ?_ ?_) (Ok.ret rfl)
  · simp only [Prod.mk.injEq, and_true]
    refine ⟨?_, by omega⟩
    conv => lhs; rw [← sr_id M a]
    congr 1
    (funext j; (try simp only [u1, cp1]); (repeat' split) <;> first | rfl | omega)
  · intro i hi
    refine Ok.eq ?_
    unfold M_J7_fill_53178_b5
    dsimp only
    repeat' (with_reducible first | refine k_gf (by first | assumption | omega) (by first | assumption | ((try simp (disch := omega) only [sr_s, sr_a, sr_sr, u1_s, u1_k]); exact rfl)) ?_ | refine k_gr (by first | assumption | omega) (by first | assumption | ((try simp (disch := omega) only [sr_s, sr_a, sr_sr, u1_s, u1_k]); exact rfl)) (by omega) ?_ | refine k_ald (by first | assumption | omega) (by first | assumption | exact rfl) (by omega) (by omega) (by omega) (by first | assumption | ((try simp (disch := omega) only [sr_s, sr_a, sr_sr, u1_s, u1_k]); exact rfl)) ?_ | refine k_ifT (by first | (simp (disch := omega) only [w32_id]; first | done | omega) | omega) ?_ | refine k_ifF (by first | (simp (disch := omega) only [w32_id]; first | done | omega) | omega) ?_ | refine k_pf (by first | assumption | omega) (by (try simp (disch := omega) only [sr_s, sr_a, sr_sr, u1_u1]); exact rfl) ?_ | refine k_ast (by first | assumption | omega) (by first | assumption | exact rfl) (by omega) (by omega) (by omega) (by (try simp (disch := omega) only [sr_s, sr_a, sr_sr, u1_u1]); exact rfl) ?_ | refine k_irm (by omega) (by omega) (by omega) (by omega) ?_ | refine k_idv (by omega) (by omega) (by omega) (by omega) ?_ | refine k_tk (by first | assumption | omega) ?_ | refine k_rp (by omega) ?_ | refine k_aldR (by first | assumption | omega) (by first | assumption | exact rfl) (by omega) (by omega) (by omega) (by first | assumption | ((try simp (disch := omega) only [sr_s, sr_a, sr_sr, u1_s, u1_k]); exact rfl)) (by omega) ?_ | refine k_astR (by first | assumption | omega) (by first | assumption | exact rfl) (by omega) (by omega) (by omega) (by first | assumption | omega) (by (try simp (disch := omega) only [sr_s, sr_a, sr_sr, u1_u1]); exact rfl) ?_ | refine k_pz (by first | assumption | omega) (by omega) (by (try simp (disch := omega) only [sr_s, sr_a, sr_sr, u1_u1]); exact rfl) ?_ | refine k_alen (by first | assumption | omega) (by first | assumption | exact rfl) ?_ | refine k_cpy (by first | assumption | omega) (by first | assumption | omega) (by first | assumption | exact rfl) (by first | assumption | exact rfl) (by omega) (by omega) (by omega) (by omega) (by omega) (by omega) (by omega) (by omega) (by (try simp (disch := omega) only [sr_s, sr_a, sr_sr, u1_u1]); exact rfl) ?_ | refine k_if (by (try simp (disch := omega) only [w32_id]); exact Iff.rfl) (fun c => ?_) (fun c => ?_))
    refine Ok.ret ?_
    simp only [Sum.inl.injEq, Prod.mk.injEq, and_true, true_and]
    refine ⟨?_, by omega⟩
    congr 1
    (funext j; (try simp only [u1, cp1]); (repeat' split) <;> first | rfl | omega)
  · refine Ok.eq ?_
    unfold M_J7_fill_53178_b5
    dsimp only
    repeat' (with_reducible first | refine k_gf (by first | assumption | omega) (by first | assumption | ((try simp (disch := omega) only [sr_s, sr_a, sr_sr, u1_s, u1_k]); exact rfl)) ?_ | refine k_gr (by first | assumption | omega) (by first | assumption | ((try simp (disch := omega) only [sr_s, sr_a, sr_sr, u1_s, u1_k]); exact rfl)) (by omega) ?_ | refine k_ald (by first | assumption | omega) (by first | assumption | exact rfl) (by omega) (by omega) (by omega) (by first | assumption | ((try simp (disch := omega) only [sr_s, sr_a, sr_sr, u1_s, u1_k]); exact rfl)) ?_ | refine k_ifT (by first | (simp (disch := omega) only [w32_id]; first | done | omega) | omega) ?_ | refine k_ifF (by first | (simp (disch := omega) only [w32_id]; first | done | omega) | omega) ?_ | refine k_pf (by first | assumption | omega) (by (try simp (disch := omega) only [sr_s, sr_a, sr_sr, u1_u1]); exact rfl) ?_ | refine k_ast (by first | assumption | omega) (by first | assumption | exact rfl) (by omega) (by omega) (by omega) (by (try simp (disch := omega) only [sr_s, sr_a, sr_sr, u1_u1]); exact rfl) ?_ | refine k_irm (by omega) (by omega) (by omega) (by omega) ?_ | refine k_idv (by omega) (by omega) (by omega) (by omega) ?_ | refine k_tk (by first | assumption | omega) ?_ | refine k_rp (by omega) ?_ | refine k_aldR (by first | assumption | omega) (by first | assumption | exact rfl) (by omega) (by omega) (by omega) (by first | assumption | ((try simp (disch := omega) only [sr_s, sr_a, sr_sr, u1_s, u1_k]); exact rfl)) (by omega) ?_ | refine k_astR (by first | assumption | omega) (by first | assumption | exact rfl) (by omega) (by omega) (by omega) (by first | assumption | omega) (by (try simp (disch := omega) only [sr_s, sr_a, sr_sr, u1_u1]); exact rfl) ?_ | refine k_pz (by first | assumption | omega) (by omega) (by (try simp (disch := omega) only [sr_s, sr_a, sr_sr, u1_u1]); exact rfl) ?_ | refine k_alen (by first | assumption | omega) (by first | assumption | exact rfl) ?_ | refine k_cpy (by first | assumption | omega) (by first | assumption | omega) (by first | assumption | exact rfl) (by first | assumption | exact rfl) (by omega) (by omega) (by omega) (by omega) (by omega) (by omega) (by omega) (by omega) (by (try simp (disch := omega) only [sr_s, sr_a, sr_sr, u1_u1]); exact rfl) ?_ | refine k_if (by (try simp (disch := omega) only [w32_id]); exact Iff.rfl) (fun c => ?_) (fun c => ?_))
    refine Ok.ret ?_
    simp only [Sum.inr.injEq, Prod.mk.injEq, and_true, true_and]
    congr 1
    (funext j; (try simp only [u1, cp1]); (repeat' split) <;> first | rfl | omega)
/-- the errors with the first towns' made true -/
def mtN (f : Int → Int) : Nat → Int → Int
  | 0 => f
  | t + 1 => mtV (mtN f t) (t : Int)
theorem mtN_at (f : Int → Int) : ∀ (n : Nat) (j : Int), mtN f n j = if 0 ≤ j ∧ j < 4 * n then (if j % 4 = 0 then 0 else -2) else f j
  | 0, j => by rw [if_neg (by omega)]; rfl
  | n + 1, j => by
    show mtV (mtN f n) (n : Int) j = _
    unfold mtV
    rw [mtN_at f n j]
    (repeat' split) <;> first | rfl | omega
def clM (M : Int → Int → Int) (w : Int) : Int → Int → Int := sr (sr (sr (sr M w (fun k => if k = 0 ∨ k = 1 ∨ k = 2 ∨ k = 6 ∨ k = 7 then 0 else M w k)) (w + 1) (fun _ => 0)) (w + 2) (fun j => if 0 ≤ j ∧ j < 6 then -2 else 0)) (w + 3) (fun j => if 0 ≤ j ∧ j < 24 then (if j % 4 = 0 then 0 else -2) else 0)
theorem X8_clear_ok (hg : gW G w) (hm : mW M w) (hz : zoW M w) : M_X8_clear (M, G) w = some (clM M w, G) := by
  have hg' := hg
  obtain ⟨g0, g1, g2, g3, g4, g5, g6, g7⟩ := hg
  obtain ⟨m3, m4, m5⟩ := hm
  obtain ⟨z1, z2, z3⟩ := hz
  refine Ok.eq ?_
  unfold M_X8_clear
  repeat' (with_reducible first | refine k_gf (by first | assumption | omega) (by first | assumption | ((try simp (disch := omega) only [sr_s, sr_a, sr_sr, u1_s, u1_k, m3]); exact rfl)) ?_ | refine k_gr (by first | assumption | omega) (by first | assumption | ((try simp (disch := omega) only [sr_s, sr_a, sr_sr, u1_s, u1_k, m3]); exact rfl)) (by omega) ?_ | refine k_ald (by first | assumption | omega) (by first | assumption | exact rfl) (by omega) (by omega) (by omega) (by first | assumption | ((try simp (disch := omega) only [sr_s, sr_a, sr_sr, u1_s, u1_k, m3]); exact rfl)) ?_ | refine k_ifT (by first | (simp (disch := omega) only [w32_id]; first | done | omega) | omega) ?_ | refine k_ifF (by first | (simp (disch := omega) only [w32_id]; first | done | omega) | omega) ?_ | refine k_pf (by first | assumption | omega) (by (try simp (disch := omega) only [sr_s, sr_a, sr_sr, u1_u1, m3]); exact rfl) ?_ | refine k_ast (by first | assumption | omega) (by first | assumption | exact rfl) (by omega) (by omega) (by omega) (by (try simp (disch := omega) only [sr_s, sr_a, sr_sr, u1_u1, m3]); exact rfl) ?_ | refine k_irm (by omega) (by omega) (by omega) (by omega) ?_ | refine k_idv (by omega) (by omega) (by omega) (by omega) ?_ | refine k_tk (by first | assumption | omega) ?_ | refine k_rp (by omega) ?_ | refine k_aldR (by first | assumption | omega) (by first | assumption | exact rfl) (by omega) (by omega) (by omega) (by first | assumption | ((try simp (disch := omega) only [sr_s, sr_a, sr_sr, u1_s, u1_k, m3]); exact rfl)) (by omega) ?_ | refine k_astR (by first | assumption | omega) (by first | assumption | exact rfl) (by omega) (by omega) (by omega) (by first | assumption | omega) (by (try simp (disch := omega) only [sr_s, sr_a, sr_sr, u1_u1, m3]); exact rfl) ?_ | refine k_pz (by first | assumption | omega) (by omega) (by (try simp (disch := omega) only [sr_s, sr_a, sr_sr, u1_u1, m3]); exact rfl) ?_ | refine k_alen (by first | assumption | omega) (by first | assumption | exact rfl) ?_ | refine k_cpy (by first | assumption | omega) (by first | assumption | omega) (by first | assumption | exact rfl) (by first | assumption | exact rfl) (by omega) (by omega) (by omega) (by omega) (by omega) (by omega) (by omega) (by omega) (by (try simp (disch := omega) only [sr_s, sr_a, sr_sr, u1_u1, m3]); exact rfl) ?_ | refine k_if (by (try simp (disch := omega) only [w32_id]); exact Iff.rfl) (fun c => ?_) (fun c => ?_))
  refine k_eq (J7_fill_ok g2 g3 (by omega) (by omega)) ?_
  repeat' (with_reducible first | refine k_gf (by first | assumption | omega) (by first | assumption | ((try simp (disch := omega) only [sr_s, sr_a, sr_sr, u1_s, u1_k, m4]); exact rfl)) ?_ | refine k_gr (by first | assumption | omega) (by first | assumption | ((try simp (disch := omega) only [sr_s, sr_a, sr_sr, u1_s, u1_k, m4]); exact rfl)) (by omega) ?_ | refine k_ald (by first | assumption | omega) (by first | assumption | exact rfl) (by omega) (by omega) (by omega) (by first | assumption | ((try simp (disch := omega) only [sr_s, sr_a, sr_sr, u1_s, u1_k, m4]); exact rfl)) ?_ | refine k_ifT (by first | (simp (disch := omega) only [w32_id]; first | done | omega) | omega) ?_ | refine k_ifF (by first | (simp (disch := omega) only [w32_id]; first | done | omega) | omega) ?_ | refine k_pf (by first | assumption | omega) (by (try simp (disch := omega) only [sr_s, sr_a, sr_sr, u1_u1, m4]); exact rfl) ?_ | refine k_ast (by first | assumption | omega) (by first | assumption | exact rfl) (by omega) (by omega) (by omega) (by (try simp (disch := omega) only [sr_s, sr_a, sr_sr, u1_u1, m4]); exact rfl) ?_ | refine k_irm (by omega) (by omega) (by omega) (by omega) ?_ | refine k_idv (by omega) (by omega) (by omega) (by omega) ?_ | refine k_tk (by first | assumption | omega) ?_ | refine k_rp (by omega) ?_ | refine k_aldR (by first | assumption | omega) (by first | assumption | exact rfl) (by omega) (by omega) (by omega) (by first | assumption | ((try simp (disch := omega) only [sr_s, sr_a, sr_sr, u1_s, u1_k, m4]); exact rfl)) (by omega) ?_ | refine k_astR (by first | assumption | omega) (by first | assumption | exact rfl) (by omega) (by omega) (by omega) (by first | assumption | omega) (by (try simp (disch := omega) only [sr_s, sr_a, sr_sr, u1_u1, m4]); exact rfl) ?_ | refine k_pz (by first | assumption | omega) (by omega) (by (try simp (disch := omega) only [sr_s, sr_a, sr_sr, u1_u1, m4]); exact rfl) ?_ | refine k_alen (by first | assumption | omega) (by first | assumption | exact rfl) ?_ | refine k_cpy (by first | assumption | omega) (by first | assumption | omega) (by first | assumption | exact rfl) (by first | assumption | exact rfl) (by omega) (by omega) (by omega) (by omega) (by omega) (by omega) (by omega) (by omega) (by (try simp (disch := omega) only [sr_s, sr_a, sr_sr, u1_u1, m4]); exact rfl) ?_ | refine k_if (by (try simp (disch := omega) only [w32_id]); exact Iff.rfl) (fun c => ?_) (fun c => ?_))
  refine k_eq (J7_fill_ok g4 g5 (by omega) (by omega)) ?_
  unfold M_X8_clear_w34 M_X8_clear_p51
  simp (disch := first | assumption | omega) only [sr_s, sr_a, sr_sr]
  have e1 : (fun j => if 0 ≤ j ∧ j < 216 then (0 : Int) else M (w + 1) j) = fun _ => 0 := by
    funext j; split
    · rfl
    · exact z1 j (by omega)
  have e2 : (fun j => if 0 ≤ j ∧ j < 6 then (-2 : Int) else M (w + 2) j) = fun j => if 0 ≤ j ∧ j < 6 then -2 else 0 := by
    funext j; split
    · rfl
    · exact z2 j (by omega)
  rw [e1, e2]
  refine k_eq (wh_st (fun i => ((sr (sr (sr (sr M w (u1 (u1 (u1 (M w) 0 0) 1 0) 2 0)) (w + 1) fun _ => 0) (w + 2) fun j => if 0 ≤ j ∧ j < 6 then -2 else 0) (w + 3) (mtN (M (w + 3)) i), G), (i : Int))) 6 (by omega) (t := (sr (sr (sr (sr M w (u1 (u1 (u1 (M w) 0 0) 1 0) 2 0)) (w + 1) fun _ => 0) (w + 2) fun j => if 0 ≤ j ∧ j < 6 then -2 else 0) (w + 3) (mtN (M (w + 3)) 6), G)) ?_ ?_ ?_) ?_
  rotate_left 3
  · repeat' (with_reducible first | refine k_gf (by first | assumption | omega) (by first | assumption | ((try simp (disch := omega) only [sr_s, sr_a, sr_sr, u1_s, u1_k, m5]); exact rfl)) ?_ | refine k_gr (by first | assumption | omega) (by first | assumption | ((try simp (disch := omega) only [sr_s, sr_a, sr_sr, u1_s, u1_k, m5]); exact rfl)) (by omega) ?_ | refine k_ald (by first | assumption | omega) (by first | assumption | exact rfl) (by omega) (by omega) (by omega) (by first | assumption | ((try simp (disch := omega) only [sr_s, sr_a, sr_sr, u1_s, u1_k, m5]); exact rfl)) ?_ | refine k_ifT (by first | (simp (disch := omega) only [w32_id]; first | done | omega) | omega) ?_ | refine k_ifF (by first | (simp (disch := omega) only [w32_id]; first | done | omega) | omega) ?_ | refine k_pf (by first | assumption | omega) (by (try simp (disch := omega) only [sr_s, sr_a, sr_sr, u1_u1, m5]); exact rfl) ?_ | refine k_ast (by first | assumption | omega) (by first | assumption | exact rfl) (by omega) (by omega) (by omega) (by (try simp (disch := omega) only [sr_s, sr_a, sr_sr, u1_u1, m5]); exact rfl) ?_ | refine k_irm (by omega) (by omega) (by omega) (by omega) ?_ | refine k_idv (by omega) (by omega) (by omega) (by omega) ?_ | refine k_tk (by first | assumption | omega) ?_ | refine k_rp (by omega) ?_ | refine k_aldR (by first | assumption | omega) (by first | assumption | exact rfl) (by omega) (by omega) (by omega) (by first | assumption | ((try simp (disch := omega) only [sr_s, sr_a, sr_sr, u1_s, u1_k, m5]); exact rfl)) (by omega) ?_ | refine k_astR (by first | assumption | omega) (by first | assumption | exact rfl) (by omega) (by omega) (by omega) (by first | assumption | omega) (by (try simp (disch := omega) only [sr_s, sr_a, sr_sr, u1_u1, m5]); exact rfl) ?_ | refine k_pz (by first | assumption | omega) (by omega) (by (try simp (disch := omega) only [sr_s, sr_a, sr_sr, u1_u1, m5]); exact rfl) ?_ | refine k_alen (by first | assumption | omega) (by first | assumption | exact rfl) ?_ | refine k_cpy (by first | assumption | omega) (by first | assumption | omega) (by first | assumption | exact rfl) (by first | assumption | exact rfl) (by omega) (by omega) (by omega) (by omega) (by omega) (by omega) (by omega) (by omega) (by (try simp (disch := omega) only [sr_s, sr_a, sr_sr, u1_u1, m5]); exact rfl) ?_ | refine k_if (by (try simp (disch := omega) only [w32_id]); exact Iff.rfl) (fun c => ?_) (fun c => ?_))
    refine Ok.ret ?_
    simp only [Prod.mk.injEq, and_true]
    unfold clM
    have e3 : mtN (M (w + 3)) 6 = fun j => if 0 ≤ j ∧ j < 24 then (if j % 4 = 0 then 0 else -2) else 0 := by
      funext j
      rw [mtN_at]
      by_cases c : 0 ≤ j ∧ j < 24
      · rw [if_pos (by omega), if_pos c]
      · rw [if_neg (by omega), if_neg c]; exact z3 j (by omega)
    rw [e3]
    funext a
    by_cases e3 : a = w + 3
    · subst e3; simp (disch := first | assumption | omega) only [sr_s, sr_a, sr_sr]
    by_cases e2 : a = w + 2
    · subst e2; simp (disch := first | assumption | omega) only [sr_s, sr_a, sr_sr]
    by_cases e1 : a = w + 1
    · subst e1; simp (disch := first | assumption | omega) only [sr_s, sr_a, sr_sr]
    by_cases e0 : a = w
    · subst e0
      simp (disch := first | assumption | omega) only [sr_s, sr_a, sr_sr]
      funext k
      unfold u1
      by_cases k7 : k = 7
      · subst k7; simp
      by_cases k6 : k = 6
      · subst k6; simp
      by_cases k2 : k = 2
      · subst k2; simp
      by_cases k1 : k = 1
      · subst k1; simp
      by_cases k0 : k = 0
      · subst k0; simp
      simp [k0, k1, k2, k6, k7]
    · simp (disch := first | assumption | omega) only [sr_s, sr_a, sr_sr]
  · simp only [Prod.mk.injEq, and_true]
    refine ⟨?_, by omega⟩
    show _ = sr _ (w + 3) (M (w + 3))
    funext a
    by_cases e3 : a = w + 3
    · subst e3; simp (disch := first | assumption | omega) only [sr_s, sr_a, sr_sr]
    · simp (disch := first | assumption | omega) only [sr_s, sr_a, sr_sr]
  · intro i hi
    refine Ok.eq ?_
    unfold M_X8_clear_b34
    dsimp only
    refine k_ifT (by rw [w32_id (by omega) (by omega)]; omega) ?_
    refine k_eq (X8_makeTrue_ok hg' (by simp (disch := omega) only [sr_a, sr_s, u1_k]; exact m5) (by omega) (by omega)) (Ok.ret ?_)
    simp only [Sum.inl.injEq, Prod.mk.injEq, and_true, true_and]
    simp (disch := first | assumption | omega) only [sr_s, sr_a, sr_sr]
    exact ⟨rfl, by omega⟩
  · refine Ok.eq ?_
    unfold M_X8_clear_b34
    dsimp only
    repeat' (with_reducible first | refine k_gf (by first | assumption | omega) (by first | assumption | ((try simp (disch := omega) only [sr_s, sr_a, sr_sr, u1_s, u1_k, m5]); exact rfl)) ?_ | refine k_gr (by first | assumption | omega) (by first | assumption | ((try simp (disch := omega) only [sr_s, sr_a, sr_sr, u1_s, u1_k, m5]); exact rfl)) (by omega) ?_ | refine k_ald (by first | assumption | omega) (by first | assumption | exact rfl) (by omega) (by omega) (by omega) (by first | assumption | ((try simp (disch := omega) only [sr_s, sr_a, sr_sr, u1_s, u1_k, m5]); exact rfl)) ?_ | refine k_ifT (by first | (simp (disch := omega) only [w32_id]; first | done | omega) | omega) ?_ | refine k_ifF (by first | (simp (disch := omega) only [w32_id]; first | done | omega) | omega) ?_ | refine k_pf (by first | assumption | omega) (by (try simp (disch := omega) only [sr_s, sr_a, sr_sr, u1_u1, m5]); exact rfl) ?_ | refine k_ast (by first | assumption | omega) (by first | assumption | exact rfl) (by omega) (by omega) (by omega) (by (try simp (disch := omega) only [sr_s, sr_a, sr_sr, u1_u1, m5]); exact rfl) ?_ | refine k_irm (by omega) (by omega) (by omega) (by omega) ?_ | refine k_idv (by omega) (by omega) (by omega) (by omega) ?_ | refine k_tk (by first | assumption | omega) ?_ | refine k_rp (by omega) ?_ | refine k_aldR (by first | assumption | omega) (by first | assumption | exact rfl) (by omega) (by omega) (by omega) (by first | assumption | ((try simp (disch := omega) only [sr_s, sr_a, sr_sr, u1_s, u1_k, m5]); exact rfl)) (by omega) ?_ | refine k_astR (by first | assumption | omega) (by first | assumption | exact rfl) (by omega) (by omega) (by omega) (by first | assumption | omega) (by (try simp (disch := omega) only [sr_s, sr_a, sr_sr, u1_u1, m5]); exact rfl) ?_ | refine k_pz (by first | assumption | omega) (by omega) (by (try simp (disch := omega) only [sr_s, sr_a, sr_sr, u1_u1, m5]); exact rfl) ?_ | refine k_alen (by first | assumption | omega) (by first | assumption | exact rfl) ?_ | refine k_cpy (by first | assumption | omega) (by first | assumption | omega) (by first | assumption | exact rfl) (by first | assumption | exact rfl) (by omega) (by omega) (by omega) (by omega) (by omega) (by omega) (by omega) (by omega) (by (try simp (disch := omega) only [sr_s, sr_a, sr_sr, u1_u1, m5]); exact rfl) ?_ | refine k_if (by (try simp (disch := omega) only [w32_id]); exact Iff.rfl) (fun c => ?_) (fun c => ?_))
    exact Ok.ret rfl
end WT
