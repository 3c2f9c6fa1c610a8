/-! the reference: a start from now, rounds -/
theorem cp1_0 (g f : Int → Int) (i i2 : Int) : cp1 g f i i2 0 = g := by funext j; unfold cp1; rw [if_neg (by omega)]
theorem cp1_u {g f : Int → Int} {i i2 n : Int} (h : 0 ≤ n) : u1 (cp1 g f i i2 n) (i2 + n) (f (i + n)) = cp1 g f i i2 (n + 1) := by
  funext j
  simp only [u1, cp1]
  by_cases c : j = i2 + n
  · rw [if_pos c, if_pos (by omega)]; congr 1; omega
  · rw [if_neg c]; (repeat' split) <;> first | rfl | omega
/-- a stretch of a row filled -/
def fl1 (g V : Int → Int) (i n : Int) : Int → Int := fun j => if i ≤ j ∧ j < i + n then V (j - i) else g j
theorem fl1_0 (g V : Int → Int) (i : Int) : fl1 g V i 0 = g := by funext j; unfold fl1; rw [if_neg (by omega)]
theorem fl1_u {g V : Int → Int} {i n : Int} (h : 0 ≤ n) : u1 (fl1 g V i n) (i + n) (V n) = fl1 g V i (n + 1) := by
  funext j
  simp only [u1, fl1]
  by_cases c : j = i + n
  · rw [if_pos c, if_pos (by omega)]; congr 1; omega
  · rw [if_neg c]; (repeat' split) <;> first | rfl | omega
theorem k_lrm {β : Type} {x y : Int} {f : Int → Option β} {P : β → Prop} (hx1 : 0 ≤ x) (hx2 : x ≤ 9223372036854775807) (hy1 : 1 ≤ y) (hy2 : y ≤ 9223372036854775807) (h : Ok (f (x % y)) P) : Ok ((lrm x y).bind f) P := by
  have e1 : w64 x = x := w64_of (by omega) hx2
  have e2 : w64 y = y := w64_of (by omega) hy2
  have : lrm x y = some (x % y) := by unfold lrm; rw [e1, e2, Int.tmod_eq_emod_of_nonneg hx1]; exact if_neg (by omega)
  rw [this]; exact h
theorem mk9 {wd hi e1 e2 e3 p dr : Int} {m : Int → Int} (h : 0 ≤ p) : mkV wd hi 9 e1 e2 e3 m p dr = if p = dr then e1 else m p := by
  unfold mkV srcV
  simp only [Int.reduceEq, if_false, if_true]
  by_cases e : p = dr
  · rw [if_pos e, if_pos rfl, if_pos e]
  · rw [if_neg e, if_neg (by omega), if_neg e]
theorem sr_same {M : Int → Int → Int} {a : Int} {f : Int → Int} (h : f = M a) : sr M a f = M := by rw [h, sr_id]
theorem u1_same {f : Int → Int} {k : Int} : u1 f k (f k) = f := by funext j; unfold u1; split <;> first | rfl | (rename_i h; rw [h])
section RT
variable {M : Int → Int → Int} {G : GG} {rg q t mk k : Int}
def staM (M : Int → Int → Int) : Int → Int → Int := sr (sr (sr (sr M 129 (cp1 (M 129) (M 126) 0 0 216)) 130 (cp1 (M 130) (M 126) 216 0 6)) 131 (cp1 (M 131) (M 126) 222 0 24)) 124 (u1 (M 124) 26 (M 126 247))
theorem X11_starts_ok (hG : gAll G) (hp124 : pr124 (M 124)) : M_X11_starts (M, G) 124 = some (staM M, G) := by
  have k124 := gk_124 hG
  have k126 := gk_126 hG
  have l126 := gl_126 hG
  have k129 := gk_129 hG
  have l129 := gl_129 hG
  have k130 := gk_130 hG
  have l130 := gl_130 hG
  have k131 := gk_131 hG
  have l131 := gl_131 hG
  have p17 := pr124.p17 hp124
  have p22 := pr124.p22 hp124
  have p23 := pr124.p23 hp124
  have p24 := pr124.p24 hp124
  refine Ok.eq ?_
  unfold M_X11_starts M_X11_starts_w2 M_X11_starts_p27 M_X11_starts_w29 M_X11_starts_p94
  repeat' (with_reducible first | refine k_gf (by first | assumption | omega) (by first | assumption | ((try simp (disch := omega) only [sr_s, sr_a, sr_sr, u1_s, u1_k, p17]); exact rfl)) ?_ | refine k_gr (by first | assumption | omega) (by first | assumption | ((try simp (disch := omega) only [sr_s, sr_a, sr_sr, u1_s, u1_k, p17]); exact rfl)) (by omega) ?_ | refine k_ald (by first | assumption | omega) (by first | assumption | exact rfl) (by omega) (by omega) (by omega) (by first | assumption | ((try simp (disch := omega) only [sr_s, sr_a, sr_sr, u1_s, u1_k, p17]); exact rfl)) ?_ | refine k_ifT (by first | (simp (disch := omega) only [w32_id]; first | done | omega) | omega) ?_ | refine k_ifF (by first | (simp (disch := omega) only [w32_id]; first | done | omega) | omega) ?_ | refine k_pf (by first | assumption | omega) (by (try simp (disch := omega) only [sr_s, sr_a, sr_sr, u1_u1, p17]); exact rfl) ?_ | refine k_ast (by first | assumption | omega) (by first | assumption | exact rfl) (by omega) (by omega) (by omega) (by (try simp (disch := omega) only [sr_s, sr_a, sr_sr, u1_u1, p17]); exact rfl) ?_ | refine k_irm (by omega) (by omega) (by omega) (by omega) ?_ | refine k_idv (by omega) (by omega) (by omega) (by omega) ?_ | refine k_tk (by first | assumption | omega) ?_ | refine k_rp (by omega) ?_ | refine k_aldR (by first | assumption | omega) (by first | assumption | exact rfl) (by omega) (by omega) (by omega) (by first | assumption | ((try simp (disch := omega) only [sr_s, sr_a, sr_sr, u1_s, u1_k, p17]); exact rfl)) (by omega) ?_ | refine k_astR (by first | assumption | omega) (by first | assumption | exact rfl) (by omega) (by omega) (by omega) (by first | assumption | omega) (by (try simp (disch := omega) only [sr_s, sr_a, sr_sr, u1_u1, p17]); exact rfl) ?_ | refine k_pz (by first | assumption | omega) (by omega) (by (try simp (disch := omega) only [sr_s, sr_a, sr_sr, u1_u1, p17]); exact rfl) ?_ | refine k_alen (by first | assumption | omega) (by first | assumption | exact rfl) ?_ | refine k_cpy (by first | assumption | omega) (by first | assumption | omega) (by first | assumption | exact rfl) (by first | assumption | exact rfl) (by omega) (by omega) (by omega) (by omega) (by omega) (by omega) (by omega) (by omega) (by (try simp (disch := omega) only [sr_s, sr_a, sr_sr, u1_u1, p17]); exact rfl) ?_ | refine k_if (by (try simp (disch := omega) only [w32_id]); exact Iff.rfl) (fun c => ?_) (fun c => ?_))
  refine k_eq (wh_st (fun i => ((sr M 129 (cp1 (M 129) (M 126) 0 0 (i : Int)), G), (i : Int))) 216 (by omega) (t := (sr M 129 (cp1 (M 129) (M 126) 0 0 216), G)) ?_ ?_ ?_) ?_
  · show ((M, G), (0 : Int)) = ((sr M 129 (cp1 (M 129) (M 126) 0 0 0), G), 0)
    rw [cp1_0, sr_id]
  · intro i hi
    refine Ok.eq ?_
    unfold M_X11_starts_b2
    dsimp only
    repeat' (with_reducible first | refine k_gf (by first | assumption | omega) (by first | assumption | ((try simp (disch := omega) only [sr_s, sr_a, sr_sr, u1_s, u1_k, p17, p22]); exact rfl)) ?_ | refine k_gr (by first | assumption | omega) (by first | assumption | ((try simp (disch := omega) only [sr_s, sr_a, sr_sr, u1_s, u1_k, p17, p22]); exact rfl)) (by omega) ?_ | refine k_ald (by first | assumption | omega) (by first | assumption | exact rfl) (by omega) (by omega) (by omega) (by first | assumption | ((try simp (disch := omega) only [sr_s, sr_a, sr_sr, u1_s, u1_k, p17, p22]); exact rfl)) ?_ | refine k_ifT (by first | (simp (disch := omega) only [w32_id]; first | done | omega) | omega) ?_ | refine k_ifF (by first | (simp (disch := omega) only [w32_id]; first | done | omega) | omega) ?_ | refine k_pf (by first | assumption | omega) (by (try simp (disch := omega) only [sr_s, sr_a, sr_sr, u1_u1, p17, p22]); exact rfl) ?_ | refine k_ast (by first | assumption | omega) (by first | assumption | exact rfl) (by omega) (by omega) (by omega) (by (try simp (disch := omega) only [sr_s, sr_a, sr_sr, u1_u1, p17, p22]); exact rfl) ?_ | refine k_irm (by omega) (by omega) (by omega) (by omega) ?_ | refine k_idv (by omega) (by omega) (by omega) (by omega) ?_ | refine k_tk (by first | assumption | omega) ?_ | refine k_rp (by omega) ?_ | refine k_aldR (by first | assumption | omega) (by first | assumption | exact rfl) (by omega) (by omega) (by omega) (by first | assumption | ((try simp (disch := omega) only [sr_s, sr_a, sr_sr, u1_s, u1_k, p17, p22]); exact rfl)) (by omega) ?_ | refine k_astR (by first | assumption | omega) (by first | assumption | exact rfl) (by omega) (by omega) (by omega) (by first | assumption | omega) (by (try simp (disch := omega) only [sr_s, sr_a, sr_sr, u1_u1, p17, p22]); exact rfl) ?_ | refine k_pz (by first | assumption | omega) (by omega) (by (try simp (disch := omega) only [sr_s, sr_a, sr_sr, u1_u1, p17, p22]); exact rfl) ?_ | refine k_alen (by first | assumption | omega) (by first | assumption | exact rfl) ?_ | refine k_cpy (by first | assumption | omega) (by first | assumption | omega) (by first | assumption | exact rfl) (by first | assumption | exact rfl) (by omega) (by omega) (by omega) (by omega) (by omega) (by omega) (by omega) (by omega) (by (try simp (disch := omega) only [sr_s, sr_a, sr_sr, u1_u1, p17, p22]); exact rfl) ?_ | refine k_if (by (try simp (disch := omega) only [w32_id]); exact Iff.rfl) (fun c => ?_) (fun c => ?_))
    refine Ok.ret ?_
    simp only [Sum.inl.injEq, Prod.mk.injEq, and_true, true_and]
    refine ⟨?_, by omega⟩
    have := cp1_u (g := M 129) (f := M 126) (i := 0) (i2 := 0) (n := (i : Int)) (by omega)
    rw [Int.zero_add] at this
    rw [this]; rfl
  · refine Ok.eq ?_
    unfold M_X11_starts_b2
    dsimp only
    repeat' (with_reducible first | refine k_gf (by first | assumption | omega) (by first | assumption | ((try simp (disch := omega) only [sr_s, sr_a, sr_sr, u1_s, u1_k, p17, p22]); exact rfl)) ?_ | refine k_gr (by first | assumption | omega) (by first | assumption | ((try simp (disch := omega) only [sr_s, sr_a, sr_sr, u1_s, u1_k, p17, p22]); exact rfl)) (by omega) ?_ | refine k_ald (by first | assumption | omega) (by first | assumption | exact rfl) (by omega) (by omega) (by omega) (by first | assumption | ((try simp (disch := omega) only [sr_s, sr_a, sr_sr, u1_s, u1_k, p17, p22]); exact rfl)) ?_ | refine k_ifT (by first | (simp (disch := omega) only [w32_id]; first | done | omega) | omega) ?_ | refine k_ifF (by first | (simp (disch := omega) only [w32_id]; first | done | omega) | omega) ?_ | refine k_pf (by first | assumption | omega) (by (try simp (disch := omega) only [sr_s, sr_a, sr_sr, u1_u1, p17, p22]); exact rfl) ?_ | refine k_ast (by first | assumption | omega) (by first | assumption | exact rfl) (by omega) (by omega) (by omega) (by (try simp (disch := omega) only [sr_s, sr_a, sr_sr, u1_u1, p17, p22]); exact rfl) ?_ | refine k_irm (by omega) (by omega) (by omega) (by omega) ?_ | refine k_idv (by omega) (by omega) (by omega) (by omega) ?_ | refine k_tk (by first | assumption | omega) ?_ | refine k_rp (by omega) ?_ | refine k_aldR (by first | assumption | omega) (by first | assumption | exact rfl) (by omega) (by omega) (by omega) (by first | assumption | ((try simp (disch := omega) only [sr_s, sr_a, sr_sr, u1_s, u1_k, p17, p22]); exact rfl)) (by omega) ?_ | refine k_astR (by first | assumption | omega) (by first | assumption | exact rfl) (by omega) (by omega) (by omega) (by first | assumption | omega) (by (try simp (disch := omega) only [sr_s, sr_a, sr_sr, u1_u1, p17, p22]); exact rfl) ?_ | refine k_pz (by first | assumption | omega) (by omega) (by (try simp (disch := omega) only [sr_s, sr_a, sr_sr, u1_u1, p17, p22]); exact rfl) ?_ | refine k_alen (by first | assumption | omega) (by first | assumption | exact rfl) ?_ | refine k_cpy (by first | assumption | omega) (by first | assumption | omega) (by first | assumption | exact rfl) (by first | assumption | exact rfl) (by omega) (by omega) (by omega) (by omega) (by omega) (by omega) (by omega) (by omega) (by (try simp (disch := omega) only [sr_s, sr_a, sr_sr, u1_u1, p17, p22]); exact rfl) ?_ | refine k_if (by (try simp (disch := omega) only [w32_id]); exact Iff.rfl) (fun c => ?_) (fun c => ?_))
    exact Ok.ret rfl
  generalize hM1 : sr M 129 (cp1 (M 129) (M 126) 0 0 216) = M1
  have e0 : M1 124 = M 124 := by rw [← hM1]; simp (disch := first | assumption | omega) only [sr_s, sr_a, sr_sr]
  have e1 : M1 126 = M 126 := by rw [← hM1]; simp (disch := first | assumption | omega) only [sr_s, sr_a, sr_sr]
  have e2 : M1 130 = M 130 := by rw [← hM1]; simp (disch := first | assumption | omega) only [sr_s, sr_a, sr_sr]
  have e3 : M1 131 = M 131 := by rw [← hM1]; simp (disch := first | assumption | omega) only [sr_s, sr_a, sr_sr]
  refine k_eq (wh_st (fun i => ((sr (sr M1 130 (cp1 (M 130) (M 126) 216 0 (i : Int))) 131 (cp1 (M 131) (M 126) 222 0 (4 * (i : Int))), G), (i : Int))) 6 (by omega) (t := (sr (sr M1 130 (cp1 (M 130) (M 126) 216 0 6)) 131 (cp1 (M 131) (M 126) 222 0 24), G)) ?_ ?_ ?_) ?_
  · show ((M1, G), (0 : Int)) = ((sr (sr M1 130 (cp1 (M 130) (M 126) 216 0 0)) 131 (cp1 (M 131) (M 126) 222 0 (4 * 0)), G), 0)
    rw [Int.mul_zero, cp1_0, cp1_0, ← e2, sr_id, ← e3, sr_id]
  · intro t ht
    refine Ok.eq ?_
    unfold M_X11_starts_b29 M_X11_starts_w53 M_X11_starts_p88
    dsimp only
    repeat' (with_reducible first | refine k_gf (by first | assumption | omega) (by first | assumption | ((try simp (disch := omega) only [sr_s, sr_a, sr_sr, u1_s, u1_k, p17, p23, e0, e1]); exact rfl)) ?_ | refine k_gr (by first | assumption | omega) (by first | assumption | ((try simp (disch := omega) only [sr_s, sr_a, sr_sr, u1_s, u1_k, p17, p23, e0, e1]); exact rfl)) (by omega) ?_ | refine k_ald (by first | assumption | omega) (by first | assumption | exact rfl) (by omega) (by omega) (by omega) (by first | assumption | ((try simp (disch := omega) only [sr_s, sr_a, sr_sr, u1_s, u1_k, p17, p23, e0, e1]); exact rfl)) ?_ | refine k_ifT (by first | (simp (disch := omega) only [w32_id]; first | done | omega) | omega) ?_ | refine k_ifF (by first | (simp (disch := omega) only [w32_id]; first | done | omega) | omega) ?_ | refine k_pf (by first | assumption | omega) (by (try simp (disch := omega) only [sr_s, sr_a, sr_sr, u1_u1, p17, p23, e0, e1]); exact rfl) ?_ | refine k_ast (by first | assumption | omega) (by first | assumption | exact rfl) (by omega) (by omega) (by omega) (by (try simp (disch := omega) only [sr_s, sr_a, sr_sr, u1_u1, p17, p23, e0, e1]); exact rfl) ?_ | refine k_irm (by omega) (by omega) (by omega) (by omega) ?_ | refine k_idv (by omega) (by omega) (by omega) (by omega) ?_ | refine k_tk (by first | assumption | omega) ?_ | refine k_rp (by omega) ?_ | refine k_aldR (by first | assumption | omega) (by first | assumption | exact rfl) (by omega) (by omega) (by omega) (by first | assumption | ((try simp (disch := omega) only [sr_s, sr_a, sr_sr, u1_s, u1_k, p17, p23, e0, e1]); exact rfl)) (by omega) ?_ | refine k_astR (by first | assumption | omega) (by first | assumption | exact rfl) (by omega) (by omega) (by omega) (by first | assumption | omega) (by (try simp (disch := omega) only [sr_s, sr_a, sr_sr, u1_u1, p17, p23, e0, e1]); exact rfl) ?_ | refine k_pz (by first | assumption | omega) (by omega) (by (try simp (disch := omega) only [sr_s, sr_a, sr_sr, u1_u1, p17, p23, e0, e1]); exact rfl) ?_ | refine k_alen (by first | assumption | omega) (by first | assumption | exact rfl) ?_ | refine k_cpy (by first | assumption | omega) (by first | assumption | omega) (by first | assumption | exact rfl) (by first | assumption | exact rfl) (by omega) (by omega) (by omega) (by omega) (by omega) (by omega) (by omega) (by omega) (by (try simp (disch := omega) only [sr_s, sr_a, sr_sr, u1_u1, p17, p23, e0, e1]); exact rfl) ?_ | refine k_if (by (try simp (disch := omega) only [w32_id]); exact Iff.rfl) (fun c => ?_) (fun c => ?_))
    refine k_eq (wh_st (fun i => ((sr (sr M1 130 (cp1 (M 130) (M 126) 216 0 ((t : Int) + 1))) 131 (cp1 (M 131) (M 126) 222 0 (4 * (t : Int) + (i : Int))), G), (i : Int))) 4 (by omega) (t := (sr (sr M1 130 (cp1 (M 130) (M 126) 216 0 ((t : Int) + 1))) 131 (cp1 (M 131) (M 126) 222 0 (4 * (t : Int) + 4)), G)) ?_ ?_ ?_) ?_
    · show _ = ((sr (sr M1 130 (cp1 (M 130) (M 126) 216 0 ((t : Int) + 1))) 131 (cp1 (M 131) (M 126) 222 0 (4 * (t : Int) + 0)), G), (0 : Int))
      have := cp1_u (g := M 130) (f := M 126) (i := 216) (i2 := 0) (n := (t : Int)) (by omega)
      rw [Int.zero_add] at this
      rw [Int.add_zero, this, sr_cm _ _ _ (by omega), sr_sr]
    · intro i hi
      refine Ok.eq ?_
      unfold M_X11_starts_b53
      dsimp only
      repeat' (with_reducible first | refine k_gf (by first | assumption | omega) (by first | assumption | ((try simp (disch := omega) only [sr_s, sr_a, sr_sr, u1_s, u1_k, p17, p24, e0, e1]); exact rfl)) ?_ | refine k_gr (by first | assumption | omega) (by first | assumption | ((try simp (disch := omega) only [sr_s, sr_a, sr_sr, u1_s, u1_k, p17, p24, e0, e1]); exact rfl)) (by omega) ?_ | refine k_ald (by first | assumption | omega) (by first | assumption | exact rfl) (by omega) (by omega) (by omega) (by first | assumption | ((try simp (disch := omega) only [sr_s, sr_a, sr_sr, u1_s, u1_k, p17, p24, e0, e1]); exact rfl)) ?_ | refine k_ifT (by first | (simp (disch := omega) only [w32_id]; first | done | omega) | omega) ?_ | refine k_ifF (by first | (simp (disch := omega) only [w32_id]; first | done | omega) | omega) ?_ | refine k_pf (by first | assumption | omega) (by (try simp (disch := omega) only [sr_s, sr_a, sr_sr, u1_u1, p17, p24, e0, e1]); exact rfl) ?_ | refine k_ast (by first | assumption | omega) (by first | assumption | exact rfl) (by omega) (by omega) (by omega) (by (try simp (disch := omega) only [sr_s, sr_a, sr_sr, u1_u1, p17, p24, e0, e1]); exact rfl) ?_ | refine k_irm (by omega) (by omega) (by omega) (by omega) ?_ | refine k_idv (by omega) (by omega) (by omega) (by omega) ?_ | refine k_tk (by first | assumption | omega) ?_ | refine k_rp (by omega) ?_ | refine k_aldR (by first | assumption | omega) (by first | assumption | exact rfl) (by omega) (by omega) (by omega) (by first | assumption | ((try simp (disch := omega) only [sr_s, sr_a, sr_sr, u1_s, u1_k, p17, p24, e0, e1]); exact rfl)) (by omega) ?_ | refine k_astR (by first | assumption | omega) (by first | assumption | exact rfl) (by omega) (by omega) (by omega) (by first | assumption | omega) (by (try simp (disch := omega) only [sr_s, sr_a, sr_sr, u1_u1, p17, p24, e0, e1]); exact rfl) ?_ | refine k_pz (by first | assumption | omega) (by omega) (by (try simp (disch := omega) only [sr_s, sr_a, sr_sr, u1_u1, p17, p24, e0, e1]); exact rfl) ?_ | refine k_alen (by first | assumption | omega) (by first | assumption | exact rfl) ?_ | refine k_cpy (by first | assumption | omega) (by first | assumption | omega) (by first | assumption | exact rfl) (by first | assumption | exact rfl) (by omega) (by omega) (by omega) (by omega) (by omega) (by omega) (by omega) (by omega) (by (try simp (disch := omega) only [sr_s, sr_a, sr_sr, u1_u1, p17, p24, e0, e1]); exact rfl) ?_ | refine k_if (by (try simp (disch := omega) only [w32_id]); exact Iff.rfl) (fun c => ?_) (fun c => ?_))
      refine Ok.ret ?_
      simp only [Sum.inl.injEq, Prod.mk.injEq, and_true, true_and]
      refine ⟨?_, by omega⟩
      have := cp1_u (g := M 131) (f := M 126) (i := 222) (i2 := 0) (n := 4 * (t : Int) + (i : Int)) (by omega)
      rw [Int.zero_add, ← Int.add_assoc] at this
      rw [this]
      rfl
    · refine Ok.eq ?_
      unfold M_X11_starts_b53
      dsimp only
      repeat' (with_reducible first | refine k_gf (by first | assumption | omega) (by first | assumption | ((try simp (disch := omega) only [sr_s, sr_a, sr_sr, u1_s, u1_k]); exact rfl)) ?_ | refine k_gr (by first | assumption | omega) (by first | assumption | ((try simp (disch := omega) only [sr_s, sr_a, sr_sr, u1_s, u1_k]); exact rfl)) (by omega) ?_ | refine k_ald (by first | assumption | omega) (by first | assumption | exact rfl) (by omega) (by omega) (by omega) (by first | assumption | ((try simp (disch := omega) only [sr_s, sr_a, sr_sr, u1_s, u1_k]); exact rfl)) ?_ | refine k_ifT (by first | (simp (disch := omega) only [w32_id]; first | done | omega) | omega) ?_ | refine k_ifF (by first | (simp (disch := omega) only [w32_id]; first | done | omega) | omega) ?_ | refine k_pf (by first | assumption | omega) (by (try simp (disch := omega) only [sr_s, sr_a, sr_sr, u1_u1]); exact rfl) ?_ | refine k_ast (by first | assumption | omega) (by first | assumption | exact rfl) (by omega) (by omega) (by omega) (by (try simp (disch := omega) only [sr_s, sr_a, sr_sr, u1_u1]); exact rfl) ?_ | refine k_irm (by omega) (by omega) (by omega) (by omega) ?_ | refine k_idv (by omega) (by omega) (by omega) (by omega) ?_ | refine k_tk (by first | assumption | omega) ?_ | refine k_rp (by omega) ?_ | refine k_aldR (by first | assumption | omega) (by first | assumption | exact rfl) (by omega) (by omega) (by omega) (by first | assumption | ((try simp (disch := omega) only [sr_s, sr_a, sr_sr, u1_s, u1_k]); exact rfl)) (by omega) ?_ | refine k_astR (by first | assumption | omega) (by first | assumption | exact rfl) (by omega) (by omega) (by omega) (by first | assumption | omega) (by (try simp (disch := omega) only [sr_s, sr_a, sr_sr, u1_u1]); exact rfl) ?_ | refine k_pz (by first | assumption | omega) (by omega) (by (try simp (disch := omega) only [sr_s, sr_a, sr_sr, u1_u1]); exact rfl) ?_ | refine k_alen (by first | assumption | omega) (by first | assumption | exact rfl) ?_ | refine k_cpy (by first | assumption | omega) (by first | assumption | omega) (by first | assumption | exact rfl) (by first | assumption | exact rfl) (by omega) (by omega) (by omega) (by omega) (by omega) (by omega) (by omega) (by omega) (by (try simp (disch := omega) only [sr_s, sr_a, sr_sr, u1_u1]); exact rfl) ?_ | refine k_if (by (try simp (disch := omega) only [w32_id]); exact Iff.rfl) (fun c => ?_) (fun c => ?_))
      exact Ok.ret rfl
    · refine Ok.ret ?_
      simp only [Sum.inl.injEq, Prod.mk.injEq, and_true, true_and]
      refine ⟨?_, by omega⟩
      rw [show 4 * (((t + 1 : Nat)) : Int) = 4 * (t : Int) + 4 by omega]
      rfl
  · refine Ok.eq ?_
    unfold M_X11_starts_b29
    dsimp only
    repeat' (with_reducible first | refine k_gf (by first | assumption | omega) (by first | assumption | ((try simp (disch := omega) only [sr_s, sr_a, sr_sr, u1_s, u1_k]); exact rfl)) ?_ | refine k_gr (by first | assumption | omega) (by first | assumption | ((try simp (disch := omega) only [sr_s, sr_a, sr_sr, u1_s, u1_k]); exact rfl)) (by omega) ?_ | refine k_ald (by first | assumption | omega) (by first | assumption | exact rfl) (by omega) (by omega) (by omega) (by first | assumption | ((try simp (disch := omega) only [sr_s, sr_a, sr_sr, u1_s, u1_k]); exact rfl)) ?_ | refine k_ifT (by first | (simp (disch := omega) only [w32_id]; first | done | omega) | omega) ?_ | refine k_ifF (by first | (simp (disch := omega) only [w32_id]; first | done | omega) | omega) ?_ | refine k_pf (by first | assumption | omega) (by (try simp (disch := omega) only [sr_s, sr_a, sr_sr, u1_u1]); exact rfl) ?_ | refine k_ast (by first | assumption | omega) (by first | assumption | exact rfl) (by omega) (by omega) (by omega) (by (try simp (disch := omega) only [sr_s, sr_a, sr_sr, u1_u1]); exact rfl) ?_ | refine k_irm (by omega) (by omega) (by omega) (by omega) ?_ | refine k_idv (by omega) (by omega) (by omega) (by omega) ?_ | refine k_tk (by first | assumption | omega) ?_ | refine k_rp (by omega) ?_ | refine k_aldR (by first | assumption | omega) (by first | assumption | exact rfl) (by omega) (by omega) (by omega) (by first | assumption | ((try simp (disch := omega) only [sr_s, sr_a, sr_sr, u1_s, u1_k]); exact rfl)) (by omega) ?_ | refine k_astR (by first | assumption | omega) (by first | assumption | exact rfl) (by omega) (by omega) (by omega) (by first | assumption | omega) (by (try simp (disch := omega) only [sr_s, sr_a, sr_sr, u1_u1]); exact rfl) ?_ | refine k_pz (by first | assumption | omega) (by omega) (by (try simp (disch := omega) only [sr_s, sr_a, sr_sr, u1_u1]); exact rfl) ?_ | refine k_alen (by first | assumption | omega) (by first | assumption | exact rfl) ?_ | refine k_cpy (by first | assumption | omega) (by first | assumption | omega) (by first | assumption | exact rfl) (by first | assumption | exact rfl) (by omega) (by omega) (by omega) (by omega) (by omega) (by omega) (by omega) (by omega) (by (try simp (disch := omega) only [sr_s, sr_a, sr_sr, u1_u1]); exact rfl) ?_ | refine k_if (by (try simp (disch := omega) only [w32_id]); exact Iff.rfl) (fun c => ?_) (fun c => ?_))
    exact Ok.ret rfl
  repeat' (with_reducible first | refine k_gf (by first | assumption | omega) (by first | assumption | ((try simp (disch := omega) only [sr_s, sr_a, sr_sr, u1_s, u1_k, p17, e0, e1]); exact rfl)) ?_ | refine k_gr (by first | assumption | omega) (by first | assumption | ((try simp (disch := omega) only [sr_s, sr_a, sr_sr, u1_s, u1_k, p17, e0, e1]); exact rfl)) (by omega) ?_ | refine k_ald (by first | assumption | omega) (by first | assumption | exact rfl) (by omega) (by omega) (by omega) (by first | assumption | ((try simp (disch := omega) only [sr_s, sr_a, sr_sr, u1_s, u1_k, p17, e0, e1]); exact rfl)) ?_ | refine k_ifT (by first | (simp (disch := omega) only [w32_id]; first | done | omega) | omega) ?_ | refine k_ifF (by first | (simp (disch := omega) only [w32_id]; first | done | omega) | omega) ?_ | refine k_pf (by first | assumption | omega) (by (try simp (disch := omega) only [sr_s, sr_a, sr_sr, u1_u1, p17, e0, e1]); exact rfl) ?_ | refine k_ast (by first | assumption | omega) (by first | assumption | exact rfl) (by omega) (by omega) (by omega) (by (try simp (disch := omega) only [sr_s, sr_a, sr_sr, u1_u1, p17, e0, e1]); exact rfl) ?_ | refine k_irm (by omega) (by omega) (by omega) (by omega) ?_ | refine k_idv (by omega) (by omega) (by omega) (by omega) ?_ | refine k_tk (by first | assumption | omega) ?_ | refine k_rp (by omega) ?_ | refine k_aldR (by first | assumption | omega) (by first | assumption | exact rfl) (by omega) (by omega) (by omega) (by first | assumption | ((try simp (disch := omega) only [sr_s, sr_a, sr_sr, u1_s, u1_k, p17, e0, e1]); exact rfl)) (by omega) ?_ | refine k_astR (by first | assumption | omega) (by first | assumption | exact rfl) (by omega) (by omega) (by omega) (by first | assumption | omega) (by (try simp (disch := omega) only [sr_s, sr_a, sr_sr, u1_u1, p17, e0, e1]); exact rfl) ?_ | refine k_pz (by first | assumption | omega) (by omega) (by (try simp (disch := omega) only [sr_s, sr_a, sr_sr, u1_u1, p17, e0, e1]); exact rfl) ?_ | refine k_alen (by first | assumption | omega) (by first | assumption | exact rfl) ?_ | refine k_cpy (by first | assumption | omega) (by first | assumption | omega) (by first | assumption | exact rfl) (by first | assumption | exact rfl) (by omega) (by omega) (by omega) (by omega) (by omega) (by omega) (by omega) (by omega) (by (try simp (disch := omega) only [sr_s, sr_a, sr_sr, u1_u1, p17, e0, e1]); exact rfl) ?_ | refine k_if (by (try simp (disch := omega) only [w32_id]); exact Iff.rfl) (fun c => ?_) (fun c => ?_))
  refine Ok.ret ?_
  rw [← hM1]
  rfl
/-- what a round of one town leaves -/
def twnM (M : Int → Int → Int) (rg k t : Int) : Int → Int → Int :=
  sr (sr (sr M 129 (fl1 (M 129) (fun q => if M 130 t = -2 then M 129 (216 * k + 36 * t + q) else mkT (M rg 0) (M rg 1) (M 131) t (fun p => M 129 (216 * k + 36 * M 130 t + idx (M rg 0) p)) (inn (M rg 0) q) (dpV (M rg 0) (M rg 1) (nsV (M 124 26)))) (216 * k + 36 * t + 216) (M rg 0 * M rg 1)))
    132 (u1 (M 132) (6 * k + t) (if M 130 t ≠ -2 ∧ M 131 (4 * t) = 9 then nsV (M 124 26) % (M rg 0 * M rg 1) else -1)))
    124 (u1 (M 124) 26 (if M 130 t ≠ -2 ∧ M 131 (4 * t) = 9 then nsV (M 124 26) else M 124 26))
theorem X11_town_ok (hG : gAll G) (hp124 : pr124 (M 124)) (hB : rB M G rg) (hE : errT (M rg 0) (M rg 1) mk (M 131) t) (w1 : M rg 3 ≤ 6) (t0 : 0 ≤ t) (t1 : t < M rg 3) (k0 : 0 ≤ k) (k1 : k < 400) (c1 : -2 ≤ M 130 t) (c2 : M 130 t < 6) (c3 : M 130 t < 0 → M 130 t = -2) (s0 : 0 ≤ M 124 26) (s1 : M 124 26 < 65537) (m1 : 0 < mk) (m2 : mk ≤ 6) (hbk : ∀ i, 0 ≤ M 129 i ∧ M 129 i < mk) : M_X11_step_b2 (M, G) 124 k t = some (.inl ((twnM M rg k t, G), t + 1)) := by
  have hB' := hB
  have hE' := hE
  have hb : ∀ i, 0 ≤ M 129 i ∧ M 129 i ≤ 9 := fun i => by have := hbk i; omega
  have k129 := gk_129 hG
  have l129 := gl_129 hG
  have k130 := gk_130 hG
  have l130 := gl_130 hG
  have k131 := gk_131 hG
  have l131 := gl_131 hG
  have k132 := gk_132 hG
  have l132 := gl_132 hG
  have p22 := pr124.p22 hp124
  have p23 := pr124.p23 hp124
  have p24 := pr124.p24 hp124
  have p25 := pr124.p25 hp124
  obtain ⟨k124, r3, r0, kr, a1, a2, b1, b2⟩ := hB
  have hm := mul_b a1 a2 b1 b2
  have hw : ∀ i, w32 (M 129 i) = M 129 i := fun i => w32_id (by have := hb i; omega) (by have := hb i; omega)
  have hn := nsV_b (s := M 124 26)
  have hnm : 0 ≤ nsV (M 124 26) % (M rg 0 * M rg 1) ∧ nsV (M 124 26) % (M rg 0 * M rg 1) < M rg 0 * M rg 1 := ⟨Int.emod_nonneg _ (by omega), Int.emod_lt_of_pos _ (by omega)⟩
  have hs0 := hE.1
  have hs1 := hE.2.1
  refine Ok.eq ?_
  unfold M_X11_step_b2
  repeat' (with_reducible first | refine k_gf (by first | assumption | omega) (by first | assumption | ((try simp (disch := omega) only [sr_s, sr_a, sr_sr, u1_s, u1_k, r3, p25, p23]); exact rfl)) ?_ | refine k_gr (by first | assumption | omega) (by first | assumption | ((try simp (disch := omega) only [sr_s, sr_a, sr_sr, u1_s, u1_k, r3, p25, p23]); exact rfl)) (by omega) ?_ | refine k_ald (by first | assumption | omega) (by first | assumption | exact rfl) (by omega) (by omega) (by omega) (by first | assumption | ((try simp (disch := omega) only [sr_s, sr_a, sr_sr, u1_s, u1_k, r3, p25, p23]); exact rfl)) ?_ | refine k_ifT (by first | (simp (disch := omega) only [w32_id]; first | done | omega) | omega) ?_ | refine k_ifF (by first | (simp (disch := omega) only [w32_id]; first | done | omega) | omega) ?_ | refine k_pf (by first | assumption | omega) (by (try simp (disch := omega) only [sr_s, sr_a, sr_sr, u1_u1, r3, p25, p23]); exact rfl) ?_ | refine k_ast (by first | assumption | omega) (by first | assumption | exact rfl) (by omega) (by omega) (by omega) (by (try simp (disch := omega) only [sr_s, sr_a, sr_sr, u1_u1, r3, p25, p23]); exact rfl) ?_ | refine k_irm (by omega) (by omega) (by omega) (by omega) ?_ | refine k_idv (by omega) (by omega) (by omega) (by omega) ?_ | refine k_tk (by first | assumption | omega) ?_ | refine k_rp (by omega) ?_ | refine k_aldR (by first | assumption | omega) (by first | assumption | exact rfl) (by omega) (by omega) (by omega) (by first | assumption | ((try simp (disch := omega) only [sr_s, sr_a, sr_sr, u1_s, u1_k, r3, p25, p23]); exact rfl)) (by omega) ?_ | refine k_astR (by first | assumption | omega) (by first | assumption | exact rfl) (by omega) (by omega) (by omega) (by first | assumption | omega) (by (try simp (disch := omega) only [sr_s, sr_a, sr_sr, u1_u1, r3, p25, p23]); exact rfl) ?_ | refine k_pz (by first | assumption | omega) (by omega) (by (try simp (disch := omega) only [sr_s, sr_a, sr_sr, u1_u1, r3, p25, p23]); exact rfl) ?_ | refine k_alen (by first | assumption | omega) (by first | assumption | exact rfl) ?_ | refine k_cpy (by first | assumption | omega) (by first | assumption | omega) (by first | assumption | exact rfl) (by first | assumption | exact rfl) (by omega) (by omega) (by omega) (by omega) (by omega) (by omega) (by omega) (by omega) (by (try simp (disch := omega) only [sr_s, sr_a, sr_sr, u1_u1, r3, p25, p23]); exact rfl) ?_ | refine k_if (by (try simp (disch := omega) only [w32_id]); exact Iff.rfl) (fun c => ?_) (fun c => ?_))
  · have z : M 130 t = -2 := by assumption
    unfold M_X11_step_w57 M_X11_step_p94 M_X11_step_p245
    generalize hM1 : sr M 132 (u1 (M 132) (6 * k + t) (-1)) = M1
    have e0 : M1 124 = M 124 := by rw [← hM1]; simp (disch := first | assumption | omega) only [sr_s, sr_a, sr_sr]
    have e1 : M1 129 = M 129 := by rw [← hM1]; simp (disch := first | assumption | omega) only [sr_s, sr_a, sr_sr]
    have e2 : M1 rg = M rg := by rw [← hM1]; simp (disch := first | assumption | omega) only [sr_s, sr_a, sr_sr]
    refine k_eq (wh_st (fun i => ((sr M1 129 (cp1 (M 129) (M 129) (216 * k + 36 * t) (216 * k + 36 * t + 216) (i : Int)), G), (i : Int))) (M rg 0 * M rg 1).toNat (by omega) (t := (sr M1 129 (cp1 (M 129) (M 129) (216 * k + 36 * t) (216 * k + 36 * t + 216) (M rg 0 * M rg 1)), G)) ?_ ?_ ?_) ?_
    · show ((M1, G), (0 : Int)) = ((sr M1 129 (cp1 (M 129) (M 129) (216 * k + 36 * t) (216 * k + 36 * t + 216) 0), G), 0)
      rw [cp1_0, ← e1, sr_id]
    · intro i hi
      refine Ok.eq ?_
      unfold M_X11_step_b57
      dsimp only
      have hB1 : rB (sr M1 129 (cp1 (M 129) (M 129) (216 * k + 36 * t) (216 * k + 36 * t + 216) (i : Int))) G rg := hB'.cg (by rw [sr_a _ _ (by omega), e0]) (by rw [sr_a _ _ (by omega), e2])
      have hx : cp1 (M 129) (M 129) (216 * k + 36 * t) (216 * k + 36 * t + 216) (i : Int) (216 * k + 36 * t + i) = M 129 (216 * k + 36 * t + i) := by unfold cp1; rw [if_neg (by omega)]
      have ha := X10_all_ok hB1
      rw [sr_a _ _ (by omega), e2] at ha
      repeat' (with_reducible first | refine k_gf (by first | assumption | omega) (by first | assumption | ((try simp (disch := omega) only [sr_s, sr_a, sr_sr, u1_s, u1_k, r3, p22, e0, e2]); exact rfl)) ?_ | refine k_gr (by first | assumption | omega) (by first | assumption | ((try simp (disch := omega) only [sr_s, sr_a, sr_sr, u1_s, u1_k, r3, p22, e0, e2]); exact rfl)) (by omega) ?_ | refine k_ald (by first | assumption | omega) (by first | assumption | exact rfl) (by omega) (by omega) (by omega) (by first | assumption | ((try simp (disch := omega) only [sr_s, sr_a, sr_sr, u1_s, u1_k, r3, p22, e0, e2]); exact rfl)) ?_ | refine k_eq (ha) ?_ | refine k_ifT (by first | (simp (disch := omega) only [w32_id]; first | done | omega) | omega) ?_ | refine k_ifF (by first | (simp (disch := omega) only [w32_id]; first | done | omega) | omega) ?_ | refine k_pf (by first | assumption | omega) (by (try simp (disch := omega) only [sr_s, sr_a, sr_sr, u1_u1, r3, p22, e0, e2]); exact rfl) ?_ | refine k_ast (by first | assumption | omega) (by first | assumption | exact rfl) (by omega) (by omega) (by omega) (by (try simp (disch := omega) only [sr_s, sr_a, sr_sr, u1_u1, r3, p22, e0, e2]); exact rfl) ?_ | refine k_irm (by omega) (by omega) (by omega) (by omega) ?_ | refine k_idv (by omega) (by omega) (by omega) (by omega) ?_ | refine k_tk (by first | assumption | omega) ?_ | refine k_rp (by omega) ?_ | refine k_aldR (by first | assumption | omega) (by first | assumption | exact rfl) (by omega) (by omega) (by omega) (by first | assumption | ((try simp (disch := omega) only [sr_s, sr_a, sr_sr, u1_s, u1_k, r3, p22, e0, e2]); exact rfl)) (by omega) ?_ | refine k_astR (by first | assumption | omega) (by first | assumption | exact rfl) (by omega) (by omega) (by omega) (by first | assumption | omega) (by (try simp (disch := omega) only [sr_s, sr_a, sr_sr, u1_u1, r3, p22, e0, e2]); exact rfl) ?_ | refine k_pz (by first | assumption | omega) (by omega) (by (try simp (disch := omega) only [sr_s, sr_a, sr_sr, u1_u1, r3, p22, e0, e2]); exact rfl) ?_ | refine k_alen (by first | assumption | omega) (by first | assumption | exact rfl) ?_ | refine k_cpy (by first | assumption | omega) (by first | assumption | omega) (by first | assumption | exact rfl) (by first | assumption | exact rfl) (by omega) (by omega) (by omega) (by omega) (by omega) (by omega) (by omega) (by omega) (by (try simp (disch := omega) only [sr_s, sr_a, sr_sr, u1_u1, r3, p22, e0, e2]); exact rfl) ?_ | refine k_if (by (try simp (disch := omega) only [w32_id]); exact Iff.rfl) (fun c => ?_) (fun c => ?_))
      refine Ok.ret ?_
      simp only [Sum.inl.injEq, Prod.mk.injEq, and_true, true_and]
      refine ⟨?_, by omega⟩
      rw [hx, cp1_u (by omega)]
      rfl
    · refine Ok.eq ?_
      unfold M_X11_step_b57
      dsimp only
      have hB1 : rB (sr M1 129 (cp1 (M 129) (M 129) (216 * k + 36 * t) (216 * k + 36 * t + 216) (((M rg 0 * M rg 1).toNat : Nat) : Int))) G rg := hB'.cg (by rw [sr_a _ _ (by omega), e0]) (by rw [sr_a _ _ (by omega), e2])
      have ha := X10_all_ok hB1
      rw [sr_a _ _ (by omega), e2] at ha
      repeat' (with_reducible first | refine k_gf (by first | assumption | omega) (by first | assumption | ((try simp (disch := omega) only [sr_s, sr_a, sr_sr, u1_s, u1_k, r3, p22, e0, e2]); exact rfl)) ?_ | refine k_gr (by first | assumption | omega) (by first | assumption | ((try simp (disch := omega) only [sr_s, sr_a, sr_sr, u1_s, u1_k, r3, p22, e0, e2]); exact rfl)) (by omega) ?_ | refine k_ald (by first | assumption | omega) (by first | assumption | exact rfl) (by omega) (by omega) (by omega) (by first | assumption | ((try simp (disch := omega) only [sr_s, sr_a, sr_sr, u1_s, u1_k, r3, p22, e0, e2]); exact rfl)) ?_ | refine k_eq (ha) ?_ | refine k_ifT (by first | (simp (disch := omega) only [w32_id]; first | done | omega) | omega) ?_ | refine k_ifF (by first | (simp (disch := omega) only [w32_id]; first | done | omega) | omega) ?_ | refine k_pf (by first | assumption | omega) (by (try simp (disch := omega) only [sr_s, sr_a, sr_sr, u1_u1, r3, p22, e0, e2]); exact rfl) ?_ | refine k_ast (by first | assumption | omega) (by first | assumption | exact rfl) (by omega) (by omega) (by omega) (by (try simp (disch := omega) only [sr_s, sr_a, sr_sr, u1_u1, r3, p22, e0, e2]); exact rfl) ?_ | refine k_irm (by omega) (by omega) (by omega) (by omega) ?_ | refine k_idv (by omega) (by omega) (by omega) (by omega) ?_ | refine k_tk (by first | assumption | omega) ?_ | refine k_rp (by omega) ?_ | refine k_aldR (by first | assumption | omega) (by first | assumption | exact rfl) (by omega) (by omega) (by omega) (by first | assumption | ((try simp (disch := omega) only [sr_s, sr_a, sr_sr, u1_s, u1_k, r3, p22, e0, e2]); exact rfl)) (by omega) ?_ | refine k_astR (by first | assumption | omega) (by first | assumption | exact rfl) (by omega) (by omega) (by omega) (by first | assumption | omega) (by (try simp (disch := omega) only [sr_s, sr_a, sr_sr, u1_u1, r3, p22, e0, e2]); exact rfl) ?_ | refine k_pz (by first | assumption | omega) (by omega) (by (try simp (disch := omega) only [sr_s, sr_a, sr_sr, u1_u1, r3, p22, e0, e2]); exact rfl) ?_ | refine k_alen (by first | assumption | omega) (by first | assumption | exact rfl) ?_ | refine k_cpy (by first | assumption | omega) (by first | assumption | omega) (by first | assumption | exact rfl) (by first | assumption | exact rfl) (by omega) (by omega) (by omega) (by omega) (by omega) (by omega) (by omega) (by omega) (by (try simp (disch := omega) only [sr_s, sr_a, sr_sr, u1_u1, r3, p22, e0, e2]); exact rfl) ?_ | refine k_if (by (try simp (disch := omega) only [w32_id]); exact Iff.rfl) (fun c => ?_) (fun c => ?_))
      refine Ok.ret ?_
      simp only [Sum.inr.injEq, Prod.mk.injEq, and_true, true_and]
      rw [show (((M rg 0 * M rg 1).toNat : Nat) : Int) = M rg 0 * M rg 1 by omega]
    · refine Ok.ret ?_
      simp only [Sum.inl.injEq, Prod.mk.injEq, and_true, true_and]
      unfold twnM
      rw [if_neg (by omega), if_neg (by omega), ← hM1]
      have hfl : fl1 (M 129) (fun q => if M 130 t = -2 then M 129 (216 * k + 36 * t + q) else mkT (M rg 0) (M rg 1) (M 131) t (fun p => M 129 (216 * k + 36 * M 130 t + idx (M rg 0) p)) (inn (M rg 0) q) (dpV (M rg 0) (M rg 1) (nsV (M 124 26)))) (216 * k + 36 * t + 216) (M rg 0 * M rg 1) = cp1 (M 129) (M 129) (216 * k + 36 * t) (216 * k + 36 * t + 216) (M rg 0 * M rg 1) := by
        funext j
        simp only [fl1, cp1, z, if_true]
      rw [hfl, u1_same, sr_same (a := 124) (by simp (disch := first | assumption | omega) only [sr_s, sr_a, sr_sr]), sr_cm _ _ _ (by omega)]
  · have z : ¬ M 130 t = -2 := by assumption
    unfold M_X11_step_w117
    generalize hM1 : sr M 132 (u1 (M 132) (6 * k + t) (-1)) = M1
    have e0 : M1 124 = M 124 := by rw [← hM1]; simp (disch := first | assumption | omega) only [sr_s, sr_a, sr_sr]
    have e1 : M1 129 = M 129 := by rw [← hM1]; simp (disch := first | assumption | omega) only [sr_s, sr_a, sr_sr]
    have e2 : M1 rg = M rg := by rw [← hM1]; simp (disch := first | assumption | omega) only [sr_s, sr_a, sr_sr]
    have e3 : M1 131 = M 131 := by rw [← hM1]; simp (disch := first | assumption | omega) only [sr_s, sr_a, sr_sr]
    have e4 : M1 132 = u1 (M 132) (6 * k + t) (-1) := by rw [← hM1]; simp (disch := first | assumption | omega) only [sr_s, sr_a, sr_sr]
    generalize hV : (fun q => mkT (M rg 0) (M rg 1) (M 131) t (fun p => M 129 (216 * k + 36 * M 130 t + idx (M rg 0) p)) (inn (M rg 0) q) (-1)) = V
    refine k_eq (wh_st (fun i => ((sr M1 129 (fl1 (M 129) V (216 * k + 36 * t + 216) (i : Int)), G), (i : Int))) (M rg 0 * M rg 1).toNat (by omega) (t := (sr M1 129 (fl1 (M 129) V (216 * k + 36 * t + 216) (M rg 0 * M rg 1)), G)) ?_ ?_ ?_) ?_
    · show ((M1, G), (0 : Int)) = ((sr M1 129 (fl1 (M 129) V (216 * k + 36 * t + 216) 0), G), 0)
      rw [fl1_0, ← e1, sr_id]
    · intro i hi
      refine Ok.eq ?_
      unfold M_X11_step_b117
      dsimp only
      have hB1 : rB (sr M1 129 (fl1 (M 129) V (216 * k + 36 * t + 216) (i : Int))) G rg := hB'.cg (by rw [sr_a _ _ (by omega), e0]) (by rw [sr_a _ _ (by omega), e2])
      have ha := X10_all_ok hB1
      rw [sr_a _ _ (by omega), e2] at ha
      have hVb : ∀ j, 0 ≤ fl1 (M 129) V (216 * k + 36 * t + 216) (i : Int) j ∧ fl1 (M 129) V (216 * k + 36 * t + 216) (i : Int) j ≤ 9 := fun j => by
        unfold fl1
        split
        · rw [← hV]
          have := mkV_b (mk := mk) (dr := -1) (m := fun p => M 129 (216 * k + 36 * M 130 t + idx (M rg 0) p)) a1 a2 b1 b2 m1 hE' (inn_in (q := j - (216 * k + 36 * t + 216)) a1 a2 b1 b2 (by omega) (by omega)) (fun p _ => hbk _)
          dsimp only [mkT]
          omega
        · exact hb j
      have hk := X11_marked_ok (mk := mk) (q := i) (t := t) (mp := 216 * k + 36 * M 130 t) hB1 (by rw [sr_a _ _ (by omega), e2]; exact ⟨by rw [sr_a _ _ (by omega), e0]; exact p24, k131, l131, t0, by omega, by rw [sr_a _ _ (by omega), e3]; exact hE'⟩) (by rw [sr_a _ _ (by omega), e0]; exact p22) k129 l129 (by omega) (by rw [sr_a _ _ (by omega), e2]; omega) (by omega) (by omega) (by rw [sr_s]; exact hVb)
      simp (disch := omega) only [sr_a, sr_s, e2, e3] at hk
      have hVi : mkT (M rg 0) (M rg 1) (M 131) t (fun p => fl1 (M 129) V (216 * k + 36 * t + 216) (i : Int) (216 * k + 36 * M 130 t + idx (M rg 0) p)) (inn (M rg 0) i) (-1) = V i := by
        rw [← hV]
        refine mkV_cg a1 a2 b1 b2 hE' (inn_in a1 a2 b1 b2 (by omega) (by omega)) (fun p hp => ?_)
        have := idx_b a1 a2 b2 hp
        unfold fl1
        rw [if_neg (by omega)]
      rw [hVi] at hk
      repeat' (with_reducible first | refine k_gf (by first | assumption | omega) (by first | assumption | ((try simp (disch := omega) only [sr_s, sr_a, sr_sr, u1_s, u1_k, r3, p22, e0, e2]); exact rfl)) ?_ | refine k_gr (by first | assumption | omega) (by first | assumption | ((try simp (disch := omega) only [sr_s, sr_a, sr_sr, u1_s, u1_k, r3, p22, e0, e2]); exact rfl)) (by omega) ?_ | refine k_ald (by first | assumption | omega) (by first | assumption | exact rfl) (by omega) (by omega) (by omega) (by first | assumption | ((try simp (disch := omega) only [sr_s, sr_a, sr_sr, u1_s, u1_k, r3, p22, e0, e2]); exact rfl)) ?_ | refine k_eq (ha) ?_ | refine k_eq (hk) ?_ | refine k_ifT (by first | (simp (disch := omega) only [w32_id]; first | done | omega) | omega) ?_ | refine k_ifF (by first | (simp (disch := omega) only [w32_id]; first | done | omega) | omega) ?_ | refine k_pf (by first | assumption | omega) (by (try simp (disch := omega) only [sr_s, sr_a, sr_sr, u1_u1, r3, p22, e0, e2]); exact rfl) ?_ | refine k_ast (by first | assumption | omega) (by first | assumption | exact rfl) (by omega) (by omega) (by omega) (by (try simp (disch := omega) only [sr_s, sr_a, sr_sr, u1_u1, r3, p22, e0, e2]); exact rfl) ?_ | refine k_irm (by omega) (by omega) (by omega) (by omega) ?_ | refine k_idv (by omega) (by omega) (by omega) (by omega) ?_ | refine k_tk (by first | assumption | omega) ?_ | refine k_rp (by omega) ?_ | refine k_aldR (by first | assumption | omega) (by first | assumption | exact rfl) (by omega) (by omega) (by omega) (by first | assumption | ((try simp (disch := omega) only [sr_s, sr_a, sr_sr, u1_s, u1_k, r3, p22, e0, e2]); exact rfl)) (by omega) ?_ | refine k_astR (by first | assumption | omega) (by first | assumption | exact rfl) (by omega) (by omega) (by omega) (by first | assumption | omega) (by (try simp (disch := omega) only [sr_s, sr_a, sr_sr, u1_u1, r3, p22, e0, e2]); exact rfl) ?_ | refine k_pz (by first | assumption | omega) (by omega) (by (try simp (disch := omega) only [sr_s, sr_a, sr_sr, u1_u1, r3, p22, e0, e2]); exact rfl) ?_ | refine k_alen (by first | assumption | omega) (by first | assumption | exact rfl) ?_ | refine k_cpy (by first | assumption | omega) (by first | assumption | omega) (by first | assumption | exact rfl) (by first | assumption | exact rfl) (by omega) (by omega) (by omega) (by omega) (by omega) (by omega) (by omega) (by omega) (by (try simp (disch := omega) only [sr_s, sr_a, sr_sr, u1_u1, r3, p22, e0, e2]); exact rfl) ?_ | refine k_if (by (try simp (disch := omega) only [w32_id]); exact Iff.rfl) (fun c => ?_) (fun c => ?_))
      refine Ok.ret ?_
      simp only [Sum.inl.injEq, Prod.mk.injEq, and_true, true_and]
      refine ⟨?_, by omega⟩
      rw [fl1_u (by omega)]
      rfl
    · refine Ok.eq ?_
      unfold M_X11_step_b117
      dsimp only
      have hB1 : rB (sr M1 129 (fl1 (M 129) V (216 * k + 36 * t + 216) (((M rg 0 * M rg 1).toNat : Nat) : Int))) G rg := hB'.cg (by rw [sr_a _ _ (by omega), e0]) (by rw [sr_a _ _ (by omega), e2])
      have ha := X10_all_ok hB1
      rw [sr_a _ _ (by omega), e2] at ha
      repeat' (with_reducible first | refine k_gf (by first | assumption | omega) (by first | assumption | ((try simp (disch := omega) only [sr_s, sr_a, sr_sr, u1_s, u1_k, r3, p22, e0, e2]); exact rfl)) ?_ | refine k_gr (by first | assumption | omega) (by first | assumption | ((try simp (disch := omega) only [sr_s, sr_a, sr_sr, u1_s, u1_k, r3, p22, e0, e2]); exact rfl)) (by omega) ?_ | refine k_ald (by first | assumption | omega) (by first | assumption | exact rfl) (by omega) (by omega) (by omega) (by first | assumption | ((try simp (disch := omega) only [sr_s, sr_a, sr_sr, u1_s, u1_k, r3, p22, e0, e2]); exact rfl)) ?_ | refine k_eq (ha) ?_ | refine k_ifT (by first | (simp (disch := omega) only [w32_id]; first | done | omega) | omega) ?_ | refine k_ifF (by first | (simp (disch := omega) only [w32_id]; first | done | omega) | omega) ?_ | refine k_pf (by first | assumption | omega) (by (try simp (disch := omega) only [sr_s, sr_a, sr_sr, u1_u1, r3, p22, e0, e2]); exact rfl) ?_ | refine k_ast (by first | assumption | omega) (by first | assumption | exact rfl) (by omega) (by omega) (by omega) (by (try simp (disch := omega) only [sr_s, sr_a, sr_sr, u1_u1, r3, p22, e0, e2]); exact rfl) ?_ | refine k_irm (by omega) (by omega) (by omega) (by omega) ?_ | refine k_idv (by omega) (by omega) (by omega) (by omega) ?_ | refine k_tk (by first | assumption | omega) ?_ | refine k_rp (by omega) ?_ | refine k_aldR (by first | assumption | omega) (by first | assumption | exact rfl) (by omega) (by omega) (by omega) (by first | assumption | ((try simp (disch := omega) only [sr_s, sr_a, sr_sr, u1_s, u1_k, r3, p22, e0, e2]); exact rfl)) (by omega) ?_ | refine k_astR (by first | assumption | omega) (by first | assumption | exact rfl) (by omega) (by omega) (by omega) (by first | assumption | omega) (by (try simp (disch := omega) only [sr_s, sr_a, sr_sr, u1_u1, r3, p22, e0, e2]); exact rfl) ?_ | refine k_pz (by first | assumption | omega) (by omega) (by (try simp (disch := omega) only [sr_s, sr_a, sr_sr, u1_u1, r3, p22, e0, e2]); exact rfl) ?_ | refine k_alen (by first | assumption | omega) (by first | assumption | exact rfl) ?_ | refine k_cpy (by first | assumption | omega) (by first | assumption | omega) (by first | assumption | exact rfl) (by first | assumption | exact rfl) (by omega) (by omega) (by omega) (by omega) (by omega) (by omega) (by omega) (by omega) (by (try simp (disch := omega) only [sr_s, sr_a, sr_sr, u1_u1, r3, p22, e0, e2]); exact rfl) ?_ | refine k_if (by (try simp (disch := omega) only [w32_id]); exact Iff.rfl) (fun c => ?_) (fun c => ?_))
      refine Ok.ret ?_
      simp only [Sum.inr.injEq, Prod.mk.injEq, and_true, true_and]
      rw [show (((M rg 0 * M rg 1).toNat : Nat) : Int) = M rg 0 * M rg 1 by omega]
    · unfold M_X11_step_p154 M_X11_step_p245
      repeat' (with_reducible first | refine k_gf (by first | assumption | omega) (by first | assumption | ((try simp (disch := omega) only [sr_s, sr_a, sr_sr, u1_s, u1_k, p24, e0, e3]); exact rfl)) ?_ | refine k_gr (by first | assumption | omega) (by first | assumption | ((try simp (disch := omega) only [sr_s, sr_a, sr_sr, u1_s, u1_k, p24, e0, e3]); exact rfl)) (by omega) ?_ | refine k_ald (by first | assumption | omega) (by first | assumption | exact rfl) (by omega) (by omega) (by omega) (by first | assumption | ((try simp (disch := omega) only [sr_s, sr_a, sr_sr, u1_s, u1_k, p24, e0, e3]); exact rfl)) ?_ | refine k_ifT (by first | (simp (disch := omega) only [w32_id]; first | done | omega) | omega) ?_ | refine k_ifF (by first | (simp (disch := omega) only [w32_id]; first | done | omega) | omega) ?_ | refine k_pf (by first | assumption | omega) (by (try simp (disch := omega) only [sr_s, sr_a, sr_sr, u1_u1, p24, e0, e3]); exact rfl) ?_ | refine k_ast (by first | assumption | omega) (by first | assumption | exact rfl) (by omega) (by omega) (by omega) (by (try simp (disch := omega) only [sr_s, sr_a, sr_sr, u1_u1, p24, e0, e3]); exact rfl) ?_ | refine k_irm (by omega) (by omega) (by omega) (by omega) ?_ | refine k_idv (by omega) (by omega) (by omega) (by omega) ?_ | refine k_tk (by first | assumption | omega) ?_ | refine k_rp (by omega) ?_ | refine k_aldR (by first | assumption | omega) (by first | assumption | exact rfl) (by omega) (by omega) (by omega) (by first | assumption | ((try simp (disch := omega) only [sr_s, sr_a, sr_sr, u1_s, u1_k, p24, e0, e3]); exact rfl)) (by omega) ?_ | refine k_astR (by first | assumption | omega) (by first | assumption | exact rfl) (by omega) (by omega) (by omega) (by first | assumption | omega) (by (try simp (disch := omega) only [sr_s, sr_a, sr_sr, u1_u1, p24, e0, e3]); exact rfl) ?_ | refine k_pz (by first | assumption | omega) (by omega) (by (try simp (disch := omega) only [sr_s, sr_a, sr_sr, u1_u1, p24, e0, e3]); exact rfl) ?_ | refine k_alen (by first | assumption | omega) (by first | assumption | exact rfl) ?_ | refine k_cpy (by first | assumption | omega) (by first | assumption | omega) (by first | assumption | exact rfl) (by first | assumption | exact rfl) (by omega) (by omega) (by omega) (by omega) (by omega) (by omega) (by omega) (by omega) (by (try simp (disch := omega) only [sr_s, sr_a, sr_sr, u1_u1, p24, e0, e3]); exact rfl) ?_ | refine k_if (by (try simp (disch := omega) only [w32_id]); exact Iff.rfl) (fun c => ?_) (fun c => ?_))
      · have z9 : M 131 (4 * t) = 9 := by assumption
        refine k_lrm (by rw [w32_id (by omega) (by omega)]; omega) (by rw [w32_id (by omega) (by omega)]; omega) (by omega) (by omega) ?_
        rw [show w64 ((75 * w32 (M 124 26) + 74) % 65537) = nsV (M 124 26) from by rw [w32_id (by omega) (by omega), w64_of (by omega) (by omega)]; rfl]
        have ha : ∀ M', M' 124 3 = M 124 3 → M' rg = M rg → M_X10_all (M', G) rg = some (M rg 0 * M rg 1) := fun M' h1 h2 => by rw [X10_all_ok (hB'.cg h1 h2), h2]
        repeat' (with_reducible first | refine k_gf (by first | assumption | omega) (by first | assumption | ((try simp (disch := omega) only [sr_s, sr_a, sr_sr, u1_s, u1_k, r3, p22, p24, p25, e0, e2, e3, e4]); exact rfl)) ?_ | refine k_gr (by first | assumption | omega) (by first | assumption | ((try simp (disch := omega) only [sr_s, sr_a, sr_sr, u1_s, u1_k, r3, p22, p24, p25, e0, e2, e3, e4]); exact rfl)) (by omega) ?_ | refine k_ald (by first | assumption | omega) (by first | assumption | exact rfl) (by omega) (by omega) (by omega) (by first | assumption | ((try simp (disch := omega) only [sr_s, sr_a, sr_sr, u1_s, u1_k, r3, p22, p24, p25, e0, e2, e3, e4]); exact rfl)) ?_ | refine k_eq (ha _ (by simp (disch := omega) only [sr_s, sr_a, u1_k, e0]) (by simp (disch := omega) only [sr_a, e2])) ?_ | refine k_ifT (by first | (simp (disch := omega) only [w32_id]; first | done | omega) | omega) ?_ | refine k_ifF (by first | (simp (disch := omega) only [w32_id]; first | done | omega) | omega) ?_ | refine k_pf (by first | assumption | omega) (by (try simp (disch := omega) only [sr_s, sr_a, sr_sr, u1_u1, r3, p22, p24, p25, e0, e2, e3, e4]); exact rfl) ?_ | refine k_ast (by first | assumption | omega) (by first | assumption | exact rfl) (by omega) (by omega) (by omega) (by (try simp (disch := omega) only [sr_s, sr_a, sr_sr, u1_u1, r3, p22, p24, p25, e0, e2, e3, e4]); exact rfl) ?_ | refine k_irm (by omega) (by omega) (by omega) (by omega) ?_ | refine k_idv (by omega) (by omega) (by omega) (by omega) ?_ | refine k_tk (by first | assumption | omega) ?_ | refine k_rp (by omega) ?_ | refine k_aldR (by first | assumption | omega) (by first | assumption | exact rfl) (by omega) (by omega) (by omega) (by first | assumption | ((try simp (disch := omega) only [sr_s, sr_a, sr_sr, u1_s, u1_k, r3, p22, p24, p25, e0, e2, e3, e4]); exact rfl)) (by omega) ?_ | refine k_astR (by first | assumption | omega) (by first | assumption | exact rfl) (by omega) (by omega) (by omega) (by first | assumption | omega) (by (try simp (disch := omega) only [sr_s, sr_a, sr_sr, u1_u1, r3, p22, p24, p25, e0, e2, e3, e4]); exact rfl) ?_ | refine k_pz (by first | assumption | omega) (by omega) (by (try simp (disch := omega) only [sr_s, sr_a, sr_sr, u1_u1, r3, p22, p24, p25, e0, e2, e3, e4]); exact rfl) ?_ | refine k_alen (by first | assumption | omega) (by first | assumption | exact rfl) ?_ | refine k_cpy (by first | assumption | omega) (by first | assumption | omega) (by first | assumption | exact rfl) (by first | assumption | exact rfl) (by omega) (by omega) (by omega) (by omega) (by omega) (by omega) (by omega) (by omega) (by (try simp (disch := omega) only [sr_s, sr_a, sr_sr, u1_u1, r3, p22, p24, p25, e0, e2, e3, e4]); exact rfl) ?_ | refine k_if (by (try simp (disch := omega) only [w32_id]); exact Iff.rfl) (fun c => ?_) (fun c => ?_))
        refine Ok.ret ?_
        simp only [Sum.inl.injEq, Prod.mk.injEq, and_true, true_and]
        unfold twnM
        rw [if_pos ⟨z, z9⟩, if_pos ⟨z, z9⟩, ← hM1]
        have hfl : fl1 (M 129) (fun q => if M 130 t = -2 then M 129 (216 * k + 36 * t + q) else mkT (M rg 0) (M rg 1) (M 131) t (fun p => M 129 (216 * k + 36 * M 130 t + idx (M rg 0) p)) (inn (M rg 0) q) (dpV (M rg 0) (M rg 1) (nsV (M 124 26)))) (216 * k + 36 * t + 216) (M rg 0 * M rg 1) = u1 (fl1 (M 129) V (216 * k + 36 * t + 216) (M rg 0 * M rg 1)) (216 * k + 36 * t + 216 + nsV (M 124 26) % (M rg 0 * M rg 1)) (M 131 (4 * t + 1)) := by
          rw [← hV]
          funext j
          simp only [fl1, z, if_false, u1, mkT, z9]
          by_cases c : 216 * k + 36 * t + 216 ≤ j ∧ j < 216 * k + 36 * t + 216 + M rg 0 * M rg 1
          · have hin := inn_in (q := j - (216 * k + 36 * t + 216)) a1 a2 b1 b2 (by omega) (by omega)
            have h0 := hin.1
            rw [if_pos c, if_pos c, mk9 h0, mk9 h0, dpV_inn]
            by_cases c2 : j = 216 * k + 36 * t + 216 + nsV (M 124 26) % (M rg 0 * M rg 1)
            · rw [if_pos c2, if_pos (by congr 1; omega)]
            · rw [if_neg c2, if_neg (fun h => ?_), if_neg (by omega)]
              have := congrArg (idx (M rg 0)) h
              rw [idx_inn a1 a2 (by omega), idx_inn a1 a2 (by omega)] at this
              omega
          · rw [if_neg c, if_neg (by omega), if_neg c]
        rw [hfl]
        (funext a; simp only [sr]; (repeat' split) <;> first | rfl | omega | skip)
      · have z9 : ¬ M 131 (4 * t) = 9 := by assumption
        refine Ok.ret ?_
        simp only [Sum.inl.injEq, Prod.mk.injEq, and_true, true_and]
        unfold twnM
        rw [if_neg (by omega), if_neg (by omega), ← hM1]
        have hfl : fl1 (M 129) (fun q => if M 130 t = -2 then M 129 (216 * k + 36 * t + q) else mkT (M rg 0) (M rg 1) (M 131) t (fun p => M 129 (216 * k + 36 * M 130 t + idx (M rg 0) p)) (inn (M rg 0) q) (dpV (M rg 0) (M rg 1) (nsV (M 124 26)))) (216 * k + 36 * t + 216) (M rg 0 * M rg 1) = fl1 (M 129) V (216 * k + 36 * t + 216) (M rg 0 * M rg 1) := by
          rw [← hV]
          funext j
          simp only [fl1, z, if_false]
          split
          · exact mkV_dr z9
          · rfl
        rw [hfl, u1_same, sr_same (a := 124) (by simp (disch := first | assumption | omega) only [sr_s, sr_a, sr_sr]), sr_cm _ _ _ (by omega)]
end RT
