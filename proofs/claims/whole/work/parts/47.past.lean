/-! what undo and keeps go back to, on both sides -/
section PS
variable {M M1 : Int → Int → Int} {G : GG} {td r rg t c d : Int}
/-- a World's rows moved -/
theorem wR.mv {M2 : Int → Int → Int} {w w2 wd hi tw mk : Int} (h : wR M w wd hi tw mk) (e0 : M2 w2 0 = M w 0) (e1 : M2 w2 1 = M w 1) (e2 : M2 w2 2 = M w 2) (e6 : M2 w2 6 = M w 6) (f1 : M2 (w2 + 1) = M (w + 1)) (f2 : M2 (w2 + 2) = M (w + 2)) (f3 : M2 (w2 + 3) = M (w + 3)) : wR M2 w2 wd hi tw mk := by
  unfold wR at *
  rw [e0, e1, e2, e6, f1, f2, f3]
  exact h
theorem cW.mv {M2 : Int → Int → Int} {w w2 wd hi tw a o a2 o2 : Int} (h : cW M wd hi tw w a o) (h6 : tw ≤ 6) (a1 : 2 ≤ wd) (a2' : wd ≤ 6) (b1 : 2 ≤ hi) (b2 : hi ≤ 6) (e6 : M2 w2 6 = M w 6) (e7 : M2 w2 7 = M w 7) (f1 : M2 (w2 + 1) = M (w + 1)) (f2 : M2 (w2 + 2) = M (w + 2)) (f3 : M2 (w2 + 3) = M (w + 3)) (f : ∀ k, 0 ≤ k → k < 248 → M2 a2 (o2 + k) = M a (o + k)) : cW M2 wd hi tw w2 a2 o2 := by
  obtain ⟨c1, c2, c3, c4, c5, c6⟩ := h
  have hm := mul_b a1 a2' b1 b2
  refine ⟨fun t p t0 t1 hp => ?_, fun t t0 t1 => ?_, fun i i0 i1 => ?_, ?_, ?_, fun k k0 k1 => ?_⟩
  · have hb := idx_b a1 a2' b2 hp
    rw [f1, ← c1 t p t0 t1 hp, Int.add_assoc, Int.add_assoc]; exact f _ (by omega) (by omega)
  · rw [f2, ← c2 t t0 t1, Int.add_assoc, Int.add_assoc]; exact f _ (by omega) (by omega)
  · rw [f3, ← c3 i i0 i1, Int.add_assoc, Int.add_assoc]; exact f _ (by omega) (by omega)
  · rw [e7, ← c4]; exact f _ (by omega) (by omega)
  · rw [e6, ← c5]; exact f _ (by omega) (by omega)
  · rw [f k k0 (by omega)]; exact c6 k k0 k1
/-- the class remembers -/
theorem X3_p13_ok (hG : gAll G) (hp36 : pr36 (M 36)) (hr : rot M r) (hs : ∀ w, 39 ≤ w → w ≤ 95 → (w - 39) % 4 = 0 → shW M w) (hsn : shW M 24) (hc : M 36 1 = c) (c0 : 0 ≤ c) (c1 : c < 12) : M_X3_remember_p13 (M, G) 36 24 = some (sr (beM M (M 37 c) 24) 36 (u1 (M 36) 1 (c + 1)), G) := by
  have k36 := gk_36 hG
  have k37 := gk_37 hG
  have l37 := gl_37 hG
  have p0 := pr36.p0 hp36
  have hw := hr.2.2 c c0 c1
  have hwb : 39 ≤ M 37 c ∧ M 37 c ≤ 83 ∧ (M 37 c - 39) % 4 = 0 := by omega
  have hsw := hs (M 37 c) (by omega) (by omega) hwb.2.2
  have hbe := X8_become_ok (M := M) (w := M 37 c) (v := 24) (wAd_g hG (by unfold wAd; omega)) hsw.1 hsw.2 (gW_24 hG) hsn.1 hsn.2 (by omega)
  have e36 : beM M (M 37 c) 24 36 = M 36 := by unfold beM; simp (disch := first | assumption | omega) only [sr_s, sr_a, sr_sr]
  clear hw
  refine Ok.eq ?_
  unfold M_X3_remember_p13
  repeat' (with_reducible first | refine k_gf (by first | assumption | omega) (by first | assumption | ((try simp (disch := omega) only [sr_s, sr_a, sr_sr, u1_s, u1_k, p0, hc, e36]); exact rfl)) ?_ | refine k_gr (by first | assumption | omega) (by first | assumption | ((try simp (disch := omega) only [sr_s, sr_a, sr_sr, u1_s, u1_k, p0, hc, e36]); exact rfl)) (by omega) ?_ | refine k_ald (by first | assumption | omega) (by first | assumption | exact rfl) (by omega) (by omega) (by omega) (by first | assumption | ((try simp (disch := omega) only [sr_s, sr_a, sr_sr, u1_s, u1_k, p0, hc, e36]); exact rfl)) ?_ | refine k_eq (hbe) ?_ | refine k_ifT (by first | (simp (disch := omega) only [w32_id]; first | done | omega) | omega) ?_ | refine k_ifF (by first | (simp (disch := omega) only [w32_id]; first | done | omega) | omega) ?_ | refine k_pf (by first | assumption | omega) (by (try simp (disch := omega) only [sr_s, sr_a, sr_sr, u1_u1, p0, hc, e36]); exact rfl) ?_ | refine k_ast (by first | assumption | omega) (by first | assumption | exact rfl) (by omega) (by omega) (by omega) (by (try simp (disch := omega) only [sr_s, sr_a, sr_sr, u1_u1, p0, hc, e36]); exact rfl) ?_ | refine k_irm (by omega) (by omega) (by omega) (by omega) ?_ | refine k_idv (by omega) (by omega) (by omega) (by omega) ?_ | refine k_tk (by first | assumption | omega) ?_ | refine k_rp (by omega) ?_ | refine k_aldR (by first | assumption | omega) (by first | assumption | exact rfl) (by omega) (by omega) (by omega) (by first | assumption | ((try simp (disch := omega) only [sr_s, sr_a, sr_sr, u1_s, u1_k, p0, hc, e36]); exact rfl)) (by omega) ?_ | refine k_astR (by first | assumption | omega) (by first | assumption | exact rfl) (by omega) (by omega) (by omega) (by first | assumption | omega) (by (try simp (disch := omega) only [sr_s, sr_a, sr_sr, u1_u1, p0, hc, e36]); exact rfl) ?_ | refine k_pz (by first | assumption | omega) (by omega) (by (try simp (disch := omega) only [sr_s, sr_a, sr_sr, u1_u1, p0, hc, e36]); exact rfl) ?_ | refine k_alen (by first | assumption | omega) (by first | assumption | exact rfl) ?_ | refine k_cpy (by first | assumption | omega) (by first | assumption | omega) (by first | assumption | exact rfl) (by first | assumption | exact rfl) (by omega) (by omega) (by omega) (by omega) (by omega) (by omega) (by omega) (by omega) (by (try simp (disch := omega) only [sr_s, sr_a, sr_sr, u1_u1, p0, hc, e36]); exact rfl) ?_ | refine k_if (by (try simp (disch := omega) only [w32_id]); exact Iff.rfl) (fun c => ?_) (fun c => ?_))
  exact Ok.ret rfl
/-- the oldest is forgotten -/
def fgR (f : Int → Int) : Int → Int := fun i => if 0 ≤ i ∧ i < 11 then f (i + 1) else if i = 11 then f 0 else f i
theorem X3_forget_ok (hG : gAll G) (hp36 : pr36 (M 36)) (hr : rot M r) : M_X3_forgetOldest (M, G) 36 = some (sr (sr M 37 (fgR (M 37))) 36 (u1 (M 36) 1 11), G) := by
  have k36 := gk_36 hG
  have k37 := gk_37 hG
  have l37 := gl_37 hG
  have p0 := pr36.p0 hp36
  have hw : ∀ i, 0 ≤ i → i < 12 → 39 ≤ M 37 i ∧ M 37 i ≤ 83 ∧ (M 37 i - 39) % 4 = 0 := fun i i0 i1 => by have := hr.2.2 i i0 i1; omega
  have hk : ∀ i, 0 ≤ i → i < 12 → G.1 (M 37 i) = 18 := fun i i0 i1 => (wAd_g hG (by have := hw i i0 i1; unfold wAd; omega)).2.1
  have hw0 := hw 0 (by omega) (by omega)
  have hk0 := hk 0 (by omega) (by omega)
  refine Ok.eq ?_
  unfold M_X3_forgetOldest M_X3_forgetOldest_w9 M_X3_forgetOldest_p35
  repeat' (with_reducible first | refine k_gf (by first | assumption | omega) (by first | assumption | ((try simp (disch := omega) only [sr_s, sr_a, sr_sr, u1_s, u1_k, p0]); exact rfl)) ?_ | refine k_gr (by first | assumption | omega) (by first | assumption | ((try simp (disch := omega) only [sr_s, sr_a, sr_sr, u1_s, u1_k, p0]); exact rfl)) (by omega) ?_ | refine k_ald (by first | assumption | omega) (by first | assumption | exact rfl) (by omega) (by omega) (by omega) (by first | assumption | ((try simp (disch := omega) only [sr_s, sr_a, sr_sr, u1_s, u1_k, p0]); exact rfl)) ?_ | refine k_ifT (by first | (simp (disch := omega) only [w32_id]; first | done | omega) | omega) ?_ | refine k_ifF (by first | (simp (disch := omega) only [w32_id]; first | done | omega) | omega) ?_ | refine k_pf (by first | assumption | omega) (by (try simp (disch := omega) only [sr_s, sr_a, sr_sr, u1_u1, p0]); exact rfl) ?_ | refine k_ast (by first | assumption | omega) (by first | assumption | exact rfl) (by omega) (by omega) (by omega) (by (try simp (disch := omega) only [sr_s, sr_a, sr_sr, u1_u1, p0]); exact rfl) ?_ | refine k_irm (by omega) (by omega) (by omega) (by omega) ?_ | refine k_idv (by omega) (by omega) (by omega) (by omega) ?_ | refine k_tk (by first | assumption | omega) ?_ | refine k_rp (by omega) ?_ | refine k_aldR (by first | assumption | omega) (by first | assumption | exact rfl) (by omega) (by omega) (by omega) (by first | assumption | ((try simp (disch := omega) only [sr_s, sr_a, sr_sr, u1_s, u1_k, p0]); exact rfl)) (by omega) ?_ | refine k_astR (by first | assumption | omega) (by first | assumption | exact rfl) (by omega) (by omega) (by omega) (by first | assumption | omega) (by (try simp (disch := omega) only [sr_s, sr_a, sr_sr, u1_u1, p0]); exact rfl) ?_ | refine k_pz (by first | assumption | omega) (by omega) (by (try simp (disch := omega) only [sr_s, sr_a, sr_sr, u1_u1, p0]); exact rfl) ?_ | refine k_alen (by first | assumption | omega) (by first | assumption | exact rfl) ?_ | refine k_cpy (by first | assumption | omega) (by first | assumption | omega) (by first | assumption | exact rfl) (by first | assumption | exact rfl) (by omega) (by omega) (by omega) (by omega) (by omega) (by omega) (by omega) (by omega) (by (try simp (disch := omega) only [sr_s, sr_a, sr_sr, u1_u1, p0]); exact rfl) ?_ | refine k_if (by (try simp (disch := omega) only [w32_id]); exact Iff.rfl) (fun c => ?_) (fun c => ?_))
  refine k_eq (wh_st (fun i => ((sr M 37 (fun j => if 0 ≤ j ∧ j < (i : Int) then M 37 (j + 1) else M 37 j), G), 1 + (i : Int))) 11 (by omega) (t := (sr M 37 (fun j => if 0 ≤ j ∧ j < 11 then M 37 (j + 1) else M 37 j), G)) ?_ ?_ ?_) ?_
  · simp only [Prod.mk.injEq, and_true]
    refine ⟨?_, by omega⟩
    rw [sr_same]
    funext j
    rw [if_neg (by omega)]
  · intro i hi
    refine Ok.eq ?_
    unfold M_X3_forgetOldest_b9
    dsimp only
    have hwi := hw (1 + i) (by omega) (by omega)
    have hki := hk (1 + i) (by omega) (by omega)
    have hx : (if 0 ≤ (1 + (i : Int)) ∧ (1 + (i : Int)) < (i : Int) then M 37 (1 + (i : Int) + 1) else M 37 (1 + (i : Int))) = M 37 (1 + (i : Int)) := if_neg (by omega)
    repeat' (with_reducible first | refine k_gf (by first | assumption | omega) (by first | assumption | ((try simp (disch := omega) only [sr_s, sr_a, sr_sr, u1_s, u1_k, p0, hx]); exact rfl)) ?_ | refine k_gr (by first | assumption | omega) (by first | assumption | ((try simp (disch := omega) only [sr_s, sr_a, sr_sr, u1_s, u1_k, p0, hx]); exact rfl)) (by omega) ?_ | refine k_ald (by first | assumption | omega) (by first | assumption | exact rfl) (by omega) (by omega) (by omega) (by first | assumption | ((try simp (disch := omega) only [sr_s, sr_a, sr_sr, u1_s, u1_k, p0, hx]); exact rfl)) ?_ | refine k_ifT (by first | (simp (disch := omega) only [w32_id]; first | done | omega) | omega) ?_ | refine k_ifF (by first | (simp (disch := omega) only [w32_id]; first | done | omega) | omega) ?_ | refine k_pf (by first | assumption | omega) (by (try simp (disch := omega) only [sr_s, sr_a, sr_sr, u1_u1, p0, hx]); exact rfl) ?_ | refine k_ast (by first | assumption | omega) (by first | assumption | exact rfl) (by omega) (by omega) (by omega) (by (try simp (disch := omega) only [sr_s, sr_a, sr_sr, u1_u1, p0, hx]); exact rfl) ?_ | refine k_irm (by omega) (by omega) (by omega) (by omega) ?_ | refine k_idv (by omega) (by omega) (by omega) (by omega) ?_ | refine k_tk (by first | assumption | omega) ?_ | refine k_rp (by omega) ?_ | refine k_aldR (by first | assumption | omega) (by first | assumption | exact rfl) (by omega) (by omega) (by omega) (by first | assumption | ((try simp (disch := omega) only [sr_s, sr_a, sr_sr, u1_s, u1_k, p0, hx]); exact rfl)) (by omega) ?_ | refine k_astR (by first | assumption | omega) (by first | assumption | exact rfl) (by omega) (by omega) (by omega) (by first | assumption | omega) (by (try simp (disch := omega) only [sr_s, sr_a, sr_sr, u1_u1, p0, hx]); exact rfl) ?_ | refine k_pz (by first | assumption | omega) (by omega) (by (try simp (disch := omega) only [sr_s, sr_a, sr_sr, u1_u1, p0, hx]); exact rfl) ?_ | refine k_alen (by first | assumption | omega) (by first | assumption | exact rfl) ?_ | refine k_cpy (by first | assumption | omega) (by first | assumption | omega) (by first | assumption | exact rfl) (by first | assumption | exact rfl) (by omega) (by omega) (by omega) (by omega) (by omega) (by omega) (by omega) (by omega) (by (try simp (disch := omega) only [sr_s, sr_a, sr_sr, u1_u1, p0, hx]); exact rfl) ?_ | refine k_if (by (try simp (disch := omega) only [w32_id]); exact Iff.rfl) (fun c => ?_) (fun c => ?_))
    refine Ok.ret ?_
    simp only [Sum.inl.injEq, Prod.mk.injEq, and_true, true_and]
    refine ⟨?_, by omega⟩
    congr 1
    funext j
    simp only [u1]
    by_cases e : j = 1 + (i : Int) - 1
    · rw [if_pos e, if_pos (by omega)]; congr 1; omega
    · rw [if_neg e]
      (repeat' split) <;> first | rfl | omega
  · refine Ok.eq ?_
    unfold M_X3_forgetOldest_b9
    dsimp only
    repeat' (with_reducible first | refine k_gf (by first | assumption | omega) (by first | assumption | ((try simp (disch := omega) only [sr_s, sr_a, sr_sr, u1_s, u1_k, p0]); exact rfl)) ?_ | refine k_gr (by first | assumption | omega) (by first | assumption | ((try simp (disch := omega) only [sr_s, sr_a, sr_sr, u1_s, u1_k, p0]); exact rfl)) (by omega) ?_ | refine k_ald (by first | assumption | omega) (by first | assumption | exact rfl) (by omega) (by omega) (by omega) (by first | assumption | ((try simp (disch := omega) only [sr_s, sr_a, sr_sr, u1_s, u1_k, p0]); exact rfl)) ?_ | refine k_ifT (by first | (simp (disch := omega) only [w32_id]; first | done | omega) | omega) ?_ | refine k_ifF (by first | (simp (disch := omega) only [w32_id]; first | done | omega) | omega) ?_ | refine k_pf (by first | assumption | omega) (by (try simp (disch := omega) only [sr_s, sr_a, sr_sr, u1_u1, p0]); exact rfl) ?_ | refine k_ast (by first | assumption | omega) (by first | assumption | exact rfl) (by omega) (by omega) (by omega) (by (try simp (disch := omega) only [sr_s, sr_a, sr_sr, u1_u1, p0]); exact rfl) ?_ | refine k_irm (by omega) (by omega) (by omega) (by omega) ?_ | refine k_idv (by omega) (by omega) (by omega) (by omega) ?_ | refine k_tk (by first | assumption | omega) ?_ | refine k_rp (by omega) ?_ | refine k_aldR (by first | assumption | omega) (by first | assumption | exact rfl) (by omega) (by omega) (by omega) (by first | assumption | ((try simp (disch := omega) only [sr_s, sr_a, sr_sr, u1_s, u1_k, p0]); exact rfl)) (by omega) ?_ | refine k_astR (by first | assumption | omega) (by first | assumption | exact rfl) (by omega) (by omega) (by omega) (by first | assumption | omega) (by (try simp (disch := omega) only [sr_s, sr_a, sr_sr, u1_u1, p0]); exact rfl) ?_ | refine k_pz (by first | assumption | omega) (by omega) (by (try simp (disch := omega) only [sr_s, sr_a, sr_sr, u1_u1, p0]); exact rfl) ?_ | refine k_alen (by first | assumption | omega) (by first | assumption | exact rfl) ?_ | refine k_cpy (by first | assumption | omega) (by first | assumption | omega) (by first | assumption | exact rfl) (by first | assumption | exact rfl) (by omega) (by omega) (by omega) (by omega) (by omega) (by omega) (by omega) (by omega) (by (try simp (disch := omega) only [sr_s, sr_a, sr_sr, u1_u1, p0]); exact rfl) ?_ | refine k_if (by (try simp (disch := omega) only [w32_id]); exact Iff.rfl) (fun c => ?_) (fun c => ?_))
    exact Ok.ret rfl
  · repeat' (with_reducible first | refine k_gf (by first | assumption | omega) (by first | assumption | ((try simp (disch := omega) only [sr_s, sr_a, sr_sr, u1_s, u1_k, p0]); exact rfl)) ?_ | refine k_gr (by first | assumption | omega) (by first | assumption | ((try simp (disch := omega) only [sr_s, sr_a, sr_sr, u1_s, u1_k, p0]); exact rfl)) (by omega) ?_ | refine k_ald (by first | assumption | omega) (by first | assumption | exact rfl) (by omega) (by omega) (by omega) (by first | assumption | ((try simp (disch := omega) only [sr_s, sr_a, sr_sr, u1_s, u1_k, p0]); exact rfl)) ?_ | refine k_ifT (by first | (simp (disch := omega) only [w32_id]; first | done | omega) | omega) ?_ | refine k_ifF (by first | (simp (disch := omega) only [w32_id]; first | done | omega) | omega) ?_ | refine k_pf (by first | assumption | omega) (by (try simp (disch := omega) only [sr_s, sr_a, sr_sr, u1_u1, p0]); exact rfl) ?_ | refine k_ast (by first | assumption | omega) (by first | assumption | exact rfl) (by omega) (by omega) (by omega) (by (try simp (disch := omega) only [sr_s, sr_a, sr_sr, u1_u1, p0]); exact rfl) ?_ | refine k_irm (by omega) (by omega) (by omega) (by omega) ?_ | refine k_idv (by omega) (by omega) (by omega) (by omega) ?_ | refine k_tk (by first | assumption | omega) ?_ | refine k_rp (by omega) ?_ | refine k_aldR (by first | assumption | omega) (by first | assumption | exact rfl) (by omega) (by omega) (by omega) (by first | assumption | ((try simp (disch := omega) only [sr_s, sr_a, sr_sr, u1_s, u1_k, p0]); exact rfl)) (by omega) ?_ | refine k_astR (by first | assumption | omega) (by first | assumption | exact rfl) (by omega) (by omega) (by omega) (by first | assumption | omega) (by (try simp (disch := omega) only [sr_s, sr_a, sr_sr, u1_u1, p0]); exact rfl) ?_ | refine k_pz (by first | assumption | omega) (by omega) (by (try simp (disch := omega) only [sr_s, sr_a, sr_sr, u1_u1, p0]); exact rfl) ?_ | refine k_alen (by first | assumption | omega) (by first | assumption | exact rfl) ?_ | refine k_cpy (by first | assumption | omega) (by first | assumption | omega) (by first | assumption | exact rfl) (by first | assumption | exact rfl) (by omega) (by omega) (by omega) (by omega) (by omega) (by omega) (by omega) (by omega) (by (try simp (disch := omega) only [sr_s, sr_a, sr_sr, u1_u1, p0]); exact rfl) ?_ | refine k_if (by (try simp (disch := omega) only [w32_id]); exact Iff.rfl) (fun c => ?_) (fun c => ?_))
    refine Ok.ret ?_
    simp only [Prod.mk.injEq, and_true]
    congr 2
    unfold fgR
    funext j
    simp only [u1]
    (repeat' split) <;> first | rfl | omega
/-- what the class's remembering leaves -/
def rmC (M M1 : Int → Int → Int) (r r1 c d : Int) : Prop :=
  rot M1 r1 ∧ (M 36 1 < 12 ∧ c = M 36 1 ∧ d = 0 ∨ M 36 1 = 12 ∧ c = 11 ∧ d = 1) ∧ M1 36 1 = c + 1 ∧ (∀ k, k ≠ 1 → M1 36 k = M 36 k) ∧
  (∀ a, a ≠ 36 → a ≠ 37 → (a < M1 37 c ∨ M1 37 c + 3 < a) → M1 a = M a) ∧ (∀ i, 0 ≤ i → i < c → M1 37 i = M 37 (i + d)) ∧
  M1 (M1 37 c) 0 = M 24 0 ∧ M1 (M1 37 c) 1 = M 24 1 ∧ M1 (M1 37 c) 2 = M 24 2 ∧ M1 (M1 37 c) 6 = M 24 6 ∧ M1 (M1 37 c) 7 = M 24 7 ∧ mW M1 (M1 37 c) ∧ M1 (M1 37 c + 1) = M 25 ∧ M1 (M1 37 c + 2) = M 26 ∧ M1 (M1 37 c + 3) = M 27
theorem be_rm {w : Int} (hm : mW M w) (w0 : 39 ≤ w) (w1 : w ≤ 83) : beM M w 24 w 0 = M 24 0 ∧ beM M w 24 w 1 = M 24 1 ∧ beM M w 24 w 2 = M 24 2 ∧ beM M w 24 w 6 = M 24 6 ∧ beM M w 24 w 7 = M 24 7 ∧ mW (beM M w 24) w ∧ beM M w 24 (w + 1) = M 25 ∧ beM M w 24 (w + 2) = M 26 ∧ beM M w 24 (w + 3) = M 27 ∧ ∀ a, (a < w ∨ w + 3 < a) → beM M w 24 a = M a := by
  unfold beM mW at *
  refine ⟨?_, ?_, ?_, ?_, ?_, ?_, ?_, ?_, ?_, fun a ha => ?_⟩
  all_goals simp (disch := omega) only [sr_s, sr_a]
  · rfl
  · rfl
  · rfl
  · rfl
  · rfl
  · exact hm
  · rfl
  · rfl
  · rfl
theorem X3_remember_ok (hG : gAll G) (hp36 : pr36 (M 36)) (hr : rot M r) (hs : ∀ w, 39 ≤ w → w ≤ 95 → (w - 39) % 4 = 0 → shW M w) (hsn : shW M 24) (c0 : 0 ≤ M 36 1) (c1 : M 36 1 ≤ 12) : Ok (M_X3_remember (M, G) 36 24) (fun h => ∃ M1 r1 c d, h = (M1, G) ∧ rmC M M1 r r1 c d) := by
  have k36 := gk_36 hG
  unfold M_X3_remember
  refine k_tk k36 (k_gf k36 rfl ?_)
  by_cases hc : M 36 1 < 12
  · refine k_ifT (by rw [w32_id (by omega) (by omega)]; exact hc) ?_
    refine Ok.of (X3_p13_ok (c := M 36 1) hG hp36 hr hs hsn rfl c0 hc) ⟨_, r, M 36 1, 0, rfl, ?_⟩
    have hw := hr.2.2 (M 36 1) c0 hc
    obtain ⟨b0, b1, b2, b6, b7, bm, f1, f2, f3, ff⟩ := be_rm (M := M) (w := M 37 (M 36 1)) (hs _ (by omega) (by omega) (by omega)).1 (by omega) (by omega)
    have e37 : sr (beM M (M 37 (M 36 1)) 24) 36 (u1 (M 36) 1 (M 36 1 + 1)) 37 = M 37 := by rw [sr_a _ _ (by omega), ff 37 (by omega)]
    have g : ∀ a, a ≠ 36 → sr (beM M (M 37 (M 36 1)) 24) 36 (u1 (M 36) 1 (M 36 1 + 1)) a = beM M (M 37 (M 36 1)) 24 a := fun a ha => sr_a _ _ ha
    unfold rmC rot mW at *
    rw [e37]
    rw [g (M 37 (M 36 1)) (by omega), g (M 37 (M 36 1) + 1) (by omega), g (M 37 (M 36 1) + 2) (by omega), g (M 37 (M 36 1) + 3) (by omega)]
    exact ⟨hr, Or.inl ⟨hc, rfl, rfl⟩, by rw [sr_s, u1_s], fun k hk => by rw [sr_s, u1_k _ _ hk], fun a x1 x2 x3 => by rw [g a x1]; exact ff a x3, fun i _ _ => by rw [Int.add_zero], b0, b1, b2, b6, b7, bm, f1, f2, f3⟩
  · refine k_ifF (by rw [w32_id (by omega) (by omega)]; exact hc) ?_
    refine k_eq (X3_forget_ok hG hp36 hr) ?_
    have ew : ∀ a, a ≠ 36 → a ≠ 37 → sr (sr M 37 (fgR (M 37))) 36 (u1 (M 36) 1 11) a = M a := fun a x1 x2 => by rw [sr_a _ _ x1, sr_a _ _ x2]
    have e37 : sr (sr M 37 (fgR (M 37))) 36 (u1 (M 36) 1 11) 37 = fgR (M 37) := by rw [sr_a _ _ (by omega), sr_s]
    have e36 : sr (sr M 37 (fgR (M 37))) 36 (u1 (M 36) 1 11) 36 = u1 (M 36) 1 11 := sr_s _ _ _
    generalize sr (sr M 37 (fgR (M 37))) 36 (u1 (M 36) 1 11) = M' at *
    have hr' : rot M' ((r + 1) % 12) := by
      unfold rot at *
      refine ⟨by omega, by omega, fun i i0 i1 => ?_⟩
      rw [e37]
      unfold fgR
      split
      · rw [hr.2.2 (i + 1) (by omega) (by omega)]; omega
      · rw [if_pos (by omega), hr.2.2 0 (by omega) (by omega)]; omega
    have hs' : ∀ w, 39 ≤ w → w ≤ 95 → (w - 39) % 4 = 0 → shW M' w := fun w w0 w1 w2 => by
      have := hs w w0 w1 w2
      unfold shW mW zoW at *
      rw [ew w (by omega) (by omega), ew (w + 1) (by omega) (by omega), ew (w + 2) (by omega) (by omega), ew (w + 3) (by omega) (by omega)]
      exact this
    have hsn' : shW M' 24 := by
      unfold shW mW zoW at *
      rw [ew 24 (by omega) (by omega), ew (24 + 1) (by omega) (by omega), ew (24 + 2) (by omega) (by omega), ew (24 + 3) (by omega) (by omega)]
      exact hsn
    have hp' : pr36 (M' 36) := pr36.u hp36 (fun k hk => by rw [e36, u1_k _ _ (by omega)])
    have h11 : M' 36 1 = 11 := by rw [e36, u1_s]
    refine Ok.of (X3_p13_ok (c := 11) hG hp' hr' hs' hsn' h11 (by omega) (by omega)) ⟨_, (r + 1) % 12, 11, 1, rfl, ?_⟩
    have hw := hr'.2.2 11 (by omega) (by omega)
    obtain ⟨b0, b1, b2, b6, b7, bm, f1, f2, f3, ff⟩ := be_rm (M := M') (w := M' 37 11) (hs' _ (by omega) (by omega) (by omega)).1 (by omega) (by omega)
    have x37 : sr (beM M' (M' 37 11) 24) 36 (u1 (M' 36) 1 (11 + 1)) 37 = M' 37 := by rw [sr_a _ _ (by omega), ff 37 (by omega)]
    have g : ∀ a, a ≠ 36 → sr (beM M' (M' 37 11) 24) 36 (u1 (M' 36) 1 (11 + 1)) a = beM M' (M' 37 11) 24 a := fun a ha => sr_a _ _ ha
    have w24 : M' 24 = M 24 := ew 24 (by omega) (by omega)
    have w25 : M' 25 = M 25 := ew 25 (by omega) (by omega)
    have w26 : M' 26 = M 26 := ew 26 (by omega) (by omega)
    have w27 : M' 27 = M 27 := ew 27 (by omega) (by omega)
    rw [w24] at b0 b1 b2 b6 b7
    rw [w25] at f1
    rw [w26] at f2
    rw [w27] at f3
    unfold rmC rot mW at *
    rw [x37]
    rw [g (M' 37 11) (by omega), g (M' 37 11 + 1) (by omega), g (M' 37 11 + 2) (by omega), g (M' 37 11 + 3) (by omega)]
    refine ⟨hr', Or.inr ⟨by omega, rfl, rfl⟩, by rw [sr_s, u1_s], fun k hk => by rw [sr_s, u1_k _ _ hk, e36, u1_k _ _ hk], fun a x1 x2 x3 => by rw [g a x1, ff a x3, ew a x1 x2], fun i i0 i1 => ?_, b0, b1, b2, b6, b7, bm, f1, f2, f3⟩
    rw [e37]
    unfold fgR
    rw [if_pos (by omega)]
/-- what the reference's remembering leaves -/
def rmR (M M1 : Int → Int → Int) (c d : Int) : Prop :=
  (∀ a, a ≠ 124 → a ≠ 127 → M1 a = M a) ∧ (∀ k, k ≠ 20 → M1 124 k = M 124 k) ∧ (M 124 20 < 12 ∧ c = M 124 20 ∧ d = 0 ∨ M 124 20 = 12 ∧ c = 11 ∧ d = 1) ∧ M1 124 20 = c + 1 ∧ (∀ i k, 0 ≤ i → i < c → 0 ≤ k → k < 248 → M1 127 (248 * i + k) = M 127 (248 * (i + d) + k)) ∧ ∀ k, 0 ≤ k → k < 248 → M1 127 (248 * c + k) = M 126 k
theorem X11_p50_ok (hG : gAll G) (hp124 : pr124 (M 124)) (hc : M 124 20 = c) (c0 : 0 ≤ c) (c1 : c < 12) : M_X11_remembers_p50 (M, G) 124 = some (sr (sr M 127 (cp1 (M 127) (M 126) 0 (248 * c) 248)) 124 (u1 (M 124) 20 (c + 1)), G) := by
  have k124 := gk_124 hG
  have k126 := gk_126 hG
  have l126 := gl_126 hG
  have k127 := gk_127 hG
  have l127 := gl_127 hG
  have p17 := pr124.p17 hp124
  have p18 := pr124.p18 hp124
  refine Ok.eq ?_
  unfold M_X11_remembers_p50 M_X11_remembers_w52 M_X11_remembers_p86
  refine k_eq (wh_st (fun i => ((sr M 127 (cp1 (M 127) (M 126) 0 (248 * c) (i : Int)), G), (i : Int))) 248 (by omega) (t := (sr M 127 (cp1 (M 127) (M 126) 0 (248 * c) 248), G)) ?_ ?_ ?_) ?_
  · show ((M, G), (0 : Int)) = ((sr M 127 (cp1 (M 127) (M 126) 0 (248 * c) 0), G), 0)
    rw [cp1_0, sr_id]
  · intro i hi
    refine Ok.eq ?_
    unfold M_X11_remembers_b52
    dsimp only
    repeat' (with_reducible first | refine k_gf (by first | assumption | omega) (by first | assumption | ((try simp (disch := omega) only [sr_s, sr_a, sr_sr, u1_s, u1_k, p17, p18, hc]); exact rfl)) ?_ | refine k_gr (by first | assumption | omega) (by first | assumption | ((try simp (disch := omega) only [sr_s, sr_a, sr_sr, u1_s, u1_k, p17, p18, hc]); exact rfl)) (by omega) ?_ | refine k_ald (by first | assumption | omega) (by first | assumption | exact rfl) (by omega) (by omega) (by omega) (by first | assumption | ((try simp (disch := omega) only [sr_s, sr_a, sr_sr, u1_s, u1_k, p17, p18, hc]); exact rfl)) ?_ | refine k_ifT (by first | (simp (disch := omega) only [w32_id]; first | done | omega) | omega) ?_ | refine k_ifF (by first | (simp (disch := omega) only [w32_id]; first | done | omega) | omega) ?_ | refine k_pf (by first | assumption | omega) (by (try simp (disch := omega) only [sr_s, sr_a, sr_sr, u1_u1, p17, p18, hc]); exact rfl) ?_ | refine k_ast (by first | assumption | omega) (by first | assumption | exact rfl) (by omega) (by omega) (by omega) (by (try simp (disch := omega) only [sr_s, sr_a, sr_sr, u1_u1, p17, p18, hc]); exact rfl) ?_ | refine k_irm (by omega) (by omega) (by omega) (by omega) ?_ | refine k_idv (by omega) (by omega) (by omega) (by omega) ?_ | refine k_tk (by first | assumption | omega) ?_ | refine k_rp (by omega) ?_ | refine k_aldR (by first | assumption | omega) (by first | assumption | exact rfl) (by omega) (by omega) (by omega) (by first | assumption | ((try simp (disch := omega) only [sr_s, sr_a, sr_sr, u1_s, u1_k, p17, p18, hc]); exact rfl)) (by omega) ?_ | refine k_astR (by first | assumption | omega) (by first | assumption | exact rfl) (by omega) (by omega) (by omega) (by first | assumption | omega) (by (try simp (disch := omega) only [sr_s, sr_a, sr_sr, u1_u1, p17, p18, hc]); exact rfl) ?_ | refine k_pz (by first | assumption | omega) (by omega) (by (try simp (disch := omega) only [sr_s, sr_a, sr_sr, u1_u1, p17, p18, hc]); exact rfl) ?_ | refine k_alen (by first | assumption | omega) (by first | assumption | exact rfl) ?_ | refine k_cpy (by first | assumption | omega) (by first | assumption | omega) (by first | assumption | exact rfl) (by first | assumption | exact rfl) (by omega) (by omega) (by omega) (by omega) (by omega) (by omega) (by omega) (by omega) (by (try simp (disch := omega) only [sr_s, sr_a, sr_sr, u1_u1, p17, p18, hc]); exact rfl) ?_ | refine k_if (by (try simp (disch := omega) only [w32_id]); exact Iff.rfl) (fun c => ?_) (fun c => ?_))
    refine Ok.ret ?_
    simp only [Sum.inl.injEq, Prod.mk.injEq, and_true, true_and]
    refine ⟨?_, by omega⟩
    have := cp1_u (g := M 127) (f := M 126) (i := 0) (i2 := 248 * c) (n := (i : Int)) (by omega)
    rw [Int.zero_add] at this
    rw [this]
    rfl
  · refine Ok.eq ?_
    unfold M_X11_remembers_b52
    dsimp only
    repeat' (with_reducible first | refine k_gf (by first | assumption | omega) (by first | assumption | ((try simp (disch := omega) only [sr_s, sr_a, sr_sr, u1_s, u1_k, p17, p18, hc]); exact rfl)) ?_ | refine k_gr (by first | assumption | omega) (by first | assumption | ((try simp (disch := omega) only [sr_s, sr_a, sr_sr, u1_s, u1_k, p17, p18, hc]); exact rfl)) (by omega) ?_ | refine k_ald (by first | assumption | omega) (by first | assumption | exact rfl) (by omega) (by omega) (by omega) (by first | assumption | ((try simp (disch := omega) only [sr_s, sr_a, sr_sr, u1_s, u1_k, p17, p18, hc]); exact rfl)) ?_ | refine k_ifT (by first | (simp (disch := omega) only [w32_id]; first | done | omega) | omega) ?_ | refine k_ifF (by first | (simp (disch := omega) only [w32_id]; first | done | omega) | omega) ?_ | refine k_pf (by first | assumption | omega) (by (try simp (disch := omega) only [sr_s, sr_a, sr_sr, u1_u1, p17, p18, hc]); exact rfl) ?_ | refine k_ast (by first | assumption | omega) (by first | assumption | exact rfl) (by omega) (by omega) (by omega) (by (try simp (disch := omega) only [sr_s, sr_a, sr_sr, u1_u1, p17, p18, hc]); exact rfl) ?_ | refine k_irm (by omega) (by omega) (by omega) (by omega) ?_ | refine k_idv (by omega) (by omega) (by omega) (by omega) ?_ | refine k_tk (by first | assumption | omega) ?_ | refine k_rp (by omega) ?_ | refine k_aldR (by first | assumption | omega) (by first | assumption | exact rfl) (by omega) (by omega) (by omega) (by first | assumption | ((try simp (disch := omega) only [sr_s, sr_a, sr_sr, u1_s, u1_k, p17, p18, hc]); exact rfl)) (by omega) ?_ | refine k_astR (by first | assumption | omega) (by first | assumption | exact rfl) (by omega) (by omega) (by omega) (by first | assumption | omega) (by (try simp (disch := omega) only [sr_s, sr_a, sr_sr, u1_u1, p17, p18, hc]); exact rfl) ?_ | refine k_pz (by first | assumption | omega) (by omega) (by (try simp (disch := omega) only [sr_s, sr_a, sr_sr, u1_u1, p17, p18, hc]); exact rfl) ?_ | refine k_alen (by first | assumption | omega) (by first | assumption | exact rfl) ?_ | refine k_cpy (by first | assumption | omega) (by first | assumption | omega) (by first | assumption | exact rfl) (by first | assumption | exact rfl) (by omega) (by omega) (by omega) (by omega) (by omega) (by omega) (by omega) (by omega) (by (try simp (disch := omega) only [sr_s, sr_a, sr_sr, u1_u1, p17, p18, hc]); exact rfl) ?_ | refine k_if (by (try simp (disch := omega) only [w32_id]); exact Iff.rfl) (fun c => ?_) (fun c => ?_))
    exact Ok.ret rfl
  · repeat' (with_reducible first | refine k_gf (by first | assumption | omega) (by first | assumption | ((try simp (disch := omega) only [sr_s, sr_a, sr_sr, u1_s, u1_k, hc]); exact rfl)) ?_ | refine k_gr (by first | assumption | omega) (by first | assumption | ((try simp (disch := omega) only [sr_s, sr_a, sr_sr, u1_s, u1_k, hc]); exact rfl)) (by omega) ?_ | refine k_ald (by first | assumption | omega) (by first | assumption | exact rfl) (by omega) (by omega) (by omega) (by first | assumption | ((try simp (disch := omega) only [sr_s, sr_a, sr_sr, u1_s, u1_k, hc]); exact rfl)) ?_ | refine k_ifT (by first | (simp (disch := omega) only [w32_id]; first | done | omega) | omega) ?_ | refine k_ifF (by first | (simp (disch := omega) only [w32_id]; first | done | omega) | omega) ?_ | refine k_pf (by first | assumption | omega) (by (try simp (disch := omega) only [sr_s, sr_a, sr_sr, u1_u1, hc]); exact rfl) ?_ | refine k_ast (by first | assumption | omega) (by first | assumption | exact rfl) (by omega) (by omega) (by omega) (by (try simp (disch := omega) only [sr_s, sr_a, sr_sr, u1_u1, hc]); exact rfl) ?_ | refine k_irm (by omega) (by omega) (by omega) (by omega) ?_ | refine k_idv (by omega) (by omega) (by omega) (by omega) ?_ | refine k_tk (by first | assumption | omega) ?_ | refine k_rp (by omega) ?_ | refine k_aldR (by first | assumption | omega) (by first | assumption | exact rfl) (by omega) (by omega) (by omega) (by first | assumption | ((try simp (disch := omega) only [sr_s, sr_a, sr_sr, u1_s, u1_k, hc]); exact rfl)) (by omega) ?_ | refine k_astR (by first | assumption | omega) (by first | assumption | exact rfl) (by omega) (by omega) (by omega) (by first | assumption | omega) (by (try simp (disch := omega) only [sr_s, sr_a, sr_sr, u1_u1, hc]); exact rfl) ?_ | refine k_pz (by first | assumption | omega) (by omega) (by (try simp (disch := omega) only [sr_s, sr_a, sr_sr, u1_u1, hc]); exact rfl) ?_ | refine k_alen (by first | assumption | omega) (by first | assumption | exact rfl) ?_ | refine k_cpy (by first | assumption | omega) (by first | assumption | omega) (by first | assumption | exact rfl) (by first | assumption | exact rfl) (by omega) (by omega) (by omega) (by omega) (by omega) (by omega) (by omega) (by omega) (by (try simp (disch := omega) only [sr_s, sr_a, sr_sr, u1_u1, hc]); exact rfl) ?_ | refine k_if (by (try simp (disch := omega) only [w32_id]); exact Iff.rfl) (fun c => ?_) (fun c => ?_))
    exact Ok.ret rfl
theorem X11_remembers_ok (hG : gAll G) (hp124 : pr124 (M 124)) (c0 : 0 ≤ M 124 20) (c1 : M 124 20 ≤ 12) : Ok (M_X11_remembers (M, G) 124) (fun h => ∃ M1 c d, h = (M1, G) ∧ rmR M M1 c d) := by
  have k124 := gk_124 hG
  have k127 := gk_127 hG
  have l127 := gl_127 hG
  have p18 := pr124.p18 hp124
  unfold M_X11_remembers
  refine k_tk k124 (k_gf k124 rfl ?_)
  by_cases hc : M 124 20 = 12
  · refine k_ifT (by rw [w32_id (by omega) (by omega)]; exact hc) ?_
    unfold M_X11_remembers_w11 M_X11_remembers_p40
    refine k_eq (wh_st (fun i => ((sr M 127 (fun j => if 0 ≤ j ∧ j < (i : Int) then M 127 (j + 248) else M 127 j), G), (i : Int))) 2728 (by omega) (t := (sr M 127 (fun j => if 0 ≤ j ∧ j < 2728 then M 127 (j + 248) else M 127 j), G)) ?_ ?_ ?_) ?_
    · simp only [Prod.mk.injEq, and_true]
      refine ⟨?_, by omega⟩
      rw [sr_same]
      funext j
      rw [if_neg (by omega)]
    · intro i hi
      refine Ok.eq ?_
      unfold M_X11_remembers_b11
      dsimp only
      have hx : (if 0 ≤ (i : Int) + 248 ∧ (i : Int) + 248 < (i : Int) then M 127 ((i : Int) + 248 + 248) else M 127 ((i : Int) + 248)) = M 127 ((i : Int) + 248) := if_neg (by omega)
      repeat' (with_reducible first | refine k_gf (by first | assumption | omega) (by first | assumption | ((try simp (disch := omega) only [sr_s, sr_a, sr_sr, u1_s, u1_k, p18, hx]); exact rfl)) ?_ | refine k_gr (by first | assumption | omega) (by first | assumption | ((try simp (disch := omega) only [sr_s, sr_a, sr_sr, u1_s, u1_k, p18, hx]); exact rfl)) (by omega) ?_ | refine k_ald (by first | assumption | omega) (by first | assumption | exact rfl) (by omega) (by omega) (by omega) (by first | assumption | ((try simp (disch := omega) only [sr_s, sr_a, sr_sr, u1_s, u1_k, p18, hx]); exact rfl)) ?_ | refine k_ifT (by first | (simp (disch := omega) only [w32_id]; first | done | omega) | omega) ?_ | refine k_ifF (by first | (simp (disch := omega) only [w32_id]; first | done | omega) | omega) ?_ | refine k_pf (by first | assumption | omega) (by (try simp (disch := omega) only [sr_s, sr_a, sr_sr, u1_u1, p18, hx]); exact rfl) ?_ | refine k_ast (by first | assumption | omega) (by first | assumption | exact rfl) (by omega) (by omega) (by omega) (by (try simp (disch := omega) only [sr_s, sr_a, sr_sr, u1_u1, p18, hx]); exact rfl) ?_ | refine k_irm (by omega) (by omega) (by omega) (by omega) ?_ | refine k_idv (by omega) (by omega) (by omega) (by omega) ?_ | refine k_tk (by first | assumption | omega) ?_ | refine k_rp (by omega) ?_ | refine k_aldR (by first | assumption | omega) (by first | assumption | exact rfl) (by omega) (by omega) (by omega) (by first | assumption | ((try simp (disch := omega) only [sr_s, sr_a, sr_sr, u1_s, u1_k, p18, hx]); exact rfl)) (by omega) ?_ | refine k_astR (by first | assumption | omega) (by first | assumption | exact rfl) (by omega) (by omega) (by omega) (by first | assumption | omega) (by (try simp (disch := omega) only [sr_s, sr_a, sr_sr, u1_u1, p18, hx]); exact rfl) ?_ | refine k_pz (by first | assumption | omega) (by omega) (by (try simp (disch := omega) only [sr_s, sr_a, sr_sr, u1_u1, p18, hx]); exact rfl) ?_ | refine k_alen (by first | assumption | omega) (by first | assumption | exact rfl) ?_ | refine k_cpy (by first | assumption | omega) (by first | assumption | omega) (by first | assumption | exact rfl) (by first | assumption | exact rfl) (by omega) (by omega) (by omega) (by omega) (by omega) (by omega) (by omega) (by omega) (by (try simp (disch := omega) only [sr_s, sr_a, sr_sr, u1_u1, p18, hx]); exact rfl) ?_ | refine k_if (by (try simp (disch := omega) only [w32_id]); exact Iff.rfl) (fun c => ?_) (fun c => ?_))
      refine Ok.ret ?_
      simp only [Sum.inl.injEq, Prod.mk.injEq, and_true, true_and]
      refine ⟨?_, by omega⟩
      congr 1
      funext j
      simp only [u1]
      by_cases e : j = (i : Int)
      · rw [if_pos e, if_pos (by omega), e]
      · rw [if_neg e]
        (repeat' split) <;> first | rfl | omega
    · refine Ok.eq ?_
      unfold M_X11_remembers_b11
      dsimp only
      repeat' (with_reducible first | refine k_gf (by first | assumption | omega) (by first | assumption | ((try simp (disch := omega) only [sr_s, sr_a, sr_sr, u1_s, u1_k, p18]); exact rfl)) ?_ | refine k_gr (by first | assumption | omega) (by first | assumption | ((try simp (disch := omega) only [sr_s, sr_a, sr_sr, u1_s, u1_k, p18]); exact rfl)) (by omega) ?_ | refine k_ald (by first | assumption | omega) (by first | assumption | exact rfl) (by omega) (by omega) (by omega) (by first | assumption | ((try simp (disch := omega) only [sr_s, sr_a, sr_sr, u1_s, u1_k, p18]); exact rfl)) ?_ | refine k_ifT (by first | (simp (disch := omega) only [w32_id]; first | done | omega) | omega) ?_ | refine k_ifF (by first | (simp (disch := omega) only [w32_id]; first | done | omega) | omega) ?_ | refine k_pf (by first | assumption | omega) (by (try simp (disch := omega) only [sr_s, sr_a, sr_sr, u1_u1, p18]); exact rfl) ?_ | refine k_ast (by first | assumption | omega) (by first | assumption | exact rfl) (by omega) (by omega) (by omega) (by (try simp (disch := omega) only [sr_s, sr_a, sr_sr, u1_u1, p18]); exact rfl) ?_ | refine k_irm (by omega) (by omega) (by omega) (by omega) ?_ | refine k_idv (by omega) (by omega) (by omega) (by omega) ?_ | refine k_tk (by first | assumption | omega) ?_ | refine k_rp (by omega) ?_ | refine k_aldR (by first | assumption | omega) (by first | assumption | exact rfl) (by omega) (by omega) (by omega) (by first | assumption | ((try simp (disch := omega) only [sr_s, sr_a, sr_sr, u1_s, u1_k, p18]); exact rfl)) (by omega) ?_ | refine k_astR (by first | assumption | omega) (by first | assumption | exact rfl) (by omega) (by omega) (by omega) (by first | assumption | omega) (by (try simp (disch := omega) only [sr_s, sr_a, sr_sr, u1_u1, p18]); exact rfl) ?_ | refine k_pz (by first | assumption | omega) (by omega) (by (try simp (disch := omega) only [sr_s, sr_a, sr_sr, u1_u1, p18]); exact rfl) ?_ | refine k_alen (by first | assumption | omega) (by first | assumption | exact rfl) ?_ | refine k_cpy (by first | assumption | omega) (by first | assumption | omega) (by first | assumption | exact rfl) (by first | assumption | exact rfl) (by omega) (by omega) (by omega) (by omega) (by omega) (by omega) (by omega) (by omega) (by (try simp (disch := omega) only [sr_s, sr_a, sr_sr, u1_u1, p18]); exact rfl) ?_ | refine k_if (by (try simp (disch := omega) only [w32_id]); exact Iff.rfl) (fun c => ?_) (fun c => ?_))
      exact Ok.ret rfl
    · repeat' (with_reducible first | refine k_gf (by first | assumption | omega) (by first | assumption | ((try simp (disch := omega) only [sr_s, sr_a, sr_sr, u1_s, u1_k, hc]); exact rfl)) ?_ | refine k_gr (by first | assumption | omega) (by first | assumption | ((try simp (disch := omega) only [sr_s, sr_a, sr_sr, u1_s, u1_k, hc]); exact rfl)) (by omega) ?_ | refine k_ald (by first | assumption | omega) (by first | assumption | exact rfl) (by omega) (by omega) (by omega) (by first | assumption | ((try simp (disch := omega) only [sr_s, sr_a, sr_sr, u1_s, u1_k, hc]); exact rfl)) ?_ | refine k_ifT (by first | (simp (disch := omega) only [w32_id]; first | done | omega) | omega) ?_ | refine k_ifF (by first | (simp (disch := omega) only [w32_id]; first | done | omega) | omega) ?_ | refine k_pf (by first | assumption | omega) (by (try simp (disch := omega) only [sr_s, sr_a, sr_sr, u1_u1, hc]); exact rfl) ?_ | refine k_ast (by first | assumption | omega) (by first | assumption | exact rfl) (by omega) (by omega) (by omega) (by (try simp (disch := omega) only [sr_s, sr_a, sr_sr, u1_u1, hc]); exact rfl) ?_ | refine k_irm (by omega) (by omega) (by omega) (by omega) ?_ | refine k_idv (by omega) (by omega) (by omega) (by omega) ?_ | refine k_tk (by first | assumption | omega) ?_ | refine k_rp (by omega) ?_ | refine k_aldR (by first | assumption | omega) (by first | assumption | exact rfl) (by omega) (by omega) (by omega) (by first | assumption | ((try simp (disch := omega) only [sr_s, sr_a, sr_sr, u1_s, u1_k, hc]); exact rfl)) (by omega) ?_ | refine k_astR (by first | assumption | omega) (by first | assumption | exact rfl) (by omega) (by omega) (by omega) (by first | assumption | omega) (by (try simp (disch := omega) only [sr_s, sr_a, sr_sr, u1_u1, hc]); exact rfl) ?_ | refine k_pz (by first | assumption | omega) (by omega) (by (try simp (disch := omega) only [sr_s, sr_a, sr_sr, u1_u1, hc]); exact rfl) ?_ | refine k_alen (by first | assumption | omega) (by first | assumption | exact rfl) ?_ | refine k_cpy (by first | assumption | omega) (by first | assumption | omega) (by first | assumption | exact rfl) (by first | assumption | exact rfl) (by omega) (by omega) (by omega) (by omega) (by omega) (by omega) (by omega) (by omega) (by (try simp (disch := omega) only [sr_s, sr_a, sr_sr, u1_u1, hc]); exact rfl) ?_ | refine k_if (by (try simp (disch := omega) only [w32_id]); exact Iff.rfl) (fun c => ?_) (fun c => ?_))
      have e : ∀ a, a ≠ 124 → a ≠ 127 → sr (sr M 127 (fun j => if 0 ≤ j ∧ j < 2728 then M 127 (j + 248) else M 127 j)) 124 (u1 (M 124) 20 (12 - 1)) a = M a := fun a x1 x2 => by rw [sr_a _ _ x1, sr_a _ _ x2]
      have e124 : sr (sr M 127 (fun j => if 0 ≤ j ∧ j < 2728 then M 127 (j + 248) else M 127 j)) 124 (u1 (M 124) 20 (12 - 1)) 124 = u1 (M 124) 20 11 := sr_s _ _ _
      have e127 : sr (sr M 127 (fun j => if 0 ≤ j ∧ j < 2728 then M 127 (j + 248) else M 127 j)) 124 (u1 (M 124) 20 (12 - 1)) 127 = fun j => if 0 ≤ j ∧ j < 2728 then M 127 (j + 248) else M 127 j := by rw [sr_a _ _ (by omega), sr_s]
      generalize sr (sr M 127 (fun j => if 0 ≤ j ∧ j < 2728 then M 127 (j + 248) else M 127 j)) 124 (u1 (M 124) 20 (12 - 1)) = M' at *
      refine Ok.of (X11_p50_ok (c := 11) hG (pr124.u hp124 (fun k hk => by rw [e124, u1_k _ _ (by omega)])) (by rw [e124, u1_s]) (by omega) (by omega)) ⟨_, 11, 1, rfl, ?_⟩
      refine ⟨fun a x1 x2 => by rw [sr_a _ _ x1, sr_a _ _ x2]; exact e a x1 x2, fun k hk => by rw [sr_s, u1_k _ _ hk, e124, u1_k _ _ hk], Or.inr ⟨hc, rfl, rfl⟩, by rw [sr_s, u1_s], fun i k i0 i1 k0 k1 => ?_, fun k k0 k1 => ?_⟩
      · rw [sr_a _ _ (by omega), sr_s]
        unfold cp1
        rw [if_neg (by omega), e127]
        dsimp only
        rw [if_pos (by omega)]
        congr 1
        omega
      · rw [sr_a _ _ (by omega), sr_s]
        unfold cp1
        rw [if_pos (by omega), e 126 (by omega) (by omega)]
        congr 1
        omega
  · refine k_ifF (by rw [w32_id (by omega) (by omega)]; exact hc) ?_
    refine Ok.of (X11_p50_ok (c := M 124 20) hG hp124 rfl c0 (by omega)) ⟨_, M 124 20, 0, rfl, ?_⟩
    refine ⟨fun a x1 x2 => by rw [sr_a _ _ x1, sr_a _ _ x2], fun k hk => by rw [sr_s, u1_k _ _ hk], Or.inl ⟨by omega, rfl, rfl⟩, by rw [sr_s, u1_s], fun i k i0 i1 k0 k1 => ?_, fun k k0 k1 => ?_⟩
    · rw [sr_a _ _ (by omega), sr_s]
      unfold cp1
      rw [if_neg (by omega), Int.add_zero]
    · rw [sr_a _ _ (by omega), sr_s]
      unfold cp1
      rw [if_pos (by omega)]
      congr 1
      omega
end PS
