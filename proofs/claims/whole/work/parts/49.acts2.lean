/-! acts: draw, copy, mend -/
section AD
variable {M M1 M2 Ma N1 : Int → Int → Int} {G : GG} {td r r1 rg c d c' d' t u p k x ρ : Int} {F F' : Int → Int}
theorem Inv.mk2 (h : Inv0 M2 G td r) (e1 : M2 0 14 = x) (e2 : M2 124 1 = x) (e3 : M2 124 2 = -1) (x0 : 0 ≤ x) (x6 : x ≤ 6) (x4 : x ≠ 4) : Inv M2 G := ⟨⟨by rw [e1, e2], by rw [e1]; exact x0, by rw [e1]; exact x6, by rw [e3, e1, if_neg x4]⟩, td, r, h⟩
theorem e_den (hG : gAll G) (hc : cQ M M1) : Ok (bd (M_X9_denied (M1, G) 0 k) fun h x => (zb1 x ()).bind fun _ => some (h, x)) (cP M G 0 k) := by
  have h2 := cQ.tr (M := M1) hc.2.2 k
  exact k_bd (X9_denied_ok hG) (k_eq (zb1_ok (Or.inl rfl)) (Ok.ret ⟨_, rfl, hc.trans h2.1, h2.2⟩))
theorem e_rden (hG : gAll G) (hc : rQ M M1) : Ok (bd (M_X11_denied (M1, G) 124 k) fun h x => (zb1 x ()).bind fun _ => some (h, x)) (rP M G 0 k) := by
  have h2 := rQ.tr (M := M1) hc.2.2 k
  exact k_bd (X11_denied_ok hG) (k_eq (zb1_ok (Or.inl rfl)) (Ok.ret ⟨_, rfl, hc.trans h2.1, h2.2⟩))
theorem X11_isTown_R (hB : rB M G rg) (h6 : M rg 3 ≤ 6) (ht : i32 t) (hc : 0 ≤ t ∧ t < M rg 3) : M_X11_isTown (M, G) 124 t = some 1 := by
  obtain ⟨k124, r3, r0, kr, -⟩ := hB
  unfold i32 at ht
  refine Ok.eq ?_
  unfold M_X11_isTown
  repeat' (with_reducible first | refine k_gf (by first | assumption | omega) (by first | assumption | ((try simp (disch := omega) only [sr_s, sr_a, sr_sr, u1_s, u1_k, r3]); exact rfl)) ?_ | refine k_gr (by first | assumption | omega) (by first | assumption | ((try simp (disch := omega) only [sr_s, sr_a, sr_sr, u1_s, u1_k, r3]); exact rfl)) (by omega) ?_ | refine k_ald (by first | assumption | omega) (by first | assumption | exact rfl) (by omega) (by omega) (by omega) (by first | assumption | ((try simp (disch := omega) only [sr_s, sr_a, sr_sr, u1_s, u1_k, r3]); exact rfl)) ?_ | refine k_ifT (by first | (simp (disch := omega) only [w32_id]; first | done | omega) | omega) ?_ | refine k_ifF (by first | (simp (disch := omega) only [w32_id]; first | done | omega) | omega) ?_ | refine k_pf (by first | assumption | omega) (by (try simp (disch := omega) only [sr_s, sr_a, sr_sr, u1_u1, r3]); exact rfl) ?_ | refine k_ast (by first | assumption | omega) (by first | assumption | exact rfl) (by omega) (by omega) (by omega) (by (try simp (disch := omega) only [sr_s, sr_a, sr_sr, u1_u1, r3]); exact rfl) ?_ | refine k_irm (by omega) (by omega) (by omega) (by omega) ?_ | refine k_idv (by omega) (by omega) (by omega) (by omega) ?_ | refine k_tk (by first | assumption | omega) ?_ | refine k_rp (by omega) ?_ | refine k_aldR (by first | assumption | omega) (by first | assumption | exact rfl) (by omega) (by omega) (by omega) (by first | assumption | ((try simp (disch := omega) only [sr_s, sr_a, sr_sr, u1_s, u1_k, r3]); exact rfl)) (by omega) ?_ | refine k_astR (by first | assumption | omega) (by first | assumption | exact rfl) (by omega) (by omega) (by omega) (by first | assumption | omega) (by (try simp (disch := omega) only [sr_s, sr_a, sr_sr, u1_u1, r3]); exact rfl) ?_ | refine k_pz (by first | assumption | omega) (by omega) (by (try simp (disch := omega) only [sr_s, sr_a, sr_sr, u1_u1, r3]); exact rfl) ?_ | refine k_alen (by first | assumption | omega) (by first | assumption | exact rfl) ?_ | refine k_cpy (by first | assumption | omega) (by first | assumption | omega) (by first | assumption | exact rfl) (by first | assumption | exact rfl) (by omega) (by omega) (by omega) (by omega) (by omega) (by omega) (by omega) (by omega) (by (try simp (disch := omega) only [sr_s, sr_a, sr_sr, u1_u1, r3]); exact rfl) ?_ | refine k_if (by (try simp (disch := omega) only [w32_id]); exact Iff.rfl) (fun c => ?_) (fun c => ?_))
  exact Ok.ret rfl
theorem X11_isPlace_R (hB : rB M G rg) (h6 : M rg 3 ≤ 6) (ht : i32 t) (hp : i32 p) (hc : 0 ≤ t ∧ t < M rg 3) (hc2 : plC (M rg 0) (M rg 1) p) : M_X11_isPlace (M, G) 124 t p = some 1 := by
  have k124 := hB.1
  have hin := ipC_in hc2 (by have := hB; unfold rB at this; omega)
  have hb := idx_b hB.2.2.2.2.1 hB.2.2.2.2.2.1 hB.2.2.2.2.2.2.2 hin
  have hm := mul_b hB.2.2.2.2.1 hB.2.2.2.2.2.1 hB.2.2.2.2.2.2.1 hB.2.2.2.2.2.2.2
  refine Ok.eq ?_
  unfold M_X11_isPlace
  refine k_tk k124 (k_eq (X11_isTown_R hB h6 ht hc) (k_ifF (by decide) (k_eq (X11_placeOf_T hB hp hc2) ?_)))
  repeat' (with_reducible first | refine k_gf (by first | assumption | omega) (by first | assumption | ((try simp (disch := omega) only [sr_s, sr_a, sr_sr, u1_s, u1_k]); exact rfl)) ?_ | refine k_gr (by first | assumption | omega) (by first | assumption | ((try simp (disch := omega) only [sr_s, sr_a, sr_sr, u1_s, u1_k]); exact rfl)) (by omega) ?_ | refine k_ald (by first | assumption | omega) (by first | assumption | exact rfl) (by omega) (by omega) (by omega) (by first | assumption | ((try simp (disch := omega) only [sr_s, sr_a, sr_sr, u1_s, u1_k]); exact rfl)) ?_ | refine k_ifT (by first | (simp (disch := omega) only [w32_id]; first | done | omega) | omega) ?_ | refine k_ifF (by first | (simp (disch := omega) only [w32_id]; first | done | omega) | omega) ?_ | refine k_pf (by first | assumption | omega) (by (try simp (disch := omega) only [sr_s, sr_a, sr_sr, u1_u1]); exact rfl) ?_ | refine k_ast (by first | assumption | omega) (by first | assumption | exact rfl) (by omega) (by omega) (by omega) (by (try simp (disch := omega) only [sr_s, sr_a, sr_sr, u1_u1]); exact rfl) ?_ | refine k_irm (by omega) (by omega) (by omega) (by omega) ?_ | refine k_idv (by omega) (by omega) (by omega) (by omega) ?_ | refine k_tk (by first | assumption | omega) ?_ | refine k_rp (by omega) ?_ | refine k_aldR (by first | assumption | omega) (by first | assumption | exact rfl) (by omega) (by omega) (by omega) (by first | assumption | ((try simp (disch := omega) only [sr_s, sr_a, sr_sr, u1_s, u1_k]); exact rfl)) (by omega) ?_ | refine k_astR (by first | assumption | omega) (by first | assumption | exact rfl) (by omega) (by omega) (by omega) (by first | assumption | omega) (by (try simp (disch := omega) only [sr_s, sr_a, sr_sr, u1_u1]); exact rfl) ?_ | refine k_pz (by first | assumption | omega) (by omega) (by (try simp (disch := omega) only [sr_s, sr_a, sr_sr, u1_u1]); exact rfl) ?_ | refine k_alen (by first | assumption | omega) (by first | assumption | exact rfl) ?_ | refine k_cpy (by first | assumption | omega) (by first | assumption | omega) (by first | assumption | exact rfl) (by first | assumption | exact rfl) (by omega) (by omega) (by omega) (by omega) (by omega) (by omega) (by omega) (by omega) (by (try simp (disch := omega) only [sr_s, sr_a, sr_sr, u1_u1]); exact rfl) ?_ | refine k_if (by (try simp (disch := omega) only [w32_id]); exact Iff.rfl) (fun c => ?_) (fun c => ?_))
  exact Ok.ret rfl
theorem thM_a {a : Int} (h : a ≠ 124) : thM M a = M a := sr_a _ _ h
theorem thM_k {j : Int} (h : j ≠ 0) : thM M 124 j = M 124 j := by unfold thM; rw [sr_s, u1_k _ _ h]
theorem trM_a {a : Int} (h : a ≠ 0) : trM M x a = M a := sr_a _ _ h
theorem trM_k {j : Int} (h : j ≠ 14) : trM M x 0 j = M 0 j := by unfold trM; rw [sr_s, u1_k _ _ h]
theorem rtM_a {a : Int} (h : a ≠ 124) : rtM M x a = M a := sr_a _ _ h
/-- an act that changes one row of now, on both sides -/
theorem act_end (h : Inv0 M G td r) (hR : isR M G td rg) (hm : rmC M Ma r r1 c d) (hρ : ρ = 25 ∨ ρ = 26 ∨ ρ = 27) (hs : shW (sr M ρ F) 24) (hN : rmR (thM (trM (sr Ma ρ F) 0)) N1 c' d') (hw : wR (sr M ρ F) 24 (M 24 0) (M 24 1) (M 24 2) (M td 0)) (hcw : cW (sr (sr M ρ F) 126 F') (M 24 0) (M 24 1) (M 24 2) 24 126 0) : Inv (rtM (sr N1 126 F') 0) G := by
  obtain ⟨m1, m2, m3, m4, m5, m6, b0, b1, b2, b6, b7, bm, f1, f2, f3⟩ := hm
  obtain ⟨n1, n2, n3, n4, n5, n6⟩ := hN
  have hR' := hR
  obtain ⟨-, -, -, -, ⟨-, -, -, ⟨a1, a2, a3, a4, a5, a6, -⟩, -⟩, -, -, -, -, -, ⟨q1, q2, q3, -⟩, -⟩ := hR
  have hwc : 39 ≤ Ma 37 c ∧ Ma 37 c ≤ 83 := by
    have := m1.2.2 c (by omega) (by omega)
    omega
  have hMa : ∀ a, (0 ≤ a ∧ a < 36 ∨ a = 38 ∨ 99 ≤ a) → Ma a = M a := fun a ha => m5 a (by omega) (by omega) (by omega)
  have hT : ∀ a, a ≠ 0 → a ≠ ρ → trM (sr Ma ρ F) 0 a = Ma a := fun a x1 x2 => by rw [trM_a x1, sr_a _ _ x2]
  have hTr : trM (sr Ma ρ F) 0 ρ = F := by rw [trM_a (by omega), sr_s]
  have hT0 : ∀ k, k ≠ 14 → trM (sr Ma ρ F) 0 0 k = Ma 0 k := fun k hk => by rw [trM_k hk, sr_a _ _ (by omega)]
  have h20 : thM (trM (sr Ma ρ F) 0) 124 20 = M 36 1 := by rw [thM_k (by omega), hT 124 (by omega) (by omega), hMa 124 (by omega)]; exact q1
  have hcd : c' = c ∧ d' = d := by rw [h20] at n3; omega
  obtain ⟨rfl, rfl⟩ := hcd
  have hC : acC M (trM (sr Ma ρ F) 0) r1 c' d' := by
    have x37 : trM (sr Ma ρ F) 0 37 = Ma 37 := hT 37 (by omega) (by omega)
    have x36 : trM (sr Ma ρ F) 0 36 = Ma 36 := hT 36 (by omega) (by omega)
    unfold acC rot mW at *
    rw [x37, x36]
    rw [hT (Ma 37 c') (by omega) (by omega), hT (Ma 37 c' + 1) (by omega) (by omega), hT (Ma 37 c' + 2) (by omega) (by omega), hT (Ma 37 c' + 3) (by omega) (by omega)]
    refine ⟨m1, m2, m3, m4, fun a x1 x2 => ?_, fun k hk => ?_, m6, b0, b1, b2, b6, b7, bm, f1, f2, f3, ?_, ?_⟩
    · rw [hT a (by omega) (by omega)]; exact m5 a (by omega) (by omega) x2
    · rw [hT0 k hk, hMa 0 (by omega)]
    · have := h.2.1
      unfold cSc shW mW zoW chI at *
      simp (disch := omega) only [hT, hMa]
      exact this
    · unfold shW mW zoW at *
      have e24 : trM (sr Ma ρ F) 0 24 = sr M ρ F 24 := by rw [hT 24 (by omega) (by omega), hMa 24 (by omega), sr_a _ _ (by omega)]
      have e : ∀ a, 25 ≤ a → a < 28 → trM (sr Ma ρ F) 0 a = sr M ρ F a := fun a x0 x1 => by
        by_cases e : a = ρ
        · rw [e, hTr, sr_s]
        · rw [hT a (by omega) e, hMa a (by omega), sr_a _ _ e]
      rw [e24, e (24 + 1) (by omega) (by omega), e (24 + 2) (by omega) (by omega), e (24 + 3) (by omega) (by omega)]
      exact hs
  have g : ∀ a, a ≠ 124 → a ≠ 126 → a ≠ 127 → rtM (sr N1 126 F') 0 a = trM (sr Ma ρ F) 0 a := fun a x1 x2 x3 => by rw [rtM_a x1, sr_a _ _ x2, n1 a x1 x3, thM_a x1]
  have g127 : rtM (sr N1 126 F') 0 127 = N1 127 := by rw [rtM_a (by omega), sr_a _ _ (by omega)]
  have g126 : rtM (sr N1 126 F') 0 126 = F' := by rw [rtM_a (by omega), sr_s]
  have g124 : ∀ k, k ≠ 0 → k ≠ 1 → k ≠ 2 → k ≠ 20 → rtM (sr N1 126 F') 0 124 k = trM (sr Ma ρ F) 0 124 k := fun k x0 x1 x2 x3 => by unfold rtM; rw [sr_s, u1_k _ _ x2, u1_k _ _ x1, sr_a _ _ (by omega), n2 k x3, thM_k x0]
  have hRr : acR (trM (sr Ma ρ F) 0) (rtM (sr N1 126 F') 0) c' d' := by
    refine ⟨fun a ha => g a (by omega) (by omega) (by omega), fun k x0 x1 x2 x3 _ _ _ => g124 k x0 x1 x2 x3, ?_, fun i k i0 i1 k0 k1 => ?_, fun k k0 k1 => ?_, ?_⟩
    · unfold rtM; rw [sr_s, u1_k _ _ (by omega), u1_k _ _ (by omega), sr_a _ _ (by omega)]; exact n4
    · rw [g127, n5 i k i0 i1 k0 k1, thM_a (by omega)]
    · rw [g127, n6 k k0 k1, thM_a (by omega)]
    · rw [g 129 (by omega) (by omega) (by omega), hT 129 (by omega) (by omega), hMa 129 (by omega)]; exact h.2.2.1.2
  have hrow : ∀ a, 24 ≤ a → a < 28 → rtM (sr N1 126 F') 0 a = sr M ρ F a := fun a x0 x1 => by
    rw [g a (by omega) (by omega) (by omega)]
    by_cases e : a = ρ
    · rw [e, hTr, sr_s]
    · rw [hT a (by omega) e, hMa a (by omega), sr_a _ _ e]
  have hgh : ∀ a, a ≠ 126 → sr (sr M ρ F) 126 F' a = sr M ρ F a := fun a ha => sr_a _ _ ha
  have e24 := hrow 24 (by omega) (by omega)
  have e25 := hrow (24 + 1) (by omega) (by omega)
  have e26 := hrow (24 + 2) (by omega) (by omega)
  have e27 := hrow (24 + 3) (by omega) (by omega)
  have hI := act_inv (r1 := r1) h hR' hC hRr (wR.mv hw (by rw [e24]) (by rw [e24]) (by rw [e24]) (by rw [e24]) e25 e26 e27) (cW.mv hcw a6 a1 a2 a3 a4 (by rw [e24, hgh 24 (by omega)]) (by rw [e24, hgh 24 (by omega)]) (by rw [e25, hgh _ (by omega)]) (by rw [e26, hgh _ (by omega)]) (by rw [e27, hgh _ (by omega)]) (fun k _ _ => by rw [g126, sr_s]))
  refine Inv.mk2 (x := 0) hI ?_ ?_ ?_ (by omega) (by omega) (by omega)
  · rw [g 0 (by omega) (by omega) (by omega)]; unfold trM; rw [sr_s, u1_s]
  · unfold rtM; rw [sr_s, u1_k _ _ (by omega), u1_s]
  · unfold rtM; rw [sr_s, u1_s]
theorem Inv0.s24 (h : Inv0 M G td r) : shW M 24 := h.1.2.2.2.2.2.2.2.2.2.1
theorem q_draw (h : Inv M G) (ht : i32 t) (hp : i32 p) (hk : i32 k) : Both M G (fun h => M_X9_draw h 0 t p k) (fun h => M_X11_draw h 124 t p k) := by
  obtain ⟨htr, td, r, h0⟩ := h
  have hG := h0.1.1
  have ht' := ht
  have hp' := hp
  have hk' := hk
  unfold i32 at ht' hp' hk'
  have hh := h0.tw
  have hp0 := h0.1.2.1
  have htd : td = 2 ∨ td = 13 := h0.1.2.2.1
  obtain ⟨m3, m4, m5⟩ := h0.now
  have p4 := pr0.p4 hp0
  have p7 := pr0.p7 hp0
  have k0 := gk_0 hG
  have k24 := gk_24 hG
  have k25 := gk_25 hG
  have l25 := gl_25 hG
  have k124 := gk_124 hG
  have k126 := gk_126 hG
  have l126 := gl_126 hG
  by_cases c : 0 ≤ t ∧ t < M 24 2
  · obtain ⟨rg, hR⟩ := h0.ring (by omega)
    have hmk := hR.mk
    by_cases c2 : plC (M 24 0) (M 24 1) p
    · have hin := ipC_in c2 (by omega)
      have p0 := c2.1
      have hib : 0 ≤ ipC p ∧ ipC p < 36 := by unfold inV at hin; omega
      obtain ⟨e0, e1, e2, e3, ⟨a1, a2, b1, b2, t1, t6, mk2, mk6, hco, her, het, hcz, s0, s1, hce⟩, hc1, hc2, hc3, hc4, hc5, hz, hn⟩ := hR.cl
      have hcb := hce (36 * t + ipC p)
      have hb := idx_b a1 a2 b2 hin
      have hm := mul_b a1 a2 b1 b2
      have hw25 : w32 (M 25 (36 * t + ipC p)) = M 25 (36 * t + ipC p) := w32_id (by omega) (by omega)
      by_cases c3 : 0 ≤ k ∧ k < M td 0
      · by_cases c4 : M 25 (36 * t + ipC p) = k
        · unfold M_X9_draw M_X11_draw
          refine Both.go h0 0 5 (by omega) (by omega) (by omega) ?_ (fun M2 h2 f => ?_)
          · repeat' (with_reducible first | refine k_gf (by first | assumption | omega) (by first | assumption | ((try simp (disch := omega) only [sr_s, sr_a, sr_sr, u1_s, u1_k, p4, m3]); exact rfl)) ?_ | refine k_gr (by first | assumption | omega) (by first | assumption | ((try simp (disch := omega) only [sr_s, sr_a, sr_sr, u1_s, u1_k, p4, m3]); exact rfl)) (by omega) ?_ | refine k_ald (by first | assumption | omega) (by first | assumption | exact rfl) (by omega) (by omega) (by omega) (by first | assumption | ((try simp (disch := omega) only [sr_s, sr_a, sr_sr, u1_s, u1_k, p4, m3]); exact rfl)) ?_ | refine k_eq (X9_isTown_T h0 ht c) ?_ | refine k_eq (X9_isPlace_T h0 hp c2) ?_ | refine k_eq (X9_isMark_T h0 hk (by omega) c3) ?_ | refine k_eq (X9_inner_ok p0 hp) ?_ | refine k_ifT (by first | (simp (disch := omega) only [w32_id, hw25]; first | done | omega) | omega) ?_ | refine k_ifF (by first | (simp (disch := omega) only [w32_id, hw25]; first | done | omega) | omega) ?_ | refine k_pf (by first | assumption | omega) (by (try simp (disch := omega) only [sr_s, sr_a, sr_sr, u1_u1, p4, m3]); exact rfl) ?_ | refine k_ast (by first | assumption | omega) (by first | assumption | exact rfl) (by omega) (by omega) (by omega) (by (try simp (disch := omega) only [sr_s, sr_a, sr_sr, u1_u1, p4, m3]); exact rfl) ?_ | refine k_irm (by omega) (by omega) (by omega) (by omega) ?_ | refine k_idv (by omega) (by omega) (by omega) (by omega) ?_ | refine k_tk (by first | assumption | omega) ?_ | refine k_rp (by omega) ?_ | refine k_aldR (by first | assumption | omega) (by first | assumption | exact rfl) (by omega) (by omega) (by omega) (by first | assumption | ((try simp (disch := omega) only [sr_s, sr_a, sr_sr, u1_s, u1_k, p4, m3]); exact rfl)) (by omega) ?_ | refine k_astR (by first | assumption | omega) (by first | assumption | exact rfl) (by omega) (by omega) (by omega) (by first | assumption | omega) (by (try simp (disch := omega) only [sr_s, sr_a, sr_sr, u1_u1, p4, m3]); exact rfl) ?_ | refine k_pz (by first | assumption | omega) (by omega) (by (try simp (disch := omega) only [sr_s, sr_a, sr_sr, u1_u1, p4, m3]); exact rfl) ?_ | refine k_alen (by first | assumption | omega) (by first | assumption | exact rfl) ?_ | refine k_cpy (by first | assumption | omega) (by first | assumption | omega) (by first | assumption | exact rfl) (by first | assumption | exact rfl) (by omega) (by omega) (by omega) (by omega) (by omega) (by omega) (by omega) (by omega) (by (try simp (disch := omega) only [sr_s, sr_a, sr_sr, u1_u1, p4, m3]); exact rfl) ?_ | refine k_if (by (try simp (disch := omega) only [w32_id, hw25]); exact Iff.rfl) (fun c => ?_) (fun c => ?_))
            exact e_den hG (cQ.refl h0.2.1)
          · have f24 : M2 24 = M 24 := f 24 (by omega)
            have c' : 0 ≤ t ∧ t < M2 24 2 := by rw [f24]; exact c
            have c2' : plC (M2 24 0) (M2 24 1) p := by rw [f24]; exact c2
            have c3' : 0 ≤ k ∧ k < M2 td 0 := by rw [f td (by omega)]; exact c3
            obtain ⟨rg2, hR2⟩ := h2.ring (by omega)
            have hB2 := hR2.B hG
            obtain ⟨x0, x1, -, -, -, xc1, -⟩ := hR2.cl
            have xc1 := xc1 t (ipC p) c'.1 c'.2 (by rw [f24]; exact hin)
            rw [f24, f 25 (by omega), c4] at xc1
            have hpo := X11_placeOf_T hB2 hp (by rw [x0, x1]; exact c2')
            rw [x0, f24] at hpo
            have hp124 := h2.2.2.1.1
            have p17 := pr124.p17 hp124
            repeat' (with_reducible first | refine k_gf (by first | assumption | omega) (by first | assumption | ((try simp (disch := omega) only [sr_s, sr_a, sr_sr, u1_s, u1_k, p17, xc1]); exact rfl)) ?_ | refine k_gr (by first | assumption | omega) (by first | assumption | ((try simp (disch := omega) only [sr_s, sr_a, sr_sr, u1_s, u1_k, p17, xc1]); exact rfl)) (by omega) ?_ | refine k_ald (by first | assumption | omega) (by first | assumption | exact rfl) (by omega) (by omega) (by omega) (by first | assumption | ((try simp (disch := omega) only [sr_s, sr_a, sr_sr, u1_s, u1_k, p17, xc1]); exact rfl)) ?_ | refine k_eq (X11_isPlace_T h2 ht hp c' c2') ?_ | refine k_eq (X11_mark_T hR2 hG hk c3') ?_ | refine k_eq (hpo) ?_ | refine k_ifT (by first | (simp (disch := omega) only [w32_id]; first | done | omega) | omega) ?_ | refine k_ifF (by first | (simp (disch := omega) only [w32_id]; first | done | omega) | omega) ?_ | refine k_pf (by first | assumption | omega) (by (try simp (disch := omega) only [sr_s, sr_a, sr_sr, u1_u1, p17, xc1]); exact rfl) ?_ | refine k_ast (by first | assumption | omega) (by first | assumption | exact rfl) (by omega) (by omega) (by omega) (by (try simp (disch := omega) only [sr_s, sr_a, sr_sr, u1_u1, p17, xc1]); exact rfl) ?_ | refine k_irm (by omega) (by omega) (by omega) (by omega) ?_ | refine k_idv (by omega) (by omega) (by omega) (by omega) ?_ | refine k_tk (by first | assumption | omega) ?_ | refine k_rp (by omega) ?_ | refine k_aldR (by first | assumption | omega) (by first | assumption | exact rfl) (by omega) (by omega) (by omega) (by first | assumption | ((try simp (disch := omega) only [sr_s, sr_a, sr_sr, u1_s, u1_k, p17, xc1]); exact rfl)) (by omega) ?_ | refine k_astR (by first | assumption | omega) (by first | assumption | exact rfl) (by omega) (by omega) (by omega) (by first | assumption | omega) (by (try simp (disch := omega) only [sr_s, sr_a, sr_sr, u1_u1, p17, xc1]); exact rfl) ?_ | refine k_pz (by first | assumption | omega) (by omega) (by (try simp (disch := omega) only [sr_s, sr_a, sr_sr, u1_u1, p17, xc1]); exact rfl) ?_ | refine k_alen (by first | assumption | omega) (by first | assumption | exact rfl) ?_ | refine k_cpy (by first | assumption | omega) (by first | assumption | omega) (by first | assumption | exact rfl) (by first | assumption | exact rfl) (by omega) (by omega) (by omega) (by omega) (by omega) (by omega) (by omega) (by omega) (by (try simp (disch := omega) only [sr_s, sr_a, sr_sr, u1_u1, p17, xc1]); exact rfl) ?_ | refine k_if (by (try simp (disch := omega) only [w32_id]); exact Iff.rfl) (fun c => ?_) (fun c => ?_))
            exact e_rden hG (rQ.refl h2.2.2.1.2)
        · -- it is drawn
          have q11 := hR.2.2.2.2.2.2.2.2.2.2.1
          have hcl : Ok (M_X9_draw (M, G) 0 t p k) (fun z => ∃ Ma r1 cc d, z = ((trM (sr Ma 25 (u1 (M 25) (36 * t + ipC p) k)) 0, G), 1) ∧ rmC M Ma r r1 cc d) := by
            unfold M_X9_draw
            repeat' (with_reducible first | refine k_gf (by first | assumption | omega) (by first | assumption | ((try simp (disch := omega) only [sr_s, sr_a, sr_sr, u1_s, u1_k, p4, p7, m3]); exact rfl)) ?_ | refine k_gr (by first | assumption | omega) (by first | assumption | ((try simp (disch := omega) only [sr_s, sr_a, sr_sr, u1_s, u1_k, p4, p7, m3]); exact rfl)) (by omega) ?_ | refine k_ald (by first | assumption | omega) (by first | assumption | exact rfl) (by omega) (by omega) (by omega) (by first | assumption | ((try simp (disch := omega) only [sr_s, sr_a, sr_sr, u1_s, u1_k, p4, p7, m3]); exact rfl)) ?_ | refine k_eq (X9_isTown_T h0 ht c) ?_ | refine k_eq (X9_isPlace_T h0 hp c2) ?_ | refine k_eq (X9_isMark_T h0 hk (by omega) c3) ?_ | refine k_eq (X9_inner_ok p0 hp) ?_ | refine k_ifT (by first | (simp (disch := omega) only [w32_id, hw25]; first | done | omega) | omega) ?_ | refine k_ifF (by first | (simp (disch := omega) only [w32_id, hw25]; first | done | omega) | omega) ?_ | refine k_pf (by first | assumption | omega) (by (try simp (disch := omega) only [sr_s, sr_a, sr_sr, u1_u1, p4, p7, m3]); exact rfl) ?_ | refine k_ast (by first | assumption | omega) (by first | assumption | exact rfl) (by omega) (by omega) (by omega) (by (try simp (disch := omega) only [sr_s, sr_a, sr_sr, u1_u1, p4, p7, m3]); exact rfl) ?_ | refine k_irm (by omega) (by omega) (by omega) (by omega) ?_ | refine k_idv (by omega) (by omega) (by omega) (by omega) ?_ | refine k_tk (by first | assumption | omega) ?_ | refine k_rp (by omega) ?_ | refine k_aldR (by first | assumption | omega) (by first | assumption | exact rfl) (by omega) (by omega) (by omega) (by first | assumption | ((try simp (disch := omega) only [sr_s, sr_a, sr_sr, u1_s, u1_k, p4, p7, m3]); exact rfl)) (by omega) ?_ | refine k_astR (by first | assumption | omega) (by first | assumption | exact rfl) (by omega) (by omega) (by omega) (by first | assumption | omega) (by (try simp (disch := omega) only [sr_s, sr_a, sr_sr, u1_u1, p4, p7, m3]); exact rfl) ?_ | refine k_pz (by first | assumption | omega) (by omega) (by (try simp (disch := omega) only [sr_s, sr_a, sr_sr, u1_u1, p4, p7, m3]); exact rfl) ?_ | refine k_alen (by first | assumption | omega) (by first | assumption | exact rfl) ?_ | refine k_cpy (by first | assumption | omega) (by first | assumption | omega) (by first | assumption | exact rfl) (by first | assumption | exact rfl) (by omega) (by omega) (by omega) (by omega) (by omega) (by omega) (by omega) (by omega) (by (try simp (disch := omega) only [sr_s, sr_a, sr_sr, u1_u1, p4, p7, m3]); exact rfl) ?_ | refine k_if (by (try simp (disch := omega) only [w32_id, hw25]); exact Iff.rfl) (fun c => ?_) (fun c => ?_))
            refine Ok.bind (X3_remember_ok hG h0.1.2.2.2.2.2.2.2.2.2.2.2.1 h0.1.2.2.2.2.2.2.2.2.2.2.2.2.2.1 h0.1.2.2.2.2.2.2.2.2.2.2.1 h0.s24 q11.2.1 q11.2.2.1) ?_
            rintro _ ⟨Ma, r1, cc, d, rfl, hrm⟩
            have hwc := hrm.1.2.2 cc (by have := hrm.2.1; omega) (by have := hrm.2.1; omega)
            have f0 : Ma 0 = M 0 := hrm.2.2.2.2.1 0 (by omega) (by omega) (by omega)
            have f24 : Ma 24 = M 24 := hrm.2.2.2.2.1 24 (by omega) (by omega) (by omega)
            have f25 : Ma 25 = M 25 := hrm.2.2.2.2.1 25 (by omega) (by omega) (by omega)
            clear hwc
            repeat' (with_reducible first | refine k_gf (by first | assumption | omega) (by first | assumption | ((try simp (disch := omega) only [sr_s, sr_a, sr_sr, u1_s, u1_k, f0, f24, f25, p4, m3]); exact rfl)) ?_ | refine k_gr (by first | assumption | omega) (by first | assumption | ((try simp (disch := omega) only [sr_s, sr_a, sr_sr, u1_s, u1_k, f0, f24, f25, p4, m3]); exact rfl)) (by omega) ?_ | refine k_ald (by first | assumption | omega) (by first | assumption | exact rfl) (by omega) (by omega) (by omega) (by first | assumption | ((try simp (disch := omega) only [sr_s, sr_a, sr_sr, u1_s, u1_k, f0, f24, f25, p4, m3]); exact rfl)) ?_ | refine k_ifT (by first | (simp (disch := omega) only [w32_id]; first | done | omega) | omega) ?_ | refine k_ifF (by first | (simp (disch := omega) only [w32_id]; first | done | omega) | omega) ?_ | refine k_pf (by first | assumption | omega) (by (try simp (disch := omega) only [sr_s, sr_a, sr_sr, u1_u1, f0, f24, f25, p4, m3]); exact rfl) ?_ | refine k_ast (by first | assumption | omega) (by first | assumption | exact rfl) (by omega) (by omega) (by omega) (by (try simp (disch := omega) only [sr_s, sr_a, sr_sr, u1_u1, f0, f24, f25, p4, m3]); exact rfl) ?_ | refine k_irm (by omega) (by omega) (by omega) (by omega) ?_ | refine k_idv (by omega) (by omega) (by omega) (by omega) ?_ | refine k_tk (by first | assumption | omega) ?_ | refine k_rp (by omega) ?_ | refine k_aldR (by first | assumption | omega) (by first | assumption | exact rfl) (by omega) (by omega) (by omega) (by first | assumption | ((try simp (disch := omega) only [sr_s, sr_a, sr_sr, u1_s, u1_k, f0, f24, f25, p4, m3]); exact rfl)) (by omega) ?_ | refine k_astR (by first | assumption | omega) (by first | assumption | exact rfl) (by omega) (by omega) (by omega) (by first | assumption | omega) (by (try simp (disch := omega) only [sr_s, sr_a, sr_sr, u1_u1, f0, f24, f25, p4, m3]); exact rfl) ?_ | refine k_pz (by first | assumption | omega) (by omega) (by (try simp (disch := omega) only [sr_s, sr_a, sr_sr, u1_u1, f0, f24, f25, p4, m3]); exact rfl) ?_ | refine k_alen (by first | assumption | omega) (by first | assumption | exact rfl) ?_ | refine k_cpy (by first | assumption | omega) (by first | assumption | omega) (by first | assumption | exact rfl) (by first | assumption | exact rfl) (by omega) (by omega) (by omega) (by omega) (by omega) (by omega) (by omega) (by omega) (by (try simp (disch := omega) only [sr_s, sr_a, sr_sr, u1_u1, f0, f24, f25, p4, m3]); exact rfl) ?_ | refine k_if (by (try simp (disch := omega) only [w32_id]); exact Iff.rfl) (fun c => ?_) (fun c => ?_))
            refine k_bd (X9_granted_ok hG) (k_eq (zb1_ok (Or.inr rfl)) (Ok.ret ⟨Ma, r1, cc, d, rfl, hrm⟩))
          obtain ⟨_, ec, Ma, r1, cc, d, rfl, hrm⟩ := hcl
          have hwc := hrm.1.2.2 cc (by have := hrm.2.1; omega) (by have := hrm.2.1; omega)
          have hMa : ∀ a, 124 ≤ a → Ma a = M a := fun a ha => hrm.2.2.2.2.1 a (by omega) (by omega) (by omega)
          have hN : ∀ a, 125 ≤ a → thM (trM (sr Ma 25 (u1 (M 25) (36 * t + ipC p) k)) 0) a = M a := fun a ha => by rw [thM_a (by omega), trM_a (by omega), sr_a _ _ (by omega), hMa a (by omega)]
          have hN4 : ∀ j, j ≠ 0 → thM (trM (sr Ma 25 (u1 (M 25) (36 * t + ipC p) k)) 0) 124 j = M 124 j := fun j hj => by rw [thM_k hj, trM_a (by omega), sr_a _ _ (by omega), hMa 124 (by omega)]
          have hrf : Ok (M_X11_draw (trM (sr Ma 25 (u1 (M 25) (36 * t + ipC p) k)) 0, G) 124 t p k) (fun z => ∃ N1 c' d', z = ((rtM (sr N1 126 (u1 (M 126) (36 * t + idx (M 24 0) (ipC p)) k)) 0, G), 1) ∧ rmR (thM (trM (sr Ma 25 (u1 (M 25) (36 * t + ipC p) k)) 0)) N1 c' d') := by
            unfold M_X11_draw
            refine k_tk k124 (k_pf k124 (M' := thM (trM (sr Ma 25 (u1 (M 25) (36 * t + ipC p) k)) 0)) rfl ?_)
            generalize thM (trM (sr Ma 25 (u1 (M 25) (36 * t + ipC p) k)) 0) = N at hN hN4 ⊢
            have hB := hR.B hG
            have hrg : 146 ≤ rg := hB.2.2.1
            have er := hN rg (by omega)
            have hBN : rB N G rg := hB.cg (hN4 3 (by omega)) er
            have hpN : pr124 (N 124) := pr124.u h0.2.2.1.1 (fun j hj => hN4 j (by omega))
            have p17 := pr124.p17 hpN
            have hpo := X11_placeOf_T hBN hp (by rw [er, e0, e1]; exact c2)
            rw [er, e0] at hpo
            have hx := hc1 t (ipC p) c.1 c.2 hin
            rw [← hN 126 (by omega)] at hx
            have hcc : 0 ≤ k ∧ k < N rg 2 := by rw [er, e2]; exact c3
            have htt : 0 ≤ t ∧ t < N rg 3 := by rw [er, e3]; exact c
            have hpp : plC (N rg 0) (N rg 1) p := by rw [er, e0, e1]; exact c2
            have h63 : N rg 3 ≤ 6 := by rw [er, e3]; omega
            have h2m : 0 ≤ N rg 2 ∧ N rg 2 ≤ 6 := by rw [er, e2]; omega
            repeat' (with_reducible first | refine k_gf (by first | assumption | omega) (by first | assumption | ((try simp (disch := omega) only [sr_s, sr_a, sr_sr, u1_s, u1_k, p17, hx]); exact rfl)) ?_ | refine k_gr (by first | assumption | omega) (by first | assumption | ((try simp (disch := omega) only [sr_s, sr_a, sr_sr, u1_s, u1_k, p17, hx]); exact rfl)) (by omega) ?_ | refine k_ald (by first | assumption | omega) (by first | assumption | exact rfl) (by omega) (by omega) (by omega) (by first | assumption | ((try simp (disch := omega) only [sr_s, sr_a, sr_sr, u1_s, u1_k, p17, hx]); exact rfl)) ?_ | refine k_eq (X11_isPlace_R hBN h63 ht hp htt hpp) ?_ | refine k_eq (X11_isMark_T hBN hk h2m hcc) ?_ | refine k_eq (hpo) ?_ | refine k_ifT (by first | (simp (disch := omega) only [w32_id, hw25]; first | done | omega) | omega) ?_ | refine k_ifF (by first | (simp (disch := omega) only [w32_id, hw25]; first | done | omega) | omega) ?_ | refine k_pf (by first | assumption | omega) (by (try simp (disch := omega) only [sr_s, sr_a, sr_sr, u1_u1, p17, hx]); exact rfl) ?_ | refine k_ast (by first | assumption | omega) (by first | assumption | exact rfl) (by omega) (by omega) (by omega) (by (try simp (disch := omega) only [sr_s, sr_a, sr_sr, u1_u1, p17, hx]); exact rfl) ?_ | refine k_irm (by omega) (by omega) (by omega) (by omega) ?_ | refine k_idv (by omega) (by omega) (by omega) (by omega) ?_ | refine k_tk (by first | assumption | omega) ?_ | refine k_rp (by omega) ?_ | refine k_aldR (by first | assumption | omega) (by first | assumption | exact rfl) (by omega) (by omega) (by omega) (by first | assumption | ((try simp (disch := omega) only [sr_s, sr_a, sr_sr, u1_s, u1_k, p17, hx]); exact rfl)) (by omega) ?_ | refine k_astR (by first | assumption | omega) (by first | assumption | exact rfl) (by omega) (by omega) (by omega) (by first | assumption | omega) (by (try simp (disch := omega) only [sr_s, sr_a, sr_sr, u1_u1, p17, hx]); exact rfl) ?_ | refine k_pz (by first | assumption | omega) (by omega) (by (try simp (disch := omega) only [sr_s, sr_a, sr_sr, u1_u1, p17, hx]); exact rfl) ?_ | refine k_alen (by first | assumption | omega) (by first | assumption | exact rfl) ?_ | refine k_cpy (by first | assumption | omega) (by first | assumption | omega) (by first | assumption | exact rfl) (by first | assumption | exact rfl) (by omega) (by omega) (by omega) (by omega) (by omega) (by omega) (by omega) (by omega) (by (try simp (disch := omega) only [sr_s, sr_a, sr_sr, u1_u1, p17, hx]); exact rfl) ?_ | refine k_if (by (try simp (disch := omega) only [w32_id, hw25]); exact Iff.rfl) (fun c => ?_) (fun c => ?_))
            refine Ok.bind (X11_remembers_ok hG hpN (by rw [hN4 20 (by omega), q11.1]; exact q11.2.1) (by rw [hN4 20 (by omega), q11.1]; exact q11.2.2.1)) ?_
            rintro _ ⟨N1, c', d', rfl, hrr⟩
            have er1 : N1 rg = N rg := hrr.1 rg (by omega) (by omega)
            have hB1 : rB N1 G rg := hBN.cg (hrr.2.1 3 (by omega)) er1
            have p17' : N1 124 17 = 126 := by rw [hrr.2.1 17 (by omega)]; exact p17
            have x126 : N1 126 = M 126 := (hrr.1 126 (by omega) (by omega)).trans (hN 126 (by omega))
            have hpo1 := X11_placeOf_T hB1 hp (by rw [er1]; exact hpp)
            rw [er1, er, e0] at hpo1
            repeat' (with_reducible first | refine k_gf (by first | assumption | omega) (by first | assumption | ((try simp (disch := omega) only [sr_s, sr_a, sr_sr, u1_s, u1_k, p17', x126]); exact rfl)) ?_ | refine k_gr (by first | assumption | omega) (by first | assumption | ((try simp (disch := omega) only [sr_s, sr_a, sr_sr, u1_s, u1_k, p17', x126]); exact rfl)) (by omega) ?_ | refine k_ald (by first | assumption | omega) (by first | assumption | exact rfl) (by omega) (by omega) (by omega) (by first | assumption | ((try simp (disch := omega) only [sr_s, sr_a, sr_sr, u1_s, u1_k, p17', x126]); exact rfl)) ?_ | refine k_eq (hpo1) ?_ | refine k_ifT (by first | (simp (disch := omega) only [w32_id]; first | done | omega) | omega) ?_ | refine k_ifF (by first | (simp (disch := omega) only [w32_id]; first | done | omega) | omega) ?_ | refine k_pf (by first | assumption | omega) (by (try simp (disch := omega) only [sr_s, sr_a, sr_sr, u1_u1, p17', x126]); exact rfl) ?_ | refine k_ast (by first | assumption | omega) (by first | assumption | exact rfl) (by omega) (by omega) (by omega) (by (try simp (disch := omega) only [sr_s, sr_a, sr_sr, u1_u1, p17', x126]); exact rfl) ?_ | refine k_irm (by omega) (by omega) (by omega) (by omega) ?_ | refine k_idv (by omega) (by omega) (by omega) (by omega) ?_ | refine k_tk (by first | assumption | omega) ?_ | refine k_rp (by omega) ?_ | refine k_aldR (by first | assumption | omega) (by first | assumption | exact rfl) (by omega) (by omega) (by omega) (by first | assumption | ((try simp (disch := omega) only [sr_s, sr_a, sr_sr, u1_s, u1_k, p17', x126]); exact rfl)) (by omega) ?_ | refine k_astR (by first | assumption | omega) (by first | assumption | exact rfl) (by omega) (by omega) (by omega) (by first | assumption | omega) (by (try simp (disch := omega) only [sr_s, sr_a, sr_sr, u1_u1, p17', x126]); exact rfl) ?_ | refine k_pz (by first | assumption | omega) (by omega) (by (try simp (disch := omega) only [sr_s, sr_a, sr_sr, u1_u1, p17', x126]); exact rfl) ?_ | refine k_alen (by first | assumption | omega) (by first | assumption | exact rfl) ?_ | refine k_cpy (by first | assumption | omega) (by first | assumption | omega) (by first | assumption | exact rfl) (by first | assumption | exact rfl) (by omega) (by omega) (by omega) (by omega) (by omega) (by omega) (by omega) (by omega) (by (try simp (disch := omega) only [sr_s, sr_a, sr_sr, u1_u1, p17', x126]); exact rfl) ?_ | refine k_if (by (try simp (disch := omega) only [w32_id]); exact Iff.rfl) (fun c => ?_) (fun c => ?_))
            exact k_bd (X11_granted_ok hG) (k_eq (zb1_ok (Or.inr rfl)) (Ok.ret ⟨N1, c', d', rfl, hrr⟩))
          obtain ⟨_, er, N1, c', d', rfl, hrr⟩ := hrf
          refine ⟨_, _, 1, ec, er, ?_⟩
          have hsz := h0.s24.2
          refine act_end h0 hR hrm (Or.inl rfl) ⟨?_, ?_⟩ hrr ?_ ?_
          · have := h0.s24.1
            unfold mW at *
            rw [sr_a _ _ (by omega)]
            exact this
          · unfold zoW at *
            refine ⟨?_, ?_, ?_⟩
            · show zO 216 (sr M 25 _ 25)
              rw [sr_s]; exact zO_u1 hsz.1 (by omega) (by omega)
            · rw [sr_a _ _ (by omega)]; exact hsz.2.1
            · rw [sr_a _ _ (by omega)]; exact hsz.2.2
          · refine ⟨by rw [sr_a _ _ (by omega)], by rw [sr_a _ _ (by omega)], by rw [sr_a _ _ (by omega)], ?_, ?_, ?_⟩
            · show wfW _ _ _ _ (sr M 25 _ 26) (sr M 25 _ 27) (sr M 25 _ 24 6) (sr M 25 _ 25)
              rw [sr_s, sr_a _ _ (by omega), sr_a _ _ (by omega), sr_a _ _ (by omega)]
              refine ⟨a1, a2, b1, b2, t1, t6, mk2, mk6, hco, her, het, hcz, s0, s1, fun i => ?_⟩
              unfold u1
              split
              · exact c3
              · exact hce i
            · intro i hi
              show sr M 25 _ 25 i = 0
              unfold inV at hin
              rw [sr_s, u1_k _ _ (by omega)]
              exact hz i hi
            · intro t' k' x0 x1 x2 x3 x4
              show sr M 25 _ 27 _ = -2
              have x2 : sr M 25 _ 26 t' < 0 := x2
              rw [sr_a _ _ (by omega)] at x2 ⊢
              exact hn t' k' x0 x1 x2 x3 x4
          · have g1 : ∀ a, a ≠ 25 → a ≠ 126 → sr (sr M 25 (u1 (M 25) (36 * t + ipC p) k)) 126 (u1 (M 126) (36 * t + idx (M 24 0) (ipC p)) k) a = M a := fun a x1 x2 => by rw [sr_a _ _ x2, sr_a _ _ x1]
            have g2 : sr (sr M 25 (u1 (M 25) (36 * t + ipC p) k)) 126 (u1 (M 126) (36 * t + idx (M 24 0) (ipC p)) k) 25 = u1 (M 25) (36 * t + ipC p) k := by rw [sr_a _ _ (by omega), sr_s]
            have g3 : sr (sr M 25 (u1 (M 25) (36 * t + ipC p) k)) 126 (u1 (M 126) (36 * t + idx (M 24 0) (ipC p)) k) 126 = u1 (M 126) (36 * t + idx (M 24 0) (ipC p)) k := sr_s _ _ _
            have q10 := hR.2.2.2.2.2.2.2.2.2.1
            obtain ⟨d1, d2, d3, d4, d5, d6⟩ := q10
            refine ⟨fun t' p' x0 x1 hp' => ?_, fun t' x0 x1 => ?_, fun i x0 x1 => ?_, ?_, ?_, fun j x0 x1 => ?_⟩
            · show _ = sr (sr M 25 _) 126 _ 25 _
              rw [g2, g3, Int.zero_add]
              have hb' := idx_b a1 a2 b2 hp'
              have hpb : 0 ≤ p' ∧ p' < 36 := by unfold inV at hp'; omega
              by_cases e : t' = t ∧ p' = ipC p
              · rw [e.1, e.2, u1_s, u1_s]
              · rw [u1_k _ _ (fun z => e ?_), u1_k _ _ (by omega)]
                · exact hc1 t' p' x0 x1 hp'
                · have ett : t' = t := by omega
                  have : idx (M 24 0) p' = idx (M 24 0) (ipC p) := by omega
                  have := congrArg (inn (M 24 0)) this
                  rw [inn_idx a1 a2 hp', inn_idx a1 a2 hin] at this
                  exact ⟨ett, this⟩
            · rw [g3, g1 (24 + 2) (by omega) (by omega), u1_k _ _ (by omega)]; exact d2 t' x0 x1
            · rw [g3, g1 (24 + 3) (by omega) (by omega), u1_k _ _ (by omega)]; exact d3 i x0 x1
            · rw [g3, g1 24 (by omega) (by omega), u1_k _ _ (by omega)]; exact d4
            · rw [g3, g1 24 (by omega) (by omega), u1_k _ _ (by omega)]; exact d5
            · rw [g3]
              unfold u1
              split
              · omega
              · exact d6 j x0 x1
      · unfold M_X9_draw M_X11_draw
        refine Both.go h0 0 1 (by omega) (by omega) (by omega) ?_ (fun M2 h2 f => ?_)
        · repeat' (with_reducible first | refine k_gf (by first | assumption | omega) (by first | assumption | ((try simp (disch := omega) only [sr_s, sr_a, sr_sr, u1_s, u1_k]); exact rfl)) ?_ | refine k_gr (by first | assumption | omega) (by first | assumption | ((try simp (disch := omega) only [sr_s, sr_a, sr_sr, u1_s, u1_k]); exact rfl)) (by omega) ?_ | refine k_ald (by first | assumption | omega) (by first | assumption | exact rfl) (by omega) (by omega) (by omega) (by first | assumption | ((try simp (disch := omega) only [sr_s, sr_a, sr_sr, u1_s, u1_k]); exact rfl)) ?_ | refine k_eq (X9_isTown_T h0 ht c) ?_ | refine k_eq (X9_isPlace_T h0 hp c2) ?_ | refine k_eq (X9_isMark_F h0 hk (by omega) c3) ?_ | refine k_ifT (by first | (simp (disch := omega) only [w32_id]; first | done | omega) | omega) ?_ | refine k_ifF (by first | (simp (disch := omega) only [w32_id]; first | done | omega) | omega) ?_ | refine k_pf (by first | assumption | omega) (by (try simp (disch := omega) only [sr_s, sr_a, sr_sr, u1_u1]); exact rfl) ?_ | refine k_ast (by first | assumption | omega) (by first | assumption | exact rfl) (by omega) (by omega) (by omega) (by (try simp (disch := omega) only [sr_s, sr_a, sr_sr, u1_u1]); exact rfl) ?_ | refine k_irm (by omega) (by omega) (by omega) (by omega) ?_ | refine k_idv (by omega) (by omega) (by omega) (by omega) ?_ | refine k_tk (by first | assumption | omega) ?_ | refine k_rp (by omega) ?_ | refine k_aldR (by first | assumption | omega) (by first | assumption | exact rfl) (by omega) (by omega) (by omega) (by first | assumption | ((try simp (disch := omega) only [sr_s, sr_a, sr_sr, u1_s, u1_k]); exact rfl)) (by omega) ?_ | refine k_astR (by first | assumption | omega) (by first | assumption | exact rfl) (by omega) (by omega) (by omega) (by first | assumption | omega) (by (try simp (disch := omega) only [sr_s, sr_a, sr_sr, u1_u1]); exact rfl) ?_ | refine k_pz (by first | assumption | omega) (by omega) (by (try simp (disch := omega) only [sr_s, sr_a, sr_sr, u1_u1]); exact rfl) ?_ | refine k_alen (by first | assumption | omega) (by first | assumption | exact rfl) ?_ | refine k_cpy (by first | assumption | omega) (by first | assumption | omega) (by first | assumption | exact rfl) (by first | assumption | exact rfl) (by omega) (by omega) (by omega) (by omega) (by omega) (by omega) (by omega) (by omega) (by (try simp (disch := omega) only [sr_s, sr_a, sr_sr, u1_u1]); exact rfl) ?_ | refine k_if (by (try simp (disch := omega) only [w32_id]); exact Iff.rfl) (fun c => ?_) (fun c => ?_))
          exact e_den hG (cQ.refl h0.2.1)
        · have f24 : M2 24 = M 24 := f 24 (by omega)
          have c' : 0 ≤ t ∧ t < M2 24 2 := by rw [f24]; exact c
          have c2' : plC (M2 24 0) (M2 24 1) p := by rw [f24]; exact c2
          have c3' : ¬ (0 ≤ k ∧ k < M2 td 0) := by rw [f td (by omega)]; exact c3
          obtain ⟨rg2, hR2⟩ := h2.ring (by omega)
          repeat' (with_reducible first | refine k_gf (by first | assumption | omega) (by first | assumption | ((try simp (disch := omega) only [sr_s, sr_a, sr_sr, u1_s, u1_k]); exact rfl)) ?_ | refine k_gr (by first | assumption | omega) (by first | assumption | ((try simp (disch := omega) only [sr_s, sr_a, sr_sr, u1_s, u1_k]); exact rfl)) (by omega) ?_ | refine k_ald (by first | assumption | omega) (by first | assumption | exact rfl) (by omega) (by omega) (by omega) (by first | assumption | ((try simp (disch := omega) only [sr_s, sr_a, sr_sr, u1_s, u1_k]); exact rfl)) ?_ | refine k_eq (X11_isPlace_T h2 ht hp c' c2') ?_ | refine k_eq (X11_mark_F hR2 hG hk c3') ?_ | refine k_ifT (by first | (simp (disch := omega) only [w32_id]; first | done | omega) | omega) ?_ | refine k_ifF (by first | (simp (disch := omega) only [w32_id]; first | done | omega) | omega) ?_ | refine k_pf (by first | assumption | omega) (by (try simp (disch := omega) only [sr_s, sr_a, sr_sr, u1_u1]); exact rfl) ?_ | refine k_ast (by first | assumption | omega) (by first | assumption | exact rfl) (by omega) (by omega) (by omega) (by (try simp (disch := omega) only [sr_s, sr_a, sr_sr, u1_u1]); exact rfl) ?_ | refine k_irm (by omega) (by omega) (by omega) (by omega) ?_ | refine k_idv (by omega) (by omega) (by omega) (by omega) ?_ | refine k_tk (by first | assumption | omega) ?_ | refine k_rp (by omega) ?_ | refine k_aldR (by first | assumption | omega) (by first | assumption | exact rfl) (by omega) (by omega) (by omega) (by first | assumption | ((try simp (disch := omega) only [sr_s, sr_a, sr_sr, u1_s, u1_k]); exact rfl)) (by omega) ?_ | refine k_astR (by first | assumption | omega) (by first | assumption | exact rfl) (by omega) (by omega) (by omega) (by first | assumption | omega) (by (try simp (disch := omega) only [sr_s, sr_a, sr_sr, u1_u1]); exact rfl) ?_ | refine k_pz (by first | assumption | omega) (by omega) (by (try simp (disch := omega) only [sr_s, sr_a, sr_sr, u1_u1]); exact rfl) ?_ | refine k_alen (by first | assumption | omega) (by first | assumption | exact rfl) ?_ | refine k_cpy (by first | assumption | omega) (by first | assumption | omega) (by first | assumption | exact rfl) (by first | assumption | exact rfl) (by omega) (by omega) (by omega) (by omega) (by omega) (by omega) (by omega) (by omega) (by (try simp (disch := omega) only [sr_s, sr_a, sr_sr, u1_u1]); exact rfl) ?_ | refine k_if (by (try simp (disch := omega) only [w32_id]); exact Iff.rfl) (fun c => ?_) (fun c => ?_))
          exact e_rden hG (rQ.refl h2.2.2.1.2)
    · unfold M_X9_draw M_X11_draw
      refine Both.go h0 0 1 (by omega) (by omega) (by omega) ?_ (fun M2 h2 f => ?_)
      · repeat' (with_reducible first | refine k_gf (by first | assumption | omega) (by first | assumption | ((try simp (disch := omega) only [sr_s, sr_a, sr_sr, u1_s, u1_k]); exact rfl)) ?_ | refine k_gr (by first | assumption | omega) (by first | assumption | ((try simp (disch := omega) only [sr_s, sr_a, sr_sr, u1_s, u1_k]); exact rfl)) (by omega) ?_ | refine k_ald (by first | assumption | omega) (by first | assumption | exact rfl) (by omega) (by omega) (by omega) (by first | assumption | ((try simp (disch := omega) only [sr_s, sr_a, sr_sr, u1_s, u1_k]); exact rfl)) ?_ | refine k_eq (X9_isTown_T h0 ht c) ?_ | refine k_eq (X9_isPlace_F h0 hp c2) ?_ | refine k_ifT (by first | (simp (disch := omega) only [w32_id]; first | done | omega) | omega) ?_ | refine k_ifF (by first | (simp (disch := omega) only [w32_id]; first | done | omega) | omega) ?_ | refine k_pf (by first | assumption | omega) (by (try simp (disch := omega) only [sr_s, sr_a, sr_sr, u1_u1]); exact rfl) ?_ | refine k_ast (by first | assumption | omega) (by first | assumption | exact rfl) (by omega) (by omega) (by omega) (by (try simp (disch := omega) only [sr_s, sr_a, sr_sr, u1_u1]); exact rfl) ?_ | refine k_irm (by omega) (by omega) (by omega) (by omega) ?_ | refine k_idv (by omega) (by omega) (by omega) (by omega) ?_ | refine k_tk (by first | assumption | omega) ?_ | refine k_rp (by omega) ?_ | refine k_aldR (by first | assumption | omega) (by first | assumption | exact rfl) (by omega) (by omega) (by omega) (by first | assumption | ((try simp (disch := omega) only [sr_s, sr_a, sr_sr, u1_s, u1_k]); exact rfl)) (by omega) ?_ | refine k_astR (by first | assumption | omega) (by first | assumption | exact rfl) (by omega) (by omega) (by omega) (by first | assumption | omega) (by (try simp (disch := omega) only [sr_s, sr_a, sr_sr, u1_u1]); exact rfl) ?_ | refine k_pz (by first | assumption | omega) (by omega) (by (try simp (disch := omega) only [sr_s, sr_a, sr_sr, u1_u1]); exact rfl) ?_ | refine k_alen (by first | assumption | omega) (by first | assumption | exact rfl) ?_ | refine k_cpy (by first | assumption | omega) (by first | assumption | omega) (by first | assumption | exact rfl) (by first | assumption | exact rfl) (by omega) (by omega) (by omega) (by omega) (by omega) (by omega) (by omega) (by omega) (by (try simp (disch := omega) only [sr_s, sr_a, sr_sr, u1_u1]); exact rfl) ?_ | refine k_if (by (try simp (disch := omega) only [w32_id]); exact Iff.rfl) (fun c => ?_) (fun c => ?_))
        exact e_den hG (cQ.refl h0.2.1)
      · rw [← f 24 (by omega)] at c2
        have hnp := X11_isPlace_F h2 ht hp (fun z => c2 z.2)
        repeat' (with_reducible first | refine k_gf (by first | assumption | omega) (by first | assumption | ((try simp (disch := omega) only [sr_s, sr_a, sr_sr, u1_s, u1_k]); exact rfl)) ?_ | refine k_gr (by first | assumption | omega) (by first | assumption | ((try simp (disch := omega) only [sr_s, sr_a, sr_sr, u1_s, u1_k]); exact rfl)) (by omega) ?_ | refine k_ald (by first | assumption | omega) (by first | assumption | exact rfl) (by omega) (by omega) (by omega) (by first | assumption | ((try simp (disch := omega) only [sr_s, sr_a, sr_sr, u1_s, u1_k]); exact rfl)) ?_ | refine k_eq (hnp) ?_ | refine k_ifT (by first | (simp (disch := omega) only [w32_id]; first | done | omega) | omega) ?_ | refine k_ifF (by first | (simp (disch := omega) only [w32_id]; first | done | omega) | omega) ?_ | refine k_pf (by first | assumption | omega) (by (try simp (disch := omega) only [sr_s, sr_a, sr_sr, u1_u1]); exact rfl) ?_ | refine k_ast (by first | assumption | omega) (by first | assumption | exact rfl) (by omega) (by omega) (by omega) (by (try simp (disch := omega) only [sr_s, sr_a, sr_sr, u1_u1]); exact rfl) ?_ | refine k_irm (by omega) (by omega) (by omega) (by omega) ?_ | refine k_idv (by omega) (by omega) (by omega) (by omega) ?_ | refine k_tk (by first | assumption | omega) ?_ | refine k_rp (by omega) ?_ | refine k_aldR (by first | assumption | omega) (by first | assumption | exact rfl) (by omega) (by omega) (by omega) (by first | assumption | ((try simp (disch := omega) only [sr_s, sr_a, sr_sr, u1_s, u1_k]); exact rfl)) (by omega) ?_ | refine k_astR (by first | assumption | omega) (by first | assumption | exact rfl) (by omega) (by omega) (by omega) (by first | assumption | omega) (by (try simp (disch := omega) only [sr_s, sr_a, sr_sr, u1_u1]); exact rfl) ?_ | refine k_pz (by first | assumption | omega) (by omega) (by (try simp (disch := omega) only [sr_s, sr_a, sr_sr, u1_u1]); exact rfl) ?_ | refine k_alen (by first | assumption | omega) (by first | assumption | exact rfl) ?_ | refine k_cpy (by first | assumption | omega) (by first | assumption | omega) (by first | assumption | exact rfl) (by first | assumption | exact rfl) (by omega) (by omega) (by omega) (by omega) (by omega) (by omega) (by omega) (by omega) (by (try simp (disch := omega) only [sr_s, sr_a, sr_sr, u1_u1]); exact rfl) ?_ | refine k_if (by (try simp (disch := omega) only [w32_id]); exact Iff.rfl) (fun c => ?_) (fun c => ?_))
        exact e_rden hG (rQ.refl h2.2.2.1.2)
  · unfold M_X9_draw M_X11_draw
    refine Both.go h0 0 1 (by omega) (by omega) (by omega) ?_ (fun M2 h2 f => ?_)
    · repeat' (with_reducible first | refine k_gf (by first | assumption | omega) (by first | assumption | ((try simp (disch := omega) only [sr_s, sr_a, sr_sr, u1_s, u1_k]); exact rfl)) ?_ | refine k_gr (by first | assumption | omega) (by first | assumption | ((try simp (disch := omega) only [sr_s, sr_a, sr_sr, u1_s, u1_k]); exact rfl)) (by omega) ?_ | refine k_ald (by first | assumption | omega) (by first | assumption | exact rfl) (by omega) (by omega) (by omega) (by first | assumption | ((try simp (disch := omega) only [sr_s, sr_a, sr_sr, u1_s, u1_k]); exact rfl)) ?_ | refine k_eq (X9_isTown_F h0 ht c) ?_ | refine k_ifT (by first | (simp (disch := omega) only [w32_id]; first | done | omega) | omega) ?_ | refine k_ifF (by first | (simp (disch := omega) only [w32_id]; first | done | omega) | omega) ?_ | refine k_pf (by first | assumption | omega) (by (try simp (disch := omega) only [sr_s, sr_a, sr_sr, u1_u1]); exact rfl) ?_ | refine k_ast (by first | assumption | omega) (by first | assumption | exact rfl) (by omega) (by omega) (by omega) (by (try simp (disch := omega) only [sr_s, sr_a, sr_sr, u1_u1]); exact rfl) ?_ | refine k_irm (by omega) (by omega) (by omega) (by omega) ?_ | refine k_idv (by omega) (by omega) (by omega) (by omega) ?_ | refine k_tk (by first | assumption | omega) ?_ | refine k_rp (by omega) ?_ | refine k_aldR (by first | assumption | omega) (by first | assumption | exact rfl) (by omega) (by omega) (by omega) (by first | assumption | ((try simp (disch := omega) only [sr_s, sr_a, sr_sr, u1_s, u1_k]); exact rfl)) (by omega) ?_ | refine k_astR (by first | assumption | omega) (by first | assumption | exact rfl) (by omega) (by omega) (by omega) (by first | assumption | omega) (by (try simp (disch := omega) only [sr_s, sr_a, sr_sr, u1_u1]); exact rfl) ?_ | refine k_pz (by first | assumption | omega) (by omega) (by (try simp (disch := omega) only [sr_s, sr_a, sr_sr, u1_u1]); exact rfl) ?_ | refine k_alen (by first | assumption | omega) (by first | assumption | exact rfl) ?_ | refine k_cpy (by first | assumption | omega) (by first | assumption | omega) (by first | assumption | exact rfl) (by first | assumption | exact rfl) (by omega) (by omega) (by omega) (by omega) (by omega) (by omega) (by omega) (by omega) (by (try simp (disch := omega) only [sr_s, sr_a, sr_sr, u1_u1]); exact rfl) ?_ | refine k_if (by (try simp (disch := omega) only [w32_id]); exact Iff.rfl) (fun c => ?_) (fun c => ?_))
      exact e_den hG (cQ.refl h0.2.1)
    · rw [← f 24 (by omega)] at c
      have hnp := X11_isPlace_F h2 ht hp (fun z => c z.1)
      repeat' (with_reducible first | refine k_gf (by first | assumption | omega) (by first | assumption | ((try simp (disch := omega) only [sr_s, sr_a, sr_sr, u1_s, u1_k]); exact rfl)) ?_ | refine k_gr (by first | assumption | omega) (by first | assumption | ((try simp (disch := omega) only [sr_s, sr_a, sr_sr, u1_s, u1_k]); exact rfl)) (by omega) ?_ | refine k_ald (by first | assumption | omega) (by first | assumption | exact rfl) (by omega) (by omega) (by omega) (by first | assumption | ((try simp (disch := omega) only [sr_s, sr_a, sr_sr, u1_s, u1_k]); exact rfl)) ?_ | refine k_eq (hnp) ?_ | refine k_ifT (by first | (simp (disch := omega) only [w32_id]; first | done | omega) | omega) ?_ | refine k_ifF (by first | (simp (disch := omega) only [w32_id]; first | done | omega) | omega) ?_ | refine k_pf (by first | assumption | omega) (by (try simp (disch := omega) only [sr_s, sr_a, sr_sr, u1_u1]); exact rfl) ?_ | refine k_ast (by first | assumption | omega) (by first | assumption | exact rfl) (by omega) (by omega) (by omega) (by (try simp (disch := omega) only [sr_s, sr_a, sr_sr, u1_u1]); exact rfl) ?_ | refine k_irm (by omega) (by omega) (by omega) (by omega) ?_ | refine k_idv (by omega) (by omega) (by omega) (by omega) ?_ | refine k_tk (by first | assumption | omega) ?_ | refine k_rp (by omega) ?_ | refine k_aldR (by first | assumption | omega) (by first | assumption | exact rfl) (by omega) (by omega) (by omega) (by first | assumption | ((try simp (disch := omega) only [sr_s, sr_a, sr_sr, u1_s, u1_k]); exact rfl)) (by omega) ?_ | refine k_astR (by first | assumption | omega) (by first | assumption | exact rfl) (by omega) (by omega) (by omega) (by first | assumption | omega) (by (try simp (disch := omega) only [sr_s, sr_a, sr_sr, u1_u1]); exact rfl) ?_ | refine k_pz (by first | assumption | omega) (by omega) (by (try simp (disch := omega) only [sr_s, sr_a, sr_sr, u1_u1]); exact rfl) ?_ | refine k_alen (by first | assumption | omega) (by first | assumption | exact rfl) ?_ | refine k_cpy (by first | assumption | omega) (by first | assumption | omega) (by first | assumption | exact rfl) (by first | assumption | exact rfl) (by omega) (by omega) (by omega) (by omega) (by omega) (by omega) (by omega) (by omega) (by (try simp (disch := omega) only [sr_s, sr_a, sr_sr, u1_u1]); exact rfl) ?_ | refine k_if (by (try simp (disch := omega) only [w32_id]); exact Iff.rfl) (fun c => ?_) (fun c => ?_))
      exact e_rden hG (rQ.refl h2.2.2.1.2)
end AD
