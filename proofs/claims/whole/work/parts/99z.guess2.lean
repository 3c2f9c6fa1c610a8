/-! the line of a guess -/
theorem erS_1 {f : Int → Int} {e k : Int} (h : erS f e k ≠ -1) : tK f e k = 1 := by
  by_cases y : tK f e k = 1
  · exact y
  · have hz : ∀ i, wQ f e k i = 0 := fun i => if_neg (fun z => y z.1)
    exfalso
    apply h
    unfold erS
    simp only [hz, if_true]
section GT
variable {Mc Mr Mc1 Mr1 : Int → Int → Int} {Gc Gr : GG} {R e k sp rd wd hi tw mk gs sn : Int} {f : Int → Int}
def gs2 (h : Hp) : Option Hp := (gf 21 h 124 9).bind fun x8 => if w32 x8 = 5 then some h else (gr 21 h 124 4).bind fun x9 => (gf 20 h x9 4).bind fun x10 => (pf 20 h x9 4 (x10 + 1)).bind fun h => some h
theorem gs2_o (h : LX Gc Gr R e sp rd f Mc Mr) : gs2 (Mr, Gr) = some (Mr, Gr) := by
  have hG := h.hr
  have k124 := gk_124 hG
  unfold gs2
  rw [b_gf k124, h.2.1, if_pos (by decide)]
theorem gsT_r (h : LK Gc Gr R e sp rd f Mc Mr k) (hd : LDv sp rd wd hi tw mk gs sn Mc Mr) : gsT (Mr, Gr) = (M_X11_readError (Mr, Gr) 124 (rd + 4) gs 1).bind gs2 := by
  have hG := h.hr
  have k124 := gk_124 hG
  have hkd := h.kd
  have m4 := h.m4
  have h9 := h.r9
  have p10 : Mr rd 10 = rd + 4 := hd.2.1.2.2.2.1
  have n4 := hd.2.2.1.2.1.2.2.2.2.1
  unfold gsT
  rw [b_gf k124, if_neg (by rw [w32_id (by omega) (by omega)]; omega), b_gr k124 (by omega), m4, b_gr hkd.2 (by omega), p10, b_gr k124 (by omega), m4, b_gf hkd.2, n4]
  rfl
theorem s_guess (h : LK Gc Gr R e sp rd f Mc Mr k) (hd : LDv sp rd wd hi tw mk gs sn Mc Mr) (w2 : 2 ≤ wd) (g4 : gs < 5) : O2 (M_X4_readGuess (Mc, Gc) R) (gsT (Mr, Gr)) (LnK Gc Gr R e sp rd f Mc Mr k) := by
  have hG := h.hr
  have k124 := gk_124 hG
  have kR := h.kR
  have hsp := h.1.2.2.2.2
  have hR := h.1.1.2.1
  have hrd := h.kd.1
  have kd := h.kd.2
  have ke := h.2.2.2.2.1
  obtain ⟨g0, -, -, ⟨g6, l6⟩, -⟩ := h.gc
  obtain ⟨-, -, -, -, -, ⟨kr4, lr4⟩, -⟩ := h.1.2.2.2.1
  have hdim : (2 ≤ wd ∧ wd ≤ 6) ∧ (2 ≤ hi ∧ hi ≤ 6) ∧ 2 ≤ mk ∧ mk ≤ 6 := by
    have := hd.2.2.1.2.2.1
    omega
  have hgs := hd.2.2.1.2.2.2.2.2.1
  have q4 := h.c4
  have p3 : Mc sp 3 = sp + 6 := hd.1.1.2.2.1
  have n4 : Mc sp 4 = gs := hd.2.2.1.1.2.2.2.2.1
  have hs := erS_b (f := f) (e := e) (k := k)
  have hce := cErr_ok h
  have hre := rErr_ok h
  rw [gsT_r h hd]
  have hbad : (erS f e k = -1 ∨ 8 < erS f e k) → (M_X11_readError (Mr, Gr) 124 (rd + 4) gs 1).bind gs2 = some (flR Mr 1, Gr) := by
    intro y
    have hF := h.fl (n := 1) (by omega) (by omega)
    unfold M_X11_readError M_X11_readError_p23
    rw [tk_ok k124, hre, Option.bind_some, X11_flaw_ok hG h.r9, Option.bind_some, p28_o hF.1, w32_id (x := erS f e k) (by omega) (by omega)]
    by_cases z : erS f e k = -1
    · rw [if_pos z]
      exact gs2_o hF.1
    · rw [if_neg z, if_neg (by decide), if_pos (by omega)]
      exact gs2_o hF.1
  by_cases y : erS f e k = -1 ∨ 8 < erS f e k
  · have hF := h.fl (n := 1) (by omega) (by omega)
    refine ⟨((flC Mc R 1, Gc), 0), ?_, _, hbad y, LnK.no hF.2.fs (sh_t hR hsp hd.1 hF.2.1) hF.1⟩
    unfold M_X4_readGuess
    rw [tk_ok kR, hce, Option.bind_some]
    by_cases z : erS f e k = 10
    · rw [if_pos (by rw [z]; decide), fail_z kR]
    · rw [if_neg (by rw [w32_id (by omega) (by omega)]; exact z)]
      by_cases z2 : erS f e k = 9
      · rw [if_pos (by rw [z2]; decide), fail_z kR]
      · have z3 : erS f e k = -1 := by omega
        rw [if_neg (by rw [w32_id (by omega) (by omega)]; exact z2), b_gr kR (by omega), q4, b_gr g0 (by omega), p3, b_gr kR (by omega), q4, b_gf g0, n4, z3]
        have hre : M_X4_readError (Mc, Gc) R (-1) (sp + 6) (4 * gs) = some ((flC Mc R 1, Gc), 0) := by
          unfold M_X4_readError
          rw [tk_ok kR, if_pos (by decide), fail_z kR]
        rw [hre]
        rfl
  · have y1 := erS_1 (f := f) (e := e) (k := k) (by omega)
    generalize erS f e k = s at *
    have hct : M_X4_readGuess (Mc, Gc) R = bd (M_X4_readError (Mc, Gc) R s (sp + 6) (4 * gs)) fun h x8 => if w32 x8 = 0 then some (h, 0) else (gr 14 h R 4).bind fun x9 => (gf 15 h x9 4).bind fun x10 => (pf 15 h x9 4 (x10 + 1)).bind fun h => some (h, 1) := by
      unfold M_X4_readGuess
      rw [tk_ok kR, hce, Option.bind_some, if_neg (by rw [w32_id (by omega) (by omega)]; omega), if_neg (by rw [w32_id (by omega) (by omega)]; omega), b_gr kR (by omega), q4, b_gr g0 (by omega), p3, b_gr kR (by omega), q4, b_gf g0, n4]
    have hrt : M_X11_readError (Mr, Gr) 124 (rd + 4) gs 1 = (M_X11_goesOn (Mr, Gr) 124).bind (er51 (rd + 4) gs s) := by
      unfold M_X11_readError M_X11_readError_p28
      rw [tk_ok k124, hre, Option.bind_some, w32_id (x := s) (by omega) (by omega), if_neg (by omega), if_neg (by decide), if_neg (by omega), if_neg (by omega), er51_eq]
    obtain ⟨a, ha, b, hb, Mc1, Mr1, rfl, rfl, ht1, hL1⟩ := s_take h (by omega)
    have hk1 : k < tB f e k := by
      have hp := tkB (f := f) ke
      have hq := tkA (f := f) ke
      have := hp.2.2 (by omega)
      omega
    have hd1 := hd.t hR hsp hrd ht1
    have hNa : ∀ a, a ≠ sp + 6 → sr Mc1 (sp + 6) (u1 (Mc1 (sp + 6)) (4 * gs) s) a = Mc1 a := fun a ha => sr_a _ _ ha
    have hN6 : sr Mc1 (sp + 6) (u1 (Mc1 (sp + 6)) (4 * gs) s) (sp + 6) = u1 (Mc1 (sp + 6)) (4 * gs) s := sr_s _ _ _
    rw [hct, erC_eq h (by omega) (by omega), ha, Option.bind_some, b_ast g6 (by omega) (by rw [l6]; omega) (by omega), hrt, hb, Option.bind_some]
    generalize sr Mc1 (sp + 6) (u1 (Mc1 (sp + 6)) (4 * gs) s) = Mn at *
    have hLn : LK Gc Gr R e sp rd f Mn Mr1 (tB f e k) := hL1.dt (hNa R (by omega)) (hNa 1 (by omega)) rfl rfl
    have hzC : szC sp wd hi mk Mn := by
      have := hd1.sc
      unfold szC at *
      rw [hNa sp (by omega), hNa (sp + 1) (by omega)]
      exact this
    have hm2 := hd1.2.2.2.2.2.2.1.2.2.2
    have f1 : Mn (sp + 6) (4 * gs + 1) = -2 := by rw [hN6, u1_k _ _ (by omega)]; exact hm2 _ (by omega) (by omega)
    have f2 : Mn (sp + 6) (4 * gs + 2) = -2 := by rw [hN6, u1_k _ _ (by omega)]; exact hm2 _ (by omega) (by omega)
    have f3 : Mn (sp + 6) (4 * gs + 3) = -2 := by rw [hN6, u1_k _ _ (by omega)]; exact hm2 _ (by omega) (by omega)
    obtain ⟨Mc2, Mr2, hE, hcase⟩ := s_err (s := s) (rr := rd + 4) (t := gs) (ro := sp + 6) (o := 4 * gs) (n := 20) hLn hzC hd1.sr hdim (by omega) (by omega) (Or.inr rfl) g6 l6 (by omega) (by omega) (by omega) f1 f2 f3 (by omega) (by omega)
    have hca : ∀ a, a ≠ R → a ≠ sp + 6 → Mc2 a = Mc a := fun a a1 a2 => (hE.1 a a1 a2).trans ((hNa a a2).trans (ht1.1 a a1))
    have hra : ∀ a, a ≠ 124 → Mr2 a = Mr a := fun a a1 => (hE.2.2.2.1 a a1).trans (ht1.2.2.1 a a1)
    have hcR : ∀ j, 2 ≤ j → j < 5 → Mc2 R j = Mc R j := fun j j0 j1 => (hE.2.2.1 j j0 j1).trans (by rw [hNa R (by omega)]; exact ht1.2.1 j j0 j1)
    have hr4 : ∀ j, j < 8 ∨ 16 < j → Mr2 124 j = Mr 124 j := fun j hj => (hE.2.2.2.2 j hj).trans (ht1.2.2.2 j hj)
    rcases hcase with ⟨v1, v2, v3, k2, hc, hr, hk2, hL2, hb2, w1, w2', w3⟩ | ⟨hc, hr, hF⟩
    · rw [hc, hr, p244_ok hL2 kr4 lr4 (by omega) (by omega) (by omega) (by omega) (by omega)]
      have hdb : LDv sp rd wd hi tw mk gs sn (sr Mc R (Mc2 R)) (sr Mr 124 (Mr2 124)) := hd.t hR hsp hrd ⟨fun a ha => sr_a _ _ ha, fun j j0 j1 => by rw [sr_s]; exact hcR j j0 j1, fun a ha => sr_a _ _ ha, fun j hj => by rw [sr_s]; exact hr4 j hj⟩
      have q42 := hL2.c4
      have n42 : Mc2 sp 4 = gs := by rw [hca sp (by omega) (by omega)]; exact n4
      have m42 := hL2.m4
      have r42 : Mr2 rd 4 = gs := by rw [hra rd (by omega)]; exact hd.2.2.1.2.1.2.2.2.2.1
      have h92 := hL2.r9
      have hx6 : Mc2 (sp + 6) = u4 (Mc (sp + 6)) (4 * gs) s v1 v2 v3 := by
        funext j
        have hj : j = 4 * gs ∨ j = 4 * gs + 1 ∨ j = 4 * gs + 2 ∨ j = 4 * gs + 3 ∨ (j < 4 * gs ∨ 4 * gs + 3 < j) := by omega
        rcases hj with rfl | rfl | rfl | rfl | z
        · rw [u4_0, hE.2.1 _ (by omega), hN6, u1_s]
        · rw [u4_1]; exact w1
        · rw [u4_2]; exact w2'
        · rw [u4_3]; exact w3
        · rw [u4_k z, hE.2.1 j (by omega), hN6, u1_k _ _ (by omega), ht1.1 (sp + 6) (by omega)]
      refine ⟨((sr Mc2 sp (u1 (Mc2 sp) 4 (gs + 1)), Gc), 1), ?_, (sr (sr Mr2 (rd + 4) (u4 (Mr2 (rd + 4)) (4 * gs) s v1 v2 v3)) rd (u1 (Mr2 rd) 4 (gs + 1)), Gr), ?_, LnK.ok (k1 := k2) ⟨fun a a1 a2 => ?_, fun a a1 a2 => ?_, fun j hj => ?_, fun j j0 j1 => ?_⟩ (by omega) (hL2.dt ?_ ?_ ?_ ?_) (ld_guess (s := s) (v1 := v1) (v2 := v2) (v3 := v3) hsp hrd hdb w2 g4 (by omega) hb2 (fun a a1 a2 => ?_) (fun j hj => ?_) ?_ ?_ (fun a a1 a2 => ?_) (fun j hj => ?_) ?_ ?_)⟩
      · show (if w32 1 = 0 then some ((Mc2, Gc), (0 : Int)) else (gr 14 (Mc2, Gc) R 4).bind fun x9 => (gf 15 (Mc2, Gc) x9 4).bind fun x10 => (pf 15 (Mc2, Gc) x9 4 (x10 + 1)).bind fun h => some (h, 1)) = _
        rw [if_neg (by decide), b_gr kR (by omega), q42, b_gf g0, n42, b_pf g0]
      · apply Ok.eq
        show Ok (gs2 (sr Mr2 (rd + 4) (u4 (Mr2 (rd + 4)) (4 * gs) s v1 v2 v3), Gr)) _
        unfold gs2
        have x1 : sr Mr2 (rd + 4) (u4 (Mr2 (rd + 4)) (4 * gs) s v1 v2 v3) 124 = Mr2 124 := sr_a _ _ (by omega)
        have x2 : sr Mr2 (rd + 4) (u4 (Mr2 (rd + 4)) (4 * gs) s v1 v2 v3) rd = Mr2 rd := sr_a _ _ (by omega)
        have x3 : sr Mr2 (rd + 4) (u4 (Mr2 (rd + 4)) (4 * gs) s v1 v2 v3) 124 9 = Mr2 124 9 := by rw [x1]
        have x4 : sr Mr2 (rd + 4) (u4 (Mr2 (rd + 4)) (4 * gs) s v1 v2 v3) 124 4 = rd := by rw [x1]; exact m42
        have x5 : sr Mr2 (rd + 4) (u4 (Mr2 (rd + 4)) (4 * gs) s v1 v2 v3) rd 4 = gs := by rw [x2]; exact r42
        refine k_gf k124 x3 ?_
        refine k_ifF (by rw [w32_id (by omega) (by omega)]; omega) ?_
        refine k_gr k124 x4 (by omega) ?_
        refine k_gf kd x5 ?_
        refine k_pf kd rfl ?_
        rw [x2]
        exact Ok.ret rfl
      · rw [sr_a _ _ (by omega)]; exact hca a a1 (by omega)
      · rw [sr_a _ _ (by omega), sr_a _ _ (by omega)]; exact hra a a1
      · rw [sr_a _ _ (by omega), sr_a _ _ (by omega)]; exact hr4 j hj
      · rw [sr_a _ _ (by omega)]; exact hcR j j0 j1
      · exact sr_a _ _ (by omega)
      · exact sr_a _ _ (by omega)
      · rw [sr_a _ _ (by omega), sr_a _ _ (by omega)]
      · rw [sr_a _ _ (by omega), sr_a _ _ (by omega)]
      · rw [sr_a _ _ a1]
        by_cases z : a = R
        · rw [z, sr_s]
        · rw [sr_a _ _ z]; exact hca a z a2
      · rw [sr_s, u1_k _ _ hj, sr_a _ _ (by omega), hca sp (by omega) (by omega)]
      · rw [sr_s, u1_s]
      · rw [sr_a _ _ (by omega), sr_a _ _ (by omega)]; exact hx6
      · rw [sr_a _ _ a1, sr_a _ _ a2]
        by_cases z : a = 124
        · rw [z, sr_s]
        · rw [sr_a _ _ z]; exact hra a z
      · rw [sr_s, u1_k _ _ hj, sr_a _ _ (by omega), hra rd (by omega)]
      · rw [sr_s, u1_s]
      · rw [sr_a _ _ (by omega), sr_s, sr_a _ _ (by omega), hra (rd + 4) (by omega)]
    · rw [hc, hr]
      refine ⟨((Mc2, Gc), 0), ?_, (Mr2, Gr), gs2_o hF, LnK.no ⟨fun a a1 a2 => hca a a1 (by omega), fun a a1 _ => hra a a1, hr4, hcR⟩ ⟨?_, ?_⟩ hF⟩
      · show (if w32 0 = 0 then some ((Mc2, Gc), (0 : Int)) else (gr 14 (Mc2, Gc) R 4).bind fun x9 => (gf 15 (Mc2, Gc) x9 4).bind fun x10 => (pf 15 (Mc2, Gc) x9 4 (x10 + 1)).bind fun h => some (h, 1)) = _
        rw [if_pos (by decide)]
      · obtain ⟨q1, q2, q3, q5, q6, q7, q8, qz⟩ := hd.1.1
        have es := hca sp (by omega) (by omega)
        refine ⟨by rw [es]; exact q1, by rw [es]; exact q2, by rw [es]; exact q3, by rw [es]; exact q5, by rw [es]; exact q6, by rw [es]; exact q7, by rw [es]; exact q8, fun j hj => ?_⟩
        rw [hE.2.1 j (by omega), hN6, u1_k _ _ (by omega), ht1.1 (sp + 6) (by omega)]
        exact qz j hj
      · have := hd.1.2
        unfold shW mW zoW at *
        rw [hca (sp + 1) (by omega) (by omega), hca (sp + 1 + 1) (by omega) (by omega), hca (sp + 1 + 2) (by omega) (by omega), hca (sp + 1 + 3) (by omega) (by omega)]
        exact this
end GT
