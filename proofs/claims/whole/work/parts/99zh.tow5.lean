/-! the line of a town, whole -/
section TV
variable {Mc Mr Mc1 Mr1 Ma Mb M : Int → Int → Int} {Gc Gr G : GG} {R e k sp rd wd hi tw mk gs sn i : Int} {f : Int → Int}
theorem clears_ok {a t n : Int} (hG : gAll G) (ka : G.1 a = 1) (la : G.2.1 a = n) (t0 : 0 ≤ t) (tn : 4 * t + 3 < n) (n9 : n ≤ 100) : M_X11_clears (M, G) 124 a t = some (sr M a (u4 (M a) (4 * t) 0 (-2) (-2) (-2)), G) := by
  have k124 := gk_124 hG
  have hst : ∀ (N : Int → Int → Int) (l : Int), 1 ≤ l → l < 4 → M_X11_clears_b8 (N, G) a t l = some (.inl ((sr N a (u1 (N a) (4 * t + l) (-2)), G), l + 1)) := fun N l l0 l1 => by
    unfold M_X11_clears_b8
    rw [if_pos (by rw [w32_id (by omega) (by omega)]; exact l1), b_ast ka (by omega) (by omega) (by omega)]
  have hend : ∀ (N : Int → Int → Int), M_X11_clears_b8 (N, G) a t 4 = some (.inr (N, G)) := fun N => by
    unfold M_X11_clears_b8
    rw [if_neg (by decide)]
  have hF : FU = 999996 + 1 + 1 + 1 + 1 := rfl
  unfold M_X11_clears M_X11_clears_w8 M_X11_clears_p28
  rw [tk_ok k124, b_ast ka (by omega) (by omega) (by omega), hF, wh_ll (hst _ 1 (by omega) (by omega)), wh_ll (hst _ (1 + 1) (by omega) (by omega)), wh_ll (hst _ (1 + 1 + 1) (by omega) (by omega)), wh_rr (hend _), Option.bind_some]
  simp only [sr_s, sr_sr]
  rfl
/-- the class's, the reference's end of a town -/
theorem tw_end {w k2 : Int} {Mc2 Mr2 : Int → Int → Int} (hL2 : LK Gc Gr R e sp rd f Mc2 Mr2 k2) (hk : k < k2) (hd : LDv sp rd wd hi tw mk gs sn Mc Mr) (w2 : 2 ≤ wd) (t5 : tw ≤ 5) (hC : twC wd mk tw hi (Mc (sp + 2)) (Mr (rd + 1)) (Mc2 (sp + 2)) (Mr2 (rd + 1))) (hca : ∀ a, a ≠ R → a ≠ sp + 2 → a ≠ sp + 5 → Mc2 a = Mc a) (hc5 : Mc2 (sp + 5) = u1 (Mc (sp + 5)) tw w) (hra : ∀ a, a ≠ 124 → a ≠ rd + 1 → Mr2 a = Mr a) (hcR : ∀ j, 2 ≤ j → j < 5 → Mc2 R j = Mc R j) (hr4 : ∀ j, j < 8 ∨ 16 < j → Mr2 124 j = Mr 124 j) : O2 (M_X4_readTown_p146 (Mc2, Gc) R) (M_X11_readTownLine_p196 (Mr2, Gr) 124 w) (LnK Gc Gr R e sp rd f Mc Mr k) := by
  have hG := hL2.hr
  have k124 := gk_124 hG
  have kR := hL2.kR
  have hsp := hL2.1.2.2.2.2
  have hR := hL2.1.1.2.1
  have hrd := hL2.kd.1
  have kd := hL2.kd.2
  have c4 := hL2.c4
  have m4 := hL2.m4
  have h9 := hL2.r9
  have t0 := hd.2.2.1.2.2.2.1
  obtain ⟨g0, gw, -⟩ := hL2.gc
  have gwk := gw.2.1
  obtain ⟨-, -, -, ⟨kr2, lr2⟩, ⟨kr3, lr3⟩, -, -, -, -, -, ⟨kr9, lr9⟩, -⟩ := hL2.1.2.2.2.1
  have p1 : Mc2 sp 1 = sp + 1 := by rw [hca sp (by omega) (by omega) (by omega)]; exact hd.1.1.1
  have n2 : Mc2 (sp + 1) 2 = tw := by rw [hca (sp + 1) (by omega) (by omega) (by omega)]; exact hd.2.2.1.1.2.2.1
  have erd : Mr2 rd = Mr rd := hra rd (by omega) (by omega)
  have n3 : Mr2 rd 3 = tw := by rw [erd]; exact hd.2.2.1.2.1.2.2.2.1
  have r8 : Mr2 rd 8 = rd + 2 := by rw [erd]; exact hd.2.1.2.1
  have r9 : Mr2 rd 9 = rd + 3 := by rw [erd]; exact hd.2.1.2.2.1
  have r15 : Mr2 rd 15 = rd + 9 := by rw [erd]; exact hd.2.1.2.2.2.2.2.2.2.2
  have hdb : LDv sp rd wd hi tw mk gs sn (sr Mc R (Mc2 R)) (sr Mr 124 (Mr2 124)) := hd.t hR hsp hrd ⟨fun a ha => sr_a _ _ ha, fun j j0 j1 => by rw [sr_s]; exact hcR j j0 j1, fun a ha => sr_a _ _ ha, fun j hj => by rw [sr_s]; exact hr4 j hj⟩
  have zk : ∀ a, a ≠ R → sr Mc R (Mc2 R) a = Mc a := fun a ha => sr_a _ _ ha
  have zk2 : ∀ a, a ≠ 124 → sr Mr 124 (Mr2 124) a = Mr a := fun a ha => sr_a _ _ ha
  have hce : M_X4_readTown_p146 (Mc2, Gc) R = some ((sr Mc2 (sp + 1) (u1 (Mc2 (sp + 1)) 2 (tw + 1)), Gc), 1) := by
    unfold M_X4_readTown_p146
    rw [b_gr kR (by omega), c4, b_gr g0 (by omega), p1, b_gf gwk, n2, b_pf gwk]
  have hre : M_X11_readTownLine_p196 (Mr2, Gr) 124 w = some (sr (sr (sr (sr Mr2 (rd + 9) (u1 (Mr2 (rd + 9)) tw w)) (rd + 2) (u1 (Mr2 (rd + 2)) tw (-2))) (rd + 3) (u4 (Mr2 (rd + 3)) (4 * tw) 0 (-2) (-2) (-2))) rd (u1 (Mr2 rd) 3 (tw + 1)), Gr) := by
    apply Ok.eq
    unfold M_X11_readTownLine_p196
    have q1 : ∀ (g : Int → Int), sr Mr2 (rd + 9) g 124 = Mr2 124 := fun g => sr_a _ _ (by omega)
    have q2 : ∀ (g : Int → Int), sr Mr2 (rd + 9) g rd = Mr2 rd := fun g => sr_a _ _ (by omega)
    have q3 : ∀ (g g' : Int → Int), sr (sr Mr2 (rd + 9) g) (rd + 2) g' 124 = Mr2 124 := fun g g' => by rw [sr_a _ _ (by omega), q1]
    have q4 : ∀ (g g' : Int → Int), sr (sr Mr2 (rd + 9) g) (rd + 2) g' rd = Mr2 rd := fun g g' => by rw [sr_a _ _ (by omega), q2]
    have q5 : ∀ (g g' g'' : Int → Int), sr (sr (sr Mr2 (rd + 9) g) (rd + 2) g') (rd + 3) g'' 124 = Mr2 124 := fun g g' g'' => by rw [sr_a _ _ (by omega), q3]
    have q6 : ∀ (g g' g'' : Int → Int), sr (sr (sr Mr2 (rd + 9) g) (rd + 2) g') (rd + 3) g'' rd = Mr2 rd := fun g g' g'' => by rw [sr_a _ _ (by omega), q4]
    refine k_gf k124 rfl ?_
    refine k_ifF (by rw [w32_id (by omega) (by omega)]; omega) ?_
    refine k_gr k124 m4 (by omega) (k_gr kd r15 (by omega) ?_)
    refine k_gr k124 m4 (by omega) (k_gf kd n3 ?_)
    refine k_ast kr9 lr9 (by omega) (by omega) (by omega) rfl ?_
    refine k_gr (v := rd) k124 (by rw [q1]; exact m4) (by omega) (k_gr (v := rd + 2) kd (by rw [q2]; exact r8) (by omega) ?_)
    refine k_gr (v := rd) k124 (by rw [q1]; exact m4) (by omega) (k_gf (v := tw) kd (by rw [q2]; exact n3) ?_)
    refine k_ast kr2 lr2 (by omega) (by omega) (by omega) (by rw [sr_a (a' := rd + 2) _ _ (by omega)]) ?_
    refine k_gr (v := rd) k124 (by rw [q3]; exact m4) (by omega) (k_gr (v := rd + 3) kd (by rw [q4]; exact r9) (by omega) ?_)
    refine k_gr (v := rd) k124 (by rw [q3]; exact m4) (by omega) (k_gf (v := tw) kd (by rw [q4]; exact n3) ?_)
    refine k_eq (clears_ok hG kr3 lr3 (by omega) (by omega) (by omega)) ?_
    rw [sr_a (a' := rd + 3) _ _ (by omega), sr_a (a' := rd + 3) _ _ (by omega)]
    refine k_gr (v := rd) k124 (by rw [q5]; exact m4) (by omega) (k_gf (v := tw) kd (by rw [q6]; exact n3) ?_)
    refine k_pf kd rfl ?_
    rw [q6]
    exact Ok.ret rfl
  rw [hce, hre]
  have x1 : ∀ a, a ≠ sp + 1 → sr Mc2 (sp + 1) (u1 (Mc2 (sp + 1)) 2 (tw + 1)) a = Mc2 a := fun a ha => sr_a _ _ ha
  have x2 : sr Mc2 (sp + 1) (u1 (Mc2 (sp + 1)) 2 (tw + 1)) (sp + 1) = u1 (Mc2 (sp + 1)) 2 (tw + 1) := sr_s _ _ _
  have y1 : ∀ a, a ≠ rd → a ≠ rd + 2 → a ≠ rd + 3 → a ≠ rd + 9 → sr (sr (sr (sr Mr2 (rd + 9) (u1 (Mr2 (rd + 9)) tw w)) (rd + 2) (u1 (Mr2 (rd + 2)) tw (-2))) (rd + 3) (u4 (Mr2 (rd + 3)) (4 * tw) 0 (-2) (-2) (-2))) rd (u1 (Mr2 rd) 3 (tw + 1)) a = Mr2 a := fun a a1 a2 a3 a4 => by rw [sr_a _ _ a1, sr_a _ _ a3, sr_a _ _ a2, sr_a _ _ a4]
  have y2 : sr (sr (sr (sr Mr2 (rd + 9) (u1 (Mr2 (rd + 9)) tw w)) (rd + 2) (u1 (Mr2 (rd + 2)) tw (-2))) (rd + 3) (u4 (Mr2 (rd + 3)) (4 * tw) 0 (-2) (-2) (-2))) rd (u1 (Mr2 rd) 3 (tw + 1)) rd = u1 (Mr rd) 3 (tw + 1) := by rw [sr_s, erd]
  have y3 : sr (sr (sr (sr Mr2 (rd + 9) (u1 (Mr2 (rd + 9)) tw w)) (rd + 2) (u1 (Mr2 (rd + 2)) tw (-2))) (rd + 3) (u4 (Mr2 (rd + 3)) (4 * tw) 0 (-2) (-2) (-2))) rd (u1 (Mr2 rd) 3 (tw + 1)) (rd + 2) = u1 (Mr (rd + 2)) tw (-2) := by rw [sr_a _ _ (by omega), sr_a _ _ (by omega), sr_s, hra (rd + 2) (by omega) (by omega)]
  have y4 : sr (sr (sr (sr Mr2 (rd + 9) (u1 (Mr2 (rd + 9)) tw w)) (rd + 2) (u1 (Mr2 (rd + 2)) tw (-2))) (rd + 3) (u4 (Mr2 (rd + 3)) (4 * tw) 0 (-2) (-2) (-2))) rd (u1 (Mr2 rd) 3 (tw + 1)) (rd + 3) = u4 (Mr (rd + 3)) (4 * tw) 0 (-2) (-2) (-2) := by rw [sr_a _ _ (by omega), sr_s, hra (rd + 3) (by omega) (by omega)]
  have y9 : sr (sr (sr (sr Mr2 (rd + 9) (u1 (Mr2 (rd + 9)) tw w)) (rd + 2) (u1 (Mr2 (rd + 2)) tw (-2))) (rd + 3) (u4 (Mr2 (rd + 3)) (4 * tw) 0 (-2) (-2) (-2))) rd (u1 (Mr2 rd) 3 (tw + 1)) (rd + 9) = u1 (Mr (rd + 9)) tw w := by rw [sr_a _ _ (by omega), sr_a _ _ (by omega), sr_a _ _ (by omega), sr_s, hra (rd + 9) (by omega) (by omega)]
  generalize sr Mc2 (sp + 1) (u1 (Mc2 (sp + 1)) 2 (tw + 1)) = Mp at *
  generalize sr (sr (sr (sr Mr2 (rd + 9) (u1 (Mr2 (rd + 9)) tw w)) (rd + 2) (u1 (Mr2 (rd + 2)) tw (-2))) (rd + 3) (u4 (Mr2 (rd + 3)) (4 * tw) 0 (-2) (-2) (-2))) rd (u1 (Mr2 rd) 3 (tw + 1)) = Mq at *
  clear hce hre
  have hdc : LDv sp rd wd hi (tw + 1) mk gs sn Mp Mq := by
    refine ld_town (w := w) hsp hrd hdb w2 t5 ?_ (fun a a1 a2 a5 => ?_) ?_ ?_ (fun a a1 a2 a3 a4 a5 => ?_) ?_ ?_ ?_ ?_
    · rw [zk _ (by omega), zk2 _ (by omega), x1 _ (by omega), y1 _ (by omega) (by omega) (by omega) (by omega)]; exact hC
    · rw [x1 a a1]
      by_cases z : a = R
      · rw [z, sr_s]
      · rw [zk _ z]; exact hca a z a2 a5
    · rw [x2, zk _ (by omega), hca _ (by omega) (by omega) (by omega)]
    · rw [x1 _ (by omega), zk _ (by omega)]; exact hc5
    · rw [y1 a a1 a3 a4 a5]
      by_cases z : a = 124
      · rw [z, sr_s]
      · rw [zk2 _ z]; exact hra a z a2
    · rw [y2, zk2 _ (by omega)]
    · rw [y3, zk2 _ (by omega)]
    · rw [y4, zk2 _ (by omega)]
    · rw [y9, zk2 _ (by omega)]
  refine O2.ret (LnK.ok (k1 := k2) ⟨fun a a1 a2 => ?_, fun a a1 a2 => ?_, fun j hj => ?_, fun j j0 j1 => ?_⟩ hk (hL2.dt (x1 R (by omega)) (x1 1 (by omega)) (y1 124 (by omega) (by omega) (by omega) (by omega)) (y1 125 (by omega) (by omega) (by omega) (by omega))) hdc)
  · rw [x1 a (by omega)]; exact hca a a1 (by omega) (by omega)
  · rw [y1 a (by omega) (by omega) (by omega) (by omega)]; exact hra a a1 (by omega)
  · rw [y1 124 (by omega) (by omega) (by omega) (by omega)]; exact hr4 j hj
  · rw [x1 R (by omega)]; exact hcR j j0 j1
theorem sh_tow (hR : 146 ≤ R) (hs : sp = 2 ∨ sp = 13) (h : shR Mc sp ∧ shW Mc (sp + 1)) (c1 : ∀ a, a ≠ R → a ≠ sp + 2 → a ≠ sp + 5 → Mc1 a = Mc a) (c3 : zO 216 (Mc1 (sp + 2))) : shR Mc1 sp ∧ shW Mc1 (sp + 1) := by
  obtain ⟨h1, m, -, z2, z3⟩ := h
  refine ⟨?_, ?_, ?_, ?_, ?_⟩
  · unfold shR at *
    rw [c1 sp (by omega) (by omega) (by omega), c1 (sp + 6) (by omega) (by omega) (by omega)]
    exact h1
  · unfold mW at *
    rw [c1 (sp + 1) (by omega) (by omega) (by omega)]
    exact m
  · rw [show sp + 1 + 1 = sp + 2 by omega]; exact c3
  · rw [c1 (sp + 1 + 2) (by omega) (by omega) (by omega)]; exact z2
  · rw [c1 (sp + 1 + 3) (by omega) (by omega) (by omega)]; exact z3
theorem s_townLine (h : LK Gc Gr R e sp rd f Mc Mr k) (hd : LDv sp rd wd hi tw mk gs sn Mc Mr) (w2 : 2 ≤ wd) (t5 : tw ≤ 5) : O2 (M_X4_readTown (Mc, Gc) R) (twT (Mr, Gr)) (LnK Gc Gr R e sp rd f Mc Mr k) := by
  have hG := h.hr
  have k124 := gk_124 hG
  have kR := h.kR
  have hsp := h.1.2.2.2.2
  have hR := h.1.1.2.1
  have hrd := h.kd.1
  have kd := h.kd.2
  have t0 := hd.2.2.1.2.2.2.1
  have hdim : (2 ≤ wd ∧ wd ≤ 6) ∧ (2 ≤ hi ∧ hi ≤ 6) ∧ 2 ≤ mk ∧ mk ≤ 6 := by
    have := hd.2.2.1.2.2.1
    omega
  have n3 : Mr rd 3 = tw := hd.2.2.1.2.1.2.2.2.1
  have hfl : ∀ {Ma Mb : Int → Int → Int}, tS R Mc Mr Ma Mb → LX Gc Gr R e sp rd f Ma Mb → LnK Gc Gr R e sp rd f Mc Mr k ((Ma, Gc), 0) (Mb, Gr) := fun {Ma Mb} ht hF => LnK.no ht.fs (sh_t hR hsp hd.1 ht.1) hF
  have hcn := cName_ok h
  have hrn := rName_ok h
  have c9 := h.2.1.2.2.2.2
  rw [h.1.2.2.1] at c9
  rcases nmQ_b (f := f) (e := e) (k := k) with y | ⟨y, y1⟩
  · have hF := h.fl (n := 1) (by omega) (by omega)
    have e1 : flR Mr 1 rd = Mr rd := hF.2.2.2.1 rd (by omega)
    refine ⟨((flC Mc R 1, Gc), 0), ?_, (flR Mr 1, Gr), ?_, hfl hF.2 hF.1⟩
    · unfold M_X4_readTown
      rw [tk_ok kR, hcn, y, Option.bind_some, if_pos (by decide), fail_z kR]
    · unfold twT
      rw [hrn, y, Option.bind_some, if_pos (by decide), X11_flaw_ok hG h.r9, Option.bind_some]
      exact tw_p25_o (tw := tw) (wd := wd) (hi := hi) hF.1 (by rw [e1]; exact hd.2.1) (by rw [e1]; exact n3) t0 (by omega) (by rw [e1]; exact hd.sr.1) (by rw [e1]; exact hd.sr.2.1) (by omega) (by omega) (by omega) (by omega)
  · have r16 := (h.2.2.1.2.2.2.2.2.2 y1).2
    obtain ⟨q1, q2, q3, q4, q5, -, -, q8⟩ := hd.nm
    obtain ⟨v, hv, hv2⟩ := X5_town_ok (w := tW f e k) h.gc (by omega) q1 q2 q3 t0 (by omega)
    obtain ⟨v', hv', hv2'⟩ := X10_find_ok (w := tW f e k) h.1.2.2.2.1 q4 q5 t0 (by omega)
    have hvv := fnP_unq q8 hv2 hv2'
    rw [hvv] at hv'
    have hvb : -1 ≤ v ∧ v < 6 := by
      rcases hv2 with ⟨a, b, -, -⟩ | ⟨a, -⟩ <;> omega
    have hr0 : twT (Mr, Gr) = if w32 v = -1 then M_X11_readTownLine_p45 (Mr, Gr) 124 else M_X11_readTownLine_p45 (flR Mr 3, Gr) 124 := by
      unfold twT M_X11_readTownLine_p25
      rw [hrn, y, Option.bind_some, if_neg (by decide), b_gr k124 (by rw [h.m4]; omega), h.m4, b_gf k124, r16, hv', Option.bind_some, X11_flaw_ok hG h.r9, Option.bind_some]
    have hc0 : M_X4_readTown (Mc, Gc) R = if w32 v = -1 then (gr 14 (Mc, Gc) R 4).bind fun x21 => (gr 15 (Mc, Gc) x21 1).bind fun x22 => (gf 18 (Mc, Gc) x22 2).bind fun x23 => (gr 14 (Mc, Gc) R 4).bind fun x24 => (gr 15 (Mc, Gc) x24 2).bind fun x25 => (gf 14 (Mc, Gc) R 9).bind fun x26 => (ast 2 (Mc, Gc) x25 x23 x26).bind fun h => (M_X4_take h R).bind fun h => M_X4_readTown_w64 FU h R x23 0 else some ((flC Mc R 3, Gc), 0) := by
      unfold M_X4_readTown
      rw [tk_ok kR, hcn, y, Option.bind_some, if_neg (by decide), b_gr kR (by rw [h.c4]; omega), h.c4, b_gf kR, c9 y1, hv, Option.bind_some, fail_z kR]
    rw [hr0, hc0, w32_id (x := v) (by omega) (by omega)]
    clear hr0 hc0
    by_cases z : v = -1
    · rw [if_pos z, if_pos z]
      obtain ⟨g0, gw, ⟨k5, l5⟩, -⟩ := h.gc
      have gwk := gw.2.1
      rw [b_gr kR (by rw [h.c4]; omega), h.c4, b_gr g0 (by omega), q1, b_gf gwk, q3, b_gr kR (by rw [h.c4]; omega), h.c4, b_gr g0 (by omega), q2, b_gf kR, c9 y1, b_ast k5 (by omega) (by omega) (by omega)]
      have e1 : ∀ a, a ≠ sp + 5 → sr Mc (sp + 5) (u1 (Mc (sp + 5)) tw (tW f e k)) a = Mc a := fun a ha => sr_a _ _ ha
      have e5 : sr Mc (sp + 5) (u1 (Mc (sp + 5)) tw (tW f e k)) (sp + 5) = u1 (Mc (sp + 5)) tw (tW f e k) := sr_s _ _ _
      generalize sr Mc (sp + 5) (u1 (Mc (sp + 5)) tw (tW f e k)) = Mn at *
      have hLn : LK Gc Gr R e sp rd f Mn Mr k := h.dt (e1 R (by omega)) (e1 1 (by omega)) rfl rfl
      obtain ⟨a, ha, b, hb, Mc1, Mr1, rfl, rfl, ht, hL1⟩ := s_take hLn (by omega)
      have hadv := h.adv y1
      unfold M_X11_readTownLine_p45
      rw [b_gf k124, r16, ha, hb, Option.bind_some, Option.bind_some]
      unfold M_X4_readTown_w64 M_X11_readTownLine_w56
      have f0 : ∀ a, a ≠ R → a ≠ sp + 5 → Mc1 a = Mc a := fun a a1 a2 => (ht.1 a a1).trans (e1 a a2)
      have f1 : Mc1 sp = Mc sp := f0 _ (by omega) (by omega)
      have f2 : Mc1 (sp + 1) = Mc (sp + 1) := f0 _ (by omega) (by omega)
      have f3 : Mc1 (sp + 2) = Mc (sp + 2) := f0 _ (by omega) (by omega)
      have f5 : Mc1 (sp + 5) = u1 (Mc (sp + 5)) tw (tW f e k) := (ht.1 _ (by omega)).trans e5
      have f6 : Mr1 rd = Mr rd := ht.2.2.1 _ (by omega)
      have f7 : Mr1 (rd + 1) = Mr (rd + 1) := ht.2.2.1 _ (by omega)
      have hz0 : zO 216 (Mc (sp + 2)) := by have := hd.1.2.2.1; rw [show sp + 1 + 1 = sp + 2 by omega] at this; exact this
      have hp3 : Mc (sp + 1) 3 = sp + 2 := by rw [hd.1.2.1.1]; omega
      refine O2.bind (s_rows (wd := wd) (hi := hi) (mk := mk) (l1 := tW f e k) hL1 (by have := hd.sc; unfold szC at *; rw [f1, f2]; exact this) (by have := hd.sr; unfold szR at *; rw [f6]; exact this) (by rw [f2]; exact hp3) (by rw [f6]; exact hd.2.1.1) (by rw [f6]; exact n3) hdim t0 t5 (by rw [f3]; exact hz0) (by rw [f7]; exact hd.2.2.2.2.1.2.2.2.2.2)) ?_
      rintro _ _ ⟨Mc2, Mr2, hf2, ⟨rfl, rfl, hC, k2, hk2, hL2⟩ | ⟨rfl, rfl, hz2, hX⟩⟩
      · rw [exi_l, exi_l]
        rw [f3, f7] at hC
        exact tw_end hL2 (by omega) hd w2 t5 hC (fun a a1 a2 a5 => (hf2.1 a a1 a2).trans (f0 a a1 a5)) ((hf2.1 _ (by omega) (by omega)).trans f5) (fun a a1 a2 => (hf2.2.2.1 a a1 a2).trans (ht.2.2.1 a a1)) (fun j j0 j1 => (hf2.2.1 j j0 j1).trans ((ht.2.1 j j0 j1).trans (by rw [e1 R (by omega)]))) (fun j hj => (hf2.2.2.2 j hj).trans (ht.2.2.2 j hj))
      · rw [exi_r, exi_r]
        have hca : ∀ a, a ≠ R → a ≠ sp + 2 → a ≠ sp + 5 → Mc2 a = Mc a := fun a a1 a2 a5 => (hf2.1 a a1 a2).trans (f0 a a1 a5)
        exact O2.ret (LnK.no ⟨fun a a1 a2 => hca a a1 (by omega) (by omega), fun a a1 a2 => (hf2.2.2.1 a a1 (by omega)).trans (ht.2.2.1 a a1), fun j hj => (hf2.2.2.2 j hj).trans (ht.2.2.2 j hj), fun j j0 j1 => (hf2.2.1 j j0 j1).trans ((ht.2.1 j j0 j1).trans (by rw [e1 R (by omega)]))⟩ (sh_tow hR hsp hd.1 hca hz2) hX)
    · rw [if_neg z, if_neg z]
      have hF := h.fl (n := 3) (by omega) (by omega)
      have e1 : flR Mr 3 rd = Mr rd := hF.2.2.2.1 rd (by omega)
      exact ⟨_, rfl, _, tw_p45_o (wd := wd) (hi := hi) hF.1 (by rw [e1]; exact hd.sr.1) (by rw [e1]; exact hd.sr.2.1) (by omega) (by omega) (by omega) (by omega), hfl hF.2 hF.1⟩
end TV
