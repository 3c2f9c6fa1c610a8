/-! the line of copies -/
section CQ
variable {Mc Mr Mc1 Mr1 : Int → Int → Int} {Gc Gr : GG} {R e k sp rd wd hi tw mk gs sn : Int} {f : Int → Int}
theorem LK.adv (h : LK Gc Gr R e sp rd f Mc Mr k) (y : tK f e k = 1) : k < tB f e k := by
  have hp := tkB (f := f) h.2.2.2.2.1
  have hq := tkA (f := f) h.2.2.2.2.1
  have := hp.2.2 (by omega)
  omega
/-- the class behind 'by' -/
def cqC (R v c : Int) (h : Hp) : Option (Hp × Int) :=
  (gr 14 h R 4).bind fun x13 => (gr 15 h x13 1).bind fun x14 => (gr 18 h x14 4).bind fun x15 => (ast 1 h x15 v c).bind fun h => (M_X4_errorSort h R).bind fun x16 => if w32 x16 = 10 then (gr 14 h R 4).bind fun x17 => (M_X5_unknownCount h x17).bind fun x18 => if w32 x18 < 4 then M_X4_readCopies_p105 h R v x16 else bd (M_X4_fail h R 5) fun h x19 => (zb1 x19 ()).bind fun _ => some (h, x19) else M_X4_readCopies_p105 h R v x16
def cqB (R v : Int) (h : Hp) : Option (Hp × Int) := bd (M_X4_townHere h R) fun h x11 => if w32 x11 = (-1) then some (h, 0) else (M_X4_take h R).bind fun h => bd (M_X4_wordDue h R 8) fun h x12 => if w32 x12 = 0 then some (h, 0) else cqC R v x11 h
theorem cq_p105 {s v : Int} (h : LK Gc Gr R e sp rd f Mc Mr k) (p1 : Mc sp 1 = sp + 1) (m5 : Mc (sp + 1) 5 = sp + 4) : M_X4_readCopies_p105 (Mc, Gc) R v s = bd (M_X4_readError (Mc, Gc) R s (sp + 4) (4 * v)) fun h x4 => (zb1 x4 ()).bind fun _ => some (h, x4) := by
  have hsp := h.1.2.2.2.2
  have q4 := h.c4
  unfold M_X4_readCopies_p105
  rw [b_gr h.kR (by omega), q4, b_gr h.gc.1 (by omega), p1, b_gr h.gc.2.1.2.1 (by omega), m5]
theorem sh_cop (hR : 146 ≤ R) (hs : sp = 2 ∨ sp = 13) (h : shR Mc sp ∧ shW Mc (sp + 1)) (c1 : ∀ a, a ≠ R → a ≠ sp + 3 → a ≠ sp + 4 → Mc1 a = Mc a) (c3 : zO 6 (Mc1 (sp + 3))) (c4 : zO 24 (Mc1 (sp + 4))) : shR Mc1 sp ∧ shW Mc1 (sp + 1) := by
  obtain ⟨h1, m, z1, -, -⟩ := h
  refine ⟨?_, ?_, ?_, ?_, ?_⟩
  · unfold shR at *
    rw [c1 sp (by omega) (by omega) (by omega), c1 (sp + 6) (by omega) (by omega) (by omega)]
    exact h1
  · unfold mW at *
    rw [c1 (sp + 1) (by omega) (by omega) (by omega)]
    exact m
  · rw [c1 (sp + 1 + 1) (by omega) (by omega) (by omega)]; exact z1
  · rw [show sp + 1 + 2 = sp + 3 by omega]; exact c3
  · rw [show sp + 1 + 3 = sp + 4 by omega]; exact c4
theorem cop_end {v c s v1 v2 v3 k2 : Int} {Mc2 Mr2 : Int → Int → Int} (hL2 : LK Gc Gr R e sp rd f Mc2 Mr2 k2) (hk : k < k2) (hd : LDv sp rd wd hi tw mk gs sn Mc Mr) (v0 : 0 ≤ v) (vt : v < tw) (cv : Mc (sp + 3) v < 0) (c0 : 0 ≤ c) (ct : c < tw) (s0 : 0 ≤ s) (s1 : s ≤ 10) (hb2 : errB wd hi mk s v1 v2 v3) (hu : s = 10 → Mr rd 6 ≠ 4) (hca : ∀ a, a ≠ R → a ≠ sp + 3 → a ≠ sp + 4 → Mc2 a = Mc a) (hc3 : Mc2 (sp + 3) = u1 (Mc (sp + 3)) v c) (hx4 : Mc2 (sp + 4) = u4 (Mc (sp + 4)) (4 * v) s v1 v2 v3) (hra : ∀ a, a ≠ 124 → Mr2 a = Mr a) (hcR : ∀ j, 2 ≤ j → j < 5 → Mc2 R j = Mc R j) (hr4 : ∀ j, j < 8 ∨ 16 < j → Mr2 124 j = Mr 124 j) : ∃ b, ((M_X11_readError_p244 (Mr2, Gr) 124 (rd + 3) v s v1 v2 v3).bind fun h => cpD h v c) = some b ∧ LnK Gc Gr R e sp rd f Mc Mr k ((Mc2, Gc), 1) b := by
  have hG := hL2.hr
  have k124 := gk_124 hG
  have hsp := hL2.1.2.2.2.2
  have hR := hL2.1.1.2.1
  have hrd := hL2.kd.1
  have kd := hL2.kd.2
  have t6 := hd.2.2.1.2.2.2.2.1
  obtain ⟨-, -, -, ⟨kr2, lr2⟩, ⟨kr3, lr3⟩, -⟩ := hL2.1.2.2.2.1
  have r8 : Mr rd 8 = rd + 2 := hd.2.1.2.1
  rw [p244_10 hL2 kr3 lr3 (by omega) (by omega) (by omega) (by omega) (by omega) (by omega) (by omega), Option.bind_some]
  have hdb : LDv sp rd wd hi tw mk gs sn (sr Mc R (Mc2 R)) (sr Mr 124 (Mr2 124)) := hd.t hR hsp hrd ⟨fun a ha => sr_a _ _ ha, fun j j0 j1 => by rw [sr_s]; exact hcR j j0 j1, fun a ha => sr_a _ _ ha, fun j hj => by rw [sr_s]; exact hr4 j hj⟩
  have m42 := hL2.m4
  have h92 := hL2.r9
  have y1' : ∀ a, a ≠ rd → a ≠ rd + 3 → sr (sr Mr2 (rd + 3) (u4 (Mr2 (rd + 3)) (4 * v) s v1 v2 v3)) rd (u1 (Mr2 rd) 6 (Mr2 rd 6 + if s = 10 then 1 else 0)) a = Mr2 a := fun a a1 a2 => by rw [sr_a _ _ a1, sr_a _ _ a2]
  have y3' : sr (sr Mr2 (rd + 3) (u4 (Mr2 (rd + 3)) (4 * v) s v1 v2 v3)) rd (u1 (Mr2 rd) 6 (Mr2 rd 6 + if s = 10 then 1 else 0)) (rd + 3) = u4 (Mr (rd + 3)) (4 * v) s v1 v2 v3 := by rw [sr_a _ _ (by omega), sr_s, hra (rd + 3) (by omega)]
  have y0' : sr (sr Mr2 (rd + 3) (u4 (Mr2 (rd + 3)) (4 * v) s v1 v2 v3)) rd (u1 (Mr2 rd) 6 (Mr2 rd 6 + if s = 10 then 1 else 0)) rd = u1 (Mr rd) 6 (Mr rd 6 + if s = 10 then 1 else 0) := by rw [sr_s, hra rd (by omega)]
  generalize sr (sr Mr2 (rd + 3) (u4 (Mr2 (rd + 3)) (4 * v) s v1 v2 v3)) rd (u1 (Mr2 rd) 6 (Mr2 rd 6 + if s = 10 then 1 else 0)) = Mq at *
  have z2 : Mq (rd + 2) = Mr (rd + 2) := by rw [y1' _ (by omega) (by omega)]; exact hra _ (by omega)
  have zk : ∀ a, a ≠ R → sr Mc R (Mc2 R) a = Mc a := fun a ha => sr_a _ _ ha
  have zk2 : ∀ a, a ≠ 124 → sr Mr 124 (Mr2 124) a = Mr a := fun a ha => sr_a _ _ ha
  have hdc : LDv sp rd wd hi tw mk gs sn Mc2 (sr Mq (rd + 2) (u1 (Mq (rd + 2)) v c)) := by
    refine ld_copies (v := v) (c := c) (s := s) (v1 := v1) (v2 := v2) (v3 := v3) hsp hrd hdb v0 vt ?_ c0 ct hb2 ?_ (fun a a1 a2 => ?_) ?_ ?_ (fun a a1 a2 a3 => ?_) (fun j hj => ?_) ?_ ?_ ?_
    · rw [zk _ (by omega)]; exact cv
    · rw [zk2 _ (by omega)]; exact hu
    · by_cases z : a = R
      · rw [z, sr_s]
      · rw [zk _ z]; exact hca a z a1 a2
    · rw [zk _ (by omega)]; exact hc3
    · rw [zk _ (by omega)]; exact hx4
    · rw [sr_a _ _ a2, y1' a a1 a3]
      by_cases z : a = 124
      · rw [z, sr_s]
      · rw [zk2 _ z]; exact hra a z
    · rw [sr_a _ _ (by omega), y0', u1_k _ _ hj, zk2 _ (by omega)]
    · rw [sr_a _ _ (by omega), y0', u1_s, zk2 _ (by omega)]
    · rw [sr_s, z2, zk2 _ (by omega)]
    · rw [sr_a _ _ (by omega), y3', zk2 _ (by omega)]
  clear hb2 hu
  refine ⟨(sr Mq (rd + 2) (u1 (Mq (rd + 2)) v c), Gr), ?_, LnK.ok (k1 := k2) ⟨fun a a1 a2 => hca a a1 (by omega) (by omega), fun a a1 a2 => ?_, fun j hj => ?_, hcR⟩ hk (hL2.dt rfl rfl ?_ ?_) hdc⟩
  · unfold cpD
    rw [b_gf k124, y1' 124 (by omega) (by omega), if_neg (by rw [w32_id (by omega) (by omega)]; omega), b_gr k124 (by rw [y1' 124 (by omega) (by omega)]; omega), y1' 124 (by omega) (by omega), m42, b_gr kd (by rw [y0', u1_k _ _ (by omega)]; omega), y0', u1_k _ _ (by omega), r8, b_ast kr2 v0 (by omega) (by omega)]
  · rw [sr_a _ _ (by omega), y1' a (by omega) (by omega)]; exact hra a a1
  · rw [sr_a _ _ (by omega), y1' 124 (by omega) (by omega)]; exact hr4 j hj
  · rw [sr_a _ _ (by omega), y1' 124 (by omega) (by omega)]
  · rw [sr_a _ _ (by omega), y1' 125 (by omega) (by omega)]
/-- the class's, the reference's end of the line: the error -/
theorem s_cop3 {v c : Int} (h : LK Gc Gr R e sp rd f Mc Mr k) (hd : LDv sp rd wd hi tw mk gs sn Mc Mr) (w2 : 2 ≤ wd) (v0 : 0 ≤ v) (vt : v < tw) (cv : Mc (sp + 3) v < 0) (c0 : 0 ≤ c) (ct : c < tw) : O2 (cqC R v c (Mc, Gc)) (cpC (Mr, Gr) v c) (LnK Gc Gr R e sp rd f Mc Mr k) := by
  have hG := h.hr
  have k124 := gk_124 hG
  have kR := h.kR
  have hsp := h.1.2.2.2.2
  have hR := h.1.1.2.1
  have hrd := h.kd.1
  have kd := h.kd.2
  have hgc := h.gc
  obtain ⟨g0, gw, -⟩ := h.gc
  obtain ⟨gw0, gwk, gw1, gl1, gw2, gl2, gw3, gl3⟩ := gw
  have gw2 : Gc.1 (sp + 3) = 1 := by rw [show sp + 3 = sp + 1 + 2 by omega]; exact gw2
  have gl2 : Gc.2.1 (sp + 3) = 6 := by rw [show sp + 3 = sp + 1 + 2 by omega]; exact gl2
  have gw3 : Gc.1 (sp + 4) = 1 := by rw [show sp + 4 = sp + 1 + 3 by omega]; exact gw3
  have gl3 : Gc.2.1 (sp + 4) = 24 := by rw [show sp + 4 = sp + 1 + 3 by omega]; exact gl3
  obtain ⟨-, -, -, ⟨kr2, lr2⟩, ⟨kr3, lr3⟩, -⟩ := h.1.2.2.2.1
  have hdim : (2 ≤ wd ∧ wd ≤ 6) ∧ (2 ≤ hi ∧ hi ≤ 6) ∧ 2 ≤ mk ∧ mk ≤ 6 := by
    have := hd.2.2.1.2.2.1
    omega
  have t6 := hd.2.2.1.2.2.2.2.1
  have q4 := h.c4
  have m4 := h.m4
  have p1 : Mc sp 1 = sp + 1 := hd.1.1.1
  have p4 : Mc (sp + 1) 4 = sp + 3 := by rw [hd.1.2.1.2.1]; omega
  have p5 : Mc (sp + 1) 5 = sp + 4 := by rw [hd.1.2.1.2.2]; omega
  have n2 : Mc (sp + 1) 2 = tw := hd.2.2.1.1.2.2.1
  have r9 : Mr rd 9 = rd + 3 := hd.2.1.2.2.1
  have r8 : Mr rd 8 = rd + 2 := hd.2.1.2.1
  obtain ⟨e1, e2, e3, e4, e5, e6, e7, e8, e9⟩ := hd.2.2.2.2.2.1
  have gv := e6 v v0 (by omega) cv
  clear e1 e2 e3 e5 e6 e7
  have hs := erS_b (f := f) (e := e) (k := k)
  have hre := rErr_ok h
  have hNa : ∀ a, a ≠ sp + 3 → sr Mc (sp + 3) (u1 (Mc (sp + 3)) v c) a = Mc a := fun a ha => sr_a _ _ ha
  have hN3 : sr Mc (sp + 3) (u1 (Mc (sp + 3)) v c) (sp + 3) = u1 (Mc (sp + 3)) v c := sr_s _ _ _
  have hc0 : cqC R v c (Mc, Gc) = (fun h => (M_X4_errorSort h R).bind fun x16 => if w32 x16 = 10 then (gr 14 h R 4).bind fun x17 => (M_X5_unknownCount h x17).bind fun x18 => if w32 x18 < 4 then M_X4_readCopies_p105 h R v x16 else bd (M_X4_fail h R 5) fun h x19 => (zb1 x19 ()).bind fun _ => some (h, x19) else M_X4_readCopies_p105 h R v x16) ((sr Mc (sp + 3) (u1 (Mc (sp + 3)) v c), Gc) : Hp) := by
    unfold cqC
    rw [b_gr kR (by omega), q4, b_gr g0 (by omega), p1, b_gr gwk (by omega), p4, b_ast gw2 v0 (by omega) (by omega)]
  have hr0 : cpC (Mr, Gr) v c = (M_X11_readError (Mr, Gr) 124 (rd + 3) v 0).bind fun h => cpD h v c := by
    unfold cpC
    rw [b_gr k124 (by omega), m4, b_gr kd (by omega), r9]
  rw [hc0, hr0]
  clear hc0 hr0
  generalize sr Mc (sp + 3) (u1 (Mc (sp + 3)) v c) = Ma at *
  have hLa : LK Gc Gr R e sp rd f Ma Mr k := h.dt (hNa R (by omega)) (hNa 1 (by omega)) rfl rfl
  have hsha : shR Ma sp ∧ shW Ma (sp + 1) := by
    refine ⟨?_, ?_⟩
    · have := hd.1.1
      unfold shR at *
      rw [hNa sp (by omega), hNa (sp + 6) (by omega)]
      exact this
    · obtain ⟨m, z1, z2, z3⟩ := hd.1.2
      refine ⟨?_, ?_, ?_, ?_⟩
      · unfold mW at *
        rw [hNa (sp + 1) (by omega)]
        exact m
      · rw [hNa (sp + 1 + 1) (by omega)]; exact z1
      · rw [show sp + 1 + 2 = sp + 3 by omega] at z2 ⊢
        rw [hN3]; exact zO_u1 z2 v0 (by omega)
      · rw [hNa (sp + 1 + 3) (by omega)]; exact z3
  have hce := cErr_ok hLa
  dsimp only
  rw [hce, Option.bind_some]
  have huc : M_X5_unknownCount (Ma, Gc) sp = some (Mr rd 6) := by
    have hfi : fiI Ma Gc sp := ⟨h.1.1.1, hsp, hsha.1, hsha.2, by rw [hNa (sp + 1) (by omega), n2]; omega, by rw [hNa (sp + 1) (by omega), n2]; omega, by rw [hNa (sp + 4) (by omega)]; exact e4, by rw [hNa (sp + 4) (by omega), hNa (sp + 1) (by omega), n2]; exact e9, by rw [hNa sp (by omega)]; have := hd.2.2.1.1.2.2.2.2.1; have := hd.2.2.1.2.2.2.2.2.1; omega, by rw [hNa sp (by omega)]; have := hd.2.2.1.1.2.2.2.2.1; have := hd.2.2.1.2.2.2.2.2.2.1; omega⟩
    rw [X5_unknownCount_ok hfi, hNa (sp + 4) (by omega), hNa (sp + 1) (by omega), n2, e8]
    rfl
  have hp105 := cq_p105 (s := erS f e k) (v := v) hLa (by rw [hNa sp (by omega)]; exact p1) (by rw [hNa (sp + 1) (by omega)]; exact p5)
  have hfsa : ∀ {Mb Md : Int → Int → Int}, tS R Ma Mr Mb Md → fS R sp rd Mc Mr Mb Md := fun {Mb Md} ht => ⟨fun a a1 a2 => (ht.1 a a1).trans (hNa a (by omega)), fun a a1 _ => ht.2.2.1 a a1, ht.2.2.2, fun j j0 j1 => (ht.2.1 j j0 j1).trans (by rw [hNa R (by omega)])⟩
  by_cases y : erS f e k = -1
  · have hF := hLa.fl (n := 1) (by omega) (by omega)
    refine ⟨((flC Ma R 1, Gc), 0), ?_, (flR Mr 1, Gr), ?_, LnK.no (hfsa hF.2) (sh_t hR hsp hsha hF.2.1) hF.1⟩
    · rw [if_neg (by rw [y]; decide), hp105, y]
      have : M_X4_readError (Ma, Gc) R (-1) (sp + 4) (4 * v) = some ((flC Ma R 1, Gc), 0) := by
        unfold M_X4_readError
        rw [tk_ok kR, if_pos (by decide), fail_z kR]
      rw [this]
      show ((zb1 (0 : Int) ()).bind fun _ => some ((flC Ma R 1, Gc), (0 : Int))) = _
      rw [zb1_ok (Or.inl rfl)]
      rfl
    · unfold M_X11_readError M_X11_readError_p23
      rw [tk_ok k124, hre, Option.bind_some, X11_flaw_ok hG h.r9, Option.bind_some, p28_o hF.1, y, if_pos (by decide)]
      exact cpD_o hF.1
  · have y1 := erS_1 (f := f) (e := e) (k := k) y
    have hadv := h.adv y1
    generalize erS f e k = s at *
    have hrt : M_X11_readError (Mr, Gr) 124 (rd + 3) v 0 = M_X11_readError_p28 (Mr, Gr) 124 (rd + 3) v s := by
      unfold M_X11_readError
      rw [tk_ok k124, hre, Option.bind_some, w32_id (x := s) (by omega) (by omega), if_neg y, if_pos (by decide)]
    by_cases yu : s = 10 ∧ Mr rd 6 = 4
    · have hF := hLa.fl (n := 5) (by omega) (by omega)
      refine ⟨((flC Ma R 5, Gc), 0), ?_, (flR Mr 5, Gr), ?_, LnK.no (hfsa hF.2) (sh_t hR hsp hsha hF.2.1) hF.1⟩
      · rw [if_pos (by rw [yu.1]; decide), b_gr kR (by rw [hNa R (by omega)]; omega), hNa R (by omega), q4, huc, Option.bind_some, yu.2, if_neg (by decide), fail_z kR]
      · rw [hrt]
        unfold M_X11_readError_p28
        rw [if_pos (by rw [yu.1]; decide), b_gr k124 (by omega), m4, b_gf kd, yu.2, if_pos (by decide), X11_flaw_ok hG h.r9, Option.bind_some, p51_o hF.1]
        exact cpD_o hF.1
    · have hct : (if w32 s = 10 then (gr 14 (Ma, Gc) R 4).bind fun x17 => (M_X5_unknownCount (Ma, Gc) x17).bind fun x18 => if w32 x18 < 4 then M_X4_readCopies_p105 (Ma, Gc) R v s else bd (M_X4_fail (Ma, Gc) R 5) fun h x19 => (zb1 x19 ()).bind fun _ => some (h, x19) else M_X4_readCopies_p105 (Ma, Gc) R v s) = bd (M_X4_readError (Ma, Gc) R s (sp + 4) (4 * v)) fun h x4 => (zb1 x4 ()).bind fun _ => some (h, x4) := by
        rw [hp105]
        by_cases z : s = 10
        · have : Mr rd 6 < 4 := by omega
          rw [if_pos (by rw [z]; decide), b_gr kR (by rw [hNa R (by omega)]; omega), hNa R (by omega), q4, huc, Option.bind_some, if_pos (by rw [w32_id (by omega) (by omega)]; exact this)]
        · rw [if_neg (by rw [w32_id (by omega) (by omega)]; exact z)]
      have hrt2 : M_X11_readError_p28 (Mr, Gr) 124 (rd + 3) v s = (M_X11_goesOn (Mr, Gr) 124).bind (er51 (rd + 3) v s) := by
        unfold M_X11_readError_p28
        rw [er51_eq]
        by_cases z : s = 10
        · rw [if_pos (by rw [z]; decide), b_gr k124 (by omega), m4, b_gf kd, if_neg (by rw [w32_id (by omega) (by omega)]; omega)]
        · rw [if_neg (by rw [w32_id (by omega) (by omega)]; exact z)]
      obtain ⟨a, ha, b, hb, Mc1, Mr1, rfl, rfl, ht1, hL1⟩ := s_take hLa (by omega)
      rw [hct, hrt, hrt2, erC_eq hLa (by omega) (by omega), ha, Option.bind_some, hb, Option.bind_some, b_ast gw3 (by omega) (by omega) (by omega)]
      clear hct hrt hrt2 ha hb hp105 hce hre
      have hMa : ∀ a, a ≠ sp + 4 → sr Mc1 (sp + 4) (u1 (Mc1 (sp + 4)) (4 * v) s) a = Mc1 a := fun a ha => sr_a _ _ ha
      have hM4 : sr Mc1 (sp + 4) (u1 (Mc1 (sp + 4)) (4 * v) s) (sp + 4) = u1 (Mc1 (sp + 4)) (4 * v) s := sr_s _ _ _
      generalize sr Mc1 (sp + 4) (u1 (Mc1 (sp + 4)) (4 * v) s) = Mn at *
      have hLn : LK Gc Gr R e sp rd f Mn Mr1 (tB f e k) := hL1.dt (hMa R (by omega)) (hMa 1 (by omega)) rfl rfl
      have x1 : ∀ a, a ≠ R → a ≠ sp + 3 → a ≠ sp + 4 → Mn a = Mc a := fun a a1 a2 a3 => (hMa a a3).trans ((ht1.1 a a1).trans (hNa a a2))
      have x4 : Mc1 (sp + 4) = Mc (sp + 4) := (ht1.1 _ (by omega)).trans (hNa _ (by omega))
      have hzC : szC sp wd hi mk Mn := by
        have := hd.sc
        unfold szC at *
        rw [x1 sp (by omega) (by omega) (by omega), x1 (sp + 1) (by omega) (by omega) (by omega)]
        exact this
      have hzR : szR rd wd hi mk Mr1 := by
        have := hd.sr
        unfold szR at *
        rw [ht1.2.2.1 rd (by omega)]
        exact this
      have f1 : Mn (sp + 4) (4 * v + 1) = -2 := by rw [hM4, u1_k _ _ (by omega), x4]; exact gv.2.2 1 (by omega) (by omega)
      have f2 : Mn (sp + 4) (4 * v + 2) = -2 := by rw [hM4, u1_k _ _ (by omega), x4]; exact gv.2.2 2 (by omega) (by omega)
      have f3 : Mn (sp + 4) (4 * v + 3) = -2 := by rw [hM4, u1_k _ _ (by omega), x4]; exact gv.2.2 3 (by omega) (by omega)
      obtain ⟨Mc2, Mr2, hE, hcase⟩ := s_err (s := s) (rr := rd + 3) (t := v) (ro := sp + 4) (o := 4 * v) (n := 24) hLn hzC hzR hdim (by omega) (by omega) (Or.inl rfl) gw3 gl3 (by omega) (by omega) (by omega) f1 f2 f3 (by omega) (by omega)
      have hca : ∀ a, a ≠ R → a ≠ sp + 3 → a ≠ sp + 4 → Mc2 a = Mc a := fun a a1 a2 a3 => (hE.1 a a1 a3).trans (x1 a a1 a2 a3)
      have hc3 : Mc2 (sp + 3) = u1 (Mc (sp + 3)) v c := (hE.1 _ (by omega) (by omega)).trans ((hMa _ (by omega)).trans ((ht1.1 _ (by omega)).trans hN3))
      have hra : ∀ a, a ≠ 124 → Mr2 a = Mr a := fun a a1 => (hE.2.2.2.1 a a1).trans (ht1.2.2.1 a a1)
      have hcR : ∀ j, 2 ≤ j → j < 5 → Mc2 R j = Mc R j := fun j j0 j1 => (hE.2.2.1 j j0 j1).trans (by rw [hMa R (by omega), ht1.2.1 j j0 j1, hNa R (by omega)])
      have hr4 : ∀ j, j < 8 ∨ 16 < j → Mr2 124 j = Mr 124 j := fun j hj => (hE.2.2.2.2 j hj).trans (ht1.2.2.2 j hj)
      clear hMa ht1 hL1 hLn x1
      rcases hcase with ⟨v1, v2, v3, k2, hc, hr, hk2, hL2, hb2, w1, w2', w3⟩ | ⟨hc, hr, hF⟩
      · have hx4 : Mc2 (sp + 4) = u4 (Mc (sp + 4)) (4 * v) s v1 v2 v3 := by
          funext j
          have hj : j = 4 * v ∨ j = 4 * v + 1 ∨ j = 4 * v + 2 ∨ j = 4 * v + 3 ∨ (j < 4 * v ∨ 4 * v + 3 < j) := by clear hb2; omega
          rcases hj with rfl | rfl | rfl | rfl | z
          · rw [u4_0, hE.2.1 _ (by omega), hM4, u1_s]
          · rw [u4_1]; exact w1
          · rw [u4_2]; exact w2'
          · rw [u4_3]; exact w3
          · rw [u4_k z, hE.2.1 j (by omega), hM4, u1_k _ _ (by omega), x4]
        obtain ⟨b, hb3, hln⟩ := cop_end (k := k) hL2 (by omega) hd v0 vt cv c0 ct (by omega) (by omega) hb2 (fun z z2 => yu ⟨z, z2⟩) hca hc3 hx4 hra hcR hr4
        rw [hc, hr]
        refine ⟨((Mc2, Gc), 1), ?_, b, hb3, hln⟩
        show ((zb1 (1 : Int) ()).bind fun _ => some ((Mc2, Gc), (1 : Int))) = _
        rw [zb1_ok (Or.inr rfl)]
        rfl
      · have hz := hd.1.2.2
        rw [hc, hr]
        refine ⟨((Mc2, Gc), 0), ?_, (Mr2, Gr), cpD_o hF, LnK.no ⟨fun a a1 a2 => hca a a1 (by omega) (by omega), fun a a1 _ => hra a a1, hr4, hcR⟩ (sh_cop hR hsp hd.1 hca ?_ ?_) hF⟩
        · show ((zb1 (0 : Int) ()).bind fun _ => some ((Mc2, Gc), (0 : Int))) = _
          rw [zb1_ok (Or.inl rfl)]
          rfl
        · have z2 := hz.2.1
          rw [show sp + 1 + 2 = sp + 3 by omega] at z2
          rw [hc3]; exact zO_u1 z2 v0 (by omega)
        · have z3 := hz.2.2
          rw [show sp + 1 + 3 = sp + 4 by omega] at z3
          intro j hj
          rw [hE.2.1 j (by omega), hM4, u1_k _ _ (by omega), x4]
          exact z3 j hj
end CQ
