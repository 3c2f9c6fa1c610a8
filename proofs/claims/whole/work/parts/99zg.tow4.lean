/-! the line of a town: its loop -/
def twT (h : Hp) : Option Hp := (M_X11_isName h 124).bind fun x39 => if w32 x39 = 0 then (M_X11_flaw h 124 1).bind fun h => M_X11_readTownLine_p25 h 124 else M_X11_readTownLine_p25 h 124
theorem twT_eq (h : Hp) : M_X11_readTownLine h 124 = tk 21 h 124 ((gr 21 h 124 4).bind fun x37 => (gf 20 h x37 3).bind fun x38 => (M_X11_begins h 124 x38 6).bind twT) := rfl
section TZ
variable {Mc Mr Mc1 Mr1 Ma Mb : Int → Int → Int} {Gc Gr : GG} {R e k sp rd wd hi tw mk gs sn i : Int} {f : Int → Int}
theorem tw_p196_o {l1 : Int} (h : LX Gc Gr R e sp rd f Mc Mr) : M_X11_readTownLine_p196 (Mr, Gr) 124 l1 = some (Mr, Gr) := by
  have hG := h.hr
  have k124 := gk_124 hG
  unfold M_X11_readTownLine_p196
  rw [b_gf k124, h.2.1, if_pos (by decide)]
theorem tw_p45_o (h : LX Gc Gr R e sp rd f Mc Mr) (n0 : Mr rd 0 = wd) (n1 : Mr rd 1 = hi) (w0 : 0 ≤ wd) (w6 : wd ≤ 6) (h0 : 0 ≤ hi) (h6 : hi ≤ 6) : M_X11_readTownLine_p45 (Mr, Gr) 124 = some (Mr, Gr) := by
  have hG := h.hr
  have k124 := gk_124 hG
  have hkd := h.kd
  have m4 := h.m4
  have h9 := h.2.1
  unfold M_X11_readTownLine_p45
  rw [b_gf k124, X11_over hG h9, Option.bind_some]
  unfold M_X11_readTownLine_w56
  have hF : FU = 999999 + 1 := rfl
  by_cases y : 0 < hi
  · have hb : M_X11_readTownLine_b56 (Mr, Gr) 124 (Mr 124 16) 0 = some (.inr (.inr (Mr, Gr))) := by
      unfold M_X11_readTownLine_b56 M_X11_readTownLine_p108
      rw [b_gr k124 (by omega), m4, b_gf hkd.2, n1, if_pos (by rw [w32_id (by omega) (by omega), w32_id (by omega) (by omega)]; exact y), if_neg (by decide), b_gr k124 (by omega), m4, b_gf hkd.2, n0, checksMarks_over hG h9 m4 (by omega) hkd.2 w0 (by omega), Option.bind_some, b_gf k124, h9, if_pos (by decide)]
    rw [hF, wh_rr hb]
    rfl
  · have hb : M_X11_readTownLine_b56 (Mr, Gr) 124 (Mr 124 16) 0 = some (.inr (.inl (Mr, Gr))) := by
      unfold M_X11_readTownLine_b56
      rw [b_gr k124 (by omega), m4, b_gf hkd.2, n1, if_neg (by rw [w32_id (by omega) (by omega), w32_id (by omega) (by omega)]; exact y)]
    rw [hF, wh_rr hb]
    exact tw_p196_o h
theorem tw_p25_o (h : LX Gc Gr R e sp rd f Mc Mr) (hp : pRg (Mr rd) rd) (h3 : Mr rd 3 = tw) (t0 : 0 ≤ tw) (t6 : tw ≤ 6) (n0 : Mr rd 0 = wd) (n1 : Mr rd 1 = hi) (w0 : 0 ≤ wd) (w6 : wd ≤ 6) (h0 : 0 ≤ hi) (h6 : hi ≤ 6) : M_X11_readTownLine_p25 (Mr, Gr) 124 = some (Mr, Gr) := by
  have hG := h.hr
  have k124 := gk_124 hG
  have hkd := h.kd
  have m4 := h.m4
  have h9 := h.2.1
  obtain ⟨v, hv, -⟩ := X10_find_ok (w := Mr 124 16) h.1.2.2.2.1 hp.2.2.2.2.2.2.2.2 h3 t0 t6
  unfold M_X11_readTownLine_p25
  rw [b_gr k124 (by omega), m4, b_gf k124, hv, Option.bind_some, X11_flaw_over hG h9, Option.bind_some, tw_p45_o h n0 n1 w0 w6 h0 h6]
  split <;> rfl
theorem tw_o (h : LX Gc Gr R e sp rd f Mc Mr) (hp : pRg (Mr rd) rd) (h3 : Mr rd 3 = tw) (t0 : 0 ≤ tw) (t6 : tw ≤ 6) (n0 : Mr rd 0 = wd) (n1 : Mr rd 1 = hi) (w0 : 0 ≤ wd) (w6 : wd ≤ 6) (h0 : 0 ≤ hi) (h6 : hi ≤ 6) : twT (Mr, Gr) = some (Mr, Gr) := by
  unfold twT
  rw [rName_over h.hr h.2.1, Option.bind_some, if_pos (by decide), X11_flaw_over h.hr h.2.1, Option.bind_some]
  exact tw_p25_o h hp h3 t0 t6 n0 n1 w0 w6 h0 h6
theorem isSign_ok (h : LK Gc Gr R e sp rd f Mc Mr k) : M_X11_isSign (Mr, Gr) 124 44 = some (if tK f e k = 4 then 1 else 0) ∧ M_X11_isSign (Mr, Gr) 124 59 = some (if tK f e k = 3 then 1 else 0) := by
  have hG := h.hr
  have k124 := gk_124 hG
  have hKb := tK_b (f := f) (e := e) (k := k)
  obtain ⟨r9, -, -, r11, r11', -⟩ := h.2.2.1
  have hu : ∀ n, M_X11_isSign (Mr, Gr) 124 n = if w32 (srt (tK f e k)) = 4 then (if w32 (Mr 124 11) = w32 n then some 1 else some 0) else some 0 := fun n => by
    unfold M_X11_isSign
    rw [tk_ok k124, b_gf k124, r9, b_gf k124]
  rw [hu 44, hu 59]
  have hc : tK f e k = 0 ∨ tK f e k = 1 ∨ tK f e k = 2 ∨ tK f e k = 3 ∨ tK f e k = 4 ∨ tK f e k = 5 := by omega
  rcases hc with y | y | y | y | y | y
  · rw [y]; exact ⟨rfl, rfl⟩
  · rw [y]; exact ⟨rfl, rfl⟩
  · rw [y]; exact ⟨rfl, rfl⟩
  · rw [r11 y, y]; exact ⟨rfl, rfl⟩
  · rw [r11' y, y]; exact ⟨rfl, rfl⟩
  · rw [y]; exact ⟨rfl, rfl⟩
/-- how the loop over the rows ends -/
def TlK (Gc Gr : GG) (R e sp rd : Int) (f : Int → Int) (Mc Mr : Int → Int → Int) (k wd hi mk tw : Int) (a : Hp ⊕ (Hp × Int)) (b : Hp ⊕ Hp) : Prop := ∃ Mc1 Mr1, twF R sp rd Mc Mr Mc1 Mr1 ∧ ((a = .inl (Mc1, Gc) ∧ b = .inl (Mr1, Gr) ∧ twC wd mk tw hi (Mc (sp + 2)) (Mr (rd + 1)) (Mc1 (sp + 2)) (Mr1 (rd + 1)) ∧ ∃ k1, k ≤ k1 ∧ LK Gc Gr R e sp rd f Mc1 Mr1 k1) ∨ (a = .inr ((Mc1, Gc), 0) ∧ b = .inr (Mr1, Gr) ∧ zO 216 (Mc1 (sp + 2)) ∧ LX Gc Gr R e sp rd f Mc1 Mr1))
/-- a row's beginning: the comma -/
theorem s_comma {l1 : Int} (h : LK Gc Gr R e sp rd f Mc Mr k) (hsC : szC sp wd hi mk Mc) (hsR : szR rd wd hi mk Mr) (p3 : Mc (sp + 1) 3 = sp + 2) (p7 : Mr rd 7 = rd + 1) (n3 : Mr rd 3 = tw) (hdim : (2 ≤ wd ∧ wd ≤ 6) ∧ (2 ≤ hi ∧ hi ≤ 6) ∧ 2 ≤ mk ∧ mk ≤ 6) (t0 : 0 ≤ tw) (t5 : tw ≤ 5) (i0 : 0 ≤ i) (ih : i < hi) (hz : zO 216 (Mc (sp + 2))) : O2 (M_X4_readTown_b64 (Mc, Gc) R tw i) (M_X11_readTownLine_b56 (Mr, Gr) 124 l1 i) (RwK Gc Gr R e sp rd f Mc Mr k wd mk tw i) := by
  have hG := h.hr
  have k124 := gk_124 hG
  have kR := h.kR
  have hsp := h.1.2.2.2.2
  have hR := h.1.1.2.1
  have hrd := h.kd.1
  have kd := h.kd.2
  have m4 := h.m4
  have c4 := h.c4
  have c5 := h.2.1.1
  rw [h.1.2.2.1] at c5
  have r9 := h.2.2.1.1
  have hKb := tK_b (f := f) (e := e) (k := k)
  obtain ⟨g0, gw, -⟩ := h.gc
  have gwk := gw.2.1
  have hsg := isSign_ok h
  unfold M_X4_readTown_b64 M_X11_readTownLine_b56
  rw [b_gr kR (by omega), c4, b_gr g0 (by rw [hsC.1]; omega), hsC.1, b_gf gwk, hsC.2.2.1, b_gr k124 (by omega), m4, b_gf kd, hsR.2.1, w32_id (x := i) (by omega) (by omega), w32_id (x := hi) (by omega) (by omega), if_pos ih, if_pos ih]
  by_cases y : 0 < i
  · rw [if_pos y, if_pos y, b_gf kR, c5, w32_id (x := tK f e k) (by omega) (by omega), b_gf kR, c5, w32_id (x := tK f e k) (by omega) (by omega), b_gf kR, c5, w32_id (x := tK f e k) (by omega) (by omega)]
    have hbad : ∀ n, 1 ≤ n → n ≤ 7 → RwK Gc Gr R e sp rd f Mc Mr k wd mk tw i (.inr (.inr ((flC Mc R n, Gc), 0))) (.inr (.inr (flR Mr n, Gr))) := fun n n0 n7 => by
      have hF := h.fl (n := n) n0 n7
      exact ⟨_, _, hF.2.tf, Or.inr ⟨rfl, rfl, by rw [hF.2.1 (sp + 2) (by omega)]; exact hz, hF.1⟩⟩
    have hcf : ∀ n, (bd (M_X4_fail (Mc, Gc) R n) fun h x9 => (zb1 x9 ()).bind fun _ => (some (.inr (.inr (h, x9))) : Option ((Hp × Int) ⊕ (Hp ⊕ (Hp × Int))))) = some (.inr (.inr ((flC Mc R n, Gc), 0))) := fun n => by
      rw [X4_fail_ok kR]
      show ((zb1 (0 : Int) ()).bind fun _ => some (Sum.inr (Sum.inr ((flC Mc R n, Gc), (0 : Int))))) = _
      rw [zb1_ok (Or.inl rfl)]
      rfl
    rw [hcf 6, hcf 1]
    by_cases y4 : tK f e k = 4
    · rw [if_neg (by omega), if_neg (by omega), if_pos y4]
      obtain ⟨a, ha, b, hb, Mc1, Mr1, rfl, rfl, ht, hL1⟩ := s_take h (by omega)
      have hes : M_X11_eatsSign (Mr, Gr) 124 44 = some ((Mr1, Gr), 1) := by
        unfold M_X11_eatsSign
        rw [tk_ok k124, hsg.1, Option.bind_some, if_pos y4, if_neg (by decide), hb, Option.bind_some, zb1_ok (Or.inr rfl), Option.bind_some]
      rw [ha, hes, Option.bind_some, bd_some, if_neg (c := w32 1 = 0) (by decide)]
      have e1 : Mc1 sp = Mc sp := ht.1 _ (by omega)
      have e2 : Mc1 (sp + 1) = Mc (sp + 1) := ht.1 _ (by omega)
      have e3 : Mc1 (sp + 2) = Mc (sp + 2) := ht.1 _ (by omega)
      have e4 : Mr1 rd = Mr rd := ht.2.2.1 _ (by omega)
      have e5 : Mr1 (rd + 1) = Mr (rd + 1) := ht.2.2.1 _ (by omega)
      refine (s_row (l1 := l1) hL1 (by unfold szC at *; rw [e1, e2]; exact hsC) (by unfold szR at *; rw [e4]; exact hsR) (by rw [e2]; exact p3) (by rw [e4]; exact p7) (by rw [e4]; exact n3) hdim t0 t5 i0 ih (by rw [e3]; exact hz)).mono ?_
      rintro a b ⟨Mc2, Mr2, hf2, hc⟩
      have hp := tkB (f := f) h.2.2.2.2.1
      have hq := tkA (f := f) h.2.2.2.2.1
      have := hp.2.2 (by omega)
      refine ⟨Mc2, Mr2, ht.tf.tr hf2, ?_⟩
      rcases hc with ⟨h1, h2, ⟨A, h3, h4, h5⟩, k1, h6, h7⟩ | hc
      · exact Or.inl ⟨h1, h2, ⟨A, h3, by rw [h4, e3], by rw [h5, e5]⟩, k1, by omega, h7⟩
      · exact Or.inr hc
    · have hes : M_X11_eatsSign (Mr, Gr) 124 44 = some ((Mr, Gr), 0) := by
        unfold M_X11_eatsSign
        rw [tk_ok k124, hsg.1, Option.bind_some, if_neg y4, if_pos (by decide), zb1_ok (Or.inl rfl)]
        rfl
      rw [hes, bd_some, if_pos (c := w32 0 = 0) (by decide)]
      unfold M_X11_readTownLine_p98
      rw [hsg.2, Option.bind_some, X11_flaw_ok hG h.r9, X11_flaw_ok hG h.r9, Option.bind_some, Option.bind_some, b_gf k124, r9]
      by_cases y3 : tK f e k = 3
      · rw [if_pos y3, if_pos y3, if_neg (by decide)]
        exact ⟨_, rfl, _, rfl, hbad 6 (by omega) (by omega)⟩
      · rw [if_neg y3, if_neg y3, if_pos (c := w32 0 = 0) (by decide)]
        by_cases y0 : tK f e k = 0
        · rw [if_pos y0, y0, if_pos (c := w32 (srt 0) = 1) (by decide)]
          exact ⟨_, rfl, _, rfl, hbad 6 (by omega) (by omega)⟩
        · rw [if_neg y0, if_neg y4, if_neg]
          · exact ⟨_, rfl, _, rfl, hbad 1 (by omega) (by omega)⟩
          · have hc : tK f e k = 1 ∨ tK f e k = 2 ∨ tK f e k = 5 := by omega
            rcases hc with y | y | y <;> rw [y] <;> decide
  · rw [if_neg y, if_neg y]
    exact s_row (l1 := l1) h hsC hsR p3 p7 n3 hdim t0 t5 i0 ih hz
theorem s_rows {l1 : Int} (h : LK Gc Gr R e sp rd f Mc Mr k) (hsC : szC sp wd hi mk Mc) (hsR : szR rd wd hi mk Mr) (p3 : Mc (sp + 1) 3 = sp + 2) (p7 : Mr rd 7 = rd + 1) (n3 : Mr rd 3 = tw) (hdim : (2 ≤ wd ∧ wd ≤ 6) ∧ (2 ≤ hi ∧ hi ≤ 6) ∧ 2 ≤ mk ∧ mk ≤ 6) (t0 : 0 ≤ tw) (t5 : tw ≤ 5) (hz : zO 216 (Mc (sp + 2))) (h6 : ∀ j, 0 ≤ Mr (rd + 1) j ∧ Mr (rd + 1) j < 6) : O2 (wh (S := (Hp × Int)) (T := (Hp ⊕ (Hp × Int))) (fun a => M_X4_readTown_b64 a.1 R tw a.2) FU ((Mc, Gc), 0)) (wh (S := (Hp × Int)) (T := (Hp ⊕ (Hp))) (fun a => M_X11_readTownLine_b56 a.1 124 l1 a.2) FU ((Mr, Gr), 0)) (TlK Gc Gr R e sp rd f Mc Mr k wd hi mk tw) := by
  have hsp := h.1.2.2.2.2
  have hR := h.1.1.2.1
  have hrd := h.kd.1
  have hFU := FU_big
  refine wh_2e (fun i s s' => ∃ Ma Mb k1, s = ((Ma, Gc), (i : Int)) ∧ s' = ((Mb, Gr), (i : Int)) ∧ twF R sp rd Mc Mr Ma Mb ∧ twC wd mk tw (i : Int) (Mc (sp + 2)) (Mr (rd + 1)) (Ma (sp + 2)) (Mb (rd + 1)) ∧ k ≤ k1 ∧ LK Gc Gr R e sp rd f Ma Mb k1) (TlK Gc Gr R e sp rd f Mc Mr k wd hi mk tw) hi.toNat ?_ hi.toNat 0 FU FU _ _ (by omega) (by omega) (by omega) ⟨Mc, Mr, k, rfl, rfl, twF.refl, twC_0 h6 hz, by omega, h⟩
  rintro i _ _ hi' ⟨Ma, Mb, k1, rfl, rfl, hf, hC, hk, hL⟩
  have e1 : Ma sp = Mc sp := hf.1 _ (by omega) (by omega)
  have e2 : Ma (sp + 1) = Mc (sp + 1) := hf.1 _ (by omega) (by omega)
  have e4 : Mb rd = Mr rd := hf.2.2.1 _ (by omega) (by omega)
  have hsC' : szC sp wd hi mk Ma := by unfold szC at *; rw [e1, e2]; exact hsC
  have hsR' : szR rd wd hi mk Mb := by unfold szR at *; rw [e4]; exact hsR
  by_cases y : (i : Int) < hi
  · obtain ⟨a, ha, b, hb, Mc1, Mr1, hf1, hc⟩ := s_comma (i := (i : Int)) (l1 := l1) hL hsC' hsR' (by rw [e2]; exact p3) (by rw [e4]; exact p7) (by rw [e4]; exact n3) hdim t0 t5 (by omega) y hC.2.2.2.2
    refine ⟨a, ha, b, hb, ?_⟩
    rcases hc with ⟨rfl, rfl, ⟨A, hA, hx, hy⟩, k2, hk2, hL2⟩ | ⟨rfl, rfl, hz2, hX⟩
    · have hs := twC_s (A := A) (f := f) hC (by omega) (by omega) (by omega) (by omega) (by omega) t0 t5 hA
      rw [← hx, ← hy] at hs
      exact Or.inl ⟨_, _, rfl, rfl, by omega, Mc1, Mr1, k2, rfl, rfl, hf.tr hf1, hs, by omega, hL2⟩
    · exact Or.inr ⟨_, _, rfl, Or.inl rfl, Mc1, Mr1, hf.tr hf1, Or.inr ⟨rfl, rfl, hz2, hX⟩⟩
  · have hG := h.hr
    have k124 := gk_124 hG
    have kR := h.kR
    have kd := h.kd.2
    have m4 := hL.m4
    have c4 := hL.c4
    obtain ⟨g0, gw, -⟩ := h.gc
    have gwk := gw.2.1
    refine ⟨.inr (.inl (Ma, Gc)), ?_, .inr (.inl (Mb, Gr)), ?_, Or.inr ⟨_, _, rfl, Or.inl rfl, Ma, Mb, hf, Or.inl ⟨rfl, rfl, ?_, k1, hk, hL⟩⟩⟩
    · unfold M_X4_readTown_b64
      dsimp only
      rw [b_gr kR (by omega), c4, b_gr g0 (by rw [hsC'.1]; omega), hsC'.1, b_gf gwk, hsC'.2.2.1, w32_id (x := (i : Int)) (by omega) (by omega), w32_id (x := hi) (by omega) (by omega), if_neg y]
    · unfold M_X11_readTownLine_b56
      dsimp only
      rw [b_gr k124 (by omega), m4, b_gf kd, hsR'.2.1, w32_id (x := (i : Int)) (by omega) (by omega), w32_id (x := hi) (by omega) (by omega), if_neg y]
    · rw [show (i : Int) = hi by omega] at hC
      exact hC
end TZ
