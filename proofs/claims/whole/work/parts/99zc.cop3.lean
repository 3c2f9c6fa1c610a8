/-! the line of copies, whole -/
section CR
variable {Mc Mr Mc1 Mr1 : Int → Int → Int} {Gc Gr : GG} {R e k sp rd wd hi tw mk gs sn : Int} {f : Int → Int}
theorem LnK.tr0 {k0 : Int} {a : Hp × Int} {b : Hp} (hk : k0 ≤ k) (hf : fS R sp rd Mc Mr Mc1 Mr1) (h : LnK Gc Gr R e sp rd f Mc1 Mr1 k a b) : LnK Gc Gr R e sp rd f Mc Mr k0 a b := by
  obtain ⟨Ma, Mb, h1, h2, h3, h4⟩ := h
  refine ⟨Ma, Mb, h1, hf.tr h2, h3, ?_⟩
  rcases h4 with ⟨x, k1, wd, hi, tw, mk, gs, sn, hk1, hL, hd⟩ | h4
  · exact Or.inl ⟨x, k1, wd, hi, tw, mk, gs, sn, by omega, hL, hd⟩
  · exact Or.inr h4
theorem s_cop2 {v : Int} (h : LK Gc Gr R e sp rd f Mc Mr k) (hd : LDv sp rd wd hi tw mk gs sn Mc Mr) (w2 : 2 ≤ wd) (v0 : 0 ≤ v) (vt : v < tw) (cv : Mc (sp + 3) v < 0) : O2 (cqB R v (Mc, Gc)) (cpA (Mr, Gr) v) (LnK Gc Gr R e sp rd f Mc Mr k) := by
  have hG := h.hr
  have k124 := gk_124 hG
  have kR := h.kR
  have hsp := h.1.2.2.2.2
  have hR := h.1.1.2.1
  have hrd := h.kd.1
  have t6 := hd.2.2.1.2.2.2.2.1
  have hfl : ∀ {Ma Mb : Int → Int → Int}, tS R Mc Mr Ma Mb → LX Gc Gr R e sp rd f Ma Mb → LnK Gc Gr R e sp rd f Mc Mr k ((Ma, Gc), 0) (Mb, Gr) := fun {Ma Mb} ht hF => LnK.no ht.fs (sh_t hR hsp hd.1 ht.1) hF
  obtain ⟨a, ha, b, hb, hc⟩ := s_town h hd.nm
  rcases hc with ⟨c, c0, ct, y1, rfl, rfl⟩ | ⟨Mc1, Mr1, rfl, rfl, ht, hF⟩
  · have hct : cqB R v (Mc, Gc) = (M_X4_take (Mc, Gc) R).bind (fun h => bd (M_X4_wordDue h R 8) fun h x12 => if w32 x12 = 0 then some (h, 0) else cqC R v c h) := by
      unfold cqB
      rw [ha]
      show (if w32 c = -1 then _ else _) = _
      rw [if_neg (by rw [w32_id (by omega) (by omega)]; omega)]
    have hrt : cpA (Mr, Gr) v = (M_X11_goesOn (Mr, Gr) 124).bind (fun h => cpB h v c) := by
      unfold cpA M_X11_readTown
      rw [tk_ok k124, hb]
      show bd ((M_X11_goesOn (Mr, Gr) 124).bind fun h => some (h, c)) _ = _
      cases M_X11_goesOn (Mr, Gr) 124 <;> rfl
    rw [hct, hrt]
    refine O2.bind (s_take h (by omega)) ?_
    rintro _ _ ⟨Mc1, Mr1, rfl, rfl, ht1, hL1⟩
    have hk1 := h.adv y1
    have hd1 := hd.t hR hsp hrd ht1
    obtain ⟨a, ha, b, hb, Mc2, Mr2, rfl, ht2, hc⟩ := s_word (i := 8) hL1 (by omega) (by omega)
    have ht2 := ht1.tr ht2
    have hd2 := hd.t hR hsp hrd ht2
    unfold cpB
    rw [ha, hb, Option.bind_some]
    rcases hc with ⟨rfl, k2, hk2, hL2⟩ | ⟨rfl, hF⟩
    · show O2 (if w32 1 = 0 then some ((Mc2, Gc), (0 : Int)) else cqC R v c (Mc2, Gc)) _ _
      rw [if_neg (by decide)]
      refine (s_cop3 hL2 hd2 w2 v0 vt (by rw [ht2.1 (sp + 3) (by omega)]; exact cv) c0 ct).mono ?_
      intro a b hab
      exact hab.tr0 (by omega) ht2.fs
    · show O2 (if w32 0 = 0 then some ((Mc2, Gc), (0 : Int)) else cqC R v c (Mc2, Gc)) _ _
      rw [if_pos (by decide)]
      exact ⟨_, rfl, _, cpC_o hF hd2.2.1, hfl ht2 hF⟩
  · have e1 : Mr1 rd = Mr rd := ht.2.2.1 rd (by omega)
    refine ⟨((Mc1, Gc), 0), ?_, (Mr1, Gr), ?_, hfl ht hF⟩
    · apply Ok.eq
      unfold cqB
      refine k_bd ha ?_
      exact k_ifT (by decide) (Ok.ret rfl)
    · unfold cpA M_X11_readTown
      rw [tk_ok k124, hb]
      show bd ((M_X11_goesOn (Mr1, Gr) 124).bind fun h => some (h, 0)) _ = _
      rw [X11_over hG hF.2.1]
      exact cpB_o hF (by rw [e1]; exact hd.2.1)
theorem s_copies (h : LK Gc Gr R e sp rd f Mc Mr k) (hd : LDv sp rd wd hi tw mk gs sn Mc Mr) (w2 : 2 ≤ wd) : O2 (M_X4_readCopies (Mc, Gc) R) (cpT (Mr, Gr)) (LnK Gc Gr R e sp rd f Mc Mr k) := by
  have hG := h.hr
  have k124 := gk_124 hG
  have kR := h.kR
  have hsp := h.1.2.2.2.2
  have hR := h.1.1.2.1
  have hrd := h.kd.1
  have kd := h.kd.2
  have t6 := hd.2.2.1.2.2.2.2.1
  have t0 := hd.2.2.1.2.2.2.1
  have hfl : ∀ {Ma Mb : Int → Int → Int}, tS R Mc Mr Ma Mb → LX Gc Gr R e sp rd f Ma Mb → LnK Gc Gr R e sp rd f Mc Mr k ((Ma, Gc), 0) (Mb, Gr) := fun {Ma Mb} ht hF => LnK.no ht.fs (sh_t hR hsp hd.1 ht.1) hF
  have h3 : Mr rd 3 = tw := hd.2.2.1.2.1.2.2.2.1
  obtain ⟨a, ha, b, hb, hc⟩ := s_town h hd.nm
  rcases hc with ⟨v, v0, vt, y1, rfl, rfl⟩ | ⟨Mc1, Mr1, rfl, rfl, ht, hF⟩
  · obtain ⟨g0, gw, -⟩ := h.gc
    obtain ⟨gw0, gwk, -, -, gw2, gl2, -⟩ := gw
    have gw2 : Gc.1 (sp + 3) = 1 := by rw [show sp + 3 = sp + 1 + 2 by omega]; exact gw2
    have gl2 : Gc.2.1 (sp + 3) = 6 := by rw [show sp + 3 = sp + 1 + 2 by omega]; exact gl2
    obtain ⟨-, -, -, ⟨kr2, lr2⟩, -⟩ := h.1.2.2.2.1
    have q4 := h.c4
    have m4 := h.m4
    have h9 := h.r9
    have p1 : Mc sp 1 = sp + 1 := hd.1.1.1
    have p4 : Mc (sp + 1) 4 = sp + 3 := by rw [hd.1.2.1.2.1]; omega
    have r8 : Mr rd 8 = rd + 2 := hd.2.1.2.1
    have hcv := hd.2.2.2.2.2.1.1 v v0 (by omega)
    have hrv := hd.2.2.2.2.2.1.2.1 v v0 vt
    have hneg := hd.2.2.2.2.2.1.2.2.2.2.2.1 v v0 (by omega)
    have hct : M_X4_readCopies (Mc, Gc) R = if w32 (Mc (sp + 3) v) < 0 then (M_X4_take (Mc, Gc) R).bind (cqB R v) else bd (M_X4_fail (Mc, Gc) R 3) fun h x21 => (zb1 x21 ()).bind fun _ => some (h, x21) := by
      unfold M_X4_readCopies
      rw [tk_ok kR, ha]
      show (if w32 v = -1 then _ else _) = _
      rw [if_neg (by rw [w32_id (by omega) (by omega)]; omega), b_gr kR (by omega), q4, b_gr g0 (by omega), p1, b_gr gwk (by omega), p4, b_ald gw2 v0 (by omega) (by omega)]
      rfl
    have hrt : cpT (Mr, Gr) = if w32 (Mc (sp + 3) v) = -2 then M_X11_readCopies_p38 (Mr, Gr) 124 v else (M_X11_flaw (Mr, Gr) 124 3).bind fun h => M_X11_readCopies_p38 h 124 v := by
      unfold cpT
      rw [hb]
      show ((gf 21 (Mr, Gr) 124 9).bind _) = _
      rw [b_gf k124, if_neg (by rw [w32_id (by omega) (by omega)]; omega), b_gr k124 (by omega), m4, b_gr kd (by omega), r8, b_ald kr2 v0 (by omega) (by omega), hrv]
    rw [hct, hrt, w32_id (by omega) (by omega)]
    by_cases z : Mc (sp + 3) v < 0
    · rw [if_pos z, if_pos (hneg z).1, cpA_eq]
      refine O2.bind (s_take h (by omega)) ?_
      rintro _ _ ⟨Mc1, Mr1, rfl, rfl, ht1, hL1⟩
      have hk1 := h.adv y1
      have hd1 := hd.t hR hsp hrd ht1
      refine (s_cop2 hL1 hd1 w2 v0 vt (by rw [ht1.1 (sp + 3) (by omega)]; exact z)).mono ?_
      intro a b hab
      exact hab.tr0 (by omega) ht1.fs
    · have hF := h.fl (n := 3) (by omega) (by omega)
      have e1 : flR Mr 3 rd = Mr rd := hF.2.2.2.1 rd (by omega)
      rw [if_neg z, if_neg (by omega), fail_z kR, X11_flaw_ok hG h.r9, Option.bind_some]
      exact ⟨_, rfl, _, p38_o hF.1 (by rw [e1]; exact hd.2.1) (by rw [e1]; exact h3) t0 t6, hfl hF.2 hF.1⟩
  · have e1 : Mr1 rd = Mr rd := ht.2.2.1 rd (by omega)
    refine ⟨((Mc1, Gc), 0), ?_, (Mr1, Gr), ?_, hfl ht hF⟩
    · apply Ok.eq
      unfold M_X4_readCopies
      refine k_tk kR ?_
      refine k_bd ha ?_
      exact k_ifT (by decide) (Ok.ret rfl)
    · unfold cpT
      rw [hb]
      show ((gf 21 (Mr1, Gr) 124 9).bind _) = _
      rw [b_gf k124, hF.2.1, if_pos (by decide)]
      exact p38_o hF (by rw [e1]; exact hd.2.1) (by rw [e1]; exact h3) t0 t6
end CR
