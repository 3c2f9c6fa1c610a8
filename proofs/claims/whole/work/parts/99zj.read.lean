/-! all lines -/
section RA
variable {Mc Mr Mc1 Mr1 : Int → Int → Int} {Gc Gr : GG} {R e k sp rd wd hi tw mk gs sn : Int} {f : Int → Int}
/-- how the reading ends -/
def FnK (Gc Gr : GG) (R e sp rd : Int) (f : Int → Int) (Mc Mr : Int → Int → Int) (a : Hp × Int) (b : Hp) : Prop := ∃ Mc1 Mr1, b = (Mr1, Gr) ∧ fS R sp rd Mc Mr Mc1 Mr1 ∧ (shR Mc1 sp ∧ shW Mc1 (sp + 1)) ∧ ((a = ((Mc1, Gc), 1) ∧ Mc1 R 0 = 0 ∧ Mc1 R 1 = -1 ∧ Mr1 124 13 = 0 ∧ ∃ wd hi tw mk gs sn, 0 < tw ∧ LDv sp rd wd hi tw mk gs sn Mc1 Mr1) ∨ (a = ((Mc1, Gc), 0) ∧ LX Gc Gr R e sp rd f Mc1 Mr1))
theorem ra_p33_o (h : LX Gc Gr R e sp rd f Mc Mr) : M_X11_readAll_p33 (Mr, Gr) 124 = some (Mr, Gr) := by
  have hG := h.hr
  have k124 := gk_124 hG
  have hkd := h.kd
  have m4 := h.m4
  unfold M_X11_readAll_p33
  rw [b_gr k124 (by omega), m4, b_gf hkd.2, X11_flaw_over hG h.2.1, Option.bind_some]
  split <;> rfl
theorem ra_p20_o (h : LX Gc Gr R e sp rd f Mc Mr) : M_X11_readAll_p20 (Mr, Gr) 124 = some (Mr, Gr) := by
  have hG := h.hr
  have k124 := gk_124 hG
  unfold M_X11_readAll_p20
  rw [b_gf k124, h.2.1, if_neg (by decide), X11_flaw_over hG h.2.1, Option.bind_some]
  exact ra_p33_o h
theorem eats_o {l1 : Int} (h : LX Gc Gr R e sp rd f Mc Mr) : M_X11_eatsSign (Mr, Gr) 124 l1 = some ((Mr, Gr), 0) := by
  have hG := h.hr
  have k124 := gk_124 hG
  unfold M_X11_eatsSign M_X11_isSign
  rw [tk_ok k124, tk_ok k124, b_gf k124, h.2.1, if_neg (by decide), Option.bind_some, if_pos (by decide), zb1_ok (Or.inl rfl), Option.bind_some]
theorem ra_end (h : Hp) : M_X11_readAll_b2 h 124 0 = some (.inr h) := by
  unfold M_X11_readAll_b2
  rw [if_pos (by decide)]
theorem FnK.no {Ma Mb : Int → Int → Int} (hf : fS R sp rd Mc Mr Ma Mb) (hs : shR Ma sp ∧ shW Ma (sp + 1)) (hX : LX Gc Gr R e sp rd f Ma Mb) : FnK Gc Gr R e sp rd f Mc Mr ((Ma, Gc), 0) (Mb, Gr) := ⟨Ma, Mb, rfl, hf, hs, Or.inr ⟨rfl, hX⟩⟩
/-- one turn of both loops -/
theorem s_turn {i : Nat} (h : LK Gc Gr R e sp rd f Mc1 Mr1 k) (hd : LDv sp rd wd hi tw mk gs sn Mc1 Mr1) (hf : fS R sp rd Mc Mr Mc1 Mr1) (hi9 : (i : Int) ≤ k) : ∃ a, M_X4_read_b13 (Mc1, Gc) R (i : Int) = some a ∧ ∃ b, M_X11_readAll_b2 (Mr1, Gr) 124 1 = some b ∧ ((∃ Mc2 Mr2 k2 wd hi tw mk gs sn, a = .inl ((Mc2, Gc), (i : Int) + 1) ∧ b = .inl ((Mr2, Gr), 1) ∧ k < k2 ∧ LK Gc Gr R e sp rd f Mc2 Mr2 k2 ∧ LDv sp rd wd hi tw mk gs sn Mc2 Mr2 ∧ fS R sp rd Mc Mr Mc2 Mr2) ∨ (∃ q h', a = .inr (.inr q) ∧ b = .inl (h', 0) ∧ Ok (M_X11_readAll_p20 h' 124) (FnK Gc Gr R e sp rd f Mc Mr q))) := by
  have hG := h.hr
  have k124 := gk_124 hG
  have kR := h.kR
  have hsp := h.1.2.2.2.2
  have hR := h.1.1.2.1
  have hrd := h.kd.1
  have kd := h.kd.2
  have he := h.1.1.2.2.2.2.2.2.1
  have hke := h.2.2.2.2.1
  obtain ⟨a, ha, b, hb, Mc2, Mr2, rfl, hf2, hsh, hc⟩ := s_line h hd
  rw [lnC_eq, if_neg (by rw [w32_id (by omega) (by omega)]; omega), ha]
  have hrb : M_X11_readAll_b2 (Mr1, Gr) 124 1 = bd (M_X11_eatsSign (Mr2, Gr) 124 59) fun h x4 => some (.inl (h, x4)) := by
    unfold M_X11_readAll_b2
    rw [if_neg (by decide), hb, Option.bind_some]
  rw [hrb]
  have hff := hf.tr hf2
  rcases hc with ⟨rfl, k2, wd, hi, tw, mk, gs, sn, hk2, hL2, hd2⟩ | ⟨rfl, hX⟩
  · rw [bd_some]
    have hKb := tK_b (f := f) (e := e) (k := k2)
    have c5 := hL2.2.1.1
    rw [hL2.1.2.2.1] at c5
    have c4 := hL2.c4
    have m4 := hL2.m4
    have hsg := (isSign_ok hL2).2
    obtain ⟨g0, gw, -⟩ := hL2.gc
    have gwk := gw.2.1
    have p1 : Mc2 sp 1 = sp + 1 := hd2.1.1.1
    have n2 : Mc2 (sp + 1) 2 = tw := hd2.2.2.1.1.2.2.1
    have n3 : Mr2 rd 3 = tw := hd2.2.2.1.2.1.2.2.2.1
    have t0 := hd2.2.2.1.2.2.2.1
    have t6 := hd2.2.2.1.2.2.2.2.1
    have r9 := hL2.2.2.1.1
    unfold M_X4_read_p109 M_X4_read_p144
    rw [if_neg (c := w32 1 = 0) (by decide), b_gf kR, c5, w32_id (x := tK f e k2) (by omega) (by omega), b_gf kR, c5, w32_id (x := tK f e k2) (by omega) (by omega)]
    have hes : tK f e k2 ≠ 3 → M_X11_eatsSign (Mr2, Gr) 124 59 = some ((Mr2, Gr), 0) := fun y => by
      unfold M_X11_eatsSign
      rw [tk_ok k124, hsg, if_neg y, Option.bind_some, if_pos (by decide), zb1_ok (Or.inl rfl), Option.bind_some]
    by_cases y0 : tK f e k2 = 0
    · rw [if_pos y0, hes (by omega), bd_some, b_gr kR (by omega), c4, b_gr g0 (by omega), p1, b_gf gwk, n2, w32_id (x := tw) (by omega) (by omega)]
      have hp20 : M_X11_readAll_p20 (Mr2, Gr) 124 = if tw = 0 then some (flR Mr2 6, Gr) else some (Mr2, Gr) := by
        unfold M_X11_readAll_p20 M_X11_readAll_p33
        rw [b_gf k124, r9, y0, if_pos (by decide), b_gr k124 (by omega), m4, b_gf kd, n3, w32_id (x := tw) (by omega) (by omega), X11_flaw_ok hG hL2.r9, Option.bind_some]
      by_cases z : 0 < tw
      · rw [if_pos z]
        rw [if_neg (by omega)] at hp20
        exact ⟨_, rfl, _, rfl, Or.inr ⟨_, _, rfl, rfl, Ok.of hp20 ⟨Mc2, Mr2, rfl, hff, hsh, Or.inl ⟨rfl, hL2.2.2.2.2.2.1, hL2.2.2.2.2.2.2.1, hL2.2.2.2.2.2.2.2, wd, hi, tw, mk, gs, sn, z, hd2⟩⟩⟩⟩
      · rw [if_neg z, X4_fail_ok kR, bd_some, if_pos (by decide)]
        rw [if_pos (by omega)] at hp20
        have hF := hL2.fl (n := 6) (by omega) (by omega)
        exact ⟨_, rfl, _, rfl, Or.inr ⟨_, _, rfl, rfl, Ok.of hp20 (FnK.no (hff.tr hF.2.fs) (sh_t hR hsp hsh hF.2.1) hF.1)⟩⟩
    · rw [if_neg y0]
      by_cases y3 : tK f e k2 = 3
      · rw [if_pos y3]
        obtain ⟨a, ha, b, hb, Mc3, Mr3, rfl, rfl, ht, hL3⟩ := s_take hL2 (by omega)
        have hes3 : M_X11_eatsSign (Mr2, Gr) 124 59 = some ((Mr3, Gr), 1) := by
          unfold M_X11_eatsSign
          rw [tk_ok k124, hsg, if_pos y3, Option.bind_some, if_neg (by decide), hb, Option.bind_some, zb1_ok (Or.inr rfl), Option.bind_some]
        rw [ha, hes3, Option.bind_some, bd_some]
        have hp := tkB (f := f) hL2.2.2.2.2.1
        have hq := tkA (f := f) hL2.2.2.2.2.1
        have := hp.2.2 (by omega)
        exact ⟨_, rfl, _, rfl, Or.inl ⟨Mc3, Mr3, _, wd, hi, tw, mk, gs, sn, rfl, rfl, by omega, hL3, hd2.t hR hsp hrd ht, hff.tr ht.fs⟩⟩
      · rw [if_neg y3, hes y3, bd_some, X4_fail_ok kR, bd_some, zb1_ok (Or.inl rfl), Option.bind_some]
        have hF := hL2.fl (n := 1) (by omega) (by omega)
        have hp20 : M_X11_readAll_p20 (Mr2, Gr) 124 = some (flR Mr2 1, Gr) := by
          unfold M_X11_readAll_p20
          rw [b_gf k124, r9, X11_flaw_ok hG hL2.r9, Option.bind_some, ra_p33_o hF.1, if_neg]
          have hc : tK f e k2 = 1 ∨ tK f e k2 = 2 ∨ tK f e k2 = 4 ∨ tK f e k2 = 5 := by omega
          rcases hc with y | y | y | y <;> rw [y] <;> decide
        exact ⟨_, rfl, _, rfl, Or.inr ⟨_, _, rfl, rfl, Ok.of hp20 (FnK.no (hff.tr hF.2.fs) (sh_t hR hsp hsh hF.2.1) hF.1)⟩⟩
  · rw [bd_some, eats_o hX, bd_some]
    unfold M_X4_read_p109
    rw [if_pos (c := w32 0 = 0) (by decide)]
    exact ⟨_, rfl, _, rfl, Or.inr ⟨_, _, rfl, rfl, Ok.of (ra_p20_o hX) (FnK.no hff hsh hX)⟩⟩
theorem s_read (h : LK Gc Gr R e sp rd f Mc Mr k) (hd : LDv sp rd wd hi tw mk gs sn Mc Mr) : O2 (M_X4_read_w13 FU (Mc, Gc) R 0) (M_X11_readAll_w2 FU (Mr, Gr) 124 1) (FnK Gc Gr R e sp rd f Mc Mr) := by
  have hFU := FU_big
  have he := h.1.1.2.2.2.2.2.1
  have he9 := h.1.1.2.2.2.2.2.2.1
  have hk0 := h.2.2.2.1
  unfold M_X4_read_w13 M_X11_readAll_w2
  have key : O2 (wh (S := (Hp × Int)) (T := (Hp ⊕ (Hp × Int))) (fun a => M_X4_read_b13 a.1 R a.2) FU ((Mc, Gc), 0)) (wh (S := (Hp × Int)) (T := Hp) (fun a => M_X11_readAll_b2 a.1 124 a.2) FU ((Mr, Gr), 1)) (fun t t' => ∃ q, t = .inr q ∧ Ok (M_X11_readAll_p20 t' 124) (FnK Gc Gr R e sp rd f Mc Mr q)) := by
    refine wh_2e (fun i s s' => ∃ Ma Mb k1 wd hi tw mk gs sn, s = ((Ma, Gc), (i : Int)) ∧ s' = ((Mb, Gr), 1) ∧ (i : Int) ≤ k1 ∧ LK Gc Gr R e sp rd f Ma Mb k1 ∧ LDv sp rd wd hi tw mk gs sn Ma Mb ∧ fS R sp rd Mc Mr Ma Mb) _ e.toNat ?_ e.toNat 0 FU FU _ _ (by omega) (by omega) (by omega) ⟨Mc, Mr, k, wd, hi, tw, mk, gs, sn, rfl, rfl, by omega, h, hd, tS.refl.fs⟩
    rintro i _ _ hi' ⟨Ma, Mb, k1, wd, hi, tw, mk, gs, sn, rfl, rfl, hik, hL, hd1, hf⟩
    obtain ⟨a, ha, b, hb, hc⟩ := s_turn (i := i) hL hd1 hf hik
    refine ⟨a, ha, b, hb, ?_⟩
    rcases hc with ⟨Mc2, Mr2, k2, wd, hi, tw, mk, gs, sn, rfl, rfl, hk2, hL2, hd2, hf2⟩ | ⟨q, h', rfl, rfl, hok⟩
    · have hke := hL2.2.2.2.2.1
      exact Or.inl ⟨_, _, rfl, rfl, by omega, Mc2, Mr2, k2, wd, hi, tw, mk, gs, sn, rfl, rfl, by omega, hL2, hd2, hf2⟩
    · exact Or.inr ⟨_, h', rfl, Or.inr ⟨_, rfl, ra_end h'⟩, q, rfl, hok⟩
  obtain ⟨t, ht, t', ht', q, rfl, b, hb, hF⟩ := key
  refine ⟨q, ?_, b, ?_, hF⟩
  · rw [ht, Option.bind_some, exi_r]
  · rw [ht', Option.bind_some, hb]
end RA
