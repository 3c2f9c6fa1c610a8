/-! errors of two and three parts -/
section EU
variable {Mc Mr Mc1 Mr1 Mc2 Mr2 : Int → Int → Int} {Gc Gr : GG} {R e k sp rd wd hi tw mk gs sn x ro o n rr t : Int} {f : Int → Int}
theorem er_shift (h : LK Gc Gr R e sp rd f Mc Mr k) (hr : ro ≠ R) (hr2 : ro ≠ 1) (kr : Gc.1 ro = 1) (lr : Gc.2.1 ro = n) (o0 : 0 ≤ o) (on : o + 3 < n) (n9 : n ≤ 100) (e1 : Mc ro (o + 1) = -2) (e3 : Mc ro (o + 3) = -2) : ErK Gc Gr R e sp rd f Mc Mr k wd hi mk ro o rr t 3 (erL R ro o 22 2 0 (Mc, Gc)) (bd (M_X11_readWhole (Mr, Gr) 124 0 5) fun h x6 => bd (M_X11_readWhole h 124 0 5) fun h x7 => M_X11_readError_p244 h 124 rr t 3 x6 x7 (-2)) := by
  have hG := h.hr
  have hp1 : O2 (M_X4_partDue (Mc, Gc) R (sch 22 0) (-2)) (M_X11_readWhole (Mr, Gr) 124 0 5) (SvK Gc Gr R e sp rd f Mc Mr k 0 5) := by
    rw [show sch 22 0 = 115 by decide, pd_s h]
    exact s_whole h (by omega) (by omega) (by omega) (by omega)
  rcases er_step (ro := ro) (o := o) (l := 0) (Kc := erL R ro o 22 1 (0 + 1)) (g := fun h x6 => bd (M_X11_readWhole h 124 0 5) fun h x7 => M_X11_readError_p244 h 124 rr t 3 x6 x7 (-2)) hp1 e1 hr hr2 kr lr o0 (by omega) (by omega) on n9 (by omega) (by omega) with ⟨Mc1, Mr1, v, k1, hE, v0, v5, hk, hL, hro, hc, hq⟩ | ⟨Mc1, Mr1, v, hE, hF, hc, hq⟩
  · have e1' : Mc1 ro (o + 1) = v := by rw [hro, Int.add_zero, u1_s]
    have e3' : Mc1 ro (o + 3) = -2 := by rw [hro, u1_k _ _ (by omega)]; exact e3
    have hp2 : O2 (M_X4_partDue (Mc1, Gc) R (sch 22 (0 + 1)) v) (M_X11_readWhole (Mr1, Gr) 124 0 5) (SvK Gc Gr R e sp rd f Mc1 Mr1 k1 0 5) := by
      rw [show sch 22 (0 + 1) = 115 by decide, pd_s hL]
      exact s_whole hL (by omega) (by omega) (by omega) (by omega)
    rcases er_step (ro := ro) (o := o) (l := 0 + 1) (Kc := erL R ro o 22 0 (0 + 1 + 1)) (g := fun h x7 => M_X11_readError_p244 h 124 rr t 3 v x7 (-2)) hp2 e1' hr hr2 kr lr o0 (by omega) (by omega) on n9 (by omega) (by omega) with ⟨Mc2, Mr2, w, k2, hE2, w0, w5, hk2, hL2, hro2, hc2, hq2⟩ | ⟨Mc2, Mr2, w, hE2, hF, hc2, hq2⟩
    · refine ⟨Mc2, Mr2, hE.tr hE2, Or.inl ⟨v, w, -2, k2, hc.trans hc2, hq.trans hq2, by omega, hL2, ?_, ?_, ?_, ?_⟩⟩
      · unfold errB; omega
      · rw [hro2, u1_k _ _ (by omega)]; exact e1'
      · rw [hro2, show o + 1 + (0 + 1) = o + 2 by omega, u1_s]
      · rw [hro2, u1_k _ _ (by omega)]; exact e3'
    · exact ⟨Mc2, Mr2, hE.tr hE2, Or.inr ⟨hc.trans hc2, by rw [hq]; exact hq2.trans (p244_o hF), hF⟩⟩
  · refine ⟨Mc1, Mr1, hE, Or.inr ⟨hc, ?_, hF⟩⟩
    rw [hq]
    show bd (M_X11_readWhole (Mr1, Gr) 124 0 5) _ = _
    rw [readWhole_over hG hF.2.1]
    exact p244_o hF
/-- the reference's parts of a blot behind its mark -/
def bl2 (rr t : Int) (h : Hp) (v x13 : Int) : Option Hp := (gr 21 h 124 4).bind fun x14 => (gf 20 h x14 1).bind fun x15 => bd (M_X11_readWhole h 124 0 (x15 - 1)) fun h x16 => M_X11_readError_p244 h 124 rr t 1 v x13 x16
def bl1 (rr t : Int) (h : Hp) (v : Int) : Option Hp := (gr 21 h 124 4).bind fun x11 => (gf 20 h x11 0).bind fun x12 => bd (M_X11_readWhole h 124 0 (x12 - 1)) fun h x13 => bl2 rr t h v x13
theorem bl1_eq {h : Hp} {v : Int} : M_X11_readError_p106 h 124 rr t 1 v (-2) (-2) = bl1 rr t h v := by
  unfold M_X11_readError_p106
  rw [if_pos (by decide)]
  rfl
theorem er_blot (h : LK Gc Gr R e sp rd f Mc Mr k) (hsC : szC sp wd hi mk Mc) (hsR : szR rd wd hi mk Mr) (hdim : (2 ≤ wd ∧ wd ≤ 6) ∧ (2 ≤ hi ∧ hi ≤ 6) ∧ 2 ≤ mk ∧ mk ≤ 6) (hr : ro ≠ R) (hr2 : ro ≠ 1) (hr3 : ro = sp + 4 ∨ ro = sp + 6) (kr : Gc.1 ro = 1) (lr : Gc.2.1 ro = n) (o0 : 0 ≤ o) (on : o + 3 < n) (n9 : n ≤ 100) (e1 : Mc ro (o + 1) = -2) : ErK Gc Gr R e sp rd f Mc Mr k wd hi mk ro o rr t 1 (erL R ro o 20 3 0 (Mc, Gc)) (bd (M_X11_readMark (Mr, Gr) 124) fun h x17 => M_X11_readError_p106 h 124 rr t 1 x17 (-2) (-2)) := by
  have hG := h.hr
  have k124 := gk_124 hG
  have hsp := h.1.2.2.2.2
  have hR := h.1.1.2.1
  have hrd := h.kd.1
  have kd := h.kd.2
  have hp1 : O2 (M_X4_partDue (Mc, Gc) R (sch 20 0) (-2)) (M_X11_readMark (Mr, Gr) 124) (SvK Gc Gr R e sp rd f Mc Mr k 0 (mk - 1)) := by
    rw [show sch 20 0 = 109 by decide, pd_m h]
    exact s_mark h hsC.2.2.2 hsR.2.2 (by omega) (by omega)
  rcases er_step (ro := ro) (o := o) (l := 0) (Kc := erL R ro o 20 2 (0 + 1)) (g := fun h x17 => M_X11_readError_p106 h 124 rr t 1 x17 (-2) (-2)) hp1 e1 hr hr2 kr lr o0 (by omega) (by omega) on n9 (by omega) (by omega) with ⟨Mc1, Mr1, v, k1, hE, v0, v5, hk, hL, hro, hc, hq⟩ | ⟨Mc1, Mr1, v, hE, hF, hc, hq⟩
  · have e1' : Mc1 ro (o + 1) = v := by rw [hro, Int.add_zero, u1_s]
    have hsC1 := hsC.ef (by omega) (by omega) (by omega) (by omega) hE
    have hsR1 := hsR.ef (by omega) hE
    have m4 := hL.m4
    have n0 := hsR1.1
    have hq1 : M_X11_readError_p106 (Mr1, Gr) 124 rr t 1 v (-2) (-2) = bd (M_X11_readWhole (Mr1, Gr) 124 0 (wd - 1)) fun h x13 => bl2 rr t h v x13 := by
      rw [bl1_eq]
      unfold bl1
      rw [b_gr k124 (by omega), m4, b_gf kd, n0]
    have hp2 : O2 (M_X4_partDue (Mc1, Gc) R (sch 20 (0 + 1)) v) (M_X11_readWhole (Mr1, Gr) 124 0 (wd - 1)) (SvK Gc Gr R e sp rd f Mc1 Mr1 k1 0 (wd - 1)) := by
      rw [show sch 20 (0 + 1) = 120 by decide, pd_x hL hsC1]
      exact s_whole hL (by omega) (by omega) (by omega) (by omega)
    rcases er_step (ro := ro) (o := o) (l := 0 + 1) (Kc := erL R ro o 20 1 (0 + 1 + 1)) (g := fun h x13 => bl2 rr t h v x13) hp2 e1' hr hr2 kr lr o0 (by omega) (by omega) on n9 (by omega) (by omega) with ⟨Mc2, Mr2, w, k2, hE2, w0, w5, hk2, hL2, hro2, hc2, hq2⟩ | ⟨Mc2, Mr2, w, hE2, hF, hc2, hq2⟩
    · have e1'' : Mc2 ro (o + 1) = v := by rw [hro2, u1_k _ _ (by omega)]; exact e1'
      have e2'' : Mc2 ro (o + 2) = w := by rw [hro2, show o + 1 + (0 + 1) = o + 2 by omega, u1_s]
      have hsC2 := hsC1.ef (by omega) (by omega) (by omega) (by omega) hE2
      have hsR2 := hsR1.ef (by omega) hE2
      have m42 := hL2.m4
      have n1 := hsR2.2.1
      have hq3 : bl2 rr t (Mr2, Gr) v w = bd (M_X11_readWhole (Mr2, Gr) 124 0 (hi - 1)) fun h x16 => M_X11_readError_p244 h 124 rr t 1 v w x16 := by
        unfold bl2
        rw [b_gr k124 (by omega), m42, b_gf kd, n1]
      have hp3 : O2 (M_X4_partDue (Mc2, Gc) R (sch 20 (0 + 1 + 1)) v) (M_X11_readWhole (Mr2, Gr) 124 0 (hi - 1)) (SvK Gc Gr R e sp rd f Mc2 Mr2 k2 0 (hi - 1)) := by
        rw [show sch 20 (0 + 1 + 1) = 121 by decide, pd_y hL2 hsC2]
        exact s_whole hL2 (by omega) (by omega) (by omega) (by omega)
      rcases er_step (ro := ro) (o := o) (l := 0 + 1 + 1) (Kc := erL R ro o 20 0 (0 + 1 + 1 + 1)) (g := fun h x16 => M_X11_readError_p244 h 124 rr t 1 v w x16) hp3 e1'' hr hr2 kr lr o0 (by omega) (by omega) on n9 (by omega) (by omega) with ⟨Mc3, Mr3, u, k3, hE3, u0, u5, hk3, hL3, hro3, hc3, hq4⟩ | ⟨Mc3, Mr3, u, hE3, hF, hc3, hq4⟩
      · refine ⟨Mc3, Mr3, (hE.tr hE2).tr hE3, Or.inl ⟨v, w, u, k3, hc.trans (hc2.trans hc3), ?_, by omega, hL3, ?_, ?_, ?_, ?_⟩⟩
        · rw [hq]; exact hq1.trans (hq2.trans (hq3.trans hq4))
        · unfold errB; omega
        · rw [hro3, u1_k _ _ (by omega)]; exact e1''
        · rw [hro3, u1_k _ _ (by omega)]; exact e2''
        · rw [hro3, show o + 1 + (0 + 1 + 1) = o + 3 by omega, u1_s]
      · refine ⟨Mc3, Mr3, (hE.tr hE2).tr hE3, Or.inr ⟨hc.trans (hc2.trans hc3), ?_, hF⟩⟩
        rw [hq]; exact hq1.trans (hq2.trans (hq3.trans (hq4.trans (p244_o hF))))
    · refine ⟨Mc2, Mr2, hE.tr hE2, Or.inr ⟨hc.trans hc2, ?_, hF⟩⟩
      rw [hq]
      refine hq1.trans (hq2.trans ?_)
      have m42 := hF.m4
      show bl2 rr t (Mr2, Gr) v w = _
      unfold bl2
      rw [b_gr k124 (by omega), m42, b_gf kd, readWhole_over hG hF.2.1]
      exact p244_o hF
  · refine ⟨Mc1, Mr1, hE, Or.inr ⟨hc, ?_, hF⟩⟩
    have m41 := hF.m4
    rw [hq]
    show M_X11_readError_p106 (Mr1, Gr) 124 rr t 1 v (-2) (-2) = _
    rw [bl1_eq]
    unfold bl1
    rw [b_gr k124 (by omega), m41, b_gf kd, readWhole_over hG hF.2.1]
    show bl2 rr t (Mr1, Gr) v 0 = _
    unfold bl2
    rw [b_gr k124 (by omega), m41, b_gf kd, readWhole_over hG hF.2.1]
    exact p244_o hF
end EU
