/-! the swap; all errors -/
section EV
variable {Mc Mr Mc1 Mr1 Mc2 Mr2 : Int → Int → Int} {Gc Gr : GG} {R e k sp rd wd hi tw mk gs sn x ro o n rr t q : Int} {f : Int → Int}
/-- the second mark, in the reference -/
def swR (q : Int) (h : Hp) : Option (Hp × Int) := bd (M_X11_knownMark h 124) fun h x5 => if w32 q = w32 x5 then (M_X11_flaw h 124 3).bind fun h => (M_X11_goesOn h 124).bind fun h => some (h, x5) else (M_X11_goesOn h 124).bind fun h => some (h, x5)
theorem sw_eq {h : Hp} : M_X11_readError_p106 h 124 rr t 5 q (-2) (-2) = bd (swR q h) fun h x => M_X11_readError_p244 h 124 rr t 5 q x (-2) := by
  unfold M_X11_readError_p106 swR M_X11_readError_p221
  rw [if_neg (by decide), if_neg (by decide), if_neg (by decide), if_pos (by decide)]
  unfold bd
  cases M_X11_knownMark h 124 with
  | none => rfl
  | some a =>
    rw [Option.bind_some, Option.bind_some]
    dsimp only
    by_cases y : w32 q = w32 a.2
    · rw [if_pos y, if_pos y]
      cases M_X11_flaw a.1 124 3 with
      | none => rfl
      | some b =>
        rw [Option.bind_some, Option.bind_some]
        cases M_X11_goesOn b 124 <;> rfl
    · rw [if_neg y, if_neg y]
      cases M_X11_goesOn a.1 124 <;> rfl
theorem swR_t (hG : gAll Gr) {M : Int → Int → Int} (h9 : M 124 9 = 5) (x : Int) : (if w32 q = w32 x then (M_X11_flaw (M, Gr) 124 3).bind fun h => (M_X11_goesOn h 124).bind fun h => some (h, x) else (M_X11_goesOn (M, Gr) 124).bind fun h => some (h, x)) = some ((M, Gr), x) := by
  by_cases y : w32 q = w32 x
  · rw [if_pos y, X11_flaw_over hG h9, Option.bind_some, X11_over hG h9]
    rfl
  · rw [if_neg y, X11_over hG h9]
    rfl
theorem s_mark2 (h : LK Gc Gr R e sp rd f Mc Mr k) (hm : Mc sp 0 = mk) (hm2 : Mr rd 2 = mk) (m0 : 0 ≤ mk) (m6 : mk ≤ 6) (q0 : 0 ≤ q) (q1 : q ≤ 10) : O2 (M_X4_markDue (Mc, Gc) R q) (swR q (Mr, Gr)) (SvK Gc Gr R e sp rd f Mc Mr k 0 (mk - 1)) := by
  have hG := h.hr
  have k124 := gk_124 hG
  have hc := markDue_ok h hm m0 m6 (q := q) (by omega) (by omega)
  have hr := knownMark_ok h hm2 m0 m6
  have ke := h.2.2.2.2.1
  unfold swR
  rcases hr with ⟨a, b, c⟩ | ⟨a, b, c⟩ | ⟨a, c⟩
  · have hb := tkL ke _ (Int.le_refl _) (tk1 a).1
    have hb2 := b.2 0 (by omega) (by omega)
    rw [Int.add_zero] at hb2
    by_cases y : f (tA f e k) - 97 = q
    · rw [hc.2.2.1 a b y]
      have hF := h.fl (n := 3) (by omega) (by omega)
      refine ⟨_, rfl, ((flR Mr 3, Gr), f (tA f e k) - 97), ?_, _, _, hF.2, Or.inr ⟨rfl, ⟨_, rfl⟩, hF.1⟩⟩
      rw [c]
      show (if w32 q = w32 (f (tA f e k) - 97) then (M_X11_flaw (Mr, Gr) 124 3).bind (fun h => (M_X11_goesOn h 124).bind fun h => some (h, f (tA f e k) - 97)) else (M_X11_goesOn (Mr, Gr) 124).bind fun h => some (h, f (tA f e k) - 97)) = _
      rw [if_pos (by rw [y]), X11_flaw_ok hG h.r9, Option.bind_some, X11_over hG hF.1.2.1]
      rfl
    · rw [hc.2.2.2 a b y]
      rw [c]
      show O2 _ (if w32 q = w32 (f (tA f e k) - 97) then (M_X11_flaw (Mr, Gr) 124 3).bind (fun h => (M_X11_goesOn h 124).bind fun h => some (h, f (tA f e k) - 97)) else (M_X11_goesOn (Mr, Gr) 124).bind fun h => some (h, f (tA f e k) - 97)) _
      rw [if_neg (by rw [w32_id (x := q) (by omega) (by omega), w32_id (by omega) (by omega)]; exact fun z => y z.symm)]
      refine O2.bind (s_take h (by omega)) ?_
      rintro _ _ ⟨Mc1, Mr1, rfl, rfl, ht, hL⟩
      have hp := tkB (f := f) ke
      have hq := tkA (f := f) ke
      exact O2.ret ⟨Mc1, Mr1, ht, Or.inl ⟨_, rfl, rfl, by omega, by omega, _, by have := hp.2.2 (by omega); omega, hL⟩⟩
  · rw [hc.2.1 a b]
    have hF := h.fl (n := 7) (by omega) (by omega)
    refine ⟨_, rfl, ((flR Mr 7, Gr), 0), ?_, _, _, hF.2, Or.inr ⟨rfl, ⟨_, rfl⟩, hF.1⟩⟩
    rw [c]
    exact swR_t hG hF.1.2.1 0
  · rw [hc.1 a]
    have hF := h.fl (n := 1) (by omega) (by omega)
    refine ⟨_, rfl, ((flR Mr 1, Gr), 0), ?_, _, _, hF.2, Or.inr ⟨rfl, ⟨_, rfl⟩, hF.1⟩⟩
    rw [c]
    exact swR_t hG hF.1.2.1 0
theorem er_swap (h : LK Gc Gr R e sp rd f Mc Mr k) (hsC : szC sp wd hi mk Mc) (hsR : szR rd wd hi mk Mr) (hdim : 2 ≤ mk ∧ mk ≤ 6) (hr : ro ≠ R) (hr2 : ro ≠ 1) (hr3 : ro = sp + 4 ∨ ro = sp + 6) (kr : Gc.1 ro = 1) (lr : Gc.2.1 ro = n) (o0 : 0 ≤ o) (on : o + 3 < n) (n9 : n ≤ 100) (e1 : Mc ro (o + 1) = -2) (e3 : Mc ro (o + 3) = -2) : ErK Gc Gr R e sp rd f Mc Mr k wd hi mk ro o rr t 5 (erL R ro o 23 2 0 (Mc, Gc)) (bd (M_X11_readMark (Mr, Gr) 124) fun h x17 => M_X11_readError_p106 h 124 rr t 5 x17 (-2) (-2)) := by
  have hG := h.hr
  have hsp := h.1.2.2.2.2
  have hR := h.1.1.2.1
  have hrd := h.kd.1
  have kd := h.kd.2
  have hp1 : O2 (M_X4_partDue (Mc, Gc) R (sch 23 0) (-2)) (M_X11_readMark (Mr, Gr) 124) (SvK Gc Gr R e sp rd f Mc Mr k 0 (mk - 1)) := by
    rw [show sch 23 0 = 109 by decide, pd_m h]
    exact s_mark h hsC.2.2.2 hsR.2.2 (by omega) (by omega)
  rcases er_step (ro := ro) (o := o) (l := 0) (Kc := erL R ro o 23 1 (0 + 1)) (g := fun h x17 => M_X11_readError_p106 h 124 rr t 5 x17 (-2) (-2)) hp1 e1 hr hr2 kr lr o0 (by omega) (by omega) on n9 (by omega) (by omega) with ⟨Mc1, Mr1, v, k1, hE, v0, v5, hk, hL, hro, hc, hq⟩ | ⟨Mc1, Mr1, v, hE, hF, hc, hq⟩
  · have e1' : Mc1 ro (o + 1) = v := by rw [hro, Int.add_zero, u1_s]
    have e3' : Mc1 ro (o + 3) = -2 := by rw [hro, u1_k _ _ (by omega)]; exact e3
    have hsC1 := hsC.ef (by omega) (by omega) (by omega) (by omega) hE
    have hsR1 := hsR.ef (by omega) hE
    have hp2 : O2 (M_X4_partDue (Mc1, Gc) R (sch 23 (0 + 1)) v) (swR v (Mr1, Gr)) (SvK Gc Gr R e sp rd f Mc1 Mr1 k1 0 (mk - 1)) := by
      rw [show sch 23 (0 + 1) = 111 by decide, pd_o hL]
      exact s_mark2 hL hsC1.2.2.2 hsR1.2.2 (by omega) (by omega) v0 (by omega)
    rcases er_step (ro := ro) (o := o) (l := 0 + 1) (Kc := erL R ro o 23 0 (0 + 1 + 1)) (g := fun h x => M_X11_readError_p244 h 124 rr t 5 v x (-2)) hp2 e1' hr hr2 kr lr o0 (by omega) (by omega) on n9 (by omega) (by omega) with ⟨Mc2, Mr2, w, k2, hE2, w0, w5, hk2, hL2, hro2, hc2, hq2⟩ | ⟨Mc2, Mr2, w, hE2, hF, hc2, hq2⟩
    · refine ⟨Mc2, Mr2, hE.tr hE2, Or.inl ⟨v, w, -2, k2, hc.trans hc2, ?_, by omega, hL2, ?_, ?_, ?_, ?_⟩⟩
      · rw [hq]; exact sw_eq.trans hq2
      · unfold errB; omega
      · rw [hro2, u1_k _ _ (by omega)]; exact e1'
      · rw [hro2, show o + 1 + (0 + 1) = o + 2 by omega, u1_s]
      · rw [hro2, u1_k _ _ (by omega)]; exact e3'
    · refine ⟨Mc2, Mr2, hE.tr hE2, Or.inr ⟨hc.trans hc2, ?_, hF⟩⟩
      rw [hq]; exact sw_eq.trans (hq2.trans (p244_o hF))
  · refine ⟨Mc1, Mr1, hE, Or.inr ⟨hc, ?_, hF⟩⟩
    rw [hq]
    show M_X11_readError_p106 (Mr1, Gr) 124 rr t 5 v (-2) (-2) = _
    rw [sw_eq]
    unfold swR
    rw [knownMark_over hG hF.2.1 hF.m4 (by omega) kd]
    show bd (if w32 v = w32 0 then (M_X11_flaw (Mr1, Gr) 124 3).bind (fun h => (M_X11_goesOn h 124).bind fun h => some (h, (0 : Int))) else (M_X11_goesOn (Mr1, Gr) 124).bind fun h => some (h, 0)) _ = _
    rw [swR_t hG hF.2.1 0]
    exact p244_o hF
end EV
