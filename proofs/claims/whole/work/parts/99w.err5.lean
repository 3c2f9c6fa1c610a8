/-! all errors -/
/-- the reference behind the sort of an error -/
def er51 (rr t s : Int) (h : Hp) : Option Hp := if w32 s = 1 then M_X11_readError_p100 h 124 rr t s (-2) (-2) else if w32 s = 6 then M_X11_readError_p100 h 124 rr t s (-2) (-2) else if w32 s = 7 then M_X11_readError_p100 h 124 rr t s (-2) (-2) else if w32 s = 9 then M_X11_readError_p100 h 124 rr t s (-2) (-2) else if w32 s = 5 then M_X11_readError_p100 h 124 rr t s (-2) (-2) else M_X11_readError_p106 h 124 rr t s (-2) (-2) (-2)
theorem er51_eq {rr t s : Int} {h : Hp} : M_X11_readError_p51 h 124 rr t s = (M_X11_goesOn h 124).bind (er51 rr t s) := rfl
section EW
variable {Mc Mr Mc1 Mr1 Mc2 Mr2 : Int → Int → Int} {Gc Gr : GG} {R e k sp rd wd hi tw mk gs sn x ro o n rr t q : Int} {f : Int → Int}
theorem er_w28 {h : Hp} {i s : Int} (m : Nat) (i0 : 0 ≤ i) (i1 : i < 27) (hl : slen i = m) (hm : m < 5) (hp : M_X4_errorParts h s = some i) : ((M_X4_errorParts h s).bind fun x5 => M_X4_readError_w28 FU h R ro o x5 0) = erL R ro o i m 0 h := by
  rw [hp, Option.bind_some]
  have hF : FU = m + 1 + (999999 - m) := by
    have : FU = 1000000 := rfl
    omega
  rw [hF]
  exact w28_un i0 i1 (by omega) _ m 0 h (by omega) (by omega)
theorem p106_0 {h : Hp} {s a b c : Int} (hs : s = 0 ∨ s = 4 ∨ s = 6 ∨ s = 7 ∨ s = 9 ∨ s = 10) : M_X11_readError_p106 h 124 rr t s a b c = M_X11_readError_p244 h 124 rr t s a b c := by
  unfold M_X11_readError_p106
  rcases hs with rfl | rfl | rfl | rfl | rfl | rfl <;> rw [if_neg (by decide), if_neg (by decide), if_neg (by decide), if_neg (by decide), if_neg (by decide)]
theorem s_err {s : Int} (h : LK Gc Gr R e sp rd f Mc Mr k) (hsC : szC sp wd hi mk Mc) (hsR : szR rd wd hi mk Mr) (hdim : (2 ≤ wd ∧ wd ≤ 6) ∧ (2 ≤ hi ∧ hi ≤ 6) ∧ 2 ≤ mk ∧ mk ≤ 6) (hr : ro ≠ R) (hr2 : ro ≠ 1) (hr3 : ro = sp + 4 ∨ ro = sp + 6) (kr : Gc.1 ro = 1) (lr : Gc.2.1 ro = n) (o0 : 0 ≤ o) (on : o + 3 < n) (n9 : n ≤ 100) (e1 : Mc ro (o + 1) = -2) (e2 : Mc ro (o + 2) = -2) (e3 : Mc ro (o + 3) = -2) (s0 : 0 ≤ s) (s1 : s ≤ 10) : ErK Gc Gr R e sp rd f Mc Mr k wd hi mk ro o rr t s ((M_X4_errorParts (Mc, Gc) s).bind fun x5 => M_X4_readError_w28 FU (Mc, Gc) R ro o x5 0) (er51 rr t s (Mr, Gr)) := by
  have hG := h.hr
  have k124 := gk_124 hG
  have hrd := h.kd.1
  have kd := h.kd.2
  have m4 := h.m4
  have n0 := hsR.1
  have hmk : ∀ s, s = 6 ∨ s = 7 ∨ s = 9 → ErK Gc Gr R e sp rd f Mc Mr k wd hi mk ro o rr t s (erL R ro o 24 1 0 (Mc, Gc)) (bd (M_X11_readMark (Mr, Gr) 124) fun h x => M_X11_readError_p244 h 124 rr t s x (-2) (-2)) := by
    intro s hs
    refine er_one (lo := 0) (top := mk - 1) (r := fun h => M_X11_readMark h 124) h hr hr2 kr lr o0 on n9 e1 e2 e3 (by omega) (by omega) ?_ (fun v v0 v1 => by unfold errB; omega)
    rw [show sch 24 0 = 109 by decide, pd_m h]
    exact s_mark h hsC.2.2.2 hsR.2.2 (by omega) (by omega)
  have hp100 : ∀ s, s = 6 ∨ s = 7 ∨ s = 9 → M_X11_readError_p100 (Mr, Gr) 124 rr t s (-2) (-2) = bd (M_X11_readMark (Mr, Gr) 124) fun h x => M_X11_readError_p244 h 124 rr t s x (-2) (-2) := by
    intro s hs
    unfold M_X11_readError_p100
    congr 1
    funext h x
    exact p106_0 (by omega)
  have hc : s = 0 ∨ s = 1 ∨ s = 2 ∨ s = 3 ∨ s = 4 ∨ s = 5 ∨ s = 6 ∨ s = 7 ∨ s = 8 ∨ s = 9 ∨ s = 10 := by omega
  rcases hc with rfl | rfl | rfl | rfl | rfl | rfl | rfl | rfl | rfl | rfl | rfl
  · rw [er_w28 (i := 26) 0 (by omega) (by omega) (by decide) (by omega) rfl, show er51 rr t 0 (Mr, Gr) = M_X11_readError_p106 (Mr, Gr) 124 rr t 0 (-2) (-2) (-2) from rfl]
    exact er_none h hr (by omega) e1 e2 e3
  · rw [er_w28 (i := 20) 3 (by omega) (by omega) (by decide) (by omega) rfl, show er51 rr t 1 (Mr, Gr) = bd (M_X11_readMark (Mr, Gr) 124) (fun h x17 => M_X11_readError_p106 h 124 rr t 1 x17 (-2) (-2)) from rfl]
    exact er_blot h hsC hsR hdim hr hr2 hr3 kr lr o0 on n9 e1
  · have hq : er51 rr t 2 (Mr, Gr) = bd (M_X11_readWhole (Mr, Gr) 124 1 (wd - 1)) fun h x => M_X11_readError_p244 h 124 rr t 2 x (-2) (-2) := by
      rw [show er51 rr t 2 (Mr, Gr) = M_X11_readError_p106 (Mr, Gr) 124 rr t 2 (-2) (-2) (-2) from rfl]
      unfold M_X11_readError_p106
      rw [if_neg (by decide), if_pos (by decide), b_gr k124 (by omega), m4, b_gf kd, n0]
    rw [er_w28 (i := 21) 1 (by omega) (by omega) (by decide) (by omega) rfl, hq]
    refine er_one (lo := 1) (top := wd - 1) (r := fun h => M_X11_readWhole h 124 1 (wd - 1)) h hr hr2 kr lr o0 on n9 e1 e2 e3 (by omega) (by omega) ?_ (fun v v0 v1 => by unfold errB; omega)
    rw [show sch 21 0 = 102 by decide, pd_f h hsC]
    exact s_whole h (by omega) (by omega) (by omega) (by omega)
  · have hq : er51 rr t 3 (Mr, Gr) = bd (M_X11_readWhole (Mr, Gr) 124 0 5) fun h x6 => bd (M_X11_readWhole h 124 0 5) fun h x7 => M_X11_readError_p244 h 124 rr t 3 x6 x7 (-2) := by
      rw [show er51 rr t 3 (Mr, Gr) = M_X11_readError_p106 (Mr, Gr) 124 rr t 3 (-2) (-2) (-2) from rfl]
      unfold M_X11_readError_p106
      rw [if_neg (by decide), if_neg (by decide), if_pos (by decide)]
    rw [er_w28 (i := 22) 2 (by omega) (by omega) (by decide) (by omega) rfl, hq]
    exact er_shift h hr hr2 kr lr o0 on n9 e1 e3
  · rw [er_w28 (i := 26) 0 (by omega) (by omega) (by decide) (by omega) rfl, show er51 rr t 4 (Mr, Gr) = M_X11_readError_p106 (Mr, Gr) 124 rr t 4 (-2) (-2) (-2) from rfl]
    exact er_none h hr (by omega) e1 e2 e3
  · rw [er_w28 (i := 23) 2 (by omega) (by omega) (by decide) (by omega) rfl, show er51 rr t 5 (Mr, Gr) = bd (M_X11_readMark (Mr, Gr) 124) (fun h x17 => M_X11_readError_p106 h 124 rr t 5 x17 (-2) (-2)) from rfl]
    exact er_swap h hsC hsR hdim.2.2 hr hr2 hr3 kr lr o0 on n9 e1 e3
  · rw [er_w28 (i := 24) 1 (by omega) (by omega) (by decide) (by omega) rfl, show er51 rr t 6 (Mr, Gr) = M_X11_readError_p100 (Mr, Gr) 124 rr t 6 (-2) (-2) from rfl, hp100 6 (by omega)]
    exact hmk 6 (by omega)
  · rw [er_w28 (i := 24) 1 (by omega) (by omega) (by decide) (by omega) rfl, show er51 rr t 7 (Mr, Gr) = M_X11_readError_p100 (Mr, Gr) 124 rr t 7 (-2) (-2) from rfl, hp100 7 (by omega)]
    exact hmk 7 (by omega)
  · have hq : er51 rr t 8 (Mr, Gr) = bd (M_X11_readWhole (Mr, Gr) 124 5 9) fun h x => M_X11_readError_p244 h 124 rr t 8 x (-2) (-2) := by
      rw [show er51 rr t 8 (Mr, Gr) = M_X11_readError_p106 (Mr, Gr) 124 rr t 8 (-2) (-2) (-2) from rfl]
      unfold M_X11_readError_p106
      rw [if_neg (by decide), if_neg (by decide), if_neg (by decide), if_neg (by decide), if_pos (by decide)]
    rw [er_w28 (i := 25) 1 (by omega) (by omega) (by decide) (by omega) rfl, hq]
    refine er_one (lo := 5) (top := 9) (r := fun h => M_X11_readWhole h 124 5 9) h hr hr2 kr lr o0 on n9 e1 e2 e3 (by omega) (by omega) ?_ (fun v v0 v1 => by unfold errB; omega)
    rw [show sch 25 0 = 116 by decide, pd_t h]
    exact s_whole h (by omega) (by omega) (by omega) (by omega)
  · rw [er_w28 (i := 24) 1 (by omega) (by omega) (by decide) (by omega) rfl, show er51 rr t 9 (Mr, Gr) = M_X11_readError_p100 (Mr, Gr) 124 rr t 9 (-2) (-2) from rfl, hp100 9 (by omega)]
    exact hmk 9 (by omega)
  · rw [er_w28 (i := 26) 0 (by omega) (by omega) (by decide) (by omega) rfl, show er51 rr t 10 (Mr, Gr) = M_X11_readError_p106 (Mr, Gr) 124 rr t 10 (-2) (-2) (-2) from rfl]
    exact er_none h hr (by omega) e1 e2 e3
end EW
