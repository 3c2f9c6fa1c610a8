/-! errors, when both have failed -/
section EX
variable {Mc Mr : Int → Int → Int} {Gc Gr : GG} {R e k sp rd rr t : Int} {f : Int → Int}
theorem p106_o {s a b c : Int} (h : LX Gc Gr R e sp rd f Mc Mr) : M_X11_readError_p106 (Mr, Gr) 124 rr t s a b c = some (Mr, Gr) := by
  have hG := h.hr
  have k124 := gk_124 hG
  have hkd := h.kd
  have m4 := h.m4
  have h9 := h.2.1
  have hp : ∀ v1 v2 v3, M_X11_readError_p244 (Mr, Gr) 124 rr t s v1 v2 v3 = some (Mr, Gr) := fun _ _ _ => p244_o h
  unfold M_X11_readError_p106
  by_cases y1 : w32 s = 1
  · rw [if_pos y1, b_gr k124 (by omega), m4, b_gf hkd.2, readWhole_over hG h9]
    show ((gr 21 (Mr, Gr) 124 4).bind fun x14 => (gf 20 (Mr, Gr) x14 1).bind fun x15 => bd (M_X11_readWhole (Mr, Gr) 124 0 (x15 - 1)) fun h x16 => M_X11_readError_p244 h 124 rr t s a 0 x16) = _
    rw [b_gr k124 (by omega), m4, b_gf hkd.2, readWhole_over hG h9]
    exact hp _ _ _
  · rw [if_neg y1]
    by_cases y2 : w32 s = 2
    · rw [if_pos y2, b_gr k124 (by omega), m4, b_gf hkd.2, readWhole_over hG h9]
      exact hp _ _ _
    · rw [if_neg y2]
      by_cases y3 : w32 s = 3
      · rw [if_pos y3, readWhole_over hG h9]
        show (bd (M_X11_readWhole (Mr, Gr) 124 0 5) fun h x7 => M_X11_readError_p244 h 124 rr t s 0 x7 c) = _
        rw [readWhole_over hG h9]
        exact hp _ _ _
      · rw [if_neg y3]
        by_cases y5 : w32 s = 5
        · rw [if_pos y5, knownMark_over hG h9 m4 (by omega) hkd.2]
          show (if w32 a = w32 0 then (M_X11_flaw (Mr, Gr) 124 3).bind (fun h => M_X11_readError_p221 h 124 rr t s a 0 c) else M_X11_readError_p221 (Mr, Gr) 124 rr t s a 0 c) = _
          have hq : M_X11_readError_p221 (Mr, Gr) 124 rr t s a 0 c = some (Mr, Gr) := by
            unfold M_X11_readError_p221
            rw [X11_over hG h9]
            exact hp _ _ _
          by_cases z : w32 a = w32 0
          · rw [if_pos z, X11_flaw_over hG h9]
            exact hq
          · rw [if_neg z]
            exact hq
        · rw [if_neg y5]
          by_cases y8 : w32 s = 8
          · rw [if_pos y8, readWhole_over hG h9]
            exact hp _ _ _
          · rw [if_neg y8]
            exact hp _ _ _
theorem p100_o {s a b : Int} (h : LX Gc Gr R e sp rd f Mc Mr) : M_X11_readError_p100 (Mr, Gr) 124 rr t s a b = some (Mr, Gr) := by
  have hkd := h.kd
  unfold M_X11_readError_p100
  rw [readMark_over h.hr h.2.1 h.m4 (by omega) hkd.2]
  exact p106_o h
theorem er51_o {s : Int} (h : LX Gc Gr R e sp rd f Mc Mr) : er51 rr t s (Mr, Gr) = some (Mr, Gr) := by
  unfold er51
  rw [p100_o h, p106_o h]
  (repeat' split) <;> rfl
theorem p51_o {s : Int} (h : LX Gc Gr R e sp rd f Mc Mr) : M_X11_readError_p51 (Mr, Gr) 124 rr t s = some (Mr, Gr) := by
  rw [er51_eq, X11_over h.hr h.2.1]
  exact er51_o h
theorem p28_o {s : Int} (h : LX Gc Gr R e sp rd f Mc Mr) : M_X11_readError_p28 (Mr, Gr) 124 rr t s = some (Mr, Gr) := by
  have hG := h.hr
  have k124 := gk_124 hG
  have hkd := h.kd
  have m4 := h.m4
  have h9 := h.2.1
  unfold M_X11_readError_p28
  by_cases y : w32 s = 10
  · rw [if_pos y, b_gr k124 (by omega), m4, b_gf hkd.2, X11_flaw_over hG h9, p51_o h]
    split <;> first | rfl | exact p51_o h
  · rw [if_neg y]
    exact p51_o h
theorem readError_o {fl : Int} (h : LX Gc Gr R e sp rd f Mc Mr) : M_X11_readError (Mr, Gr) 124 rr t fl = some (Mr, Gr) := by
  have hG := h.hr
  have k124 := gk_124 hG
  unfold M_X11_readError M_X11_readError_p23
  rw [tk_ok k124, rErr_over hG h.2.1, Option.bind_some, if_pos (by decide), X11_flaw_over hG h.2.1]
  exact p28_o h
end EX
