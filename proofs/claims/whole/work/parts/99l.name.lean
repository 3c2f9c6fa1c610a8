/-! one mark; names -/
section NM
variable {Mc Mr Mc1 Mr1 : Int → Int → Int} {Gc Gr : GG} {R e k sp rd mk n q : Int} {f : Int → Int}
theorem knownMark_over (hG : gAll Gr) (h9 : Mr 124 9 = 5) (h4 : Mr 124 4 = rd) (r0 : 0 ≤ rd) (kd : Gr.1 rd = 20) : M_X11_knownMark (Mr, Gr) 124 = some ((Mr, Gr), 0) := by
  have k124 := gk_124 hG
  apply Ok.eq
  unfold M_X11_knownMark
  refine k_tk k124 ?_
  refine k_eq (checksMarks_over hG h9 h4 r0 kd (by omega) (by omega)) ?_
  refine k_gf k124 h9 ?_
  exact k_ifT (by decide) (Ok.ret rfl)
theorem readMark_over (hG : gAll Gr) (h9 : Mr 124 9 = 5) (h4 : Mr 124 4 = rd) (r0 : 0 ≤ rd) (kd : Gr.1 rd = 20) : M_X11_readMark (Mr, Gr) 124 = some ((Mr, Gr), 0) := by
  have k124 := gk_124 hG
  apply Ok.eq
  unfold M_X11_readMark
  refine k_tk k124 ?_
  refine k_bd (knownMark_over hG h9 h4 r0 kd) ?_
  exact k_eq (X11_over hG h9) (Ok.ret rfl)
theorem LK.m4 (h : LK Gc Gr R e sp rd f Mc Mr k) : Mr 124 4 = rd := h.1.2.1.2.2.2.2.2.1
theorem LX.m4 (h : LX Gc Gr R e sp rd f Mc Mr) : Mr 124 4 = rd := h.1.2.1.2.2.2.2.2.1
theorem LK.kd (h : LK Gc Gr R e sp rd f Mc Mr k) : 146 ≤ rd ∧ Gr.1 rd = 20 := ⟨h.1.2.2.2.1.1, h.1.2.2.2.1.2.1⟩
theorem LX.kd (h : LX Gc Gr R e sp rd f Mc Mr) : 146 ≤ rd ∧ Gr.1 rd = 20 := ⟨h.1.2.2.2.1.1, h.1.2.2.2.1.2.1⟩
theorem LK.gc (h : LK Gc Gr R e sp rd f Mc Mr k) : gRn Gc sp := gRn_ok h.1.1.1 h.1.2.2.2.2
theorem LX.k9 (h : LX Gc Gr R e sp rd f Mc Mr) : Mr 124 9 = 5 := h.2.1
theorem LK.c4 (h : LK Gc Gr R e sp rd f Mc Mr k) : Mc R 4 = sp := h.1.1.2.2.2.2.2.2.2.1
/-- how marks come out: the mark, or a fault -/
theorem knownMark_ok (h : LK Gc Gr R e sp rd f Mc Mr k) (hm : Mr rd 2 = mk) (m0 : 0 ≤ mk) (m6 : mk ≤ 6) : (tK f e k = 1 ∧ isMs f e k 1 mk ∧ M_X11_knownMark (Mr, Gr) 124 = some ((Mr, Gr), f (tA f e k) - 97)) ∨ (tK f e k = 1 ∧ ¬ isMs f e k 1 mk ∧ M_X11_knownMark (Mr, Gr) 124 = some ((flR Mr 7, Gr), 0)) ∨ (tK f e k ≠ 1 ∧ M_X11_knownMark (Mr, Gr) 124 = some ((flR Mr 1, Gr), 0)) := by
  have hG := h.hr
  have k124 := gk_124 hG
  rcases checksMarks_ok h (n := 1) (by omega) (by omega) hm m0 m6 with ⟨a, b, c⟩ | ⟨a, b, c⟩ | ⟨a, c⟩
  · refine Or.inl ⟨a, b, ?_⟩
    have h9 : Mr 124 9 = 2 := by rw [h.2.2.1.1, a]; rfl
    have hk := mkA_ok (j := 0) h.2.2.1 h.2.2.2.2.1 a (by omega) (by have := b.1; omega)
    rw [Int.add_zero] at hk
    apply Ok.eq
    unfold M_X11_knownMark
    refine k_tk k124 ?_
    refine k_eq c ?_
    refine k_gf k124 h9 ?_
    refine k_ifF (by decide) ?_
    exact k_eq (markAt_ok hG) (Ok.ret (by rw [hk]))
  · refine Or.inr (Or.inl ⟨a, b, ?_⟩)
    have hF := h.fl (n := 7) (by omega) (by omega)
    apply Ok.eq
    unfold M_X11_knownMark
    refine k_tk k124 ?_
    refine k_eq c ?_
    refine k_gf k124 hF.1.2.1 ?_
    exact k_ifT (by decide) (Ok.ret rfl)
  · refine Or.inr (Or.inr ⟨a, ?_⟩)
    have hF := h.fl (n := 1) (by omega) (by omega)
    apply Ok.eq
    unfold M_X11_knownMark
    refine k_tk k124 ?_
    refine k_eq c ?_
    refine k_gf k124 hF.1.2.1 ?_
    exact k_ifT (by decide) (Ok.ret rfl)
theorem markDue_ok (h : LK Gc Gr R e sp rd f Mc Mr k) (hm : Mc sp 0 = mk) (m0 : 0 ≤ mk) (m6 : mk ≤ 6) (q0 : -1 ≤ q) (q1 : q ≤ 10) : (tK f e k ≠ 1 → M_X4_markDue (Mc, Gc) R q = some ((flC Mc R 1, Gc), -1)) ∧ (tK f e k = 1 → ¬ isMs f e k 1 mk → M_X4_markDue (Mc, Gc) R q = some ((flC Mc R 7, Gc), -1)) ∧ (tK f e k = 1 → isMs f e k 1 mk → f (tA f e k) - 97 = q → M_X4_markDue (Mc, Gc) R q = some ((flC Mc R 3, Gc), -1)) ∧ (tK f e k = 1 → isMs f e k 1 mk → f (tA f e k) - 97 ≠ q → M_X4_markDue (Mc, Gc) R q = (M_X4_take (Mc, Gc) R).bind fun h => some (h, f (tA f e k) - 97)) := by
  have kR := h.kR
  have hB := h.1.1
  obtain ⟨hG, r0, -, m2, m3, e0, e9, m4, hf⟩ := hB
  have k1 := gk_1 hG
  have l1 := gl_1 hG
  have g0 := h.gc.1
  have hsp := h.1.2.2.2.2
  have hf1 := h.1.2.2.1
  have c5 := h.2.1.1
  have c6 := h.2.1.2.1
  have c7 := h.2.1.2.2.1
  rw [hf1] at c5 c6 c7
  rw [hf1] at hf
  have hK := tK_b (f := f) (e := e) (k := k)
  have ke := h.2.2.2.2.1
  have kz := h.2.2.2.1
  have hA := tkA (f := f) ke
  have hwf : tK f e k = 1 → (97 ≤ f (tA f e k) ∧ f (tA f e k) ≤ 122) ∧ tA f e k < tL f e k ∧ tL f e k - tA f e k ≤ 8 ∧ tB f e k = tL f e k := fun y => ⟨tkL ke _ (Int.le_refl _) (tk1 y).1, tk1 y⟩
  have hone : isMs f e k 1 mk ↔ tL f e k - tA f e k = 1 ∧ f (tA f e k) - 97 < mk := by
    unfold isMs
    constructor
    · rintro ⟨a, b⟩
      have := b 0 (by omega) (by omega)
      rw [Int.add_zero] at this
      exact ⟨a, this⟩
    · rintro ⟨a, b⟩
      refine ⟨a, fun j j0 j1 => ?_⟩
      rw [show j = 0 by omega, Int.add_zero]
      exact b
  rw [hone]
  have hmain : tK f e k = 1 → M_X4_markDue (Mc, Gc) R q = (if w32 (tL f e k - tA f e k) = 1 then (if f (tA f e k) - 97 < mk then (if f (tA f e k) - 97 = q then some ((flC Mc R 3, Gc), -1) else ((M_X4_take (Mc, Gc) R).bind fun h => some (h, f (tA f e k) - 97))) else some ((flC Mc R 7, Gc), -1)) else some ((flC Mc R 7, Gc), -1)) := by
    intro y
    obtain ⟨hb, hl, h8, hBB⟩ := hwf y
    rw [hBB] at c7
    unfold M_X4_markDue
    rw [tk_ok kR, b_gf kR, c5, if_pos (by rw [y]; decide), b_gr kR (by omega), m2, b_gf kR, c6, b_ald k1 (by omega) (by rw [l1]; omega) (by omega), hf1, b_gf kR, c7, b_gf kR, c6]
    by_cases z : w32 (tL f e k - tA f e k) = 1
    · rw [if_pos z, if_pos z, b_gr kR (by omega), m4, b_gf g0, hm, w32_id (x := f (tA f e k) - 97) (by omega) (by omega), w32_id (x := mk) (by omega) (by omega), w32_id (x := q) (by omega) (by omega)]
      by_cases z2 : f (tA f e k) - 97 < mk
      · rw [if_pos z2, if_pos z2]
        by_cases z3 : f (tA f e k) - 97 = q
        · rw [if_pos z3, if_pos z3, X4_failed_ok kR]; rfl
        · rw [if_neg z3, if_neg z3]
      · rw [if_neg z2, if_neg z2, X4_failed_ok kR]; rfl
    · rw [if_neg z, if_neg z, X4_failed_ok kR]; rfl
  refine ⟨fun y => ?_, fun y z => ?_, fun y z z2 => ?_, fun y z z2 => ?_⟩
  · apply Ok.eq
    unfold M_X4_markDue
    refine k_tk kR ?_
    refine k_gf kR c5 ?_
    refine k_ifF (by rw [w32_id (by omega) (by omega)]; exact y) ?_
    exact k_bd (X4_failed_ok kR) (Ok.ret rfl)
  · obtain ⟨hb, hl, h8, hBB⟩ := hwf y
    rw [hmain y, w32_id (by omega) (by omega)]
    by_cases z3 : tL f e k - tA f e k = 1
    · rw [if_pos z3, if_neg (fun z4 => z ⟨z3, z4⟩)]
    · rw [if_neg z3]
  · obtain ⟨hb, hl, h8, hBB⟩ := hwf y
    rw [hmain y, w32_id (by omega) (by omega), if_pos z.1, if_pos z.2, if_pos z2]
  · obtain ⟨hb, hl, h8, hBB⟩ := hwf y
    rw [hmain y, w32_id (by omega) (by omega), if_pos z.1, if_pos z.2, if_neg z2]
theorem s_mark (h : LK Gc Gr R e sp rd f Mc Mr k) (hm : Mc sp 0 = mk) (hm2 : Mr rd 2 = mk) (m0 : 0 ≤ mk) (m6 : mk ≤ 6) : O2 (M_X4_markDue (Mc, Gc) R (-1)) (M_X11_readMark (Mr, Gr) 124) (SvK Gc Gr R e sp rd f Mc Mr k 0 (mk - 1)) := by
  have hG := h.hr
  have k124 := gk_124 hG
  have hc := markDue_ok h hm m0 m6 (q := -1) (by omega) (by omega)
  have hr := knownMark_ok h hm2 m0 m6
  have ke := h.2.2.2.2.1
  unfold M_X11_readMark O2
  rcases hr with ⟨a, b, c⟩ | ⟨a, b, c⟩ | ⟨a, c⟩
  · have hb := tkL ke _ (Int.le_refl _) (tk1 a).1
    have hb2 := b.2 0 (by omega) (by omega)
    rw [Int.add_zero] at hb2
    rw [hc.2.2.2 a b (by omega)]
    refine Ok.bind (s_take h (by omega)) ?_
    rintro _ ⟨bb, hbb, Mc1, Mr1, rfl, rfl, ht, hL⟩
    refine Ok.ret ?_
    refine k_tk k124 ?_
    refine k_bd c ?_
    have hp := tkB (f := f) ke
    have hq := tkA (f := f) ke
    exact k_eq hbb (Ok.ret ⟨Mc1, Mr1, ht, Or.inl ⟨_, rfl, rfl, by omega, by omega, _, by have := hp.2.2 (by omega); omega, hL⟩⟩)
  · rw [hc.2.1 a b]
    have hF := h.fl (n := 7) (by omega) (by omega)
    refine Ok.ret ?_
    refine k_tk k124 ?_
    refine k_bd c ?_
    exact k_eq (X11_over hG hF.1.2.1) (Ok.ret ⟨_, _, hF.2, Or.inr ⟨rfl, ⟨_, rfl⟩, hF.1⟩⟩)
  · rw [hc.1 a]
    have hF := h.fl (n := 1) (by omega) (by omega)
    refine Ok.ret ?_
    refine k_tk k124 ?_
    refine k_bd c ?_
    exact k_eq (X11_over hG hF.1.2.1) (Ok.ret ⟨_, _, hF.2, Or.inr ⟨rfl, ⟨_, rfl⟩, hF.1⟩⟩)
end NM
