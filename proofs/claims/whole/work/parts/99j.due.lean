/-! numbers, marks -/
theorem tN_b {f : Int → Int} {e k : Int} (k1 : k ≤ e) (y : tK f e k = 2) : 0 ≤ tN f e k ∧ tN f e k ≤ 99 := by
  have hA := tkA (f := f) k1
  have hD := (rnV_ex (f := f) (lo := 48) (hi := 57) hA.2.1).2.2.1
  have hDd : rnV f e 48 57 (tA f e k) = tD f e k := rfl
  rw [hDd] at hD
  have hd : tA f e k < tD f e k ∧ tD f e k - tA f e k ≤ 2 := by
    unfold tK at y
    by_cases z : tA f e k < tL f e k
    · rw [if_pos z] at y
      exfalso
      revert y
      (repeat' split) <;> omega
    · rw [if_neg z] at y
      by_cases z2 : tA f e k < tD f e k
      · rw [if_pos z2] at y
        by_cases z3 : tD f e k - tA f e k ≤ 2
        · exact ⟨z2, z3⟩
        · rw [if_neg z3] at y; omega
      · rw [if_neg z2] at y
        exfalso
        revert y
        (repeat' split) <;> omega
  have hn : (tD f e k - tA f e k).toNat = 1 ∨ (tD f e k - tA f e k).toNat = 2 := by omega
  have h0 := hD (tA f e k) (by omega) (by omega)
  show 0 ≤ whV f (tA f e k) (tD f e k - tA f e k).toNat ∧ whV f (tA f e k) (tD f e k - tA f e k).toNat ≤ 99
  rcases hn with hn | hn
  · rw [hn]
    show 0 ≤ 10 * 0 + (f (tA f e k + ((0 : Nat) : Int)) - 48) ∧ 10 * 0 + (f (tA f e k + ((0 : Nat) : Int)) - 48) ≤ 99
    rw [show tA f e k + ((0 : Nat) : Int) = tA f e k by omega]
    omega
  · have h1 := hD (tA f e k + 1) (by omega) (by omega)
    rw [hn]
    show 0 ≤ 10 * (10 * 0 + (f (tA f e k + ((0 : Nat) : Int)) - 48)) + (f (tA f e k + ((1 : Nat) : Int)) - 48) ∧ 10 * (10 * 0 + (f (tA f e k + ((0 : Nat) : Int)) - 48)) + (f (tA f e k + ((1 : Nat) : Int)) - 48) ≤ 99
    rw [show tA f e k + ((0 : Nat) : Int) = tA f e k by omega, show tA f e k + ((1 : Nat) : Int) = tA f e k + 1 by omega]
    omega
section DUE
variable {Mc Mr Mc1 Mr1 : Int → Int → Int} {Gc Gr : GG} {R e k sp rd : Int} {f : Int → Int}
/-- how a step of both ends that answers a number within lo .. hi -/
def SvK (Gc Gr : GG) (R e sp rd : Int) (f : Int → Int) (Mc Mr : Int → Int → Int) (k lo hi : Int) (a b : Hp × Int) : Prop := ∃ Mc1 Mr1, tS R Mc Mr Mc1 Mr1 ∧ ((∃ v, a = ((Mc1, Gc), v) ∧ b = ((Mr1, Gr), v) ∧ lo ≤ v ∧ v ≤ hi ∧ ∃ k1, k < k1 ∧ LK Gc Gr R e sp rd f Mc1 Mr1 k1) ∨ (a = ((Mc1, Gc), -1) ∧ (∃ v, b = ((Mr1, Gr), v)) ∧ LX Gc Gr R e sp rd f Mc1 Mr1))
theorem readWhole_over {lo hi : Int} (hG : gAll Gr) (h9 : Mr 124 9 = 5) : M_X11_readWhole (Mr, Gr) 124 lo hi = some ((Mr, Gr), lo) := by
  apply Ok.eq
  have k124 := gk_124 hG
  unfold M_X11_readWhole
  refine k_tk k124 ?_
  refine k_gf k124 h9 ?_
  refine k_ifF (by decide) ?_
  refine k_eq (X11_flaw_over hG h9) ?_
  unfold M_X11_readWhole_p33
  refine k_gf k124 h9 ?_
  refine k_ifT (by decide) ?_
  exact k_eq (X11_over hG h9) (Ok.ret rfl)
theorem readWhole_p_over {lo : Int} (hG : gAll Gr) (h9 : Mr 124 9 = 5) : M_X11_readWhole_p33 (Mr, Gr) 124 lo = some ((Mr, Gr), lo) := by
  apply Ok.eq
  have k124 := gk_124 hG
  unfold M_X11_readWhole_p33
  refine k_gf k124 h9 ?_
  refine k_ifT (by decide) ?_
  exact k_eq (X11_over hG h9) (Ok.ret rfl)
theorem s_whole {lo hi : Int} (h : LK Gc Gr R e sp rd f Mc Mr k) (l0 : 0 ≤ lo) (l1 : lo ≤ 100) (h0 : -1 ≤ hi) (h1 : hi ≤ 100) : O2 (M_X4_wholeDue (Mc, Gc) R lo hi) (M_X11_readWhole (Mr, Gr) 124 lo hi) (SvK Gc Gr R e sp rd f Mc Mr k lo hi) := by
  have hG := h.hr
  have k124 := gk_124 hG
  have kR := h.kR
  have c5 := h.2.1.1
  have c8 := h.2.1.2.2.2.1
  rw [h.1.2.2.1] at c5 c8
  have r9 := h.2.2.1.1
  have r12 := h.2.2.1.2.2.2.2.2.1
  have hK := tK_b (f := f) (e := e) (k := k)
  have ke := h.2.2.2.2.1
  unfold M_X4_wholeDue M_X11_readWhole O2
  refine k_tk kR ?_
  refine k_gf kR c5 ?_
  by_cases y : tK f e k = 2
  · have c8 := c8 y
    have r12 := r12 y
    have hN := tN_b ke y
    have r9 : Mr 124 9 = 3 := by rw [r9, y]; rfl
    refine k_ifT (by rw [y]; decide) ?_
    refine k_gf kR c8 ?_
    have hfl : ¬ (lo ≤ tN f e k ∧ tN f e k ≤ hi) → Ok (some ((flC Mc R 4, Gc), (-1 : Int))) (fun a => Ok (tk 21 (Mr, Gr) 124 ((gf 21 (Mr, Gr) 124 9).bind fun x3 => if w32 x3 = 3 then (gf 21 (Mr, Gr) 124 12).bind fun x4 => (M_X11_in (Mr, Gr) x4 lo hi).bind fun x5 => if w32 x5 = 0 then (M_X11_flaw (Mr, Gr) 124 4).bind fun h => M_X11_readWhole_p33 h 124 lo else M_X11_readWhole_p33 (Mr, Gr) 124 lo else (M_X11_flaw (Mr, Gr) 124 1).bind fun h => M_X11_readWhole_p33 h 124 lo)) (SvK Gc Gr R e sp rd f Mc Mr k lo hi a)) := by
      intro hn
      refine Ok.ret ?_
      have hF := h.fl (n := 4) (by omega) (by omega)
      refine k_tk k124 ?_
      refine k_gf k124 r9 ?_
      refine k_ifT (by decide) ?_
      refine k_gf k124 r12 ?_
      refine k_eq (X11_in_F (by omega) (by omega) (by omega) (by omega) (by omega) (by omega) (by omega)) ?_
      refine k_ifT (by decide) ?_
      refine k_eq (X11_flaw_ok hG h.r9) ?_
      rw [readWhole_p_over hG hF.1.2.1]
      exact Ok.ret ⟨_, _, hF.2, Or.inr ⟨rfl, ⟨_, rfl⟩, hF.1⟩⟩
    by_cases y1 : tN f e k < lo
    · refine k_ifT (by rw [w32_id (by omega) (by omega), w32_id (by omega) (by omega)]; exact y1) ?_
      exact k_bd (X4_failed_ok kR) (hfl (by omega))
    · refine k_ifF (by rw [w32_id (by omega) (by omega), w32_id (by omega) (by omega)]; exact y1) ?_
      refine k_gf kR c8 ?_
      by_cases y2 : hi < tN f e k
      · refine k_ifT (by rw [w32_id (by omega) (by omega), w32_id (by omega) (by omega)]; exact y2) ?_
        exact k_bd (X4_failed_ok kR) (hfl (by omega))
      · refine k_ifF (by rw [w32_id (by omega) (by omega), w32_id (by omega) (by omega)]; exact y2) ?_
        refine k_gf kR c8 ?_
        clear hfl
        refine Ok.bind (s_take h (by omega)) ?_
        rintro _ ⟨b, hb, Mc1, Mr1, rfl, rfl, ht, hL⟩
        refine Ok.ret ?_
        refine k_tk k124 ?_
        refine k_gf k124 r9 ?_
        refine k_ifT (by decide) ?_
        refine k_gf k124 r12 ?_
        refine k_eq (X11_in_T (by omega) (by omega) (by omega) (by omega) (by omega) (by omega) (by omega)) ?_
        refine k_ifF (by decide) ?_
        unfold M_X11_readWhole_p33
        refine k_gf k124 r9 ?_
        refine k_ifF (by decide) ?_
        refine k_gf k124 r12 ?_
        have hp := tkB (f := f) ke
        have hq := tkA (f := f) ke
        exact k_eq hb (Ok.ret ⟨Mc1, Mr1, ht, Or.inl ⟨_, rfl, rfl, by omega, by omega, _, by have := hp.2.2 (by omega); omega, hL⟩⟩)
  · refine k_ifF (by rw [w32_id (by omega) (by omega)]; exact y) ?_
    refine k_bd (X4_failed_ok kR) (Ok.ret ?_)
    have hF := h.fl (n := 1) (by omega) (by omega)
    have r9n : Mr 124 9 ≠ 3 := by
      rw [r9]
      unfold srt
      (repeat' split) <;> omega
    have hb := h.r9
    refine k_tk k124 ?_
    refine k_gf k124 rfl ?_
    refine k_ifF (by rw [w32_id (by omega) (by omega)]; exact r9n) ?_
    refine k_eq (X11_flaw_ok hG h.r9) ?_
    rw [readWhole_p_over hG hF.1.2.1]
    exact Ok.ret ⟨_, _, hF.2, Or.inr ⟨rfl, ⟨_, rfl⟩, hF.1⟩⟩
end DUE
