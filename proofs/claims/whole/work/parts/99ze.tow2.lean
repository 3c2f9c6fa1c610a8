/-! a town's row, side by side -/
section TX
variable {Mc Mr Mc1 Mr1 Ma Mb : Int → Int → Int} {Gc Gr : GG} {R e k sp rd wd hi tw mk gs sn i : Int} {f : Int → Int}
/-- nothing but the readers and the cells has changed -/
def twF (R sp rd : Int) (Mc Mr Ma Mb : Int → Int → Int) : Prop := (∀ a, a ≠ R → a ≠ sp + 2 → Ma a = Mc a) ∧ (∀ j, 2 ≤ j → j < 5 → Ma R j = Mc R j) ∧ (∀ a, a ≠ 124 → a ≠ rd + 1 → Mb a = Mr a) ∧ ∀ j, j < 8 ∨ 16 < j → Mb 124 j = Mr 124 j
theorem twF.refl : twF R sp rd Mc Mr Mc Mr := ⟨fun _ _ _ => rfl, fun _ _ _ => rfl, fun _ _ _ => rfl, fun _ _ => rfl⟩
theorem twF.tr (h : twF R sp rd Mc Mr Ma Mb) (h1 : twF R sp rd Ma Mb Mc1 Mr1) : twF R sp rd Mc Mr Mc1 Mr1 := ⟨fun a a1 a2 => (h1.1 a a1 a2).trans (h.1 a a1 a2), fun j j0 j1 => (h1.2.1 j j0 j1).trans (h.2.1 j j0 j1), fun a a1 a2 => (h1.2.2.1 a a1 a2).trans (h.2.2.1 a a1 a2), fun j hj => (h1.2.2.2 j hj).trans (h.2.2.2 j hj)⟩
theorem tS.tf (h : tS R Mc Mr Ma Mb) : twF R sp rd Mc Mr Ma Mb := ⟨fun a a1 _ => h.1 a a1, h.2.1, fun a a1 _ => h.2.2.1 a a1, h.2.2.2⟩
/-- how a row ends -/
def RwK (Gc Gr : GG) (R e sp rd : Int) (f : Int → Int) (Mc Mr : Int → Int → Int) (k wd mk tw i : Int) (a : (Hp × Int) ⊕ (Hp ⊕ (Hp × Int))) (b : (Hp × Int) ⊕ (Hp ⊕ Hp)) : Prop := ∃ Mc1 Mr1, twF R sp rd Mc Mr Mc1 Mr1 ∧ ((a = .inl ((Mc1, Gc), i + 1) ∧ b = .inl ((Mr1, Gr), i + 1) ∧ (∃ A, (∀ j, 0 ≤ j → j < wd → 0 ≤ f (A + j) - 97 ∧ f (A + j) - 97 < mk) ∧ Mc1 (sp + 2) = rwM (Mc (sp + 2)) f A (36 * tw + 6 * i) wd ∧ Mr1 (rd + 1) = rwM (Mr (rd + 1)) f A (36 * tw + i * wd) wd) ∧ ∃ k1, k < k1 ∧ LK Gc Gr R e sp rd f Mc1 Mr1 k1) ∨ (a = .inr (.inr ((Mc1, Gc), 0)) ∧ b = .inr (.inr (Mr1, Gr)) ∧ zO 216 (Mc1 (sp + 2)) ∧ LX Gc Gr R e sp rd f Mc1 Mr1))
theorem tB_1 (y : tK f e k = 1) : tB f e k = tL f e k ∧ tA f e k < tL f e k := by
  have : tA f e k < tL f e k := by
    unfold tK at y
    by_cases z : tA f e k < tL f e k
    · exact z
    · rw [if_neg z] at y
      revert y
      (repeat' split) <;> omega
  exact ⟨if_pos this, this⟩
theorem s_row {l1 : Int} (h : LK Gc Gr R e sp rd f Mc Mr k) (hsC : szC sp wd hi mk Mc) (hsR : szR rd wd hi mk Mr) (p3 : Mc (sp + 1) 3 = sp + 2) (p7 : Mr rd 7 = rd + 1) (n3 : Mr rd 3 = tw) (hdim : (2 ≤ wd ∧ wd ≤ 6) ∧ (2 ≤ hi ∧ hi ≤ 6) ∧ 2 ≤ mk ∧ mk ≤ 6) (t0 : 0 ≤ tw) (t5 : tw ≤ 5) (i0 : 0 ≤ i) (ih : i < hi) (hz : zO 216 (Mc (sp + 2))) : O2 (M_X4_readTown_p122 (Mc, Gc) R tw i) (M_X11_readTownLine_p108 (Mr, Gr) 124 l1 i) (RwK Gc Gr R e sp rd f Mc Mr k wd mk tw i) := by
  have hG := h.hr
  have k124 := gk_124 hG
  have kR := h.kR
  have hsp := h.1.2.2.2.2
  have hR := h.1.1.2.1
  have hrd := h.kd.1
  have kd := h.kd.2
  have m4 := h.m4
  have c4 := h.c4
  have h9 := h.r9
  have ke := h.2.2.2.2.1
  have c5 := h.2.1.1
  have c6 := h.2.1.2.1
  have c7 := h.2.1.2.2.1
  rw [h.1.2.2.1] at c5 c6 c7
  have hKb := tK_b (f := f) (e := e) (k := k)
  have hA := tkA (f := f) ke
  obtain ⟨g0, gw, -⟩ := h.gc
  have gwk := gw.2.1
  have he := h.1.1.2.2.2.2.2.2.1
  have hk0 := h.2.2.2.1
  have hib : 0 ≤ i * wd ∧ i * wd + wd ≤ 36 := by
    have hi5 : i ≤ 5 := by omega
    have h1 : 0 ≤ i * wd := Int.mul_nonneg i0 (by omega)
    have h2 : (i + 1) * wd ≤ 6 * 6 := Int.mul_le_mul (by omega) (by omega) (by omega) (by omega)
    rw [Int.add_mul, Int.one_mul] at h2
    omega
  have hcc : M_X4_readRow (Mc, Gc) R (36 * tw + 6 * i) = if tK f e k = 1 then (if tL f e k - tA f e k = wd then (wh (S := (Hp × Int)) (T := (Hp ⊕ (Hp × Int))) (fun a => M_X4_readRow_b45 a.1 R (36 * tw + 6 * i) a.2) FU ((Mc, Gc), 0)).bind (fun z => exi z (fun b => M_X4_readRow_p113 b R) (fun q => some q)) else some ((flC Mc R 7, Gc), 0)) else some ((flC Mc R 1, Gc), 0) := by
    unfold M_X4_readRow
    rw [tk_ok kR, b_gf kR, c5, w32_id (x := tK f e k) (by omega) (by omega)]
    by_cases y : tK f e k = 1
    · rw [if_pos y, if_pos y, b_gf kR, c7, b_gf kR, c6, b_gr kR (by omega), c4, b_gr g0 (by rw [hsC.1]; omega), hsC.1, b_gf gwk, hsC.2.1, (tB_1 y).1, w32_id (by omega) (by omega), w32_id (by omega) (by omega)]
      by_cases z : tL f e k - tA f e k = wd
      · rw [if_pos z, if_pos z]
        rfl
      · rw [if_neg z, if_neg z, fail_z kR]
    · rw [if_neg y, if_neg y, fail_z kR]
  have hrr : M_X11_readTownLine_p108 (Mr, Gr) 124 l1 i = (M_X11_checksMarks (Mr, Gr) 124 wd).bind fun h => (gf 21 h 124 9).bind fun x27 => if w32 x27 = 5 then some (.inr (.inr h)) else M_X11_readTownLine_w131 FU h 124 l1 i 0 := by
    unfold M_X11_readTownLine_p108
    rw [b_gr k124 (by omega), m4, b_gf kd, hsR.1]
  have hbad : ∀ {g : Int → Int → Int} {n : Int}, (∀ a, a ≠ sp + 2 → g a = Mc a) → zO 216 (g (sp + 2)) → 1 ≤ n → n ≤ 7 → M_X4_readRow (Mc, Gc) R (36 * tw + 6 * i) = some ((flC g R n, Gc), 0) → M_X11_checksMarks (Mr, Gr) 124 wd = some (flR Mr n, Gr) → O2 (M_X4_readTown_p122 (Mc, Gc) R tw i) (M_X11_readTownLine_p108 (Mr, Gr) 124 l1 i) (RwK Gc Gr R e sp rd f Mc Mr k wd mk tw i) := by
    intro g n hg hzg n0 n7 hc hr
    have hLg : LK Gc Gr R e sp rd f g Mr k := h.dt (hg R (by omega)) (hg 1 (by omega)) rfl rfl
    have hF := hLg.fl (n := n) n0 n7
    refine ⟨.inr (.inr ((flC g R n, Gc), 0)), ?_, .inr (.inr (flR Mr n, Gr)), ?_, flC g R n, flR Mr n, ?_, Or.inr ⟨rfl, rfl, ?_, hF.1⟩⟩
    · apply Ok.eq
      unfold M_X4_readTown_p122
      refine k_bd hc ?_
      exact k_ifT (by decide) (Ok.ret rfl)
    · rw [hrr, hr, Option.bind_some, b_gf k124, hF.1.2.1, if_pos (by decide)]
    · exact twF.tr (Ma := g) (Mb := Mr) ⟨fun a _ a2 => hg a a2, fun j _ _ => by rw [hg R (by omega)], fun _ _ _ => rfl, fun _ _ => rfl⟩ hF.2.tf
    · rw [hF.2.1 (sp + 2) (by omega)]; exact hzg
  rcases checksMarks_ok (n := wd) h (by omega) (by omega) hsR.2.2 (by omega) (by omega) with ⟨y, hm, hr⟩ | ⟨y, hm, hr⟩ | ⟨y, hr⟩
  · rw [if_pos y, if_pos hm.1] at hcc
    obtain ⟨z, hz1, hz2⟩ := row_c (b := 36 * tw + 6 * i) h hsC p3 (by omega) (by omega) (by omega) (by omega) y hm.1 (by omega) (by omega) hz
    rcases hz2 with ⟨-, rfl⟩ | ⟨hn, -⟩
    · rw [hz1, Option.bind_some, exi_l] at hcc
      have hw := row_r (l1 := l1) (r := i) (b := 36 * tw + i * wd) h hsR p7 n3 (by omega) (by omega) y hm.1 rfl (by omega) (by omega)
      have e1 : ∀ a, a ≠ sp + 2 → sr Mc (sp + 2) (rwM (Mc (sp + 2)) f (tA f e k) (36 * tw + 6 * i) wd) a = Mc a := fun a ha => sr_a _ _ ha
      have e2 : sr Mc (sp + 2) (rwM (Mc (sp + 2)) f (tA f e k) (36 * tw + 6 * i) wd) (sp + 2) = rwM (Mc (sp + 2)) f (tA f e k) (36 * tw + 6 * i) wd := sr_s _ _ _
      have e3 : ∀ a, a ≠ rd + 1 → sr Mr (rd + 1) (rwM (Mr (rd + 1)) f (tA f e k) (36 * tw + i * wd) wd) a = Mr a := fun a ha => sr_a _ _ ha
      have e4 : sr Mr (rd + 1) (rwM (Mr (rd + 1)) f (tA f e k) (36 * tw + i * wd) wd) (rd + 1) = rwM (Mr (rd + 1)) f (tA f e k) (36 * tw + i * wd) wd := sr_s _ _ _
      generalize sr Mc (sp + 2) (rwM (Mc (sp + 2)) f (tA f e k) (36 * tw + 6 * i) wd) = Mx at *
      generalize sr Mr (rd + 1) (rwM (Mr (rd + 1)) f (tA f e k) (36 * tw + i * wd) wd) = My at *
      have hLx : LK Gc Gr R e sp rd f Mx My k := h.dt (e1 R (by omega)) (e1 1 (by omega)) (e3 124 (by omega)) (e3 125 (by omega))
      obtain ⟨a, ha, b, hb, Mc1, Mr1, rfl, rfl, ht, hL1⟩ := s_take hLx (by omega)
      have hLL := tkL (f := f) ke
      refine ⟨.inl ((Mc1, Gc), i + 1), ?_, .inl ((Mr1, Gr), i + 1), ?_, Mc1, Mr1, twF.tr (Ma := Mx) (Mb := My) ⟨fun a _ a2 => e1 a a2, fun j _ _ => by rw [e1 R (by omega)], fun a _ a2 => e3 a a2, fun j _ => by rw [e3 124 (by omega)]⟩ ht.tf, Or.inl ⟨rfl, rfl, ⟨tA f e k, fun j j0 j1 => ⟨by have := hLL (tA f e k + j) (by omega) (by have := hm.1; omega); omega, hm.2 j j0 j1⟩, by rw [ht.1 (sp + 2) (by omega)]; exact e2, by rw [ht.2.2.1 (rd + 1) (by omega)]; exact e4⟩, _, h.adv y, hL1⟩⟩
      · unfold M_X4_readRow_p113 at hcc
        rw [ha, Option.bind_some] at hcc
        apply Ok.eq
        unfold M_X4_readTown_p122
        refine k_bd hcc ?_
        exact k_ifF (by decide) (Ok.ret rfl)
      · rw [hrr, hr, Option.bind_some, b_gf k124, if_neg (by rw [w32_id (by omega) (by omega)]; omega)]
        unfold M_X11_readTownLine_w131 M_X11_readTownLine_p186
        rw [hw, Option.bind_some, hb, Option.bind_some]
    · exact absurd hm hn
  · rw [if_pos y] at hcc
    by_cases z : tL f e k - tA f e k = wd
    · rw [if_pos z] at hcc
      obtain ⟨z1, hz1, hz2⟩ := row_c (b := 36 * tw + 6 * i) h hsC p3 (by omega) (by omega) (by omega) (by omega) y z (by omega) (by omega) hz
      rcases hz2 with ⟨hn, -⟩ | ⟨-, g, hg, rfl⟩
      · exact absurd hn hm
      · rw [hz1, Option.bind_some, exi_r] at hcc
        exact hbad (fun a ha => sr_a _ _ ha) (by rw [sr_s]; exact hg) (by omega) (by omega) hcc hr
    · rw [if_neg z] at hcc
      exact hbad (fun a _ => rfl) hz (by omega) (by omega) hcc hr
  · rw [if_neg y] at hcc
    exact hbad (fun a _ => rfl) hz (by omega) (by omega) hcc hr
end TX
