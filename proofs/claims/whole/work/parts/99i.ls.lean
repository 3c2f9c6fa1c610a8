/-! class and reference read the tape side by side -/
/-- both answer, and their answers belong together -/
def O2 {α β : Type} (c : Option α) (r : Option β) (P : α → β → Prop) : Prop := Ok c (fun a => Ok r (P a))
theorem O2.swap {α β : Type} {c : Option α} {r : Option β} {P : α → β → Prop} (h : Ok r (fun b => Ok c (fun a => P a b))) : O2 c r P := by
  obtain ⟨b, hb, a, ha, h⟩ := h
  exact ⟨a, ha, b, hb, h⟩
theorem O2.un {α β : Type} {c : Option α} {r : Option β} {P : α → β → Prop} (h : O2 c r P) : Ok r (fun b => Ok c (fun a => P a b)) := by
  obtain ⟨a, ha, b, hb, h⟩ := h
  exact ⟨b, hb, a, ha, h⟩
theorem O2.bind {α β γ δ : Type} {c : Option α} {r : Option β} {Q : α → β → Prop} {g : α → Option γ} {k : β → Option δ} {P : γ → δ → Prop} (h : O2 c r Q) (h2 : ∀ a b, Q a b → O2 (g a) (k b) P) : O2 (c.bind g) (r.bind k) P := by
  obtain ⟨a, rfl, b, rfl, h⟩ := h
  exact h2 a b h
theorem O2.mono {α β : Type} {c : Option α} {r : Option β} {Q P : α → β → Prop} (h : O2 c r Q) (h2 : ∀ a b, Q a b → P a b) : O2 c r P := by
  obtain ⟨a, ha, b, hb, h⟩ := h
  exact ⟨a, ha, b, hb, h2 a b h⟩
theorem O2.ret {α β : Type} {a : α} {b : β} {P : α → β → Prop} (h : P a b) : O2 (some a) (some b) P := ⟨a, rfl, b, rfl, h⟩
section LSS
variable {Mc Mr Mc1 Mr1 Mc2 Mr2 : Int → Int → Int} {Gc Gr : GG} {R e k sp rd : Int} {f : Int → Int}
def lsB (Gc Gr : GG) (R e sp rd : Int) (f : Int → Int) (Mc Mr : Int → Int → Int) : Prop := rdC Mc Gc R e sp ∧ rfR Mr Gr f e rd ∧ Mc 1 = f ∧ gRg Gr rd ∧ (sp = 2 ∨ sp = 13)
/-- both hold the token that begins at k -/
def LK (Gc Gr : GG) (R e sp rd : Int) (f : Int → Int) (Mc Mr : Int → Int → Int) (k : Int) : Prop := lsB Gc Gr R e sp rd f Mc Mr ∧ clT Mc R e k ∧ rfT Mr f e k ∧ 0 ≤ k ∧ k ≤ e ∧ Mc R 0 = 0 ∧ Mc R 1 = -1 ∧ Mr 124 13 = 0
/-- both have failed -/
def LX (Gc Gr : GG) (R e sp rd : Int) (f : Int → Int) (Mc Mr : Int → Int → Int) : Prop := lsB Gc Gr R e sp rd f Mc Mr ∧ Mr 124 9 = 5 ∧ Mr 124 13 = Mc R 0 ∧ 1 ≤ Mc R 0 ∧ Mc R 0 ≤ 7 ∧ Mr 124 14 = Mc R 1 ∧ 0 ≤ Mc R 1 ∧ Mc R 1 ≤ 900
/-- nothing but the readers has changed -/
def tS (R : Int) (Mc Mr Mc1 Mr1 : Int → Int → Int) : Prop := (∀ a, a ≠ R → Mc1 a = Mc a) ∧ (∀ j, 2 ≤ j → j < 5 → Mc1 R j = Mc R j) ∧ (∀ a, a ≠ 124 → Mr1 a = Mr a) ∧ ∀ j, j < 8 ∨ 16 < j → Mr1 124 j = Mr 124 j
theorem tS.refl : tS R Mc Mr Mc Mr := ⟨fun _ _ => rfl, fun _ _ _ => rfl, fun _ _ => rfl, fun _ _ => rfl⟩
theorem tS.tr (h : tS R Mc Mr Mc1 Mr1) (h1 : tS R Mc1 Mr1 Mc2 Mr2) : tS R Mc Mr Mc2 Mr2 := ⟨fun a ha => (h1.1 a ha).trans (h.1 a ha), fun j j0 j1 => (h1.2.1 j j0 j1).trans (h.2.1 j j0 j1), fun a ha => (h1.2.2.1 a ha).trans (h.2.2.1 a ha), fun j hj => (h1.2.2.2 j hj).trans (h.2.2.2 j hj)⟩
theorem lsB.t (h : lsB Gc Gr R e sp rd f Mc Mr) (h1 : tS R Mc Mr Mc1 Mr1) : lsB Gc Gr R e sp rd f Mc1 Mr1 := by
  obtain ⟨⟨a1, a2, a3, a4, a5, a6, a7, a8, a9⟩, b, c, d, g⟩ := h
  have q1 : Mc1 1 = Mc 1 := h1.1 1 (by omega)
  exact ⟨⟨a1, a2, a3, by rw [h1.2.1 2 (by omega) (by omega)]; exact a4, by rw [h1.2.1 3 (by omega) (by omega)]; exact a5, a6, a7, by rw [h1.2.1 4 (by omega) (by omega)]; exact a8, by rw [q1]; exact a9⟩, b.mono (h1.2.2.1 125 (by omega)) (h1.2.2.2 5 (by omega)) (h1.2.2.2 7 (by omega)) (h1.2.2.2 4 (by omega)), by rw [q1]; exact c, d, g⟩
theorem tS_kp (h : kpC Mc Mc1 R) (h1 : kpR Mr Mr1) : tS R Mc Mr Mc1 Mr1 := ⟨h.1, fun j j0 j1 => h.2 j (by omega), h1.1, fun j hj => h1.2 j (by omega)⟩
theorem srt_b (x : Int) : 0 ≤ srt x ∧ srt x < 5 := by
  unfold srt
  (repeat' split) <;> omega
theorem tK_b : 0 ≤ tK f e k ∧ tK f e k ≤ 5 := by
  unfold tK
  (repeat' split) <;> omega
theorem s_take (h : LK Gc Gr R e sp rd f Mc Mr k) (hK : tK f e k ≠ 5) : O2 (M_X4_take (Mc, Gc) R) (M_X11_goesOn (Mr, Gr) 124) (fun a b => ∃ Mc1 Mr1, a = (Mc1, Gc) ∧ b = (Mr1, Gr) ∧ tS R Mc Mr Mc1 Mr1 ∧ LK Gc Gr R e sp rd f Mc1 Mr1 (tB f e k)) := by
  obtain ⟨hB, hc, hr, k0, k1, z0, z1, z13⟩ := h
  have hB0 := hB
  obtain ⟨b1, b2, b3, b4, b5⟩ := hB0
  have hb := tkB (f := f) k1
  have ha := tkA (f := f) k1
  obtain ⟨-, -, c7, -, -⟩ := hc
  rw [b3] at c7
  have r8 := hr.2.2.1 hK
  have r9 := hr.1
  have hs := srt_b (tK f e k)
  refine (X4_take_ok b1 c7 (by omega) hb.2.1).mono ?_
  rintro _ ⟨Mc1, rfl, kc, tc⟩
  refine (X11_goesOn_ok b2 (by omega) r8 (by omega) hb.2.1).mono ?_
  rintro _ ⟨Mr1, rfl, kr, tr⟩
  have ht := tS_kp kc kr
  exact ⟨Mc1, Mr1, rfl, rfl, ht, hB.t ht, tc, tr, by omega, hb.2.1, by rw [kc.2 0 (by omega)]; exact z0, by rw [kc.2 1 (by omega)]; exact z1, by rw [kr.2 13 (by omega)]; exact z13⟩
/-- the class's, the reference's memory behind a fault -/
def flC (M : Int → Int → Int) (R n : Int) : Int → Int → Int := sr M R (u1 (u1 (M R) 0 n) 1 (M R 6))
def flR (M : Int → Int → Int) (n : Int) : Int → Int → Int := sr M 124 (u1 (u1 (u1 (M 124) 13 n) 14 (M 124 10)) 9 5)
theorem X4_fail_ok {n : Int} (kR : Gc.1 R = 14) : M_X4_fail (Mc, Gc) R n = some ((flC Mc R n, Gc), 0) := by
  apply Ok.eq
  unfold M_X4_fail flC
  repeat' (with_reducible first | refine k_gf (by first | assumption | omega) (by first | assumption | ((try simp (disch := omega) only [sr_s, sr_a, sr_sr, u1_s, u1_k]); exact rfl)) ?_ | refine k_gr (by first | assumption | omega) (by first | assumption | ((try simp (disch := omega) only [sr_s, sr_a, sr_sr, u1_s, u1_k]); exact rfl)) (by omega) ?_ | refine k_ald (by first | assumption | omega) (by first | assumption | exact rfl) (by omega) (by omega) (by omega) (by first | assumption | ((try simp (disch := omega) only [sr_s, sr_a, sr_sr, u1_s, u1_k]); exact rfl)) ?_ | refine k_ifT (by first | (simp (disch := omega) only [w32_id]; first | done | omega) | omega) ?_ | refine k_ifF (by first | (simp (disch := omega) only [w32_id]; first | done | omega) | omega) ?_ | refine k_pf (by first | assumption | omega) (by (try simp (disch := omega) only [sr_s, sr_a, sr_sr, u1_u1]); exact rfl) ?_ | refine k_ast (by first | assumption | omega) (by first | assumption | exact rfl) (by omega) (by omega) (by omega) (by (try simp (disch := omega) only [sr_s, sr_a, sr_sr, u1_u1]); exact rfl) ?_ | refine k_irm (by omega) (by omega) (by omega) (by omega) ?_ | refine k_idv (by omega) (by omega) (by omega) (by omega) ?_ | refine k_tk (by first | assumption | omega) ?_ | refine k_rp (by omega) ?_ | refine k_aldR (by first | assumption | omega) (by first | assumption | exact rfl) (by omega) (by omega) (by omega) (by first | assumption | ((try simp (disch := omega) only [sr_s, sr_a, sr_sr, u1_s, u1_k]); exact rfl)) (by omega) ?_ | refine k_astR (by first | assumption | omega) (by first | assumption | exact rfl) (by omega) (by omega) (by omega) (by first | assumption | omega) (by (try simp (disch := omega) only [sr_s, sr_a, sr_sr, u1_u1]); exact rfl) ?_ | refine k_pz (by first | assumption | omega) (by omega) (by (try simp (disch := omega) only [sr_s, sr_a, sr_sr, u1_u1]); exact rfl) ?_ | refine k_alen (by first | assumption | omega) (by first | assumption | exact rfl) ?_ | refine k_cpy (by first | assumption | omega) (by first | assumption | omega) (by first | assumption | exact rfl) (by first | assumption | exact rfl) (by omega) (by omega) (by omega) (by omega) (by omega) (by omega) (by omega) (by omega) (by (try simp (disch := omega) only [sr_s, sr_a, sr_sr, u1_u1]); exact rfl) ?_)
  exact Ok.ret rfl
theorem X4_failed_ok {n : Int} (kR : Gc.1 R = 14) : M_X4_failed (Mc, Gc) R n = some ((flC Mc R n, Gc), -1) := by
  apply Ok.eq
  unfold M_X4_failed
  refine k_tk kR ?_
  exact k_bd (X4_fail_ok kR) (Ok.ret rfl)
theorem X11_flaw_ok {n : Int} (hG : gAll Gr) (h9 : 0 ≤ Mr 124 9 ∧ Mr 124 9 < 5) : M_X11_flaw (Mr, Gr) 124 n = some (flR Mr n, Gr) := by
  apply Ok.eq
  have k124 := gk_124 hG
  unfold M_X11_flaw flR
  refine k_tk k124 ?_
  refine k_gf k124 rfl ?_
  refine k_ifF (by rw [w32_id (by omega) (by omega)]; omega) ?_
  repeat' (with_reducible first | refine k_gf (by first | assumption | omega) (by first | assumption | ((try simp (disch := omega) only [sr_s, sr_a, sr_sr, u1_s, u1_k]); exact rfl)) ?_ | refine k_gr (by first | assumption | omega) (by first | assumption | ((try simp (disch := omega) only [sr_s, sr_a, sr_sr, u1_s, u1_k]); exact rfl)) (by omega) ?_ | refine k_ald (by first | assumption | omega) (by first | assumption | exact rfl) (by omega) (by omega) (by omega) (by first | assumption | ((try simp (disch := omega) only [sr_s, sr_a, sr_sr, u1_s, u1_k]); exact rfl)) ?_ | refine k_ifT (by first | (simp (disch := omega) only [w32_id]; first | done | omega) | omega) ?_ | refine k_ifF (by first | (simp (disch := omega) only [w32_id]; first | done | omega) | omega) ?_ | refine k_pf (by first | assumption | omega) (by (try simp (disch := omega) only [sr_s, sr_a, sr_sr, u1_u1]); exact rfl) ?_ | refine k_ast (by first | assumption | omega) (by first | assumption | exact rfl) (by omega) (by omega) (by omega) (by (try simp (disch := omega) only [sr_s, sr_a, sr_sr, u1_u1]); exact rfl) ?_ | refine k_irm (by omega) (by omega) (by omega) (by omega) ?_ | refine k_idv (by omega) (by omega) (by omega) (by omega) ?_ | refine k_tk (by first | assumption | omega) ?_ | refine k_rp (by omega) ?_ | refine k_aldR (by first | assumption | omega) (by first | assumption | exact rfl) (by omega) (by omega) (by omega) (by first | assumption | ((try simp (disch := omega) only [sr_s, sr_a, sr_sr, u1_s, u1_k]); exact rfl)) (by omega) ?_ | refine k_astR (by first | assumption | omega) (by first | assumption | exact rfl) (by omega) (by omega) (by omega) (by first | assumption | omega) (by (try simp (disch := omega) only [sr_s, sr_a, sr_sr, u1_u1]); exact rfl) ?_ | refine k_pz (by first | assumption | omega) (by omega) (by (try simp (disch := omega) only [sr_s, sr_a, sr_sr, u1_u1]); exact rfl) ?_ | refine k_alen (by first | assumption | omega) (by first | assumption | exact rfl) ?_ | refine k_cpy (by first | assumption | omega) (by first | assumption | omega) (by first | assumption | exact rfl) (by first | assumption | exact rfl) (by omega) (by omega) (by omega) (by omega) (by omega) (by omega) (by omega) (by omega) (by (try simp (disch := omega) only [sr_s, sr_a, sr_sr, u1_u1]); exact rfl) ?_)
  exact Ok.ret rfl
theorem X11_flaw_over {n : Int} (hG : gAll Gr) (h9 : Mr 124 9 = 5) : M_X11_flaw (Mr, Gr) 124 n = some (Mr, Gr) := by
  apply Ok.eq
  have k124 := gk_124 hG
  unfold M_X11_flaw
  repeat' (with_reducible first | refine k_gf (by first | assumption | omega) (by first | assumption | ((try simp (disch := omega) only [sr_s, sr_a, sr_sr, u1_s, u1_k, h9]); exact rfl)) ?_ | refine k_gr (by first | assumption | omega) (by first | assumption | ((try simp (disch := omega) only [sr_s, sr_a, sr_sr, u1_s, u1_k, h9]); exact rfl)) (by omega) ?_ | refine k_ald (by first | assumption | omega) (by first | assumption | exact rfl) (by omega) (by omega) (by omega) (by first | assumption | ((try simp (disch := omega) only [sr_s, sr_a, sr_sr, u1_s, u1_k, h9]); exact rfl)) ?_ | refine k_ifT (by first | (simp (disch := omega) only [w32_id]; first | done | omega) | omega) ?_ | refine k_ifF (by first | (simp (disch := omega) only [w32_id]; first | done | omega) | omega) ?_ | refine k_pf (by first | assumption | omega) (by (try simp (disch := omega) only [sr_s, sr_a, sr_sr, u1_u1, h9]); exact rfl) ?_ | refine k_ast (by first | assumption | omega) (by first | assumption | exact rfl) (by omega) (by omega) (by omega) (by (try simp (disch := omega) only [sr_s, sr_a, sr_sr, u1_u1, h9]); exact rfl) ?_ | refine k_irm (by omega) (by omega) (by omega) (by omega) ?_ | refine k_idv (by omega) (by omega) (by omega) (by omega) ?_ | refine k_tk (by first | assumption | omega) ?_ | refine k_rp (by omega) ?_ | refine k_aldR (by first | assumption | omega) (by first | assumption | exact rfl) (by omega) (by omega) (by omega) (by first | assumption | ((try simp (disch := omega) only [sr_s, sr_a, sr_sr, u1_s, u1_k, h9]); exact rfl)) (by omega) ?_ | refine k_astR (by first | assumption | omega) (by first | assumption | exact rfl) (by omega) (by omega) (by omega) (by first | assumption | omega) (by (try simp (disch := omega) only [sr_s, sr_a, sr_sr, u1_u1, h9]); exact rfl) ?_ | refine k_pz (by first | assumption | omega) (by omega) (by (try simp (disch := omega) only [sr_s, sr_a, sr_sr, u1_u1, h9]); exact rfl) ?_ | refine k_alen (by first | assumption | omega) (by first | assumption | exact rfl) ?_ | refine k_cpy (by first | assumption | omega) (by first | assumption | omega) (by first | assumption | exact rfl) (by first | assumption | exact rfl) (by omega) (by omega) (by omega) (by omega) (by omega) (by omega) (by omega) (by omega) (by (try simp (disch := omega) only [sr_s, sr_a, sr_sr, u1_u1, h9]); exact rfl) ?_)
  exact Ok.ret rfl
theorem LK.fl {n : Int} (h : LK Gc Gr R e sp rd f Mc Mr k) (n0 : 1 ≤ n) (n1 : n ≤ 7) : LX Gc Gr R e sp rd f (flC Mc R n) (flR Mr n) ∧ tS R Mc Mr (flC Mc R n) (flR Mr n) := by
  obtain ⟨hB, hc, hr, k0, k1, -, -, -⟩ := h
  have ha := tkA (f := f) k1
  obtain ⟨-, c6, -, -, -⟩ := hc
  rw [hB.2.2.1] at c6
  have r10 := hr.2.1
  have he := hB.1.2.2.2.2.2.2.1
  have ht : tS R Mc Mr (flC Mc R n) (flR Mr n) := ⟨fun a ha => sr_a _ _ ha, fun j j0 j1 => by unfold flC; rw [sr_s, u1_k _ _ (by omega), u1_k _ _ (by omega)], fun a ha => sr_a _ _ ha, fun j hj => by unfold flR; rw [sr_s, u1_k _ _ (by omega), u1_k _ _ (by omega), u1_k _ _ (by omega)]⟩
  have c0 : flC Mc R n R 0 = n := by unfold flC; rw [sr_s, u1_k _ _ (by omega), u1_s]
  have c1 : flC Mc R n R 1 = tA f e k := by unfold flC; rw [sr_s, u1_s]; exact c6
  refine ⟨⟨hB.t ht, by unfold flR; rw [sr_s, u1_s], ?_, by omega, by omega, ?_, by omega, by omega⟩, ht⟩
  · rw [c0]; unfold flR; rw [sr_s, u1_k _ _ (by omega), u1_k _ _ (by omega), u1_s]
  · rw [c1]; unfold flR; rw [sr_s, u1_k _ _ (by omega), u1_s]; exact r10
theorem LK.r9 (h : LK Gc Gr R e sp rd f Mc Mr k) : 0 ≤ Mr 124 9 ∧ Mr 124 9 < 5 := by
  rw [h.2.2.1.1]; exact srt_b _
theorem LK.kR (h : LK Gc Gr R e sp rd f Mc Mr k) : Gc.1 R = 14 := h.1.1.2.2.1
theorem LK.hr (h : LK Gc Gr R e sp rd f Mc Mr k) : gAll Gr := h.1.2.1.1
theorem LX.hr (h : LX Gc Gr R e sp rd f Mc Mr) : gAll Gr := h.1.2.1.1
theorem LK.cwd {i : Int} (h : LK Gc Gr R e sp rd f Mc Mr k) (i0 : 0 ≤ i) (i1 : i < 20) : M_X4_isWord (Mc, Gc) R i = some (if tK f e k = 1 ∧ tW f e k = swV i then 1 else 0) := by
  have := X4_isWord_ok h.1.1 h.2.1 h.2.2.2.1 h.2.2.2.2.1 i0 i1
  rw [h.1.2.2.1] at this
  exact this
theorem LK.rwd {i : Int} (h : LK Gc Gr R e sp rd f Mc Mr k) (i0 : 0 ≤ i) (i1 : i < 20) : M_X11_isWord (Mr, Gr) 124 i = some (if tK f e k = 1 ∧ tW f e k = swV i then 1 else 0) := X11_isWord_ok h.hr h.2.2.1 h.2.2.2.2.1 i0 i1
theorem needs_over {i : Int} (hG : gAll Gr) (h9 : Mr 124 9 = 5) : M_X11_needs (Mr, Gr) 124 i = some (Mr, Gr) := by
  apply Ok.eq
  have k124 := gk_124 hG
  unfold M_X11_needs
  refine k_tk k124 ?_
  refine k_eq (X11_isWord_over hG h9) ?_
  refine k_ifT (by decide) ?_
  refine k_eq (X11_flaw_over hG h9) ?_
  exact k_eq (X11_over hG h9) (Ok.ret rfl)
/-- how a step of both ends: a: the class's answer where it went well, b where it failed -/
def StK (Gc Gr : GG) (R e sp rd : Int) (f : Int → Int) (Mc Mr : Int → Int → Int) (k : Int) (a : Hp × Int) (b : Hp) (v w : Int) : Prop := ∃ Mc1 Mr1, b = (Mr1, Gr) ∧ tS R Mc Mr Mc1 Mr1 ∧ ((a = ((Mc1, Gc), v) ∧ ∃ k1, k < k1 ∧ LK Gc Gr R e sp rd f Mc1 Mr1 k1) ∨ (a = ((Mc1, Gc), w) ∧ LX Gc Gr R e sp rd f Mc1 Mr1))
theorem s_word {i : Int} (h : LK Gc Gr R e sp rd f Mc Mr k) (i0 : 0 ≤ i) (i1 : i < 20) : O2 (M_X4_wordDue (Mc, Gc) R i) (M_X11_needs (Mr, Gr) 124 i) (fun a b => StK Gc Gr R e sp rd f Mc Mr k a b 1 0) := by
  have hG := h.hr
  have k124 := gk_124 hG
  unfold M_X4_wordDue M_X11_needs O2
  refine k_tk h.kR ?_
  refine k_eq (h.cwd i0 i1) ?_
  by_cases y : tK f e k = 1 ∧ tW f e k = swV i
  · rw [if_pos y]
    refine k_ifF (by decide) ?_
    refine Ok.bind (s_take h (by omega)) ?_
    rintro _ h2
    have h2 := h2
    obtain ⟨b, hb, Mc1, Mr1, rfl, rfl, ht, hL⟩ := h2
    refine Ok.ret ?_
    refine k_tk k124 ?_
    refine k_eq (h.rwd i0 i1) ?_
    rw [if_pos y]
    refine k_ifF (by decide) ?_
    have hp := tkB (f := f) h.2.2.2.2.1
    have hq := tkA (f := f) h.2.2.2.2.1
    exact k_eq hb (Ok.ret ⟨Mc1, Mr1, rfl, ht, Or.inl ⟨rfl, _, by have := hp.2.2 (by omega); omega, hL⟩⟩)
  · rw [if_neg y]
    refine k_ifT (by decide) ?_
    refine k_bd (X4_fail_ok h.kR) ?_
    refine k_eq (zb1_ok (Or.inl rfl)) (Ok.ret ?_)
    have hF := h.fl (n := 1) (by omega) (by omega)
    refine k_tk k124 ?_
    refine k_eq (h.rwd i0 i1) ?_
    rw [if_neg y]
    refine k_ifT (by decide) ?_
    refine k_eq (X11_flaw_ok hG h.r9) ?_
    exact k_eq (X11_over hG hF.1.2.1) (Ok.ret ⟨_, _, rfl, hF.2, Or.inr ⟨rfl, hF.1⟩⟩)
end LSS
