/-! towns by name, the beginning of a line -/
/-- v is where w is first found in g, -1 if it isn't -/
def fnP (g : Int → Int) (w tw v : Int) : Prop := (0 ≤ v ∧ v < tw ∧ w32 (lcmp (g v) w) = 0 ∧ ∀ j, 0 ≤ j → j < v → ¬ w32 (lcmp (g j) w) = 0) ∨ (v = -1 ∧ ∀ j, 0 ≤ j → j < tw → ¬ w32 (lcmp (g j) w) = 0)
theorem fnP_unq {g g' : Int → Int} {w tw v v' : Int} (hg : ∀ j, 0 ≤ j → j < tw → g' j = g j) (h : fnP g w tw v) (h' : fnP g' w tw v') : v' = v := by
  rcases h with ⟨a, b, c, d⟩ | ⟨a, b⟩
  · rcases h' with ⟨a', b', c', d'⟩ | ⟨a', b'⟩
    · rw [hg v' a' b'] at c'
      by_cases y : v' < v
      · exact absurd c' (d v' a' y)
      · by_cases y2 : v < v'
        · have := d' v a y2
          rw [hg v a b] at this
          exact absurd c this
        · omega
    · have := b' v a b
      rw [hg v a b] at this
      exact absurd c this
  · rcases h' with ⟨a', b', c', d'⟩ | ⟨a', b'⟩
    · rw [hg v' a' b'] at c'
      exact absurd c' (b v' a' b')
    · omega
section FN
variable {Mc Mr Mc1 Mr1 : Int → Int → Int} {Gc Gr : GG} {R e k sp rd mk n q tw w : Int} {f : Int → Int}
theorem X10_find_ok (hg : gRg Gr rd) (h15 : Mr rd 15 = rd + 9) (h3 : Mr rd 3 = tw) (t0 : 0 ≤ tw) (t6 : tw ≤ 6) : Ok (M_X10_find (Mr, Gr) rd w) (fun v => fnP (Mr (rd + 9)) w tw v) := by
  obtain ⟨r0, kd, -, -, -, -, -, -, -, -, ⟨k9, l9⟩, -⟩ := hg
  unfold M_X10_find
  refine k_tk kd ?_
  unfold M_X10_find_w2
  refine Ok.bind (Q := fun z => (z = .inl () ∧ fnP (Mr (rd + 9)) w tw (-1)) ∨ (∃ v, z = .inr v ∧ fnP (Mr (rd + 9)) w tw v)) ?_ ?_
  · refine wh_for (fun n s => s = (n : Int) ∧ ∀ j : Int, 0 ≤ j → j < (n : Int) → ¬ w32 (lcmp (Mr (rd + 9) j) w) = 0) _ tw.toNat (by omega) ⟨rfl, fun j j0 j1 => by omega⟩ ?_ ?_
    · rintro n _ hn ⟨rfl, hall⟩
      unfold M_X10_find_b2
      refine k_gf kd h3 ?_
      refine k_ifT (by rw [w32_id (by omega) (by omega), w32_id (by omega) (by omega)]; omega) ?_
      refine k_gr kd h15 (by omega) ?_
      refine k_ald k9 l9 (by omega) (by omega) (by omega) rfl ?_
      refine Ok.ite (fun c => Ok.ret (Or.inr ⟨_, rfl, Or.inl ⟨by omega, by omega, c, hall⟩⟩)) (fun c => Ok.ret ⟨rfl, fun j j0 j1 => ?_⟩)
      by_cases z : j = (n : Int)
      · rw [z]; exact c
      · exact hall j j0 (by omega)
    · rintro _ ⟨rfl, hall⟩
      unfold M_X10_find_b2
      refine k_gf kd h3 ?_
      refine k_ifF (by rw [w32_id (by omega) (by omega), w32_id (by omega) (by omega)]; omega) ?_
      exact Ok.ret (Or.inl ⟨rfl, Or.inr ⟨rfl, fun j j0 j1 => hall j j0 (by omega)⟩⟩)
  · rintro _ (⟨rfl, h⟩ | ⟨v, rfl, h⟩)
    · rw [exi_l]
      exact Ok.ret h
    · rw [exi_r]
      exact Ok.ret h
theorem X5_town_ok (hg : gRn Gc sp) (hs : 0 ≤ sp) (h1 : Mc sp 1 = sp + 1) (h2 : Mc sp 2 = sp + 5) (h3 : Mc (sp + 1) 2 = tw) (t0 : 0 ≤ tw) (t6 : tw ≤ 6) : Ok (M_X5_townNamed (Mc, Gc) sp w) (fun v => fnP (Mc (sp + 5)) w tw v) := by
  obtain ⟨kd, gw, ⟨k5, l5⟩, -⟩ := hg
  have kw := gw.2.1
  unfold M_X5_townNamed
  refine k_tk kd ?_
  unfold M_X5_townNamed_w2
  refine Ok.bind (Q := fun z => (z = .inl () ∧ fnP (Mc (sp + 5)) w tw (-1)) ∨ (∃ v, z = .inr v ∧ fnP (Mc (sp + 5)) w tw v)) ?_ ?_
  · refine wh_for (fun n s => s = (n : Int) ∧ ∀ j : Int, 0 ≤ j → j < (n : Int) → ¬ w32 (lcmp (Mc (sp + 5) j) w) = 0) _ tw.toNat (by omega) ⟨rfl, fun j j0 j1 => by omega⟩ ?_ ?_
    · rintro n _ hn ⟨rfl, hall⟩
      unfold M_X5_townNamed_b2
      refine k_gr kd h1 (by omega) ?_
      refine k_gf kw h3 ?_
      refine k_ifT (by rw [w32_id (by omega) (by omega), w32_id (by omega) (by omega)]; omega) ?_
      refine k_gr kd h2 (by omega) ?_
      refine k_ald k5 l5 (by omega) (by omega) (by omega) rfl ?_
      refine Ok.ite (fun c => Ok.ret (Or.inr ⟨_, rfl, Or.inl ⟨by omega, by omega, c, hall⟩⟩)) (fun c => Ok.ret ⟨rfl, fun j j0 j1 => ?_⟩)
      by_cases z : j = (n : Int)
      · rw [z]; exact c
      · exact hall j j0 (by omega)
    · rintro _ ⟨rfl, hall⟩
      unfold M_X5_townNamed_b2
      refine k_gr kd h1 (by omega) ?_
      refine k_gf kw h3 ?_
      refine k_ifF (by rw [w32_id (by omega) (by omega), w32_id (by omega) (by omega)]; omega) ?_
      exact Ok.ret (Or.inl ⟨rfl, Or.inr ⟨rfl, fun j j0 j1 => hall j j0 (by omega)⟩⟩)
  · rintro _ (⟨rfl, h⟩ | ⟨v, rfl, h⟩)
    · rw [exi_l]
      exact Ok.ret h
    · rw [exi_r]
      exact Ok.ret h
/-- the names of the towns so far are the same -/
def nmR (sp rd tw : Int) (Mc Mr : Int → Int → Int) : Prop := Mc sp 1 = sp + 1 ∧ Mc sp 2 = sp + 5 ∧ Mc (sp + 1) 2 = tw ∧ Mr rd 15 = rd + 9 ∧ Mr rd 3 = tw ∧ 0 ≤ tw ∧ tw ≤ 6 ∧ ∀ t, 0 ≤ t → t < tw → Mr (rd + 9) t = Mc (sp + 5) t
theorem kT_p12_over (hG : gAll Gr) (h9 : Mr 124 9 = 5) (h4 : Mr 124 4 = rd) (hg : gRg Gr rd) (h15 : Mr rd 15 = rd + 9) (h3 : Mr rd 3 = tw) (t0 : 0 ≤ tw) (t6 : tw ≤ 6) : M_X11_knownTown_p12 (Mr, Gr) 124 = some ((Mr, Gr), 0) := by
  have k124 := gk_124 hG
  apply Ok.eq
  have r0 := hg.1
  have hp : ∀ x, Ok (M_X11_knownTown_p34 (Mr, Gr) 124 x) (fun r => r = ((Mr, Gr), 0)) := fun x => by
    unfold M_X11_knownTown_p34
    refine k_gf k124 h9 ?_
    exact k_ifT (by decide) (Ok.ret rfl)
  unfold M_X11_knownTown_p12
  refine k_gr k124 h4 (by omega) ?_
  refine k_gf k124 rfl ?_
  refine Ok.bind (X10_find_ok hg h15 h3 t0 t6) ?_
  intro v _
  refine Ok.ite (fun _ => ?_) (fun _ => hp v)
  exact k_eq (X11_flaw_over hG h9) (hp v)
theorem knownTown_over (hG : gAll Gr) (h9 : Mr 124 9 = 5) (h4 : Mr 124 4 = rd) (hg : gRg Gr rd) (h15 : Mr rd 15 = rd + 9) (h3 : Mr rd 3 = tw) (t0 : 0 ≤ tw) (t6 : tw ≤ 6) : M_X11_knownTown (Mr, Gr) 124 = some ((Mr, Gr), 0) := by
  have k124 := gk_124 hG
  apply Ok.eq
  unfold M_X11_knownTown
  refine k_tk k124 ?_
  refine k_eq (rName_over hG h9) ?_
  refine k_ifT (by decide) ?_
  refine k_eq (X11_flaw_over hG h9) ?_
  rw [kT_p12_over hG h9 h4 hg h15 h3 t0 t6]
  exact Ok.ret rfl
theorem readTown_over (hG : gAll Gr) (h9 : Mr 124 9 = 5) (h4 : Mr 124 4 = rd) (hg : gRg Gr rd) (h15 : Mr rd 15 = rd + 9) (h3 : Mr rd 3 = tw) (t0 : 0 ≤ tw) (t6 : tw ≤ 6) : M_X11_readTown (Mr, Gr) 124 = some ((Mr, Gr), 0) := by
  have k124 := gk_124 hG
  apply Ok.eq
  unfold M_X11_readTown
  refine k_tk k124 ?_
  refine k_bd (knownTown_over hG h9 h4 hg h15 h3 t0 t6) ?_
  exact k_eq (X11_over hG h9) (Ok.ret rfl)
theorem nmQ_b : nmQ f e k = 0 ∨ (nmQ f e k = 1 ∧ tK f e k = 1) := by
  unfold nmQ
  by_cases y : tK f e k = 1
  · rw [if_pos y]
    (repeat' split) <;> first | exact Or.inl rfl | exact Or.inr ⟨rfl, y⟩
  · rw [if_neg y]; exact Or.inl rfl
theorem s_town (h : LK Gc Gr R e sp rd f Mc Mr k) (hn : nmR sp rd tw Mc Mr) : O2 (M_X4_townHere (Mc, Gc) R) (M_X11_knownTown (Mr, Gr) 124) (fun a b => (∃ v, 0 ≤ v ∧ v < tw ∧ tK f e k = 1 ∧ a = ((Mc, Gc), v) ∧ b = ((Mr, Gr), v)) ∨ (∃ Mc1 Mr1, a = ((Mc1, Gc), -1) ∧ b = ((Mr1, Gr), 0) ∧ tS R Mc Mr Mc1 Mr1 ∧ LX Gc Gr R e sp rd f Mc1 Mr1)) := by
  have hG := h.hr
  have k124 := gk_124 hG
  obtain ⟨n1, n2, n3, n4, n5, t0, t6, n8⟩ := hn
  have hg := h.1.2.2.2.1
  have hsp := h.1.2.2.2.2
  have hcn := cName_ok h
  have hrn := rName_ok h
  have kR := h.kR
  have m4 := h.m4
  have hrd := h.kd.1
  have c9 := h.2.1.2.2.2.2
  rw [h.1.2.2.1] at c9
  unfold M_X4_townHere M_X11_knownTown O2
  refine k_tk kR ?_
  refine k_eq hcn ?_
  have hov : ∀ n, 1 ≤ n → n ≤ 7 → M_X11_knownTown_p12 (flR Mr n, Gr) 124 = some ((flR Mr n, Gr), 0) := fun n a b => by
    have hF := h.fl (n := n) a b
    have e1 : flR Mr n rd = Mr rd := sr_a _ _ (by omega)
    exact kT_p12_over hG hF.1.2.1 hF.1.m4 hg (by rw [e1]; exact n4) (by rw [e1]; exact n5) t0 t6
  rcases nmQ_b (f := f) (e := e) (k := k) with y | ⟨y, y1⟩
  · rw [y]
    refine k_ifT (by decide) ?_
    refine k_bd (X4_failed_ok kR) (Ok.ret ?_)
    have hF := h.fl (n := 1) (by omega) (by omega)
    refine k_tk k124 ?_
    refine k_eq hrn ?_
    rw [y]
    refine k_ifT (by decide) ?_
    refine k_eq (X11_flaw_ok hG h.r9) ?_
    rw [hov 1 (by omega) (by omega)]
    exact Ok.ret (Or.inr ⟨_, _, rfl, rfl, hF.2, hF.1⟩)
  · rw [y]
    refine k_ifF (by decide) ?_
    refine k_gr kR h.c4 (by omega) ?_
    refine k_gf kR (c9 y1) ?_
    refine Ok.bind (X5_town_ok h.gc (by omega) n1 n2 n3 t0 t6) ?_
    intro v hv
    obtain ⟨v', hv', hf'⟩ := X10_find_ok (w := tW f e k) hg n4 n5 t0 t6
    have hvv := fnP_unq n8 hv hf'
    rw [hvv] at hv'
    have r16 := (h.2.2.1.2.2.2.2.2.2 y1).2
    have hb : -1 ≤ v ∧ v < 6 := by
      rcases hv with ⟨a, b, -, -⟩ | ⟨a, -⟩ <;> omega
    by_cases z : v = -1
    · refine k_ifT (by rw [z]; decide) ?_
      refine k_bd (X4_failed_ok kR) (Ok.ret ?_)
      have hF := h.fl (n := 2) (by omega) (by omega)
      refine k_tk k124 ?_
      refine k_eq hrn ?_
      rw [y]
      refine k_ifF (by decide) ?_
      unfold M_X11_knownTown_p12
      refine k_gr k124 m4 (by omega) ?_
      refine k_gf k124 r16 ?_
      refine k_eq hv' ?_
      refine k_ifT (by rw [z]; decide) ?_
      refine k_eq (X11_flaw_ok hG h.r9) ?_
      unfold M_X11_knownTown_p34
      refine k_gf k124 hF.1.2.1 ?_
      refine k_ifT (by decide) ?_
      exact Ok.ret (Or.inr ⟨_, _, rfl, rfl, hF.2, hF.1⟩)
    · refine k_ifF (by rw [w32_id (by omega) (by omega)]; exact z) ?_
      refine Ok.ret ?_
      refine k_tk k124 ?_
      refine k_eq hrn ?_
      rw [y]
      refine k_ifF (by decide) ?_
      unfold M_X11_knownTown_p12
      refine k_gr k124 m4 (by omega) ?_
      refine k_gf k124 r16 ?_
      refine k_eq hv' ?_
      refine k_ifF (by rw [w32_id (by omega) (by omega)]; exact z) ?_
      unfold M_X11_knownTown_p34
      have h9 : Mr 124 9 = 2 := by rw [h.2.2.1.1, y1]; rfl
      refine k_gf k124 h9 ?_
      refine k_ifF (by decide) ?_
      refine Ok.ret (Or.inl ⟨v, by omega, ?_, y1, rfl, rfl⟩)
      rcases hv with ⟨a, b, -, -⟩ | ⟨a, -⟩ <;> omega
/-- a line's beginning, in the reference -/
theorem begins_over {l1 l2 : Int} (hG : gAll Gr) (h9 : Mr 124 9 = 5) (h4 : Mr 124 4 = rd) (hg : gRg Gr rd) : M_X11_begins (Mr, Gr) 124 l1 l2 = some (Mr, Gr) := by
  have k124 := gk_124 hG
  have r0 := hg.1
  have hp : Ok (M_X11_begins_p10 (Mr, Gr) 124) (fun r => r = (Mr, Gr)) := by
    unfold M_X11_begins_p10
    refine k_gr k124 h4 (by omega) ?_
    refine k_gf hg.2.1 rfl ?_
    refine Ok.ite (fun _ => ?_) (fun _ => k_eq (X11_over hG h9) (Ok.ret rfl))
    exact k_eq (X11_flaw_over hG h9) (k_eq (X11_over hG h9) (Ok.ret rfl))
  apply Ok.eq
  unfold M_X11_begins
  refine k_tk k124 ?_
  exact Ok.ite (fun _ => k_eq (X11_flaw_over hG h9) hp) (fun _ => hp)
theorem begins_ok {l1 l2 wd : Int} (h : LK Gc Gr R e sp rd f Mc Mr k) (hw : Mr rd 0 = wd) (w0 : 0 ≤ wd) (w6 : wd ≤ 6) (a0 : 0 ≤ l1) (a1 : l1 ≤ 100) (b0 : 0 ≤ l2) (b1 : l2 ≤ 100) : (l1 = l2 → M_X11_begins (Mr, Gr) 124 l1 l2 = some (flR Mr 5, Gr)) ∧ (l1 ≠ l2 → wd = 0 → M_X11_begins (Mr, Gr) 124 l1 l2 = some (flR Mr 6, Gr)) ∧ (l1 ≠ l2 → wd ≠ 0 → M_X11_begins (Mr, Gr) 124 l1 l2 = (M_X11_goesOn (Mr, Gr) 124).bind fun h => some h) := by
  have hG := h.hr
  have k124 := gk_124 hG
  have hg := h.1.2.2.2.1
  have r0 := hg.1
  have m4 := h.m4
  refine ⟨fun y => ?_, fun y z => ?_, fun y z => ?_⟩
  · have hF := h.fl (n := 5) (by omega) (by omega)
    apply Ok.eq
    unfold M_X11_begins
    refine k_tk k124 ?_
    refine k_ifT (by rw [y]) ?_
    refine k_eq (X11_flaw_ok hG h.r9) ?_
    unfold M_X11_begins_p10
    refine k_gr k124 hF.1.m4 (by omega) ?_
    refine k_gf hg.2.1 rfl ?_
    refine Ok.ite (fun _ => ?_) (fun _ => k_eq (X11_over hG hF.1.2.1) (Ok.ret rfl))
    exact k_eq (X11_flaw_over hG hF.1.2.1) (k_eq (X11_over hG hF.1.2.1) (Ok.ret rfl))
  · have hF := h.fl (n := 6) (by omega) (by omega)
    apply Ok.eq
    unfold M_X11_begins
    refine k_tk k124 ?_
    refine k_ifF (by rw [w32_id (by omega) (by omega), w32_id (by omega) (by omega)]; exact y) ?_
    unfold M_X11_begins_p10
    refine k_gr k124 m4 (by omega) ?_
    refine k_gf hg.2.1 hw ?_
    refine k_ifT (by rw [z]; decide) ?_
    refine k_eq (X11_flaw_ok hG h.r9) ?_
    exact k_eq (X11_over hG hF.1.2.1) (Ok.ret rfl)
  · unfold M_X11_begins M_X11_begins_p10
    rw [tk_ok k124, if_neg (by rw [w32_id (by omega) (by omega), w32_id (by omega) (by omega)]; exact y), b_gr k124 (by omega), m4, b_gf hg.2.1, hw, if_neg (by rw [w32_id (by omega) (by omega)]; exact z)]
end FN
