/-! the line of the ring -/
/-- a word and its number, in the class -/
def wpC (h : Hp) (R i lo hi : Int) : Option (Hp × Int) := bd (M_X4_wordDue h R i) fun h x => if w32 x = 0 then some (h, -1) else M_X4_wholeDue h R lo hi
theorem wpC_bd {γ : Type} {h : Hp} {R i lo hi : Int} {g : Hp → Int → Option γ} : (bd (M_X4_wordDue h R i) fun h x => if w32 x = 0 then g h (-1) else bd (M_X4_wholeDue h R lo hi) fun h x => g h x) = bd (wpC h R i lo hi) g := by
  unfold wpC bd
  cases M_X4_wordDue h R i with
  | none => rfl
  | some a =>
    show (if w32 a.2 = 0 then _ else _) = Option.bind (if w32 a.2 = 0 then _ else _) _
    by_cases y : w32 a.2 = 0
    · rw [if_pos y, if_pos y]; rfl
    · rw [if_neg y, if_neg y]
def rgT (h : Hp) : Option Hp :=
  bd (M_X11_readPart h 124 5 2 6) fun h x1 => bd (M_X11_readPart h 124 6 2 6) fun h x2 => bd (M_X11_readPart h 124 7 2 6) fun h x3 => (gf 21 h 124 9).bind fun x4 => if w32 x4 = 5 then some h else (gr 21 h 124 4).bind fun x5 => (pf 20 h x5 0 x1).bind fun h => (gr 21 h 124 4).bind fun x6 => (pf 20 h x6 1 x2).bind fun h => (gr 21 h 124 4).bind fun x7 => (pf 20 h x7 2 x3).bind fun h => some h
theorem rgT_eq (h : Hp) : M_X11_readRing_p15 h 124 = (M_X11_goesOn h 124).bind rgT := rfl
section RL
variable {Mc Mr Mc1 Mr1 : Int → Int → Int} {Gc Gr : GG} {R e k sp rd wd hi tw mk gs sn : Int} {f : Int → Int}
/-- how a line ends -/
def LnK (Gc Gr : GG) (R e sp rd : Int) (f : Int → Int) (Mc Mr : Int → Int → Int) (k : Int) (a : Hp × Int) (b : Hp) : Prop := ∃ Mc1 Mr1, b = (Mr1, Gr) ∧ fS R sp rd Mc Mr Mc1 Mr1 ∧ (shR Mc1 sp ∧ shW Mc1 (sp + 1)) ∧ ((a = ((Mc1, Gc), 1) ∧ ∃ k1 wd hi tw mk gs sn, k < k1 ∧ LK Gc Gr R e sp rd f Mc1 Mr1 k1 ∧ LDv sp rd wd hi tw mk gs sn Mc1 Mr1) ∨ (a = ((Mc1, Gc), 0) ∧ LX Gc Gr R e sp rd f Mc1 Mr1))
theorem LK.dt (h : LK Gc Gr R e sp rd f Mc Mr k) (h1 : Mc1 R = Mc R) (h2 : Mc1 1 = Mc 1) (h3 : Mr1 124 = Mr 124) (h4 : Mr1 125 = Mr 125) : LK Gc Gr R e sp rd f Mc1 Mr1 k := by
  unfold LK lsB rdC rfR clT rfT at *
  rw [h1, h2, h3, h4]
  exact h
theorem readPart_over {i lo hi : Int} (hG : gAll Gr) (h9 : Mr 124 9 = 5) : M_X11_readPart (Mr, Gr) 124 i lo hi = some ((Mr, Gr), lo) := by
  have k124 := gk_124 hG
  unfold M_X11_readPart
  rw [tk_ok k124, needs_over hG h9, Option.bind_some, readWhole_over hG h9]
  rfl
theorem s_part {i lo hi : Int} (h : LK Gc Gr R e sp rd f Mc Mr k) (i0 : 0 ≤ i) (i1 : i < 20) (l0 : 0 ≤ lo) (l1 : lo ≤ 100) (h0 : -1 ≤ hi) (h1 : hi ≤ 100) : O2 (wpC (Mc, Gc) R i lo hi) (M_X11_readPart (Mr, Gr) 124 i lo hi) (SvK Gc Gr R e sp rd f Mc Mr k lo hi) := by
  have hG := h.hr
  have k124 := gk_124 hG
  obtain ⟨a, ha, b, hb, Mc1, Mr1, rfl, ht, hc⟩ := s_word h i0 i1
  unfold wpC M_X11_readPart
  rw [ha, tk_ok k124, hb]
  rcases hc with ⟨rfl, k1, hk, hL⟩ | ⟨rfl, hF⟩
  · obtain ⟨a2, ha2, b2, hb2, Mc2, Mr2, ht2, hc2⟩ := s_whole hL l0 l1 h0 h1
    refine ⟨a2, ?_, b2, ?_, Mc2, Mr2, ht.tr ht2, ?_⟩
    · show (if w32 1 = 0 then some ((Mc1, Gc), (-1 : Int)) else M_X4_wholeDue (Mc1, Gc) R lo hi) = _
      rw [if_neg (by decide), ha2]
    · show bd (M_X11_readWhole (Mr1, Gr) 124 lo hi) (fun h x1 => some (h, x1)) = _
      rw [hb2]
      rfl
    · rcases hc2 with ⟨v, e1, e2, v0, v1, k2, hk2, hL2⟩ | hc2
      · exact Or.inl ⟨v, e1, e2, v0, v1, k2, by omega, hL2⟩
      · exact Or.inr hc2
  · refine ⟨((Mc1, Gc), -1), ?_, ((Mr1, Gr), lo), ?_, Mc1, Mr1, ht, Or.inr ⟨rfl, ⟨_, rfl⟩, hF⟩⟩
    · show (if w32 0 = 0 then some ((Mc1, Gc), (-1 : Int)) else M_X4_wholeDue (Mc1, Gc) R lo hi) = _
      rw [if_pos (by decide)]
    · show bd (M_X11_readWhole (Mr1, Gr) 124 lo hi) (fun h x1 => some (h, x1)) = _
      rw [readWhole_over hG hF.2.1]
      rfl
theorem rg_p72 {h : Hp} {l1 l2 : Int} : M_X4_readRing_p72 h R l1 l2 (-1) = some (h, 0) := by
  unfold M_X4_readRing_p72
  rw [if_pos (by decide)]
theorem rg_p46 {h : Hp} {l1 : Int} : M_X4_readRing_p46 h R l1 (-1) = some (h, 0) := by
  unfold M_X4_readRing_p46 M_X4_readRing_p71
  rw [if_pos (by decide), rg_p72]
theorem rg_p20 {h : Hp} : M_X4_readRing_p20 h R (-1) = some (h, 0) := by
  unfold M_X4_readRing_p20 M_X4_readRing_p45
  rw [if_pos (by decide), rg_p46]
theorem rg_q46 {h : Hp} {l1 s : Int} (s0 : 0 ≤ s) (s9 : s ≤ 9) : M_X4_readRing_p46 h R l1 s = bd (wpC h R 7 2 6) (fun h x => M_X4_readRing_p72 h R l1 s x) := by
  rw [← wpC_bd]
  unfold M_X4_readRing_p46
  rw [if_neg (by rw [w32_id (by omega) (by omega)]; omega)]
  rfl
theorem rg_q20 {h : Hp} {s : Int} (s0 : 0 ≤ s) (s9 : s ≤ 9) : M_X4_readRing_p20 h R s = bd (wpC h R 6 2 6) (fun h x => M_X4_readRing_p46 h R s x) := by
  rw [← wpC_bd]
  unfold M_X4_readRing_p20
  rw [if_neg (by rw [w32_id (by omega) (by omega)]; omega)]
  rfl
theorem rg_q {M : Int → Int → Int} (kR : Gc.1 R = 14) : M_X4_readRing (M, Gc) R = bd (wpC (M, Gc) R 5 2 6) (fun h x => M_X4_readRing_p20 h R x) := by
  rw [← wpC_bd]
  unfold M_X4_readRing
  rw [tk_ok kR]
theorem O2.bd2 {γ δ : Type} {c r : Option (Hp × Int)} {Q : Hp × Int → Hp × Int → Prop} {g : Hp → Int → Option γ} {j : Hp → Int → Option δ} {P : γ → δ → Prop} (h : O2 c r Q) (h2 : ∀ a b, Q a b → O2 (g a.1 a.2) (j b.1 b.2) P) : O2 (bd c g) (bd r j) P := O2.bind h h2
/-- both rings hold their sizes -/
theorem ld_ring {x y z : Int} (hs : sp = 2 ∨ sp = 13) (hd : 146 ≤ rd) (h : LDv sp rd 0 0 0 0 0 0 Mc Mr) (x0 : 2 ≤ x) (x6 : x ≤ 6) (y0 : 2 ≤ y) (y6 : y ≤ 6) (z0 : 2 ≤ z) (z6 : z ≤ 6) (c1 : ∀ a, a ≠ sp → a ≠ sp + 1 → Mc1 a = Mc a) (c2 : ∀ j, j ≠ 0 → Mc1 sp j = Mc sp j) (c3 : Mc1 sp 0 = z) (c4 : ∀ j, j ≠ 0 → j ≠ 1 → Mc1 (sp + 1) j = Mc (sp + 1) j) (c5 : Mc1 (sp + 1) 0 = x) (c6 : Mc1 (sp + 1) 1 = y) (r1 : ∀ a, a ≠ rd → Mr1 a = Mr a) (r2 : ∀ j, j ≠ 0 → j ≠ 1 → j ≠ 2 → Mr1 rd j = Mr rd j) (r3 : Mr1 rd 0 = x) (r4 : Mr1 rd 1 = y) (r5 : Mr1 rd 2 = z) : LDv sp rd x y 0 z 0 0 Mc1 Mr1 := by
  obtain ⟨⟨a1, a2⟩, b, c, -, d, g, i, -⟩ := h
  refine ⟨⟨?_, ?_⟩, ?_, ?_, fun t t0 t1 => by omega, ?_, ?_, ?_, fun j j0 j1 => by omega⟩
  · unfold shR at *
    rw [c2 1 (by omega), c2 2 (by omega), c2 3 (by omega), c2 5 (by omega), c2 6 (by omega), c2 7 (by omega), c2 8 (by omega), c1 (sp + 6) (by omega) (by omega)]
    exact a1
  · unfold shW mW zoW at *
    rw [c4 3 (by omega) (by omega), c4 4 (by omega) (by omega), c4 5 (by omega) (by omega), c1 (sp + 1 + 1) (by omega) (by omega), c1 (sp + 1 + 2) (by omega) (by omega), c1 (sp + 1 + 3) (by omega) (by omega)]
    exact a2
  · unfold pRg at *
    rw [r2 7 (by omega) (by omega) (by omega), r2 8 (by omega) (by omega) (by omega), r2 9 (by omega) (by omega) (by omega), r2 10 (by omega) (by omega) (by omega), r2 11 (by omega) (by omega) (by omega), r2 12 (by omega) (by omega) (by omega), r2 13 (by omega) (by omega) (by omega), r2 14 (by omega) (by omega) (by omega), r2 15 (by omega) (by omega) (by omega)]
    exact b
  · obtain ⟨⟨n0, n1, n2, n3, n4, n5⟩, ⟨m0, m1, m2, m3, m4, m5⟩, -⟩ := c
    exact ⟨⟨c5, c6, by rw [c4 2 (by omega) (by omega)]; exact n2, c3, by rw [c2 4 (by omega)]; exact n4, by rw [c2 9 (by omega)]; exact n5⟩, ⟨r3, r4, r5, by rw [r2 3 (by omega) (by omega) (by omega)]; exact m3, by rw [r2 4 (by omega) (by omega) (by omega)]; exact m4, by rw [r2 5 (by omega) (by omega) (by omega)]; exact m5⟩, Or.inr ⟨x0, x6, y0, y6, z0, z6⟩, by omega, by omega, by omega, by omega, by omega, by omega⟩
  · obtain ⟨d1, d2, -, -, d5, d6⟩ := d
    have hz : ∀ j, Mc1 (sp + 2) j = 0 := fun j => by rw [c1 (sp + 2) (by omega) (by omega)]; exact d5 j (by omega)
    exact ⟨by rw [c4 6 (by omega) (by omega)]; exact d1, by rw [c4 7 (by omega) (by omega)]; exact d2, fun t p t0 t1 => by omega, fun j => by rw [hz]; omega, fun j _ => hz j, by rw [r1 (rd + 1) (by omega)]; exact d6⟩
  · obtain ⟨g1, -, -, g4, -, g6, g7, g8, g9⟩ := g
    have e3 := c1 (sp + 3) (by omega) (by omega)
    have e4 := c1 (sp + 4) (by omega) (by omega)
    exact ⟨by rw [e3]; exact g1, fun t t0 t1 => by omega, fun j j0 j1 => by omega, by rw [e4]; exact g4, fun t t0 t1 => by omega, by rw [e3, e4]; exact g6, by rw [e3]; exact g7, by rw [e4, r2 6 (by omega) (by omega) (by omega)]; exact g8, by rw [e4]; exact g9⟩
  · obtain ⟨i1, -, -, i4⟩ := i
    exact ⟨by rw [c1 (sp + 6) (by omega) (by omega)]; exact i1, fun t t0 t1 => by omega, fun j j0 j1 => by omega, by rw [c1 (sp + 6) (by omega) (by omega)]; exact i4⟩
theorem rg_fail (hG : gAll Gr) (h9 : Mr 124 9 = 5) : rgT (Mr, Gr) = some (Mr, Gr) := by
  have k124 := gk_124 hG
  apply Ok.eq
  unfold rgT
  refine k_bd (readPart_over hG h9) (k_bd (readPart_over hG h9) (k_bd (readPart_over hG h9) ?_))
  exact k_gf k124 h9 (k_ifT (by decide) (Ok.ret rfl))
theorem s_ring (h : LK Gc Gr R e sp rd f Mc Mr k) (hd : LDv sp rd 0 0 0 0 0 0 Mc Mr) : O2 (M_X4_readRing (Mc, Gc) R) (rgT (Mr, Gr)) (LnK Gc Gr R e sp rd f Mc Mr k) := by
  have hG := h.hr
  have k124 := gk_124 hG
  have kR := h.kR
  have hsp := h.1.2.2.2.2
  have hR := h.1.1.2.1
  obtain ⟨hrd, kd⟩ := h.kd
  rw [rg_q kR]
  unfold rgT
  have hfl : ∀ {Ma Mb : Int → Int → Int}, tS R Mc Mr Ma Mb → LX Gc Gr R e sp rd f Ma Mb → LnK Gc Gr R e sp rd f Mc Mr k ((Ma, Gc), 0) (Mb, Gr) := fun {Ma Mb} ht hF => ⟨Ma, Mb, rfl, ht.fs, sh_t hR hsp hd.1 ht.1, Or.inr ⟨rfl, hF⟩⟩
  have hend : ∀ {Mb : Int → Int → Int} (x y z : Int), Mb 124 9 = 5 → (gf 21 (Mb, Gr) 124 9).bind (fun x4 => if w32 x4 = 5 then some (Mb, Gr) else (gr 21 (Mb, Gr) 124 4).bind fun x5 => (pf 20 (Mb, Gr) x5 0 x).bind fun h => (gr 21 h 124 4).bind fun x6 => (pf 20 h x6 1 y).bind fun h => (gr 21 h 124 4).bind fun x7 => (pf 20 h x7 2 z).bind fun h => some h) = some (Mb, Gr) := fun {Mb} x y z h9 => by
    rw [b_gf k124, h9, if_pos (by decide)]
  refine O2.bd2 (s_part h (by omega) (by omega) (by omega) (by omega) (by omega) (by omega)) ?_
  rintro _ _ ⟨Ma, Mb, ht, ⟨x, rfl, rfl, x0, x6, k1, hk1, hL⟩ | ⟨rfl, ⟨v, rfl⟩, hF⟩⟩
  · dsimp only
    rw [rg_q20 (by omega) (by omega)]
    refine O2.bd2 (s_part hL (by omega) (by omega) (by omega) (by omega) (by omega) (by omega)) ?_
    rintro _ _ ⟨Mc2, Mr2, ht2, ⟨y, rfl, rfl, y0, y6, k2, hk2, hL2⟩ | ⟨rfl, ⟨v, rfl⟩, hF⟩⟩
    · have ht2 := ht.tr ht2
      dsimp only
      rw [rg_q46 (by omega) (by omega)]
      refine O2.bd2 (s_part hL2 (by omega) (by omega) (by omega) (by omega) (by omega) (by omega)) ?_
      rintro _ _ ⟨Mc3, Mr3, ht3, ⟨z, rfl, rfl, z0, z6, k3, hk3, hL3⟩ | ⟨rfl, ⟨v, rfl⟩, hF⟩⟩
      · have ht3 := ht2.tr ht3
        have hd3 := hd.t hR hsp hrd ht3
        obtain ⟨g0, gw, -⟩ := h.gc
        have gw := gw.2.1
        have q4 := hL3.c4
        have m4 := hL3.m4
        have p1 := hd3.1.1.1
        have h9 := hL3.r9
        have hR1 : R ≠ sp := by omega
        have hR2 : R ≠ sp + 1 := by omega
        have hR3 : sp ≠ sp + 1 := by omega
        have hrd1 : rd ≠ 124 := by omega
        dsimp only
        unfold M_X4_readRing_p72 O2
        refine k_ifF (by rw [w32_id (by omega) (by omega)]; omega) ?_
        repeat' (with_reducible first | refine k_gf (by first | assumption | omega) (by first | assumption | ((try simp (disch := omega) only [sr_s, sr_a, sr_sr, u1_s, u1_k, q4, p1]); exact rfl)) ?_ | refine k_gr (by first | assumption | omega) (by first | assumption | ((try simp (disch := omega) only [sr_s, sr_a, sr_sr, u1_s, u1_k, q4, p1]); exact rfl)) (by omega) ?_ | refine k_ald (by first | assumption | omega) (by first | assumption | exact rfl) (by omega) (by omega) (by omega) (by first | assumption | ((try simp (disch := omega) only [sr_s, sr_a, sr_sr, u1_s, u1_k, q4, p1]); exact rfl)) ?_ | refine k_ifT (by first | (simp (disch := omega) only [w32_id]; first | done | omega) | omega) ?_ | refine k_ifF (by first | (simp (disch := omega) only [w32_id]; first | done | omega) | omega) ?_ | refine k_pf (by first | assumption | omega) (by (try simp (disch := omega) only [sr_s, sr_a, sr_sr, u1_u1, q4, p1]); exact rfl) ?_ | refine k_ast (by first | assumption | omega) (by first | assumption | exact rfl) (by omega) (by omega) (by omega) (by (try simp (disch := omega) only [sr_s, sr_a, sr_sr, u1_u1, q4, p1]); exact rfl) ?_ | refine k_irm (by omega) (by omega) (by omega) (by omega) ?_ | refine k_idv (by omega) (by omega) (by omega) (by omega) ?_ | refine k_tk (by first | assumption | omega) ?_ | refine k_rp (by omega) ?_ | refine k_aldR (by first | assumption | omega) (by first | assumption | exact rfl) (by omega) (by omega) (by omega) (by first | assumption | ((try simp (disch := omega) only [sr_s, sr_a, sr_sr, u1_s, u1_k, q4, p1]); exact rfl)) (by omega) ?_ | refine k_astR (by first | assumption | omega) (by first | assumption | exact rfl) (by omega) (by omega) (by omega) (by first | assumption | omega) (by (try simp (disch := omega) only [sr_s, sr_a, sr_sr, u1_u1, q4, p1]); exact rfl) ?_ | refine k_pz (by first | assumption | omega) (by omega) (by (try simp (disch := omega) only [sr_s, sr_a, sr_sr, u1_u1, q4, p1]); exact rfl) ?_ | refine k_alen (by first | assumption | omega) (by first | assumption | exact rfl) ?_ | refine k_cpy (by first | assumption | omega) (by first | assumption | omega) (by first | assumption | exact rfl) (by first | assumption | exact rfl) (by omega) (by omega) (by omega) (by omega) (by omega) (by omega) (by omega) (by omega) (by (try simp (disch := omega) only [sr_s, sr_a, sr_sr, u1_u1, q4, p1]); exact rfl) ?_)
        refine Ok.ret ?_
        refine k_gf k124 rfl ?_
        refine k_ifF (by rw [w32_id (by omega) (by omega)]; omega) ?_
        repeat' (with_reducible first | refine k_gf (by first | assumption | omega) (by first | assumption | ((try simp (disch := omega) only [sr_s, sr_a, sr_sr, u1_s, u1_k, m4]); exact rfl)) ?_ | refine k_gr (by first | assumption | omega) (by first | assumption | ((try simp (disch := omega) only [sr_s, sr_a, sr_sr, u1_s, u1_k, m4]); exact rfl)) (by omega) ?_ | refine k_ald (by first | assumption | omega) (by first | assumption | exact rfl) (by omega) (by omega) (by omega) (by first | assumption | ((try simp (disch := omega) only [sr_s, sr_a, sr_sr, u1_s, u1_k, m4]); exact rfl)) ?_ | refine k_ifT (by first | (simp (disch := omega) only [w32_id]; first | done | omega) | omega) ?_ | refine k_ifF (by first | (simp (disch := omega) only [w32_id]; first | done | omega) | omega) ?_ | refine k_pf (by first | assumption | omega) (by (try simp (disch := omega) only [sr_s, sr_a, sr_sr, u1_u1, m4]); exact rfl) ?_ | refine k_ast (by first | assumption | omega) (by first | assumption | exact rfl) (by omega) (by omega) (by omega) (by (try simp (disch := omega) only [sr_s, sr_a, sr_sr, u1_u1, m4]); exact rfl) ?_ | refine k_irm (by omega) (by omega) (by omega) (by omega) ?_ | refine k_idv (by omega) (by omega) (by omega) (by omega) ?_ | refine k_tk (by first | assumption | omega) ?_ | refine k_rp (by omega) ?_ | refine k_aldR (by first | assumption | omega) (by first | assumption | exact rfl) (by omega) (by omega) (by omega) (by first | assumption | ((try simp (disch := omega) only [sr_s, sr_a, sr_sr, u1_s, u1_k, m4]); exact rfl)) (by omega) ?_ | refine k_astR (by first | assumption | omega) (by first | assumption | exact rfl) (by omega) (by omega) (by omega) (by first | assumption | omega) (by (try simp (disch := omega) only [sr_s, sr_a, sr_sr, u1_u1, m4]); exact rfl) ?_ | refine k_pz (by first | assumption | omega) (by omega) (by (try simp (disch := omega) only [sr_s, sr_a, sr_sr, u1_u1, m4]); exact rfl) ?_ | refine k_alen (by first | assumption | omega) (by first | assumption | exact rfl) ?_ | refine k_cpy (by first | assumption | omega) (by first | assumption | omega) (by first | assumption | exact rfl) (by first | assumption | exact rfl) (by omega) (by omega) (by omega) (by omega) (by omega) (by omega) (by omega) (by omega) (by (try simp (disch := omega) only [sr_s, sr_a, sr_sr, u1_u1, m4]); exact rfl) ?_)
        have hN1 : ∀ a, a ≠ sp → a ≠ sp + 1 → sr (sr Mc3 (sp + 1) (u1 (u1 (Mc3 (sp + 1)) 0 x) 1 y)) sp (u1 (Mc3 sp) 0 z) a = Mc3 a := fun a a1 a2 => by rw [sr_a _ _ a1, sr_a _ _ a2]
        have hN2 : ∀ a, a ≠ rd → sr Mr3 rd (u1 (u1 (u1 (Mr3 rd) 0 x) 1 y) 2 z) a = Mr3 a := fun a ha => sr_a _ _ ha
        have hLD : LDv sp rd x y 0 z 0 0 (sr (sr Mc3 (sp + 1) (u1 (u1 (Mc3 (sp + 1)) 0 x) 1 y)) sp (u1 (Mc3 sp) 0 z)) (sr Mr3 rd (u1 (u1 (u1 (Mr3 rd) 0 x) 1 y) 2 z)) := ld_ring hsp hrd hd3 x0 x6 y0 y6 z0 z6 hN1 (fun j hj => by rw [sr_s, u1_k _ _ hj]) (by rw [sr_s, u1_s]) (fun j j0 j1 => by rw [sr_a _ _ (by omega), sr_s, u1_k _ _ j1, u1_k _ _ j0]) (by rw [sr_a _ _ (by omega), sr_s, u1_k _ _ (by omega), u1_s]) (by rw [sr_a _ _ (by omega), sr_s, u1_s]) hN2 (fun j j0 j1 j2 => by rw [sr_s, u1_k _ _ j2, u1_k _ _ j1, u1_k _ _ j0]) (by rw [sr_s, u1_k _ _ (by omega), u1_k _ _ (by omega), u1_s]) (by rw [sr_s, u1_k _ _ (by omega), u1_s]) (by rw [sr_s, u1_s])
        refine Ok.ret ⟨_, _, rfl, ?_, hLD.1, Or.inl ⟨rfl, k3, x, y, 0, z, 0, 0, by omega, ?_, hLD⟩⟩
        · refine ht3.fs.tr ⟨fun a _ hb => hN1 a (by omega) (by omega), fun a _ hb => hN2 a (by omega), fun j _ => by rw [hN2 124 (by omega)], fun j _ _ => by rw [hN1 R (by omega) (by omega)]⟩
        · exact hL3.dt (hN1 R (by omega) (by omega)) (hN1 1 (by omega) (by omega)) (hN2 124 (by omega)) (hN2 125 (by omega))
      · dsimp only
        rw [rg_p72]
        exact ⟨_, rfl, _, hend _ _ _ hF.2.1, hfl (ht2.tr ht3) hF⟩
    · dsimp only
      rw [rg_p46]
      refine ⟨_, rfl, (Mr2, Gr), ?_, hfl (ht.tr ht2) hF⟩
      apply Ok.eq
      refine k_bd (readPart_over hG hF.2.1) ?_
      rw [hend _ _ _ hF.2.1]
      exact Ok.ret rfl
  · dsimp only
    rw [rg_p20]
    refine ⟨_, rfl, (Mb, Gr), ?_, hfl ht hF⟩
    apply Ok.eq
    refine k_bd (readPart_over hG hF.2.1) (k_bd (readPart_over hG hF.2.1) ?_)
    rw [hend _ _ _ hF.2.1]
    exact Ok.ret rfl
end RL
