/-! the line of what was seen -/
def sn5 (h : Hp) (x3 x4 x7 x10 x11 : Int) : Option Hp :=
  (gf 21 h 124 9).bind fun x12 => if w32 x12 = 5 then some h else (gr 21 h 124 4).bind fun x13 => (gr 20 h x13 11).bind fun x14 => (gr 21 h 124 4).bind fun x15 => (gf 20 h x15 5).bind fun x16 => (ast 1 h x14 x16 x3).bind fun h => (gr 21 h 124 4).bind fun x17 => (gr 20 h x17 12).bind fun x18 => (gr 21 h 124 4).bind fun x19 => (gf 20 h x19 5).bind fun x20 => (ast 1 h x18 x20 x4).bind fun h => (gr 21 h 124 4).bind fun x21 => (gr 20 h x21 13).bind fun x22 => (gr 21 h 124 4).bind fun x23 => (gf 20 h x23 5).bind fun x24 => (gr 21 h 124 4).bind fun x25 => (gf 20 h x25 0).bind fun x26 => (ast 1 h x22 x24 ((x10 * x26) + x7)).bind fun h => (gr 21 h 124 4).bind fun x27 => (gr 20 h x27 14).bind fun x28 => (gr 21 h 124 4).bind fun x29 => (gf 20 h x29 5).bind fun x30 => (ast 1 h x28 x30 x11).bind fun h => (gr 21 h 124 4).bind fun x31 => (gf 20 h x31 5).bind fun x32 => (pf 20 h x31 5 (x32 + 1)).bind fun h => some h
def sn4 (h : Hp) (x3 x4 x7 x10 : Int) : Option Hp := bd (M_X11_readMark h 124) fun h x11 => sn5 h x3 x4 x7 x10 x11
def sn3 (h : Hp) (x3 x4 x7 : Int) : Option Hp := (gr 21 h 124 4).bind fun x8 => (gf 20 h x8 1).bind fun x9 => bd (M_X11_readWhole h 124 0 (x9 - 1)) fun h x10 => sn4 h x3 x4 x7 x10
def sn2 (h : Hp) (x3 x4 : Int) : Option Hp := (gr 21 h 124 4).bind fun x5 => (gf 20 h x5 0).bind fun x6 => bd (M_X11_readWhole h 124 0 (x6 - 1)) fun h x7 => sn3 h x3 x4 x7
def sn1 (h : Hp) (x3 : Int) : Option Hp := bd (M_X11_readWhole h 124 1 20) fun h x4 => sn2 h x3 x4
def snT (h : Hp) : Option Hp := bd (M_X11_readTown h 124) fun h x3 => sn1 h x3
theorem snT_eq (h : Hp) : M_X11_readSeen h 124 = tk 21 h 124 ((gr 21 h 124 4).bind fun x1 => (gf 20 h x1 5).bind fun x2 => (M_X11_begins h 124 x2 8).bind snT) := rfl
section SN
variable {Mc Mr Mc1 Mr1 : Int → Int → Int} {Gc Gr : GG} {R e k sp rd wd hi tw mk gs sn : Int} {f : Int → Int}
theorem LnK.ok {Mc Mr Mc1 Mr1 : Int → Int → Int} {k1 : Int} (hf : fS R sp rd Mc Mr Mc1 Mr1) (hk : k < k1) (hL : LK Gc Gr R e sp rd f Mc1 Mr1 k1) (hd : LDv sp rd wd hi tw mk gs sn Mc1 Mr1) : LnK Gc Gr R e sp rd f Mc Mr k ((Mc1, Gc), 1) (Mr1, Gr) := ⟨Mc1, Mr1, rfl, hf, hd.1, Or.inl ⟨rfl, k1, wd, hi, tw, mk, gs, sn, hk, hL, hd⟩⟩
theorem LnK.no {Mc Mr Mc1 Mr1 : Int → Int → Int} (hf : fS R sp rd Mc Mr Mc1 Mr1) (hs : shR Mc1 sp ∧ shW Mc1 (sp + 1)) (hX : LX Gc Gr R e sp rd f Mc1 Mr1) : LnK Gc Gr R e sp rd f Mc Mr k ((Mc1, Gc), 0) (Mr1, Gr) := ⟨Mc1, Mr1, rfl, hf, hs, Or.inr ⟨rfl, hX⟩⟩
theorem sn5_o {x3 x4 x7 x10 x11 : Int} (h : LX Gc Gr R e sp rd f Mc Mr) : sn5 (Mr, Gr) x3 x4 x7 x10 x11 = some (Mr, Gr) := by
  have hG := h.hr
  have k124 := gk_124 hG
  unfold sn5
  rw [b_gf k124, h.2.1, if_pos (by decide)]
theorem sn4_o {x3 x4 x7 x10 : Int} (h : LX Gc Gr R e sp rd f Mc Mr) : sn4 (Mr, Gr) x3 x4 x7 x10 = some (Mr, Gr) := by
  unfold sn4
  have hkd := h.kd
  rw [readMark_over h.hr h.2.1 h.m4 (by omega) hkd.2]
  exact sn5_o h
theorem sn3_o {x3 x4 x7 : Int} (h : LX Gc Gr R e sp rd f Mc Mr) : sn3 (Mr, Gr) x3 x4 x7 = some (Mr, Gr) := by
  have hG := h.hr
  have k124 := gk_124 hG
  have hkd := h.kd
  have m4 := h.m4
  unfold sn3
  rw [b_gr k124 (by omega), m4, b_gf hkd.2, readWhole_over hG h.2.1]
  exact sn4_o h
theorem sn2_o {x3 x4 : Int} (h : LX Gc Gr R e sp rd f Mc Mr) : sn2 (Mr, Gr) x3 x4 = some (Mr, Gr) := by
  have hG := h.hr
  have k124 := gk_124 hG
  have hkd := h.kd
  have m4 := h.m4
  unfold sn2
  rw [b_gr k124 (by omega), m4, b_gf hkd.2, readWhole_over hG h.2.1]
  exact sn3_o h
theorem sn1_o {x3 : Int} (h : LX Gc Gr R e sp rd f Mc Mr) : sn1 (Mr, Gr) x3 = some (Mr, Gr) := by
  unfold sn1
  rw [readWhole_over h.hr h.2.1]
  exact sn2_o h
/-- one more was seen -/
theorem ld_seen {t b p m : Int} (hs : sp = 2 ∨ sp = 13) (hr : 146 ≤ rd) (h : LDv sp rd wd hi tw mk gs sn Mc Mr) (w2 : 2 ≤ wd) (s7 : sn < 8) (ht : 0 ≤ t ∧ t < tw) (hb : 1 ≤ b ∧ b ≤ 20) (hp : inV wd hi p) (hm : 0 ≤ m ∧ m < mk) (c1 : ∀ a, a ≠ sp → ¬ (sp + 7 ≤ a ∧ a ≤ sp + 10) → Mc1 a = Mc a) (c2 : ∀ j, j ≠ 9 → Mc1 sp j = Mc sp j) (c3 : Mc1 sp 9 = sn + 1) (c7 : Mc1 (sp + 7) = u1 (Mc (sp + 7)) sn t) (c8 : Mc1 (sp + 8) = u1 (Mc (sp + 8)) sn b) (c9 : Mc1 (sp + 9) = u1 (Mc (sp + 9)) sn p) (c10 : Mc1 (sp + 10) = u1 (Mc (sp + 10)) sn m) (r1 : ∀ a, a ≠ rd → ¬ (rd + 5 ≤ a ∧ a ≤ rd + 8) → Mr1 a = Mr a) (r2 : ∀ j, j ≠ 5 → Mr1 rd j = Mr rd j) (r3 : Mr1 rd 5 = sn + 1) (r5 : Mr1 (rd + 5) = u1 (Mr (rd + 5)) sn t) (r6 : Mr1 (rd + 6) = u1 (Mr (rd + 6)) sn b) (r7 : Mr1 (rd + 7) = u1 (Mr (rd + 7)) sn (idx wd p)) (r8 : Mr1 (rd + 8) = u1 (Mr (rd + 8)) sn m) : LDv sp rd wd hi tw mk gs (sn + 1) Mc1 Mr1 := by
  obtain ⟨⟨a1, a2⟩, b0, c, n, d, g, i, l⟩ := h
  refine ⟨⟨?_, ?_⟩, ?_, ?_, ?_, ?_, ?_, ?_, ?_⟩
  · unfold shR at *
    rw [c2 1 (by omega), c2 2 (by omega), c2 3 (by omega), c2 5 (by omega), c2 6 (by omega), c2 7 (by omega), c2 8 (by omega), c1 (sp + 6) (by omega) (by omega)]
    exact a1
  · unfold shW mW zoW at *
    rw [c1 (sp + 1) (by omega) (by omega), c1 (sp + 1 + 1) (by omega) (by omega), c1 (sp + 1 + 2) (by omega) (by omega), c1 (sp + 1 + 3) (by omega) (by omega)]
    exact a2
  · unfold pRg at *
    rw [r2 7 (by omega), r2 8 (by omega), r2 9 (by omega), r2 10 (by omega), r2 11 (by omega), r2 12 (by omega), r2 13 (by omega), r2 14 (by omega), r2 15 (by omega)]
    exact b0
  · obtain ⟨⟨n0, n1, n2, n3, n4, n5⟩, ⟨m0, m1, m2, m3, m4, m5⟩, hd, q⟩ := c
    have e1 := c1 (sp + 1) (by omega) (by omega)
    exact ⟨⟨by rw [e1]; exact n0, by rw [e1]; exact n1, by rw [e1]; exact n2, by rw [c2 0 (by omega)]; exact n3, by rw [c2 4 (by omega)]; exact n4, c3⟩, ⟨by rw [r2 0 (by omega)]; exact m0, by rw [r2 1 (by omega)]; exact m1, by rw [r2 2 (by omega)]; exact m2, by rw [r2 3 (by omega)]; exact m3, by rw [r2 4 (by omega)]; exact m4, r3⟩, Or.inr (by omega), by omega, by omega, by omega, by omega, by omega, by omega⟩
  · rw [c1 (sp + 5) (by omega) (by omega), r1 (rd + 9) (by omega) (by omega)]; exact n
  · unfold LDw at *
    rw [c1 (sp + 1) (by omega) (by omega), c1 (sp + 2) (by omega) (by omega), r1 (rd + 1) (by omega) (by omega)]
    exact d
  · unfold LDe at *
    rw [c1 (sp + 3) (by omega) (by omega), c1 (sp + 4) (by omega) (by omega), r1 (rd + 2) (by omega) (by omega), r1 (rd + 3) (by omega) (by omega), r2 6 (by omega)]
    exact g
  · unfold LDg at *
    rw [c1 (sp + 6) (by omega) (by omega), r1 (rd + 4) (by omega) (by omega)]
    exact i
  · intro j j0 j1
    rw [c7, c8, c9, c10, r5, r6, r7, r8]
    by_cases y : j = sn
    · rw [y]
      simp only [u1_s]
      exact ⟨ht, hb, hp, hm, trivial, trivial, trivial, trivial⟩
    · simp (disch := omega) only [u1_k]
      exact l j j0 (by omega)
theorem sn_p94 {h : Hp} {l1 l2 l3 l4 : Int} : M_X4_readSeen_p94 h R l1 l2 l3 l4 (-1) = some (h, 0) := by
  unfold M_X4_readSeen_p94
  rw [if_pos (by decide)]
theorem sn_p77 {h : Hp} {l1 l2 l3 : Int} : M_X4_readSeen_p77 h R l1 l2 l3 (-1) = some (h, 0) := by
  unfold M_X4_readSeen_p77
  rw [if_pos (by decide), sn_p94]
theorem sn_p50 {h : Hp} {l1 l2 : Int} : M_X4_readSeen_p50 h R l1 l2 (-1) = some (h, 0) := by
  unfold M_X4_readSeen_p50
  rw [if_pos (by decide), sn_p77]
theorem sn_end {t b x y m : Int} (h : LK Gc Gr R e sp rd f Mc Mr k) (hd : LDv sp rd wd hi tw mk gs sn Mc Mr) (w2 : 2 ≤ wd) (s7 : sn < 8) (ht : 0 ≤ t ∧ t < tw) (hb : 1 ≤ b ∧ b ≤ 20) (hx : 0 ≤ x ∧ x < wd) (hy : 0 ≤ y ∧ y < hi) (hm : 0 ≤ m ∧ m < mk) : O2 (M_X4_readSeen_p94 (Mc, Gc) R t b x y m) (sn5 (Mr, Gr) t b x y m) (fun a b => ∃ Mc1 Mr1, a = ((Mc1, Gc), 1) ∧ b = (Mr1, Gr) ∧ fS R sp rd Mc Mr Mc1 Mr1 ∧ LK Gc Gr R e sp rd f Mc1 Mr1 k ∧ LDv sp rd wd hi tw mk gs (sn + 1) Mc1 Mr1) := by
  have hG := h.hr
  have k124 := gk_124 hG
  have kR := h.kR
  have hsp := h.1.2.2.2.2
  have hR := h.1.1.2.1
  have hrg := h.1.2.2.2.1
  obtain ⟨hrd, kd, -, -, -, -, ⟨kr5, lr5⟩, ⟨kr6, lr6⟩, ⟨kr7, lr7⟩, ⟨kr8, lr8⟩, -, -⟩ := hrg
  obtain ⟨g0, -, -, -, ⟨g7, l7⟩, ⟨g8, l8⟩, ⟨g9, l9⟩, g10, l10⟩ := h.gc
  have q4 := h.c4
  have m4 := h.m4
  have h9 := h.r9
  have hd0 := hd
  obtain ⟨⟨⟨-, -, -, p5, p6, p7, p8, -⟩, -⟩, ⟨-, -, -, -, s11, s12, s13, s14, -⟩, ⟨⟨-, -, -, -, -, n9⟩, ⟨e0, -, -, -, -, e5⟩, hdim, -, -, -, -, sn0, -⟩, -⟩ := hd0
  have hR1 : ∀ j, 0 ≤ j → j ≤ 10 → R ≠ sp + j := fun j _ _ => by omega
  unfold M_X4_readSeen_p94 O2
  refine k_ifF (by rw [w32_id (by omega) (by omega)]; omega) ?_
  repeat' (with_reducible first | refine k_gf (by first | assumption | omega) (by first | assumption | ((try simp (disch := omega) only [sr_s, sr_a, sr_sr, u1_s, u1_k, q4, n9, p5, p6, p7, p8]); exact rfl)) ?_ | refine k_gr (by first | assumption | omega) (by first | assumption | ((try simp (disch := omega) only [sr_s, sr_a, sr_sr, u1_s, u1_k, q4, n9, p5, p6, p7, p8]); exact rfl)) (by omega) ?_ | refine k_ald (by first | assumption | omega) (by first | assumption | exact rfl) (by omega) (by omega) (by omega) (by first | assumption | ((try simp (disch := omega) only [sr_s, sr_a, sr_sr, u1_s, u1_k, q4, n9, p5, p6, p7, p8]); exact rfl)) ?_ | refine k_ifT (by first | (simp (disch := omega) only [w32_id]; first | done | omega) | omega) ?_ | refine k_ifF (by first | (simp (disch := omega) only [w32_id]; first | done | omega) | omega) ?_ | refine k_pf (by first | assumption | omega) (by (try simp (disch := omega) only [sr_s, sr_a, sr_sr, u1_u1, q4, n9, p5, p6, p7, p8]); exact rfl) ?_ | refine k_ast (by first | assumption | omega) (by first | assumption | exact rfl) (by omega) (by omega) (by omega) (by (try simp (disch := omega) only [sr_s, sr_a, sr_sr, u1_u1, q4, n9, p5, p6, p7, p8]); exact rfl) ?_ | refine k_irm (by omega) (by omega) (by omega) (by omega) ?_ | refine k_idv (by omega) (by omega) (by omega) (by omega) ?_ | refine k_tk (by first | assumption | omega) ?_ | refine k_rp (by omega) ?_ | refine k_aldR (by first | assumption | omega) (by first | assumption | exact rfl) (by omega) (by omega) (by omega) (by first | assumption | ((try simp (disch := omega) only [sr_s, sr_a, sr_sr, u1_s, u1_k, q4, n9, p5, p6, p7, p8]); exact rfl)) (by omega) ?_ | refine k_astR (by first | assumption | omega) (by first | assumption | exact rfl) (by omega) (by omega) (by omega) (by first | assumption | omega) (by (try simp (disch := omega) only [sr_s, sr_a, sr_sr, u1_u1, q4, n9, p5, p6, p7, p8]); exact rfl) ?_ | refine k_pz (by first | assumption | omega) (by omega) (by (try simp (disch := omega) only [sr_s, sr_a, sr_sr, u1_u1, q4, n9, p5, p6, p7, p8]); exact rfl) ?_ | refine k_alen (by first | assumption | omega) (by first | assumption | exact rfl) ?_ | refine k_cpy (by first | assumption | omega) (by first | assumption | omega) (by first | assumption | exact rfl) (by first | assumption | exact rfl) (by omega) (by omega) (by omega) (by omega) (by omega) (by omega) (by omega) (by omega) (by (try simp (disch := omega) only [sr_s, sr_a, sr_sr, u1_u1, q4, n9, p5, p6, p7, p8]); exact rfl) ?_)
  refine Ok.ret ?_
  unfold sn5
  refine k_gf k124 rfl ?_
  refine k_ifF (by rw [w32_id (by omega) (by omega)]; omega) ?_
  repeat' (with_reducible first | refine k_gf (by first | assumption | omega) (by first | assumption | ((try simp (disch := omega) only [sr_s, sr_a, sr_sr, u1_s, u1_k, m4, s11, s12, s13, s14, e0, e5]); exact rfl)) ?_ | refine k_gr (by first | assumption | omega) (by first | assumption | ((try simp (disch := omega) only [sr_s, sr_a, sr_sr, u1_s, u1_k, m4, s11, s12, s13, s14, e0, e5]); exact rfl)) (by omega) ?_ | refine k_ald (by first | assumption | omega) (by first | assumption | exact rfl) (by omega) (by omega) (by omega) (by first | assumption | ((try simp (disch := omega) only [sr_s, sr_a, sr_sr, u1_s, u1_k, m4, s11, s12, s13, s14, e0, e5]); exact rfl)) ?_ | refine k_ifT (by first | (simp (disch := omega) only [w32_id]; first | done | omega) | omega) ?_ | refine k_ifF (by first | (simp (disch := omega) only [w32_id]; first | done | omega) | omega) ?_ | refine k_pf (by first | assumption | omega) (by (try simp (disch := omega) only [sr_s, sr_a, sr_sr, u1_u1, m4, s11, s12, s13, s14, e0, e5]); exact rfl) ?_ | refine k_ast (by first | assumption | omega) (by first | assumption | exact rfl) (by omega) (by omega) (by omega) (by (try simp (disch := omega) only [sr_s, sr_a, sr_sr, u1_u1, m4, s11, s12, s13, s14, e0, e5]); exact rfl) ?_ | refine k_irm (by omega) (by omega) (by omega) (by omega) ?_ | refine k_idv (by omega) (by omega) (by omega) (by omega) ?_ | refine k_tk (by first | assumption | omega) ?_ | refine k_rp (by omega) ?_ | refine k_aldR (by first | assumption | omega) (by first | assumption | exact rfl) (by omega) (by omega) (by omega) (by first | assumption | ((try simp (disch := omega) only [sr_s, sr_a, sr_sr, u1_s, u1_k, m4, s11, s12, s13, s14, e0, e5]); exact rfl)) (by omega) ?_ | refine k_astR (by first | assumption | omega) (by first | assumption | exact rfl) (by omega) (by omega) (by omega) (by first | assumption | omega) (by (try simp (disch := omega) only [sr_s, sr_a, sr_sr, u1_u1, m4, s11, s12, s13, s14, e0, e5]); exact rfl) ?_ | refine k_pz (by first | assumption | omega) (by omega) (by (try simp (disch := omega) only [sr_s, sr_a, sr_sr, u1_u1, m4, s11, s12, s13, s14, e0, e5]); exact rfl) ?_ | refine k_alen (by first | assumption | omega) (by first | assumption | exact rfl) ?_ | refine k_cpy (by first | assumption | omega) (by first | assumption | omega) (by first | assumption | exact rfl) (by first | assumption | exact rfl) (by omega) (by omega) (by omega) (by omega) (by omega) (by omega) (by omega) (by omega) (by (try simp (disch := omega) only [sr_s, sr_a, sr_sr, u1_u1, m4, s11, s12, s13, s14, e0, e5]); exact rfl) ?_)
  have hpi : inV wd hi (6 * y + x) := ⟨by omega, by omega, by omega⟩
  have hpx : idx wd (6 * y + x) = y * wd + x := by
    unfold idx
    rw [show (6 * y + x) / 6 = y by omega, show (6 * y + x) % 6 = x by omega]
  refine Ok.ret ⟨_, _, rfl, rfl, ⟨fun a a1 a2 => ?_, fun a a1 a2 => ?_, fun j hj => ?_, fun j j0 j1 => ?_⟩, h.dt ?_ ?_ ?_ ?_, ld_seen (t := t) (b := b) (p := 6 * y + x) (m := m) hsp hrd hd w2 s7 ht hb hpi hm (fun a a1 a2 => ?_) (fun j hj => ?_) ?_ ?_ ?_ ?_ ?_ (fun a a1 a2 => ?_) (fun j hj => ?_) ?_ ?_ ?_ ?_ ?_⟩
  all_goals first | (simp (disch := omega) only [sr_s, sr_a, u1_s, u1_k, hpx]; done) | (simp (disch := first | assumption | omega) only [sr_s, sr_a, u1_s, u1_k, hpx])
end SN
