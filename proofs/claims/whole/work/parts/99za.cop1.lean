/-! the line of copies: its rows -/
def cpD (h : Hp) (v c : Int) : Option Hp := (gf 21 h 124 9).bind fun x4 => if w32 x4 = 5 then some h else (gr 21 h 124 4).bind fun x5 => (gr 20 h x5 8).bind fun x6 => (ast 1 h x6 v c).bind fun h => some h
def cpC (h : Hp) (v c : Int) : Option Hp := (gr 21 h 124 4).bind fun x2 => (gr 20 h x2 9).bind fun x3 => (M_X11_readError h 124 x3 v 0).bind fun h => cpD h v c
def cpB (h : Hp) (v c : Int) : Option Hp := (M_X11_needs h 124 8).bind fun h => cpC h v c
def cpA (h : Hp) (v : Int) : Option Hp := bd (M_X11_readTown h 124) fun h x1 => cpB h v x1
theorem cpA_eq (h : Hp) (v : Int) : M_X11_readCopies_p38 h 124 v = (M_X11_goesOn h 124).bind fun h => cpA h v := rfl
def cpT (h : Hp) : Option Hp := bd (M_X11_knownTown h 124) fun h x7 => (gf 21 h 124 9).bind fun x8 => if w32 x8 = 5 then M_X11_readCopies_p38 h 124 x7 else (gr 21 h 124 4).bind fun x9 => (gr 20 h x9 8).bind fun x10 => (ald 1 h x10 x7).bind fun x11 => if w32 x11 = (-2) then M_X11_readCopies_p38 h 124 x7 else (M_X11_flaw h 124 3).bind fun h => M_X11_readCopies_p38 h 124 x7
theorem cpT_eq (h : Hp) : M_X11_readCopies h 124 = tk 21 h 124 ((M_X11_begins h 124 0 1).bind cpT) := rfl
section CP
variable {Mc Mr Mc1 Mr1 : Int → Int → Int} {Gc Gr : GG} {R e k sp rd wd hi tw mk gs sn : Int} {f : Int → Int}
theorem cpD_o {v c : Int} (h : LX Gc Gr R e sp rd f Mc Mr) : cpD (Mr, Gr) v c = some (Mr, Gr) := by
  have hG := h.hr
  have k124 := gk_124 hG
  unfold cpD
  rw [b_gf k124, h.2.1, if_pos (by decide)]
theorem cpC_o {v c : Int} (h : LX Gc Gr R e sp rd f Mc Mr) (hp : pRg (Mr rd) rd) : cpC (Mr, Gr) v c = some (Mr, Gr) := by
  have hG := h.hr
  have k124 := gk_124 hG
  have hkd := h.kd
  have m4 := h.m4
  have p9 : Mr rd 9 = rd + 3 := hp.2.2.1
  unfold cpC
  rw [b_gr k124 (by omega), m4, b_gr hkd.2 (by omega), p9, readError_o h]
  exact cpD_o h
theorem cpB_o {v c : Int} (h : LX Gc Gr R e sp rd f Mc Mr) (hp : pRg (Mr rd) rd) : cpB (Mr, Gr) v c = some (Mr, Gr) := by
  unfold cpB
  rw [needs_over h.hr h.2.1]
  exact cpC_o h hp
theorem cpA_o {v : Int} (h : LX Gc Gr R e sp rd f Mc Mr) (hp : pRg (Mr rd) rd) (h3 : Mr rd 3 = tw) (t0 : 0 ≤ tw) (t6 : tw ≤ 6) : cpA (Mr, Gr) v = some (Mr, Gr) := by
  unfold cpA
  rw [readTown_over h.hr h.2.1 h.m4 h.1.2.2.2.1 hp.2.2.2.2.2.2.2.2 h3 t0 t6]
  exact cpB_o h hp
theorem p38_o {v : Int} (h : LX Gc Gr R e sp rd f Mc Mr) (hp : pRg (Mr rd) rd) (h3 : Mr rd 3 = tw) (t0 : 0 ≤ tw) (t6 : tw ≤ 6) : M_X11_readCopies_p38 (Mr, Gr) 124 v = some (Mr, Gr) := by
  rw [cpA_eq, X11_over h.hr h.2.1]
  exact cpA_o h hp h3 t0 t6
theorem uk_u4 {g : Int → Int} {v s v1 v2 v3 : Int} (v0 : 0 ≤ v) (hg : g (4 * v) ≠ 10) : ∀ n : Nat, uk (u4 g (4 * v) s v1 v2 v3) n = uk g n + if v < (n : Int) ∧ s = 10 then 1 else 0
  | 0 => by
    show 0 = 0 + _
    rw [if_neg (by omega)]
  | n + 1 => by
    show uk (u4 g (4 * v) s v1 v2 v3) n + (if u4 g (4 * v) s v1 v2 v3 (4 * (n : Int)) = 10 then 1 else 0) = (uk g n + (if g (4 * (n : Int)) = 10 then 1 else 0)) + _
    rw [uk_u4 v0 hg n]
    by_cases y : v = (n : Int)
    · subst y
      rw [u4_0, if_neg (c := (n : Int) < (n : Int) ∧ s = 10) (by omega), if_neg hg]
      by_cases z : s = 10
      · rw [if_pos z, if_pos ⟨by omega, z⟩]
      · rw [if_neg z, if_neg (by omega)]
    · rw [u4_k (by omega)]
      by_cases z : v < (n : Int) ∧ s = 10
      · have z' : v < ((n + 1 : Nat) : Int) ∧ s = 10 := ⟨by omega, z.2⟩
        rw [if_pos z, if_pos z']
        omega
      · have z' : ¬ (v < ((n + 1 : Nat) : Int) ∧ s = 10) := by omega
        rw [if_neg z, if_neg z']
        omega
/-- one more town that copies -/
theorem ld_copies {v c s v1 v2 v3 : Int} (hs : sp = 2 ∨ sp = 13) (hr : 146 ≤ rd) (h : LDv sp rd wd hi tw mk gs sn Mc Mr) (v0 : 0 ≤ v) (vt : v < tw) (cv : Mc (sp + 3) v < 0) (c0 : 0 ≤ c) (ct : c < tw) (hb : errB wd hi mk s v1 v2 v3) (hu : s = 10 → Mr rd 6 ≠ 4) (c1 : ∀ a, a ≠ sp + 3 → a ≠ sp + 4 → Mc1 a = Mc a) (c3 : Mc1 (sp + 3) = u1 (Mc (sp + 3)) v c) (c4 : Mc1 (sp + 4) = u4 (Mc (sp + 4)) (4 * v) s v1 v2 v3) (r1 : ∀ a, a ≠ rd → a ≠ rd + 2 → a ≠ rd + 3 → Mr1 a = Mr a) (r2 : ∀ j, j ≠ 6 → Mr1 rd j = Mr rd j) (r6 : Mr1 rd 6 = Mr rd 6 + if s = 10 then 1 else 0) (r3 : Mr1 (rd + 2) = u1 (Mr (rd + 2)) v c) (r4 : Mr1 (rd + 3) = u4 (Mr (rd + 3)) (4 * v) s v1 v2 v3) : LDv sp rd wd hi tw mk gs sn Mc1 Mr1 := by
  obtain ⟨⟨a1, a2⟩, b0, cc, n, d, g, i, l⟩ := h
  have htw : tw ≤ 6 := cc.2.2.2.2.1
  refine ⟨⟨?_, ?_⟩, ?_, ?_, ?_, ?_, ?_, ?_, ?_⟩
  · unfold shR at *
    rw [c1 sp (by omega) (by omega), c1 (sp + 6) (by omega) (by omega)]
    exact a1
  · obtain ⟨m, z1, z2, z3⟩ := a2
    have e2 : Mc1 (sp + 1 + 2) = u1 (Mc (sp + 1 + 2)) v c := by rw [show sp + 1 + 2 = sp + 3 by omega]; exact c3
    have e3 : Mc1 (sp + 1 + 3) = u4 (Mc (sp + 1 + 3)) (4 * v) s v1 v2 v3 := by rw [show sp + 1 + 3 = sp + 4 by omega]; exact c4
    refine ⟨?_, ?_, ?_, ?_⟩
    · unfold mW at *
      rw [c1 (sp + 1) (by omega) (by omega)]
      exact m
    · rw [c1 (sp + 1 + 1) (by omega) (by omega)]; exact z1
    · rw [e2]; exact zO_u1 z2 v0 (by omega)
    · rw [e3]; intro j hj; rw [u4_k (by omega)]; exact z3 j hj
  · unfold pRg at *
    rw [r2 7 (by omega), r2 8 (by omega), r2 9 (by omega), r2 10 (by omega), r2 11 (by omega), r2 12 (by omega), r2 13 (by omega), r2 14 (by omega), r2 15 (by omega)]
    exact b0
  · unfold LDn at *
    rw [c1 sp (by omega) (by omega), c1 (sp + 1) (by omega) (by omega), r2 0 (by omega), r2 1 (by omega), r2 2 (by omega), r2 3 (by omega), r2 4 (by omega), r2 5 (by omega)]
    exact cc
  · rw [c1 (sp + 5) (by omega) (by omega), r1 (rd + 9) (by omega) (by omega) (by omega)]; exact n
  · unfold LDw at *
    rw [c1 (sp + 1) (by omega) (by omega), c1 (sp + 2) (by omega) (by omega), r1 (rd + 1) (by omega) (by omega) (by omega)]
    exact d
  · obtain ⟨g1, g2, g3, g4, g5, g6, g7, g8, g9⟩ := g
    have gv := g6 v v0 (by omega) cv
    have hc : ∀ j, j = 4 * v ∨ j = 4 * v + 1 ∨ j = 4 * v + 2 ∨ j = 4 * v + 3 ∨ (j < 4 * v ∨ 4 * v + 3 < j) := fun j => by omega
    have hb0 := hb
    unfold errB at hb0
    have hlim : (-2 ≤ s ∧ s ≤ 10) ∧ (-2 ≤ v1 ∧ v1 ≤ 10) ∧ (-2 ≤ v2 ∧ v2 ≤ 10) ∧ -2 ≤ v3 ∧ v3 ≤ 10 := ⟨⟨by omega, by omega⟩, ⟨by omega, by omega⟩, ⟨by omega, by omega⟩, by omega, by omega⟩
    clear hb0
    have huk := uk_u4 (g := Mc (sp + 4)) (s := s) (v1 := v1) (v2 := v2) (v3 := v3) v0 (by rw [gv.2.1]; omega) tw.toNat
    rw [← c4] at huk
    refine ⟨fun t t0 t6 => ?_, fun t t0 t1 => ?_, fun j j0 j1 => ?_, fun j => ?_, fun t t0 t1 => ?_, fun t t0 t6 hn => ?_, fun t t0 t6 => ?_, ?_, ?_⟩
    · rw [c3]
      by_cases y : t = v
      · rw [y, u1_s]; omega
      · rw [u1_k _ _ y]; exact g1 t t0 t6
    · rw [c3, r3]
      by_cases y : t = v
      · rw [y, u1_s, u1_s]
      · rw [u1_k _ _ y, u1_k _ _ y]; exact g2 t t0 t1
    · rw [c4, r4]
      rcases hc j with rfl | rfl | rfl | rfl | y
      · rw [u4_0, u4_0]
      · rw [u4_1, u4_1]
      · rw [u4_2, u4_2]
      · rw [u4_3, u4_3]
      · rw [u4_k y, u4_k y]
        exact g3 j j0 j1
    · rw [c4]
      rcases hc j with rfl | rfl | rfl | rfl | y
      · rw [u4_0]; exact hlim.1
      · rw [u4_1]; exact hlim.2.1
      · rw [u4_2]; exact hlim.2.2.1
      · rw [u4_3]; exact hlim.2.2.2
      · rw [u4_k y]; exact g4 j
    · rw [c4]
      unfold errT
      by_cases y : t = v
      · subst y
        rw [u4_0, u4_1, u4_2, u4_3]
        exact hb
      · rw [u4_k (by omega), u4_k (by omega), u4_k (by omega), u4_k (by omega)]
        exact g5 t t0 t1
    · rw [c3] at hn ⊢
      have y : t ≠ v := by
        intro y
        rw [y, u1_s] at hn
        omega
      rw [u1_k _ _ y] at hn ⊢
      have := g6 t t0 t6 hn
      rw [c4]
      refine ⟨this.1, by rw [u4_k (by omega)]; exact this.2.1, fun j j0 j1 => by rw [u4_k (by omega)]; exact this.2.2 j j0 j1⟩
    · rw [c3, u1_k _ _ (by omega)]; exact g7 t t0 t6
    · rw [r6, g8, huk]
      by_cases y : s = 10
      · rw [if_pos y, if_pos ⟨by omega, y⟩]; omega
      · rw [if_neg y, if_neg (by omega)]; omega
    · rw [huk]
      by_cases y : s = 10
      · rw [if_pos ⟨by omega, y⟩]
        have := hu y
        omega
      · rw [if_neg (by omega)]; exact g9
  · unfold LDg at *
    rw [c1 (sp + 6) (by omega) (by omega), r1 (rd + 4) (by omega) (by omega) (by omega)]
    exact i
  · unfold LDs at *
    rw [c1 (sp + 7) (by omega) (by omega), c1 (sp + 8) (by omega) (by omega), c1 (sp + 9) (by omega) (by omega), c1 (sp + 10) (by omega) (by omega), r1 (rd + 5) (by omega) (by omega) (by omega), r1 (rd + 6) (by omega) (by omega) (by omega), r1 (rd + 7) (by omega) (by omega) (by omega), r1 (rd + 8) (by omega) (by omega) (by omega)]
    exact l
theorem p244_10 {rr t s v1 v2 v3 n : Int} (h : LK Gc Gr R e sp rd f Mc Mr k) (kr : Gr.1 rr = 1) (lr : Gr.2.1 rr = n) (hrr : rr ≠ rd) (hr4 : rr ≠ 124) (t0 : 0 ≤ t) (tn : 4 * t + 3 < n) (n9 : n ≤ 100) (s0 : 0 ≤ s) (s9 : s ≤ 10) : M_X11_readError_p244 (Mr, Gr) 124 rr t s v1 v2 v3 = some (sr (sr Mr rr (u4 (Mr rr) (4 * t) s v1 v2 v3)) rd (u1 (Mr rd) 6 (Mr rd 6 + if s = 10 then 1 else 0)), Gr) := by
  have hG := h.hr
  have k124 := gk_124 hG
  have h9 := h.r9
  have kd := h.kd
  have m4 := h.m4
  have hx : sr (sr Mr rr (u4 (Mr rr) (4 * t) s v1 v2 v3)) rd (u1 (Mr rd) 6 (Mr rd 6)) = sr Mr rr (u4 (Mr rr) (4 * t) s v1 v2 v3) := by
    funext a
    by_cases y : a = rd
    · rw [y, sr_s, sr_a _ _ (Ne.symm hrr)]
      funext j
      by_cases z : j = 6
      · rw [z, u1_s]
      · rw [u1_k _ _ z]
    · rw [sr_a _ _ y]
  by_cases y : s = 10
  · rw [if_pos y]
    apply Ok.eq
    unfold M_X11_readError_p244
    refine k_gf k124 rfl ?_
    refine k_ifF (by rw [w32_id (by omega) (by omega)]; omega) ?_
    have z4 : sr Mr rr (u4 (Mr rr) (4 * t) s v1 v2 v3) 124 4 = rd := by rw [sr_a _ _ (Ne.symm hr4)]; exact m4
    have z6 : sr Mr rr (u4 (Mr rr) (4 * t) s v1 v2 v3) rd = Mr rd := sr_a _ _ (Ne.symm hrr)
    refine k_ast kr lr (by omega) (by omega) (by omega) rfl ?_
    refine k_ast kr lr (by omega) (by omega) (by omega) (by rw [sr_s, sr_sr]) ?_
    refine k_ast kr lr (by omega) (by omega) (by omega) (by rw [sr_s, sr_sr]) ?_
    refine k_ast (M' := sr Mr rr (u4 (Mr rr) (4 * t) s v1 v2 v3)) kr lr (by omega) (by omega) (by omega) (by rw [sr_s, sr_sr]; rfl) ?_
    refine k_ifT (by rw [y]; decide) ?_
    refine k_gr k124 z4 (by omega) ?_
    refine k_gf kd.2 (by rw [z6]) ?_
    refine k_pf kd.2 rfl ?_
    rw [z6]
    exact Ok.ret rfl
  · rw [if_neg y, Int.add_zero, hx]
    exact p244_ok h kr lr t0 tn n9 s0 (by omega)
end CP
