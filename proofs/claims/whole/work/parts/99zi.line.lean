/-! a line -/
def lnC (R : Int) (h : Hp) : Option (Hp × Int) := (M_X4_lineSort h R).bind fun x11 => bd (M_X4_mayCome h R x11) fun h x12 => if w32 x12 = 0 then some (h, 0) else (M_X4_take h R).bind fun h => if w32 x11 = 0 then M_X4_readRing h R else if w32 x11 = 1 then M_X4_readTown h R else if w32 x11 = 2 then M_X4_readCopies h R else if w32 x11 = 3 then M_X4_readGuess h R else M_X4_readSeen h R
theorem lnC_eq (h : Hp) (R l1 : Int) : M_X4_read_b13 h R l1 = if 900 < w32 l1 then some (.inr (.inl h)) else bd (lnC R h) fun h x => M_X4_read_p109 h R l1 x := by
  unfold M_X4_read_b13 lnC
  by_cases y : 900 < w32 l1
  · rw [if_pos y, if_pos y]
  · rw [if_neg y, if_neg y]
    cases M_X4_lineSort h R with
    | none => rfl
    | some s =>
      rw [Option.bind_some, Option.bind_some]
      cases M_X4_mayCome h R s with
      | none => rfl
      | some a =>
        obtain ⟨h1, x⟩ := a
        rw [bd_some, bd_some]
        by_cases z : w32 x = 0
        · rw [if_pos z, if_pos z, bd_some]
          unfold M_X4_read_p109
          rw [if_pos (by decide)]
        · rw [if_neg z, if_neg z]
          cases M_X4_take h1 R with
          | none => rfl
          | some h2 =>
            rw [Option.bind_some, Option.bind_some]
            by_cases z0 : w32 s = 0
            · rw [if_pos z0, if_pos z0]
            · rw [if_neg z0, if_neg z0]
              by_cases z1 : w32 s = 1
              · rw [if_pos z1, if_pos z1]
              · rw [if_neg z1, if_neg z1]
                by_cases z2 : w32 s = 2
                · rw [if_pos z2, if_pos z2]
                · rw [if_neg z2, if_neg z2]
                  by_cases z3 : w32 s = 3
                  · rw [if_pos z3, if_pos z3]
                  · rw [if_neg z3, if_neg z3]
section LI
variable {Mc Mr Mc1 Mr1 : Int → Int → Int} {Gc Gr : GG} {R e k sp rd wd hi tw mk gs sn : Int} {f : Int → Int}
theorem bd_id {o : Option Hp} : (o.bind fun h => some h) = o := by cases o <;> rfl
theorem rLine_ok (h : LK Gc Gr R e sp rd f Mc Mr k) : M_X11_readLine (Mr, Gr) 124 = if lnS f e k = -1 then some (flR Mr 1, Gr) else if lnS f e k = 0 then M_X11_readRing (Mr, Gr) 124 else if lnS f e k = 1 then M_X11_readTownLine (Mr, Gr) 124 else if lnS f e k = 2 then M_X11_readCopies (Mr, Gr) 124 else if lnS f e k = 3 then M_X11_readGuess (Mr, Gr) 124 else M_X11_readSeen (Mr, Gr) 124 := by
  have hG := h.hr
  have k124 := gk_124 hG
  have hw := fun i => w32_q (wQ_b f e k i)
  unfold M_X11_readLine lnS
  rw [tk_ok k124, h.rq (by omega) (by omega), h.rq (by omega) (by omega), h.rq (by omega) (by omega), h.rq (by omega) (by omega), h.rq (by omega) (by omega), X11_flaw_ok hG h.r9]
  simp only [Option.bind_some, hw, bd_id]
  by_cases y0 : wQ f e k 0 = 0
  · rw [if_pos y0]
    simp only [if_pos y0]
    by_cases y1 : wQ f e k 1 = 0
    · rw [if_pos y1]
      simp only [if_pos y1]
      by_cases y2 : wQ f e k 2 = 0
      · rw [if_pos y2]
        simp only [if_pos y2]
        by_cases y3 : wQ f e k 3 = 0
        · rw [if_pos y3]
          simp only [if_pos y3]
          by_cases y4 : wQ f e k 4 = 0
          · rw [if_pos y4]
            simp only [if_pos y4]
            rfl
          · rw [if_neg y4]
            simp only [if_neg y4]
            rfl
        · rw [if_neg y3]
          simp only [if_neg y3]
          rfl
      · rw [if_neg y2]
        simp only [if_neg y2]
        rfl
    · rw [if_neg y1]
      simp only [if_neg y1]
      rfl
  · rw [if_neg y0]
    simp only [if_neg y0]
    rfl
theorem cpT_o (h : LX Gc Gr R e sp rd f Mc Mr) (hp : pRg (Mr rd) rd) (h3 : Mr rd 3 = tw) (t0 : 0 ≤ tw) (t6 : tw ≤ 6) : cpT (Mr, Gr) = some (Mr, Gr) := by
  have hG := h.hr
  have k124 := gk_124 hG
  unfold cpT
  rw [knownTown_over h.hr h.2.1 h.m4 h.1.2.2.2.1 hp.2.2.2.2.2.2.2.2 h3 t0 t6, bd_some, b_gf k124, h.2.1, if_pos (by decide)]
  exact p38_o h hp h3 t0 t6
theorem gsT_o (h : LX Gc Gr R e sp rd f Mc Mr) : gsT (Mr, Gr) = some (Mr, Gr) := by
  have hG := h.hr
  have k124 := gk_124 hG
  unfold gsT
  rw [b_gf k124, h.2.1, if_pos (by decide)]
theorem snT_o (h : LX Gc Gr R e sp rd f Mc Mr) (hp : pRg (Mr rd) rd) (h3 : Mr rd 3 = tw) (t0 : 0 ≤ tw) (t6 : tw ≤ 6) : snT (Mr, Gr) = some (Mr, Gr) := by
  unfold snT
  rw [readTown_over h.hr h.2.1 h.m4 h.1.2.2.2.1 hp.2.2.2.2.2.2.2.2 h3 t0 t6, bd_some]
  exact sn1_o h
/-- lines other than the ring's: what both do before their own words -/
theorem s_begin {s x y : Int} {c : Hp → Option (Hp × Int)} {r : Hp → Option Hp} (h : LK Gc Gr R e sp rd f Mc Mr k) (hd : LDv sp rd wd hi tw mk gs sn Mc Mr) (hs : lnS f e k = s) (s1 : 1 ≤ s) (s4 : s ≤ 4) (x0 : 0 ≤ x) (x9 : x ≤ 9) (y0 : 0 ≤ y) (y9 : y ≤ 9) (hfu : ((s = 1 ∧ tw = 6) ∨ (s = 3 ∧ gs = 5) ∨ (s = 4 ∧ sn = 8)) ↔ x = y) (hc : ∀ hp, lnC R hp = (M_X4_lineSort hp R).bind fun x11 => if x11 = s then bd (M_X4_mayCome hp R x11) fun h x12 => if w32 x12 = 0 then some (h, 0) else (M_X4_take h R).bind c else lnC R hp) (hr : M_X11_readLine (Mr, Gr) 124 = (M_X11_begins (Mr, Gr) 124 x y).bind r) (ho : ∀ {Ma Mb : Int → Int → Int}, LX Gc Gr R e sp rd f Ma Mb → Mb rd = Mr rd → r (Mb, Gr) = some (Mb, Gr)) (hg : ∀ {Ma Mb : Int → Int → Int} {k1 : Int}, k < k1 → x ≠ y → 2 ≤ wd → LK Gc Gr R e sp rd f Ma Mb k1 → LDv sp rd wd hi tw mk gs sn Ma Mb → O2 (c (Ma, Gc)) (r (Mb, Gr)) (LnK Gc Gr R e sp rd f Ma Mb k1)) : O2 (lnC R (Mc, Gc)) (M_X11_readLine (Mr, Gr) 124) (LnK Gc Gr R e sp rd f Mc Mr k) := by
  have hsp := h.1.2.2.2.2
  have hR := h.1.1.2.1
  have hrd := h.kd.1
  have hn0 : Mr rd 0 = wd := hd.2.2.1.2.1.1
  have hdim := hd.2.2.1.2.2.1
  have hy1 : tK f e k = 1 := by
    by_cases z : tK f e k = 1
    · exact z
    · exfalso
      have hz : ∀ i, wQ f e k i = 0 := fun i => if_neg (fun q => z q.1)
      unfold lnS at hs
      simp only [hz, if_true] at hs
      omega
  have hm := mayCome_ok (s := s) h hd (by omega) s4
  have hB := begins_ok (l1 := x) (l2 := y) h hn0 (by omega) (by omega) x0 (by omega) y0 (by omega)
  rw [hc, lineSort_ok h, Option.bind_some, hs, if_pos rfl, hr, hm, if_neg (by omega), if_neg (by omega)]
  have hbad : ∀ n, 1 ≤ n → n ≤ 7 → M_X11_begins (Mr, Gr) 124 x y = some (flR Mr n, Gr) → O2 (bd (some ((flC Mc R n, Gc), (0 : Int))) fun h x12 => if w32 x12 = 0 then some (h, 0) else (M_X4_take h R).bind c) ((M_X11_begins (Mr, Gr) 124 x y).bind r) (LnK Gc Gr R e sp rd f Mc Mr k) := fun n n0 n7 hb => by
    have hF := h.fl (n := n) n0 n7
    rw [hb, Option.bind_some, bd_some, if_pos (by decide), ho hF.1 (hF.2.2.2.1 rd (by omega))]
    exact O2.ret (LnK.no hF.2.fs (sh_t hR hsp hd.1 hF.2.1) hF.1)
  by_cases z : x = y
  · rw [if_pos (hfu.mpr z)]
    exact hbad 5 (by omega) (by omega) (hB.1 z)
  · rw [if_neg (fun q => z (hfu.mp q))]
    by_cases z2 : mk = 0
    · rw [if_pos ⟨by omega, z2⟩]
      exact hbad 6 (by omega) (by omega) (hB.2.1 z (by omega))
    · rw [if_neg (by omega), bd_some, if_neg (by decide), hB.2.2 z (by omega), bd_id]
      refine O2.bind (s_take h (by omega)) ?_
      rintro _ _ ⟨Mc1, Mr1, rfl, rfl, ht, hL1⟩
      refine (hg (h.adv hy1) z (by omega) hL1 (hd.t hR hsp hrd ht)).mono ?_
      intro a b hab
      exact hab.tr0 (by have := h.adv hy1; omega) ht.fs
theorem s_line (h : LK Gc Gr R e sp rd f Mc Mr k) (hd : LDv sp rd wd hi tw mk gs sn Mc Mr) : O2 (lnC R (Mc, Gc)) (M_X11_readLine (Mr, Gr) 124) (LnK Gc Gr R e sp rd f Mc Mr k) := by
  have hG := h.hr
  have k124 := gk_124 hG
  have hsp := h.1.2.2.2.2
  have hR := h.1.1.2.1
  have hrd := h.kd.1
  have kd := h.kd.2
  have m4 := h.m4
  have hb := lnS_b (f := f) (e := e) (k := k)
  have hn0 : Mr rd 0 = wd := hd.2.2.1.2.1.1
  have hn3 : Mr rd 3 = tw := hd.2.2.1.2.1.2.2.2.1
  have hn4 : Mr rd 4 = gs := hd.2.2.1.2.1.2.2.2.2.1
  have hn5 : Mr rd 5 = sn := hd.2.2.1.2.1.2.2.2.2.2
  have hdim := hd.2.2.1.2.2.1
  obtain ⟨t0, t6, g0', g5, s0', s8⟩ := hd.2.2.1.2.2.2
  have hrl := rLine_ok h
  have hc : lnS f e k = -1 ∨ lnS f e k = 0 ∨ lnS f e k = 1 ∨ lnS f e k = 2 ∨ lnS f e k = 3 ∨ lnS f e k = 4 := by omega
  have hcc : ∀ (s : Int) (c : Hp → Option (Hp × Int)), (∀ h, (if w32 s = 0 then M_X4_readRing h R else if w32 s = 1 then M_X4_readTown h R else if w32 s = 2 then M_X4_readCopies h R else if w32 s = 3 then M_X4_readGuess h R else M_X4_readSeen h R) = c h) → ∀ hp, lnC R hp = (M_X4_lineSort hp R).bind fun x11 => if x11 = s then bd (M_X4_mayCome hp R x11) fun h x12 => if w32 x12 = 0 then some (h, 0) else (M_X4_take h R).bind c else lnC R hp := fun s c hs hp => by
    cases hls : M_X4_lineSort hp R with
    | none => unfold lnC; rw [hls]; rfl
    | some q =>
      rw [Option.bind_some]
      by_cases y : q = s
      · rw [if_pos y]
        unfold lnC
        rw [hls, Option.bind_some, y]
        have : c = fun h => (if w32 s = 0 then M_X4_readRing h R else if w32 s = 1 then M_X4_readTown h R else if w32 s = 2 then M_X4_readCopies h R else if w32 s = 3 then M_X4_readGuess h R else M_X4_readSeen h R) := by funext h; exact (hs h).symm
        rw [this]
      · rw [if_neg y]
  rcases hc with y | y | y | y | y | y
  · have hF := h.fl (n := 1) (by omega) (by omega)
    have hm := mayCome_ok (s := -1) h hd (by omega) (by omega)
    rw [hrl, if_pos y]
    refine ⟨((flC Mc R 1, Gc), 0), ?_, _, rfl, LnK.no hF.2.fs (sh_t hR hsp hd.1 hF.2.1) hF.1⟩
    unfold lnC
    rw [lineSort_ok h, Option.bind_some, y, hm, if_pos rfl, bd_some, if_pos (by decide)]
  · have hm := mayCome_ok (s := 0) h hd (by omega) (by omega)
    have hrr : M_X11_readLine (Mr, Gr) 124 = if 0 < wd then (M_X11_goesOn (flR Mr 3, Gr) 124).bind rgT else (M_X11_goesOn (Mr, Gr) 124).bind rgT := by
      rw [hrl, if_neg (by omega), if_pos y]
      unfold M_X11_readRing
      rw [tk_ok k124, b_gr k124 (by omega), m4, b_gf kd, hn0, w32_id (x := wd) (by omega) (by omega), X11_flaw_ok hG h.r9, Option.bind_some, rgT_eq, rgT_eq]
    have hcl : lnC R (Mc, Gc) = bd (M_X4_mayCome (Mc, Gc) R 0) fun h x12 => if w32 x12 = 0 then some (h, 0) else (M_X4_take h R).bind fun h => M_X4_readRing h R := by
      unfold lnC
      rw [lineSort_ok h, Option.bind_some, y]
      simp only [show w32 0 = 0 from by decide, if_true]
    rw [hrr, hcl, hm, if_neg (by omega)]
    by_cases z : 0 < mk
    · have hF := h.fl (n := 3) (by omega) (by omega)
      rw [if_pos ⟨rfl, z⟩, if_pos (by omega), bd_some, if_pos (by decide), X11_over hG hF.1.2.1, Option.bind_some, rg_fail hG hF.1.2.1]
      exact O2.ret (LnK.no hF.2.fs (sh_t hR hsp hd.1 hF.2.1) hF.1)
    · have hz : wd = 0 ∧ hi = 0 ∧ tw = 0 ∧ mk = 0 ∧ gs = 0 ∧ sn = 0 := by omega
      obtain ⟨rfl, rfl, rfl, rfl, rfl, rfl⟩ := hz
      rw [if_neg (by omega), if_neg (by omega), if_neg (by omega), if_neg (by omega), bd_some, if_neg (by decide)]
      have hy1 : tK f e k = 1 := wQ_1 (i := 0) (by
        intro q
        unfold lnS at y
        rw [if_pos q] at y
        revert y
        (repeat' split) <;> omega)
      refine O2.bind (s_take h (by omega)) ?_
      rintro _ _ ⟨Mc1, Mr1, rfl, rfl, ht, hL1⟩
      refine (s_ring hL1 (hd.t hR hsp hrd ht)).mono ?_
      intro a b hab
      exact hab.tr0 (by have := h.adv hy1; omega) ht.fs
  · refine s_begin (s := 1) (x := tw) (y := 6) (c := fun h => M_X4_readTown h R) (r := twT) h hd y (by omega) (by omega) (by omega) (by omega) (by omega) (by omega) (by omega) (hcc 1 _ (fun h => rfl)) ?_ ?_ ?_
    · rw [hrl, if_neg (by omega), if_neg (by omega), if_pos y, twT_eq, tk_ok k124, b_gr k124 (by omega), m4, b_gf kd, hn3]
    · intro Ma Mb hX e1
      exact tw_o (tw := tw) (wd := wd) (hi := hi) hX (by rw [e1]; exact hd.2.1) (by rw [e1]; exact hn3) t0 t6 (by rw [e1]; exact hd.sr.1) (by rw [e1]; exact hd.sr.2.1) (by omega) (by omega) (by omega) (by omega)
    · intro Ma Mb k1 hk hne w2 hL hd'
      exact s_townLine hL hd' w2 (by omega)
  · refine s_begin (s := 2) (x := 0) (y := 1) (c := fun h => M_X4_readCopies h R) (r := cpT) h hd y (by omega) (by omega) (by omega) (by omega) (by omega) (by omega) (by omega) (hcc 2 _ (fun h => rfl)) ?_ ?_ ?_
    · rw [hrl, if_neg (by omega), if_neg (by omega), if_neg (by omega), if_pos y, cpT_eq, tk_ok k124]
    · intro Ma Mb hX e1
      exact cpT_o (tw := tw) hX (by rw [e1]; exact hd.2.1) (by rw [e1]; exact hn3) t0 t6
    · intro Ma Mb k1 hk hne w2 hL hd'
      exact s_copies hL hd' w2
  · refine s_begin (s := 3) (x := gs) (y := 5) (c := fun h => M_X4_readGuess h R) (r := gsT) h hd y (by omega) (by omega) (by omega) (by omega) (by omega) (by omega) (by omega) (hcc 3 _ (fun h => rfl)) ?_ ?_ ?_
    · rw [hrl, if_neg (by omega), if_neg (by omega), if_neg (by omega), if_neg (by omega), if_pos y, gsT_eq, tk_ok k124, b_gr k124 (by omega), m4, b_gf kd, hn4]
    · intro Ma Mb hX e1
      exact gsT_o hX
    · intro Ma Mb k1 hk hne w2 hL hd'
      exact s_guess hL hd' w2 (by omega)
  · refine s_begin (s := 4) (x := sn) (y := 8) (c := fun h => M_X4_readSeen h R) (r := snT) h hd y (by omega) (by omega) (by omega) (by omega) (by omega) (by omega) (by omega) (hcc 4 _ (fun h => rfl)) ?_ ?_ ?_
    · rw [hrl, if_neg (by omega), if_neg (by omega), if_neg (by omega), if_neg (by omega), if_neg (by omega), snT_eq, tk_ok k124, b_gr k124 (by omega), m4, b_gf kd, hn5]
    · intro Ma Mb hX e1
      exact snT_o (tw := tw) hX (by rw [e1]; exact hd.2.1) (by rw [e1]; exact hn3) t0 t6
    · intro Ma Mb k1 hk hne w2 hL hd'
      exact s_seen hL hd' w2 (by omega)
end LI
