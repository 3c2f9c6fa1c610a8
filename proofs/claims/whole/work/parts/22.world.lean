/-! the class's World: what its methods answer -/
/-- a World lies at w: its kinds, its rows -/
def gW (G : GG) (w : Int) : Prop := 0 ≤ w ∧ G.1 w = 18 ∧ G.1 (w + 1) = 1 ∧ G.2.1 (w + 1) = 216 ∧ G.1 (w + 2) = 1 ∧ G.2.1 (w + 2) = 6 ∧ G.1 (w + 3) = 1 ∧ G.2.1 (w + 3) = 24
def mW (M : Int → Int → Int) (w : Int) : Prop := M w 3 = w + 1 ∧ M w 4 = w + 2 ∧ M w 5 = w + 3
/-- its numbers are within -/
abbrev wfM (M : Int → Int → Int) (w mk : Int) : Prop := wfW (M w 0) (M w 1) (M w 2) mk (M (w + 2)) (M (w + 3)) (M w 6) (M (w + 1))
section WS
variable {M : Int → Int → Int} {G : GG} {w t ma mo p dr mk k : Int}
theorem X8_places_ok (hg : gW G w) : M_X8_places (M, G) w = some (M w 0 * M w 1) := by
  obtain ⟨g0, g1, g2⟩ := hg
  unfold M_X8_places
  simp (disch := first | assumption | omega) only [tk_ok, b_gf, b_gr, b_pf, b_pz, b_rp, b_ald, b_aldR, b_ast, b_astR, b_alen, b_cpy, b_idv, b_irm, bd_some, Option.bind_some, w32_id, lq_m1, lq_m2]
def holdsV (wd hi p : Int) : Int := if p % 6 < wd ∧ p / 6 < hi then 1 else 0
theorem X8_holds_ok (hg : gW G w) (h0 : 0 ≤ p) (h1 : p < 36) (b1 : 0 ≤ M w 0) (b2 : M w 0 ≤ 6) (b3 : 0 ≤ M w 1) (b4 : M w 1 ≤ 6) : M_X8_holds (M, G) w p = some (holdsV (M w 0) (M w 1) p) := by
  obtain ⟨g0, g1, g2⟩ := hg
  unfold M_X8_holds holdsV
  simp (disch := first | assumption | omega) only [tk_ok, b_gf, b_gr, b_pf, b_pz, b_rp, b_ald, b_aldR, b_ast, b_astR, b_alen, b_cpy, b_idv, b_irm, bd_some, Option.bind_some, w32_id, lq_m1, lq_m2]
  by_cases c1 : p % 6 < M w 0 <;> by_cases c2 : p / 6 < M w 1 <;> simp [c1, c2]
theorem X8_nextSeed_ok {h : Hp} {s : Int} (h0 : 0 ≤ s) (h1 : s < 65537) : M_X8_nextSeed h s = some (nsV s) := by
  unfold M_X8_nextSeed nsV
  simp (disch := first | assumption | omega) only [tk_ok, b_gf, b_gr, b_pf, b_pz, b_rp, b_ald, b_aldR, b_ast, b_astR, b_alen, b_cpy, b_idv, b_irm, bd_some, Option.bind_some, w32_id, lq_m1, lq_m2]
theorem X8_drawnPlace_ok {s : Int} (hg : gW G w) (a1 : 2 ≤ M w 0) (a2 : M w 0 ≤ 6) (b1 : 2 ≤ M w 1) (b2 : M w 1 ≤ 6) (h0 : 0 ≤ s) (h1 : s < 65537) : M_X8_drawnPlace (M, G) w s = some (dpV (M w 0) (M w 1) s) := by
  obtain ⟨g0, g1, g2⟩ := hg
  obtain ⟨c1, c2⟩ := mul_b a1 a2 b1 b2
  have c3 : 0 ≤ s % (M w 0 * M w 1) := Int.emod_nonneg _ (by omega)
  have c4 : s % (M w 0 * M w 1) < M w 0 * M w 1 := Int.emod_lt_of_pos _ (by omega)
  unfold M_X8_drawnPlace dpV
  simp (disch := first | assumption | omega) only [tk_ok, b_gf, b_gr, b_pf, b_pz, b_rp, b_ald, b_aldR, b_ast, b_astR, b_alen, b_cpy, b_idv, b_irm, bd_some, Option.bind_some, w32_id, lq_m1, lq_m2, if_pos, if_neg]
theorem X8_shift_ok {x y : Int} (hg : gW G w) (a1 : 2 ≤ M w 0) (a2 : M w 0 ≤ 6) (b1 : 2 ≤ M w 1) (b2 : M w 1 ≤ 6) (x0 : -9 ≤ x) (x1 : x ≤ 9) (y0 : -9 ≤ y) (y1 : y ≤ 9) : M_X8_shiftSource (M, G) w x y = some (6 * ((y + 6 * M w 1) % M w 1) + (x + 6 * M w 0) % M w 0) := by
  obtain ⟨g0, g1, g2⟩ := hg
  unfold M_X8_shiftSource
  simp (disch := first | assumption | omega) only [tk_ok, b_gf, b_gr, b_pf, b_pz, b_rp, b_ald, b_aldR, b_ast, b_astR, b_alen, b_cpy, b_idv, b_irm, bd_some, Option.bind_some, w32_id, lq_m1, lq_m2, if_pos, if_neg]
theorem X8_stain_ok (hg : gW G w) (a1 : 2 ≤ M w 0) (a2 : M w 0 ≤ 6) (b1 : 2 ≤ M w 1) (b2 : M w 1 ≤ 6) (hp : inV (M w 0) (M w 1) p) (q1 : G.1 ma = 1) (q2 : 0 ≤ mo) (q3 : mo + 36 ≤ G.2.1 ma) (q4 : G.2.1 ma ≤ 100000)
    (hb : ∀ i, 0 ≤ M ma i ∧ M ma i ≤ 9) (k1 : -9 ≤ k) (k2 : k ≤ 99) : M_X8_stainSource (M, G) w ma mo p k = some (stV (M w 0) (M w 1) (fun q => M ma (mo + q)) p k) := by
  obtain ⟨g0, g1, g2⟩ := hg
  unfold inV at hp
  obtain ⟨p0, p1, p2⟩ := hp
  have hw : ∀ i, w32 (M ma i) = M ma i := fun i => w32_id (by have := hb i; omega) (by have := hb i; omega)
  unfold M_X8_stainSource M_X8_stainSource_p48 M_X8_stainSource_p74 M_X8_stainSource_p96 stV
  simp (disch := first | assumption | omega) only [tk_ok, b_gf, b_gr, b_pf, b_pz, b_rp, b_ald, b_aldR, b_ast, b_astR, b_alen, b_cpy, b_idv, b_irm, bd_some, Option.bind_some, w32_id, lq_m1, lq_m2, hw]
  by_cases e0 : M ma (mo + p) = k
  · simp only [e0, if_true]
  simp only [e0, if_false]
  have i1 : mo + p - 1 = mo + (p - 1) := by omega
  have i2 : mo + p + 1 = mo + (p + 1) := by omega
  have i3 : mo + p - 6 = mo + (p - 6) := by omega
  have i4 : mo + p + 6 = mo + (p + 6) := by omega
  rw [i1, i2, i3, i4]
  by_cases c1 : 0 < p % 6 <;> by_cases c2 : p % 6 < M w 0 - 1 <;> by_cases c3 : 0 < p / 6 <;> by_cases c4 : p / 6 < M w 1 - 1 <;> simp only [c1, c2, c3, c4, if_true, if_false, true_and, false_and] <;> simp (disch := first | assumption | omega) only [tk_ok, b_gf, b_gr, b_pf, b_pz, b_rp, b_ald, b_aldR, b_ast, b_astR, b_alen, b_cpy, b_idv, b_irm, bd_some, Option.bind_some, w32_id, lq_m1, lq_m2, hw] <;> (repeat' split) <;> first | rfl | omega
theorem X8_source_ok (hg : gW G w) (hm : mW M w) (a1 : 2 ≤ M w 0) (a2 : M w 0 ≤ 6) (b1 : 2 ≤ M w 1) (b2 : M w 1 ≤ 6) (t0 : 0 ≤ t) (t1 : t < 6) (he : errB (M w 0) (M w 1) mk (M (w + 3) (4 * t)) (M (w + 3) (4 * t + 1)) (M (w + 3) (4 * t + 2)) (M (w + 3) (4 * t + 3))) (hp : inV (M w 0) (M w 1) p) (q1 : G.1 ma = 1) (q2 : 0 ≤ mo) (q3 : mo + 36 ≤ G.2.1 ma) (q4 : G.2.1 ma ≤ 100000)
    (hb : ∀ i, 0 ≤ M ma i ∧ M ma i ≤ 9) (k1 : -9 ≤ dr) (k2 : dr ≤ 99) : M_X8_source (M, G) w t ma mo p dr = some (srcV (M w 0) (M w 1) (M (w + 3) (4 * t)) (M (w + 3) (4 * t + 1)) (M (w + 3) (4 * t + 2)) (M (w + 3) (4 * t + 3)) (fun q => M ma (mo + q)) p dr) := by
  have hg' := hg
  obtain ⟨g0, g1, g2, g3, g4, g5, g6, g7⟩ := hg
  obtain ⟨m3, m4, m5⟩ := hm
  have hw : ∀ i, w32 (M ma i) = M ma i := fun i => w32_id (by have := hb i; omega) (by have := hb i; omega)
  have hp' := hp
  unfold inV at hp
  obtain ⟨p0, p1, p2⟩ := hp
  obtain ⟨s0, s1, d1, d2, d3, d4, d5, d6, fm, f1, f2, f3, f5, f8⟩ := he
  unfold M_X8_source srcV
  simp (disch := first | assumption | omega) only [tk_ok, b_gf, b_gr, b_pf, b_pz, b_rp, b_ald, b_aldR, b_ast, b_astR, b_alen, b_cpy, b_idv, b_irm, bd_some, Option.bind_some, w32_id, lq_m1, lq_m2, m5]
  generalize M (w + 3) (4 * t) = s at *
  generalize M (w + 3) (4 * t + 1) = e1 at *
  generalize M (w + 3) (4 * t + 2) = e2 at *
  generalize M (w + 3) (4 * t + 3) = e3 at *
  by_cases z1 : s = 1
  · rw [if_pos z1, if_pos z1]
    by_cases c1 : p % 6 = e2 <;> by_cases c2 : p / 6 = e3 <;> simp [c1, c2]
  rw [if_neg z1, if_neg z1]
  by_cases z2 : s = 2
  · rw [if_pos z2, if_pos z2]
    have := f2 z2
    simp (disch := first | assumption | omega) only [tk_ok, b_gf, b_gr, b_pf, b_pz, b_rp, b_ald, b_aldR, b_ast, b_astR, b_alen, b_cpy, b_idv, b_irm, bd_some, Option.bind_some, w32_id, lq_m1, lq_m2]
    repeat' split
    all_goals rfl
  rw [if_neg z2, if_neg z2]
  by_cases z3 : s = 3
  · rw [if_pos z3, if_pos z3]
    have := f3 z3
    rw [X8_shift_ok hg' a1 a2 b1 b2 (by omega) (by omega) (by omega) (by omega)]
    rfl
  rw [if_neg z3, if_neg z3]
  by_cases z4 : s = 4
  · rw [if_pos z4, if_pos z4]
  rw [if_neg z4, if_neg z4]
  by_cases z6 : s = 6
  · rw [if_pos z6, if_pos z6]
    rw [X8_stain_ok hg' a1 a2 b1 b2 hp' q1 q2 q3 q4 hb (by omega) (by omega)]
    rfl
  rw [if_neg z6, if_neg z6]
  by_cases z7 : s = 7
  · rw [if_pos z7, if_pos z7]
    simp (disch := first | assumption | omega) only [tk_ok, b_gf, b_gr, b_pf, b_pz, b_rp, b_ald, b_aldR, b_ast, b_astR, b_alen, b_cpy, b_idv, b_irm, bd_some, Option.bind_some, w32_id, lq_m1, lq_m2, hw]
    split <;> rfl
  rw [if_neg z7, if_neg z7]
  by_cases z8 : s = 8
  · rw [if_pos z8, if_pos z8]
    have := f8 z8
    have c1 := mul_b2 (a := p / 6) (b := e1) (by omega) (by omega) (by omega) d2
    have c2 := mul_b2 (a := p % 6) (b := e1) (by omega) (by omega) (by omega) d2
    simp (disch := first | assumption | omega) only [tk_ok, b_gf, b_gr, b_pf, b_pz, b_rp, b_ald, b_aldR, b_ast, b_astR, b_alen, b_cpy, b_idv, b_irm, bd_some, Option.bind_some, w32_id, lq_m1, lq_m2]
  rw [if_neg z8, if_neg z8]
  by_cases z9 : s = 9
  · rw [if_pos z9, if_pos z9]
    simp (disch := first | assumption | omega) only [tk_ok, b_gf, b_gr, b_pf, b_pz, b_rp, b_ald, b_aldR, b_ast, b_astR, b_alen, b_cpy, b_idv, b_irm, bd_some, Option.bind_some, w32_id, lq_m1, lq_m2]
    split <;> rfl
  rw [if_neg z9, if_neg z9]
theorem X8_markFor_ok (hg : gW G w) (hm : mW M w) (a1 : 2 ≤ M w 0) (a2 : M w 0 ≤ 6) (b1 : 2 ≤ M w 1) (b2 : M w 1 ≤ 6) (t0 : 0 ≤ t) (t1 : t < 6) (he : errB (M w 0) (M w 1) mk (M (w + 3) (4 * t)) (M (w + 3) (4 * t + 1)) (M (w + 3) (4 * t + 2)) (M (w + 3) (4 * t + 3))) (hp : inV (M w 0) (M w 1) p) (q1 : G.1 ma = 1) (q2 : 0 ≤ mo) (q3 : mo + 36 ≤ G.2.1 ma) (q4 : G.2.1 ma ≤ 100000)
    (hb : ∀ i, 0 ≤ M ma i ∧ M ma i ≤ 9) (k1 : -9 ≤ dr) (k2 : dr ≤ 99) : M_X8_markFor (M, G) w t ma mo p dr = some (mkV (M w 0) (M w 1) (M (w + 3) (4 * t)) (M (w + 3) (4 * t + 1)) (M (w + 3) (4 * t + 2)) (M (w + 3) (4 * t + 3)) (fun q => M ma (mo + q)) p dr) := by
  have hs := srcV_in (m := fun q => M ma (mo + q)) (dr := dr) a1 a2 b1 b2 he hp
  have hk := X8_source_ok hg hm a1 a2 b1 b2 t0 t1 he hp q1 q2 q3 q4 hb k1 k2
  obtain ⟨g0, g1, g2, g3, g4, g5, g6, g7⟩ := hg
  obtain ⟨m3, m4, m5⟩ := hm
  have hw : ∀ i, w32 (M ma i) = M ma i := fun i => w32_id (by have := hb i; omega) (by have := hb i; omega)
  obtain ⟨s0, s1, d1, d2, d3, d4, d5, d6, fm, f1, f2, f3, f5, f8⟩ := he
  unfold M_X8_markFor mkV
  rw [hk]
  simp (disch := first | assumption | omega) only [tk_ok, b_gf, b_gr, b_pf, b_pz, b_rp, b_ald, b_aldR, b_ast, b_astR, b_alen, b_cpy, b_idv, b_irm, bd_some, Option.bind_some, w32_id, lq_m1, lq_m2, m5]
  generalize srcV (M w 0) (M w 1) (M (w + 3) (4 * t)) (M (w + 3) (4 * t + 1)) (M (w + 3) (4 * t + 2)) (M (w + 3) (4 * t + 3)) (fun q => M ma (mo + q)) p dr = r at *
  have hr : -1 ≤ r ∧ r < 36 := by
    unfold inV at hs
    rcases hs with e | e
    · omega
    · omega
  simp (disch := first | assumption | omega) only [tk_ok, b_gf, b_gr, b_pf, b_pz, b_rp, b_ald, b_aldR, b_ast, b_astR, b_alen, b_cpy, b_idv, b_irm, bd_some, Option.bind_some, w32_id, lq_m1, lq_m2]
  by_cases e : r = -1
  · rw [if_pos e, if_pos e]
    split <;> rfl
  · rw [if_neg e, if_neg e]
    simp (disch := first | assumption | omega) only [tk_ok, b_gf, b_gr, b_pf, b_pz, b_rp, b_ald, b_aldR, b_ast, b_astR, b_alen, b_cpy, b_idv, b_irm, bd_some, Option.bind_some, w32_id, lq_m1, lq_m2, hw]
    repeat' split
    all_goals rfl
theorem X8_beside_ok {d : Int} (hg : gW G w) (a1 : 2 ≤ M w 0) (a2 : M w 0 ≤ 6) (b1 : 2 ≤ M w 1) (b2 : M w 1 ≤ 6) (p0 : 0 ≤ p) (p1 : p < 36) (d0 : 0 ≤ d) (d1 : d < 4) : M_X8_beside (M, G) w p d = some (if d = 0 then (if 0 < p % 6 then p - 1 else -1) else if d = 1 then (if p % 6 < M w 0 - 1 then p + 1 else -1) else if d = 2 then (if 0 < p / 6 then p - 6 else -1) else if p / 6 < M w 1 - 1 then p + 6 else -1) := by
  obtain ⟨g0, g1, g2⟩ := hg
  unfold M_X8_beside
  simp (disch := first | assumption | omega) only [tk_ok, b_gf, b_gr, b_pf, b_pz, b_rp, b_ald, b_aldR, b_ast, b_astR, b_alen, b_cpy, b_idv, b_irm, bd_some, Option.bind_some, w32_id, lq_m1, lq_m2]
  repeat' split
  all_goals rfl
theorem X8_isEdge_ok (hg : gW G w) (a1 : 2 ≤ M w 0) (a2 : M w 0 ≤ 6) (b1 : 2 ≤ M w 1) (b2 : M w 1 ≤ 6) (p0 : 0 ≤ p) (p1 : p < 36) : M_X8_isEdge (M, G) w p = some (if p % 6 = 0 ∨ p / 6 = 0 ∨ p % 6 = M w 0 - 1 ∨ p / 6 = M w 1 - 1 then 1 else 0) := by
  obtain ⟨g0, g1, g2⟩ := hg
  unfold M_X8_isEdge
  simp (disch := first | assumption | omega) only [tk_ok, b_gf, b_gr, b_pf, b_pz, b_rp, b_ald, b_aldR, b_ast, b_astR, b_alen, b_cpy, b_idv, b_irm, bd_some, Option.bind_some, w32_id, lq_m1, lq_m2]
  by_cases c1 : p % 6 = 0 <;> by_cases c2 : p / 6 = 0 <;> by_cases c3 : p % 6 = M w 0 - 1 <;> by_cases c4 : p / 6 = M w 1 - 1 <;> simp [c1, c2, c3, c4]
end WS
