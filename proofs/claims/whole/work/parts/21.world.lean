theorem gW3 {M G w} (hg : gW G w) (hm : mW M w) : gr 18 (M, G) w 3 = some (w + 1) := by
  rw [gro_ok hg.2.1 (by rw [hm.1]; have := hg.1; omega), hm.1]
theorem gW4 {M G w} (hg : gW G w) (hm : mW M w) : gr 18 (M, G) w 4 = some (w + 2) := by
  rw [gro_ok hg.2.1 (by rw [hm.2.1]; have := hg.1; omega), hm.2.1]
theorem gW5 {M G w} (hg : gW G w) (hm : mW M w) : gr 18 (M, G) w 5 = some (w + 3) := by
  rw [gro_ok hg.2.1 (by rw [hm.2.2]; have := hg.1; omega), hm.2.2]
def nsV (s : Int) : Int := (75 * s + 74) % 65537
theorem X8_nextSeed_ok {h : Hp} {s : Int} (h0 : 0 ≤ s) (h1 : s < 65537) : M_X8_nextSeed h s = some (nsV s) := by
  unfold M_X8_nextSeed nsV
  simp (disch := omega) only [irm_nn, Option.bind_some]
theorem nsV_b {s : Int} : 0 ≤ nsV s ∧ nsV s < 65537 := by unfold nsV; omega
def dpV (wd hi s : Int) : Int := 6 * ((s % (wd * hi)) / wd) + (s % (wd * hi)) % wd
theorem mul_b {a b : Int} (h1 : 2 ≤ a) (h2 : a ≤ 6) (h3 : 2 ≤ b) (h4 : b ≤ 6) : 4 ≤ a * b ∧ a * b ≤ 36 := by
  have : a = 2 ∨ a = 3 ∨ a = 4 ∨ a = 5 ∨ a = 6 := by omega
  rcases this with rfl | rfl | rfl | rfl | rfl <;> omega
theorem X8_drawnPlace_ok {M G w s} (hg : gW G w) (a1 : 2 ≤ M w 0) (a2 : M w 0 ≤ 6) (b1 : 2 ≤ M w 1) (b2 : M w 1 ≤ 6) (h0 : 0 ≤ s) (h1 : s < 65537) : M_X8_drawnPlace (M, G) w s = some (dpV (M w 0) (M w 1) s) := by
  obtain ⟨g0, g1, g2⟩ := hg
  obtain ⟨c1, c2⟩ := mul_b a1 a2 b1 b2
  have c3 : 0 ≤ s % (M w 0 * M w 1) := Int.emod_nonneg _ (by omega)
  have c4 : s % (M w 0 * M w 1) < M w 0 * M w 1 := Int.emod_lt_of_pos _ (by omega)
  unfold M_X8_drawnPlace dpV
  simp only [tk_ok g1, gf_ok g1, Option.bind_some]
  simp (disch := omega) only [w32_id, if_pos, irm_nn, idv_nn, Option.bind_some]
  rw [if_pos (by omega), if_pos (by omega)]
/-- where a mark comes from, by an error: as World.source -/
def stV (wd hi : Int) (m : Int → Int) (p k : Int) : Int :=
  if m p = k then p else if 0 < p % 6 ∧ m (p - 1) = k then p - 1 else if p % 6 < wd - 1 ∧ m (p + 1) = k then p + 1 else if 0 < p / 6 ∧ m (p - 6) = k then p - 6 else if p / 6 < hi - 1 ∧ m (p + 6) = k then p + 6 else p
def srcV (wd hi s e1 e2 e3 : Int) (m : Int → Int) (p dr : Int) : Int :=
  if s = 1 then (if p % 6 = e2 ∧ p / 6 = e3 then -1 else p)
  else if s = 2 then (if p % 6 < e1 then p else 6 * (p / 6) + (if 0 < 2 * e1 - 1 - p % 6 then 2 * e1 - 1 - p % 6 else 0))
  else if s = 3 then 6 * ((p / 6 - e2 + 6 * hi) % hi) + (p % 6 - e1 + 6 * wd) % wd
  else if s = 4 then 6 * (hi - 1 - p / 6) + wd - 1 - p % 6
  else if s = 6 then stV wd hi m p e1
  else if s = 7 then (if m p = e1 then -1 else p)
  else if s = 8 then 6 * (p / 6 * e1 / 10) + p % 6 * e1 / 10
  else if s = 9 then (if p = dr then -1 else p)
  else p
def mkV (wd hi s e1 e2 e3 : Int) (m : Int → Int) (p dr : Int) : Int :=
  if srcV wd hi s e1 e2 e3 m p dr = -1 then (if s = 7 then 0 else e1)
  else if s = 5 then (if m (srcV wd hi s e1 e2 e3 m p dr) = e1 then e2 else if m (srcV wd hi s e1 e2 e3 m p dr) = e2 then e1 else m (srcV wd hi s e1 e2 e3 m p dr))
  else m (srcV wd hi s e1 e2 e3 m p dr)
/-- an error's numbers are within -/
def errB (wd hi s e1 e2 e3 : Int) : Prop := 0 ≤ s ∧ s ≤ 10 ∧ -2 ≤ e1 ∧ e1 ≤ 9 ∧ -2 ≤ e2 ∧ e2 ≤ 9 ∧ -2 ≤ e3 ∧ e3 ≤ 9 ∧ (s = 2 → 1 ≤ e1 ∧ e1 < wd) ∧ (s = 3 → 0 ≤ e1 ∧ e1 ≤ 5 ∧ 0 ≤ e2 ∧ e2 ≤ 5) ∧ (s = 8 → 5 ≤ e1)
section WS
variable {M : Int → Int → Int} {G : (Int → Nat) × (Int → Int) × Int} {w t ma mo p dr : Int}
theorem X8_stain_ok {k : Int} (hg : gW G w) (a1 : 2 ≤ M w 0) (a2 : M w 0 ≤ 6) (b1 : 2 ≤ M w 1) (b2 : M w 1 ≤ 6) (p0 : 0 ≤ p) (p1 : p % 6 < M w 0) (p2 : p / 6 < M w 1) (q1 : G.1 ma = 1) (q2 : 0 ≤ mo) (q3 : mo + 36 ≤ G.2.1 ma) (q4 : mo ≤ 100000)
    (hb : ∀ q, 0 ≤ q → q < 36 → -9 ≤ M ma (mo + q) ∧ M ma (mo + q) ≤ 99) (k1 : -9 ≤ k) (k2 : k ≤ 99) : M_X8_stainSource (M, G) w ma mo p k = some (stV (M w 0) (M w 1) (fun q => M ma (mo + q)) p k) := by
  obtain ⟨g0, g1, g2⟩ := hg
  have c0 := hb p (by omega) (by omega)
  unfold M_X8_stainSource M_X8_stainSource_p48 M_X8_stainSource_p74 M_X8_stainSource_p96 stV
  simp only [tk_ok g1, gf_ok g1, Option.bind_some]
  simp (disch := omega) only [irm_nn, idv_nn, ald_ok, Option.bind_some, w32_id]
  by_cases e0 : M ma (mo + p) = k
  · rw [if_pos e0, if_pos e0]
  · rw [if_neg e0, if_neg e0]
    have f4 : (if 0 < p / 6 then (ald 1 (M, G) ma (mo + p - 6)).bind fun x3 => if w32 x3 = k then some (p - 6) else if p / 6 < M w 1 - 1 then (ald 1 (M, G) ma (mo + p + 6)).bind fun x2 => if w32 x2 = k then some (p + 6) else some p else some p else if p / 6 < M w 1 - 1 then (ald 1 (M, G) ma (mo + p + 6)).bind fun x2 => if w32 x2 = k then some (p + 6) else some p else some p) = some (if 0 < p / 6 ∧ M ma (mo + (p - 6)) = k then p - 6 else if p / 6 < M w 1 - 1 ∧ M ma (mo + (p + 6)) = k then p + 6 else p) := by
      sorry
    sorry
end WS
