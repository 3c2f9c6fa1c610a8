/-! what stands where behind so many rounds: the words that class and reference are both held against. A place is 6 times its row and its column; a cell is 36 times the town and the place. -/
def nsV (s : Int) : Int := (75 * s + 74) % 65537
theorem nsV_b {s : Int} : 0 ≤ nsV s ∧ nsV s < 65537 := by unfold nsV; omega
def nsI : Nat → Int → Int
  | 0, s => s
  | n + 1, s => nsV (nsI n s)
theorem nsI_b {s : Int} (h0 : 0 ≤ s) (h1 : s < 65537) : ∀ n, 0 ≤ nsI n s ∧ nsI n s < 65537
  | 0 => ⟨h0, h1⟩
  | n + 1 => nsV_b
theorem nsI_add (s : Int) : ∀ a b, nsI (a + b) s = nsI a (nsI b s)
  | 0, b => by rw [Nat.zero_add]; rfl
  | a + 1, b => by rw [Nat.add_right_comm]; show nsV (nsI (a + b) s) = nsV (nsI a (nsI b s)); rw [nsI_add s a b]
def inV (wd hi p : Int) : Prop := 0 ≤ p ∧ p % 6 < wd ∧ p / 6 < hi
def dpV (wd hi s : Int) : Int := 6 * ((s % (wd * hi)) / wd) + (s % (wd * hi)) % wd
theorem mul_b {a b : Int} (h1 : 2 ≤ a) (h2 : a ≤ 6) (h3 : 2 ≤ b) (h4 : b ≤ 6) : 4 ≤ a * b ∧ a * b ≤ 36 := by
  have : a = 2 ∨ a = 3 ∨ a = 4 ∨ a = 5 ∨ a = 6 := by omega
  rcases this with rfl | rfl | rfl | rfl | rfl <;> omega
theorem mul_b2 {a b : Int} (h1 : 0 ≤ a) (h2 : a ≤ 5) (h3 : 0 ≤ b) (h4 : b ≤ 9) : 0 ≤ a * b ∧ a * b ≤ 45 ∧ a * b / 10 ≤ a := by
  have : a = 0 ∨ a = 1 ∨ a = 2 ∨ a = 3 ∨ a = 4 ∨ a = 5 := by omega
  rcases this with rfl | rfl | rfl | rfl | rfl | rfl <;> omega
/-- row by row: from the place's number in the ring's own width -/
theorem rc_b {wd hi q : Int} (a1 : 2 ≤ wd) (a2 : wd ≤ 6) (b1 : 2 ≤ hi) (b2 : hi ≤ 6) (h0 : 0 ≤ q) (h1 : q < wd * hi) : 0 ≤ q / wd ∧ q / wd < hi ∧ 0 ≤ q % wd ∧ q % wd < wd ∧ q = (q / wd) * wd + q % wd := by
  have : wd = 2 ∨ wd = 3 ∨ wd = 4 ∨ wd = 5 ∨ wd = 6 := by omega
  rcases this with rfl | rfl | rfl | rfl | rfl <;> omega
theorem dpV_in {wd hi s : Int} (a1 : 2 ≤ wd) (a2 : wd ≤ 6) (b1 : 2 ≤ hi) (b2 : hi ≤ 6) : inV wd hi (dpV wd hi s) := by
  have hm := mul_b a1 a2 b1 b2
  obtain ⟨c1, c2, c3, c4, c5⟩ := rc_b a1 a2 b1 b2 (Int.emod_nonneg s (by omega : wd * hi ≠ 0)) (Int.emod_lt_of_pos s (by omega : 0 < wd * hi))
  unfold inV dpV
  omega
/-- where a mark comes from, by an error -/
def stV (wd hi : Int) (m : Int → Int) (p k : Int) : Int :=
  if m p = k then p else if 0 < p % 6 ∧ m (p - 1) = k then p - 1 else if p % 6 < wd - 1 ∧ m (p + 1) = k then p + 1 else if 0 < p / 6 ∧ m (p - 6) = k then p - 6 else if p / 6 < hi - 1 ∧ m (p + 6) = k then p + 6 else p
def srcV (wd hi s e1 e2 e3 : Int) (m : Int → Int) (p dr : Int) : Int :=
  if s = 1 then (if p % 6 = e2 ∧ p / 6 = e3 then -1 else p)
  else if s = 2 then (if p % 6 < e1 then p else 6 * (p / 6) + (if 0 < 2 * e1 - 1 - p % 6 then 2 * e1 - 1 - p % 6 else 0))
  else if s = 3 then 6 * ((p / 6 - e2 + 6 * hi) % hi) + (p % 6 - e1 + 6 * wd) % wd
  else if s = 4 then 6 * (hi - 1 - p / 6) + wd - 1 - p % 6
  else if s = 6 then stV wd hi m p e1
  else if s = 7 then (if m p = e1 then -1 else p)
  else if s = 8 then 6 * (p / 6 * e1 / 10) + p % 6 * e1 / 10
  else if s = 9 then (if p = dr then -1 else p)
  else p
def mkV (wd hi s e1 e2 e3 : Int) (m : Int → Int) (p dr : Int) : Int :=
  if srcV wd hi s e1 e2 e3 m p dr = -1 then (if s = 7 then 0 else e1)
  else if s = 5 then (if m (srcV wd hi s e1 e2 e3 m p dr) = e1 then e2 else if m (srcV wd hi s e1 e2 e3 m p dr) = e2 then e1 else m (srcV wd hi s e1 e2 e3 m p dr))
  else m (srcV wd hi s e1 e2 e3 m p dr)
/-- an error's numbers are within; marks are below mk -/
def errB (wd hi mk s e1 e2 e3 : Int) : Prop := 0 ≤ s ∧ s ≤ 10 ∧ -2 ≤ e1 ∧ e1 ≤ 9 ∧ -2 ≤ e2 ∧ e2 ≤ 9 ∧ -2 ≤ e3 ∧ e3 ≤ 9 ∧ (s = 1 ∨ s = 5 ∨ s = 6 ∨ s = 7 ∨ s = 9 → 0 ≤ e1 ∧ e1 < mk) ∧ (s = 1 → 0 ≤ e2 ∧ e2 < wd ∧ 0 ≤ e3 ∧ e3 < hi) ∧ (s = 2 → 1 ≤ e1 ∧ e1 < wd) ∧ (s = 3 → 0 ≤ e1 ∧ e1 ≤ 5 ∧ 0 ≤ e2 ∧ e2 ≤ 5) ∧ (s = 5 → 0 ≤ e2 ∧ e2 < mk) ∧ (s = 8 → 5 ≤ e1)
theorem stV_in {wd hi p k : Int} {m : Int → Int} (a2 : wd ≤ 6) (hp : inV wd hi p) : inV wd hi (stV wd hi m p k) := by
  unfold inV at hp
  obtain ⟨h0, h1, h2⟩ := hp
  unfold stV
  repeat' split
  all_goals unfold inV
  all_goals omega
theorem mod_b {x n : Int} (h : 2 ≤ n) (h6 : n ≤ 6) : 0 ≤ x % n ∧ x % n < n := ⟨Int.emod_nonneg x (by omega), Int.emod_lt_of_pos x (by omega)⟩
theorem srcV_in {wd hi mk s e1 e2 e3 p dr : Int} {m : Int → Int} (a1 : 2 ≤ wd) (a2 : wd ≤ 6) (b1 : 2 ≤ hi) (b2 : hi ≤ 6) (he : errB wd hi mk s e1 e2 e3) (hp : inV wd hi p) : srcV wd hi s e1 e2 e3 m p dr = -1 ∨ inV wd hi (srcV wd hi s e1 e2 e3 m p dr) := by
  have hst := stV_in (m := m) (k := e1) a2 hp
  have hm1 := mod_b (x := p / 6 - e2 + 6 * hi) b1 b2
  have hm2 := mod_b (x := p % 6 - e1 + 6 * wd) a1 a2
  have hp' := hp
  unfold inV at hp
  obtain ⟨h0, h1, h2⟩ := hp
  obtain ⟨s0, s1, d1, d2, d3, d4, d5, d6, -, -, f2, f3, -, f8⟩ := he
  unfold srcV
  by_cases z1 : s = 1
  · rw [if_pos z1]; split
    · exact Or.inl rfl
    · exact Or.inr hp'
  rw [if_neg z1]
  by_cases z2 : s = 2
  · rw [if_pos z2]; have := f2 z2; right
    split
    · exact hp'
    · split <;> (unfold inV; omega)
  rw [if_neg z2]
  by_cases z3 : s = 3
  · rw [if_pos z3]; right; unfold inV; omega
  rw [if_neg z3]
  by_cases z4 : s = 4
  · rw [if_pos z4]; right; unfold inV; omega
  rw [if_neg z4]
  by_cases z6 : s = 6
  · rw [if_pos z6]; exact Or.inr hst
  rw [if_neg z6]
  by_cases z7 : s = 7
  · rw [if_pos z7]; split
    · exact Or.inl rfl
    · exact Or.inr hp'
  rw [if_neg z7]
  by_cases z8 : s = 8
  · rw [if_pos z8]; right; have := f8 z8
    have c1 := mul_b2 (a := p / 6) (b := e1) (by omega) (by omega) (by omega) d2
    have c2 := mul_b2 (a := p % 6) (b := e1) (by omega) (by omega) (by omega) d2
    unfold inV; omega
  rw [if_neg z8]
  by_cases z9 : s = 9
  · rw [if_pos z9]; split
    · exact Or.inl rfl
    · exact Or.inr hp'
  rw [if_neg z9]
  exact Or.inr hp'
/-- only the marks of the map count -/
theorem stV_cg {wd hi p k : Int} {m m' : Int → Int} (a2 : wd ≤ 6) (hp : inV wd hi p) (h : ∀ q, inV wd hi q → m q = m' q) : stV wd hi m p k = stV wd hi m' p k := by
  have h0 := h p hp
  unfold inV at hp h
  obtain ⟨p0, p1, p2⟩ := hp
  have h1 : 0 < p % 6 → m (p - 1) = m' (p - 1) := fun z => h _ (by omega)
  have h2 : p % 6 < wd - 1 → m (p + 1) = m' (p + 1) := fun z => h _ (by omega)
  have h3 : 0 < p / 6 → m (p - 6) = m' (p - 6) := fun z => h _ (by omega)
  have h4 : p / 6 < hi - 1 → m (p + 6) = m' (p + 6) := fun z => h _ (by omega)
  unfold stV
  rw [h0]
  by_cases c1 : 0 < p % 6 <;> by_cases c2 : p % 6 < wd - 1 <;> by_cases c3 : 0 < p / 6 <;> by_cases c4 : p / 6 < hi - 1 <;> simp [c1, c2, c3, c4, h1, h2, h3, h4]
theorem srcV_cg {wd hi s e1 e2 e3 p dr : Int} {m m' : Int → Int} (a2 : wd ≤ 6) (hp : inV wd hi p) (h : ∀ q, inV wd hi q → m q = m' q) : srcV wd hi s e1 e2 e3 m p dr = srcV wd hi s e1 e2 e3 m' p dr := by
  unfold srcV
  rw [stV_cg a2 hp h, h p hp]
theorem mkV_cg {wd hi mk s e1 e2 e3 p dr : Int} {m m' : Int → Int} (a1 : 2 ≤ wd) (a2 : wd ≤ 6) (b1 : 2 ≤ hi) (b2 : hi ≤ 6) (he : errB wd hi mk s e1 e2 e3) (hp : inV wd hi p) (h : ∀ q, inV wd hi q → m q = m' q) : mkV wd hi s e1 e2 e3 m p dr = mkV wd hi s e1 e2 e3 m' p dr := by
  unfold mkV
  rw [srcV_cg a2 hp h]
  rcases srcV_in (m := m') (dr := dr) a1 a2 b1 b2 he hp with e | e
  · rw [if_pos e, if_pos e]
  · rw [h _ e]
/-- a mark below mk stays one -/
theorem mkV_b {wd hi mk s e1 e2 e3 p dr : Int} {m : Int → Int} (a1 : 2 ≤ wd) (a2 : wd ≤ 6) (b1 : 2 ≤ hi) (b2 : hi ≤ 6) (k1 : 0 < mk) (he : errB wd hi mk s e1 e2 e3) (hp : inV wd hi p) (h : ∀ q, inV wd hi q → 0 ≤ m q ∧ m q < mk) : 0 ≤ mkV wd hi s e1 e2 e3 m p dr ∧ mkV wd hi s e1 e2 e3 m p dr < mk := by
  have hs := srcV_in (m := m) (dr := dr) a1 a2 b1 b2 he hp
  obtain ⟨s0, s1, d1, d2, d3, d4, d5, d6, fm, f1, f2, f3, f5, f8⟩ := he
  unfold mkV
  by_cases e : srcV wd hi s e1 e2 e3 m p dr = -1
  · rw [if_pos e]
    by_cases e7 : s = 7
    · rw [if_pos e7]; omega
    · rw [if_neg e7]
      have : s = 1 ∨ s = 9 := by
        unfold srcV at e
        unfold inV at hp
        by_cases z1 : s = 1
        · exact Or.inl z1
        by_cases z9 : s = 9
        · exact Or.inr z9
        exfalso
        rw [if_neg z1] at e
        have hst := stV_in (m := m) (k := e1) a2 hp
        have hm1 := mod_b (x := p / 6 - e2 + 6 * hi) b1 b2
        have hm2 := mod_b (x := p % 6 - e1 + 6 * wd) a1 a2
        by_cases z2 : s = 2
        · rw [if_pos z2] at e; split at e
          · omega
          · split at e <;> omega
        rw [if_neg z2] at e
        by_cases z3 : s = 3
        · rw [if_pos z3] at e; omega
        rw [if_neg z3] at e
        by_cases z4 : s = 4
        · rw [if_pos z4] at e; omega
        rw [if_neg z4] at e
        by_cases z6 : s = 6
        · rw [if_pos z6] at e; unfold inV at hst; omega
        rw [if_neg z6, if_neg e7] at e
        by_cases z8 : s = 8
        · rw [if_pos z8] at e
          have := f8 z8
          have c1 := mul_b2 (a := p / 6) (b := e1) (by omega) (by omega) (by omega) d2
          have c2 := mul_b2 (a := p % 6) (b := e1) (by omega) (by omega) (by omega) d2
          omega
        rw [if_neg z8, if_neg z9] at e
        omega
      exact fm (by omega)
  · rw [if_neg e]
    have hq := h _ (hs.resolve_left e)
    by_cases e5 : s = 5
    · rw [if_pos e5]
      have := fm (by omega)
      have := f5 e5
      repeat' split
      all_goals omega
    · rw [if_neg e5]; exact hq
/-- how many towns below t sneeze -/
def rk (er : Int → Int) : Nat → Nat
  | 0 => 0
  | t + 1 => rk er t + (if er (4 * (t : Int)) = 9 then 1 else 0)
/-- where town t's sneeze falls in round k (from 0 on) -/
def drV (wd hi tw : Int) (er : Int → Int) (s0 : Int) (k : Nat) (t : Int) : Int := dpV wd hi (nsI (k * rk er tw.toNat + rk er t.toNat + 1) s0)
def cellV (wd hi tw : Int) (co er dr ce : Int → Int) (i : Int) : Int :=
  if 0 ≤ i ∧ i < 36 * tw ∧ i % 36 % 6 < wd ∧ i % 36 / 6 < hi ∧ 0 ≤ co (i / 36) then mkV wd hi (er (4 * (i / 36))) (er (4 * (i / 36) + 1)) (er (4 * (i / 36) + 2)) (er (4 * (i / 36) + 3)) (fun q => ce (36 * co (i / 36) + q)) (i % 36) (dr (i / 36)) else ce i
/-- the cells behind k rounds -/
def bh (wd hi tw : Int) (co er : Int → Int) (s0 : Int) (ce : Int → Int) : Nat → Int → Int
  | 0 => ce
  | k + 1 => cellV wd hi tw co er (drV wd hi tw er s0 k) (bh wd hi tw co er s0 ce k)
/-- a world's numbers are within -/
def wfW (wd hi tw mk : Int) (co er : Int → Int) (s0 : Int) (ce : Int → Int) : Prop :=
  2 ≤ wd ∧ wd ≤ 6 ∧ 2 ≤ hi ∧ hi ≤ 6 ∧ 1 ≤ tw ∧ tw ≤ 6 ∧ 2 ≤ mk ∧ mk ≤ 6 ∧ (∀ i, -2 ≤ co i ∧ co i < tw) ∧ (∀ i, -2 ≤ er i ∧ er i ≤ 10) ∧ (∀ t, 0 ≤ t → t < tw → errB wd hi mk (er (4 * t)) (er (4 * t + 1)) (er (4 * t + 2)) (er (4 * t + 3))) ∧ (∀ t, 0 ≤ t → t < tw → co t < 0 → co t = -2 ∧ er (4 * t) = 0) ∧ 0 ≤ s0 ∧ s0 < 65537 ∧ ∀ i, 0 ≤ ce i ∧ ce i < mk
