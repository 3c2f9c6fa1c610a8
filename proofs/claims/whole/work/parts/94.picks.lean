/-! picks: one, two or three of L, in rising order -/
def pkV (L m a b c : Int) : Prop := 0 ≤ a ∧ (m = 1 ∧ a < L ∧ b = 0 ∧ c = 0 ∨ m = 2 ∧ a < b ∧ b < L ∧ c = 0 ∨ m = 3 ∧ a < b ∧ b < c ∧ c < L)
def pkL (a b c a' b' c' : Int) : Prop := a < a' ∨ a = a' ∧ (b < b' ∨ b = b' ∧ c < c')
/-- the next pick -/
def pkS (L m a b c a' b' c' : Int) : Prop := (m = 1 ∧ a < L - 1 ∧ a' = a + 1 ∧ b' = 0 ∧ c' = 0) ∨ (m = 2 ∧ (b < L - 1 ∧ a' = a ∧ b' = b + 1 ∧ c' = 0 ∨ ¬ b < L - 1 ∧ a < L - 2 ∧ a' = a + 1 ∧ b' = a + 2 ∧ c' = 0)) ∨ (m = 3 ∧ (c < L - 1 ∧ a' = a ∧ b' = b ∧ c' = c + 1 ∨ ¬ c < L - 1 ∧ b < L - 2 ∧ a' = a ∧ b' = b + 1 ∧ c' = b + 2 ∨ ¬ c < L - 1 ∧ ¬ b < L - 2 ∧ a < L - 3 ∧ a' = a + 1 ∧ b' = a + 2 ∧ c' = a + 3))
def pkE (L m a b c : Int) : Prop := m = 1 ∧ ¬ a < L - 1 ∨ m = 2 ∧ ¬ b < L - 1 ∧ ¬ a < L - 2 ∨ m = 3 ∧ ¬ c < L - 1 ∧ ¬ b < L - 2 ∧ ¬ a < L - 3
section PK
variable {L m a b c a' b' c' x y z : Int}
theorem pkS_V (h : pkV L m a b c) (hs : pkS L m a b c a' b' c') : pkV L m a' b' c' := by unfold pkV pkS at *; omega
theorem pkS_lt (h : pkV L m a b c) (hs : pkS L m a b c a' b' c') (hx : pkV L m x y z) (hl : pkL x y z a' b' c') : pkL x y z a b c ∨ x = a ∧ y = b ∧ z = c := by unfold pkV pkS pkL at *; omega
theorem pkE_lt (h : pkV L m a b c) (hs : pkE L m a b c) (hx : pkV L m x y z) : pkL x y z a b c ∨ x = a ∧ y = b ∧ z = c := by unfold pkV pkE pkL at *; omega
theorem pk0_V (hm : 1 ≤ m ∧ m ≤ 3) (hL : m ≤ L) : pkV L m 0 (if 2 ≤ m then 1 else 0) (if m = 3 then 2 else 0) := by
  have : m = 1 ∨ m = 2 ∨ m = 3 := by omega
  unfold pkV
  rcases this with rfl | rfl | rfl <;> simp <;> omega
theorem pk0_lt (hx : pkV L m x y z) : ¬ pkL x y z 0 (if 2 ≤ m then 1 else 0) (if m = 3 then 2 else 0) := by
  unfold pkV pkL at *
  have : m = 1 ∨ m = 2 ∨ m = 3 := by omega
  rcases this with rfl | rfl | rfl <;> simp <;> omega
end PK
/-- how many are left behind a pick -/
def c2 : Nat → Nat
  | 0 => 0
  | n + 1 => c2 n + n
def c3 : Nat → Nat
  | 0 => 0
  | n + 1 => c3 n + c2 n
theorem c2_s {n : Nat} (h : 1 ≤ n) : c2 n = c2 (n - 1) + (n - 1) := by
  obtain ⟨k, rfl⟩ : ∃ k, n = k + 1 := ⟨n - 1, by omega⟩
  rfl
theorem c3_s {n : Nat} (h : 1 ≤ n) : c3 n = c3 (n - 1) + c2 (n - 1) := by
  obtain ⟨k, rfl⟩ : ∃ k, n = k + 1 := ⟨n - 1, by omega⟩
  rfl
theorem c2_m : ∀ d n, c2 n ≤ c2 (n + d)
  | 0, _ => Nat.le_refl _
  | d + 1, n => by
    have := c2_m d n
    show c2 n ≤ c2 (n + d) + (n + d)
    omega
theorem c3_m : ∀ d n, c3 n ≤ c3 (n + d)
  | 0, _ => Nat.le_refl _
  | d + 1, n => by
    have := c3_m d n
    show c3 n ≤ c3 (n + d) + c2 (n + d)
    omega
def pkR (L m a b c : Int) : Nat := if m = 1 then (L - 1 - a).toNat else if m = 2 then c2 (L - 1 - a).toNat + (L - 1 - b).toNat else c3 (L - 1 - a).toNat + c2 (L - 1 - b).toNat + (L - 1 - c).toNat
theorem pkR_S {L m a b c a' b' c' : Int} (h : pkV L m a b c) (hs : pkS L m a b c a' b' c') : pkR L m a' b' c' + 1 = pkR L m a b c := by
  unfold pkV at h
  unfold pkR
  have hm : m = 1 ∨ m = 2 ∨ m = 3 := by omega
  rcases hm with rfl | rfl | rfl
  · rw [if_pos rfl, if_pos rfl]
    unfold pkS at hs
    omega
  · rw [if_neg (by decide), if_pos rfl, if_neg (by decide), if_pos rfl]
    unfold pkS at hs
    rcases hs with hs | ⟨-, hs | hs⟩ | hs
    · omega
    · obtain ⟨h1, rfl, rfl, rfl⟩ := hs
      omega
    · obtain ⟨h1, h2, rfl, rfl, rfl⟩ := hs
      have e := c2_s (n := (L - 1 - a).toNat) (by omega)
      rw [show (L - 1 - a).toNat - 1 = (L - 1 - (a + 1)).toNat by omega] at e
      omega
    · omega
  · rw [if_neg (by decide), if_neg (by decide), if_neg (by decide), if_neg (by decide)]
    unfold pkS at hs
    rcases hs with hs | hs | ⟨-, hs | hs | hs⟩
    · omega
    · omega
    · obtain ⟨h1, rfl, rfl, rfl⟩ := hs
      omega
    · obtain ⟨h1, h2, rfl, rfl, rfl⟩ := hs
      have e := c2_s (n := (L - 1 - b).toNat) (by omega)
      rw [show (L - 1 - b).toNat - 1 = (L - 1 - (b + 1)).toNat by omega] at e
      omega
    · obtain ⟨h1, h2, h3, rfl, rfl, rfl⟩ := hs
      have e := c3_s (n := (L - 1 - a).toNat) (by omega)
      rw [show (L - 1 - a).toNat - 1 = (L - 1 - (a + 1)).toNat by omega] at e
      have e2 := c2_s (n := (L - 1 - (a + 1)).toNat) (by omega)
      rw [show (L - 1 - (a + 1)).toNat - 1 = (L - 1 - (a + 2)).toNat by omega] at e2
      have e3 : c2 (L - 1 - b).toNat = 0 := by
        rw [show (L - 1 - b).toNat = 1 by omega]
        rfl
      omega
theorem pkR_b {L m a b c : Int} (h : pkV L m a b c) (hL : L ≤ 36) : pkR L m a b c ≤ 7139 := by
  unfold pkV at h
  unfold pkR
  have k3 : c3 35 = 6545 := by decide
  have k2 : c2 35 = 595 := by decide
  have k24 : c2 34 = 561 := by decide
  have m3 := c3_m (35 - (L - 1 - a).toNat) (L - 1 - a).toNat
  have m2 := c2_m (35 - (L - 1 - a).toNat) (L - 1 - a).toNat
  rw [show (L - 1 - a).toNat + (35 - (L - 1 - a).toNat) = 35 by omega] at m3 m2
  by_cases h1 : m = 1
  · rw [if_pos h1]; omega
  · rw [if_neg h1]
    by_cases h2 : m = 2
    · rw [if_pos h2]; omega
    · rw [if_neg h2]
      have m4 := c2_m (34 - (L - 1 - b).toNat) (L - 1 - b).toNat
      rw [show (L - 1 - b).toNat + (34 - (L - 1 - b).toNat) = 34 by omega] at m4
      omega
/-- the places of a pick -/
def pkD (op : Int → Int) (m a b c q : Int) : Bool := decide (q = op a) || (decide (2 ≤ m) && decide (q = op b)) || (decide (m = 3) && decide (q = op c))
/-- a map with strokes drawn -/
def drw (ce : Int → Int) (T mk : Int) (S : Int → Bool) : Int → Int := fun i => if 36 * T ≤ i ∧ i < 36 * T + 36 ∧ S (i - 36 * T) = true then mk else ce i
theorem drw_at {ce : Int → Int} {T mk q : Int} {S : Int → Bool} (q0 : 0 ≤ q) (q1 : q < 36) : drw ce T mk S (36 * T + q) = if S q = true then mk else ce (36 * T + q) := by
  unfold drw
  rw [show 36 * T + q - 36 * T = q by omega]
  by_cases y : S q = true
  · rw [if_pos ⟨by omega, by omega, y⟩, if_pos y]
  · rw [if_neg (fun z => y z.2.2), if_neg y]
theorem drw_b {ce : Int → Int} {T mk k : Int} {S : Int → Bool} (hc : ∀ i, 0 ≤ ce i ∧ ce i < k) (m0 : 0 ≤ mk) (m1 : mk < k) (i : Int) : 0 ≤ drw ce T mk S i ∧ drw ce T mk S i < k := by
  unfold drw
  split
  · exact ⟨m0, m1⟩
  · exact hc i
theorem drw_no {ce : Int → Int} {T mk : Int} : drw ce T mk (fun _ => false) = ce := by
  funext i
  unfold drw
  rw [if_neg (fun z => by have := z.2.2; cases this)]
/-- what a step to the next pick does to the row of picks -/
def nxP (f f' : Int → Int) (L m : Int) : Prop := ∃ j, 0 ≤ j ∧ j < m ∧ f j < L - m + j ∧ (∀ k, j < k → k < m → ¬ f k < L - m + k) ∧ ∀ k, 0 ≤ k → k < m → f' k = if k < j then f k else f j + 1 + (k - j)
theorem nxP_S {f f' : Int → Int} {L m a b c : Int} (hm : 1 ≤ m ∧ m ≤ 3) (hV : pkV L m a b c) (ha : f 0 = a) (hb : 2 ≤ m → f 1 = b) (hc : m = 3 → f 2 = c) (h : nxP f f' L m) : ∃ a' b' c', pkS L m a b c a' b' c' ∧ f' 0 = a' ∧ (2 ≤ m → f' 1 = b') ∧ (m = 3 → f' 2 = c') := by
  obtain ⟨j, j0, j1, h1, h2, h3⟩ := h
  have hm' : m = 1 ∨ m = 2 ∨ m = 3 := by omega
  unfold pkV at hV
  rcases hm' with rfl | rfl | rfl
  · have e0 := h3 0 (by omega) (by omega)
    have : j = 0 := by omega
    subst this
    rw [if_neg (by omega)] at e0
    exact ⟨a + 1, 0, 0, Or.inl ⟨rfl, by omega, rfl, rfl, rfl⟩, by omega, fun z => by omega, fun z => by omega⟩
  · have e0 := h3 0 (by omega) (by omega)
    have e1 := h3 1 (by omega) (by omega)
    have hb := hb (by omega)
    have : j = 0 ∨ j = 1 := by omega
    rcases this with rfl | rfl
    · have h21 := h2 1 (by omega) (by omega)
      rw [if_neg (by omega)] at e0 e1
      exact ⟨a + 1, a + 2, 0, Or.inr (Or.inl ⟨rfl, Or.inr ⟨by omega, by omega, rfl, rfl, rfl⟩⟩), by omega, fun z => by omega, fun z => by omega⟩
    · rw [if_pos (by omega)] at e0
      rw [if_neg (by omega)] at e1
      exact ⟨a, b + 1, 0, Or.inr (Or.inl ⟨rfl, Or.inl ⟨by omega, rfl, rfl, rfl⟩⟩), by omega, fun z => by omega, fun z => by omega⟩
  · have e0 := h3 0 (by omega) (by omega)
    have e1 := h3 1 (by omega) (by omega)
    have e2 := h3 2 (by omega) (by omega)
    have hb := hb (by omega)
    have hc := hc rfl
    have : j = 0 ∨ j = 1 ∨ j = 2 := by omega
    rcases this with rfl | rfl | rfl
    · have h21 := h2 1 (by omega) (by omega)
      have h22 := h2 2 (by omega) (by omega)
      rw [if_neg (by omega)] at e0 e1 e2
      exact ⟨a + 1, a + 2, a + 3, Or.inr (Or.inr ⟨rfl, Or.inr (Or.inr ⟨by omega, by omega, by omega, rfl, rfl, rfl⟩)⟩), by omega, fun z => by omega, fun z => by omega⟩
    · have h22 := h2 2 (by omega) (by omega)
      rw [if_pos (by omega)] at e0
      rw [if_neg (by omega)] at e1 e2
      exact ⟨a, b + 1, b + 2, Or.inr (Or.inr ⟨rfl, Or.inr (Or.inl ⟨by omega, by omega, rfl, rfl, rfl⟩)⟩), by omega, fun z => by omega, fun z => by omega⟩
    · rw [if_pos (by omega)] at e0 e1
      rw [if_neg (by omega)] at e2
      exact ⟨a, b, c + 1, Or.inr (Or.inr ⟨rfl, Or.inl ⟨by omega, rfl, rfl, rfl⟩⟩), by omega, fun z => by omega, fun z => by omega⟩
theorem nxE_E {f : Int → Int} {L m a b c : Int} (hm : 1 ≤ m ∧ m ≤ 3) (ha : f 0 = a) (hb : 2 ≤ m → f 1 = b) (hc : m = 3 → f 2 = c) (h : ∀ k, 0 ≤ k → k < m → ¬ f k < L - m + k) : pkE L m a b c := by
  have hm' : m = 1 ∨ m = 2 ∨ m = 3 := by omega
  rcases hm' with rfl | rfl | rfl
  · have := h 0 (by omega) (by omega)
    exact Or.inl ⟨rfl, by omega⟩
  · have h0 := h 0 (by omega) (by omega)
    have h1 := h 1 (by omega) (by omega)
    have := hb (by omega)
    exact Or.inr (Or.inl ⟨rfl, by omega, by omega⟩)
  · have h0 := h 0 (by omega) (by omega)
    have h1 := h 1 (by omega) (by omega)
    have h2 := h 2 (by omega) (by omega)
    have := hb (by omega)
    have := hc rfl
    exact Or.inr (Or.inr ⟨rfl, by omega, by omega, by omega⟩)
