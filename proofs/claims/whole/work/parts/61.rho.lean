/-! a sequence that comes round -/
section RH
variable {α : Type} {s : Nat → α} {a b : Nat}
def isRho (s : Nat → α) (a b : Nat) : Prop := a < b ∧ s a = s b ∧ ∀ i j, i < j → j < b → s i ≠ s j
theorem rho_per (st : ∀ i j, s i = s j → s (i + 1) = s (j + 1)) (h : isRho s a b) : ∀ d, s (a + d + (b - a)) = s (a + d)
  | 0 => by
    have := h.1
    rw [Nat.add_zero, show a + (b - a) = b by omega]
    exact h.2.1.symm
  | d + 1 => by
    have := st _ _ (rho_per st h d)
    rw [show a + (d + 1) + (b - a) = a + d + (b - a) + 1 by omega]
    exact this
theorem rho_mul (st : ∀ i j, s i = s j → s (i + 1) = s (j + 1)) (h : isRho s a b) (d : Nat) : ∀ k, s (a + d + k * (b - a)) = s (a + d)
  | 0 => by rw [Nat.zero_mul, Nat.add_zero]
  | k + 1 => by
    have := rho_per st h (d + k * (b - a))
    rw [Nat.succ_mul, show a + d + (k * (b - a) + (b - a)) = a + (d + k * (b - a)) + (b - a) by omega, this, show a + (d + k * (b - a)) = a + d + k * (b - a) by omega]
    exact rho_mul st h d k
theorem rho_red (st : ∀ i j, s i = s j → s (i + 1) = s (j + 1)) (h : isRho s a b) (x : Nat) : s (a + x) = s (a + x % (b - a)) := by
  have := rho_mul st h (x % (b - a)) (x / (b - a))
  rw [show a + x % (b - a) + x / (b - a) * (b - a) = a + x by
    have := Nat.mod_add_div x (b - a)
    rw [Nat.mul_comm] at this
    omega] at this
  exact this
/-- before the rest nothing comes again -/
theorem rho_lo (st : ∀ i j, s i = s j → s (i + 1) = s (j + 1)) (h : isRho s a b) {p j : Nat} (hp : p < a) (hj : p < j) : s p ≠ s j := by
  intro e
  by_cases c : j < b
  · exact h.2.2 p j hj c e
  · have hab := h.1
    have hr := rho_red st h (j - a)
    rw [show a + (j - a) = j by omega] at hr
    have hm := Nat.mod_lt (j - a) (show 0 < b - a by omega)
    exact h.2.2 p (a + (j - a) % (b - a)) (by omega) (by omega) (e.trans hr)
/-- behind the rest nothing comes sooner than a round -/
theorem rho_hi (st : ∀ i j, s i = s j → s (i + 1) = s (j + 1)) (h : isRho s a b) {p d : Nat} (hp : a ≤ p) (d0 : 0 < d) (d1 : d < b - a) : s p ≠ s (p + d) := by
  intro e
  have r1 := rho_red st h (p - a)
  have r2 := rho_red st h (p - a + d)
  rw [show a + (p - a) = p by omega] at r1
  rw [show a + (p - a + d) = p + d by omega] at r2
  have hm := Nat.mod_lt (p - a) (show 0 < b - a by omega)
  have h2 : (p - a + d) % (b - a) = ((p - a) % (b - a) + d) % (b - a) := by rw [Nat.mod_add_mod]
  rw [h2] at r2
  have e2 := r1.symm.trans (e.trans r2)
  generalize (p - a) % (b - a) = y at *
  by_cases c : y + d < b - a
  · rw [Nat.mod_eq_of_lt c] at e2
    exact h.2.2 (a + y) (a + (y + d)) (by omega) (by omega) e2
  · rw [Nat.mod_eq_sub_mod (by omega), Nat.mod_eq_of_lt (by omega)] at e2
    exact h.2.2 (a + (y + d - (b - a))) (a + y) (by omega) (by omega) e2.symm
/-- the first match from p on tells the length -/
theorem rho_len (st : ∀ i j, s i = s j → s (i + 1) = s (j + 1)) (h : isRho s a b) {p d : Nat} (d0 : 0 < d) (e : s p = s (p + d)) (hd : ∀ k, 0 < k → k < d → s p ≠ s (p + k)) : a ≤ p ∧ d = b - a := by
  have hab := h.1
  have hp : a ≤ p := by
    by_cases c : p < a
    · exact absurd e (rho_lo st h c (by omega))
    · omega
  refine ⟨hp, ?_⟩
  have hper := rho_per st h (p - a)
  rw [show a + (p - a) = p by omega] at hper
  by_cases c : d < b - a
  · exact absurd e (rho_hi st h hp d0 c)
  · by_cases c2 : b - a < d
    · exact absurd hper.symm (hd (b - a) (by omega) c2)
    · omega
/-- where something comes again, there is a first time -/
theorem rho_ex : ∀ (n : Nat), (∃ i j, i < j ∧ j ≤ n ∧ s i = s j) → ∃ a b, isRho s a b ∧ b ≤ n
  | 0, ⟨i, j, h1, h2, _⟩ => by omega
  | n + 1, ⟨i, j, h1, h2, e⟩ => by
    by_cases c : ∃ i j, i < j ∧ j ≤ n ∧ s i = s j
    · obtain ⟨a, b, h, hb⟩ := rho_ex n c
      exact ⟨a, b, h, by omega⟩
    · have hj : j = n + 1 := by
        by_cases y : j ≤ n
        · exact absurd ⟨i, j, h1, y, e⟩ c
        · omega
      subst hj
      exact ⟨i, n + 1, ⟨h1, e, fun i' j' x1 x2 x3 => c ⟨i', j', x1, by omega, x3⟩⟩, by omega⟩
end RH
