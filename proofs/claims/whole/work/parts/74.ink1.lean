/-! ink: ways, told without memory -/
theorem min_ex {Q : Int → Prop} (h0 : ∀ w, Q w → 0 ≤ w) : ∀ (m : Nat) (w : Int), w ≤ m → Q w → ∃ w, Q w ∧ ∀ w', Q w' → w ≤ w'
  | 0, w, hw, q => ⟨w, q, fun w' q' => by have := h0 w q; have := h0 w' q'; omega⟩
  | m + 1, w, hw, q => by
    by_cases c : ∃ w', Q w' ∧ w' < w
    · obtain ⟨w', q', hl⟩ := c
      exact min_ex h0 m w' (by omega) q'
    · refine ⟨w, q, fun w' q' => ?_⟩
      by_cases c2 : w ≤ w'
      · exact c2
      · exact absurd ⟨w', q', by omega⟩ c
theorem cn_full {g : Int → Int} {n : Nat} (h : n ≤ cn g n) {j : Int} (j0 : 0 ≤ j) (j1 : j < n) : g j ≠ 0 := by
  intro e
  have h1 := cn_up e j0 n j1
  have := cn_le (f := u1 g j 1) n
  omega
section WY
variable {wd hi : Int} {P : Nat → Int → Int → Prop} {N : Int → Int → Prop} {c f f' : Int → Int}
/-- one place more is settled by each pass -/
theorem pass_new (dn : ∀ n p w, P (n + 1) p w → ∃ p', N p p' ∧ P n p' (w - c p)) (up : ∀ n p p' w, N p p' → P n p' w → P (n + 1) p (w + c p)) (ps : ∀ n p w, P n p w → 0 ≤ w) (base : ∀ p w, P 0 p w → f' p ≤ w) (rel : ∀ p p' n w, N p p' → P n p' w → f' p ≤ f p' + c p) (h : ¬ ∀ p n w, P n p w → f p ≤ w) : ∃ p, (∃ n w, P n p w) ∧ (¬ ∀ n w, P n p w → f p ≤ w) ∧ ∀ n w, P n p w → f' p ≤ w := by
  have key : ∀ n p w, P n p w → (∀ n' w', P n' p w' → w ≤ w') → w < f p → ∃ p, (∃ n w, P n p w) ∧ (¬ ∀ n w, P n p w → f p ≤ w) ∧ ∀ n w, P n p w → f' p ≤ w := by
    intro n
    induction n with
    | zero =>
      intro p w hP ho hl
      refine ⟨p, ⟨0, w, hP⟩, fun z => by have := z 0 w hP; omega, fun n' w' h' => ?_⟩
      have := base p w hP
      have := ho n' w' h'
      omega
    | succ n ih =>
      intro p w hP ho hl
      obtain ⟨p', hN, hP'⟩ := dn n p w hP
      by_cases y : w - c p < f p'
      · refine ih p' (w - c p) hP' (fun n' w' h' => ?_) y
        have := ho _ _ (up n' p p' w' hN h')
        omega
      · refine ⟨p, ⟨n + 1, w, hP⟩, fun z => by have := z (n + 1) w hP; omega, fun n' w' h' => ?_⟩
        have := rel p p' n _ hN hP'
        have := ho n' w' h'
        omega
  have hx : ∃ p n w, P n p w ∧ w < f p := by
    by_cases y : ∃ p n w, P n p w ∧ w < f p
    · exact y
    · refine absurd (fun p n w hP => ?_) h
      by_cases y2 : f p ≤ w
      · exact y2
      · exact absurd ⟨p, n, w, hP, by omega⟩ y
  obtain ⟨p, n, w, hP, hl⟩ := hx
  obtain ⟨w1, ⟨n1, h1⟩, ho⟩ := min_ex (Q := fun w => ∃ n, P n p w) (fun w ⟨n, h⟩ => ps n p w h) w.toNat w (by omega) ⟨n, hP⟩
  have := ho w ⟨n, hP⟩
  exact key n1 p w1 h1 (fun n' w' h' => ho w' ⟨n', h'⟩) (by omega)
/-- all is settled, or so many places are -/
def prg (wd hi : Int) (P : Nat → Int → Int → Prop) (f : Int → Int) (k : Nat) : Prop := (∀ p n w, P n p w → f p ≤ w) ∨ ∃ g : Int → Int, (∀ p, inV wd hi p → g (idx wd p) ≠ 0 → ∀ n w, P n p w → f p ≤ w) ∧ k ≤ cn g (wd * hi).toNat
theorem prg_0 : prg wd hi P f 0 := Or.inr ⟨fun _ => 0, fun _ _ z => absurd rfl z, by omega⟩
theorem prg_step (a1 : 2 ≤ wd) (a2 : wd ≤ 6) (b2 : hi ≤ 6) (hin : ∀ n p w, P n p w → inV wd hi p) (dn : ∀ n p w, P (n + 1) p w → ∃ p', N p p' ∧ P n p' (w - c p)) (up : ∀ n p p' w, N p p' → P n p' w → P (n + 1) p (w + c p)) (ps : ∀ n p w, P n p w → 0 ≤ w) (base : ∀ p w, P 0 p w → f' p ≤ w) (rel : ∀ p p' n w, N p p' → P n p' w → f' p ≤ f p' + c p) (mono : ∀ p, inV wd hi p → f' p ≤ f p) {k : Nat} (h : prg wd hi P f k) : prg wd hi P f' (k + 1) := by
  by_cases y : ∀ p n w, P n p w → f p ≤ w
  · exact Or.inl (fun p n w hP => Int.le_trans (mono p (hin n p w hP)) (y p n w hP))
  · rcases h with h | ⟨g, hg, hk⟩
    · exact absurd h y
    · obtain ⟨p, ⟨n, w, hP⟩, hno, hst⟩ := pass_new dn up ps base rel y
      have hp := hin n p w hP
      have hb := idx_b a1 a2 b2 hp
      have hz : g (idx wd p) = 0 := by
        by_cases z : g (idx wd p) = 0
        · exact z
        · exact absurd (hg p hp z) hno
      refine Or.inr ⟨u1 g (idx wd p) 1, fun q hq hz2 n w hP2 => ?_, ?_⟩
      · by_cases z : idx wd q = idx wd p
        · have := idx_inj a1 a2 hq hp z
          subst this
          exact hst n w hP2
        · rw [u1_k _ _ z] at hz2
          exact Int.le_trans (mono q hq) (hg q hq hz2 n w hP2)
      · rw [cn_up hz hb.1 _ (by omega)]
        omega
theorem prg_end (a1 : 2 ≤ wd) (a2 : wd ≤ 6) (b2 : hi ≤ 6) (hin : ∀ n p w, P n p w → inV wd hi p) {k : Nat} (hk : (wd * hi).toNat ≤ k) (h : prg wd hi P f k) : ∀ p n w, P n p w → f p ≤ w := by
  rcases h with h | ⟨g, hg, hk2⟩
  · exact h
  · intro p n w hP
    have hp := hin n p w hP
    have hb := idx_b a1 a2 b2 hp
    exact hg p hp (cn_full (n := (wd * hi).toNat) (by omega) hb.1 (by omega)) n w hP
end WY
/-- the edge; what a place costs; beside -/
def edg (wd hi p : Int) : Prop := p % 6 = 0 ∨ p / 6 = 0 ∨ p % 6 = wd - 1 ∨ p / 6 = hi - 1
def csV (mk : Int) (m : Int → Int) (p : Int) : Int := if m p = mk then 0 else 1
theorem csV_b {mk p : Int} {m : Int → Int} : 0 ≤ csV mk m p ∧ csV mk m p ≤ 1 := by unfold csV; split <;> omega
def bsd (wd hi p q : Int) : Prop := ∃ d, 0 ≤ d ∧ d < 4 ∧ bsV wd hi p d = q ∧ q ≠ -1
/-- a way of n steps from a place to the edge; from a place f to a place -/
def wyE (wd hi : Int) (c : Int → Int) : Nat → Int → Int → Prop
  | 0, p, w => inV wd hi p ∧ edg wd hi p ∧ w = c p
  | n + 1, p, w => inV wd hi p ∧ ∃ p', bsd wd hi p p' ∧ wyE wd hi c n p' (w - c p)
def wyF (wd hi : Int) (c : Int → Int) (f : Int) : Nat → Int → Int → Prop
  | 0, p, w => inV wd hi p ∧ p = f ∧ w = c p
  | n + 1, p, w => inV wd hi p ∧ ∃ p', bsd wd hi p p' ∧ wyF wd hi c f n p' (w - c p)
section WE
variable {wd hi f : Int} {c : Int → Int}
theorem bsd_sym (a2 : wd ≤ 6) {p q : Int} (hp : inV wd hi p) (h : bsd wd hi p q) : bsd wd hi q p ∧ inV wd hi q := by
  obtain ⟨d, d0, d1, e, hq⟩ := h
  have hqi := bsV_in (d := d) a2 hp
  rw [e] at hqi
  refine ⟨?_, hqi.resolve_left hq⟩
  unfold inV at hp
  unfold bsV at e
  by_cases z0 : d = 0
  · rw [if_pos z0] at e
    refine ⟨1, by omega, by omega, ?_, by omega⟩
    unfold bsV
    split at e
    · rw [if_neg (by omega), if_pos rfl, if_pos (by omega)]; omega
    · omega
  rw [if_neg z0] at e
  by_cases z1 : d = 1
  · rw [if_pos z1] at e
    refine ⟨0, by omega, by omega, ?_, by omega⟩
    unfold bsV
    split at e
    · rw [if_pos rfl, if_pos (by omega)]; omega
    · omega
  rw [if_neg z1] at e
  by_cases z2 : d = 2
  · rw [if_pos z2] at e
    refine ⟨3, by omega, by omega, ?_, by omega⟩
    unfold bsV
    split at e
    · rw [if_neg (by omega), if_neg (by omega), if_neg (by omega), if_pos (by omega)]; omega
    · omega
  rw [if_neg z2] at e
  refine ⟨2, by omega, by omega, ?_, by omega⟩
  unfold bsV
  split at e
  · rw [if_neg (by omega), if_neg (by omega), if_pos rfl, if_pos (by omega)]; omega
  · omega
theorem wyE_in : ∀ n p w, wyE wd hi c n p w → inV wd hi p
  | 0, _, _, h => h.1
  | _ + 1, _, _, h => h.1
theorem wyF_in : ∀ n p w, wyF wd hi c f n p w → inV wd hi p
  | 0, _, _, h => h.1
  | _ + 1, _, _, h => h.1
theorem wyE_0 (hc : ∀ p, 0 ≤ c p) : ∀ n p w, wyE wd hi c n p w → c p ≤ w
  | 0, _, _, h => by have := h.2.2; omega
  | n + 1, p, w, h => by
    obtain ⟨-, p', -, h⟩ := h
    have := wyE_0 hc n _ _ h
    have := hc p'
    omega
theorem wyF_0 (hc : ∀ p, 0 ≤ c p) : ∀ n p w, wyF wd hi c f n p w → c p ≤ w
  | 0, _, _, h => by have := h.2.2; omega
  | n + 1, p, w, h => by
    obtain ⟨-, p', -, h⟩ := h
    have := wyF_0 hc n _ _ h
    have := hc p'
    omega
/-- a way there and a way on make a way -/
theorem wy_FE (a2 : wd ≤ 6) : ∀ (m : Nat) (p w1 : Int) (n : Nat) (w2 : Int), wyF wd hi c f m p w1 → wyE wd hi c n p w2 → ∃ n', wyE wd hi c n' f (w1 + w2 - c p)
  | 0, p, w1, n, w2, h1, h2 => by
    obtain ⟨-, e, e2⟩ := h1
    subst e
    exact ⟨n, by rw [show w1 + w2 - c p = w2 by omega]; exact h2⟩
  | m + 1, p, w1, n, w2, h1, h2 => by
    obtain ⟨hp, p', hb, h1⟩ := h1
    obtain ⟨hb', hp'⟩ := bsd_sym a2 hp hb
    have h3 : wyE wd hi c (n + 1) p' (w2 + c p') := ⟨hp', p, hb', by rw [show w2 + c p' - c p' = w2 by omega]; exact h2⟩
    obtain ⟨n', h4⟩ := wy_FE a2 m p' (w1 - c p) (n + 1) (w2 + c p') h1 h3
    exact ⟨n', by rw [show w1 + w2 - c p = w1 - c p + (w2 + c p') - c p' by omega]; exact h4⟩
theorem wy_EF (a2 : wd ≤ 6) : ∀ (n : Nat) (p w2 : Int) (m : Nat) (w1 : Int), wyE wd hi c n p w2 → wyF wd hi c f m p w1 → ∃ n' q, edg wd hi q ∧ wyF wd hi c f n' q (w1 + w2 - c p)
  | 0, p, w2, m, w1, h2, h1 => by
    obtain ⟨-, e, e2⟩ := h2
    exact ⟨m, p, e, by rw [show w1 + w2 - c p = w1 by omega]; exact h1⟩
  | n + 1, p, w2, m, w1, h2, h1 => by
    obtain ⟨hp, p', hb, h2⟩ := h2
    obtain ⟨hb', hp'⟩ := bsd_sym a2 hp hb
    have h3 : wyF wd hi c f (m + 1) p' (w1 + c p') := ⟨hp', p, hb', by rw [show w1 + c p' - c p' = w1 by omega]; exact h1⟩
    obtain ⟨n', q, he, h4⟩ := wy_EF a2 n p' (w2 - c p) (m + 1) (w1 + c p') h2 h3
    exact ⟨n', q, he, by rw [show w1 + w2 - c p = w1 + c p' + (w2 - c p) - c p' by omega]; exact h4⟩
/-- the edge is near -/
theorem wyE_ex (a2 : wd ≤ 6) (hc : ∀ p, 0 ≤ c p ∧ c p ≤ 1) : ∀ (n : Nat) (p : Int), inV wd hi p → p % 6 ≤ n → ∃ m w, wyE wd hi c m p w ∧ w ≤ n + 1
  | 0, p, hp, h => ⟨0, c p, ⟨hp, Or.inl (by unfold inV at hp; omega), rfl⟩, by have := hc p; omega⟩
  | n + 1, p, hp, h => by
    by_cases y : p % 6 = 0
    · exact ⟨0, c p, ⟨hp, Or.inl y, rfl⟩, by have := hc p; omega⟩
    · have hp' := hp
      unfold inV at hp'
      have hq : inV wd hi (p - 1) := by unfold inV; omega
      obtain ⟨m, w, h1, h2⟩ := wyE_ex a2 hc n (p - 1) hq (by omega)
      refine ⟨m + 1, w + c p, ⟨hp, p - 1, ⟨0, by omega, by omega, ?_, by omega⟩, by rw [show w + c p - c p = w by omega]; exact h1⟩, by have := hc p; omega⟩
      unfold bsV
      rw [if_pos rfl, if_pos (by omega)]
/-- both find the same -/
theorem wy_eq (a1 : 2 ≤ wd) (a2 : wd ≤ 6) (hc : ∀ p, 0 ≤ c p ∧ c p ≤ 1) (hf : inV wd hi f) {x y : Int} (hx : x = 1000 ∨ ∃ n, wyE wd hi c n f x) (hx2 : ∀ n w, wyE wd hi c n f w → x ≤ w) (hy : y = 99 ∨ ∃ n q, edg wd hi q ∧ wyF wd hi c f n q y) (hy2 : ∀ n q w, edg wd hi q → wyF wd hi c f n q w → y ≤ w) : x = y := by
  obtain ⟨m, w, h1, h2⟩ := wyE_ex (hi := hi) a2 hc 5 f hf (by unfold inV at hf; omega)
  have e1 := hx2 m w h1
  have hx3 : ∃ n, wyE wd hi c n f x := hx.resolve_left (by omega)
  obtain ⟨n, hn⟩ := hx3
  obtain ⟨n', q, he, hq⟩ := wy_EF a2 n f x 0 (c f) hn ⟨hf, rfl, rfl⟩
  have e2 := hy2 n' q _ he hq
  have hy3 := hy.resolve_left (by omega)
  obtain ⟨n3, q3, he3, hq3⟩ := hy3
  obtain ⟨n4, h4⟩ := wy_FE a2 n3 q3 y 0 (c q3) hq3 ⟨wyF_in n3 q3 y hq3, he3, rfl⟩
  have e3 := hx2 n4 _ h4
  omega
end WE
