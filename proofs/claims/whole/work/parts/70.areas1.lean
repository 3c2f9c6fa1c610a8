/-! areas: the search, told without memory -/
theorem k_aZ {β : Type} {M M' : Int → Int → Int} {G : GG} {a i v n : Int} {fh : Hp → Option β} {P : β → Prop} (e : G.1 a = 4) (el : G.2.1 a = n) (h0 : 0 ≤ i) (h1 : i < n) (h2 : i ≤ 2147483647) (hv : v = 0 ∨ v = 1) (q : sr M a (u1 (M a) i v) = M') (h : Ok (fh (M', G)) P) : Ok ((astZ (M, G) a i v).bind fh) P := by
  have e1 : iand v 1 = v := by rcases hv with rfl | rfl <;> decide
  unfold astZ
  rw [e1]
  exact k_ast e el h0 h1 h2 q h
def cn (f : Int → Int) : Nat → Nat
  | 0 => 0
  | n + 1 => cn f n + (if f (n : Int) = 0 then 0 else 1)
theorem cn_le {f : Int → Int} : ∀ n, cn f n ≤ n
  | 0 => Nat.le_refl _
  | n + 1 => by
    show cn f n + _ ≤ n + 1
    have := cn_le (f := f) n
    split <;> omega
theorem cn_o {f : Int → Int} {q : Int} : ∀ n : Nat, (n : Int) ≤ q → cn (u1 f q 1) n = cn f n
  | 0, _ => rfl
  | n + 1, h => by
    show cn (u1 f q 1) n + (if u1 f q 1 (n : Int) = 0 then 0 else 1) = cn f n + (if f (n : Int) = 0 then 0 else 1)
    rw [cn_o n (by omega), u1_k _ _ (by omega)]
theorem cn_up {f : Int → Int} {q : Int} (hf : f q = 0) (q0 : 0 ≤ q) : ∀ n : Nat, q < (n : Int) → cn (u1 f q 1) n = cn f n + 1
  | 0, h => by omega
  | n + 1, h => by
    show cn (u1 f q 1) n + (if u1 f q 1 (n : Int) = 0 then 0 else 1) = cn f n + (if f (n : Int) = 0 then 0 else 1) + 1
    by_cases y : q = (n : Int)
    · subst y
      rw [cn_o n (Int.le_refl _), u1_s, if_neg (by decide), if_pos hf]
    · rw [cn_up hf q0 n (by omega), u1_k _ _ (by omega)]
      omega
abbrev aS : Type := (Int → Int) × (Int → Int) × Int
/-- one side of a place looked at -/
def nb1 (wd hi p : Int) (s : aS) (d : Int) : aS := if bsV wd hi p d = -1 then s else if s.1 (bsV wd hi p d) = 0 then (u1 s.1 (bsV wd hi p d) 1, u1 s.2.1 s.2.2 (bsV wd hi p d), s.2.2 + 1) else s
def nbN (wd hi p : Int) (s : aS) : Nat → aS
  | 0 => s
  | d + 1 => nb1 wd hi p (nbN wd hi p s d) (d : Int)
def arN (wd hi : Int) (s : aS) : Nat → aS
  | 0 => s
  | i + 1 => if (i : Int) < (arN wd hi s i).2.2 then nbN wd hi ((arN wd hi s i).2.1 (i : Int)) (arN wd hi s i) 4 else arN wd hi s i
def arI (wd hi : Int) (s : aS) : Prop := (∀ k, 0 ≤ k → k < 36 → s.1 k = 0 ∨ s.1 k = 1) ∧ (∀ k, 0 ≤ k → k < s.2.2 → inV wd hi (s.2.1 k)) ∧ 1 ≤ s.2.2 ∧ s.2.2 ≤ (cn s.1 36 : Nat) ∧ ∀ k, ¬ inV wd hi k → 0 ≤ k → k < 36 → s.1 k = 1
section AR
variable {wd hi p : Int} {s : aS}
theorem inV_36 (a2 : wd ≤ 6) (b2 : hi ≤ 6) (h : inV wd hi p) : 0 ≤ p ∧ p < 36 := by unfold inV at h; omega
theorem arI.le (h : arI wd hi s) : s.2.2 ≤ 36 := by
  have h4 := h.2.2.2.1
  have := cn_le (f := s.1) 36
  omega
theorem arI.lt (h : arI wd hi s) {q : Int} (q0 : 0 ≤ q) (q1 : q < 36) (e : s.1 q = 0) : s.2.2 < 36 := by
  have h4 := h.2.2.2.1
  have h1 := cn_up e q0 36 q1
  have := cn_le (f := u1 s.1 q 1) 36
  omega
theorem nb1_I (a2 : wd ≤ 6) (b2 : hi ≤ 6) (hp : inV wd hi p) (h : arI wd hi s) {d : Int} : arI wd hi (nb1 wd hi p s d) := by
  unfold nb1
  by_cases c : bsV wd hi p d = -1
  · rw [if_pos c]; exact h
  rw [if_neg c]
  by_cases c2 : s.1 (bsV wd hi p d) = 0
  · rw [if_pos c2]
    have hq := (bsV_in (d := d) a2 hp).resolve_left c
    have hb := inV_36 a2 b2 hq
    generalize bsV wd hi p d = q at *
    obtain ⟨h1, h2, h3, h4, h5⟩ := h
    have hc := cn_up c2 hb.1 36 hb.2
    refine ⟨fun k k0 k1 => ?_, fun k k0 k1 => ?_, ?_, ?_, fun k hk k0 k1 => ?_⟩
    · show u1 s.1 q 1 k = 0 ∨ u1 s.1 q 1 k = 1
      by_cases y : k = q
      · rw [u1_e _ _ y]; exact Or.inr rfl
      · rw [u1_k _ _ y]; exact h1 k k0 k1
    · show inV wd hi (u1 s.2.1 s.2.2 q k)
      have k1 : k < s.2.2 + 1 := k1
      by_cases y : k = s.2.2
      · rw [u1_e _ _ y]; exact hq
      · rw [u1_k _ _ y]; exact h2 k k0 (by omega)
    · show 1 ≤ s.2.2 + 1
      omega
    · show s.2.2 + 1 ≤ (cn (u1 s.1 q 1) 36 : Nat)
      omega
    · show u1 s.1 q 1 k = 1
      by_cases y : k = q
      · rw [u1_e _ _ y]
      · rw [u1_k _ _ y]; exact h5 k hk k0 k1
  · rw [if_neg c2]; exact h
theorem nb1_q {d k : Int} (hk : k < s.2.2) : (nb1 wd hi p s d).2.1 k = s.2.1 k ∧ s.2.2 ≤ (nb1 wd hi p s d).2.2 := by
  unfold nb1
  by_cases c : bsV wd hi p d = -1
  · rw [if_pos c]; exact ⟨rfl, Int.le_refl _⟩
  rw [if_neg c]
  by_cases c2 : s.1 (bsV wd hi p d) = 0
  · rw [if_pos c2]
    exact ⟨by show u1 _ _ _ k = _; rw [u1_k _ _ (by omega)], by show s.2.2 ≤ s.2.2 + 1; omega⟩
  · rw [if_neg c2]; exact ⟨rfl, Int.le_refl _⟩
theorem nbN_I (a2 : wd ≤ 6) (b2 : hi ≤ 6) (hp : inV wd hi p) (h : arI wd hi s) : ∀ d, arI wd hi (nbN wd hi p s d)
  | 0 => h
  | d + 1 => nb1_I a2 b2 hp (nbN_I a2 b2 hp h d)
theorem nbN_q {k : Int} (hk : k < s.2.2) : ∀ d, (nbN wd hi p s d).2.1 k = s.2.1 k ∧ s.2.2 ≤ (nbN wd hi p s d).2.2
  | 0 => ⟨rfl, Int.le_refl _⟩
  | d + 1 => by
    have h := nbN_q hk d
    have h2 := nb1_q (wd := wd) (hi := hi) (p := p) (s := nbN wd hi p s d) (d := (d : Int)) (k := k) (by omega)
    exact ⟨h2.1.trans h.1, Int.le_trans h.2 h2.2⟩
theorem arN_I (a2 : wd ≤ 6) (b2 : hi ≤ 6) (h : arI wd hi s) : ∀ i, arI wd hi (arN wd hi s i)
  | 0 => h
  | i + 1 => by
    have ih := arN_I a2 b2 h i
    unfold arN
    by_cases c : (i : Int) < (arN wd hi s i).2.2
    · rw [if_pos c]; exact nbN_I a2 b2 (ih.2.1 i (by omega) c) ih 4
    · rw [if_neg c]; exact ih
theorem arN_s {i : Nat} (h : ¬ (i : Int) < (arN wd hi s i).2.2) : ∀ d, arN wd hi s (i + d) = arN wd hi s i
  | 0 => rfl
  | d + 1 => by
    have ih := arN_s h d
    show (if ((i + d : Nat) : Int) < (arN wd hi s (i + d)).2.2 then _ else arN wd hi s (i + d)) = _
    rw [ih, if_neg (by omega)]
theorem arN_36 {i : Nat} (hi36 : i ≤ 36) (h : ¬ (i : Int) < (arN wd hi s i).2.2) : arN wd hi s 36 = arN wd hi s i := by
  have := arN_s h (36 - i)
  rw [show i + (36 - i) = 36 by omega] at this
  exact this
end AR
abbrev vS : Type := (Int → Int) × (Int → Int) × Int × Int
def sv1 (wd hi : Int) (v : vS) (p : Int) : vS := if v.1 p = 0 then ((arN wd hi (u1 v.1 p 1, u1 v.2.1 0 p, 1) 36).1, (arN wd hi (u1 v.1 p 1, u1 v.2.1 0 p, 1) 36).2.1, v.2.2.1 + 1, if v.2.2.2 < (arN wd hi (u1 v.1 p 1, u1 v.2.1 0 p, 1) 36).2.2 then (arN wd hi (u1 v.1 p 1, u1 v.2.1 0 p, 1) 36).2.2 else v.2.2.2) else v
def svN (wd hi : Int) (v : vS) : Nat → vS
  | 0 => v
  | p + 1 => sv1 wd hi (svN wd hi v p) (p : Int)
def svI (wd hi : Int) (v : vS) (n : Nat) : Prop := (∀ k, 0 ≤ k → k < 36 → v.1 k = 0 ∨ v.1 k = 1) ∧ (∀ k, ¬ inV wd hi k → 0 ≤ k → k < 36 → v.1 k = 1) ∧ 0 ≤ v.2.2.1 ∧ v.2.2.1 ≤ n ∧ 0 ≤ v.2.2.2 ∧ v.2.2.2 ≤ 36
section SV
variable {wd hi p : Int} {v : vS} {n : Nat}
theorem svI.a (a2 : wd ≤ 6) (b2 : hi ≤ 6) (h : svI wd hi v n) (p0 : 0 ≤ p) (p1 : p < 36) (e : v.1 p = 0) : inV wd hi p ∧ arI wd hi (u1 v.1 p 1, u1 v.2.1 0 p, 1) := by
  obtain ⟨h1, h2, h3, h4, h5, h6⟩ := h
  have hin : inV wd hi p := by
    by_cases c : inV wd hi p
    · exact c
    · have := h2 p c p0 p1; omega
  have hc := cn_up e p0 36 p1
  refine ⟨hin, fun k k0 k1 => ?_, fun k k0 k1 => ?_, ?_, ?_, fun k hk k0 k1 => ?_⟩
  · show u1 v.1 p 1 k = 0 ∨ u1 v.1 p 1 k = 1
    by_cases y : k = p
    · rw [u1_e _ _ y]; exact Or.inr rfl
    · rw [u1_k _ _ y]; exact h1 k k0 k1
  · have k1 : k < 1 := k1
    show inV wd hi (u1 v.2.1 0 p k)
    rw [u1_e _ _ (by omega)]; exact hin
  · show (1 : Int) ≤ 1
    omega
  · show (1 : Int) ≤ (cn (u1 v.1 p 1) 36 : Nat)
    omega
  · show u1 v.1 p 1 k = 1
    by_cases y : k = p
    · rw [u1_e _ _ y]
    · rw [u1_k _ _ y]; exact h2 k hk k0 k1
theorem sv1_I (a2 : wd ≤ 6) (b2 : hi ≤ 6) (h : svI wd hi v n) (p0 : 0 ≤ p) (p1 : p < 36) : svI wd hi (sv1 wd hi v p) (n + 1) := by
  unfold sv1
  by_cases c : v.1 p = 0
  · rw [if_pos c]
    have ha := arN_I a2 b2 (h.a a2 b2 p0 p1 c).2 36
    have hl := ha.le
    have hl1 := ha.2.2.1
    generalize arN wd hi (u1 v.1 p 1, u1 v.2.1 0 p, 1) 36 = s at *
    obtain ⟨h1, h2, h3, h4, h5, h6⟩ := h
    refine ⟨ha.1, ha.2.2.2.2, ?_, ?_, ?_, ?_⟩
    · show 0 ≤ v.2.2.1 + 1; omega
    · show v.2.2.1 + 1 ≤ ((n + 1 : Nat) : Int); omega
    · show 0 ≤ if v.2.2.2 < s.2.2 then s.2.2 else v.2.2.2
      split <;> omega
    · show (if v.2.2.2 < s.2.2 then s.2.2 else v.2.2.2) ≤ 36
      split <;> omega
  · rw [if_neg c]
    obtain ⟨h1, h2, h3, h4, h5, h6⟩ := h
    exact ⟨h1, h2, h3, by omega, h5, h6⟩
theorem svN_I (a2 : wd ≤ 6) (b2 : hi ≤ 6) (h : svI wd hi v 0) : ∀ n : Nat, n ≤ 36 → svI wd hi (svN wd hi v n) n
  | 0, _ => h
  | n + 1, hn => sv1_I a2 b2 (svN_I a2 b2 h n (by omega)) (by omega) (by omega)
/-- places beyond the map are passed over -/
theorem svN_skip (a2 : wd ≤ 6) (b2 : hi ≤ 6) (h : svI wd hi v 0) (a : Nat) : ∀ d : Nat, a + d ≤ 36 → (∀ q : Nat, a ≤ q → q < a + d → ¬ inV wd hi (q : Int)) → svN wd hi v (a + d) = svN wd hi v a
  | 0, _, _ => rfl
  | d + 1, hd, hq => by
    have ih := svN_skip a2 b2 h a d (by omega) (fun q q0 q1 => hq q q0 (by omega))
    show sv1 wd hi (svN wd hi v (a + d)) ((a + d : Nat) : Int) = _
    unfold sv1
    have := (svN_I a2 b2 h (a + d) (by omega)).2.1 ((a + d : Nat) : Int) (hq (a + d) (by omega) (by omega)) (by omega) (by omega)
    rw [if_neg (by omega)]
    exact ih
/-- from one place of the map to the next -/
theorem svN_next (a1 : 2 ≤ wd) (a2 : wd ≤ 6) (b1 : 2 ≤ hi) (b2 : hi ≤ 6) (h : svI wd hi v 0) {q : Int} (q0 : 0 ≤ q) (q1 : q < wd * hi) : svN wd hi v (inn wd (q + 1)).toNat = sv1 wd hi (svN wd hi v (inn wd q).toNat) (inn wd q) := by
  have hin := inn_in a1 a2 b1 b2 q0 q1
  have hb := inV_36 a2 b2 hin
  have e1 : sv1 wd hi (svN wd hi v (inn wd q).toNat) (inn wd q) = svN wd hi v ((inn wd q).toNat + 1) := by
    show _ = sv1 wd hi (svN wd hi v (inn wd q).toNat) (((inn wd q).toNat : Nat) : Int)
    rw [show (((inn wd q).toNat : Nat) : Int) = inn wd q by omega]
  have hrc := rc_b a1 a2 b1 b2 q0 q1
  have hn : (inn wd q + 1 = inn wd (q + 1)) ∨ (q % wd = wd - 1 ∧ inn wd (q + 1) = 6 * (q / wd + 1)) := by
    unfold inn
    have : wd = 2 ∨ wd = 3 ∨ wd = 4 ∨ wd = 5 ∨ wd = 6 := by omega
    rcases this with rfl | rfl | rfl | rfl | rfl <;> omega
  rw [e1]
  rcases hn with e | ⟨e2, e3⟩
  · rw [show (inn wd (q + 1)).toNat = (inn wd q).toNat + 1 by omega]
  · have hi2 : inn wd q = 6 * (q / wd) + (wd - 1) := by unfold inn; rw [e2]
    have := svN_skip a2 b2 h ((inn wd q).toNat + 1) (6 - wd).toNat (by omega) (fun x x0 x1 => by unfold inV; omega)
    rw [← this]
    congr 1
    omega
/-- behind the last row -/
theorem svN_all (a1 : 2 ≤ wd) (a2 : wd ≤ 6) (b1 : 2 ≤ hi) (b2 : hi ≤ 6) (h : svI wd hi v 0) : svN wd hi v 36 = svN wd hi v (inn wd (wd * hi)).toNat := by
  have e : inn wd (wd * hi) = 6 * hi := by
    unfold inn
    rw [Int.mul_ediv_cancel_left _ (by omega), Int.mul_emod_right]
    omega
  have := svN_skip a2 b2 h (6 * hi).toNat (36 - (6 * hi).toNat) (by omega) (fun x x0 x1 => by unfold inV; omega)
  rw [show (6 * hi).toNat + (36 - (6 * hi).toNat) = 36 by omega] at this
  rw [this, e]
end SV
