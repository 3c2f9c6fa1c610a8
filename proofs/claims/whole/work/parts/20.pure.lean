/-! PHASE 2: pure rows -/
section PB
variable {β : Type} {h : Hp} {M : Int → Int → Int} {G : (Int → Nat) × (Int → Int) × Int} {t : Nat} {a k i v x : Int}
def um (M : Int → Int → Int) (a k v : Int) : Int → Int → Int := fun a' k' => if a' = a ∧ k' = k then v else M a' k'
theorem up_um : up (M, G) a k v = (um M a k v, G) := rfl
theorem um_s (M : Int → Int → Int) (a k v : Int) : um M a k v a k = v := by simp [um]
theorem um_a {a' : Int} (M : Int → Int → Int) (k v : Int) (ha : a' ≠ a) : um M a k v a' = M a' := by funext j; simp [um, ha]
theorem um_k {k' : Int} (M : Int → Int → Int) (a v : Int) (hk : k' ≠ k) : um M a k v a k' = M a k' := by simp [um, hk]
theorem um_at (M : Int → Int → Int) (a k v a' k' : Int) : um M a k v a' k' = if a' = a ∧ k' = k then v else M a' k' := rfl
theorem tk_ok {y : Option β} (e : G.1 a = t) : tk t (M, G) a y = y := if_pos e
theorem gf_ok (e : G.1 a = t) : gf t (M, G) a k = some (M a k) := if_pos e
theorem gro_ok (e : G.1 a = t) (e2 : 0 ≤ M a k) : gr t (M, G) a k = some (M a k) := if_pos ⟨e, e2⟩
theorem pf_ok (e : G.1 a = t) : pf t (M, G) a k v = some (um M a k v, G) := if_pos e
theorem pz_ok (e : G.1 a = t) (e2 : v = 0 ∨ v = 1) : pz t (M, G) a k v = some (um M a k v, G) := if_pos ⟨e, by rcases e2 with rfl | rfl <;> decide⟩
theorem rp_ok {o : Option Hp} {f : Hp → Option β} (e : 0 ≤ x) : rp x o f = o.bind f := if_pos e
theorem w32_id {x : Int} (h1 : -2147483648 ≤ x) (h2 : x ≤ 2147483647) : w32 x = x := w32_of h1 h2
theorem ald_ok (e : G.1 a = t) (h0 : 0 ≤ i) (h1 : i < G.2.1 a) (h2 : i ≤ 2147483647) : ald t (M, G) a i = some (M a i) := by
  have e1 : w32 i = i := w32_of (by omega) h2
  unfold ald; rw [e1]; exact if_pos ⟨e, h0, h1⟩
theorem aldR_ok (e : G.1 a = t) (h0 : 0 ≤ i) (h1 : i < G.2.1 a) (h2 : i ≤ 2147483647) (h3 : 0 ≤ M a i) : aldR t (M, G) a i = some (M a i) := by
  have e1 : w32 i = i := w32_of (by omega) h2
  unfold aldR; rw [e1]; exact if_pos ⟨e, h0, h1, h3⟩
theorem ast_ok (e : G.1 a = t) (h0 : 0 ≤ i) (h1 : i < G.2.1 a) (h2 : i ≤ 2147483647) : ast t (M, G) a i v = some (um M a i v, G) := by
  have e1 : w32 i = i := w32_of (by omega) h2
  unfold ast; rw [e1]; exact if_pos ⟨e, h0, h1⟩
theorem astR_ok {u : Nat} (e : G.1 a = t) (h0 : 0 ≤ i) (h1 : i < G.2.1 a) (h2 : i ≤ 2147483647) (h3 : G.1 v = u) : astR t u (M, G) a i v = some (um M a i v, G) := by
  have e1 : w32 i = i := w32_of (by omega) h2
  unfold astR; rw [e1]; exact if_pos ⟨e, h0, h1, h3⟩
theorem alen_ok (e : G.1 a = t) : alen t (M, G) a = some (G.2.1 a) := if_pos e
def cpm (M : Int → Int → Int) (a i a2 i2 n : Int) : Int → Int → Int := fun a' k' => if a' = a2 ∧ i2 ≤ k' ∧ k' < i2 + n then M a (i + (k' - i2)) else M a' k'
theorem cpy_ok {a2 i2 n : Int} (e : G.1 a = t) (e2 : G.1 a2 = t) (h0 : 0 ≤ i) (h1 : 0 ≤ i2) (h2 : 0 ≤ n) (h3 : i + n ≤ G.2.1 a) (h4 : i2 + n ≤ G.2.1 a2) (h5 : i ≤ 2147483647) (h6 : i2 ≤ 2147483647) (h7 : n ≤ 2147483647) : cpy t (M, G) a i a2 i2 n = some (cpm M a i a2 i2 n, G) := by
  have e1 : w32 i = i := w32_of (by omega) h5
  have e3 : w32 i2 = i2 := w32_of (by omega) h6
  have e4 : w32 n = n := w32_of (by omega) h7
  unfold cpy; rw [e1, e3, e4]; exact if_pos ⟨e, e2, h0, h1, h2, h3, h4⟩
theorem cpm_in {a2 i2 n : Int} (M : Int → Int → Int) (a i : Int) {k' : Int} (h1 : i2 ≤ k') (h2 : k' < i2 + n) : cpm M a i a2 i2 n a2 k' = M a (i + (k' - i2)) := if_pos ⟨rfl, h1, h2⟩
theorem cpm_a {a2 i2 n a' : Int} (M : Int → Int → Int) (a i : Int) (h : a' ≠ a2) : cpm M a i a2 i2 n a' = M a' := by funext j; simp [cpm, h]
theorem cpm_out {a2 i2 n : Int} (M : Int → Int → Int) (a i : Int) {k' : Int} (h : k' < i2 ∨ i2 + n ≤ k') : cpm M a i a2 i2 n a2 k' = M a2 k' := if_neg (by omega)
theorem bd_some {γ : Type} (h : Hp) (v : Int) (f : Hp → Int → Option γ) : bd (some (h, v)) f = f h v := rfl
theorem idv_ok {y : Int} (hx1 : -2147483648 ≤ x) (hx2 : x ≤ 2147483647) (hy1 : 1 ≤ y) (hy2 : y ≤ 2147483647) : idv x y = some (x.tdiv y) := by
  have e1 : w32 x = x := w32_of hx1 hx2
  have e2 : w32 y = y := w32_of (by omega) hy2
  unfold idv; rw [e1, e2]; exact if_neg (by omega)
theorem irm_ok {y : Int} (hx1 : -2147483648 ≤ x) (hx2 : x ≤ 2147483647) (hy1 : 1 ≤ y) (hy2 : y ≤ 2147483647) : irm x y = some (x.tmod y) := by
  have e1 : w32 x = x := w32_of hx1 hx2
  have e2 : w32 y = y := w32_of (by omega) hy2
  unfold irm; rw [e1, e2]; exact if_neg (by omega)
theorem idv_nn {y : Int} (hx1 : 0 ≤ x) (hx2 : x ≤ 2147483647) (hy1 : 1 ≤ y) (hy2 : y ≤ 2147483647) : idv x y = some (x / y) := by
  rw [idv_ok (by omega) hx2 hy1 hy2, Int.tdiv_eq_ediv_of_nonneg hx1]
theorem irm_nn {y : Int} (hx1 : 0 ≤ x) (hx2 : x ≤ 2147483647) (hy1 : 1 ≤ y) (hy2 : y ≤ 2147483647) : irm x y = some (x % y) := by
  rw [irm_ok (by omega) hx2 hy1 hy2, Int.tmod_eq_emod_of_nonneg hx1]
theorem zb1_ok {y : β} (e : v = 0 ∨ v = 1) : zb1 v y = some y := if_pos (by rcases e with rfl | rfl <;> decide)
end PB
theorem FU_big : 900000 ≤ FU := by decide
/-- a loop ends: by a number that falls -/
theorem wh_end {S T : Type} (body : S → Option (S ⊕ T)) (I : S → Prop) (μ : S → Nat) (P : T → Prop) (hs : ∀ s, I s → (∃ s', body s = some (.inl s') ∧ I s' ∧ μ s' < μ s) ∨ (∃ t, body s = some (.inr t) ∧ P t)) : ∀ (n : Nat) (s : S), I s → μ s < n → ∃ t, wh body n s = some t ∧ P t := by
  intro n
  induction n with
  | zero => intro s _ h; exact absurd h (Nat.not_lt_zero _)
  | succ n ih =>
    intro s hI hμ
    rcases hs s hI with ⟨s', e, hI', hlt⟩ | ⟨t, e, hP⟩
    · obtain ⟨t, ht, hP⟩ := ih s' hI' (by omega)
      refine ⟨t, ?_, hP⟩
      unfold wh
      rw [e]
      exact ht
    · refine ⟨t, ?_, hP⟩
      unfold wh
      rw [e]
      rfl
/-- worlds by value: wide, high, towns, cells, copied, errors, sown, gone -/
abbrev WV : Type := Int × Int × Int × (Int → Int) × (Int → Int) × (Int → Int) × Int × Int
def rg (n : Int) (f : Int → Int) : Int → Int := fun i => if 0 ≤ i ∧ i < n then f i else 0
theorem rg_in {n : Int} (f : Int → Int) {i : Int} (h0 : 0 ≤ i) (h1 : i < n) : rg n f i = f i := if_pos ⟨h0, h1⟩
theorem rg_ext {n : Int} {f g : Int → Int} (h : ∀ i, 0 ≤ i → i < n → f i = g i) : rg n f = rg n g := by
  funext i
  unfold rg
  split
  · rename_i q; exact h i q.1 q.2
  · rfl
def vW (M : Int → Int → Int) (w : Int) : WV := (M w 0, M w 1, M w 2, rg 216 (M (w + 1)), rg 6 (M (w + 2)), rg 24 (M (w + 3)), M w 6, M w 7)
/-- a World lies at w: its kinds, its rows -/
def gW (G : (Int → Nat) × (Int → Int) × Int) (w : Int) : Prop := 0 ≤ w ∧ G.1 w = 18 ∧ G.1 (w + 1) = 1 ∧ G.2.1 (w + 1) = 216 ∧ G.1 (w + 2) = 1 ∧ G.2.1 (w + 2) = 6 ∧ G.1 (w + 3) = 1 ∧ G.2.1 (w + 3) = 24
def mW (M : Int → Int → Int) (w : Int) : Prop := M w 3 = w + 1 ∧ M w 4 = w + 2 ∧ M w 5 = w + 3
theorem X8_places_ok {M G w} (hg : gW G w) : M_X8_places (M, G) w = some (M w 0 * M w 1) := by
  obtain ⟨g0, g1, g2⟩ := hg
  unfold M_X8_places
  simp only [tk_ok g1, gf_ok g1, Option.bind_some]
def holdsV (wd hi p : Int) : Int := if p % 6 < wd ∧ p / 6 < hi then 1 else 0
theorem X8_holds_ok {M G w p} (hg : gW G w) (h0 : 0 ≤ p) (h1 : p < 36) (b1 : 0 ≤ M w 0) (b2 : M w 0 ≤ 6) (b3 : 0 ≤ M w 1) (b4 : M w 1 ≤ 6) : M_X8_holds (M, G) w p = some (holdsV (M w 0) (M w 1) p) := by
  obtain ⟨g0, g1, g2⟩ := hg
  unfold M_X8_holds holdsV
  simp only [tk_ok g1, gf_ok g1, Option.bind_some]
  simp (disch := omega) only [irm_nn, idv_nn, Option.bind_some, w32_id]
  split <;> rename_i q
  · split <;> rename_i q2
    · rw [if_pos ⟨q, q2⟩]
    · rw [if_neg (fun z => q2 z.2)]
  · rw [if_neg (fun z => q z.1)]
