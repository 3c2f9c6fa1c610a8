/-! the class's Chain: the copies by which a map is made -/
/-- a chain is laid: the world at w, last n, begin b, from town t -/
def chL (M : Int → Int → Int) (w tw n b t : Int) : Prop := M 99 0 = w ∧ M 99 1 = n ∧ M 99 2 = b ∧ 0 ≤ b ∧ b ≤ n ∧ n ≤ 60 ∧ M 100 n = t ∧ (∀ s, b ≤ s → s ≤ n → 0 ≤ M 100 s ∧ M 100 s < tw) ∧ (∀ s, b < s → s ≤ n → M (w + 2) (M 100 s) = M 100 (s - 1)) ∧ (b = 0 ∨ M (w + 2) (M 100 b) < 0)
/-- its sneezes are drawn, in the first k rounds, and in the next one of the towns below j -/
def chD (M : Int → Int → Int) (wd hi tw s0 b n : Int) (er : Int → Int) (k : Nat) (j : Int) : Prop := (∀ i, -9 ≤ M 101 i ∧ M 101 i ≤ 99) ∧ ∀ s, b < s → s ≤ n → (s ≤ k ∨ s = k + 1 ∧ M 100 s < j) → er (4 * M 100 s) = 9 → M 101 s = drV wd hi tw er s0 (s - 1).toNat (M 100 s)
/-- the places wanted of the map of a step: as a row and as bits -/
def wS (M : Int → Int → Int) (wd hi s : Int) : Prop := M 104 s = cntB (M 105 s) 36 ∧ (∀ i, 0 ≤ i → i < M 104 s → inV wd hi (M 103 (36 * s + i)) ∧ bt (M 105 s) (M 103 (36 * s + i)) = true) ∧ ∀ p, 0 ≤ p → p < 36 → bt (M 105 s) p = true → ∃ i, 0 ≤ i ∧ i < M 104 s ∧ M 103 (36 * s + i) = p
/-- nothing else than the wants of step s has changed -/
def wF (M M' : Int → Int → Int) (s : Int) : Prop := (∀ a, a ≠ 103 → a ≠ 104 → a ≠ 105 → M' a = M a) ∧ (∀ r, r ≠ s → M' 104 r = M 104 r ∧ M' 105 r = M 105 r ∧ ∀ i, 0 ≤ i → i < 36 → M' 103 (36 * r + i) = M 103 (36 * r + i)) ∧ ∀ p, bt (M 105 s) p = true → bt (M' 105 s) p = true
theorem wF.refl (M : Int → Int → Int) (s : Int) : wF M M s := ⟨fun _ _ _ _ => rfl, fun _ _ => ⟨rfl, rfl, fun _ _ _ => rfl⟩, fun _ h => h⟩
theorem wF.trans {M M1 M2 : Int → Int → Int} {s : Int} (h : wF M M1 s) (k : wF M1 M2 s) : wF M M2 s := by
  refine ⟨fun a x y z => (k.1 a x y z).trans (h.1 a x y z), fun r hr => ?_, fun p hp => k.2.2 p (h.2.2 p hp)⟩
  obtain ⟨a1, a2, a3⟩ := h.2.1 r hr
  obtain ⟨c1, c2, c3⟩ := k.2.1 r hr
  exact ⟨c1.trans a1, c2.trans a2, fun i h0 h1 => (c3 i h0 h1).trans (a3 i h0 h1)⟩
theorem wS.cg {M M' : Int → Int → Int} {wd hi s r : Int} (h : wS M wd hi r) (hF : wF M M' s) (hr : r ≠ s) : wS M' wd hi r := by
  obtain ⟨a1, a2, a3⟩ := hF.2.1 r hr
  obtain ⟨h1, h2, h3⟩ := h
  have hb := cntB_b (M 105 r) 36
  unfold wS
  rw [a1, a2]
  refine ⟨h1, fun i i0 i1 => ?_, fun p p0 p1 hp => ?_⟩
  · rw [a3 i i0 (by omega)]; exact h2 i i0 i1
  · obtain ⟨i, i0, i1, e⟩ := h3 p p0 p1 hp
    exact ⟨i, i0, i1, by rw [a3 i i0 (by omega)]; exact e⟩
section CA
variable {M : Int → Int → Int} {G : GG} {w tw wd hi n b t s p mk : Int}
theorem X0_want_ok (hG : gAll G) (hp99 : pr99 (M 99)) (s0 : 0 ≤ s) (s1 : s ≤ 60) (hp : inV wd hi p) (a2 : wd ≤ 6) (b2 : hi ≤ 6) (hw : wS M wd hi s) : Ok (M_X0_want (M, G) 99 s p) (fun h => ∃ M1, h = (M1, G) ∧ wF M M1 s ∧ wS M1 wd hi s ∧ bt (M1 105 s) p = true) := by
  have k99 := gk_99 hG
  have k103 := gk_103 hG
  have l103 := gl_103 hG
  have k104 := gk_104 hG
  have l104 := gl_104 hG
  have k105 := gk_105 hG
  have l105 := gl_105 hG
  have p6 := pr99.p6 hp99
  have p7 := pr99.p7 hp99
  have p8 := pr99.p8 hp99
  have hp' := hp
  unfold inV at hp
  obtain ⟨p0, p1, p2⟩ := hp
  obtain ⟨h1, h2, h3⟩ := hw
  have hb := cntB_b (M 105 s) 36
  unfold M_X0_want
  repeat' (with_reducible first | refine k_gf (by first | assumption | omega) (by first | assumption | ((try simp (disch := omega) only [sr_s, sr_a, sr_sr, u1_s, u1_k, p6, p7, p8]); exact rfl)) ?_ | refine k_gr (by first | assumption | omega) (by first | assumption | ((try simp (disch := omega) only [sr_s, sr_a, sr_sr, u1_s, u1_k, p6, p7, p8]); exact rfl)) (by omega) ?_ | refine k_ald (by first | assumption | omega) (by first | assumption | exact rfl) (by omega) (by omega) (by omega) (by first | assumption | ((try simp (disch := omega) only [sr_s, sr_a, sr_sr, u1_s, u1_k, p6, p7, p8]); exact rfl)) ?_ | refine k_ifT (by first | (simp (disch := omega) only [w32_id]; first | done | omega) | omega) ?_ | refine k_ifF (by first | (simp (disch := omega) only [w32_id]; first | done | omega) | omega) ?_ | refine k_pf (by first | assumption | omega) (by (try simp (disch := omega) only [sr_s, sr_a, sr_sr, u1_u1, p6, p7, p8]); exact rfl) ?_ | refine k_ast (by first | assumption | omega) (by first | assumption | exact rfl) (by omega) (by omega) (by omega) (by (try simp (disch := omega) only [sr_s, sr_a, sr_sr, u1_u1, p6, p7, p8]); exact rfl) ?_ | refine k_irm (by omega) (by omega) (by omega) (by omega) ?_ | refine k_idv (by omega) (by omega) (by omega) (by omega) ?_ | refine k_tk (by first | assumption | omega) ?_ | refine k_rp (by omega) ?_ | refine k_aldR (by first | assumption | omega) (by first | assumption | exact rfl) (by omega) (by omega) (by omega) (by first | assumption | ((try simp (disch := omega) only [sr_s, sr_a, sr_sr, u1_s, u1_k, p6, p7, p8]); exact rfl)) (by omega) ?_ | refine k_astR (by first | assumption | omega) (by first | assumption | exact rfl) (by omega) (by omega) (by omega) (by first | assumption | omega) (by (try simp (disch := omega) only [sr_s, sr_a, sr_sr, u1_u1, p6, p7, p8]); exact rfl) ?_ | refine k_pz (by first | assumption | omega) (by omega) (by (try simp (disch := omega) only [sr_s, sr_a, sr_sr, u1_u1, p6, p7, p8]); exact rfl) ?_ | refine k_alen (by first | assumption | omega) (by first | assumption | exact rfl) ?_ | refine k_cpy (by first | assumption | omega) (by first | assumption | omega) (by first | assumption | exact rfl) (by first | assumption | exact rfl) (by omega) (by omega) (by omega) (by omega) (by omega) (by omega) (by omega) (by omega) (by (try simp (disch := omega) only [sr_s, sr_a, sr_sr, u1_u1, p6, p7, p8]); exact rfl) ?_)
  refine k_if (land_bt p0 (by omega)) (fun c => ?_) (fun c => ?_)
  · have hlt := cntB_lt p0 c 36 (by omega)
    repeat' (with_reducible first | refine k_gf (by first | assumption | omega) (by first | assumption | ((try simp (disch := omega) only [sr_s, sr_a, sr_sr, u1_s, u1_k, p6, p7, p8]); exact rfl)) ?_ | refine k_gr (by first | assumption | omega) (by first | assumption | ((try simp (disch := omega) only [sr_s, sr_a, sr_sr, u1_s, u1_k, p6, p7, p8]); exact rfl)) (by omega) ?_ | refine k_ald (by first | assumption | omega) (by first | assumption | exact rfl) (by omega) (by omega) (by omega) (by first | assumption | ((try simp (disch := omega) only [sr_s, sr_a, sr_sr, u1_s, u1_k, p6, p7, p8]); exact rfl)) ?_ | refine k_ifT (by first | (simp (disch := omega) only [w32_id]; first | done | omega) | omega) ?_ | refine k_ifF (by first | (simp (disch := omega) only [w32_id]; first | done | omega) | omega) ?_ | refine k_pf (by first | assumption | omega) (by (try simp (disch := omega) only [sr_s, sr_a, sr_sr, u1_u1, p6, p7, p8]); exact rfl) ?_ | refine k_ast (by first | assumption | omega) (by first | assumption | exact rfl) (by omega) (by omega) (by omega) (by (try simp (disch := omega) only [sr_s, sr_a, sr_sr, u1_u1, p6, p7, p8]); exact rfl) ?_ | refine k_irm (by omega) (by omega) (by omega) (by omega) ?_ | refine k_idv (by omega) (by omega) (by omega) (by omega) ?_ | refine k_tk (by first | assumption | omega) ?_ | refine k_rp (by omega) ?_ | refine k_aldR (by first | assumption | omega) (by first | assumption | exact rfl) (by omega) (by omega) (by omega) (by first | assumption | ((try simp (disch := omega) only [sr_s, sr_a, sr_sr, u1_s, u1_k, p6, p7, p8]); exact rfl)) (by omega) ?_ | refine k_astR (by first | assumption | omega) (by first | assumption | exact rfl) (by omega) (by omega) (by omega) (by first | assumption | omega) (by (try simp (disch := omega) only [sr_s, sr_a, sr_sr, u1_u1, p6, p7, p8]); exact rfl) ?_ | refine k_pz (by first | assumption | omega) (by omega) (by (try simp (disch := omega) only [sr_s, sr_a, sr_sr, u1_u1, p6, p7, p8]); exact rfl) ?_ | refine k_alen (by first | assumption | omega) (by first | assumption | exact rfl) ?_ | refine k_cpy (by first | assumption | omega) (by first | assumption | omega) (by first | assumption | exact rfl) (by first | assumption | exact rfl) (by omega) (by omega) (by omega) (by omega) (by omega) (by omega) (by omega) (by omega) (by (try simp (disch := omega) only [sr_s, sr_a, sr_sr, u1_u1, p6, p7, p8]); exact rfl) ?_)
    refine Ok.ret ⟨_, rfl, ⟨fun a x y z => ?_, fun r hr => ⟨?_, ?_, fun i i0 i1 => ?_⟩, fun q hq => ?_⟩, ⟨?_, fun i i0 i1 => ?_, fun q q0 q1 hq => ?_⟩, ?_⟩
    · simp (disch := first | assumption | omega) only [sr_s, sr_a, sr_sr]
    · simp (disch := omega) only [sr_s, sr_a, u1_k]
    · simp (disch := omega) only [sr_s, sr_a, u1_k]
    · simp (disch := omega) only [sr_s, sr_a, u1_k]
    · simp (disch := omega) only [sr_s, sr_a, u1_s]
      rw [bt_lor2, hq]; rfl
    · simp (disch := omega) only [sr_s, sr_a, u1_s]
      rw [cntB_lor p0 (by omega) c 36 (by omega), if_pos (by omega), h1]
    · simp (disch := omega) only [sr_s, sr_a, u1_s] at i1 ⊢
      by_cases e : i = M 104 s
      · rw [e, u1_s]
        refine ⟨hp', ?_⟩
        rw [bt_lor p0 (by omega) p0 (by omega)]; simp
      · rw [u1_k _ _ (by omega)]
        obtain ⟨c1, c2⟩ := h2 i i0 (by omega)
        exact ⟨c1, by rw [bt_lor2, c2]; rfl⟩
    · simp (disch := omega) only [sr_s, sr_a, u1_s] at hq ⊢
      rw [bt_lor p0 (by omega) q0 (by omega)] at hq
      by_cases e : q = p
      · exact ⟨M 104 s, by omega, by omega, by rw [u1_s, e]⟩
      · have hq2 : bt (M 105 s) q = true := by simpa [e] using hq
        obtain ⟨i, i0, i1, e2⟩ := h3 q q0 q1 hq2
        exact ⟨i, i0, by omega, by rw [u1_k _ _ (by omega)]; exact e2⟩
    · simp (disch := omega) only [sr_s, sr_a, u1_s]
      rw [bt_lor p0 (by omega) p0 (by omega)]; simp
  · refine Ok.ret ⟨_, rfl, wF.refl M s, ⟨h1, h2, h3⟩, ?_⟩
    simpa using c
/-- the loop of lay -/
theorem X0_layLoop (hG : gAll G) (hg : gW G w) (hz : w + 3 < 99 ∨ 123 < w) (m4 : M w 4 = w + 2) (hp99 : pr99 (M 99)) (w0 : M 99 0 = w) (w1 : M 99 1 = n) (w2 : M 99 2 = n) (n0 : 0 ≤ n) (n1 : n ≤ 60) (t0 : 0 ≤ t) (t1 : t < tw) (t6 : tw ≤ 6) (hn : M 100 n = t) (hc : M 104 n = 0) (hb : M 105 n = 0) (hco : ∀ i, -2 ≤ M (w + 2) i ∧ M (w + 2) i < tw) :
    Ok (wh (S := (Hp × Int)) (T := Hp) (fun a => M_X0_lay_b63 a.1 99 w a.2) FU ((M, G), n)) (fun h => ∃ M1, h = (M1, G) ∧ (∀ a, a ≠ 99 → a ≠ 100 → a ≠ 104 → a ≠ 105 → M1 a = M a) ∧ (∀ k, k ≠ 2 → M1 99 k = M 99 k) ∧ ∃ b, chL M1 w tw n b t ∧ ∀ s, b ≤ s → s ≤ n → M1 104 s = 0 ∧ M1 105 s = 0) := by
  have k99 := gk_99 hG
  have k100 := gk_100 hG
  have l100 := gl_100 hG
  have k104 := gk_104 hG
  have l104 := gl_104 hG
  have k105 := gk_105 hG
  have l105 := gl_105 hG
  obtain ⟨g0, g1, g2, g3, g4, g5, g6, g7⟩ := hg
  have hwc : ∀ i, w32 (M (w + 2) i) = M (w + 2) i := fun i => w32_id (by have := hco i; omega) (by have := hco i; omega)
  refine wh_for (fun i st => ∃ M1, st = ((M1, G), n - (i : Int)) ∧ (∀ a, a ≠ 99 → a ≠ 100 → a ≠ 104 → a ≠ 105 → M1 a = M a) ∧ (∀ k, k ≠ 2 → M1 99 k = M 99 k) ∧ M1 99 2 = n - (i : Int) ∧ M1 100 n = t ∧ (∀ s, n - (i : Int) ≤ s → s ≤ n → 0 ≤ M1 100 s ∧ M1 100 s < tw) ∧ (∀ s, n - (i : Int) < s → s ≤ n → M (w + 2) (M1 100 s) = M1 100 (s - 1)) ∧ ∀ s, n - (i : Int) ≤ s → s ≤ n → M1 104 s = 0 ∧ M1 105 s = 0) _ n.toNat (by omega) ?_ ?_ ?_
  · refine ⟨M, by rw [show n - ((0 : Nat) : Int) = n by omega], fun _ _ _ _ _ => rfl, fun _ _ => rfl, by omega, hn, ?_, ?_, ?_⟩
    · intro s x y; rw [show s = n by omega, hn]; omega
    · intro s x y; omega
    · intro s x y; rw [show s = n by omega]; exact ⟨hc, hb⟩
  · rintro i _ hi ⟨M1, rfl, f, f9, h2, hn1, ht, hch, hz1⟩
    dsimp only
    have hp := pr99.u hp99 (fun k hk => f9 k (by omega))
    have p3 := pr99.p3 hp
    have p7 := pr99.p7 hp
    have p8 := pr99.p8 hp
    have f4 : M1 w 4 = w + 2 := by rw [f w (by omega) (by omega) (by omega) (by omega)]; exact m4
    have f2 : M1 (w + 2) = M (w + 2) := f _ (by omega) (by omega) (by omega) (by omega)
    have hti := ht (n - i) (by omega) (by omega)
    have hcb := hco (M1 100 (n - i))
    unfold M_X0_lay_b63
    repeat' (with_reducible first | refine k_gf (by first | assumption | omega) (by first | assumption | ((try simp (disch := omega) only [sr_s, sr_a, sr_sr, u1_s, u1_k, p3, p7, p8, f4, f2]); exact rfl)) ?_ | refine k_gr (by first | assumption | omega) (by first | assumption | ((try simp (disch := omega) only [sr_s, sr_a, sr_sr, u1_s, u1_k, p3, p7, p8, f4, f2]); exact rfl)) (by omega) ?_ | refine k_ald (by first | assumption | omega) (by first | assumption | exact rfl) (by omega) (by omega) (by omega) (by first | assumption | ((try simp (disch := omega) only [sr_s, sr_a, sr_sr, u1_s, u1_k, p3, p7, p8, f4, f2]); exact rfl)) ?_ | refine k_ifT (by first | (simp (disch := omega) only [w32_id, hwc]; first | done | omega) | omega) ?_ | refine k_ifF (by first | (simp (disch := omega) only [w32_id, hwc]; first | done | omega) | omega) ?_ | refine k_pf (by first | assumption | omega) (by (try simp (disch := omega) only [sr_s, sr_a, sr_sr, u1_u1, p3, p7, p8, f4, f2]); exact rfl) ?_ | refine k_ast (by first | assumption | omega) (by first | assumption | exact rfl) (by omega) (by omega) (by omega) (by (try simp (disch := omega) only [sr_s, sr_a, sr_sr, u1_u1, p3, p7, p8, f4, f2]); exact rfl) ?_ | refine k_irm (by omega) (by omega) (by omega) (by omega) ?_ | refine k_idv (by omega) (by omega) (by omega) (by omega) ?_ | refine k_tk (by first | assumption | omega) ?_ | refine k_rp (by omega) ?_ | refine k_aldR (by first | assumption | omega) (by first | assumption | exact rfl) (by omega) (by omega) (by omega) (by first | assumption | ((try simp (disch := omega) only [sr_s, sr_a, sr_sr, u1_s, u1_k, p3, p7, p8, f4, f2]); exact rfl)) (by omega) ?_ | refine k_astR (by first | assumption | omega) (by first | assumption | exact rfl) (by omega) (by omega) (by omega) (by first | assumption | omega) (by (try simp (disch := omega) only [sr_s, sr_a, sr_sr, u1_u1, p3, p7, p8, f4, f2]); exact rfl) ?_ | refine k_pz (by first | assumption | omega) (by omega) (by (try simp (disch := omega) only [sr_s, sr_a, sr_sr, u1_u1, p3, p7, p8, f4, f2]); exact rfl) ?_ | refine k_alen (by first | assumption | omega) (by first | assumption | exact rfl) ?_ | refine k_cpy (by first | assumption | omega) (by first | assumption | omega) (by first | assumption | exact rfl) (by first | assumption | exact rfl) (by omega) (by omega) (by omega) (by omega) (by omega) (by omega) (by omega) (by omega) (by (try simp (disch := omega) only [sr_s, sr_a, sr_sr, u1_u1, p3, p7, p8, f4, f2]); exact rfl) ?_ | refine k_if (by (try simp (disch := omega) only [w32_id, hwc]); exact Iff.rfl) (fun c => ?_) (fun c => ?_))
    · refine Ok.ret ?_
      exact ⟨M1, rfl, f, f9, n - i, ⟨by rw [f9 0 (by omega)]; exact w0, by rw [f9 1 (by omega)]; exact w1, h2, by omega, by omega, n1, hn1, ht, fun s x y => by rw [f2]; exact hch s x y, Or.inr (by rw [f2]; assumption)⟩, hz1⟩
    · have hc0 : ¬ M (w + 2) (M1 100 (n - i)) < 0 := by assumption
      refine Ok.ret ⟨_, by rw [show n - ((i + 1 : Nat) : Int) = n - i + -1 by omega], ?_, ?_, ?_, ?_, ?_, ?_, ?_⟩
      · intro a x1 x2 x3 x4; simp (disch := first | assumption | omega) only [sr_s, sr_a, sr_sr]; exact f a x1 x2 x3 x4
      · intro k hk; simp (disch := omega) only [sr_s, sr_a, u1_k]; exact f9 k hk
      · simp (disch := omega) only [sr_s, sr_a, u1_s]; omega
      · simp (disch := omega) only [sr_s, sr_a, u1_k]; exact hn1
      · intro s x y; simp (disch := omega) only [sr_s, sr_a]
        by_cases e : s = n - i - 1
        · rw [e, u1_s]; omega
        · rw [u1_k _ _ e]; exact ht s (by omega) y
      · intro s x y; simp (disch := omega) only [sr_s, sr_a]
        rw [u1_k _ _ (show s ≠ n - i - 1 by omega)]
        by_cases e : s = n - i
        · rw [e, u1_s]
        · rw [u1_k _ _ (by omega)]; exact hch s (by omega) y
      · intro s x y; simp (disch := omega) only [sr_s, sr_a]
        by_cases e : s = n - i - 1
        · rw [e, u1_s, u1_s]; exact ⟨rfl, rfl⟩
        · rw [u1_k _ _ e, u1_k _ _ e]; exact hz1 s (by omega) y
  · rintro _ ⟨M1, rfl, f, f9, h2, hn1, ht, hch, hz1⟩
    dsimp only
    have f2 : M1 (w + 2) = M (w + 2) := f _ (by omega) (by omega) (by omega) (by omega)
    unfold M_X0_lay_b63
    repeat' (with_reducible first | refine k_gf (by first | assumption | omega) (by first | assumption | ((try simp (disch := omega) only [sr_s, sr_a, sr_sr, u1_s, u1_k]); exact rfl)) ?_ | refine k_gr (by first | assumption | omega) (by first | assumption | ((try simp (disch := omega) only [sr_s, sr_a, sr_sr, u1_s, u1_k]); exact rfl)) (by omega) ?_ | refine k_ald (by first | assumption | omega) (by first | assumption | exact rfl) (by omega) (by omega) (by omega) (by first | assumption | ((try simp (disch := omega) only [sr_s, sr_a, sr_sr, u1_s, u1_k]); exact rfl)) ?_ | refine k_ifT (by first | (simp (disch := omega) only [w32_id]; first | done | omega) | omega) ?_ | refine k_ifF (by first | (simp (disch := omega) only [w32_id]; first | done | omega) | omega) ?_ | refine k_pf (by first | assumption | omega) (by (try simp (disch := omega) only [sr_s, sr_a, sr_sr, u1_u1]); exact rfl) ?_ | refine k_ast (by first | assumption | omega) (by first | assumption | exact rfl) (by omega) (by omega) (by omega) (by (try simp (disch := omega) only [sr_s, sr_a, sr_sr, u1_u1]); exact rfl) ?_ | refine k_irm (by omega) (by omega) (by omega) (by omega) ?_ | refine k_idv (by omega) (by omega) (by omega) (by omega) ?_ | refine k_tk (by first | assumption | omega) ?_ | refine k_rp (by omega) ?_ | refine k_aldR (by first | assumption | omega) (by first | assumption | exact rfl) (by omega) (by omega) (by omega) (by first | assumption | ((try simp (disch := omega) only [sr_s, sr_a, sr_sr, u1_s, u1_k]); exact rfl)) (by omega) ?_ | refine k_astR (by first | assumption | omega) (by first | assumption | exact rfl) (by omega) (by omega) (by omega) (by first | assumption | omega) (by (try simp (disch := omega) only [sr_s, sr_a, sr_sr, u1_u1]); exact rfl) ?_ | refine k_pz (by first | assumption | omega) (by omega) (by (try simp (disch := omega) only [sr_s, sr_a, sr_sr, u1_u1]); exact rfl) ?_ | refine k_alen (by first | assumption | omega) (by first | assumption | exact rfl) ?_ | refine k_cpy (by first | assumption | omega) (by first | assumption | omega) (by first | assumption | exact rfl) (by first | assumption | exact rfl) (by omega) (by omega) (by omega) (by omega) (by omega) (by omega) (by omega) (by omega) (by (try simp (disch := omega) only [sr_s, sr_a, sr_sr, u1_u1]); exact rfl) ?_ | refine k_if (by (try simp (disch := omega) only [w32_id]); exact Iff.rfl) (fun c => ?_) (fun c => ?_))
    refine Ok.ret ?_
    exact ⟨M1, rfl, f, f9, 0, ⟨by rw [f9 0 (by omega)]; exact w0, by rw [f9 1 (by omega)]; exact w1, by omega, by omega, by omega, n1, hn1, fun s x y => ht s (by omega) y, fun s x y => by rw [f2]; exact hch s (by omega) y, Or.inl rfl⟩, fun s x y => hz1 s (by omega) y⟩
end CA
