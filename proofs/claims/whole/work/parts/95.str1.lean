/-! strokes: the class's open places, picks, trials -/
/-- a place's number, column by column -/
def kap (p : Int) : Int := 6 * (p % 6) + p / 6
/-- the places that ok holds of, those with numbers below k, column by column -/
def lsI (ok : Int → Prop) (op : Int → Int) (N k : Int) : Prop := 0 ≤ N ∧ N ≤ k ∧ (∀ i, 0 ≤ i → i < N → 0 ≤ op i ∧ op i < 36 ∧ ok (op i) ∧ kap (op i) < k) ∧ (∀ i j, 0 ≤ i → i < j → j < N → kap (op i) < kap (op j)) ∧ ∀ p, 0 ≤ p → p < 36 → ok p → kap p < k → ∃ i, 0 ≤ i ∧ i < N ∧ op i = p
theorem lsI_0 (ok : Int → Prop) (op : Int → Int) : lsI ok op 0 0 := ⟨by omega, by omega, fun i i0 i1 => by omega, fun i j i0 i1 i2 => by omega, fun p p0 p1 _ hk => by unfold kap at hk; omega⟩
theorem kap_inj {p q : Int} (p0 : 0 ≤ p) (p1 : p < 36) (q0 : 0 ≤ q) (q1 : q < 36) (h : kap p = kap q) : p = q := by unfold kap at h; omega
theorem lsI_no {ok : Int → Prop} {op : Int → Int} {N k p : Int} (h : lsI ok op N k) (p0 : 0 ≤ p) (p1 : p < 36) (hk : kap p = k) (hn : ¬ ok p) : lsI ok op N (k + 1) := by
  obtain ⟨h1, h2, h3, h4, h5⟩ := h
  refine ⟨h1, by omega, fun i i0 i1 => ?_, h4, fun q q0 q1 hq hqk => ?_⟩
  · obtain ⟨x1, x2, x3, x4⟩ := h3 i i0 i1
    exact ⟨x1, x2, x3, by omega⟩
  · by_cases y : kap q = k
    · have := kap_inj q0 q1 p0 p1 (by omega)
      subst this
      exact absurd hq hn
    · exact h5 q q0 q1 hq (by omega)
theorem lsI_up {ok : Int → Prop} {op : Int → Int} {N k p : Int} (h : lsI ok op N k) (p0 : 0 ≤ p) (p1 : p < 36) (hk : kap p = k) (hn : ok p) : lsI ok (u1 op N p) (N + 1) (k + 1) := by
  obtain ⟨h1, h2, h3, h4, h5⟩ := h
  refine ⟨by omega, by omega, fun i i0 i1 => ?_, fun i j i0 i1 i2 => ?_, fun q q0 q1 hq hqk => ?_⟩
  · by_cases y : i = N
    · rw [u1_e _ _ y]; exact ⟨p0, p1, hn, by omega⟩
    · rw [u1_k _ _ y]
      obtain ⟨x1, x2, x3, x4⟩ := h3 i i0 (by omega)
      exact ⟨x1, x2, x3, by omega⟩
  · rw [u1_k _ _ (by omega : i ≠ N)]
    by_cases y : j = N
    · rw [u1_e _ _ y, hk]
      exact (h3 i i0 (by omega)).2.2.2
    · rw [u1_k _ _ y]; exact h4 i j i0 i1 (by omega)
  · by_cases y : kap q = k
    · have := kap_inj q0 q1 p0 p1 (by omega)
      exact ⟨N, by omega, by omega, by rw [u1_s]; exact this.symm⟩
    · obtain ⟨i, i0, i1, e⟩ := h5 q q0 q1 hq (by omega)
      exact ⟨i, i0, by omega, by rw [u1_k _ _ (by omega)]; exact e⟩
theorem lsI_cg {ok : Int → Prop} {op op' : Int → Int} {N k : Int} (h : lsI ok op N k) (e : ∀ i, 0 ≤ i → i < N → op' i = op i) : lsI ok op' N k := by
  obtain ⟨h1, h2, h3, h4, h5⟩ := h
  refine ⟨h1, h2, fun i i0 i1 => by rw [e i i0 i1]; exact h3 i i0 i1, fun i j i0 i1 i2 => by rw [e i i0 (by omega), e j (by omega) i2]; exact h4 i j i0 i1 i2, fun p p0 p1 hp hk => ?_⟩
  obtain ⟨i, i0, i1, x⟩ := h5 p p0 p1 hp hk
  exact ⟨i, i0, i1, by rw [e i i0 i1]; exact x⟩
section S5
variable {M M1 : Int → Int → Int} {G : GG} {mk n b t q mark : Int}
/-- an open place: it matters, and isn't drawn so already -/
def okO (M : Int → Int → Int) (b mark : Int) (p : Int) : Prop := bt (M 105 b) p = true ∧ M 25 (36 * M 100 b + p) ≠ mark
theorem chF_fr (h : chF M G 24 mk n b t) (f : ∀ a, a < 106 → M1 a = M a) : chF M1 G 24 mk n b t := by
  refine ⟨chP_fr h.1 f, fun s s0 s1 => ?_⟩
  have := h.2 s s0 s1
  unfold chV at *
  rw [f 105 (by omega), f 102 (by omega), f 100 (by omega), bhM_cgw (M := M) (M1 := M1) (w := 24) (fun a ha => f a (by omega))]
  exact this
theorem X6_listOpen_ok (hF : chF M G 24 mk n b t) (hmk : mk ≤ 6) (hp106 : pr106 (M 106)) (m0 : 0 ≤ mark) (m1 : mark < mk) : Ok (M_X6_listOpen (M, G) 106 mark) (fun h => ∃ M1 N, h = (M1, G) ∧ (∀ a, a ≠ 106 → a ≠ 107 → M1 a = M a) ∧ (∀ k, k ≠ 3 → M1 106 k = M 106 k) ∧ M1 106 3 = N ∧ lsI (okO M b mark) (M1 107) N 36) := by
  have hF' := hF
  obtain ⟨⟨⟨hG, ⟨hp99, hd, hmp⟩, ⟨hg, hm, hwf, hw99⟩, -⟩, -⟩, -⟩ := hF
  have hce : ∀ i, 0 ≤ M 25 i ∧ M 25 i < mk := hwf.2.2.2.2.2.2.2.2.2.2.2.2.2.2
  have k106 := gk_106 hG
  have k107 := gk_107 hG
  have l107 := gl_107 hG
  unfold M_X6_listOpen
  repeat' (with_reducible first | refine k_gf (by first | assumption | omega) (by first | assumption | ((try simp (disch := omega) only [sr_s, sr_a, sr_sr, u1_s, u1_k]); exact rfl)) ?_ | refine k_gr (by first | assumption | omega) (by first | assumption | ((try simp (disch := omega) only [sr_s, sr_a, sr_sr, u1_s, u1_k]); exact rfl)) (by omega) ?_ | refine k_ald (by first | assumption | omega) (by first | assumption | exact rfl) (by omega) (by omega) (by omega) (by first | assumption | ((try simp (disch := omega) only [sr_s, sr_a, sr_sr, u1_s, u1_k]); exact rfl)) ?_ | refine k_ifT (by first | (simp (disch := omega) only [w32_id]; first | done | omega) | omega) ?_ | refine k_ifF (by first | (simp (disch := omega) only [w32_id]; first | done | omega) | omega) ?_ | refine k_pf (by first | assumption | omega) (by (try simp (disch := omega) only [sr_s, sr_a, sr_sr, u1_u1]); exact rfl) ?_ | refine k_ast (by first | assumption | omega) (by first | assumption | exact rfl) (by omega) (by omega) (by omega) (by (try simp (disch := omega) only [sr_s, sr_a, sr_sr, u1_u1]); exact rfl) ?_ | refine k_irm (by omega) (by omega) (by omega) (by omega) ?_ | refine k_idv (by omega) (by omega) (by omega) (by omega) ?_ | refine k_tk (by first | assumption | omega) ?_ | refine k_rp (by omega) ?_ | refine k_aldR (by first | assumption | omega) (by first | assumption | exact rfl) (by omega) (by omega) (by omega) (by first | assumption | ((try simp (disch := omega) only [sr_s, sr_a, sr_sr, u1_s, u1_k]); exact rfl)) (by omega) ?_ | refine k_astR (by first | assumption | omega) (by first | assumption | exact rfl) (by omega) (by omega) (by omega) (by first | assumption | omega) (by (try simp (disch := omega) only [sr_s, sr_a, sr_sr, u1_u1]); exact rfl) ?_ | refine k_pz (by first | assumption | omega) (by omega) (by (try simp (disch := omega) only [sr_s, sr_a, sr_sr, u1_u1]); exact rfl) ?_ | refine k_alen (by first | assumption | omega) (by first | assumption | exact rfl) ?_ | refine k_cpy (by first | assumption | omega) (by first | assumption | omega) (by first | assumption | exact rfl) (by first | assumption | exact rfl) (by omega) (by omega) (by omega) (by omega) (by omega) (by omega) (by omega) (by omega) (by (try simp (disch := omega) only [sr_s, sr_a, sr_sr, u1_u1]); exact rfl) ?_)
  unfold M_X6_listOpen_w7 M_X6_listOpen_p87
  refine Ok.bind (Q := fun h => ∃ M1 N, h = (M1, G) ∧ (∀ a, a ≠ 106 → a ≠ 107 → M1 a = M a) ∧ (∀ k, k ≠ 3 → M1 106 k = M 106 k) ∧ M1 106 3 = N ∧ lsI (okO M b mark) (M1 107) N 36) ?_ (fun x hx => Ok.ret hx)
  refine wh_for (fun i z => ∃ M1 N, z = ((M1, G), (i : Int)) ∧ (∀ a, a ≠ 106 → a ≠ 107 → M1 a = M a) ∧ (∀ k, k ≠ 3 → M1 106 k = M 106 k) ∧ M1 106 3 = N ∧ lsI (okO M b mark) (M1 107) N (6 * (i : Int))) _ 6 (by omega) ⟨_, 0, rfl, fun a h1 h2 => sr_a _ _ h1, fun k hk => by rw [sr_s, u1_k _ _ hk], by rw [sr_s, u1_s], lsI_0 _ _⟩ ?_ ?_
  · rintro i _ hi ⟨M1, N, rfl, f, f2, e3, hL⟩
    unfold M_X6_listOpen_b7 M_X6_listOpen_w15 M_X6_listOpen_p81
    dsimp only
    refine k_ifT (by rw [w32_id (by omega) (by omega)]; omega) ?_
    refine Ok.bind (Q := fun h => ∃ M2 N2, h = (M2, G) ∧ (∀ a, a ≠ 106 → a ≠ 107 → M2 a = M a) ∧ (∀ k, k ≠ 3 → M2 106 k = M 106 k) ∧ M2 106 3 = N2 ∧ lsI (okO M b mark) (M2 107) N2 (6 * (i : Int) + 6)) ?_ ?_
    · refine wh_for (fun j z => ∃ M2 N2, z = ((M2, G), (j : Int)) ∧ (∀ a, a ≠ 106 → a ≠ 107 → M2 a = M a) ∧ (∀ k, k ≠ 3 → M2 106 k = M 106 k) ∧ M2 106 3 = N2 ∧ lsI (okO M b mark) (M2 107) N2 (6 * (i : Int) + j)) _ 6 (by omega) ⟨M1, N, rfl, f, f2, e3, by rw [show 6 * (i : Int) + ((0 : Nat) : Int) = 6 * i by omega]; exact hL⟩ ?_ ?_
      · rintro j _ hj ⟨M2, N2, rfl, g, g2, q3, hL2⟩
        have q0 : M2 106 0 = 99 := by rw [g2 0 (by omega)]; exact pr106.p0 hp106
        have q2 : M2 106 2 = 107 := by rw [g2 2 (by omega)]; exact pr106.p2 hp106
        have hF2 : chF M2 G 24 mk n b t := chF_fr hF' (fun a ha => g a (by omega) (by omega))
        have hma := X0_matters_ok hF2 (p := 6 * (j : Int) + i) (by omega) (by omega)
        have hbm := X0_beginMark_ok hF2 (p := 6 * (j : Int) + i) (by omega) (by omega)
        have hbm : M_X0_beginMark (M2, G) 99 (6 * (j : Int) + i) = some (M2 25 (36 * M2 100 b + (6 * (j : Int) + i))) := hbm
        rw [g 105 (by omega) (by omega)] at hma
        rw [g 25 (by omega) (by omega), g 100 (by omega) (by omega)] at hbm
        have hcv := hce (36 * M 100 b + (6 * (j : Int) + i))
        have hkap : kap (6 * (j : Int) + i) = 6 * (i : Int) + j := by unfold kap; omega
        have hN2 := hL2.1
        have hN2b := hL2.2.1
        unfold M_X6_listOpen_b15 M_X6_listOpen_p75
        dsimp only
        by_cases y : bt (M 105 b) (6 * (j : Int) + i) = true
        · rw [if_pos y] at hma
          by_cases y2 : M 25 (36 * M 100 b + (6 * (j : Int) + i)) = mark
          · have hno : ¬ okO M b mark (6 * (j : Int) + i) := fun z => z.2 y2
            repeat' (with_reducible first | refine k_gf (by first | assumption | omega) (by first | assumption | ((try simp (disch := omega) only [sr_s, sr_a, sr_sr, u1_s, u1_k, q0, q2, q3]); exact rfl)) ?_ | refine k_gr (by first | assumption | omega) (by first | assumption | ((try simp (disch := omega) only [sr_s, sr_a, sr_sr, u1_s, u1_k, q0, q2, q3]); exact rfl)) (by omega) ?_ | refine k_ald (by first | assumption | omega) (by first | assumption | exact rfl) (by omega) (by omega) (by omega) (by first | assumption | ((try simp (disch := omega) only [sr_s, sr_a, sr_sr, u1_s, u1_k, q0, q2, q3]); exact rfl)) ?_ | refine k_eq (hma) ?_ | refine k_eq (hbm) ?_ | refine k_ifT (by first | (simp (disch := omega) only [w32_id]; first | done | omega) | omega) ?_ | refine k_ifF (by first | (simp (disch := omega) only [w32_id]; first | done | omega) | omega) ?_ | refine k_pf (by first | assumption | omega) (by (try simp (disch := omega) only [sr_s, sr_a, sr_sr, u1_u1, q0, q2, q3]); exact rfl) ?_ | refine k_ast (by first | assumption | omega) (by first | assumption | exact rfl) (by omega) (by omega) (by omega) (by (try simp (disch := omega) only [sr_s, sr_a, sr_sr, u1_u1, q0, q2, q3]); exact rfl) ?_ | refine k_irm (by omega) (by omega) (by omega) (by omega) ?_ | refine k_idv (by omega) (by omega) (by omega) (by omega) ?_ | refine k_tk (by first | assumption | omega) ?_ | refine k_rp (by omega) ?_ | refine k_aldR (by first | assumption | omega) (by first | assumption | exact rfl) (by omega) (by omega) (by omega) (by first | assumption | ((try simp (disch := omega) only [sr_s, sr_a, sr_sr, u1_s, u1_k, q0, q2, q3]); exact rfl)) (by omega) ?_ | refine k_astR (by first | assumption | omega) (by first | assumption | exact rfl) (by omega) (by omega) (by omega) (by first | assumption | omega) (by (try simp (disch := omega) only [sr_s, sr_a, sr_sr, u1_u1, q0, q2, q3]); exact rfl) ?_ | refine k_pz (by first | assumption | omega) (by omega) (by (try simp (disch := omega) only [sr_s, sr_a, sr_sr, u1_u1, q0, q2, q3]); exact rfl) ?_ | refine k_alen (by first | assumption | omega) (by first | assumption | exact rfl) ?_ | refine k_cpy (by first | assumption | omega) (by first | assumption | omega) (by first | assumption | exact rfl) (by first | assumption | exact rfl) (by omega) (by omega) (by omega) (by omega) (by omega) (by omega) (by omega) (by omega) (by (try simp (disch := omega) only [sr_s, sr_a, sr_sr, u1_u1, q0, q2, q3]); exact rfl) ?_)
            refine Ok.ret ⟨M2, N2, rfl, g, g2, q3, ?_⟩
            have := lsI_no hL2 (by omega) (by omega) hkap hno
            rw [show 6 * (i : Int) + ((j + 1 : Nat) : Int) = 6 * i + j + 1 by omega]
            exact this
          · have hyes : okO M b mark (6 * (j : Int) + i) := ⟨y, y2⟩
            repeat' (with_reducible first | refine k_gf (by first | assumption | omega) (by first | assumption | ((try simp (disch := omega) only [sr_s, sr_a, sr_sr, u1_s, u1_k, q0, q2, q3]); exact rfl)) ?_ | refine k_gr (by first | assumption | omega) (by first | assumption | ((try simp (disch := omega) only [sr_s, sr_a, sr_sr, u1_s, u1_k, q0, q2, q3]); exact rfl)) (by omega) ?_ | refine k_ald (by first | assumption | omega) (by first | assumption | exact rfl) (by omega) (by omega) (by omega) (by first | assumption | ((try simp (disch := omega) only [sr_s, sr_a, sr_sr, u1_s, u1_k, q0, q2, q3]); exact rfl)) ?_ | refine k_eq (hma) ?_ | refine k_eq (hbm) ?_ | refine k_ifT (by first | (simp (disch := omega) only [w32_id]; first | done | omega) | omega) ?_ | refine k_ifF (by first | (simp (disch := omega) only [w32_id]; first | done | omega) | omega) ?_ | refine k_pf (by first | assumption | omega) (by (try simp (disch := omega) only [sr_s, sr_a, sr_sr, u1_u1, q0, q2, q3]); exact rfl) ?_ | refine k_ast (by first | assumption | omega) (by first | assumption | exact rfl) (by omega) (by omega) (by omega) (by (try simp (disch := omega) only [sr_s, sr_a, sr_sr, u1_u1, q0, q2, q3]); exact rfl) ?_ | refine k_irm (by omega) (by omega) (by omega) (by omega) ?_ | refine k_idv (by omega) (by omega) (by omega) (by omega) ?_ | refine k_tk (by first | assumption | omega) ?_ | refine k_rp (by omega) ?_ | refine k_aldR (by first | assumption | omega) (by first | assumption | exact rfl) (by omega) (by omega) (by omega) (by first | assumption | ((try simp (disch := omega) only [sr_s, sr_a, sr_sr, u1_s, u1_k, q0, q2, q3]); exact rfl)) (by omega) ?_ | refine k_astR (by first | assumption | omega) (by first | assumption | exact rfl) (by omega) (by omega) (by omega) (by first | assumption | omega) (by (try simp (disch := omega) only [sr_s, sr_a, sr_sr, u1_u1, q0, q2, q3]); exact rfl) ?_ | refine k_pz (by first | assumption | omega) (by omega) (by (try simp (disch := omega) only [sr_s, sr_a, sr_sr, u1_u1, q0, q2, q3]); exact rfl) ?_ | refine k_alen (by first | assumption | omega) (by first | assumption | exact rfl) ?_ | refine k_cpy (by first | assumption | omega) (by first | assumption | omega) (by first | assumption | exact rfl) (by first | assumption | exact rfl) (by omega) (by omega) (by omega) (by omega) (by omega) (by omega) (by omega) (by omega) (by (try simp (disch := omega) only [sr_s, sr_a, sr_sr, u1_u1, q0, q2, q3]); exact rfl) ?_)
            refine Ok.ret ⟨_, N2 + 1, rfl, fun a h1 h2 => by rw [sr_a _ _ h1, sr_a _ _ h2]; exact g a h1 h2, fun k hk => by rw [sr_s, u1_k _ _ hk]; exact g2 k hk, by rw [sr_s, u1_s], ?_⟩
            have := lsI_up hL2 (by omega) (by omega) hkap hyes
            rw [sr_a _ _ (by omega), sr_s, show 6 * (i : Int) + ((j + 1 : Nat) : Int) = 6 * i + j + 1 by omega]
            exact this
        · rw [if_neg y] at hma
          have hno : ¬ okO M b mark (6 * (j : Int) + i) := fun z => y z.1
          repeat' (with_reducible first | refine k_gf (by first | assumption | omega) (by first | assumption | ((try simp (disch := omega) only [sr_s, sr_a, sr_sr, u1_s, u1_k, q0, q2, q3]); exact rfl)) ?_ | refine k_gr (by first | assumption | omega) (by first | assumption | ((try simp (disch := omega) only [sr_s, sr_a, sr_sr, u1_s, u1_k, q0, q2, q3]); exact rfl)) (by omega) ?_ | refine k_ald (by first | assumption | omega) (by first | assumption | exact rfl) (by omega) (by omega) (by omega) (by first | assumption | ((try simp (disch := omega) only [sr_s, sr_a, sr_sr, u1_s, u1_k, q0, q2, q3]); exact rfl)) ?_ | refine k_eq (hma) ?_ | refine k_ifT (by first | (simp (disch := omega) only [w32_id]; first | done | omega) | omega) ?_ | refine k_ifF (by first | (simp (disch := omega) only [w32_id]; first | done | omega) | omega) ?_ | refine k_pf (by first | assumption | omega) (by (try simp (disch := omega) only [sr_s, sr_a, sr_sr, u1_u1, q0, q2, q3]); exact rfl) ?_ | refine k_ast (by first | assumption | omega) (by first | assumption | exact rfl) (by omega) (by omega) (by omega) (by (try simp (disch := omega) only [sr_s, sr_a, sr_sr, u1_u1, q0, q2, q3]); exact rfl) ?_ | refine k_irm (by omega) (by omega) (by omega) (by omega) ?_ | refine k_idv (by omega) (by omega) (by omega) (by omega) ?_ | refine k_tk (by first | assumption | omega) ?_ | refine k_rp (by omega) ?_ | refine k_aldR (by first | assumption | omega) (by first | assumption | exact rfl) (by omega) (by omega) (by omega) (by first | assumption | ((try simp (disch := omega) only [sr_s, sr_a, sr_sr, u1_s, u1_k, q0, q2, q3]); exact rfl)) (by omega) ?_ | refine k_astR (by first | assumption | omega) (by first | assumption | exact rfl) (by omega) (by omega) (by omega) (by first | assumption | omega) (by (try simp (disch := omega) only [sr_s, sr_a, sr_sr, u1_u1, q0, q2, q3]); exact rfl) ?_ | refine k_pz (by first | assumption | omega) (by omega) (by (try simp (disch := omega) only [sr_s, sr_a, sr_sr, u1_u1, q0, q2, q3]); exact rfl) ?_ | refine k_alen (by first | assumption | omega) (by first | assumption | exact rfl) ?_ | refine k_cpy (by first | assumption | omega) (by first | assumption | omega) (by first | assumption | exact rfl) (by first | assumption | exact rfl) (by omega) (by omega) (by omega) (by omega) (by omega) (by omega) (by omega) (by omega) (by (try simp (disch := omega) only [sr_s, sr_a, sr_sr, u1_u1, q0, q2, q3]); exact rfl) ?_)
          refine Ok.ret ⟨M2, N2, rfl, g, g2, q3, ?_⟩
          have := lsI_no hL2 (by omega) (by omega) hkap hno
          rw [show 6 * (i : Int) + ((j + 1 : Nat) : Int) = 6 * i + j + 1 by omega]
          exact this
      · rintro _ ⟨M2, N2, rfl, g, g2, q3, hL2⟩
        unfold M_X6_listOpen_b15
        dsimp only
        exact k_ifF (by decide) (Ok.ret ⟨M2, N2, rfl, g, g2, q3, hL2⟩)
    · rintro _ ⟨M2, N2, rfl, g, g2, q3, hL2⟩
      refine Ok.ret ⟨M2, N2, rfl, g, g2, q3, ?_⟩
      rw [show 6 * ((i + 1 : Nat) : Int) = 6 * i + 6 by omega]
      exact hL2
  · rintro _ ⟨M1, N, rfl, f, f2, e3, hL⟩
    unfold M_X6_listOpen_b7
    dsimp only
    exact k_ifF (by decide) (Ok.ret ⟨M1, N, rfl, f, f2, e3, hL⟩)
theorem X6_next_ok {L m : Int} (hG : gAll G) (hp106 : pr106 (M 106)) (hL : M 106 3 = L) (l0 : 0 ≤ L) (l36 : L ≤ 36) (hm : 1 ≤ m ∧ m ≤ 3) (hf : ∀ k, 0 ≤ k → k < m → 0 ≤ M 109 k ∧ M 109 k ≤ 36) : Ok (M_X6_goToNextPick (M, G) 106 m) (fun z => ∃ M1, (∀ a, a ≠ 109 → M1 a = M a) ∧ (z = ((M1, G), 1) ∧ nxP (M 109) (M1 109) L m ∨ z = ((M1, G), 0) ∧ M1 = M ∧ ∀ k, 0 ≤ k → k < m → ¬ M 109 k < L - m + k)) := by
  have k106 := gk_106 hG
  have k109 := gk_109 hG
  have l109 := gl_109 hG
  have p5 := pr106.p5 hp106
  unfold M_X6_goToNextPick M_X6_goToNextPick_w4
  refine k_tk k106 ?_
  have hlo : Ok (wh (S := Int) (T := (Unit ⊕ (Hp × Int))) (fun a => M_X6_goToNextPick_b4 (M, G) 106 m a) FU (m - 1)) (lo (fun _ => ∀ k, 0 ≤ k → k < m → ¬ M 109 k < L - m + k) (fun z => ∃ M1, z = ((M1, G), 1) ∧ (∀ a, a ≠ 109 → M1 a = M a) ∧ nxP (M 109) (M1 109) L m)) := by
    refine wh_for (fun i s => s = m - 1 - (i : Int) ∧ ∀ k, m - 1 - (i : Int) < k → k < m → ¬ M 109 k < L - m + k) _ m.toNat (by omega) ⟨by omega, fun k k0 k1 => by omega⟩ ?_ ?_
    · rintro i _ hi ⟨rfl, hx⟩
      have hfj := hf (m - 1 - (i : Int)) (by omega) (by omega)
      unfold M_X6_goToNextPick_b4
      refine k_ifF (by rw [w32_id (by omega) (by omega)]; omega) ?_
      generalize hJ : m - 1 - (i : Int) = J at *
      by_cases y : M 109 J < L - m + J
      · repeat' (with_reducible first | refine k_gf (by first | assumption | omega) (by first | assumption | ((try simp (disch := omega) only [sr_s, sr_a, sr_sr, u1_s, u1_k, p5, hL]); exact rfl)) ?_ | refine k_gr (by first | assumption | omega) (by first | assumption | ((try simp (disch := omega) only [sr_s, sr_a, sr_sr, u1_s, u1_k, p5, hL]); exact rfl)) (by omega) ?_ | refine k_ald (by first | assumption | omega) (by first | assumption | exact rfl) (by omega) (by omega) (by omega) (by first | assumption | ((try simp (disch := omega) only [sr_s, sr_a, sr_sr, u1_s, u1_k, p5, hL]); exact rfl)) ?_ | refine k_ifT (by first | (simp (disch := omega) only [w32_id]; first | done | omega) | omega) ?_ | refine k_ifF (by first | (simp (disch := omega) only [w32_id]; first | done | omega) | omega) ?_ | refine k_pf (by first | assumption | omega) (by (try simp (disch := omega) only [sr_s, sr_a, sr_sr, u1_u1, p5, hL]); exact rfl) ?_ | refine k_ast (by first | assumption | omega) (by first | assumption | exact rfl) (by omega) (by omega) (by omega) (by (try simp (disch := omega) only [sr_s, sr_a, sr_sr, u1_u1, p5, hL]); exact rfl) ?_ | refine k_irm (by omega) (by omega) (by omega) (by omega) ?_ | refine k_idv (by omega) (by omega) (by omega) (by omega) ?_ | refine k_tk (by first | assumption | omega) ?_ | refine k_rp (by omega) ?_ | refine k_aldR (by first | assumption | omega) (by first | assumption | exact rfl) (by omega) (by omega) (by omega) (by first | assumption | ((try simp (disch := omega) only [sr_s, sr_a, sr_sr, u1_s, u1_k, p5, hL]); exact rfl)) (by omega) ?_ | refine k_astR (by first | assumption | omega) (by first | assumption | exact rfl) (by omega) (by omega) (by omega) (by first | assumption | omega) (by (try simp (disch := omega) only [sr_s, sr_a, sr_sr, u1_u1, p5, hL]); exact rfl) ?_ | refine k_pz (by first | assumption | omega) (by omega) (by (try simp (disch := omega) only [sr_s, sr_a, sr_sr, u1_u1, p5, hL]); exact rfl) ?_ | refine k_alen (by first | assumption | omega) (by first | assumption | exact rfl) ?_ | refine k_cpy (by first | assumption | omega) (by first | assumption | omega) (by first | assumption | exact rfl) (by first | assumption | exact rfl) (by omega) (by omega) (by omega) (by omega) (by omega) (by omega) (by omega) (by omega) (by (try simp (disch := omega) only [sr_s, sr_a, sr_sr, u1_u1, p5, hL]); exact rfl) ?_)
        generalize hN : sr M 109 (u1 (M 109) J (M 109 J + 1)) = N
        have n : ∀ a, a ≠ 109 → N a = M a := fun a ha => by rw [← hN, sr_a _ _ ha]
        have n109 : N 109 = u1 (M 109) J (M 109 J + 1) := by rw [← hN, sr_s]
        clear hN
        unfold M_X6_goToNextPick_w39 M_X6_goToNextPick_p66
        refine Ok.bind (Q := fun h => ∃ M1, h = (M1, G) ∧ (∀ a, a ≠ 109 → M1 a = M a) ∧ ∀ k, 0 ≤ k → k < m → M1 109 k = if k < J then M 109 k else M 109 J + 1 + (k - J)) ?_ ?_
        · refine wh_for (fun d z => ∃ M1, z = ((M1, G), J + 1 + (d : Int)) ∧ (∀ a, a ≠ 109 → M1 a = M a) ∧ ∀ k, 0 ≤ k → k < J + 1 + (d : Int) → M1 109 k = if k < J then M 109 k else M 109 J + 1 + (k - J)) _ (m - 1 - J).toNat (by omega) ⟨N, by rw [show J + 1 + ((0 : Nat) : Int) = J + 1 by omega], n, fun k k0 k1 => ?_⟩ ?_ ?_
          · rw [n109]
            by_cases z : k = J
            · rw [u1_e _ _ z, if_neg (by omega), z]; omega
            · rw [u1_k _ _ z, if_pos (by omega)]
          · rintro d _ hd ⟨M1, rfl, f, hv⟩
            have q5 : M1 106 5 = 109 := by rw [f 106 (by omega)]; exact p5
            have hv1 := hv (J + 1 + (d : Int) - 1) (by omega) (by omega)
            rw [if_neg (by omega)] at hv1
            unfold M_X6_goToNextPick_b39
            dsimp only
            repeat' (with_reducible first | refine k_gf (by first | assumption | omega) (by first | assumption | ((try simp (disch := omega) only [sr_s, sr_a, sr_sr, u1_s, u1_k, q5, hv1]); exact rfl)) ?_ | refine k_gr (by first | assumption | omega) (by first | assumption | ((try simp (disch := omega) only [sr_s, sr_a, sr_sr, u1_s, u1_k, q5, hv1]); exact rfl)) (by omega) ?_ | refine k_ald (by first | assumption | omega) (by first | assumption | exact rfl) (by omega) (by omega) (by omega) (by first | assumption | ((try simp (disch := omega) only [sr_s, sr_a, sr_sr, u1_s, u1_k, q5, hv1]); exact rfl)) ?_ | refine k_ifT (by first | (simp (disch := omega) only [w32_id]; first | done | omega) | omega) ?_ | refine k_ifF (by first | (simp (disch := omega) only [w32_id]; first | done | omega) | omega) ?_ | refine k_pf (by first | assumption | omega) (by (try simp (disch := omega) only [sr_s, sr_a, sr_sr, u1_u1, q5, hv1]); exact rfl) ?_ | refine k_ast (by first | assumption | omega) (by first | assumption | exact rfl) (by omega) (by omega) (by omega) (by (try simp (disch := omega) only [sr_s, sr_a, sr_sr, u1_u1, q5, hv1]); exact rfl) ?_ | refine k_irm (by omega) (by omega) (by omega) (by omega) ?_ | refine k_idv (by omega) (by omega) (by omega) (by omega) ?_ | refine k_tk (by first | assumption | omega) ?_ | refine k_rp (by omega) ?_ | refine k_aldR (by first | assumption | omega) (by first | assumption | exact rfl) (by omega) (by omega) (by omega) (by first | assumption | ((try simp (disch := omega) only [sr_s, sr_a, sr_sr, u1_s, u1_k, q5, hv1]); exact rfl)) (by omega) ?_ | refine k_astR (by first | assumption | omega) (by first | assumption | exact rfl) (by omega) (by omega) (by omega) (by first | assumption | omega) (by (try simp (disch := omega) only [sr_s, sr_a, sr_sr, u1_u1, q5, hv1]); exact rfl) ?_ | refine k_pz (by first | assumption | omega) (by omega) (by (try simp (disch := omega) only [sr_s, sr_a, sr_sr, u1_u1, q5, hv1]); exact rfl) ?_ | refine k_alen (by first | assumption | omega) (by first | assumption | exact rfl) ?_ | refine k_cpy (by first | assumption | omega) (by first | assumption | omega) (by first | assumption | exact rfl) (by first | assumption | exact rfl) (by omega) (by omega) (by omega) (by omega) (by omega) (by omega) (by omega) (by omega) (by (try simp (disch := omega) only [sr_s, sr_a, sr_sr, u1_u1, q5, hv1]); exact rfl) ?_)
            refine Ok.ret ⟨_, by rw [show J + 1 + ((d + 1 : Nat) : Int) = J + 1 + d + 1 by omega], fun a ha => by rw [sr_a _ _ ha]; exact f a ha, fun k k0 k1 => ?_⟩
            rw [sr_s]
            by_cases z : k = J + 1 + (d : Int)
            · rw [u1_e _ _ z, if_neg (by omega), z]; omega
            · rw [u1_k _ _ z]; exact hv k k0 (by omega)
          · rintro _ ⟨M1, rfl, f, hv⟩
            unfold M_X6_goToNextPick_b39
            dsimp only
            refine k_ifF (by rw [w32_id (by omega) (by omega), w32_id (by omega) (by omega)]; omega) (Ok.ret ⟨M1, rfl, f, fun k k0 k1 => hv k k0 (by omega)⟩)
        · rintro _ ⟨M1, rfl, f, hv⟩
          exact Ok.ret ⟨M1, rfl, f, J, by omega, by omega, y, fun k k0 k1 => hx k k0 k1, hv⟩
      · repeat' (with_reducible first | refine k_gf (by first | assumption | omega) (by first | assumption | ((try simp (disch := omega) only [sr_s, sr_a, sr_sr, u1_s, u1_k, p5, hL]); exact rfl)) ?_ | refine k_gr (by first | assumption | omega) (by first | assumption | ((try simp (disch := omega) only [sr_s, sr_a, sr_sr, u1_s, u1_k, p5, hL]); exact rfl)) (by omega) ?_ | refine k_ald (by first | assumption | omega) (by first | assumption | exact rfl) (by omega) (by omega) (by omega) (by first | assumption | ((try simp (disch := omega) only [sr_s, sr_a, sr_sr, u1_s, u1_k, p5, hL]); exact rfl)) ?_ | refine k_ifT (by first | (simp (disch := omega) only [w32_id]; first | done | omega) | omega) ?_ | refine k_ifF (by first | (simp (disch := omega) only [w32_id]; first | done | omega) | omega) ?_ | refine k_pf (by first | assumption | omega) (by (try simp (disch := omega) only [sr_s, sr_a, sr_sr, u1_u1, p5, hL]); exact rfl) ?_ | refine k_ast (by first | assumption | omega) (by first | assumption | exact rfl) (by omega) (by omega) (by omega) (by (try simp (disch := omega) only [sr_s, sr_a, sr_sr, u1_u1, p5, hL]); exact rfl) ?_ | refine k_irm (by omega) (by omega) (by omega) (by omega) ?_ | refine k_idv (by omega) (by omega) (by omega) (by omega) ?_ | refine k_tk (by first | assumption | omega) ?_ | refine k_rp (by omega) ?_ | refine k_aldR (by first | assumption | omega) (by first | assumption | exact rfl) (by omega) (by omega) (by omega) (by first | assumption | ((try simp (disch := omega) only [sr_s, sr_a, sr_sr, u1_s, u1_k, p5, hL]); exact rfl)) (by omega) ?_ | refine k_astR (by first | assumption | omega) (by first | assumption | exact rfl) (by omega) (by omega) (by omega) (by first | assumption | omega) (by (try simp (disch := omega) only [sr_s, sr_a, sr_sr, u1_u1, p5, hL]); exact rfl) ?_ | refine k_pz (by first | assumption | omega) (by omega) (by (try simp (disch := omega) only [sr_s, sr_a, sr_sr, u1_u1, p5, hL]); exact rfl) ?_ | refine k_alen (by first | assumption | omega) (by first | assumption | exact rfl) ?_ | refine k_cpy (by first | assumption | omega) (by first | assumption | omega) (by first | assumption | exact rfl) (by first | assumption | exact rfl) (by omega) (by omega) (by omega) (by omega) (by omega) (by omega) (by omega) (by omega) (by (try simp (disch := omega) only [sr_s, sr_a, sr_sr, u1_u1, p5, hL]); exact rfl) ?_)
        refine Ok.ret ⟨by omega, fun k k0 k1 => ?_⟩
        by_cases z : k = J
        · rw [z]; exact y
        · exact hx k (by omega) k1
    · rintro _ ⟨rfl, hx⟩
      unfold M_X6_goToNextPick_b4
      refine k_ifT (by rw [w32_id (by omega) (by omega)]; omega) (Ok.ret (fun k k0 k1 => hx k (by omega) k1))
  refine Ok.bind hlo ?_
  intro z hz
  cases z with
  | inl u =>
    rw [exi_l]
    unfold M_X6_goToNextPick_p74
    exact Ok.ret ⟨M, fun _ _ => rfl, Or.inr ⟨rfl, rfl, hz⟩⟩
  | inr q =>
    obtain ⟨M1, rfl, f, h⟩ := hz
    rw [exi_r]
    exact Ok.ret ⟨M1, f, Or.inl ⟨rfl, h⟩⟩
end S5
