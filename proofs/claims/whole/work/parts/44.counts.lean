/-! calls that count places: many, unlike, trueOnes -/
def ccnt (wd hi : Int) (f : Int → Bool) : Nat → Int
  | 0 => 0
  | p + 1 => ccnt wd hi f p + (if (p : Int) % 6 < wd ∧ (p : Int) / 6 < hi ∧ f (p : Int) = true then 1 else 0)
def rcnt (wd : Int) (f : Int → Bool) : Nat → Int
  | 0 => 0
  | q + 1 => rcnt wd f q + (if f (inn wd (q : Int)) = true then 1 else 0)
theorem ccnt_cg {wd hi : Int} {f g : Int → Bool} (h : ∀ p, inV wd hi p → f p = g p) : ∀ n, ccnt wd hi f n = ccnt wd hi g n
  | 0 => rfl
  | n + 1 => by
    show ccnt wd hi f n + _ = ccnt wd hi g n + _
    rw [ccnt_cg h n]
    by_cases c : (n : Int) % 6 < wd ∧ (n : Int) / 6 < hi
    · rw [h n ⟨by omega, c.1, c.2⟩]
    · rw [if_neg (fun z => c ⟨z.1, z.2.1⟩), if_neg (fun z => c ⟨z.1, z.2.1⟩)]
theorem rcnt_cg {wd hi : Int} {f g : Int → Bool} (a1 : 2 ≤ wd) (a2 : wd ≤ 6) (b1 : 2 ≤ hi) (b2 : hi ≤ 6) (h : ∀ p, inV wd hi p → f p = g p) : ∀ n : Nat, (n : Int) ≤ wd * hi → rcnt wd f n = rcnt wd g n
  | 0, _ => rfl
  | n + 1, hn => by
    show rcnt wd f n + _ = rcnt wd g n + _
    rw [rcnt_cg a1 a2 b1 b2 h n (by omega), h _ (inn_in a1 a2 b1 b2 (by omega) (by omega))]
theorem rcnt_not {wd : Int} {f : Int → Bool} : ∀ n : Nat, rcnt wd (fun p => !f p) n = n - rcnt wd f n
  | 0 => rfl
  | n + 1 => by
    show rcnt wd _ n + (if (!f (inn wd (n : Int))) = true then 1 else 0) = ((n + 1 : Nat) : Int) - (rcnt wd f n + (if f (inn wd (n : Int)) = true then 1 else 0))
    rw [rcnt_not n]
    by_cases hf : f (inn wd (n : Int)) = true
    · rw [if_pos hf, if_neg (by rw [hf]; decide)]; omega
    · rw [if_neg hf, if_pos (by simpa using hf)]; omega
theorem cnt_rows {wd hi : Int} {f : Int → Bool} (a1 : 2 ≤ wd) (a2 : wd ≤ 6) : ∀ r : Nat, (r : Int) ≤ hi → ccnt wd hi f (6 * r) = rcnt wd f (wd.toNat * r)
  | 0, _ => rfl
  | r + 1, hr => by
    have ih := cnt_rows (wd := wd) (hi := hi) (f := f) a1 a2 r (by omega)
    have e0 : ∀ c : Nat, c < 6 → (((6 * r + c : Nat) : Int) % 6 = c ∧ ((6 * r + c : Nat) : Int) / 6 = r) := fun c hc => by omega
    have hc : ccnt wd hi f (6 * (r + 1)) = ccnt wd hi f (6 * r) + (if (0 : Int) < wd ∧ f (6 * r : Nat) = true then 1 else 0) + (if (1 : Int) < wd ∧ f (6 * r + 1 : Nat) = true then 1 else 0) + (if (2 : Int) < wd ∧ f (6 * r + 2 : Nat) = true then 1 else 0) + (if (3 : Int) < wd ∧ f (6 * r + 3 : Nat) = true then 1 else 0) + (if (4 : Int) < wd ∧ f (6 * r + 4 : Nat) = true then 1 else 0) + (if (5 : Int) < wd ∧ f (6 * r + 5 : Nat) = true then 1 else 0) := by
      rw [show 6 * (r + 1) = 6 * r + 1 + 1 + 1 + 1 + 1 + 1 by omega]
      simp only [ccnt]
      have h0 := e0 0 (by omega)
      have h1 := e0 1 (by omega)
      have h2 := e0 2 (by omega)
      have h3 := e0 3 (by omega)
      have h4 := e0 4 (by omega)
      have h5 := e0 5 (by omega)
      have hrh : (r : Int) < hi := by omega
      rw [Nat.add_zero] at h0
      simp only [h0.1, h0.2, h1.1, h1.2, h2.1, h2.2, h3.1, h3.2, h4.1, h4.2, h5.1, h5.2, hrh, true_and]
      rfl
    have hin : ∀ w c : Nat, 2 ≤ w → w ≤ 6 → c < w → inn (w : Int) ((w * r + c : Nat) : Int) = ((6 * r + c : Nat) : Int) := fun w c w1 w2 hc => by
      have : w = 2 ∨ w = 3 ∨ w = 4 ∨ w = 5 ∨ w = 6 := by omega
      unfold inn
      rcases this with rfl | rfl | rfl | rfl | rfl <;> omega
    rw [hc, ih]
    have hw : wd = 2 ∨ wd = 3 ∨ wd = 4 ∨ wd = 5 ∨ wd = 6 := by omega
    rcases hw with rfl | rfl | rfl | rfl | rfl
    · have h0 := hin 2 0 (by omega) (by omega) (by omega)
      have h1 := hin 2 1 (by omega) (by omega) (by omega)
      show _ = rcnt 2 f (2 * r + 1 + 1)
      simp only [rcnt]
      simp only [Nat.add_zero] at h0
      have h0' : inn 2 ((2 * r : Nat) : Int) = ((6 * r : Nat) : Int) := h0
      have h1' : inn 2 ((2 * r + 1 : Nat) : Int) = ((6 * r + 1 : Nat) : Int) := h1
      rw [h0', h1']
      simp
    · have h0 : inn 3 ((3 * r : Nat) : Int) = ((6 * r : Nat) : Int) := hin 3 0 (by omega) (by omega) (by omega)
      have h1 : inn 3 ((3 * r + 1 : Nat) : Int) = ((6 * r + 1 : Nat) : Int) := hin 3 1 (by omega) (by omega) (by omega)
      have h2 : inn 3 ((3 * r + 2 : Nat) : Int) = ((6 * r + 2 : Nat) : Int) := hin 3 2 (by omega) (by omega) (by omega)
      show _ = rcnt 3 f (3 * r + 1 + 1 + 1)
      simp only [rcnt]
      rw [h0, h1, h2]
      simp
    · have h0 : inn 4 ((4 * r : Nat) : Int) = ((6 * r : Nat) : Int) := hin 4 0 (by omega) (by omega) (by omega)
      have h1 : inn 4 ((4 * r + 1 : Nat) : Int) = ((6 * r + 1 : Nat) : Int) := hin 4 1 (by omega) (by omega) (by omega)
      have h2 : inn 4 ((4 * r + 2 : Nat) : Int) = ((6 * r + 2 : Nat) : Int) := hin 4 2 (by omega) (by omega) (by omega)
      have h3 : inn 4 ((4 * r + 3 : Nat) : Int) = ((6 * r + 3 : Nat) : Int) := hin 4 3 (by omega) (by omega) (by omega)
      show _ = rcnt 4 f (4 * r + 1 + 1 + 1 + 1)
      simp only [rcnt]
      rw [h0, h1, h2, h3]
      simp
    · have h0 : inn 5 ((5 * r : Nat) : Int) = ((6 * r : Nat) : Int) := hin 5 0 (by omega) (by omega) (by omega)
      have h1 : inn 5 ((5 * r + 1 : Nat) : Int) = ((6 * r + 1 : Nat) : Int) := hin 5 1 (by omega) (by omega) (by omega)
      have h2 : inn 5 ((5 * r + 2 : Nat) : Int) = ((6 * r + 2 : Nat) : Int) := hin 5 2 (by omega) (by omega) (by omega)
      have h3 : inn 5 ((5 * r + 3 : Nat) : Int) = ((6 * r + 3 : Nat) : Int) := hin 5 3 (by omega) (by omega) (by omega)
      have h4 : inn 5 ((5 * r + 4 : Nat) : Int) = ((6 * r + 4 : Nat) : Int) := hin 5 4 (by omega) (by omega) (by omega)
      show _ = rcnt 5 f (5 * r + 1 + 1 + 1 + 1 + 1)
      simp only [rcnt]
      rw [h0, h1, h2, h3, h4]
      simp
    · have h0 : inn 6 ((6 * r : Nat) : Int) = ((6 * r : Nat) : Int) := hin 6 0 (by omega) (by omega) (by omega)
      have h1 : inn 6 ((6 * r + 1 : Nat) : Int) = ((6 * r + 1 : Nat) : Int) := hin 6 1 (by omega) (by omega) (by omega)
      have h2 : inn 6 ((6 * r + 2 : Nat) : Int) = ((6 * r + 2 : Nat) : Int) := hin 6 2 (by omega) (by omega) (by omega)
      have h3 : inn 6 ((6 * r + 3 : Nat) : Int) = ((6 * r + 3 : Nat) : Int) := hin 6 3 (by omega) (by omega) (by omega)
      have h4 : inn 6 ((6 * r + 4 : Nat) : Int) = ((6 * r + 4 : Nat) : Int) := hin 6 4 (by omega) (by omega) (by omega)
      have h5 : inn 6 ((6 * r + 5 : Nat) : Int) = ((6 * r + 5 : Nat) : Int) := hin 6 5 (by omega) (by omega) (by omega)
      show _ = rcnt 6 f (6 * r + 1 + 1 + 1 + 1 + 1 + 1)
      simp only [rcnt]
      rw [h0, h1, h2, h3, h4, h5]
      simp
theorem ccnt_rest {wd hi : Int} {f : Int → Bool} (n : Nat) (h : 6 * hi ≤ n) : ∀ d : Nat, ccnt wd hi f (n + d) = ccnt wd hi f n
  | 0 => rfl
  | d + 1 => by
    show ccnt wd hi f (n + d) + (if ((n + d : Nat) : Int) % 6 < wd ∧ ((n + d : Nat) : Int) / 6 < hi ∧ f ((n + d : Nat) : Int) = true then 1 else 0) = _
    rw [ccnt_rest n h d, if_neg (by omega)]
    omega
theorem cnt_eq {wd hi : Int} {f : Int → Bool} (a1 : 2 ≤ wd) (a2 : wd ≤ 6) (b1 : 2 ≤ hi) (b2 : hi ≤ 6) : ccnt wd hi f 36 = rcnt wd f (wd * hi).toNat := by
  have h1 := cnt_rows (wd := wd) (hi := hi) (f := f) a1 a2 hi.toNat (by omega)
  have h2 := ccnt_rest (wd := wd) (hi := hi) (f := f) (6 * hi.toNat) (by omega) (36 - 6 * hi.toNat)
  rw [show 6 * hi.toNat + (36 - 6 * hi.toNat) = 36 by omega] at h2
  rw [h2, h1]
  congr 1
  have : wd = 2 ∨ wd = 3 ∨ wd = 4 ∨ wd = 5 ∨ wd = 6 := by omega
  have e2 : Int.toNat 2 = 2 := rfl
  have e3 : Int.toNat 3 = 3 := rfl
  have e4 : Int.toNat 4 = 4 := rfl
  have e5 : Int.toNat 5 = 5 := rfl
  have e6 : Int.toNat 6 = 6 := rfl
  rcases this with rfl | rfl | rfl | rfl | rfl
  · rw [e2]; omega
  · rw [e3]; omega
  · rw [e4]; omega
  · rw [e5]; omega
  · rw [e6]; omega
section CT
variable {M M1 : Int → Int → Int} {G : GG} {td r rg t p n k v x : Int}
/-- the class counts over a map in row ma against what g says -/
theorem X9_many_loop (hG : gAll G) (hp0 : pr0 (M 0)) (b1 : 0 ≤ M 24 0) (b2 : M 24 0 ≤ 6) (b3 : 0 ≤ M 24 1) (b4 : M 24 1 ≤ 6) (hb : ∀ i, 0 ≤ M 122 i ∧ M 122 i ≤ 9) (hk : 0 ≤ k ∧ k < 100) : wh (S := (Int × Int)) (T := Int) (fun a => M_X9_many_b60 (M, G) 0 k a.1 a.2) FU (0, 0) = some (ccnt (M 24 0) (M 24 1) (fun p => decide (M 122 p = k)) 36) := by
  have k0 := gk_0 hG
  have k122 := gk_122 hG
  have l122 := gl_122 hG
  have p4 := pr0.p4 hp0
  have p12 := pr0.p12 hp0
  have hg := gW_24 hG
  have hw : ∀ i, w32 (M 122 i) = M 122 i := fun i => w32_id (by have := hb i; omega) (by have := hb i; omega)
  refine wh_st (fun i => (ccnt (M 24 0) (M 24 1) (fun p => decide (M 122 p = k)) i, (i : Int))) 36 (by omega) rfl ?_ ?_
  · intro i hi
    refine Ok.eq ?_
    unfold M_X9_many_b60 M_X9_many_p93
    dsimp only
    have hh := X8_holds_ok (M := M) (p := i) hg (by omega) (by omega) b1 b2 b3 b4
    unfold holdsV at hh
    by_cases y : (i : Int) % 6 < M 24 0 ∧ (i : Int) / 6 < M 24 1
    · rw [if_pos y] at hh
      repeat' (with_reducible first | refine k_gf (by first | assumption | omega) (by first | assumption | ((try simp (disch := omega) only [sr_s, sr_a, sr_sr, u1_s, u1_k, p4, p12]); exact rfl)) ?_ | refine k_gr (by first | assumption | omega) (by first | assumption | ((try simp (disch := omega) only [sr_s, sr_a, sr_sr, u1_s, u1_k, p4, p12]); exact rfl)) (by omega) ?_ | refine k_ald (by first | assumption | omega) (by first | assumption | exact rfl) (by omega) (by omega) (by omega) (by first | assumption | ((try simp (disch := omega) only [sr_s, sr_a, sr_sr, u1_s, u1_k, p4, p12]); exact rfl)) ?_ | refine k_eq (hh) ?_ | refine k_ifT (by first | (simp (disch := omega) only [w32_id, hw]; first | done | omega) | omega) ?_ | refine k_ifF (by first | (simp (disch := omega) only [w32_id, hw]; first | done | omega) | omega) ?_ | refine k_pf (by first | assumption | omega) (by (try simp (disch := omega) only [sr_s, sr_a, sr_sr, u1_u1, p4, p12]); exact rfl) ?_ | refine k_ast (by first | assumption | omega) (by first | assumption | exact rfl) (by omega) (by omega) (by omega) (by (try simp (disch := omega) only [sr_s, sr_a, sr_sr, u1_u1, p4, p12]); exact rfl) ?_ | refine k_irm (by omega) (by omega) (by omega) (by omega) ?_ | refine k_idv (by omega) (by omega) (by omega) (by omega) ?_ | refine k_tk (by first | assumption | omega) ?_ | refine k_rp (by omega) ?_ | refine k_aldR (by first | assumption | omega) (by first | assumption | exact rfl) (by omega) (by omega) (by omega) (by first | assumption | ((try simp (disch := omega) only [sr_s, sr_a, sr_sr, u1_s, u1_k, p4, p12]); exact rfl)) (by omega) ?_ | refine k_astR (by first | assumption | omega) (by first | assumption | exact rfl) (by omega) (by omega) (by omega) (by first | assumption | omega) (by (try simp (disch := omega) only [sr_s, sr_a, sr_sr, u1_u1, p4, p12]); exact rfl) ?_ | refine k_pz (by first | assumption | omega) (by omega) (by (try simp (disch := omega) only [sr_s, sr_a, sr_sr, u1_u1, p4, p12]); exact rfl) ?_ | refine k_alen (by first | assumption | omega) (by first | assumption | exact rfl) ?_ | refine k_cpy (by first | assumption | omega) (by first | assumption | omega) (by first | assumption | exact rfl) (by first | assumption | exact rfl) (by omega) (by omega) (by omega) (by omega) (by omega) (by omega) (by omega) (by omega) (by (try simp (disch := omega) only [sr_s, sr_a, sr_sr, u1_u1, p4, p12]); exact rfl) ?_ | refine k_if (by (try simp (disch := omega) only [w32_id, hw]); exact Iff.rfl) (fun c => ?_) (fun c => ?_))
      · refine Ok.ret ?_
        simp only [Sum.inl.injEq, Prod.mk.injEq, and_true, true_and]
        refine ⟨?_, by omega⟩
        show _ = ccnt _ _ _ i + _
        rw [if_pos ⟨y.1, y.2, by simpa using (by assumption : M 122 i = k)⟩]
      · refine Ok.ret ?_
        simp only [Sum.inl.injEq, Prod.mk.injEq, and_true, true_and]
        refine ⟨?_, by omega⟩
        show _ = ccnt _ _ _ i + _
        rw [if_neg (fun z => absurd z.2.2 (by simpa using (by assumption : ¬ M 122 i = k)))]
        omega
    · rw [if_neg y] at hh
      repeat' (with_reducible first | refine k_gf (by first | assumption | omega) (by first | assumption | ((try simp (disch := omega) only [sr_s, sr_a, sr_sr, u1_s, u1_k, p4, p12]); exact rfl)) ?_ | refine k_gr (by first | assumption | omega) (by first | assumption | ((try simp (disch := omega) only [sr_s, sr_a, sr_sr, u1_s, u1_k, p4, p12]); exact rfl)) (by omega) ?_ | refine k_ald (by first | assumption | omega) (by first | assumption | exact rfl) (by omega) (by omega) (by omega) (by first | assumption | ((try simp (disch := omega) only [sr_s, sr_a, sr_sr, u1_s, u1_k, p4, p12]); exact rfl)) ?_ | refine k_eq (hh) ?_ | refine k_ifT (by first | (simp (disch := omega) only [w32_id, hw]; first | done | omega) | omega) ?_ | refine k_ifF (by first | (simp (disch := omega) only [w32_id, hw]; first | done | omega) | omega) ?_ | refine k_pf (by first | assumption | omega) (by (try simp (disch := omega) only [sr_s, sr_a, sr_sr, u1_u1, p4, p12]); exact rfl) ?_ | refine k_ast (by first | assumption | omega) (by first | assumption | exact rfl) (by omega) (by omega) (by omega) (by (try simp (disch := omega) only [sr_s, sr_a, sr_sr, u1_u1, p4, p12]); exact rfl) ?_ | refine k_irm (by omega) (by omega) (by omega) (by omega) ?_ | refine k_idv (by omega) (by omega) (by omega) (by omega) ?_ | refine k_tk (by first | assumption | omega) ?_ | refine k_rp (by omega) ?_ | refine k_aldR (by first | assumption | omega) (by first | assumption | exact rfl) (by omega) (by omega) (by omega) (by first | assumption | ((try simp (disch := omega) only [sr_s, sr_a, sr_sr, u1_s, u1_k, p4, p12]); exact rfl)) (by omega) ?_ | refine k_astR (by first | assumption | omega) (by first | assumption | exact rfl) (by omega) (by omega) (by omega) (by first | assumption | omega) (by (try simp (disch := omega) only [sr_s, sr_a, sr_sr, u1_u1, p4, p12]); exact rfl) ?_ | refine k_pz (by first | assumption | omega) (by omega) (by (try simp (disch := omega) only [sr_s, sr_a, sr_sr, u1_u1, p4, p12]); exact rfl) ?_ | refine k_alen (by first | assumption | omega) (by first | assumption | exact rfl) ?_ | refine k_cpy (by first | assumption | omega) (by first | assumption | omega) (by first | assumption | exact rfl) (by first | assumption | exact rfl) (by omega) (by omega) (by omega) (by omega) (by omega) (by omega) (by omega) (by omega) (by (try simp (disch := omega) only [sr_s, sr_a, sr_sr, u1_u1, p4, p12]); exact rfl) ?_ | refine k_if (by (try simp (disch := omega) only [w32_id, hw]); exact Iff.rfl) (fun c => ?_) (fun c => ?_))
      refine Ok.ret ?_
      simp only [Sum.inl.injEq, Prod.mk.injEq, and_true, true_and]
      refine ⟨?_, by omega⟩
      show _ = ccnt _ _ _ i + _
      rw [if_neg (fun z => y ⟨z.1, z.2.1⟩)]
      omega
  · refine Ok.eq ?_
    unfold M_X9_many_b60
    dsimp only
    repeat' (with_reducible first | refine k_gf (by first | assumption | omega) (by first | assumption | ((try simp (disch := omega) only [sr_s, sr_a, sr_sr, u1_s, u1_k]); exact rfl)) ?_ | refine k_gr (by first | assumption | omega) (by first | assumption | ((try simp (disch := omega) only [sr_s, sr_a, sr_sr, u1_s, u1_k]); exact rfl)) (by omega) ?_ | refine k_ald (by first | assumption | omega) (by first | assumption | exact rfl) (by omega) (by omega) (by omega) (by first | assumption | ((try simp (disch := omega) only [sr_s, sr_a, sr_sr, u1_s, u1_k]); exact rfl)) ?_ | refine k_ifT (by first | (simp (disch := omega) only [w32_id]; first | done | omega) | omega) ?_ | refine k_ifF (by first | (simp (disch := omega) only [w32_id]; first | done | omega) | omega) ?_ | refine k_pf (by first | assumption | omega) (by (try simp (disch := omega) only [sr_s, sr_a, sr_sr, u1_u1]); exact rfl) ?_ | refine k_ast (by first | assumption | omega) (by first | assumption | exact rfl) (by omega) (by omega) (by omega) (by (try simp (disch := omega) only [sr_s, sr_a, sr_sr, u1_u1]); exact rfl) ?_ | refine k_irm (by omega) (by omega) (by omega) (by omega) ?_ | refine k_idv (by omega) (by omega) (by omega) (by omega) ?_ | refine k_tk (by first | assumption | omega) ?_ | refine k_rp (by omega) ?_ | refine k_aldR (by first | assumption | omega) (by first | assumption | exact rfl) (by omega) (by omega) (by omega) (by first | assumption | ((try simp (disch := omega) only [sr_s, sr_a, sr_sr, u1_s, u1_k]); exact rfl)) (by omega) ?_ | refine k_astR (by first | assumption | omega) (by first | assumption | exact rfl) (by omega) (by omega) (by omega) (by first | assumption | omega) (by (try simp (disch := omega) only [sr_s, sr_a, sr_sr, u1_u1]); exact rfl) ?_ | refine k_pz (by first | assumption | omega) (by omega) (by (try simp (disch := omega) only [sr_s, sr_a, sr_sr, u1_u1]); exact rfl) ?_ | refine k_alen (by first | assumption | omega) (by first | assumption | exact rfl) ?_ | refine k_cpy (by first | assumption | omega) (by first | assumption | omega) (by first | assumption | exact rfl) (by first | assumption | exact rfl) (by omega) (by omega) (by omega) (by omega) (by omega) (by omega) (by omega) (by omega) (by (try simp (disch := omega) only [sr_s, sr_a, sr_sr, u1_u1]); exact rfl) ?_ | refine k_if (by (try simp (disch := omega) only [w32_id]); exact Iff.rfl) (fun c => ?_) (fun c => ?_))
    exact Ok.ret rfl
theorem X9_likeOnes_ok {ma mo : Int} (hG : gAll G) (hp0 : pr0 (M 0)) (b1 : 0 ≤ M 24 0) (b2 : M 24 0 ≤ 6) (b3 : 0 ≤ M 24 1) (b4 : M 24 1 ≤ 6) (hb : ∀ i, 0 ≤ M 122 i ∧ M 122 i ≤ 9) (q1 : G.1 ma = 1) (q2 : 0 ≤ mo) (q3 : mo + 36 ≤ G.2.1 ma) (q4 : G.2.1 ma ≤ 100000) (hb2 : ∀ i, 0 ≤ M ma i ∧ M ma i ≤ 9) : M_X9_likeOnes (M, G) 0 ma mo = some (ccnt (M 24 0) (M 24 1) (fun p => decide (M 122 p = M ma (mo + p))) 36) := by
  have k0 := gk_0 hG
  have k122 := gk_122 hG
  have l122 := gl_122 hG
  have p4 := pr0.p4 hp0
  have p12 := pr0.p12 hp0
  have hg := gW_24 hG
  have hw : ∀ i, w32 (M 122 i) = M 122 i := fun i => w32_id (by have := hb i; omega) (by have := hb i; omega)
  have hw2 : ∀ i, w32 (M ma i) = M ma i := fun i => w32_id (by have := hb2 i; omega) (by have := hb2 i; omega)
  refine Ok.eq ?_
  unfold M_X9_likeOnes M_X9_likeOnes_w5 M_X9_likeOnes_p49
  refine k_tk k0 ?_
  refine k_eq (wh_st (fun i => (ccnt (M 24 0) (M 24 1) (fun p => decide (M 122 p = M ma (mo + p))) i, (i : Int))) 36 (by omega) (t := ccnt (M 24 0) (M 24 1) (fun p => decide (M 122 p = M ma (mo + p))) 36) rfl ?_ ?_) (Ok.ret rfl)
  · intro i hi
    refine Ok.eq ?_
    unfold M_X9_likeOnes_b5 M_X9_likeOnes_p43
    dsimp only
    have hh := X8_holds_ok (M := M) (p := i) hg (by omega) (by omega) b1 b2 b3 b4
    unfold holdsV at hh
    by_cases y : (i : Int) % 6 < M 24 0 ∧ (i : Int) / 6 < M 24 1
    · rw [if_pos y] at hh
      repeat' (with_reducible first | refine k_gf (by first | assumption | omega) (by first | assumption | ((try simp (disch := omega) only [sr_s, sr_a, sr_sr, u1_s, u1_k, p4, p12]); exact rfl)) ?_ | refine k_gr (by first | assumption | omega) (by first | assumption | ((try simp (disch := omega) only [sr_s, sr_a, sr_sr, u1_s, u1_k, p4, p12]); exact rfl)) (by omega) ?_ | refine k_ald (by first | assumption | omega) (by first | assumption | exact rfl) (by omega) (by omega) (by omega) (by first | assumption | ((try simp (disch := omega) only [sr_s, sr_a, sr_sr, u1_s, u1_k, p4, p12]); exact rfl)) ?_ | refine k_eq (hh) ?_ | refine k_ifT (by first | (simp (disch := omega) only [w32_id, hw, hw2]; first | done | omega) | omega) ?_ | refine k_ifF (by first | (simp (disch := omega) only [w32_id, hw, hw2]; first | done | omega) | omega) ?_ | refine k_pf (by first | assumption | omega) (by (try simp (disch := omega) only [sr_s, sr_a, sr_sr, u1_u1, p4, p12]); exact rfl) ?_ | refine k_ast (by first | assumption | omega) (by first | assumption | exact rfl) (by omega) (by omega) (by omega) (by (try simp (disch := omega) only [sr_s, sr_a, sr_sr, u1_u1, p4, p12]); exact rfl) ?_ | refine k_irm (by omega) (by omega) (by omega) (by omega) ?_ | refine k_idv (by omega) (by omega) (by omega) (by omega) ?_ | refine k_tk (by first | assumption | omega) ?_ | refine k_rp (by omega) ?_ | refine k_aldR (by first | assumption | omega) (by first | assumption | exact rfl) (by omega) (by omega) (by omega) (by first | assumption | ((try simp (disch := omega) only [sr_s, sr_a, sr_sr, u1_s, u1_k, p4, p12]); exact rfl)) (by omega) ?_ | refine k_astR (by first | assumption | omega) (by first | assumption | exact rfl) (by omega) (by omega) (by omega) (by first | assumption | omega) (by (try simp (disch := omega) only [sr_s, sr_a, sr_sr, u1_u1, p4, p12]); exact rfl) ?_ | refine k_pz (by first | assumption | omega) (by omega) (by (try simp (disch := omega) only [sr_s, sr_a, sr_sr, u1_u1, p4, p12]); exact rfl) ?_ | refine k_alen (by first | assumption | omega) (by first | assumption | exact rfl) ?_ | refine k_cpy (by first | assumption | omega) (by first | assumption | omega) (by first | assumption | exact rfl) (by first | assumption | exact rfl) (by omega) (by omega) (by omega) (by omega) (by omega) (by omega) (by omega) (by omega) (by (try simp (disch := omega) only [sr_s, sr_a, sr_sr, u1_u1, p4, p12]); exact rfl) ?_ | refine k_if (by (try simp (disch := omega) only [w32_id, hw, hw2]); exact Iff.rfl) (fun c => ?_) (fun c => ?_))
      · refine Ok.ret ?_
        simp only [Sum.inl.injEq, Prod.mk.injEq, and_true, true_and]
        refine ⟨?_, by omega⟩
        show _ = ccnt _ _ _ i + _
        rw [if_pos ⟨y.1, y.2, by simpa using (by assumption : M 122 i = M ma (mo + i))⟩]
      · refine Ok.ret ?_
        simp only [Sum.inl.injEq, Prod.mk.injEq, and_true, true_and]
        refine ⟨?_, by omega⟩
        show _ = ccnt _ _ _ i + _
        rw [if_neg (fun z => absurd z.2.2 (by simpa using (by assumption : ¬ M 122 i = M ma (mo + i))))]
        omega
    · rw [if_neg y] at hh
      repeat' (with_reducible first | refine k_gf (by first | assumption | omega) (by first | assumption | ((try simp (disch := omega) only [sr_s, sr_a, sr_sr, u1_s, u1_k, p4, p12]); exact rfl)) ?_ | refine k_gr (by first | assumption | omega) (by first | assumption | ((try simp (disch := omega) only [sr_s, sr_a, sr_sr, u1_s, u1_k, p4, p12]); exact rfl)) (by omega) ?_ | refine k_ald (by first | assumption | omega) (by first | assumption | exact rfl) (by omega) (by omega) (by omega) (by first | assumption | ((try simp (disch := omega) only [sr_s, sr_a, sr_sr, u1_s, u1_k, p4, p12]); exact rfl)) ?_ | refine k_eq (hh) ?_ | refine k_ifT (by first | (simp (disch := omega) only [w32_id, hw]; first | done | omega) | omega) ?_ | refine k_ifF (by first | (simp (disch := omega) only [w32_id, hw]; first | done | omega) | omega) ?_ | refine k_pf (by first | assumption | omega) (by (try simp (disch := omega) only [sr_s, sr_a, sr_sr, u1_u1, p4, p12]); exact rfl) ?_ | refine k_ast (by first | assumption | omega) (by first | assumption | exact rfl) (by omega) (by omega) (by omega) (by (try simp (disch := omega) only [sr_s, sr_a, sr_sr, u1_u1, p4, p12]); exact rfl) ?_ | refine k_irm (by omega) (by omega) (by omega) (by omega) ?_ | refine k_idv (by omega) (by omega) (by omega) (by omega) ?_ | refine k_tk (by first | assumption | omega) ?_ | refine k_rp (by omega) ?_ | refine k_aldR (by first | assumption | omega) (by first | assumption | exact rfl) (by omega) (by omega) (by omega) (by first | assumption | ((try simp (disch := omega) only [sr_s, sr_a, sr_sr, u1_s, u1_k, p4, p12]); exact rfl)) (by omega) ?_ | refine k_astR (by first | assumption | omega) (by first | assumption | exact rfl) (by omega) (by omega) (by omega) (by first | assumption | omega) (by (try simp (disch := omega) only [sr_s, sr_a, sr_sr, u1_u1, p4, p12]); exact rfl) ?_ | refine k_pz (by first | assumption | omega) (by omega) (by (try simp (disch := omega) only [sr_s, sr_a, sr_sr, u1_u1, p4, p12]); exact rfl) ?_ | refine k_alen (by first | assumption | omega) (by first | assumption | exact rfl) ?_ | refine k_cpy (by first | assumption | omega) (by first | assumption | omega) (by first | assumption | exact rfl) (by first | assumption | exact rfl) (by omega) (by omega) (by omega) (by omega) (by omega) (by omega) (by omega) (by omega) (by (try simp (disch := omega) only [sr_s, sr_a, sr_sr, u1_u1, p4, p12]); exact rfl) ?_ | refine k_if (by (try simp (disch := omega) only [w32_id, hw]); exact Iff.rfl) (fun c => ?_) (fun c => ?_))
      refine Ok.ret ?_
      simp only [Sum.inl.injEq, Prod.mk.injEq, and_true, true_and]
      refine ⟨?_, by omega⟩
      show _ = ccnt _ _ _ i + _
      rw [if_neg (fun z => y ⟨z.1, z.2.1⟩)]
      omega
  · refine Ok.eq ?_
    unfold M_X9_likeOnes_b5
    dsimp only
    repeat' (with_reducible first | refine k_gf (by first | assumption | omega) (by first | assumption | ((try simp (disch := omega) only [sr_s, sr_a, sr_sr, u1_s, u1_k]); exact rfl)) ?_ | refine k_gr (by first | assumption | omega) (by first | assumption | ((try simp (disch := omega) only [sr_s, sr_a, sr_sr, u1_s, u1_k]); exact rfl)) (by omega) ?_ | refine k_ald (by first | assumption | omega) (by first | assumption | exact rfl) (by omega) (by omega) (by omega) (by first | assumption | ((try simp (disch := omega) only [sr_s, sr_a, sr_sr, u1_s, u1_k]); exact rfl)) ?_ | refine k_ifT (by first | (simp (disch := omega) only [w32_id]; first | done | omega) | omega) ?_ | refine k_ifF (by first | (simp (disch := omega) only [w32_id]; first | done | omega) | omega) ?_ | refine k_pf (by first | assumption | omega) (by (try simp (disch := omega) only [sr_s, sr_a, sr_sr, u1_u1]); exact rfl) ?_ | refine k_ast (by first | assumption | omega) (by first | assumption | exact rfl) (by omega) (by omega) (by omega) (by (try simp (disch := omega) only [sr_s, sr_a, sr_sr, u1_u1]); exact rfl) ?_ | refine k_irm (by omega) (by omega) (by omega) (by omega) ?_ | refine k_idv (by omega) (by omega) (by omega) (by omega) ?_ | refine k_tk (by first | assumption | omega) ?_ | refine k_rp (by omega) ?_ | refine k_aldR (by first | assumption | omega) (by first | assumption | exact rfl) (by omega) (by omega) (by omega) (by first | assumption | ((try simp (disch := omega) only [sr_s, sr_a, sr_sr, u1_s, u1_k]); exact rfl)) (by omega) ?_ | refine k_astR (by first | assumption | omega) (by first | assumption | exact rfl) (by omega) (by omega) (by omega) (by first | assumption | omega) (by (try simp (disch := omega) only [sr_s, sr_a, sr_sr, u1_u1]); exact rfl) ?_ | refine k_pz (by first | assumption | omega) (by omega) (by (try simp (disch := omega) only [sr_s, sr_a, sr_sr, u1_u1]); exact rfl) ?_ | refine k_alen (by first | assumption | omega) (by first | assumption | exact rfl) ?_ | refine k_cpy (by first | assumption | omega) (by first | assumption | omega) (by first | assumption | exact rfl) (by first | assumption | exact rfl) (by omega) (by omega) (by omega) (by omega) (by omega) (by omega) (by omega) (by omega) (by (try simp (disch := omega) only [sr_s, sr_a, sr_sr, u1_u1]); exact rfl) ?_ | refine k_if (by (try simp (disch := omega) only [w32_id]); exact Iff.rfl) (fun c => ?_) (fun c => ?_))
    exact Ok.ret rfl
/-- the reference counts -/
theorem X11_many_loop (hG : gAll G) (hB : rB M G rg) (p22 : M 124 22 = 129) (hmp : ∀ i, 0 ≤ M 129 i ∧ M 129 i < 6) (hk : 0 ≤ k ∧ k < 100) (t0 : 0 ≤ t) (t1 : t < 6) (n0 : 0 ≤ n) (n1 : n ≤ 60) (f : Int → Int) (hf : ∀ q, 0 ≤ q → q < M rg 0 * M rg 1 → M 129 (216 * n + 36 * t + q) = f (inn (M rg 0) q)) : wh (S := (Int × Int)) (T := Int) (fun a => M_X11_many_b51 (M, G) 124 t k n a.1 a.2) FU (0, 0) = some (rcnt (M rg 0) (fun p => decide (f p = k)) (M rg 0 * M rg 1).toNat) := by
  have hB' := hB
  obtain ⟨k124, r3, r0, kr, a1, a2, b1, b2⟩ := hB
  have hm := mul_b a1 a2 b1 b2
  have hw : ∀ i, w32 (M 129 i) = M 129 i := fun i => w32_id (by have := hmp i; omega) (by have := hmp i; omega)
  refine wh_st (fun i => (rcnt (M rg 0) (fun p => decide (f p = k)) i, (i : Int))) (M rg 0 * M rg 1).toNat (by omega) rfl ?_ ?_
  · intro i hi
    refine Ok.eq ?_
    unfold M_X11_many_b51 M_X11_many_p82
    dsimp only
    have hfi := hf i (by omega) (by omega)
    repeat' (with_reducible first | refine k_gf (by first | assumption | omega) (by first | assumption | ((try simp (disch := omega) only [sr_s, sr_a, sr_sr, u1_s, u1_k, r3]); exact rfl)) ?_ | refine k_gr (by first | assumption | omega) (by first | assumption | ((try simp (disch := omega) only [sr_s, sr_a, sr_sr, u1_s, u1_k, r3]); exact rfl)) (by omega) ?_ | refine k_ald (by first | assumption | omega) (by first | assumption | exact rfl) (by omega) (by omega) (by omega) (by first | assumption | ((try simp (disch := omega) only [sr_s, sr_a, sr_sr, u1_s, u1_k, r3]); exact rfl)) ?_ | refine k_eq (X10_all_ok hB') ?_ | refine k_eq (X11_behind_ok hG p22 (by omega) (by omega)) ?_ | refine k_ifT (by first | (simp (disch := omega) only [w32_id, hw]; first | done | omega) | omega) ?_ | refine k_ifF (by first | (simp (disch := omega) only [w32_id, hw]; first | done | omega) | omega) ?_ | refine k_pf (by first | assumption | omega) (by (try simp (disch := omega) only [sr_s, sr_a, sr_sr, u1_u1, r3]); exact rfl) ?_ | refine k_ast (by first | assumption | omega) (by first | assumption | exact rfl) (by omega) (by omega) (by omega) (by (try simp (disch := omega) only [sr_s, sr_a, sr_sr, u1_u1, r3]); exact rfl) ?_ | refine k_irm (by omega) (by omega) (by omega) (by omega) ?_ | refine k_idv (by omega) (by omega) (by omega) (by omega) ?_ | refine k_tk (by first | assumption | omega) ?_ | refine k_rp (by omega) ?_ | refine k_aldR (by first | assumption | omega) (by first | assumption | exact rfl) (by omega) (by omega) (by omega) (by first | assumption | ((try simp (disch := omega) only [sr_s, sr_a, sr_sr, u1_s, u1_k, r3]); exact rfl)) (by omega) ?_ | refine k_astR (by first | assumption | omega) (by first | assumption | exact rfl) (by omega) (by omega) (by omega) (by first | assumption | omega) (by (try simp (disch := omega) only [sr_s, sr_a, sr_sr, u1_u1, r3]); exact rfl) ?_ | refine k_pz (by first | assumption | omega) (by omega) (by (try simp (disch := omega) only [sr_s, sr_a, sr_sr, u1_u1, r3]); exact rfl) ?_ | refine k_alen (by first | assumption | omega) (by first | assumption | exact rfl) ?_ | refine k_cpy (by first | assumption | omega) (by first | assumption | omega) (by first | assumption | exact rfl) (by first | assumption | exact rfl) (by omega) (by omega) (by omega) (by omega) (by omega) (by omega) (by omega) (by omega) (by (try simp (disch := omega) only [sr_s, sr_a, sr_sr, u1_u1, r3]); exact rfl) ?_ | refine k_if (by (try simp (disch := omega) only [w32_id, hw]); exact Iff.rfl) (fun c => ?_) (fun c => ?_))
    · have e : M 129 (216 * n + 36 * t + i) = k := by assumption
      rw [hfi] at e
      refine Ok.ret ?_
      simp only [Sum.inl.injEq, Prod.mk.injEq, and_true, true_and]
      refine ⟨?_, by omega⟩
      show _ = rcnt _ _ i + _
      rw [if_pos (by simp [e])]
    · have e : ¬ M 129 (216 * n + 36 * t + i) = k := by assumption
      rw [hfi] at e
      refine Ok.ret ?_
      simp only [Sum.inl.injEq, Prod.mk.injEq, and_true, true_and]
      refine ⟨?_, by omega⟩
      show _ = rcnt _ _ i + _
      rw [if_neg (by simp [e])]
  · refine Ok.eq ?_
    unfold M_X11_many_b51
    dsimp only
    repeat' (with_reducible first | refine k_gf (by first | assumption | omega) (by first | assumption | ((try simp (disch := omega) only [sr_s, sr_a, sr_sr, u1_s, u1_k, r3]); exact rfl)) ?_ | refine k_gr (by first | assumption | omega) (by first | assumption | ((try simp (disch := omega) only [sr_s, sr_a, sr_sr, u1_s, u1_k, r3]); exact rfl)) (by omega) ?_ | refine k_ald (by first | assumption | omega) (by first | assumption | exact rfl) (by omega) (by omega) (by omega) (by first | assumption | ((try simp (disch := omega) only [sr_s, sr_a, sr_sr, u1_s, u1_k, r3]); exact rfl)) ?_ | refine k_eq (X10_all_ok hB') ?_ | refine k_ifT (by first | (simp (disch := omega) only [w32_id, hw]; first | done | omega) | omega) ?_ | refine k_ifF (by first | (simp (disch := omega) only [w32_id, hw]; first | done | omega) | omega) ?_ | refine k_pf (by first | assumption | omega) (by (try simp (disch := omega) only [sr_s, sr_a, sr_sr, u1_u1, r3]); exact rfl) ?_ | refine k_ast (by first | assumption | omega) (by first | assumption | exact rfl) (by omega) (by omega) (by omega) (by (try simp (disch := omega) only [sr_s, sr_a, sr_sr, u1_u1, r3]); exact rfl) ?_ | refine k_irm (by omega) (by omega) (by omega) (by omega) ?_ | refine k_idv (by omega) (by omega) (by omega) (by omega) ?_ | refine k_tk (by first | assumption | omega) ?_ | refine k_rp (by omega) ?_ | refine k_aldR (by first | assumption | omega) (by first | assumption | exact rfl) (by omega) (by omega) (by omega) (by first | assumption | ((try simp (disch := omega) only [sr_s, sr_a, sr_sr, u1_s, u1_k, r3]); exact rfl)) (by omega) ?_ | refine k_astR (by first | assumption | omega) (by first | assumption | exact rfl) (by omega) (by omega) (by omega) (by first | assumption | omega) (by (try simp (disch := omega) only [sr_s, sr_a, sr_sr, u1_u1, r3]); exact rfl) ?_ | refine k_pz (by first | assumption | omega) (by omega) (by (try simp (disch := omega) only [sr_s, sr_a, sr_sr, u1_u1, r3]); exact rfl) ?_ | refine k_alen (by first | assumption | omega) (by first | assumption | exact rfl) ?_ | refine k_cpy (by first | assumption | omega) (by first | assumption | omega) (by first | assumption | exact rfl) (by first | assumption | exact rfl) (by omega) (by omega) (by omega) (by omega) (by omega) (by omega) (by omega) (by omega) (by (try simp (disch := omega) only [sr_s, sr_a, sr_sr, u1_u1, r3]); exact rfl) ?_ | refine k_if (by (try simp (disch := omega) only [w32_id, hw]); exact Iff.rfl) (fun c => ?_) (fun c => ?_))
    exact Ok.ret rfl
theorem X11_unlike_loop {u : Int} (hG : gAll G) (hB : rB M G rg) (p22 : M 124 22 = 129) (hmp : ∀ i, 0 ≤ M 129 i ∧ M 129 i < 6) (u0 : 0 ≤ u) (u1 : u < 6) (t0 : 0 ≤ t) (t1 : t < 6) (n0 : 0 ≤ n) (n1 : n ≤ 60) (f g : Int → Int) (hf : ∀ q, 0 ≤ q → q < M rg 0 * M rg 1 → M 129 (216 * n + 36 * t + q) = f (inn (M rg 0) q)) (hg : ∀ q, 0 ≤ q → q < M rg 0 * M rg 1 → M 129 (216 * n + 36 * u + q) = g (inn (M rg 0) q)) : wh (S := (Int × Int)) (T := Int) (fun a => M_X11_unlike_b51 (M, G) 124 t u n a.1 a.2) FU (0, 0) = some (rcnt (M rg 0) (fun p => !decide (f p = g p)) (M rg 0 * M rg 1).toNat) := by
  have hB' := hB
  obtain ⟨k124, r3, r0, kr, a1, a2, b1, b2⟩ := hB
  have hm := mul_b a1 a2 b1 b2
  have hw : ∀ i, w32 (M 129 i) = M 129 i := fun i => w32_id (by have := hmp i; omega) (by have := hmp i; omega)
  refine wh_st (fun i => (rcnt (M rg 0) (fun p => !decide (f p = g p)) i, (i : Int))) (M rg 0 * M rg 1).toNat (by omega) rfl ?_ ?_
  · intro i hi
    refine Ok.eq ?_
    unfold M_X11_unlike_b51 M_X11_unlike_p89
    dsimp only
    have hfi := hf i (by omega) (by omega)
    have hgi := hg i (by omega) (by omega)
    repeat' (with_reducible first | refine k_gf (by first | assumption | omega) (by first | assumption | ((try simp (disch := omega) only [sr_s, sr_a, sr_sr, u1_s, u1_k, r3]); exact rfl)) ?_ | refine k_gr (by first | assumption | omega) (by first | assumption | ((try simp (disch := omega) only [sr_s, sr_a, sr_sr, u1_s, u1_k, r3]); exact rfl)) (by omega) ?_ | refine k_ald (by first | assumption | omega) (by first | assumption | exact rfl) (by omega) (by omega) (by omega) (by first | assumption | ((try simp (disch := omega) only [sr_s, sr_a, sr_sr, u1_s, u1_k, r3]); exact rfl)) ?_ | refine k_eq (X10_all_ok hB') ?_ | refine k_eq (X11_behind_ok hG p22 (by omega) (by omega)) ?_ | refine k_ifT (by first | (simp (disch := omega) only [w32_id, hw]; first | done | omega) | omega) ?_ | refine k_ifF (by first | (simp (disch := omega) only [w32_id, hw]; first | done | omega) | omega) ?_ | refine k_pf (by first | assumption | omega) (by (try simp (disch := omega) only [sr_s, sr_a, sr_sr, u1_u1, r3]); exact rfl) ?_ | refine k_ast (by first | assumption | omega) (by first | assumption | exact rfl) (by omega) (by omega) (by omega) (by (try simp (disch := omega) only [sr_s, sr_a, sr_sr, u1_u1, r3]); exact rfl) ?_ | refine k_irm (by omega) (by omega) (by omega) (by omega) ?_ | refine k_idv (by omega) (by omega) (by omega) (by omega) ?_ | refine k_tk (by first | assumption | omega) ?_ | refine k_rp (by omega) ?_ | refine k_aldR (by first | assumption | omega) (by first | assumption | exact rfl) (by omega) (by omega) (by omega) (by first | assumption | ((try simp (disch := omega) only [sr_s, sr_a, sr_sr, u1_s, u1_k, r3]); exact rfl)) (by omega) ?_ | refine k_astR (by first | assumption | omega) (by first | assumption | exact rfl) (by omega) (by omega) (by omega) (by first | assumption | omega) (by (try simp (disch := omega) only [sr_s, sr_a, sr_sr, u1_u1, r3]); exact rfl) ?_ | refine k_pz (by first | assumption | omega) (by omega) (by (try simp (disch := omega) only [sr_s, sr_a, sr_sr, u1_u1, r3]); exact rfl) ?_ | refine k_alen (by first | assumption | omega) (by first | assumption | exact rfl) ?_ | refine k_cpy (by first | assumption | omega) (by first | assumption | omega) (by first | assumption | exact rfl) (by first | assumption | exact rfl) (by omega) (by omega) (by omega) (by omega) (by omega) (by omega) (by omega) (by omega) (by (try simp (disch := omega) only [sr_s, sr_a, sr_sr, u1_u1, r3]); exact rfl) ?_ | refine k_if (by (try simp (disch := omega) only [w32_id, hw]); exact Iff.rfl) (fun c => ?_) (fun c => ?_))
    · have e : M 129 (216 * n + 36 * t + i) = M 129 (216 * n + 36 * u + i) := by assumption
      rw [hfi, hgi] at e
      refine Ok.ret ?_
      simp only [Sum.inl.injEq, Prod.mk.injEq, and_true, true_and]
      refine ⟨?_, by omega⟩
      show _ = rcnt _ _ i + _
      rw [if_neg (by simp [e])]
    · have e : ¬ M 129 (216 * n + 36 * t + i) = M 129 (216 * n + 36 * u + i) := by assumption
      rw [hfi, hgi] at e
      refine Ok.ret ?_
      simp only [Sum.inl.injEq, Prod.mk.injEq, and_true, true_and]
      refine ⟨?_, by omega⟩
      show _ = rcnt _ _ i + _
      rw [if_pos (by simp [e])]
  · refine Ok.eq ?_
    unfold M_X11_unlike_b51
    dsimp only
    repeat' (with_reducible first | refine k_gf (by first | assumption | omega) (by first | assumption | ((try simp (disch := omega) only [sr_s, sr_a, sr_sr, u1_s, u1_k, r3]); exact rfl)) ?_ | refine k_gr (by first | assumption | omega) (by first | assumption | ((try simp (disch := omega) only [sr_s, sr_a, sr_sr, u1_s, u1_k, r3]); exact rfl)) (by omega) ?_ | refine k_ald (by first | assumption | omega) (by first | assumption | exact rfl) (by omega) (by omega) (by omega) (by first | assumption | ((try simp (disch := omega) only [sr_s, sr_a, sr_sr, u1_s, u1_k, r3]); exact rfl)) ?_ | refine k_eq (X10_all_ok hB') ?_ | refine k_ifT (by first | (simp (disch := omega) only [w32_id, hw]; first | done | omega) | omega) ?_ | refine k_ifF (by first | (simp (disch := omega) only [w32_id, hw]; first | done | omega) | omega) ?_ | refine k_pf (by first | assumption | omega) (by (try simp (disch := omega) only [sr_s, sr_a, sr_sr, u1_u1, r3]); exact rfl) ?_ | refine k_ast (by first | assumption | omega) (by first | assumption | exact rfl) (by omega) (by omega) (by omega) (by (try simp (disch := omega) only [sr_s, sr_a, sr_sr, u1_u1, r3]); exact rfl) ?_ | refine k_irm (by omega) (by omega) (by omega) (by omega) ?_ | refine k_idv (by omega) (by omega) (by omega) (by omega) ?_ | refine k_tk (by first | assumption | omega) ?_ | refine k_rp (by omega) ?_ | refine k_aldR (by first | assumption | omega) (by first | assumption | exact rfl) (by omega) (by omega) (by omega) (by first | assumption | ((try simp (disch := omega) only [sr_s, sr_a, sr_sr, u1_s, u1_k, r3]); exact rfl)) (by omega) ?_ | refine k_astR (by first | assumption | omega) (by first | assumption | exact rfl) (by omega) (by omega) (by omega) (by first | assumption | omega) (by (try simp (disch := omega) only [sr_s, sr_a, sr_sr, u1_u1, r3]); exact rfl) ?_ | refine k_pz (by first | assumption | omega) (by omega) (by (try simp (disch := omega) only [sr_s, sr_a, sr_sr, u1_u1, r3]); exact rfl) ?_ | refine k_alen (by first | assumption | omega) (by first | assumption | exact rfl) ?_ | refine k_cpy (by first | assumption | omega) (by first | assumption | omega) (by first | assumption | exact rfl) (by first | assumption | exact rfl) (by omega) (by omega) (by omega) (by omega) (by omega) (by omega) (by omega) (by omega) (by (try simp (disch := omega) only [sr_s, sr_a, sr_sr, u1_u1, r3]); exact rfl) ?_ | refine k_if (by (try simp (disch := omega) only [w32_id, hw]); exact Iff.rfl) (fun c => ?_) (fun c => ?_))
    exact Ok.ret rfl
theorem X11_trueOnes_loop (hG : gAll G) (hB : rB M G rg) (pr7 : M rg 7 = rg + 1) (kr1 : G.1 (rg + 1) = 1) (lr1 : G.2.1 (rg + 1) = 216) (hbm : ∀ i, 0 ≤ M (rg + 1) i ∧ M (rg + 1) i < 6) (p22 : M 124 22 = 129) (hmp : ∀ i, 0 ≤ M 129 i ∧ M 129 i < 6) (t0 : 0 ≤ t) (t1 : t < 6) (n0 : 0 ≤ n) (n1 : n ≤ 60) (f g : Int → Int) (hf : ∀ q, 0 ≤ q → q < M rg 0 * M rg 1 → M 129 (216 * n + 36 * t + q) = f (inn (M rg 0) q)) (hg : ∀ q, 0 ≤ q → q < M rg 0 * M rg 1 → M (rg + 1) (36 * t + q) = g (inn (M rg 0) q)) : wh (S := (Int × Int)) (T := Int) (fun a => M_X11_trueOnes_b32 (M, G) 124 t n a.1 a.2) FU (0, 0) = some (rcnt (M rg 0) (fun p => decide (f p = g p)) (M rg 0 * M rg 1).toNat) := by
  have hB' := hB
  obtain ⟨k124, r3, r0, kr, a1, a2, b1, b2⟩ := hB
  have hm := mul_b a1 a2 b1 b2
  have hw : ∀ i, w32 (M 129 i) = M 129 i := fun i => w32_id (by have := hmp i; omega) (by have := hmp i; omega)
  have hw2 : ∀ i, w32 (M (rg + 1) i) = M (rg + 1) i := fun i => w32_id (by have := hbm i; omega) (by have := hbm i; omega)
  refine wh_st (fun i => (rcnt (M rg 0) (fun p => decide (f p = g p)) i, (i : Int))) (M rg 0 * M rg 1).toNat (by omega) rfl ?_ ?_
  · intro i hi
    refine Ok.eq ?_
    unfold M_X11_trueOnes_b32 M_X11_trueOnes_p77
    dsimp only
    have hfi := hf i (by omega) (by omega)
    repeat' (with_reducible first | refine k_gf (by first | assumption | omega) (by first | assumption | ((try simp (disch := omega) only [sr_s, sr_a, sr_sr, u1_s, u1_k, r3, pr7]); exact rfl)) ?_ | refine k_gr (by first | assumption | omega) (by first | assumption | ((try simp (disch := omega) only [sr_s, sr_a, sr_sr, u1_s, u1_k, r3, pr7]); exact rfl)) (by omega) ?_ | refine k_ald (by first | assumption | omega) (by first | assumption | exact rfl) (by omega) (by omega) (by omega) (by first | assumption | ((try simp (disch := omega) only [sr_s, sr_a, sr_sr, u1_s, u1_k, r3, pr7]); exact rfl)) ?_ | refine k_eq (X10_all_ok hB') ?_ | refine k_eq (X11_behind_ok hG p22 (by omega) (by omega)) ?_ | refine k_ifT (by first | (simp (disch := omega) only [w32_id, hw, hw2]; first | done | omega) | omega) ?_ | refine k_ifF (by first | (simp (disch := omega) only [w32_id, hw, hw2]; first | done | omega) | omega) ?_ | refine k_pf (by first | assumption | omega) (by (try simp (disch := omega) only [sr_s, sr_a, sr_sr, u1_u1, r3, pr7]); exact rfl) ?_ | refine k_ast (by first | assumption | omega) (by first | assumption | exact rfl) (by omega) (by omega) (by omega) (by (try simp (disch := omega) only [sr_s, sr_a, sr_sr, u1_u1, r3, pr7]); exact rfl) ?_ | refine k_irm (by omega) (by omega) (by omega) (by omega) ?_ | refine k_idv (by omega) (by omega) (by omega) (by omega) ?_ | refine k_tk (by first | assumption | omega) ?_ | refine k_rp (by omega) ?_ | refine k_aldR (by first | assumption | omega) (by first | assumption | exact rfl) (by omega) (by omega) (by omega) (by first | assumption | ((try simp (disch := omega) only [sr_s, sr_a, sr_sr, u1_s, u1_k, r3, pr7]); exact rfl)) (by omega) ?_ | refine k_astR (by first | assumption | omega) (by first | assumption | exact rfl) (by omega) (by omega) (by omega) (by first | assumption | omega) (by (try simp (disch := omega) only [sr_s, sr_a, sr_sr, u1_u1, r3, pr7]); exact rfl) ?_ | refine k_pz (by first | assumption | omega) (by omega) (by (try simp (disch := omega) only [sr_s, sr_a, sr_sr, u1_u1, r3, pr7]); exact rfl) ?_ | refine k_alen (by first | assumption | omega) (by first | assumption | exact rfl) ?_ | refine k_cpy (by first | assumption | omega) (by first | assumption | omega) (by first | assumption | exact rfl) (by first | assumption | exact rfl) (by omega) (by omega) (by omega) (by omega) (by omega) (by omega) (by omega) (by omega) (by (try simp (disch := omega) only [sr_s, sr_a, sr_sr, u1_u1, r3, pr7]); exact rfl) ?_ | refine k_if (by (try simp (disch := omega) only [w32_id, hw, hw2]); exact Iff.rfl) (fun c => ?_) (fun c => ?_))
    · have e : M 129 (216 * n + 36 * t + i) = M (rg + 1) (36 * t + i) := by assumption
      rw [hfi, hg i (by omega) (by omega)] at e
      refine Ok.ret ?_
      simp only [Sum.inl.injEq, Prod.mk.injEq, and_true, true_and]
      refine ⟨?_, by omega⟩
      show _ = rcnt _ _ i + _
      rw [if_pos (by simp [e])]
    · have e : ¬ M 129 (216 * n + 36 * t + i) = M (rg + 1) (36 * t + i) := by assumption
      rw [hfi, hg i (by omega) (by omega)] at e
      refine Ok.ret ?_
      simp only [Sum.inl.injEq, Prod.mk.injEq, and_true, true_and]
      refine ⟨?_, by omega⟩
      show _ = rcnt _ _ i + _
      rw [if_neg (by simp [e])]
  · refine Ok.eq ?_
    unfold M_X11_trueOnes_b32
    dsimp only
    repeat' (with_reducible first | refine k_gf (by first | assumption | omega) (by first | assumption | ((try simp (disch := omega) only [sr_s, sr_a, sr_sr, u1_s, u1_k, r3]); exact rfl)) ?_ | refine k_gr (by first | assumption | omega) (by first | assumption | ((try simp (disch := omega) only [sr_s, sr_a, sr_sr, u1_s, u1_k, r3]); exact rfl)) (by omega) ?_ | refine k_ald (by first | assumption | omega) (by first | assumption | exact rfl) (by omega) (by omega) (by omega) (by first | assumption | ((try simp (disch := omega) only [sr_s, sr_a, sr_sr, u1_s, u1_k, r3]); exact rfl)) ?_ | refine k_eq (X10_all_ok hB') ?_ | refine k_ifT (by first | (simp (disch := omega) only [w32_id, hw]; first | done | omega) | omega) ?_ | refine k_ifF (by first | (simp (disch := omega) only [w32_id, hw]; first | done | omega) | omega) ?_ | refine k_pf (by first | assumption | omega) (by (try simp (disch := omega) only [sr_s, sr_a, sr_sr, u1_u1, r3]); exact rfl) ?_ | refine k_ast (by first | assumption | omega) (by first | assumption | exact rfl) (by omega) (by omega) (by omega) (by (try simp (disch := omega) only [sr_s, sr_a, sr_sr, u1_u1, r3]); exact rfl) ?_ | refine k_irm (by omega) (by omega) (by omega) (by omega) ?_ | refine k_idv (by omega) (by omega) (by omega) (by omega) ?_ | refine k_tk (by first | assumption | omega) ?_ | refine k_rp (by omega) ?_ | refine k_aldR (by first | assumption | omega) (by first | assumption | exact rfl) (by omega) (by omega) (by omega) (by first | assumption | ((try simp (disch := omega) only [sr_s, sr_a, sr_sr, u1_s, u1_k, r3]); exact rfl)) (by omega) ?_ | refine k_astR (by first | assumption | omega) (by first | assumption | exact rfl) (by omega) (by omega) (by omega) (by first | assumption | omega) (by (try simp (disch := omega) only [sr_s, sr_a, sr_sr, u1_u1, r3]); exact rfl) ?_ | refine k_pz (by first | assumption | omega) (by omega) (by (try simp (disch := omega) only [sr_s, sr_a, sr_sr, u1_u1, r3]); exact rfl) ?_ | refine k_alen (by first | assumption | omega) (by first | assumption | exact rfl) ?_ | refine k_cpy (by first | assumption | omega) (by first | assumption | omega) (by first | assumption | exact rfl) (by first | assumption | exact rfl) (by omega) (by omega) (by omega) (by omega) (by omega) (by omega) (by omega) (by omega) (by (try simp (disch := omega) only [sr_s, sr_a, sr_sr, u1_u1, r3]); exact rfl) ?_ | refine k_if (by (try simp (disch := omega) only [w32_id, hw]); exact Iff.rfl) (fun c => ?_) (fun c => ?_))
    exact Ok.ret rfl
end CT
