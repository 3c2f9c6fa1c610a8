/-! the reference: rounds, held against bh -/
theorem inn_b {wd hi q : Int} (a1 : 2 ≤ wd) (a2 : wd ≤ 6) (b1 : 2 ≤ hi) (b2 : hi ≤ 6) (q0 : 0 ≤ q) (q1 : q < wd * hi) : 0 ≤ inn wd q ∧ inn wd q < 36 ∧ inn wd q % 6 < wd ∧ inn wd q / 6 < hi := by
  have h := inn_in a1 a2 b1 b2 q0 q1
  unfold inV at h
  omega
section RU
variable {M M' : Int → Int → Int} {G : GG} {rg wd hi tw mk s0 : Int} {co er ce : Int → Int}
/-- the reference's own rows are those of a world -/
def rC (M : Int → Int → Int) (G : GG) (rg wd hi tw : Int) (co er : Int → Int) : Prop := gAll G ∧ pr124 (M 124) ∧ rB M G rg ∧ M rg 0 = wd ∧ M rg 1 = hi ∧ M rg 3 = tw ∧ (∀ t, 0 ≤ t → t < tw → M 130 t = co t) ∧ (∀ i, 0 ≤ i → i < 4 * tw → M 131 i = er i)
/-- behind n rounds and j towns of the next -/
def rSt (M M' : Int → Int → Int) (wd hi tw mk : Int) (co er : Int → Int) (s0 : Int) (ce : Int → Int) (n : Nat) (j : Int) : Prop :=
  (∀ a, a ≠ 124 → a ≠ 129 → a ≠ 132 → M' a = M a) ∧ (∀ i, i ≠ 26 → M' 124 i = M 124 i) ∧ M' 124 26 = nsI (n * rk er tw.toNat + rk er j.toNat) s0 ∧ (∀ i, 0 ≤ M' 129 i ∧ M' 129 i < mk) ∧
  (∀ (k : Nat) (t q : Int), (k ≤ n ∨ k = n + 1 ∧ t < j) → 0 ≤ t → t < tw → 0 ≤ q → q < wd * hi → M' 129 (216 * k + 36 * t + q) = bh wd hi tw co er s0 ce k (36 * t + inn wd q)) ∧
  (∀ (k : Nat) (t : Int), (k < n ∨ k = n ∧ t < j) → 0 ≤ t → t < tw → M' 132 (6 * k + t) = if co t ≠ -2 ∧ er (4 * t) = 9 then nsI (k * rk er tw.toNat + rk er t.toNat + 1) s0 % (wd * hi) else -1)
theorem rC.cg (h : rC M G rg wd hi tw co er) (f : ∀ a, a ≠ 124 → a ≠ 129 → a ≠ 132 → M' a = M a) (f2 : ∀ i, i ≠ 26 → M' 124 i = M 124 i) : rC M' G rg wd hi tw co er := by
  obtain ⟨hG, hp, hB, h0, h1, h3, hc, he⟩ := h
  have hr : M' rg = M rg := f rg (by have := hB.2.2.1; omega) (by have := hB.2.2.1; omega) (by have := hB.2.2.1; omega)
  refine ⟨hG, hp.u (fun k hk => f2 k (by omega)), hB.cg (f2 3 (by omega)) hr, by rw [hr]; exact h0, by rw [hr]; exact h1, by rw [hr]; exact h3, ?_, ?_⟩
  · rw [f 130 (by omega) (by omega) (by omega)]; exact hc
  · rw [f 131 (by omega) (by omega) (by omega)]; exact he
theorem X11_step_town (hC : rC M G rg wd hi tw co er) (hf : wfW wd hi tw mk co er s0 ce) {n : Nat} (hn : n < 400) {j : Int} (j0 : 0 ≤ j) (j1 : j < tw) (hS : rSt M M' wd hi tw mk co er s0 ce n j) : ∃ M2, M_X11_step_b2 (M', G) 124 n j = some (.inl ((M2, G), j + 1)) ∧ rSt M M2 wd hi tw mk co er s0 ce n (j + 1) := by
  obtain ⟨f, f2, hs, hb, hr, hz⟩ := hS
  obtain ⟨hG, hp, hB, h0, h1, h3, hc, he⟩ := hC.cg f f2
  obtain ⟨a1, a2, b1, b2, t1, t6, k2, k6, hco, her, het, hcz, s00, s01, hce⟩ := hf
  have hm := mul_b a1 a2 b1 b2
  have hcj := hc j j0 j1
  have hsb := nsI_b s00 s01 (n * rk er tw.toNat + rk er j.toNat)
  have e0 : M' 131 (4 * j) = er (4 * j) := he _ (by omega) (by omega)
  have e1 : M' 131 (4 * j + 1) = er (4 * j + 1) := he _ (by omega) (by omega)
  have e2 : M' 131 (4 * j + 2) = er (4 * j + 2) := he _ (by omega) (by omega)
  have e3 : M' 131 (4 * j + 3) = er (4 * j + 3) := he _ (by omega) (by omega)
  have hej : errT wd hi mk (M' 131) j := by show errB _ _ _ _ _ _ _; rw [e0, e1, e2, e3]; exact het j j0 j1
  have hcj2 := hco j
  refine ⟨_, X11_town_ok (mk := mk) (rg := rg) hG hp hB (by rw [h0, h1]; exact hej) (by omega) j0 (by omega) (by omega) (by omega) (by omega) (by omega) (by rw [hcj]; intro h; exact (hcz j j0 j1 h).1) (by omega) (by omega) (by omega) (by omega) hb, ?_⟩
  unfold twnM
  rw [h0, h1]
  have hdr : dpV wd hi (nsV (M' 124 26)) = drV wd hi tw er s0 n j := by unfold drV; rw [hs]; rfl
  have hrk : rk er (j + 1).toNat = rk er j.toNat + (if er (4 * j) = 9 then 1 else 0) := by
    rw [show (j + 1).toNat = j.toNat + 1 by omega]
    show rk er j.toNat + (if er (4 * ((j.toNat : Nat) : Int)) = 9 then 1 else 0) = _
    rw [show ((j.toNat : Nat) : Int) = j by omega]
  have hz2 : co j = -2 → er (4 * j) ≠ 9 := fun h => by have := (hcz j j0 j1 (by omega)).2; omega
  -- the new marks
  have hV : ∀ q, 0 ≤ q → q < wd * hi → (if M' 130 j = -2 then M' 129 (216 * n + 36 * j + q) else mkT wd hi (M' 131) j (fun p => M' 129 (216 * n + 36 * M' 130 j + idx wd p)) (inn wd q) (dpV wd hi (nsV (M' 124 26)))) = bh wd hi tw co er s0 ce (n + 1) (36 * j + inn wd q) := by
    intro q q0 q1
    obtain ⟨i0, i1, i2, i3⟩ := inn_b a1 a2 b1 b2 q0 q1
    show _ = cellV wd hi tw co er (drV wd hi tw er s0 n) (bh wd hi tw co er s0 ce n) (36 * j + inn wd q)
    unfold cellV
    rw [show (36 * j + inn wd q) / 36 = j by omega, show (36 * j + inn wd q) % 36 = inn wd q by omega]
    by_cases c : co j = -2
    · rw [hcj, if_pos c, if_neg (by omega)]
      exact hr n j q (Or.inl (Nat.le_refl _)) j0 j1 q0 q1
    · have c0 : 0 ≤ co j := by
        by_cases h : co j < 0
        · exact absurd (hcz j j0 j1 h).1 c
        · omega
      rw [hcj, if_neg c, if_pos (by omega), hdr]
      show mkV _ _ _ _ _ _ _ _ _ = _
      rw [e0, e1, e2, e3]
      refine mkV_cg (mk := mk) a1 a2 b1 b2 (het j j0 j1) ⟨i0, i2, i3⟩ (fun p hp => ?_)
      have hpb := idx_b a1 a2 b2 hp
      rw [hr n (co j) (idx wd p) (Or.inl (Nat.le_refl _)) c0 (by omega) hpb.1 hpb.2, inn_idx a1 a2 hp]
  refine ⟨fun a x1 x2 x3 => ?_, fun i hi => ?_, ?_, ?_, ?_, ?_⟩
  · rw [sr_a _ _ x1, sr_a _ _ x3, sr_a _ _ x2]; exact f a x1 x2 x3
  · rw [sr_s, u1_k _ _ hi]; exact f2 i hi
  · rw [sr_s, u1_s, hrk, hcj, e0]
    by_cases c : co j ≠ -2 ∧ er (4 * j) = 9
    · rw [if_pos c, if_pos c.2, hs, ← Nat.add_assoc]; rfl
    · rw [if_neg c, if_neg (fun h => c ⟨fun h2 => hz2 h2 h, h⟩), hs, Nat.add_zero]
  · intro i
    rw [sr_a _ _ (by omega), sr_a _ _ (by omega), sr_s]
    unfold fl1
    split
    · rename_i c
      dsimp only
      rw [hV (i - (216 * n + 36 * j + 216)) (by omega) (by omega)]
      exact (bh_wf ⟨a1, a2, b1, b2, t1, t6, k2, k6, hco, her, het, hcz, s00, s01, hce⟩ (n + 1)).2.2.2.2.2.2.2.2.2.2.2.2.2.2 _
    · exact hb i
  · intro k t q hk t0 t1' q0 q1
    rw [sr_a _ _ (by omega), sr_a _ _ (by omega), sr_s]
    unfold fl1
    by_cases c : k = n + 1 ∧ t = j
    · obtain ⟨rfl, rfl⟩ := c
      rw [if_pos (by omega), show (216 * ((n + 1 : Nat) : Int) + 36 * t + q - (216 * (n : Int) + 36 * t + 216)) = q by omega]
      exact hV q q0 q1
    · rw [if_neg (by omega)]
      exact hr k t q (by omega) t0 t1' q0 q1
  · intro k t hk t0 t1'
    rw [sr_a _ _ (by omega), sr_s]
    by_cases c : k = n ∧ t = j
    · obtain ⟨rfl, rfl⟩ := c
      rw [u1_s, hcj, e0, hs]
      rfl
    · rw [u1_k _ _ (by omega)]
      exact hz k t (by omega) t0 t1'
theorem rSt_next {n : Nat} (h : rSt M M' wd hi tw mk co er s0 ce n tw) : rSt M M' wd hi tw mk co er s0 ce (n + 1) 0 := by
  obtain ⟨f, f2, hs, hb, hr, hz⟩ := h
  refine ⟨f, f2, ?_, hb, fun k t q hk t0 t1 q0 q1 => hr k t q (by omega) t0 t1 q0 q1, fun k t hk t0 t1 => hz k t (by omega) t0 t1⟩
  rw [hs, Nat.succ_mul]
  rfl
theorem X11_step_ok (hC : rC M G rg wd hi tw co er) (hf : wfW wd hi tw mk co er s0 ce) {n : Nat} (hn : n < 400) (hS : rSt M M' wd hi tw mk co er s0 ce n 0) : Ok (M_X11_step (M', G) 124 n) (fun h => h.2 = G ∧ rSt M h.1 wd hi tw mk co er s0 ce (n + 1) 0) := by
  have k124 := gk_124 hC.1
  have t1 : 1 ≤ tw := hf.2.2.2.2.1
  have t6 : tw ≤ 6 := hf.2.2.2.2.2.1
  unfold M_X11_step M_X11_step_w2 M_X11_step_p251
  refine k_tk k124 ?_
  refine Ok.bind (wh_for (fun i s => s.1.2 = G ∧ s.2 = (i : Int) ∧ rSt M s.1.1 wd hi tw mk co er s0 ce n (i : Int)) (fun h => h.2 = G ∧ rSt M h.1 wd hi tw mk co er s0 ce (n + 1) 0) tw.toNat (by omega) ⟨rfl, rfl, hS⟩ ?_ ?_) (fun a ha => Ok.ret ha)
  · rintro i ⟨⟨M1, G1⟩, j⟩ hi ⟨e1, e2, h⟩
    dsimp only at e1 e2 h ⊢
    subst e1 e2
    obtain ⟨M2, e, h2⟩ := X11_step_town hC hf hn (by omega) (by omega) h
    exact Ok.of e ⟨rfl, by dsimp only; omega, h2⟩
  · rintro ⟨⟨M1, G1⟩, j⟩ ⟨e1, e2, h⟩
    dsimp only at e1 e2 h ⊢
    subst e1 e2
    obtain ⟨hG, hp, hB, h0, h1, h3, hc, he⟩ := hC.cg h.1 h.2.1
    obtain ⟨k0, r3, r0, kr, a1, a2, b1, b2⟩ := hB
    unfold M_X11_step_b2
    repeat' (with_reducible first | refine k_gf (by first | assumption | omega) (by first | assumption | ((try simp (disch := omega) only [sr_s, sr_a, sr_sr, u1_s, u1_k, r3]); exact rfl)) ?_ | refine k_gr (by first | assumption | omega) (by first | assumption | ((try simp (disch := omega) only [sr_s, sr_a, sr_sr, u1_s, u1_k, r3]); exact rfl)) (by omega) ?_ | refine k_ald (by first | assumption | omega) (by first | assumption | exact rfl) (by omega) (by omega) (by omega) (by first | assumption | ((try simp (disch := omega) only [sr_s, sr_a, sr_sr, u1_s, u1_k, r3]); exact rfl)) ?_ | refine k_ifT (by first | (simp (disch := omega) only [w32_id]; first | done | omega) | omega) ?_ | refine k_ifF (by first | (simp (disch := omega) only [w32_id]; first | done | omega) | omega) ?_ | refine k_pf (by first | assumption | omega) (by (try simp (disch := omega) only [sr_s, sr_a, sr_sr, u1_u1, r3]); exact rfl) ?_ | refine k_ast (by first | assumption | omega) (by first | assumption | exact rfl) (by omega) (by omega) (by omega) (by (try simp (disch := omega) only [sr_s, sr_a, sr_sr, u1_u1, r3]); exact rfl) ?_ | refine k_irm (by omega) (by omega) (by omega) (by omega) ?_ | refine k_idv (by omega) (by omega) (by omega) (by omega) ?_ | refine k_tk (by first | assumption | omega) ?_ | refine k_rp (by omega) ?_ | refine k_aldR (by first | assumption | omega) (by first | assumption | exact rfl) (by omega) (by omega) (by omega) (by first | assumption | ((try simp (disch := omega) only [sr_s, sr_a, sr_sr, u1_s, u1_k, r3]); exact rfl)) (by omega) ?_ | refine k_astR (by first | assumption | omega) (by first | assumption | exact rfl) (by omega) (by omega) (by omega) (by first | assumption | omega) (by (try simp (disch := omega) only [sr_s, sr_a, sr_sr, u1_u1, r3]); exact rfl) ?_ | refine k_pz (by first | assumption | omega) (by omega) (by (try simp (disch := omega) only [sr_s, sr_a, sr_sr, u1_u1, r3]); exact rfl) ?_ | refine k_alen (by first | assumption | omega) (by first | assumption | exact rfl) ?_ | refine k_cpy (by first | assumption | omega) (by first | assumption | omega) (by first | assumption | exact rfl) (by first | assumption | exact rfl) (by omega) (by omega) (by omega) (by omega) (by omega) (by omega) (by omega) (by omega) (by (try simp (disch := omega) only [sr_s, sr_a, sr_sr, u1_u1, r3]); exact rfl) ?_ | refine k_if (by (try simp (disch := omega) only [w32_id]); exact Iff.rfl) (fun c => ?_) (fun c => ?_))
    refine Ok.ret ⟨rfl, ?_⟩
    rw [show ((tw.toNat : Nat) : Int) = tw by omega] at h
    exact rSt_next h
theorem X11_steps_ok (hC : rC M G rg wd hi tw co er) (hf : wfW wd hi tw mk co er s0 ce) {n : Int} (n0 : 0 ≤ n) (n1 : n ≤ 400) (hS : rSt M M' wd hi tw mk co er s0 ce 0 0) : Ok (M_X11_steps (M', G) 124 n) (fun h => h.2 = G ∧ rSt M h.1 wd hi tw mk co er s0 ce n.toNat 0) := by
  have k124 := gk_124 hC.1
  unfold M_X11_steps M_X11_steps_w2 M_X11_steps_p18
  refine k_tk k124 ?_
  refine Ok.bind (wh_for (fun i s => s.1.2 = G ∧ s.2 = (i : Int) ∧ rSt M s.1.1 wd hi tw mk co er s0 ce i 0) (fun h => h.2 = G ∧ rSt M h.1 wd hi tw mk co er s0 ce n.toNat 0) n.toNat (by omega) ⟨rfl, rfl, hS⟩ ?_ ?_) (fun a ha => Ok.ret ha)
  · rintro i ⟨⟨M1, G1⟩, j⟩ hi ⟨e1, e2, h⟩
    dsimp only at e1 e2 h ⊢
    subst e1 e2
    unfold M_X11_steps_b2
    repeat' (with_reducible first | refine k_gf (by first | assumption | omega) (by first | assumption | ((try simp (disch := omega) only [sr_s, sr_a, sr_sr, u1_s, u1_k]); exact rfl)) ?_ | refine k_gr (by first | assumption | omega) (by first | assumption | ((try simp (disch := omega) only [sr_s, sr_a, sr_sr, u1_s, u1_k]); exact rfl)) (by omega) ?_ | refine k_ald (by first | assumption | omega) (by first | assumption | exact rfl) (by omega) (by omega) (by omega) (by first | assumption | ((try simp (disch := omega) only [sr_s, sr_a, sr_sr, u1_s, u1_k]); exact rfl)) ?_ | refine k_ifT (by first | (simp (disch := omega) only [w32_id]; first | done | omega) | omega) ?_ | refine k_ifF (by first | (simp (disch := omega) only [w32_id]; first | done | omega) | omega) ?_ | refine k_pf (by first | assumption | omega) (by (try simp (disch := omega) only [sr_s, sr_a, sr_sr, u1_u1]); exact rfl) ?_ | refine k_ast (by first | assumption | omega) (by first | assumption | exact rfl) (by omega) (by omega) (by omega) (by (try simp (disch := omega) only [sr_s, sr_a, sr_sr, u1_u1]); exact rfl) ?_ | refine k_irm (by omega) (by omega) (by omega) (by omega) ?_ | refine k_idv (by omega) (by omega) (by omega) (by omega) ?_ | refine k_tk (by first | assumption | omega) ?_ | refine k_rp (by omega) ?_ | refine k_aldR (by first | assumption | omega) (by first | assumption | exact rfl) (by omega) (by omega) (by omega) (by first | assumption | ((try simp (disch := omega) only [sr_s, sr_a, sr_sr, u1_s, u1_k]); exact rfl)) (by omega) ?_ | refine k_astR (by first | assumption | omega) (by first | assumption | exact rfl) (by omega) (by omega) (by omega) (by first | assumption | omega) (by (try simp (disch := omega) only [sr_s, sr_a, sr_sr, u1_u1]); exact rfl) ?_ | refine k_pz (by first | assumption | omega) (by omega) (by (try simp (disch := omega) only [sr_s, sr_a, sr_sr, u1_u1]); exact rfl) ?_ | refine k_alen (by first | assumption | omega) (by first | assumption | exact rfl) ?_ | refine k_cpy (by first | assumption | omega) (by first | assumption | omega) (by first | assumption | exact rfl) (by first | assumption | exact rfl) (by omega) (by omega) (by omega) (by omega) (by omega) (by omega) (by omega) (by omega) (by (try simp (disch := omega) only [sr_s, sr_a, sr_sr, u1_u1]); exact rfl) ?_ | refine k_if (by (try simp (disch := omega) only [w32_id]); exact Iff.rfl) (fun c => ?_) (fun c => ?_))
    refine Ok.bind (X11_step_ok hC hf (by omega) h) ?_
    rintro ⟨M2, G2⟩ ⟨e, h2⟩
    exact Ok.ret ⟨e, by dsimp only; omega, h2⟩
  · rintro ⟨⟨M1, G1⟩, j⟩ ⟨e1, e2, h⟩
    dsimp only at e1 e2 h ⊢
    subst e1 e2
    unfold M_X11_steps_b2
    repeat' (with_reducible first | refine k_gf (by first | assumption | omega) (by first | assumption | ((try simp (disch := omega) only [sr_s, sr_a, sr_sr, u1_s, u1_k]); exact rfl)) ?_ | refine k_gr (by first | assumption | omega) (by first | assumption | ((try simp (disch := omega) only [sr_s, sr_a, sr_sr, u1_s, u1_k]); exact rfl)) (by omega) ?_ | refine k_ald (by first | assumption | omega) (by first | assumption | exact rfl) (by omega) (by omega) (by omega) (by first | assumption | ((try simp (disch := omega) only [sr_s, sr_a, sr_sr, u1_s, u1_k]); exact rfl)) ?_ | refine k_ifT (by first | (simp (disch := omega) only [w32_id]; first | done | omega) | omega) ?_ | refine k_ifF (by first | (simp (disch := omega) only [w32_id]; first | done | omega) | omega) ?_ | refine k_pf (by first | assumption | omega) (by (try simp (disch := omega) only [sr_s, sr_a, sr_sr, u1_u1]); exact rfl) ?_ | refine k_ast (by first | assumption | omega) (by first | assumption | exact rfl) (by omega) (by omega) (by omega) (by (try simp (disch := omega) only [sr_s, sr_a, sr_sr, u1_u1]); exact rfl) ?_ | refine k_irm (by omega) (by omega) (by omega) (by omega) ?_ | refine k_idv (by omega) (by omega) (by omega) (by omega) ?_ | refine k_tk (by first | assumption | omega) ?_ | refine k_rp (by omega) ?_ | refine k_aldR (by first | assumption | omega) (by first | assumption | exact rfl) (by omega) (by omega) (by omega) (by first | assumption | ((try simp (disch := omega) only [sr_s, sr_a, sr_sr, u1_s, u1_k]); exact rfl)) (by omega) ?_ | refine k_astR (by first | assumption | omega) (by first | assumption | exact rfl) (by omega) (by omega) (by omega) (by first | assumption | omega) (by (try simp (disch := omega) only [sr_s, sr_a, sr_sr, u1_u1]); exact rfl) ?_ | refine k_pz (by first | assumption | omega) (by omega) (by (try simp (disch := omega) only [sr_s, sr_a, sr_sr, u1_u1]); exact rfl) ?_ | refine k_alen (by first | assumption | omega) (by first | assumption | exact rfl) ?_ | refine k_cpy (by first | assumption | omega) (by first | assumption | omega) (by first | assumption | exact rfl) (by first | assumption | exact rfl) (by omega) (by omega) (by omega) (by omega) (by omega) (by omega) (by omega) (by omega) (by (try simp (disch := omega) only [sr_s, sr_a, sr_sr, u1_u1]); exact rfl) ?_ | refine k_if (by (try simp (disch := omega) only [w32_id]); exact Iff.rfl) (fun c => ?_) (fun c => ?_))
    exact Ok.ret ⟨rfl, h⟩
end RU
