/-! judge -/
section S2
variable {M M1 M2 M3 : Int → Int → Int} {G : GG} {td r rg w mk : Int}
theorem stT.q (h : stT M M1 rg) : rQ M M1 := ⟨fun a ha => h.1 a (by omega) (by omega) (by omega) (by omega), fun k _ _ _ k3 _ _ => h.2.1 k k3, h.2.2.2.2.1⟩
/-- the told world, with errors er, stands in the reference's rows -/
theorem tld_C (h0 : Inv0 M G td r) (hR : isR M G td rg) {er : Int → Int} {N : Int → Int → Int} (f : ∀ a, a ≠ 124 → a ≠ 129 → a ≠ 130 → a ≠ 131 → a ≠ 142 → a ≠ 143 → a ≠ 144 → N a = M a) (f124 : ∀ k, k ≠ 26 → N 124 k = M 124 k) (h26 : N 124 26 = 0) (h129 : ∀ i, 0 ≤ i → i < 216 → N 129 i = M (rg + 1) i) (hb : ∀ i, 0 ≤ N 129 i ∧ N 129 i < 6) (h130 : ∀ t, 0 ≤ t → t < M rg 3 → N 130 t = M (rg + 2) t) (h131 : ∀ i, 0 ≤ i → i < 4 * M 24 2 → N 131 i = er i) : rC N G rg (M 24 0) (M 24 1) (M 24 2) (M (td + 3)) er ∧ rSt N N (M 24 0) (M 24 1) (M 24 2) 6 (M (td + 3)) er 0 (M (td + 2)) 0 0 := by
  have hG := h0.1.1
  have hB := hR.B hG
  have hrg := hB.2.2.1
  obtain ⟨e0, e1, e2, e3, ⟨a1, a2, b1, b2, t1, t6, -⟩, -⟩ := hR.cl
  obtain ⟨-, -, -, -, -, -, ⟨c1, c2, c3, c4, c5, c6, c7, c8⟩, -⟩ := hR
  have frg := f rg (by omega) (by omega) (by omega) (by omega) (by omega) (by omega) (by omega)
  have hml := mul_b a1 a2 b1 b2
  refine ⟨⟨hG, pr124.u h0.2.2.1.1 (fun k hk => f124 k (by omega)), hB.cg (f124 3 (by omega)) frg, by rw [frg]; exact e0, by rw [frg]; exact e1, by rw [frg]; exact e3, fun t t0 t1 => ?_, fun i i0 i1 => h131 i i0 i1⟩, fun _ _ _ _ => rfl, fun _ _ => rfl, ?_, hb, fun k t q hk t0 t1 q0 q1 => ?_, fun k t hk t0 t1 => by omega⟩
  · rw [h130 t t0 (by rw [e3]; exact t1)]
    exact c4 t t0 t1
  · rw [h26, show (0 * rk er (M 24 2).toNat + rk er (0 : Int).toNat) = 0 by rw [Nat.zero_mul]; rfl]
    rfl
  · have hk : k = 0 := by omega
    subst hk
    have hc := c3 t (inn (M 24 0) q) t0 t1 (inn_in a1 a2 b1 b2 q0 q1)
    rw [idx_inn a1 a2 q0] at hc
    rw [show 216 * ((0 : Nat) : Int) + 36 * t + q = 36 * t + q by omega, h129 _ (by omega) (by omega), hc]
    rfl
theorem X11_latestSeen_ok (hB : rB M G rg) (hg : gRg G rg) (hpr : pRg (M rg) rg) (n0 : 0 ≤ M rg 5) (n8 : M rg 5 ≤ 8) (hs : ∀ i, 0 ≤ i → i < M rg 5 → 1 ≤ M (rg + 6) i ∧ M (rg + 6) i ≤ 20) : Ok (M_X11_latestSeen (M, G) 124) (fun L => 0 ≤ L ∧ L ≤ 20 ∧ ∀ i, 0 ≤ i → i < M rg 5 → M (rg + 6) i ≤ L) := by
  obtain ⟨k124, r3, r0, kr, -⟩ := hB
  obtain ⟨-, -, -, -, -, -, -, ⟨kr6, lr6⟩, -⟩ := hg
  obtain ⟨-, -, -, -, -, q12, -⟩ := hpr
  unfold M_X11_latestSeen M_X11_latestSeen_w4 M_X11_latestSeen_p48
  refine k_tk k124 ?_
  refine Ok.bind (Q := fun L => 0 ≤ L ∧ L ≤ 20 ∧ ∀ i, 0 ≤ i → i < M rg 5 → M (rg + 6) i ≤ L) ?_ (fun b hb => Ok.ret hb)
  refine wh_for (fun n s => s.2 = (n : Int) ∧ 0 ≤ s.1 ∧ s.1 ≤ 20 ∧ ∀ i, 0 ≤ i → i < (n : Int) → M (rg + 6) i ≤ s.1) _ (M rg 5).toNat (by omega) ⟨rfl, by dsimp only; omega, by dsimp only; omega, fun i i0 i1 => by omega⟩ ?_ ?_
  · rintro n ⟨x, j⟩ hn ⟨e, x0, x1, hx⟩
    dsimp only at e x0 x1 hx ⊢
    subst e
    have hsn := hs n (by omega) (by omega)
    unfold M_X11_latestSeen_b4 M_X11_latestSeen_p41
    by_cases y : x < M (rg + 6) (n : Int)
    · repeat' (with_reducible first | refine k_gf (by first | assumption | omega) (by first | assumption | ((try simp (disch := omega) only [sr_s, sr_a, sr_sr, u1_s, u1_k, r3, q12]); exact rfl)) ?_ | refine k_gr (by first | assumption | omega) (by first | assumption | ((try simp (disch := omega) only [sr_s, sr_a, sr_sr, u1_s, u1_k, r3, q12]); exact rfl)) (by omega) ?_ | refine k_ald (by first | assumption | omega) (by first | assumption | exact rfl) (by omega) (by omega) (by omega) (by first | assumption | ((try simp (disch := omega) only [sr_s, sr_a, sr_sr, u1_s, u1_k, r3, q12]); exact rfl)) ?_ | refine k_ifT (by first | (simp (disch := omega) only [w32_id]; first | done | omega) | omega) ?_ | refine k_ifF (by first | (simp (disch := omega) only [w32_id]; first | done | omega) | omega) ?_ | refine k_pf (by first | assumption | omega) (by (try simp (disch := omega) only [sr_s, sr_a, sr_sr, u1_u1, r3, q12]); exact rfl) ?_ | refine k_ast (by first | assumption | omega) (by first | assumption | exact rfl) (by omega) (by omega) (by omega) (by (try simp (disch := omega) only [sr_s, sr_a, sr_sr, u1_u1, r3, q12]); exact rfl) ?_ | refine k_irm (by omega) (by omega) (by omega) (by omega) ?_ | refine k_idv (by omega) (by omega) (by omega) (by omega) ?_ | refine k_tk (by first | assumption | omega) ?_ | refine k_rp (by omega) ?_ | refine k_aldR (by first | assumption | omega) (by first | assumption | exact rfl) (by omega) (by omega) (by omega) (by first | assumption | ((try simp (disch := omega) only [sr_s, sr_a, sr_sr, u1_s, u1_k, r3, q12]); exact rfl)) (by omega) ?_ | refine k_astR (by first | assumption | omega) (by first | assumption | exact rfl) (by omega) (by omega) (by omega) (by first | assumption | omega) (by (try simp (disch := omega) only [sr_s, sr_a, sr_sr, u1_u1, r3, q12]); exact rfl) ?_ | refine k_pz (by first | assumption | omega) (by omega) (by (try simp (disch := omega) only [sr_s, sr_a, sr_sr, u1_u1, r3, q12]); exact rfl) ?_ | refine k_alen (by first | assumption | omega) (by first | assumption | exact rfl) ?_ | refine k_cpy (by first | assumption | omega) (by first | assumption | omega) (by first | assumption | exact rfl) (by first | assumption | exact rfl) (by omega) (by omega) (by omega) (by omega) (by omega) (by omega) (by omega) (by omega) (by (try simp (disch := omega) only [sr_s, sr_a, sr_sr, u1_u1, r3, q12]); exact rfl) ?_)
      refine Ok.ret ⟨by dsimp only; omega, by dsimp only; omega, by dsimp only; omega, fun i i0 i1 => ?_⟩
      dsimp only
      by_cases y2 : i = (n : Int)
      · rw [y2]; omega
      · have := hx i i0 (by omega); omega
    · repeat' (with_reducible first | refine k_gf (by first | assumption | omega) (by first | assumption | ((try simp (disch := omega) only [sr_s, sr_a, sr_sr, u1_s, u1_k, r3, q12]); exact rfl)) ?_ | refine k_gr (by first | assumption | omega) (by first | assumption | ((try simp (disch := omega) only [sr_s, sr_a, sr_sr, u1_s, u1_k, r3, q12]); exact rfl)) (by omega) ?_ | refine k_ald (by first | assumption | omega) (by first | assumption | exact rfl) (by omega) (by omega) (by omega) (by first | assumption | ((try simp (disch := omega) only [sr_s, sr_a, sr_sr, u1_s, u1_k, r3, q12]); exact rfl)) ?_ | refine k_ifT (by first | (simp (disch := omega) only [w32_id]; first | done | omega) | omega) ?_ | refine k_ifF (by first | (simp (disch := omega) only [w32_id]; first | done | omega) | omega) ?_ | refine k_pf (by first | assumption | omega) (by (try simp (disch := omega) only [sr_s, sr_a, sr_sr, u1_u1, r3, q12]); exact rfl) ?_ | refine k_ast (by first | assumption | omega) (by first | assumption | exact rfl) (by omega) (by omega) (by omega) (by (try simp (disch := omega) only [sr_s, sr_a, sr_sr, u1_u1, r3, q12]); exact rfl) ?_ | refine k_irm (by omega) (by omega) (by omega) (by omega) ?_ | refine k_idv (by omega) (by omega) (by omega) (by omega) ?_ | refine k_tk (by first | assumption | omega) ?_ | refine k_rp (by omega) ?_ | refine k_aldR (by first | assumption | omega) (by first | assumption | exact rfl) (by omega) (by omega) (by omega) (by first | assumption | ((try simp (disch := omega) only [sr_s, sr_a, sr_sr, u1_s, u1_k, r3, q12]); exact rfl)) (by omega) ?_ | refine k_astR (by first | assumption | omega) (by first | assumption | exact rfl) (by omega) (by omega) (by omega) (by first | assumption | omega) (by (try simp (disch := omega) only [sr_s, sr_a, sr_sr, u1_u1, r3, q12]); exact rfl) ?_ | refine k_pz (by first | assumption | omega) (by omega) (by (try simp (disch := omega) only [sr_s, sr_a, sr_sr, u1_u1, r3, q12]); exact rfl) ?_ | refine k_alen (by first | assumption | omega) (by first | assumption | exact rfl) ?_ | refine k_cpy (by first | assumption | omega) (by first | assumption | omega) (by first | assumption | exact rfl) (by first | assumption | exact rfl) (by omega) (by omega) (by omega) (by omega) (by omega) (by omega) (by omega) (by omega) (by (try simp (disch := omega) only [sr_s, sr_a, sr_sr, u1_u1, r3, q12]); exact rfl) ?_)
      refine Ok.ret ⟨by dsimp only; omega, x0, x1, fun i i0 i1 => ?_⟩
      dsimp only
      by_cases y2 : i = (n : Int)
      · rw [y2]; omega
      · exact hx i i0 (by omega)
  · rintro ⟨x, j⟩ ⟨e, x0, x1, hx⟩
    dsimp only at e x0 x1 hx ⊢
    subst e
    unfold M_X11_latestSeen_b4
    repeat' (with_reducible first | refine k_gf (by first | assumption | omega) (by first | assumption | ((try simp (disch := omega) only [sr_s, sr_a, sr_sr, u1_s, u1_k, r3]); exact rfl)) ?_ | refine k_gr (by first | assumption | omega) (by first | assumption | ((try simp (disch := omega) only [sr_s, sr_a, sr_sr, u1_s, u1_k, r3]); exact rfl)) (by omega) ?_ | refine k_ald (by first | assumption | omega) (by first | assumption | exact rfl) (by omega) (by omega) (by omega) (by first | assumption | ((try simp (disch := omega) only [sr_s, sr_a, sr_sr, u1_s, u1_k, r3]); exact rfl)) ?_ | refine k_ifT (by first | (simp (disch := omega) only [w32_id]; first | done | omega) | omega) ?_ | refine k_ifF (by first | (simp (disch := omega) only [w32_id]; first | done | omega) | omega) ?_ | refine k_pf (by first | assumption | omega) (by (try simp (disch := omega) only [sr_s, sr_a, sr_sr, u1_u1, r3]); exact rfl) ?_ | refine k_ast (by first | assumption | omega) (by first | assumption | exact rfl) (by omega) (by omega) (by omega) (by (try simp (disch := omega) only [sr_s, sr_a, sr_sr, u1_u1, r3]); exact rfl) ?_ | refine k_irm (by omega) (by omega) (by omega) (by omega) ?_ | refine k_idv (by omega) (by omega) (by omega) (by omega) ?_ | refine k_tk (by first | assumption | omega) ?_ | refine k_rp (by omega) ?_ | refine k_aldR (by first | assumption | omega) (by first | assumption | exact rfl) (by omega) (by omega) (by omega) (by first | assumption | ((try simp (disch := omega) only [sr_s, sr_a, sr_sr, u1_s, u1_k, r3]); exact rfl)) (by omega) ?_ | refine k_astR (by first | assumption | omega) (by first | assumption | exact rfl) (by omega) (by omega) (by omega) (by first | assumption | omega) (by (try simp (disch := omega) only [sr_s, sr_a, sr_sr, u1_u1, r3]); exact rfl) ?_ | refine k_pz (by first | assumption | omega) (by omega) (by (try simp (disch := omega) only [sr_s, sr_a, sr_sr, u1_u1, r3]); exact rfl) ?_ | refine k_alen (by first | assumption | omega) (by first | assumption | exact rfl) ?_ | refine k_cpy (by first | assumption | omega) (by first | assumption | omega) (by first | assumption | exact rfl) (by first | assumption | exact rfl) (by omega) (by omega) (by omega) (by omega) (by omega) (by omega) (by omega) (by omega) (by (try simp (disch := omega) only [sr_s, sr_a, sr_sr, u1_u1, r3]); exact rfl) ?_)
    exact Ok.ret ⟨x0, x1, fun i i0 i1 => hx i i0 (by omega)⟩
theorem X11_firstUnseen_ok (hG : gAll G) (hB : rB M G rg) (p22 : M 124 22 = 129) (hmp : ∀ i, 0 ≤ M 129 i ∧ M 129 i < 6) (hg : gRg G rg) (hpr : pRg (M rg) rg) (n0 : 0 ≤ M rg 5) (n8 : M rg 5 ≤ 8) {F : Nat → Bool} (hs : ∀ i : Nat, (i : Int) < M rg 5 → (0 ≤ 216 * M (rg + 6) i + 36 * M (rg + 5) i + M (rg + 7) i ∧ 216 * M (rg + 6) i + 36 * M (rg + 5) i + M (rg + 7) i < 86616) ∧ (0 ≤ M (rg + 8) i ∧ M (rg + 8) i < 6) ∧ F i = decide (M 129 (216 * M (rg + 6) i + 36 * M (rg + 5) i + M (rg + 7) i) ≠ M (rg + 8) i)) : M_X11_firstUnseen (M, G) 124 = some (fstN F (M rg 5).toNat 0) := by
  obtain ⟨k124, r3, r0, kr, -⟩ := hB
  obtain ⟨-, -, -, -, -, -, ⟨kr5, lr5⟩, ⟨kr6, lr6⟩, ⟨kr7, lr7⟩, ⟨kr8, lr8⟩, -⟩ := hg
  obtain ⟨-, -, -, -, q11, q12, q13, q14, -⟩ := hpr
  refine Ok.eq ?_
  unfold M_X11_firstUnseen M_X11_firstUnseen_w2
  refine k_tk k124 ?_
  generalize hV : fstN F (M rg 5).toNat 0 = V
  have hlo : Ok (wh (S := Int) (T := (Unit ⊕ (Int))) (fun a => M_X11_firstUnseen_b2 (M, G) 124 a) FU 0) (lo (fun _ => V = -2) (fun z => z = V)) := by
    refine wh_for (fun i s => s = (i : Int) ∧ V = fstN F ((M rg 5).toNat - i) i) _ (M rg 5).toNat (by omega) ⟨rfl, by rw [Nat.sub_zero]; exact hV.symm⟩ ?_ ?_
    · rintro i _ hi ⟨rfl, hv⟩
      rw [show (M rg 5).toNat - i = ((M rg 5).toNat - (i + 1)) + 1 by omega] at hv
      unfold fstN at hv
      obtain ⟨⟨x1, x2⟩, ⟨x3, x4⟩, x5⟩ := hs i (by omega)
      have hbe := X11_behind_ok (M := M) (n := M (rg + 6) i) (t := M (rg + 5) i) (i := M (rg + 7) i) hG p22 x1 x2
      have hmi := hmp (216 * M (rg + 6) i + 36 * M (rg + 5) i + M (rg + 7) i)
      generalize M 129 (216 * M (rg + 6) i + 36 * M (rg + 5) i + M (rg + 7) i) = B at *
      unfold M_X11_firstUnseen_b2
      by_cases y : B = M (rg + 8) i
      · rw [if_neg (by rw [x5]; simpa using y)] at hv
        repeat' (with_reducible first | refine k_gf (by first | assumption | omega) (by first | assumption | ((try simp (disch := omega) only [sr_s, sr_a, sr_sr, u1_s, u1_k, r3, q11, q12, q13, q14]); exact rfl)) ?_ | refine k_gr (by first | assumption | omega) (by first | assumption | ((try simp (disch := omega) only [sr_s, sr_a, sr_sr, u1_s, u1_k, r3, q11, q12, q13, q14]); exact rfl)) (by omega) ?_ | refine k_ald (by first | assumption | omega) (by first | assumption | exact rfl) (by omega) (by omega) (by omega) (by first | assumption | ((try simp (disch := omega) only [sr_s, sr_a, sr_sr, u1_s, u1_k, r3, q11, q12, q13, q14]); exact rfl)) ?_ | refine k_eq (hbe) ?_ | refine k_ifT (by first | (simp (disch := omega) only [w32_id]; first | done | omega) | omega) ?_ | refine k_ifF (by first | (simp (disch := omega) only [w32_id]; first | done | omega) | omega) ?_ | refine k_pf (by first | assumption | omega) (by (try simp (disch := omega) only [sr_s, sr_a, sr_sr, u1_u1, r3, q11, q12, q13, q14]); exact rfl) ?_ | refine k_ast (by first | assumption | omega) (by first | assumption | exact rfl) (by omega) (by omega) (by omega) (by (try simp (disch := omega) only [sr_s, sr_a, sr_sr, u1_u1, r3, q11, q12, q13, q14]); exact rfl) ?_ | refine k_irm (by omega) (by omega) (by omega) (by omega) ?_ | refine k_idv (by omega) (by omega) (by omega) (by omega) ?_ | refine k_tk (by first | assumption | omega) ?_ | refine k_rp (by omega) ?_ | refine k_aldR (by first | assumption | omega) (by first | assumption | exact rfl) (by omega) (by omega) (by omega) (by first | assumption | ((try simp (disch := omega) only [sr_s, sr_a, sr_sr, u1_s, u1_k, r3, q11, q12, q13, q14]); exact rfl)) (by omega) ?_ | refine k_astR (by first | assumption | omega) (by first | assumption | exact rfl) (by omega) (by omega) (by omega) (by first | assumption | omega) (by (try simp (disch := omega) only [sr_s, sr_a, sr_sr, u1_u1, r3, q11, q12, q13, q14]); exact rfl) ?_ | refine k_pz (by first | assumption | omega) (by omega) (by (try simp (disch := omega) only [sr_s, sr_a, sr_sr, u1_u1, r3, q11, q12, q13, q14]); exact rfl) ?_ | refine k_alen (by first | assumption | omega) (by first | assumption | exact rfl) ?_ | refine k_cpy (by first | assumption | omega) (by first | assumption | omega) (by first | assumption | exact rfl) (by first | assumption | exact rfl) (by omega) (by omega) (by omega) (by omega) (by omega) (by omega) (by omega) (by omega) (by (try simp (disch := omega) only [sr_s, sr_a, sr_sr, u1_u1, r3, q11, q12, q13, q14]); exact rfl) ?_)
        exact Ok.ret ⟨by omega, hv⟩
      · rw [if_pos (by rw [x5]; simpa using y)] at hv
        repeat' (with_reducible first | refine k_gf (by first | assumption | omega) (by first | assumption | ((try simp (disch := omega) only [sr_s, sr_a, sr_sr, u1_s, u1_k, r3, q11, q12, q13, q14]); exact rfl)) ?_ | refine k_gr (by first | assumption | omega) (by first | assumption | ((try simp (disch := omega) only [sr_s, sr_a, sr_sr, u1_s, u1_k, r3, q11, q12, q13, q14]); exact rfl)) (by omega) ?_ | refine k_ald (by first | assumption | omega) (by first | assumption | exact rfl) (by omega) (by omega) (by omega) (by first | assumption | ((try simp (disch := omega) only [sr_s, sr_a, sr_sr, u1_s, u1_k, r3, q11, q12, q13, q14]); exact rfl)) ?_ | refine k_eq (hbe) ?_ | refine k_ifT (by first | (simp (disch := omega) only [w32_id]; first | done | omega) | omega) ?_ | refine k_ifF (by first | (simp (disch := omega) only [w32_id]; first | done | omega) | omega) ?_ | refine k_pf (by first | assumption | omega) (by (try simp (disch := omega) only [sr_s, sr_a, sr_sr, u1_u1, r3, q11, q12, q13, q14]); exact rfl) ?_ | refine k_ast (by first | assumption | omega) (by first | assumption | exact rfl) (by omega) (by omega) (by omega) (by (try simp (disch := omega) only [sr_s, sr_a, sr_sr, u1_u1, r3, q11, q12, q13, q14]); exact rfl) ?_ | refine k_irm (by omega) (by omega) (by omega) (by omega) ?_ | refine k_idv (by omega) (by omega) (by omega) (by omega) ?_ | refine k_tk (by first | assumption | omega) ?_ | refine k_rp (by omega) ?_ | refine k_aldR (by first | assumption | omega) (by first | assumption | exact rfl) (by omega) (by omega) (by omega) (by first | assumption | ((try simp (disch := omega) only [sr_s, sr_a, sr_sr, u1_s, u1_k, r3, q11, q12, q13, q14]); exact rfl)) (by omega) ?_ | refine k_astR (by first | assumption | omega) (by first | assumption | exact rfl) (by omega) (by omega) (by omega) (by first | assumption | omega) (by (try simp (disch := omega) only [sr_s, sr_a, sr_sr, u1_u1, r3, q11, q12, q13, q14]); exact rfl) ?_ | refine k_pz (by first | assumption | omega) (by omega) (by (try simp (disch := omega) only [sr_s, sr_a, sr_sr, u1_u1, r3, q11, q12, q13, q14]); exact rfl) ?_ | refine k_alen (by first | assumption | omega) (by first | assumption | exact rfl) ?_ | refine k_cpy (by first | assumption | omega) (by first | assumption | omega) (by first | assumption | exact rfl) (by first | assumption | exact rfl) (by omega) (by omega) (by omega) (by omega) (by omega) (by omega) (by omega) (by omega) (by (try simp (disch := omega) only [sr_s, sr_a, sr_sr, u1_u1, r3, q11, q12, q13, q14]); exact rfl) ?_)
        exact Ok.ret hv.symm
    · rintro _ ⟨rfl, hv⟩
      rw [Nat.sub_self] at hv
      unfold M_X11_firstUnseen_b2
      repeat' (with_reducible first | refine k_gf (by first | assumption | omega) (by first | assumption | ((try simp (disch := omega) only [sr_s, sr_a, sr_sr, u1_s, u1_k, r3]); exact rfl)) ?_ | refine k_gr (by first | assumption | omega) (by first | assumption | ((try simp (disch := omega) only [sr_s, sr_a, sr_sr, u1_s, u1_k, r3]); exact rfl)) (by omega) ?_ | refine k_ald (by first | assumption | omega) (by first | assumption | exact rfl) (by omega) (by omega) (by omega) (by first | assumption | ((try simp (disch := omega) only [sr_s, sr_a, sr_sr, u1_s, u1_k, r3]); exact rfl)) ?_ | refine k_ifT (by first | (simp (disch := omega) only [w32_id]; first | done | omega) | omega) ?_ | refine k_ifF (by first | (simp (disch := omega) only [w32_id]; first | done | omega) | omega) ?_ | refine k_pf (by first | assumption | omega) (by (try simp (disch := omega) only [sr_s, sr_a, sr_sr, u1_u1, r3]); exact rfl) ?_ | refine k_ast (by first | assumption | omega) (by first | assumption | exact rfl) (by omega) (by omega) (by omega) (by (try simp (disch := omega) only [sr_s, sr_a, sr_sr, u1_u1, r3]); exact rfl) ?_ | refine k_irm (by omega) (by omega) (by omega) (by omega) ?_ | refine k_idv (by omega) (by omega) (by omega) (by omega) ?_ | refine k_tk (by first | assumption | omega) ?_ | refine k_rp (by omega) ?_ | refine k_aldR (by first | assumption | omega) (by first | assumption | exact rfl) (by omega) (by omega) (by omega) (by first | assumption | ((try simp (disch := omega) only [sr_s, sr_a, sr_sr, u1_s, u1_k, r3]); exact rfl)) (by omega) ?_ | refine k_astR (by first | assumption | omega) (by first | assumption | exact rfl) (by omega) (by omega) (by omega) (by first | assumption | omega) (by (try simp (disch := omega) only [sr_s, sr_a, sr_sr, u1_u1, r3]); exact rfl) ?_ | refine k_pz (by first | assumption | omega) (by omega) (by (try simp (disch := omega) only [sr_s, sr_a, sr_sr, u1_u1, r3]); exact rfl) ?_ | refine k_alen (by first | assumption | omega) (by first | assumption | exact rfl) ?_ | refine k_cpy (by first | assumption | omega) (by first | assumption | omega) (by first | assumption | exact rfl) (by first | assumption | exact rfl) (by omega) (by omega) (by omega) (by omega) (by omega) (by omega) (by omega) (by omega) (by (try simp (disch := omega) only [sr_s, sr_a, sr_sr, u1_u1, r3]); exact rfl) ?_)
      exact Ok.ret hv
  refine Ok.bind hlo ?_
  intro z hz
  cases z with
  | inl h =>
    have hz : V = -2 := hz
    rw [exi_l]
    unfold M_X11_firstUnseen_p64
    exact Ok.ret hz.symm
  | inr q =>
    have hz : q = V := hz
    rw [exi_r]
    exact Ok.ret hz
/-- the told world by errors er: is the i-th not so -/
def sfE (M : Int → Int → Int) (td : Int) (er : Int → Int) (i : Nat) : Bool := decide (bh (M 24 0) (M 24 1) (M 24 2) (M (td + 3)) er 0 (M (td + 2)) (M (td + 8) i).toNat (36 * M (td + 7) i + M (td + 9) i) ≠ M (td + 10) i)
theorem isR.se (hR : isR M G td rg) : seB M td (M 24 0) (M 24 1) (M 24 2) := by
  have hmk := hR.mk
  obtain ⟨-, -, -, -, -, -, -, -, ⟨s1, s2, s3, s4⟩, -⟩ := hR
  refine ⟨s2, s3, fun i i0 i1 => ?_⟩
  obtain ⟨x1, x2, x3, x4, -⟩ := s4 i i0 i1
  exact ⟨x1, x2, x3, x4.1, by omega⟩
/-- the reference: rounds as far as was seen, then the first that isn't so -/
theorem X11_seen_ok (h0 : Inv0 M G td r) (hR : isR M G td rg) {er : Int → Int} {N : Int → Int → Int} (f : ∀ a, a ≠ 124 → a ≠ 129 → a ≠ 130 → a ≠ 131 → a ≠ 142 → a ≠ 143 → a ≠ 144 → N a = M a) (hC : rC N G rg (M 24 0) (M 24 1) (M 24 2) (M (td + 3)) er) (hS : rSt N N (M 24 0) (M 24 1) (M 24 2) 6 (M (td + 3)) er 0 (M (td + 2)) 0 0) (hwf : wfW (M 24 0) (M 24 1) (M 24 2) 6 (M (td + 3)) er 0 (M (td + 2))) : Ok ((M_X11_latestSeen (N, G) 124).bind fun L => (M_X11_steps (N, G) 124 L).bind fun h => (M_X11_firstUnseen h 124).bind fun x => some (h, x)) (fun z => ∃ M1, z = ((M1, G), fstN (sfE M td er) (M td 9).toNat 0) ∧ (∀ a, a ≠ 124 → a ≠ 129 → a ≠ 132 → M1 a = N a) ∧ (∀ k, k ≠ 26 → M1 124 k = N 124 k) ∧ ∀ i, 0 ≤ M1 129 i ∧ M1 129 i < 6) := by
  have hG := h0.1.1
  have hg := hR.2.1
  have hpr := hR.2.2.1
  have hrg := hg.1
  have hwf' := hwf
  obtain ⟨a1, a2, b1, b2, t1, t6, -⟩ := hwf
  have hml := mul_b a1 a2 b1 b2
  have hmk := hR.mk
  obtain ⟨s1, s2, s3, s4⟩ := hR.2.2.2.2.2.2.2.2.1
  have fr : ∀ a, 146 ≤ a → N a = M a := fun a ha => f a (by omega) (by omega) (by omega) (by omega) (by omega) (by omega) (by omega)
  have hrg5 : N rg 5 = M td 9 := by rw [fr rg hrg]; exact s1
  refine Ok.bind (X11_latestSeen_ok hC.2.2.1 hg (by rw [fr rg hrg]; exact hpr) (by omega) (by omega) (fun i i0 i1 => ?_)) ?_
  · obtain ⟨-, x2, -, -, -, y2, -⟩ := s4 i i0 (by omega)
    rw [fr (rg + 6) (by omega), y2]; exact x2
  · rintro L ⟨L0, L1, hL⟩
    refine Ok.bind (X11_steps_ok hC hwf' L0 (by omega) hS) ?_
    rintro ⟨M1, G1⟩ ⟨eG, h1⟩
    dsimp only at eG h1
    subst eG
    have f1 : ∀ a, 146 ≤ a → M1 a = M a := fun a ha => (h1.1 a (by omega) (by omega) (by omega)).trans (fr a ha)
    have hC1 := hC.cg h1.1 h1.2.1
    refine k_eq (X11_firstUnseen_ok (M := M1) (rg := rg) (F := sfE M td er) hG hC1.2.2.1 (pr124.p22 hC1.2.1) h1.2.2.2.1 hg (by rw [f1 rg hrg]; exact hpr) (by rw [f1 rg hrg]; omega) (by rw [f1 rg hrg]; omega) (fun i hi => ?_)) ?_
    · rw [f1 rg hrg, s1] at hi
      obtain ⟨x1, x2, x3, x4, y1, y2, y3, y4⟩ := s4 i (by omega) hi
      have hb := idx_b a1 a2 b2 x3
      have hLi := hL i (by omega) (by omega)
      rw [fr (rg + 6) (by omega), y2] at hLi
      rw [f1 (rg + 5) (by omega), f1 (rg + 6) (by omega), f1 (rg + 7) (by omega), f1 (rg + 8) (by omega), y1, y2, y3, y4]
      refine ⟨by omega, by omega, ?_⟩
      have hv := h1.2.2.2.2.1 (M (td + 8) i).toNat (M (td + 7) i) (idx (M 24 0) (M (td + 9) i)) (Or.inl (by omega)) x1.1 x1.2 hb.1 hb.2
      rw [show (((M (td + 8) i).toNat : Nat) : Int) = M (td + 8) i by omega, inn_idx a1 a2 x3] at hv
      rw [hv]
      rfl
    · rw [f1 rg hrg, s1]
      exact Ok.ret ⟨M1, rfl, h1.1, h1.2.1, h1.2.2.2.1⟩
theorem tdw_ok (h0 : Inv0 M G td r) (hR : isR M G td rg) : wOK M G (td + 1) (M td 0) ∧ M (td + 1) 0 = M 24 0 ∧ M (td + 1) 1 = M 24 1 ∧ M (td + 1) 2 = M 24 2 ∧ M (td + 1) 6 = 0 ∧ wfW (M 24 0) (M 24 1) (M 24 2) (M td 0) (M (td + 3)) (M (td + 4)) 0 (M (td + 2)) := by
  have ht := h0.tdI
  obtain ⟨w1, w2, w3, w4, -⟩ := hR.2.2.2.2.2.1
  have w6 := hR.2.2.2.2.2.2.1.1
  have w4' := w4
  rw [w6, show td + 1 + 1 = td + 2 by omega, show td + 1 + 2 = td + 3 by omega, show td + 1 + 3 = td + 4 by omega] at w4'
  refine ⟨⟨ht.2.2.2.2.1, ht.2.2.1.1, ?_, by omega⟩, w1, w2, w3, w6, w4'⟩
  show wfW _ _ _ _ _ _ _ _
  rw [w1, w2, w3]
  exact w4
theorem q_judge (h : Inv M G) : Both M G (fun h => M_X9_judge h 0) (fun h => M_X11_judge h 124) := by
  obtain ⟨htr, td, r, h0⟩ := h
  have hG := h0.1.1
  have hh := h0.tw
  have hp0 := h0.1.2.1
  obtain ⟨htd, hsr, hsw, hgr⟩ := h0.tdI
  have hsr1 := hsr.1
  have p2 := h0.1.2.2.2.1
  have kt := hgr.1
  have p4 := pr0.p4 hp0
  have p10 := pr0.p10 hp0
  have k0 := gk_0 hG
  have k24 := gk_24 hG
  have k124 := gk_124 hG
  unfold M_X9_judge M_X11_judge
  by_cases c : 1 ≤ M 24 2
  · obtain ⟨rg, hR⟩ := h0.ring c
    have hmk := hR.mk
    obtain ⟨hW, w0, w1, w2, w6, hwf⟩ := tdw_ok h0 hR
    refine Both.go h0 (fstN (seF M td (td + 1)) (M td 9).toNat 0) 0 (by omega) (by omega) (by omega) ?_ (fun M2 h2 f => ?_)
    · repeat' (with_reducible first | refine k_gf (by first | assumption | omega) (by first | assumption | ((try simp (disch := omega) only [sr_s, sr_a, sr_sr, u1_s, u1_k, p2, p4, p10, hsr1]); exact rfl)) ?_ | refine k_gr (by first | assumption | omega) (by first | assumption | ((try simp (disch := omega) only [sr_s, sr_a, sr_sr, u1_s, u1_k, p2, p4, p10, hsr1]); exact rfl)) (by omega) ?_ | refine k_ald (by first | assumption | omega) (by first | assumption | exact rfl) (by omega) (by omega) (by omega) (by first | assumption | ((try simp (disch := omega) only [sr_s, sr_a, sr_sr, u1_s, u1_k, p2, p4, p10, hsr1]); exact rfl)) ?_ | refine k_ifT (by first | (simp (disch := omega) only [w32_id]; first | done | omega) | omega) ?_ | refine k_ifF (by first | (simp (disch := omega) only [w32_id]; first | done | omega) | omega) ?_ | refine k_pf (by first | assumption | omega) (by (try simp (disch := omega) only [sr_s, sr_a, sr_sr, u1_u1, p2, p4, p10, hsr1]); exact rfl) ?_ | refine k_ast (by first | assumption | omega) (by first | assumption | exact rfl) (by omega) (by omega) (by omega) (by (try simp (disch := omega) only [sr_s, sr_a, sr_sr, u1_u1, p2, p4, p10, hsr1]); exact rfl) ?_ | refine k_irm (by omega) (by omega) (by omega) (by omega) ?_ | refine k_idv (by omega) (by omega) (by omega) (by omega) ?_ | refine k_tk (by first | assumption | omega) ?_ | refine k_rp (by omega) ?_ | refine k_aldR (by first | assumption | omega) (by first | assumption | exact rfl) (by omega) (by omega) (by omega) (by first | assumption | ((try simp (disch := omega) only [sr_s, sr_a, sr_sr, u1_s, u1_k, p2, p4, p10, hsr1]); exact rfl)) (by omega) ?_ | refine k_astR (by first | assumption | omega) (by first | assumption | exact rfl) (by omega) (by omega) (by omega) (by first | assumption | omega) (by (try simp (disch := omega) only [sr_s, sr_a, sr_sr, u1_u1, p2, p4, p10, hsr1]); exact rfl) ?_ | refine k_pz (by first | assumption | omega) (by omega) (by (try simp (disch := omega) only [sr_s, sr_a, sr_sr, u1_u1, p2, p4, p10, hsr1]); exact rfl) ?_ | refine k_alen (by first | assumption | omega) (by first | assumption | exact rfl) ?_ | refine k_cpy (by first | assumption | omega) (by first | assumption | omega) (by first | assumption | exact rfl) (by first | assumption | exact rfl) (by omega) (by omega) (by omega) (by omega) (by omega) (by omega) (by omega) (by omega) (by (try simp (disch := omega) only [sr_s, sr_a, sr_sr, u1_u1, p2, p4, p10, hsr1]); exact rfl) ?_)
      refine Ok.bd (X1_firstNotSo_ok hG h0.1.2.2.2.2.2.2.2.2.2.2.2.2.2.2 htd hsr h0.2.1.2.2.1 hW hmk.2 (by rw [w0, w1, w2]; exact hR.se)) ?_
      rintro _ ⟨M1, rfl, f1, hI1⟩
      exact e_ans hG (cQ.ch h0.2.1 f1 hI1)
    · have f24 : M2 24 = M 24 := f 24 (by omega)
      obtain ⟨rg2, hR2⟩ := h2.ring (by rw [f24]; exact c)
      have hB2 := hR2.B hG
      have r3 := hB2.2.1
      have r0 := hB2.2.2.1
      obtain ⟨-, -, -, -, -, hwf2⟩ := tdw_ok h2 hR2
      obtain ⟨-, -, -, e3, -⟩ := hR2.cl
      have hh2 := h2.tw
      repeat' (with_reducible first | refine k_gf (by first | assumption | omega) (by first | assumption | ((try simp (disch := omega) only [sr_s, sr_a, sr_sr, u1_s, u1_k, r3]); exact rfl)) ?_ | refine k_gr (by first | assumption | omega) (by first | assumption | ((try simp (disch := omega) only [sr_s, sr_a, sr_sr, u1_s, u1_k, r3]); exact rfl)) (by omega) ?_ | refine k_ald (by first | assumption | omega) (by first | assumption | exact rfl) (by omega) (by omega) (by omega) (by first | assumption | ((try simp (disch := omega) only [sr_s, sr_a, sr_sr, u1_s, u1_k, r3]); exact rfl)) ?_ | refine k_ifT (by first | (simp (disch := omega) only [w32_id]; first | done | omega) | omega) ?_ | refine k_ifF (by first | (simp (disch := omega) only [w32_id]; first | done | omega) | omega) ?_ | refine k_pf (by first | assumption | omega) (by (try simp (disch := omega) only [sr_s, sr_a, sr_sr, u1_u1, r3]); exact rfl) ?_ | refine k_ast (by first | assumption | omega) (by first | assumption | exact rfl) (by omega) (by omega) (by omega) (by (try simp (disch := omega) only [sr_s, sr_a, sr_sr, u1_u1, r3]); exact rfl) ?_ | refine k_irm (by omega) (by omega) (by omega) (by omega) ?_ | refine k_idv (by omega) (by omega) (by omega) (by omega) ?_ | refine k_tk (by first | assumption | omega) ?_ | refine k_rp (by omega) ?_ | refine k_aldR (by first | assumption | omega) (by first | assumption | exact rfl) (by omega) (by omega) (by omega) (by first | assumption | ((try simp (disch := omega) only [sr_s, sr_a, sr_sr, u1_s, u1_k, r3]); exact rfl)) (by omega) ?_ | refine k_astR (by first | assumption | omega) (by first | assumption | exact rfl) (by omega) (by omega) (by omega) (by first | assumption | omega) (by (try simp (disch := omega) only [sr_s, sr_a, sr_sr, u1_u1, r3]); exact rfl) ?_ | refine k_pz (by first | assumption | omega) (by omega) (by (try simp (disch := omega) only [sr_s, sr_a, sr_sr, u1_u1, r3]); exact rfl) ?_ | refine k_alen (by first | assumption | omega) (by first | assumption | exact rfl) ?_ | refine k_cpy (by first | assumption | omega) (by first | assumption | omega) (by first | assumption | exact rfl) (by first | assumption | exact rfl) (by omega) (by omega) (by omega) (by omega) (by omega) (by omega) (by omega) (by omega) (by (try simp (disch := omega) only [sr_s, sr_a, sr_sr, u1_u1, r3]); exact rfl) ?_)
      refine Ok.bind (X11_startsTold_ok hG h2.2.2.1.1 h2.2.2.1.2 hR2.2.1 hR2.2.2.1 r3 (by omega) (by omega) hR2.2.2.2.2.2.2.1.2.2.2.2.2.1) ?_
      rintro _ ⟨N, rfl, hN⟩
      have hcc := hR2.2.2.2.2.2.2.1
      obtain ⟨hC, hS⟩ := tld_C (er := M2 (td + 4)) h2 hR2 (fun a n1 n2 n3 n4 _ _ _ => hN.1 a n1 n2 n3 n4) hN.2.1 hN.2.2.1 hN.2.2.2.1 hN.2.2.2.2.1 hN.2.2.2.2.2.1 (fun i i0 i1 => by rw [hN.2.2.2.2.2.2 i i0 (by omega)]; exact hcc.2.2.2.2.1 i i0 i1)
      obtain ⟨_, es, M3, rfl, g1, g2, g3⟩ := X11_seen_ok h2 hR2 (fun a n1 n2 n3 n4 _ _ _ => hN.1 a n1 n2 n3 n4) hC hS (wfW6 hwf2)
      have hv : fstN (sfE M2 td (M2 (td + 4))) (M2 td 9).toNat 0 = fstN (seF M td (td + 1)) (M td 9).toNat 0 := by
        have : sfE M2 td (M2 (td + 4)) = seF M td (td + 1) := by
          funext i
          show decide (bh (M2 24 0) (M2 24 1) (M2 24 2) (M2 (td + 3)) (M2 (td + 4)) 0 (M2 (td + 2)) _ _ ≠ _) = decide (bh (M (td + 1) 0) (M (td + 1) 1) (M (td + 1) 2) (M (td + 1 + 2)) (M (td + 1 + 3)) (M (td + 1) 6) (M (td + 1 + 1)) _ _ ≠ _)
          rw [w0, w1, w2, w6, f24, f (td + 3) (by omega), f (td + 4) (by omega), f (td + 2) (by omega), f (td + 8) (by omega), f (td + 7) (by omega), f (td + 9) (by omega), f (td + 10) (by omega), show td + 1 + 1 = td + 2 by omega, show td + 1 + 2 = td + 3 by omega, show td + 1 + 3 = td + 4 by omega]
        rw [this, f td (by omega)]
      rw [hv] at es
      -- the same run, with the last step of the call behind it
      cases hls : M_X11_latestSeen (N, G) 124 with
      | none => rw [hls] at es; cases es
      | some L =>
        rw [hls] at es
        have es : ((M_X11_steps (N, G) 124 L).bind fun h => (M_X11_firstUnseen h 124).bind fun x => some (h, x)) = some ((M3, G), fstN (seF M td (td + 1)) (M td 9).toNat 0) := es
        cases hst : M_X11_steps (N, G) 124 L with
        | none => rw [hst] at es; cases es
        | some h3 =>
          rw [hst] at es
          have es : ((M_X11_firstUnseen h3 124).bind fun x => some (h3, x)) = some ((M3, G), fstN (seF M td (td + 1)) (M td 9).toNat 0) := es
          cases hfu : M_X11_firstUnseen h3 124 with
          | none => rw [hfu] at es; cases es
          | some x =>
            rw [hfu] at es
            have es : some (h3, x) = some ((M3, G), fstN (seF M td (td + 1)) (M td 9).toNat 0) := es
            simp only [Option.some.injEq, Prod.mk.injEq] at es
            obtain ⟨e1, e2⟩ := es
            subst e1 e2
            refine k_eq rfl (k_eq hst (k_eq hfu ?_))
            exact e_good hG (hN.q.trans ⟨fun a ha => g1 a (by omega) (by omega) (by omega), fun k _ _ _ k3 _ _ => g2 k k3, g3⟩)
  · refine Both.go h0 (-1) 1 (by omega) (by omega) (by omega) ?_ (fun M2 h2 f => ?_)
    · repeat' (with_reducible first | refine k_gf (by first | assumption | omega) (by first | assumption | ((try simp (disch := omega) only [sr_s, sr_a, sr_sr, u1_s, u1_k, p4]); exact rfl)) ?_ | refine k_gr (by first | assumption | omega) (by first | assumption | ((try simp (disch := omega) only [sr_s, sr_a, sr_sr, u1_s, u1_k, p4]); exact rfl)) (by omega) ?_ | refine k_ald (by first | assumption | omega) (by first | assumption | exact rfl) (by omega) (by omega) (by omega) (by first | assumption | ((try simp (disch := omega) only [sr_s, sr_a, sr_sr, u1_s, u1_k, p4]); exact rfl)) ?_ | refine k_ifT (by first | (simp (disch := omega) only [w32_id]; first | done | omega) | omega) ?_ | refine k_ifF (by first | (simp (disch := omega) only [w32_id]; first | done | omega) | omega) ?_ | refine k_pf (by first | assumption | omega) (by (try simp (disch := omega) only [sr_s, sr_a, sr_sr, u1_u1, p4]); exact rfl) ?_ | refine k_ast (by first | assumption | omega) (by first | assumption | exact rfl) (by omega) (by omega) (by omega) (by (try simp (disch := omega) only [sr_s, sr_a, sr_sr, u1_u1, p4]); exact rfl) ?_ | refine k_irm (by omega) (by omega) (by omega) (by omega) ?_ | refine k_idv (by omega) (by omega) (by omega) (by omega) ?_ | refine k_tk (by first | assumption | omega) ?_ | refine k_rp (by omega) ?_ | refine k_aldR (by first | assumption | omega) (by first | assumption | exact rfl) (by omega) (by omega) (by omega) (by first | assumption | ((try simp (disch := omega) only [sr_s, sr_a, sr_sr, u1_s, u1_k, p4]); exact rfl)) (by omega) ?_ | refine k_astR (by first | assumption | omega) (by first | assumption | exact rfl) (by omega) (by omega) (by omega) (by first | assumption | omega) (by (try simp (disch := omega) only [sr_s, sr_a, sr_sr, u1_u1, p4]); exact rfl) ?_ | refine k_pz (by first | assumption | omega) (by omega) (by (try simp (disch := omega) only [sr_s, sr_a, sr_sr, u1_u1, p4]); exact rfl) ?_ | refine k_alen (by first | assumption | omega) (by first | assumption | exact rfl) ?_ | refine k_cpy (by first | assumption | omega) (by first | assumption | omega) (by first | assumption | exact rfl) (by first | assumption | exact rfl) (by omega) (by omega) (by omega) (by omega) (by omega) (by omega) (by omega) (by omega) (by (try simp (disch := omega) only [sr_s, sr_a, sr_sr, u1_u1, p4]); exact rfl) ?_)
      exact e_ref hG (cQ.refl h0.2.1)
    · have f24 : M2 24 = M 24 := f 24 (by omega)
      rcases h2.2.2.2.2.2 with hn | ⟨rg, hR⟩
      · have r3 : M2 124 3 = -1 := hn.1
        repeat' (with_reducible first | refine k_gf (by first | assumption | omega) (by first | assumption | ((try simp (disch := omega) only [sr_s, sr_a, sr_sr, u1_s, u1_k, r3]); exact rfl)) ?_ | refine k_gr (by first | assumption | omega) (by first | assumption | ((try simp (disch := omega) only [sr_s, sr_a, sr_sr, u1_s, u1_k, r3]); exact rfl)) (by omega) ?_ | refine k_ald (by first | assumption | omega) (by first | assumption | exact rfl) (by omega) (by omega) (by omega) (by first | assumption | ((try simp (disch := omega) only [sr_s, sr_a, sr_sr, u1_s, u1_k, r3]); exact rfl)) ?_ | refine k_ifT (by first | (simp (disch := omega) only [w32_id]; first | done | omega) | omega) ?_ | refine k_ifF (by first | (simp (disch := omega) only [w32_id]; first | done | omega) | omega) ?_ | refine k_pf (by first | assumption | omega) (by (try simp (disch := omega) only [sr_s, sr_a, sr_sr, u1_u1, r3]); exact rfl) ?_ | refine k_ast (by first | assumption | omega) (by first | assumption | exact rfl) (by omega) (by omega) (by omega) (by (try simp (disch := omega) only [sr_s, sr_a, sr_sr, u1_u1, r3]); exact rfl) ?_ | refine k_irm (by omega) (by omega) (by omega) (by omega) ?_ | refine k_idv (by omega) (by omega) (by omega) (by omega) ?_ | refine k_tk (by first | assumption | omega) ?_ | refine k_rp (by omega) ?_ | refine k_aldR (by first | assumption | omega) (by first | assumption | exact rfl) (by omega) (by omega) (by omega) (by first | assumption | ((try simp (disch := omega) only [sr_s, sr_a, sr_sr, u1_s, u1_k, r3]); exact rfl)) (by omega) ?_ | refine k_astR (by first | assumption | omega) (by first | assumption | exact rfl) (by omega) (by omega) (by omega) (by first | assumption | omega) (by (try simp (disch := omega) only [sr_s, sr_a, sr_sr, u1_u1, r3]); exact rfl) ?_ | refine k_pz (by first | assumption | omega) (by omega) (by (try simp (disch := omega) only [sr_s, sr_a, sr_sr, u1_u1, r3]); exact rfl) ?_ | refine k_alen (by first | assumption | omega) (by first | assumption | exact rfl) ?_ | refine k_cpy (by first | assumption | omega) (by first | assumption | omega) (by first | assumption | exact rfl) (by first | assumption | exact rfl) (by omega) (by omega) (by omega) (by omega) (by omega) (by omega) (by omega) (by omega) (by (try simp (disch := omega) only [sr_s, sr_a, sr_sr, u1_u1, r3]); exact rfl) ?_)
        exact e_rref hG (rQ.refl h2.2.2.1.2)
      · have := hR.cl.2.2.2.2.1.2.2.2.2.1
        rw [f24] at this
        omega
end S2
