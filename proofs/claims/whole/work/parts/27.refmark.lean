/-! the reference: stains, marks by an error -/
theorem stV_ways {wd hi p k : Int} {m : Int → Int} (p0 : 0 ≤ p) : stV wd hi m p k = if m p = k then p else if bsV wd hi p 0 ≠ -1 ∧ m (bsV wd hi p 0) = k then bsV wd hi p 0 else if bsV wd hi p 1 ≠ -1 ∧ m (bsV wd hi p 1) = k then bsV wd hi p 1 else if bsV wd hi p 2 ≠ -1 ∧ m (bsV wd hi p 2) = k then bsV wd hi p 2 else if bsV wd hi p 3 ≠ -1 ∧ m (bsV wd hi p 3) = k then bsV wd hi p 3 else p := by
  have e0 : bsV wd hi p 0 = if 0 < p % 6 then p - 1 else -1 := rfl
  have e1 : bsV wd hi p 1 = if p % 6 < wd - 1 then p + 1 else -1 := rfl
  have e2 : bsV wd hi p 2 = if 0 < p / 6 then p - 6 else -1 := rfl
  have e3 : bsV wd hi p 3 = if p / 6 < hi - 1 then p + 6 else -1 := rfl
  have n1 : 0 < p % 6 → p - 1 ≠ -1 := by omega
  have n2 : p + 1 ≠ -1 := by omega
  have n3 : 0 < p / 6 → p - 6 ≠ -1 := by omega
  have n4 : p + 6 ≠ -1 := by omega
  unfold stV
  rw [e0, e1, e2, e3]
  by_cases c1 : 0 < p % 6 <;> by_cases c2 : p % 6 < wd - 1 <;> by_cases c3 : 0 < p / 6 <;> by_cases c4 : p / 6 < hi - 1 <;> simp [c1, c2, c3, c4, n1, n2, n3, n4]
theorem srcV_ne {wd hi mk s e1 e2 e3 p dr : Int} {m : Int → Int} (a1 : 2 ≤ wd) (a2 : wd ≤ 6) (b1 : 2 ≤ hi) (b2 : hi ≤ 6) (he : errB wd hi mk s e1 e2 e3) (hp : inV wd hi p) (e : srcV wd hi s e1 e2 e3 m p dr = -1) : s = 1 ∨ s = 7 ∨ s = 9 := by
  have hst := stV_in (m := m) (k := e1) a2 hp
  obtain ⟨s0, s1, d1, d2, d3, d4, d5, d6, fm, f1, f2, f3, f5, f8⟩ := he
  unfold srcV at e
  unfold inV at hp hst
  have hm1 := mod_b (x := p / 6 - e2 + 6 * hi) b1 b2
  have hm2 := mod_b (x := p % 6 - e1 + 6 * wd) a1 a2
  have x1 := mul_b2 (a := p / 6) (b := e1)
  have x2 := mul_b2 (a := p % 6) (b := e1)
  by_cases z1 : s = 1
  · exact Or.inl z1
  by_cases z7 : s = 7
  · exact Or.inr (Or.inl z7)
  by_cases z9 : s = 9
  · exact Or.inr (Or.inr z9)
  exfalso
  rw [if_neg z1, if_neg z7, if_neg z9] at e
  by_cases z2 : s = 2
  · rw [if_pos z2] at e; have := f2 z2; split at e
    · omega
    · split at e <;> omega
  rw [if_neg z2] at e
  by_cases z3 : s = 3
  · rw [if_pos z3] at e; omega
  rw [if_neg z3] at e
  by_cases z4 : s = 4
  · rw [if_pos z4] at e; omega
  rw [if_neg z4] at e
  by_cases z6 : s = 6
  · rw [if_pos z6] at e; omega
  rw [if_neg z6] at e
  by_cases z8 : s = 8
  · rw [if_pos z8] at e
    have := f8 z8
    have x1 := x1 (by omega) (by omega) (by omega) (by omega)
    have x2 := x2 (by omega) (by omega) (by omega) (by omega)
    omega
  rw [if_neg z8] at e
  omega
/-- a place by its row and column -/
theorem rc_eq {wd hi q c r : Int} (a1 : 2 ≤ wd) (a2 : wd ≤ 6) (q0 : 0 ≤ q) (c0 : 0 ≤ c) (c1 : c < wd) : q = r * wd + c ↔ q % wd = c ∧ q / wd = r := by
  have : wd = 2 ∨ wd = 3 ∨ wd = 4 ∨ wd = 5 ∨ wd = 6 := by omega
  rcases this with rfl | rfl | rfl | rfl | rfl <;> omega
section RM
variable {M : Int → Int → Int} {G : GG} {rg q t mk c r mp k : Int}
theorem X11_stainedBy_ok (hB : rB M G rg) (p22 : M 124 22 = 129) (k129 : G.1 129 = 1) (l129 : G.2.1 129 = 86616) (q0 : 0 ≤ q) (q1 : q < M rg 0 * M rg 1) (o0 : 0 ≤ mp) (o1 : mp + 36 ≤ 86616) (hb : ∀ i, 0 ≤ M 129 i ∧ M 129 i ≤ 9) (y0 : -9 ≤ k) (y1 : k ≤ 99) : M_X11_stainedBy (M, G) 124 mp k q = some (idx (M rg 0) (stV (M rg 0) (M rg 1) (fun p => M 129 (mp + idx (M rg 0) p)) (inn (M rg 0) q) k)) := by
  have hB' := hB
  obtain ⟨k0, r3, r0, kr, a1, a2, b1, b2⟩ := hB
  have hm := mul_b a1 a2 b1 b2
  have hw : ∀ i, w32 (M 129 i) = M 129 i := fun i => w32_id (by have := hb i; omega) (by have := hb i; omega)
  have hin := inn_in a1 a2 b1 b2 q0 q1
  have hii := idx_inn a1 a2 q0
  have hbs : ∀ d, bsV (M rg 0) (M rg 1) (inn (M rg 0) q) d ≠ -1 → 0 ≤ idx (M rg 0) (bsV (M rg 0) (M rg 1) (inn (M rg 0) q) d) ∧ idx (M rg 0) (bsV (M rg 0) (M rg 1) (inn (M rg 0) q) d) < M rg 0 * M rg 1 := fun d hd => idx_b a1 a2 b2 ((bsV_in a2 hin).resolve_left hd)
  rw [stV_ways hin.1]
  rw [hii]
  refine Ok.eq ?_
  unfold M_X11_stainedBy M_X11_stainedBy_w17
  repeat' (with_reducible first | refine k_gf (by first | assumption | omega) (by first | assumption | ((try simp (disch := omega) only [sr_s, sr_a, sr_sr, u1_s, u1_k, p22]); exact rfl)) ?_ | refine k_gr (by first | assumption | omega) (by first | assumption | ((try simp (disch := omega) only [sr_s, sr_a, sr_sr, u1_s, u1_k, p22]); exact rfl)) (by omega) ?_ | refine k_ald (by first | assumption | omega) (by first | assumption | exact rfl) (by omega) (by omega) (by omega) (by first | assumption | ((try simp (disch := omega) only [sr_s, sr_a, sr_sr, u1_s, u1_k, p22]); exact rfl)) ?_ | refine k_ifT (by first | (simp (disch := omega) only [w32_id, hw]; first | done | omega) | omega) ?_ | refine k_ifF (by first | (simp (disch := omega) only [w32_id, hw]; first | done | omega) | omega) ?_ | refine k_pf (by first | assumption | omega) (by (try simp (disch := omega) only [sr_s, sr_a, sr_sr, u1_u1, p22]); exact rfl) ?_ | refine k_ast (by first | assumption | omega) (by first | assumption | exact rfl) (by omega) (by omega) (by omega) (by (try simp (disch := omega) only [sr_s, sr_a, sr_sr, u1_u1, p22]); exact rfl) ?_ | refine k_irm (by omega) (by omega) (by omega) (by omega) ?_ | refine k_idv (by omega) (by omega) (by omega) (by omega) ?_ | refine k_tk (by first | assumption | omega) ?_ | refine k_rp (by omega) ?_ | refine k_aldR (by first | assumption | omega) (by first | assumption | exact rfl) (by omega) (by omega) (by omega) (by first | assumption | ((try simp (disch := omega) only [sr_s, sr_a, sr_sr, u1_s, u1_k, p22]); exact rfl)) (by omega) ?_ | refine k_astR (by first | assumption | omega) (by first | assumption | exact rfl) (by omega) (by omega) (by omega) (by first | assumption | omega) (by (try simp (disch := omega) only [sr_s, sr_a, sr_sr, u1_u1, p22]); exact rfl) ?_ | refine k_pz (by first | assumption | omega) (by omega) (by (try simp (disch := omega) only [sr_s, sr_a, sr_sr, u1_u1, p22]); exact rfl) ?_ | refine k_alen (by first | assumption | omega) (by first | assumption | exact rfl) ?_ | refine k_cpy (by first | assumption | omega) (by first | assumption | omega) (by first | assumption | exact rfl) (by first | assumption | exact rfl) (by omega) (by omega) (by omega) (by omega) (by omega) (by omega) (by omega) (by omega) (by (try simp (disch := omega) only [sr_s, sr_a, sr_sr, u1_u1, p22]); exact rfl) ?_ | refine k_if (by (try simp (disch := omega) only [w32_id, hw]); exact Iff.rfl) (fun c => ?_) (fun c => ?_))
  · rw [if_pos (by assumption), hii]
    exact Ok.ret rfl
  · rw [if_neg (by assumption)]
    refine Ok.bind (wh_for (fun i s => s = (i : Int) ∧ ∀ j : Int, 0 ≤ j → j < i → ¬ (bsV (M rg 0) (M rg 1) (inn (M rg 0) q) j ≠ -1 ∧ M 129 (mp + idx (M rg 0) (bsV (M rg 0) (M rg 1) (inn (M rg 0) q) j)) = k)) (fun z => match z with | .inl _ => ∀ j : Int, 0 ≤ j → j < 4 → ¬ (bsV (M rg 0) (M rg 1) (inn (M rg 0) q) j ≠ -1 ∧ M 129 (mp + idx (M rg 0) (bsV (M rg 0) (M rg 1) (inn (M rg 0) q) j)) = k) | .inr x => ∃ i : Int, 0 ≤ i ∧ i < 4 ∧ (∀ j : Int, 0 ≤ j → j < i → ¬ (bsV (M rg 0) (M rg 1) (inn (M rg 0) q) j ≠ -1 ∧ M 129 (mp + idx (M rg 0) (bsV (M rg 0) (M rg 1) (inn (M rg 0) q) j)) = k)) ∧ (bsV (M rg 0) (M rg 1) (inn (M rg 0) q) i ≠ -1 ∧ M 129 (mp + idx (M rg 0) (bsV (M rg 0) (M rg 1) (inn (M rg 0) q) i)) = k) ∧ x = idx (M rg 0) (bsV (M rg 0) (M rg 1) (inn (M rg 0) q) i)) 4 (by omega) ⟨rfl, fun j _ _ => by omega⟩ ?_ ?_) ?_
    · rintro i s hi ⟨rfl, hj⟩
      unfold M_X11_stainedBy_b17 M_X11_stainedBy_p54
      have hk := X11_beside_ok (d := i) hB' q0 q1 (by omega) (by omega)
      have hbi := hbs i
      have hnext : ¬ (bsV (M rg 0) (M rg 1) (inn (M rg 0) q) i ≠ -1 ∧ M 129 (mp + idx (M rg 0) (bsV (M rg 0) (M rg 1) (inn (M rg 0) q) i)) = k) → ∀ j : Int, 0 ≤ j → j < ((i + 1 : Nat) : Int) → ¬ (bsV (M rg 0) (M rg 1) (inn (M rg 0) q) j ≠ -1 ∧ M 129 (mp + idx (M rg 0) (bsV (M rg 0) (M rg 1) (inn (M rg 0) q) j)) = k) := fun hn j j0 j1 => by
        by_cases e : j = i
        · rw [e]; exact hn
        · exact hj j j0 (by omega)
      by_cases e : bsV (M rg 0) (M rg 1) (inn (M rg 0) q) i = -1
      · rw [if_pos e] at hk
        repeat' (with_reducible first | refine k_gf (by first | assumption | omega) (by first | assumption | ((try simp (disch := omega) only [sr_s, sr_a, sr_sr, u1_s, u1_k, p22]); exact rfl)) ?_ | refine k_gr (by first | assumption | omega) (by first | assumption | ((try simp (disch := omega) only [sr_s, sr_a, sr_sr, u1_s, u1_k, p22]); exact rfl)) (by omega) ?_ | refine k_ald (by first | assumption | omega) (by first | assumption | exact rfl) (by omega) (by omega) (by omega) (by first | assumption | ((try simp (disch := omega) only [sr_s, sr_a, sr_sr, u1_s, u1_k, p22]); exact rfl)) ?_ | refine k_eq (hk) ?_ | refine k_ifT (by first | (simp (disch := omega) only [w32_id, hw]; first | done | omega) | omega) ?_ | refine k_ifF (by first | (simp (disch := omega) only [w32_id, hw]; first | done | omega) | omega) ?_ | refine k_pf (by first | assumption | omega) (by (try simp (disch := omega) only [sr_s, sr_a, sr_sr, u1_u1, p22]); exact rfl) ?_ | refine k_ast (by first | assumption | omega) (by first | assumption | exact rfl) (by omega) (by omega) (by omega) (by (try simp (disch := omega) only [sr_s, sr_a, sr_sr, u1_u1, p22]); exact rfl) ?_ | refine k_irm (by omega) (by omega) (by omega) (by omega) ?_ | refine k_idv (by omega) (by omega) (by omega) (by omega) ?_ | refine k_tk (by first | assumption | omega) ?_ | refine k_rp (by omega) ?_ | refine k_aldR (by first | assumption | omega) (by first | assumption | exact rfl) (by omega) (by omega) (by omega) (by first | assumption | ((try simp (disch := omega) only [sr_s, sr_a, sr_sr, u1_s, u1_k, p22]); exact rfl)) (by omega) ?_ | refine k_astR (by first | assumption | omega) (by first | assumption | exact rfl) (by omega) (by omega) (by omega) (by first | assumption | omega) (by (try simp (disch := omega) only [sr_s, sr_a, sr_sr, u1_u1, p22]); exact rfl) ?_ | refine k_pz (by first | assumption | omega) (by omega) (by (try simp (disch := omega) only [sr_s, sr_a, sr_sr, u1_u1, p22]); exact rfl) ?_ | refine k_alen (by first | assumption | omega) (by first | assumption | exact rfl) ?_ | refine k_cpy (by first | assumption | omega) (by first | assumption | omega) (by first | assumption | exact rfl) (by first | assumption | exact rfl) (by omega) (by omega) (by omega) (by omega) (by omega) (by omega) (by omega) (by omega) (by (try simp (disch := omega) only [sr_s, sr_a, sr_sr, u1_u1, p22]); exact rfl) ?_ | refine k_if (by (try simp (disch := omega) only [w32_id, hw]); exact Iff.rfl) (fun c => ?_) (fun c => ?_))
        exact Ok.ret ⟨by omega, hnext (fun z => z.1 e)⟩
      · rw [if_neg e] at hk
        have := hbi e
        repeat' (with_reducible first | refine k_gf (by first | assumption | omega) (by first | assumption | ((try simp (disch := omega) only [sr_s, sr_a, sr_sr, u1_s, u1_k, p22]); exact rfl)) ?_ | refine k_gr (by first | assumption | omega) (by first | assumption | ((try simp (disch := omega) only [sr_s, sr_a, sr_sr, u1_s, u1_k, p22]); exact rfl)) (by omega) ?_ | refine k_ald (by first | assumption | omega) (by first | assumption | exact rfl) (by omega) (by omega) (by omega) (by first | assumption | ((try simp (disch := omega) only [sr_s, sr_a, sr_sr, u1_s, u1_k, p22]); exact rfl)) ?_ | refine k_eq (hk) ?_ | refine k_ifT (by first | (simp (disch := omega) only [w32_id, hw]; first | done | omega) | omega) ?_ | refine k_ifF (by first | (simp (disch := omega) only [w32_id, hw]; first | done | omega) | omega) ?_ | refine k_pf (by first | assumption | omega) (by (try simp (disch := omega) only [sr_s, sr_a, sr_sr, u1_u1, p22]); exact rfl) ?_ | refine k_ast (by first | assumption | omega) (by first | assumption | exact rfl) (by omega) (by omega) (by omega) (by (try simp (disch := omega) only [sr_s, sr_a, sr_sr, u1_u1, p22]); exact rfl) ?_ | refine k_irm (by omega) (by omega) (by omega) (by omega) ?_ | refine k_idv (by omega) (by omega) (by omega) (by omega) ?_ | refine k_tk (by first | assumption | omega) ?_ | refine k_rp (by omega) ?_ | refine k_aldR (by first | assumption | omega) (by first | assumption | exact rfl) (by omega) (by omega) (by omega) (by first | assumption | ((try simp (disch := omega) only [sr_s, sr_a, sr_sr, u1_s, u1_k, p22]); exact rfl)) (by omega) ?_ | refine k_astR (by first | assumption | omega) (by first | assumption | exact rfl) (by omega) (by omega) (by omega) (by first | assumption | omega) (by (try simp (disch := omega) only [sr_s, sr_a, sr_sr, u1_u1, p22]); exact rfl) ?_ | refine k_pz (by first | assumption | omega) (by omega) (by (try simp (disch := omega) only [sr_s, sr_a, sr_sr, u1_u1, p22]); exact rfl) ?_ | refine k_alen (by first | assumption | omega) (by first | assumption | exact rfl) ?_ | refine k_cpy (by first | assumption | omega) (by first | assumption | omega) (by first | assumption | exact rfl) (by first | assumption | exact rfl) (by omega) (by omega) (by omega) (by omega) (by omega) (by omega) (by omega) (by omega) (by (try simp (disch := omega) only [sr_s, sr_a, sr_sr, u1_u1, p22]); exact rfl) ?_ | refine k_if (by (try simp (disch := omega) only [w32_id, hw]); exact Iff.rfl) (fun c => ?_) (fun c => ?_))
        · exact Ok.ret ⟨i, by omega, by omega, hj, ⟨e, by assumption⟩, rfl⟩
        · exact Ok.ret ⟨by omega, hnext (fun z => absurd z.2 (by assumption))⟩
    · rintro s ⟨rfl, hj⟩
      unfold M_X11_stainedBy_b17
      repeat' (with_reducible first | refine k_gf (by first | assumption | omega) (by first | assumption | ((try simp (disch := omega) only [sr_s, sr_a, sr_sr, u1_s, u1_k, p22]); exact rfl)) ?_ | refine k_gr (by first | assumption | omega) (by first | assumption | ((try simp (disch := omega) only [sr_s, sr_a, sr_sr, u1_s, u1_k, p22]); exact rfl)) (by omega) ?_ | refine k_ald (by first | assumption | omega) (by first | assumption | exact rfl) (by omega) (by omega) (by omega) (by first | assumption | ((try simp (disch := omega) only [sr_s, sr_a, sr_sr, u1_s, u1_k, p22]); exact rfl)) ?_ | refine k_ifT (by first | (simp (disch := omega) only [w32_id, hw]; first | done | omega) | omega) ?_ | refine k_ifF (by first | (simp (disch := omega) only [w32_id, hw]; first | done | omega) | omega) ?_ | refine k_pf (by first | assumption | omega) (by (try simp (disch := omega) only [sr_s, sr_a, sr_sr, u1_u1, p22]); exact rfl) ?_ | refine k_ast (by first | assumption | omega) (by first | assumption | exact rfl) (by omega) (by omega) (by omega) (by (try simp (disch := omega) only [sr_s, sr_a, sr_sr, u1_u1, p22]); exact rfl) ?_ | refine k_irm (by omega) (by omega) (by omega) (by omega) ?_ | refine k_idv (by omega) (by omega) (by omega) (by omega) ?_ | refine k_tk (by first | assumption | omega) ?_ | refine k_rp (by omega) ?_ | refine k_aldR (by first | assumption | omega) (by first | assumption | exact rfl) (by omega) (by omega) (by omega) (by first | assumption | ((try simp (disch := omega) only [sr_s, sr_a, sr_sr, u1_s, u1_k, p22]); exact rfl)) (by omega) ?_ | refine k_astR (by first | assumption | omega) (by first | assumption | exact rfl) (by omega) (by omega) (by omega) (by first | assumption | omega) (by (try simp (disch := omega) only [sr_s, sr_a, sr_sr, u1_u1, p22]); exact rfl) ?_ | refine k_pz (by first | assumption | omega) (by omega) (by (try simp (disch := omega) only [sr_s, sr_a, sr_sr, u1_u1, p22]); exact rfl) ?_ | refine k_alen (by first | assumption | omega) (by first | assumption | exact rfl) ?_ | refine k_cpy (by first | assumption | omega) (by first | assumption | omega) (by first | assumption | exact rfl) (by first | assumption | exact rfl) (by omega) (by omega) (by omega) (by omega) (by omega) (by omega) (by omega) (by omega) (by (try simp (disch := omega) only [sr_s, sr_a, sr_sr, u1_u1, p22]); exact rfl) ?_ | refine k_if (by (try simp (disch := omega) only [w32_id, hw]); exact Iff.rfl) (fun c => ?_) (fun c => ?_))
      exact Ok.ret hj
    · rintro z hz
      cases z with
      | inl u =>
        rw [exi_l]
        unfold M_X11_stainedBy_p60
        refine Ok.ret ?_
        have hz : ∀ j : Int, 0 ≤ j → j < 4 → ¬ (bsV (M rg 0) (M rg 1) (inn (M rg 0) q) j ≠ -1 ∧ M 129 (mp + idx (M rg 0) (bsV (M rg 0) (M rg 1) (inn (M rg 0) q) j)) = k) := hz
        rw [if_neg (hz 0 (by omega) (by omega)), if_neg (hz 1 (by omega) (by omega)), if_neg (hz 2 (by omega) (by omega)), if_neg (hz 3 (by omega) (by omega)), hii]
      | inr x =>
        rw [exi_r]
        refine Ok.ret ?_
        obtain ⟨i, i0, i4, hj, he, rfl⟩ := hz
        have : i = 0 ∨ i = 1 ∨ i = 2 ∨ i = 3 := by omega
        rcases this with rfl | rfl | rfl | rfl
        · rw [if_pos he]
        · rw [if_neg (hj 0 (by omega) (by omega)), if_pos he]
        · rw [if_neg (hj 0 (by omega) (by omega)), if_neg (hj 1 (by omega) (by omega)), if_pos he]
        · rw [if_neg (hj 0 (by omega) (by omega)), if_neg (hj 1 (by omega) (by omega)), if_neg (hj 2 (by omega) (by omega)), if_pos he]
theorem X11_marked_ok (hB : rB M G rg) (hE : rE M G (M rg 0) (M rg 1) mk t) (p22 : M 124 22 = 129) (k129 : G.1 129 = 1) (l129 : G.2.1 129 = 86616) (q0 : 0 ≤ q) (q1 : q < M rg 0 * M rg 1) (o0 : 0 ≤ mp) (o1 : mp + 36 ≤ 86616) (hb : ∀ i, 0 ≤ M 129 i ∧ M 129 i ≤ 9) : M_X11_marked (M, G) 124 t mp q = some (mkT (M rg 0) (M rg 1) (M 131) t (fun p => M 129 (mp + idx (M rg 0) p)) (inn (M rg 0) q) (-1)) := by
  have hB' := hB
  have hE' := hE
  obtain ⟨k0, r3, r0, kr, a1, a2, b1, b2⟩ := hB
  obtain ⟨p24, k131, l131, t0, t1, he⟩ := hE
  have hm := mul_b a1 a2 b1 b2
  have hw : ∀ i, w32 (M 129 i) = M 129 i := fun i => w32_id (by have := hb i; omega) (by have := hb i; omega)
  have hin := inn_in a1 a2 b1 b2 q0 q1
  have hii := idx_inn a1 a2 q0
  have hs := srcV_in (m := fun p => M 129 (mp + idx (M rg 0) p)) (dr := -1) a1 a2 b1 b2 he hin
  have hk := X11_from_ok (m := fun p => M 129 (mp + idx (M rg 0) p)) (dr := -1) hB' hE' q0 q1
  have hst := stV_in (m := fun p => M 129 (mp + idx (M rg 0) p)) (k := M 131 (4 * t + 1)) a2 hin
  have hstb := idx_b a1 a2 b2 hst
  have hz0 := hin.1
  obtain ⟨s0, s1, d1, d2, d3, d4, d5, d6, fm, f1, f2, f3, f5, f8⟩ := he
  have hi6 : inn (M rg 0) q / 6 = q / M rg 0 := by obtain ⟨c1, c2, c3, c4, c5⟩ := rc_b a1 a2 b1 b2 q0 q1; unfold inn; omega
  have hm6 : inn (M rg 0) q % 6 = q % M rg 0 := by obtain ⟨c1, c2, c3, c4, c5⟩ := rc_b a1 a2 b1 b2 q0 q1; unfold inn; omega
  refine Ok.eq ?_
  unfold M_X11_marked
  by_cases zf : M 131 (4 * t) = 2 ∨ M 131 (4 * t) = 3 ∨ M 131 (4 * t) = 4 ∨ M 131 (4 * t) = 8
  · rw [if_pos zf] at hk
    have hn : ¬ srcV (M rg 0) (M rg 1) (M 131 (4 * t)) (M 131 (4 * t + 1)) (M 131 (4 * t + 2)) (M 131 (4 * t + 3)) (fun p => M 129 (mp + idx (M rg 0) p)) (inn (M rg 0) q) (-1) = -1 := fun e => by
      have := srcV_ne a1 a2 b1 b2 ⟨s0, s1, d1, d2, d3, d4, d5, d6, fm, f1, f2, f3, f5, f8⟩ hin e
      omega
    have hxb := idx_b a1 a2 b2 (hs.resolve_left hn)
    repeat' (with_reducible first | refine k_gf (by first | assumption | omega) (by first | assumption | ((try simp (disch := omega) only [sr_s, sr_a, sr_sr, u1_s, u1_k, p22, p24]); exact rfl)) ?_ | refine k_gr (by first | assumption | omega) (by first | assumption | ((try simp (disch := omega) only [sr_s, sr_a, sr_sr, u1_s, u1_k, p22, p24]); exact rfl)) (by omega) ?_ | refine k_ald (by first | assumption | omega) (by first | assumption | exact rfl) (by omega) (by omega) (by omega) (by first | assumption | ((try simp (disch := omega) only [sr_s, sr_a, sr_sr, u1_s, u1_k, p22, p24]); exact rfl)) ?_ | refine k_eq (hk) ?_ | refine k_ifT (by first | (simp (disch := omega) only [w32_id, hw]; first | done | omega) | omega) ?_ | refine k_ifF (by first | (simp (disch := omega) only [w32_id, hw]; first | done | omega) | omega) ?_ | refine k_pf (by first | assumption | omega) (by (try simp (disch := omega) only [sr_s, sr_a, sr_sr, u1_u1, p22, p24]); exact rfl) ?_ | refine k_ast (by first | assumption | omega) (by first | assumption | exact rfl) (by omega) (by omega) (by omega) (by (try simp (disch := omega) only [sr_s, sr_a, sr_sr, u1_u1, p22, p24]); exact rfl) ?_ | refine k_irm (by omega) (by omega) (by omega) (by omega) ?_ | refine k_idv (by omega) (by omega) (by omega) (by omega) ?_ | refine k_tk (by first | assumption | omega) ?_ | refine k_rp (by omega) ?_ | refine k_aldR (by first | assumption | omega) (by first | assumption | exact rfl) (by omega) (by omega) (by omega) (by first | assumption | ((try simp (disch := omega) only [sr_s, sr_a, sr_sr, u1_s, u1_k, p22, p24]); exact rfl)) (by omega) ?_ | refine k_astR (by first | assumption | omega) (by first | assumption | exact rfl) (by omega) (by omega) (by omega) (by first | assumption | omega) (by (try simp (disch := omega) only [sr_s, sr_a, sr_sr, u1_u1, p22, p24]); exact rfl) ?_ | refine k_pz (by first | assumption | omega) (by omega) (by (try simp (disch := omega) only [sr_s, sr_a, sr_sr, u1_u1, p22, p24]); exact rfl) ?_ | refine k_alen (by first | assumption | omega) (by first | assumption | exact rfl) ?_ | refine k_cpy (by first | assumption | omega) (by first | assumption | omega) (by first | assumption | exact rfl) (by first | assumption | exact rfl) (by omega) (by omega) (by omega) (by omega) (by omega) (by omega) (by omega) (by omega) (by (try simp (disch := omega) only [sr_s, sr_a, sr_sr, u1_u1, p22, p24]); exact rfl) ?_ | refine k_if (by (try simp (disch := omega) only [w32_id, hw]); exact Iff.rfl) (fun c => ?_) (fun c => ?_))
    refine Ok.ret ?_
    unfold mkT mkV
    try dsimp only
    rw [if_neg hn, if_neg (by omega)]
  · rw [if_neg zf] at hk
    have h5 : ∀ e1 e2 e3 m, srcV (M rg 0) (M rg 1) 5 e1 e2 e3 m (inn (M rg 0) q) (-1) = inn (M rg 0) q := fun _ _ _ _ => rfl
    have h6 : ∀ e1 e2 e3 m, srcV (M rg 0) (M rg 1) 6 e1 e2 e3 m (inn (M rg 0) q) (-1) = stV (M rg 0) (M rg 1) m (inn (M rg 0) q) e1 := fun _ _ _ _ => rfl
    repeat' (with_reducible first | refine k_gf (by first | assumption | omega) (by first | assumption | ((try simp (disch := omega) only [sr_s, sr_a, sr_sr, u1_s, u1_k, p22, p24]); exact rfl)) ?_ | refine k_gr (by first | assumption | omega) (by first | assumption | ((try simp (disch := omega) only [sr_s, sr_a, sr_sr, u1_s, u1_k, p22, p24]); exact rfl)) (by omega) ?_ | refine k_ald (by first | assumption | omega) (by first | assumption | exact rfl) (by omega) (by omega) (by omega) (by first | assumption | ((try simp (disch := omega) only [sr_s, sr_a, sr_sr, u1_s, u1_k, p22, p24]); exact rfl)) ?_ | refine k_eq (hk) ?_ | refine k_ifT (by first | (simp (disch := omega) only [w32_id, hw]; first | done | omega) | omega) ?_ | refine k_ifF (by first | (simp (disch := omega) only [w32_id, hw]; first | done | omega) | omega) ?_ | refine k_pf (by first | assumption | omega) (by (try simp (disch := omega) only [sr_s, sr_a, sr_sr, u1_u1, p22, p24]); exact rfl) ?_ | refine k_ast (by first | assumption | omega) (by first | assumption | exact rfl) (by omega) (by omega) (by omega) (by (try simp (disch := omega) only [sr_s, sr_a, sr_sr, u1_u1, p22, p24]); exact rfl) ?_ | refine k_irm (by omega) (by omega) (by omega) (by omega) ?_ | refine k_idv (by omega) (by omega) (by omega) (by omega) ?_ | refine k_tk (by first | assumption | omega) ?_ | refine k_rp (by omega) ?_ | refine k_aldR (by first | assumption | omega) (by first | assumption | exact rfl) (by omega) (by omega) (by omega) (by first | assumption | ((try simp (disch := omega) only [sr_s, sr_a, sr_sr, u1_s, u1_k, p22, p24]); exact rfl)) (by omega) ?_ | refine k_astR (by first | assumption | omega) (by first | assumption | exact rfl) (by omega) (by omega) (by omega) (by first | assumption | omega) (by (try simp (disch := omega) only [sr_s, sr_a, sr_sr, u1_u1, p22, p24]); exact rfl) ?_ | refine k_pz (by first | assumption | omega) (by omega) (by (try simp (disch := omega) only [sr_s, sr_a, sr_sr, u1_u1, p22, p24]); exact rfl) ?_ | refine k_alen (by first | assumption | omega) (by first | assumption | exact rfl) ?_ | refine k_cpy (by first | assumption | omega) (by first | assumption | omega) (by first | assumption | exact rfl) (by first | assumption | exact rfl) (by omega) (by omega) (by omega) (by omega) (by omega) (by omega) (by omega) (by omega) (by (try simp (disch := omega) only [sr_s, sr_a, sr_sr, u1_u1, p22, p24]); exact rfl) ?_ | refine k_if (by (try simp (disch := omega) only [w32_id, hw]); exact Iff.rfl) (fun c => ?_) (fun c => ?_))
    · have z : M 131 (4 * t) = 1 := by assumption
      have := f1 z
      refine k_eq (X11_at_ok hB') ?_
      have hx := rc_eq (hi := M rg 1) (q := q) (c := M 131 (4 * t + 2)) (r := M 131 (4 * t + 3)) a1 a2 q0 (by omega) (by omega)
      have y1 : 0 ≤ M 131 (4 * t + 3) * M rg 0 ∧ M 131 (4 * t + 3) * M rg 0 ≤ 45 := ⟨(mul_b2 (by omega) (by omega) (by omega) (by omega)).1, (mul_b2 (by omega) (by omega) (by omega) (by omega)).2.1⟩
      repeat' (with_reducible first | refine k_gf (by first | assumption | omega) (by first | assumption | ((try simp (disch := omega) only [sr_s, sr_a, sr_sr, u1_s, u1_k, p22, p24]); exact rfl)) ?_ | refine k_gr (by first | assumption | omega) (by first | assumption | ((try simp (disch := omega) only [sr_s, sr_a, sr_sr, u1_s, u1_k, p22, p24]); exact rfl)) (by omega) ?_ | refine k_ald (by first | assumption | omega) (by first | assumption | exact rfl) (by omega) (by omega) (by omega) (by first | assumption | ((try simp (disch := omega) only [sr_s, sr_a, sr_sr, u1_s, u1_k, p22, p24]); exact rfl)) ?_ | refine k_ifT (by first | (simp (disch := omega) only [w32_id, hw]; first | done | omega) | omega) ?_ | refine k_ifF (by first | (simp (disch := omega) only [w32_id, hw]; first | done | omega) | omega) ?_ | refine k_pf (by first | assumption | omega) (by (try simp (disch := omega) only [sr_s, sr_a, sr_sr, u1_u1, p22, p24]); exact rfl) ?_ | refine k_ast (by first | assumption | omega) (by first | assumption | exact rfl) (by omega) (by omega) (by omega) (by (try simp (disch := omega) only [sr_s, sr_a, sr_sr, u1_u1, p22, p24]); exact rfl) ?_ | refine k_irm (by omega) (by omega) (by omega) (by omega) ?_ | refine k_idv (by omega) (by omega) (by omega) (by omega) ?_ | refine k_tk (by first | assumption | omega) ?_ | refine k_rp (by omega) ?_ | refine k_aldR (by first | assumption | omega) (by first | assumption | exact rfl) (by omega) (by omega) (by omega) (by first | assumption | ((try simp (disch := omega) only [sr_s, sr_a, sr_sr, u1_s, u1_k, p22, p24]); exact rfl)) (by omega) ?_ | refine k_astR (by first | assumption | omega) (by first | assumption | exact rfl) (by omega) (by omega) (by omega) (by first | assumption | omega) (by (try simp (disch := omega) only [sr_s, sr_a, sr_sr, u1_u1, p22, p24]); exact rfl) ?_ | refine k_pz (by first | assumption | omega) (by omega) (by (try simp (disch := omega) only [sr_s, sr_a, sr_sr, u1_u1, p22, p24]); exact rfl) ?_ | refine k_alen (by first | assumption | omega) (by first | assumption | exact rfl) ?_ | refine k_cpy (by first | assumption | omega) (by first | assumption | omega) (by first | assumption | exact rfl) (by first | assumption | exact rfl) (by omega) (by omega) (by omega) (by omega) (by omega) (by omega) (by omega) (by omega) (by (try simp (disch := omega) only [sr_s, sr_a, sr_sr, u1_u1, p22, p24]); exact rfl) ?_ | refine k_if (by (try simp (disch := omega) only [w32_id, hw]); exact Iff.rfl) (fun c => ?_) (fun c => ?_))
      all_goals refine Ok.ret ?_
      all_goals unfold mkT mkV srcV
      all_goals try dsimp only
      all_goals rw [z, if_pos rfl, hi6, hm6]
      · rw [if_pos (hx.mp (by assumption)), if_pos rfl, if_neg (by omega)]
      · rw [if_neg (fun y => absurd (hx.mpr y) (by assumption)), if_neg (by omega), if_neg (by omega), hii]
    · have z : M 131 (4 * t) = 5 := by assumption
      refine Ok.ret ?_
      unfold mkT mkV
      try dsimp only
      rw [z, h5, if_neg (by omega), if_pos rfl]
      simp only [hii]
      rw [if_pos (by assumption)]
    · have z : M 131 (4 * t) = 5 := by assumption
      refine Ok.ret ?_
      unfold mkT mkV
      try dsimp only
      rw [z, h5, if_neg (by omega), if_pos rfl]
      simp only [hii]
      rw [if_neg (by assumption), if_pos (by assumption)]
    · have z : M 131 (4 * t) = 5 := by assumption
      refine Ok.ret ?_
      unfold mkT mkV
      try dsimp only
      rw [z, h5, if_neg (by omega), if_pos rfl]
      simp only [hii]
      rw [if_neg (by assumption), if_neg (by assumption)]
    · have z : M 131 (4 * t) = 6 := by assumption
      refine k_eq (X11_stainedBy_ok hB' p22 k129 l129 q0 q1 o0 o1 hb (by omega) (by omega)) ?_
      repeat' (with_reducible first | refine k_gf (by first | assumption | omega) (by first | assumption | ((try simp (disch := omega) only [sr_s, sr_a, sr_sr, u1_s, u1_k, p22, p24]); exact rfl)) ?_ | refine k_gr (by first | assumption | omega) (by first | assumption | ((try simp (disch := omega) only [sr_s, sr_a, sr_sr, u1_s, u1_k, p22, p24]); exact rfl)) (by omega) ?_ | refine k_ald (by first | assumption | omega) (by first | assumption | exact rfl) (by omega) (by omega) (by omega) (by first | assumption | ((try simp (disch := omega) only [sr_s, sr_a, sr_sr, u1_s, u1_k, p22, p24]); exact rfl)) ?_ | refine k_ifT (by first | (simp (disch := omega) only [w32_id, hw]; first | done | omega) | omega) ?_ | refine k_ifF (by first | (simp (disch := omega) only [w32_id, hw]; first | done | omega) | omega) ?_ | refine k_pf (by first | assumption | omega) (by (try simp (disch := omega) only [sr_s, sr_a, sr_sr, u1_u1, p22, p24]); exact rfl) ?_ | refine k_ast (by first | assumption | omega) (by first | assumption | exact rfl) (by omega) (by omega) (by omega) (by (try simp (disch := omega) only [sr_s, sr_a, sr_sr, u1_u1, p22, p24]); exact rfl) ?_ | refine k_irm (by omega) (by omega) (by omega) (by omega) ?_ | refine k_idv (by omega) (by omega) (by omega) (by omega) ?_ | refine k_tk (by first | assumption | omega) ?_ | refine k_rp (by omega) ?_ | refine k_aldR (by first | assumption | omega) (by first | assumption | exact rfl) (by omega) (by omega) (by omega) (by first | assumption | ((try simp (disch := omega) only [sr_s, sr_a, sr_sr, u1_s, u1_k, p22, p24]); exact rfl)) (by omega) ?_ | refine k_astR (by first | assumption | omega) (by first | assumption | exact rfl) (by omega) (by omega) (by omega) (by first | assumption | omega) (by (try simp (disch := omega) only [sr_s, sr_a, sr_sr, u1_u1, p22, p24]); exact rfl) ?_ | refine k_pz (by first | assumption | omega) (by omega) (by (try simp (disch := omega) only [sr_s, sr_a, sr_sr, u1_u1, p22, p24]); exact rfl) ?_ | refine k_alen (by first | assumption | omega) (by first | assumption | exact rfl) ?_ | refine k_cpy (by first | assumption | omega) (by first | assumption | omega) (by first | assumption | exact rfl) (by first | assumption | exact rfl) (by omega) (by omega) (by omega) (by omega) (by omega) (by omega) (by omega) (by omega) (by (try simp (disch := omega) only [sr_s, sr_a, sr_sr, u1_u1, p22, p24]); exact rfl) ?_ | refine k_if (by (try simp (disch := omega) only [w32_id, hw]); exact Iff.rfl) (fun c => ?_) (fun c => ?_))
      refine Ok.ret ?_
      unfold mkT mkV
      try dsimp only
      have := hst.1
      rw [z, h6, if_neg (by omega), if_neg (by omega)]
    · have z : M 131 (4 * t) = 7 := by assumption
      refine Ok.ret ?_
      unfold mkT mkV srcV
      try dsimp only
      rw [z]
      simp only [Int.reduceEq, if_false, if_true]
      simp only [hii, show (M 129 (mp + q) = M 131 (4 * t + 1)) = True from eq_true (by assumption), if_true]
    · have z : M 131 (4 * t) = 7 := by assumption
      refine Ok.ret ?_
      unfold mkT mkV srcV
      try dsimp only
      rw [z]
      simp only [Int.reduceEq, if_false, if_true]
      simp only [hii, show (M 129 (mp + q) = M 131 (4 * t + 1)) = False from eq_false (by assumption), if_false]
      rw [if_neg (by omega)]
    · refine Ok.ret ?_
      have hs2 : srcV (M rg 0) (M rg 1) (M 131 (4 * t)) (M 131 (4 * t + 1)) (M 131 (4 * t + 2)) (M 131 (4 * t + 3)) (fun p => M 129 (mp + idx (M rg 0) p)) (inn (M rg 0) q) (-1) = inn (M rg 0) q := by
        unfold srcV
        simp (disch := omega) only [if_neg]
        split <;> first | rfl | (split <;> first | rfl | omega)
      unfold mkT mkV
      try dsimp only
      rw [hs2, if_neg (by omega), if_neg (by omega), hii]
end RM
