/-! round: first steps -/
def alB (f g : Int → Int) : Nat → Bool
  | 0 => true
  | n + 1 => alB f g n && decide (f (n : Int) = g (n : Int))
theorem alB_iff {f g : Int → Int} : ∀ n, alB f g n = true ↔ ∀ i : Nat, i < n → f (i : Int) = g (i : Int)
  | 0 => ⟨fun _ i hi => by omega, fun _ => rfl⟩
  | n + 1 => by
    unfold alB
    rw [Bool.and_eq_true, alB_iff n, decide_eq_true_iff]
    constructor
    · intro h i hi
      by_cases y : i = n
      · subst y; exact h.2
      · exact h.1 i (by omega)
    · intro h
      exact ⟨fun i hi => h i (by omega), h n (by omega)⟩
section RD
variable {M M1 M2 N : Int → Int → Int} {G : GG} {td r rg t n w v : Int}
theorem X8_looksLike_ok (hg : gW G w) (hg' : gW G v) (m3 : M w 3 = w + 1) (m3' : M v 3 = v + 1) (t0 : 0 ≤ M w 2) (t6 : M w 2 ≤ 6) (hb : ∀ i, 0 ≤ M (w + 1) i ∧ M (w + 1) i ≤ 9) (hb' : ∀ i, 0 ≤ M (v + 1) i ∧ M (v + 1) i ≤ 9) : M_X8_looksLike (M, G) w v = some (if alB (M (w + 1)) (M (v + 1)) (36 * M w 2).toNat = true then 1 else 0) := by
  obtain ⟨g0, g1, g2, g3, g4, g5, g6, g7⟩ := hg
  obtain ⟨f0, f1, f2, f3, f4, f5, f6, f7⟩ := hg'
  refine Ok.eq ?_
  unfold M_X8_looksLike M_X8_looksLike_w2 M_X8_looksLike_p36
  refine k_tk g1 ?_
  have hlo : Ok (wh (S := Int) (T := (Unit ⊕ (Int))) (fun a => M_X8_looksLike_b2 (M, G) w v a) FU 0) (lo (fun _ => alB (M (w + 1)) (M (v + 1)) (36 * M w 2).toNat = true) (fun z => z = 0 ∧ ¬ alB (M (w + 1)) (M (v + 1)) (36 * M w 2).toNat = true)) := by
    refine wh_for (fun i s => s = (i : Int) ∧ ∀ j : Nat, j < i → M (w + 1) (j : Int) = M (v + 1) (j : Int)) _ (36 * M w 2).toNat (by omega) ⟨rfl, fun j hj => by omega⟩ ?_ ?_
    · rintro i _ hi ⟨rfl, ha⟩
      have hbi := hb i
      have hbi' := hb' i
      unfold M_X8_looksLike_b2
      by_cases y : M (w + 1) (i : Int) = M (v + 1) (i : Int)
      · repeat' (with_reducible first | refine k_gf (by first | assumption | omega) (by first | assumption | ((try simp (disch := omega) only [sr_s, sr_a, sr_sr, u1_s, u1_k, m3, m3']); exact rfl)) ?_ | refine k_gr (by first | assumption | omega) (by first | assumption | ((try simp (disch := omega) only [sr_s, sr_a, sr_sr, u1_s, u1_k, m3, m3']); exact rfl)) (by omega) ?_ | refine k_ald (by first | assumption | omega) (by first | assumption | exact rfl) (by omega) (by omega) (by omega) (by first | assumption | ((try simp (disch := omega) only [sr_s, sr_a, sr_sr, u1_s, u1_k, m3, m3']); exact rfl)) ?_ | refine k_ifT (by first | (simp (disch := omega) only [w32_id]; first | done | omega) | omega) ?_ | refine k_ifF (by first | (simp (disch := omega) only [w32_id]; first | done | omega) | omega) ?_ | refine k_pf (by first | assumption | omega) (by (try simp (disch := omega) only [sr_s, sr_a, sr_sr, u1_u1, m3, m3']); exact rfl) ?_ | refine k_ast (by first | assumption | omega) (by first | assumption | exact rfl) (by omega) (by omega) (by omega) (by (try simp (disch := omega) only [sr_s, sr_a, sr_sr, u1_u1, m3, m3']); exact rfl) ?_ | refine k_irm (by omega) (by omega) (by omega) (by omega) ?_ | refine k_idv (by omega) (by omega) (by omega) (by omega) ?_ | refine k_tk (by first | assumption | omega) ?_ | refine k_rp (by omega) ?_ | refine k_aldR (by first | assumption | omega) (by first | assumption | exact rfl) (by omega) (by omega) (by omega) (by first | assumption | ((try simp (disch := omega) only [sr_s, sr_a, sr_sr, u1_s, u1_k, m3, m3']); exact rfl)) (by omega) ?_ | refine k_astR (by first | assumption | omega) (by first | assumption | exact rfl) (by omega) (by omega) (by omega) (by first | assumption | omega) (by (try simp (disch := omega) only [sr_s, sr_a, sr_sr, u1_u1, m3, m3']); exact rfl) ?_ | refine k_pz (by first | assumption | omega) (by omega) (by (try simp (disch := omega) only [sr_s, sr_a, sr_sr, u1_u1, m3, m3']); exact rfl) ?_ | refine k_alen (by first | assumption | omega) (by first | assumption | exact rfl) ?_ | refine k_cpy (by first | assumption | omega) (by first | assumption | omega) (by first | assumption | exact rfl) (by first | assumption | exact rfl) (by omega) (by omega) (by omega) (by omega) (by omega) (by omega) (by omega) (by omega) (by (try simp (disch := omega) only [sr_s, sr_a, sr_sr, u1_u1, m3, m3']); exact rfl) ?_ | refine k_if (by (try simp (disch := omega) only [w32_id]); exact Iff.rfl) (fun c => ?_) (fun c => ?_))
        refine Ok.ret ⟨by omega, fun j hj => ?_⟩
        by_cases y2 : j = i
        · subst y2; exact y
        · exact ha j (by omega)
      · repeat' (with_reducible first | refine k_gf (by first | assumption | omega) (by first | assumption | ((try simp (disch := omega) only [sr_s, sr_a, sr_sr, u1_s, u1_k, m3, m3']); exact rfl)) ?_ | refine k_gr (by first | assumption | omega) (by first | assumption | ((try simp (disch := omega) only [sr_s, sr_a, sr_sr, u1_s, u1_k, m3, m3']); exact rfl)) (by omega) ?_ | refine k_ald (by first | assumption | omega) (by first | assumption | exact rfl) (by omega) (by omega) (by omega) (by first | assumption | ((try simp (disch := omega) only [sr_s, sr_a, sr_sr, u1_s, u1_k, m3, m3']); exact rfl)) ?_ | refine k_ifT (by first | (simp (disch := omega) only [w32_id]; first | done | omega) | omega) ?_ | refine k_ifF (by first | (simp (disch := omega) only [w32_id]; first | done | omega) | omega) ?_ | refine k_pf (by first | assumption | omega) (by (try simp (disch := omega) only [sr_s, sr_a, sr_sr, u1_u1, m3, m3']); exact rfl) ?_ | refine k_ast (by first | assumption | omega) (by first | assumption | exact rfl) (by omega) (by omega) (by omega) (by (try simp (disch := omega) only [sr_s, sr_a, sr_sr, u1_u1, m3, m3']); exact rfl) ?_ | refine k_irm (by omega) (by omega) (by omega) (by omega) ?_ | refine k_idv (by omega) (by omega) (by omega) (by omega) ?_ | refine k_tk (by first | assumption | omega) ?_ | refine k_rp (by omega) ?_ | refine k_aldR (by first | assumption | omega) (by first | assumption | exact rfl) (by omega) (by omega) (by omega) (by first | assumption | ((try simp (disch := omega) only [sr_s, sr_a, sr_sr, u1_s, u1_k, m3, m3']); exact rfl)) (by omega) ?_ | refine k_astR (by first | assumption | omega) (by first | assumption | exact rfl) (by omega) (by omega) (by omega) (by first | assumption | omega) (by (try simp (disch := omega) only [sr_s, sr_a, sr_sr, u1_u1, m3, m3']); exact rfl) ?_ | refine k_pz (by first | assumption | omega) (by omega) (by (try simp (disch := omega) only [sr_s, sr_a, sr_sr, u1_u1, m3, m3']); exact rfl) ?_ | refine k_alen (by first | assumption | omega) (by first | assumption | exact rfl) ?_ | refine k_cpy (by first | assumption | omega) (by first | assumption | omega) (by first | assumption | exact rfl) (by first | assumption | exact rfl) (by omega) (by omega) (by omega) (by omega) (by omega) (by omega) (by omega) (by omega) (by (try simp (disch := omega) only [sr_s, sr_a, sr_sr, u1_u1, m3, m3']); exact rfl) ?_ | refine k_if (by (try simp (disch := omega) only [w32_id]); exact Iff.rfl) (fun c => ?_) (fun c => ?_))
        exact Ok.ret ⟨rfl, fun z => y ((alB_iff _).1 z i hi)⟩
    · rintro _ ⟨rfl, ha⟩
      unfold M_X8_looksLike_b2
      repeat' (with_reducible first | refine k_gf (by first | assumption | omega) (by first | assumption | ((try simp (disch := omega) only [sr_s, sr_a, sr_sr, u1_s, u1_k, m3, m3']); exact rfl)) ?_ | refine k_gr (by first | assumption | omega) (by first | assumption | ((try simp (disch := omega) only [sr_s, sr_a, sr_sr, u1_s, u1_k, m3, m3']); exact rfl)) (by omega) ?_ | refine k_ald (by first | assumption | omega) (by first | assumption | exact rfl) (by omega) (by omega) (by omega) (by first | assumption | ((try simp (disch := omega) only [sr_s, sr_a, sr_sr, u1_s, u1_k, m3, m3']); exact rfl)) ?_ | refine k_ifT (by first | (simp (disch := omega) only [w32_id]; first | done | omega) | omega) ?_ | refine k_ifF (by first | (simp (disch := omega) only [w32_id]; first | done | omega) | omega) ?_ | refine k_pf (by first | assumption | omega) (by (try simp (disch := omega) only [sr_s, sr_a, sr_sr, u1_u1, m3, m3']); exact rfl) ?_ | refine k_ast (by first | assumption | omega) (by first | assumption | exact rfl) (by omega) (by omega) (by omega) (by (try simp (disch := omega) only [sr_s, sr_a, sr_sr, u1_u1, m3, m3']); exact rfl) ?_ | refine k_irm (by omega) (by omega) (by omega) (by omega) ?_ | refine k_idv (by omega) (by omega) (by omega) (by omega) ?_ | refine k_tk (by first | assumption | omega) ?_ | refine k_rp (by omega) ?_ | refine k_aldR (by first | assumption | omega) (by first | assumption | exact rfl) (by omega) (by omega) (by omega) (by first | assumption | ((try simp (disch := omega) only [sr_s, sr_a, sr_sr, u1_s, u1_k, m3, m3']); exact rfl)) (by omega) ?_ | refine k_astR (by first | assumption | omega) (by first | assumption | exact rfl) (by omega) (by omega) (by omega) (by first | assumption | omega) (by (try simp (disch := omega) only [sr_s, sr_a, sr_sr, u1_u1, m3, m3']); exact rfl) ?_ | refine k_pz (by first | assumption | omega) (by omega) (by (try simp (disch := omega) only [sr_s, sr_a, sr_sr, u1_u1, m3, m3']); exact rfl) ?_ | refine k_alen (by first | assumption | omega) (by first | assumption | exact rfl) ?_ | refine k_cpy (by first | assumption | omega) (by first | assumption | omega) (by first | assumption | exact rfl) (by first | assumption | exact rfl) (by omega) (by omega) (by omega) (by omega) (by omega) (by omega) (by omega) (by omega) (by (try simp (disch := omega) only [sr_s, sr_a, sr_sr, u1_u1, m3, m3']); exact rfl) ?_ | refine k_if (by (try simp (disch := omega) only [w32_id]); exact Iff.rfl) (fun c => ?_) (fun c => ?_))
      exact Ok.ret ((alB_iff _).2 ha)
  refine Ok.bind hlo ?_
  intro z hz
  cases z with
  | inl h =>
    have hz : alB (M (w + 1)) (M (v + 1)) (36 * M w 2).toNat = true := hz
    rw [exi_l]
    exact Ok.ret (by rw [if_pos hz])
  | inr q =>
    obtain ⟨rfl, hz⟩ := hz
    rw [exi_r]
    exact Ok.ret (by rw [if_neg hz])
end RD
/-- no town sneezes: what comes next hangs by the cells alone -/
theorem rk_none {er : Int → Int} {tw : Int} (h : ∀ t, 0 ≤ t → t < tw → er (4 * t) ≠ 9) {wd hi : Int} {co dr dr' ce : Int → Int} : cellV wd hi tw co er dr ce = cellV wd hi tw co er dr' ce := by
  funext i
  unfold cellV
  by_cases c : 0 ≤ i ∧ i < 36 * tw ∧ i % 36 % 6 < wd ∧ i % 36 / 6 < hi ∧ 0 ≤ co (i / 36)
  · rw [if_pos c, if_pos c]
    have h9 := h (i / 36) (by omega) (by omega)
    have hs : srcV wd hi (er (4 * (i / 36))) (er (4 * (i / 36) + 1)) (er (4 * (i / 36) + 2)) (er (4 * (i / 36) + 3)) (fun q => ce (36 * co (i / 36) + q)) (i % 36) (dr (i / 36)) = srcV wd hi (er (4 * (i / 36))) (er (4 * (i / 36) + 1)) (er (4 * (i / 36) + 2)) (er (4 * (i / 36) + 3)) (fun q => ce (36 * co (i / 36) + q)) (i % 36) (dr' (i / 36)) := by
      unfold srcV
      rw [if_neg h9, if_neg h9]
    unfold mkV
    rw [hs]
  · rw [if_neg c, if_neg c]
theorem bh_next {er : Int → Int} {wd hi tw s0 : Int} {co ce : Int → Int} (h : ∀ t, 0 ≤ t → t < tw → er (4 * t) ≠ 9) {i j : Nat} (e : bh wd hi tw co er s0 ce i = bh wd hi tw co er s0 ce j) : bh wd hi tw co er s0 ce (i + 1) = bh wd hi tw co er s0 ce (j + 1) := by
  show cellV _ _ _ _ _ _ _ = cellV _ _ _ _ _ _ _
  rw [e]
  exact rk_none h
theorem bh_nexts {er : Int → Int} {wd hi tw s0 : Int} {co ce : Int → Int} (h : ∀ t, 0 ≤ t → t < tw → er (4 * t) ≠ 9) {i j : Nat} (e : bh wd hi tw co er s0 ce i = bh wd hi tw co er s0 ce j) : ∀ d, bh wd hi tw co er s0 ce (i + d) = bh wd hi tw co er s0 ce (j + d)
  | 0 => e
  | d + 1 => bh_next h (bh_nexts h e d)
