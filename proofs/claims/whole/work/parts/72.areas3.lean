/-! areas: the reference's search -/
section A3
variable {M M' M1 : Int → Int → Int} {G : GG} {rg map mk : Int} {s : aS} {v : vS}
def rF (M M1 : Int → Int → Int) : Prop := (∀ a, a ≠ 124 → a ≠ 133 → a ≠ 134 → M1 a = M a) ∧ ∀ k, k ≠ 29 → M1 124 k = M 124 k
/-- what is seen, on both sides -/
def rMt (M1 : Int → Int → Int) (wd hi map mk : Int) (m : Int → Int) : Prop := (∀ i, 0 ≤ i → i < 36 → M1 133 i = 0 ∨ M1 133 i = 1) ∧ ∀ p, inV wd hi p → (m p = 0 ↔ M1 133 (idx wd p) = 0 ∧ M1 129 (map + idx wd p) = mk)
def rAr (M M1 : Int → Int → Int) (rg map mk : Int) (s : aS) : Prop := rF M M1 ∧ rMt M1 (M rg 0) (M rg 1) map mk s.1 ∧ M1 124 29 = M 124 29 ∧ ∀ k, 0 ≤ k → k < s.2.2 → M1 134 k = idx (M rg 0) (s.2.1 k)
theorem idx_inj {wd hi p q : Int} (a1 : 2 ≤ wd) (a2 : wd ≤ 6) (hp : inV wd hi p) (hq : inV wd hi q) (e : idx wd p = idx wd q) : p = q := by
  rw [← inn_idx a1 a2 hp, ← inn_idx a1 a2 hq, e]
theorem rMt_up {wd hi q : Int} {m : Int → Int} (a1 : 2 ≤ wd) (a2 : wd ≤ 6) (hq : inV wd hi q) (h : rMt M1 wd hi map mk m) (e : M' 133 = u1 (M1 133) (idx wd q) 1) (e2 : M' 129 = M1 129) : rMt M' wd hi map mk (u1 m q 1) := by
  refine ⟨fun i i0 i1 => ?_, fun p hp => ?_⟩
  · rw [e]
    by_cases y : i = idx wd q
    · rw [u1_e _ _ y]; exact Or.inr rfl
    · rw [u1_k _ _ y]; exact h.1 i i0 i1
  · rw [e, e2]
    by_cases y : p = q
    · subst y
      rw [u1_s, u1_s]
      constructor
      · intro z; omega
      · intro z; omega
    · rw [u1_k _ _ y, u1_k _ _ (fun z => y (idx_inj a1 a2 hp hq z))]
      exact h.2 p hp
theorem X11_w107_ok (hG : gAll G) (hp124 : pr124 (M 124)) (hB : rB M G rg) (hmp : ∀ i, 0 ≤ M 129 i ∧ M 129 i < 6) (k0 : 0 ≤ mk) (k6 : mk < 6) (m0 : 0 ≤ map) (m1 : map + 36 ≤ 86616) (h : arI (M rg 0) (M rg 1) s) (hR : rAr M M' rg map mk s) {i c pp : Int} (i0 : 0 ≤ i) (i1 : i < s.2.2) : Ok (M_X11_areasOf_w107 FU (M', G) 124 map mk c pp s.2.2 i 0) (fun z => ∃ M1, z = .inl ((M1, G), (nbN (M rg 0) (M rg 1) (s.2.1 i) s 4).2.2, i + 1) ∧ rAr M M1 rg map mk (nbN (M rg 0) (M rg 1) (s.2.1 i) s 4)) := by
  have hrg := hB.2.2.1
  obtain ⟨-, r3, r0, kr, a1, a2, b1, b2⟩ := hB
  have hB : rB M G rg := ⟨gk_124 hG, r3, r0, kr, a1, a2, b1, b2⟩
  have hin := h.2.1 i i0 i1
  have hb := inV_36 a2 b2 hin
  have hbx := idx_b a1 a2 b2 hin
  have hm := mul_b a1 a2 b1 b2
  generalize hpp : s.2.1 i = p at *
  unfold M_X11_areasOf_w107 M_X11_areasOf_p186
  refine Ok.bind (Q := fun z => ∃ M1, z = ((M1, G), (nbN (M rg 0) (M rg 1) p s 4).2.2) ∧ rAr M M1 rg map mk (nbN (M rg 0) (M rg 1) p s 4)) ?_ ?_
  · refine wh_for (fun d z => ∃ M1, z = ((M1, G), (nbN (M rg 0) (M rg 1) p s d).2.2, (d : Int)) ∧ rAr M M1 rg map mk (nbN (M rg 0) (M rg 1) p s d)) _ 4 (by omega) ⟨M', rfl, hR⟩ ?_ ?_
    · rintro d _ hd ⟨M1, rfl, hF, hMt, h29, hQ⟩
      have hI := nbN_I a2 b2 hin h d
      have hq := nbN_q (wd := M rg 0) (hi := M rg 1) (p := p) i1 d
      rw [hpp] at hq
      have hl := hI.le
      have hl1 := hI.2.2.1
      show Ok _ (lo (fun z => ∃ M1, z = ((M1, G), (nb1 (M rg 0) (M rg 1) p (nbN (M rg 0) (M rg 1) p s d) (d : Int)).2.2, ((d + 1 : Nat) : Int)) ∧ rAr M M1 rg map mk (nb1 (M rg 0) (M rg 1) p (nbN (M rg 0) (M rg 1) p s d) (d : Int))) _)
      generalize nbN (M rg 0) (M rg 1) p s d = s1 at *
      have hqi := hQ i i0 (by omega)
      rw [hq.1] at hqi
      have frg := hF.1 rg (by omega) (by omega) (by omega)
      have f129 := hF.1 129 (by omega) (by omega) (by omega)
      have hB1 : rB M1 G rg := hB.cg (hF.2 3 (by omega)) frg
      have hp124' : pr124 (M1 124) := pr124.u hp124 (fun k hk => hF.2 k (by omega))
      have p22 := pr124.p22 hp124'
      have p27 := pr124.p27 hp124'
      have p28 := pr124.p28 hp124'
      have k124 := gk_124 hG
      have k129 := gk_129 hG
      have l129 := gl_129 hG
      have k133 := gk_133 hG
      have l133 := gl_133 hG
      have k134 := gk_134 hG
      have l134 := gl_134 hG
      have hbe := X11_beside_ok (q := idx (M rg 0) p) (d := (d : Int)) hB1 hbx.1 (by rw [frg]; exact hbx.2) (by omega) (by omega)
      rw [frg, inn_idx a1 a2 hin] at hbe
      have hbi := bsV_in (d := (d : Int)) a2 hin
      unfold M_X11_areasOf_b107 M_X11_areasOf_p180
      dsimp only
      unfold nb1
      generalize bsV (M rg 0) (M rg 1) p (d : Int) = q at *
      by_cases y : q = -1
      · rw [if_pos y] at hbe ⊢
        repeat' (with_reducible first | refine k_gf (by first | assumption | omega) (by first | assumption | ((try simp (disch := omega) only [sr_s, sr_a, sr_sr, u1_s, u1_k, p22, p27, p28, hqi]); exact rfl)) ?_ | refine k_gr (by first | assumption | omega) (by first | assumption | ((try simp (disch := omega) only [sr_s, sr_a, sr_sr, u1_s, u1_k, p22, p27, p28, hqi]); exact rfl)) (by omega) ?_ | refine k_ald (by first | assumption | omega) (by first | assumption | exact rfl) (by omega) (by omega) (by omega) (by first | assumption | ((try simp (disch := omega) only [sr_s, sr_a, sr_sr, u1_s, u1_k, p22, p27, p28, hqi]); exact rfl)) ?_ | refine k_aZ (by first | assumption | omega) (by first | assumption | exact rfl) (by omega) (by omega) (by omega) (by omega) (by (try simp (disch := omega) only [sr_s, sr_a, sr_sr, u1_u1, p22, p27, p28, hqi]); exact rfl) ?_ | refine k_eq (hbe) ?_ | refine k_ifT (by first | (simp (disch := omega) only [w32_id]; first | done | omega) | omega) ?_ | refine k_ifF (by first | (simp (disch := omega) only [w32_id]; first | done | omega) | omega) ?_ | refine k_pf (by first | assumption | omega) (by (try simp (disch := omega) only [sr_s, sr_a, sr_sr, u1_u1, p22, p27, p28, hqi]); exact rfl) ?_ | refine k_ast (by first | assumption | omega) (by first | assumption | exact rfl) (by omega) (by omega) (by omega) (by (try simp (disch := omega) only [sr_s, sr_a, sr_sr, u1_u1, p22, p27, p28, hqi]); exact rfl) ?_ | refine k_irm (by omega) (by omega) (by omega) (by omega) ?_ | refine k_idv (by omega) (by omega) (by omega) (by omega) ?_ | refine k_tk (by first | assumption | omega) ?_ | refine k_rp (by omega) ?_ | refine k_aldR (by first | assumption | omega) (by first | assumption | exact rfl) (by omega) (by omega) (by omega) (by first | assumption | ((try simp (disch := omega) only [sr_s, sr_a, sr_sr, u1_s, u1_k, p22, p27, p28, hqi]); exact rfl)) (by omega) ?_ | refine k_astR (by first | assumption | omega) (by first | assumption | exact rfl) (by omega) (by omega) (by omega) (by first | assumption | omega) (by (try simp (disch := omega) only [sr_s, sr_a, sr_sr, u1_u1, p22, p27, p28, hqi]); exact rfl) ?_ | refine k_pz (by first | assumption | omega) (by omega) (by (try simp (disch := omega) only [sr_s, sr_a, sr_sr, u1_u1, p22, p27, p28, hqi]); exact rfl) ?_ | refine k_alen (by first | assumption | omega) (by first | assumption | exact rfl) ?_ | refine k_cpy (by first | assumption | omega) (by first | assumption | omega) (by first | assumption | exact rfl) (by first | assumption | exact rfl) (by omega) (by omega) (by omega) (by omega) (by omega) (by omega) (by omega) (by omega) (by (try simp (disch := omega) only [sr_s, sr_a, sr_sr, u1_u1, p22, p27, p28, hqi]); exact rfl) ?_)
        exact Ok.ret ⟨M1, rfl, hF, hMt, h29, hQ⟩
      · have hqin := hbi.resolve_left y
        have hq36 := inV_36 a2 b2 hqin
        have hqx := idx_b a1 a2 b2 hqin
        have hqe := hMt.2 q hqin
        have h01 := hMt.1 (idx (M rg 0) q) hqx.1 (by omega)
        have hmv := hmp (map + idx (M rg 0) q)
        rw [← f129] at hmv
        rw [if_neg y] at hbe ⊢
        by_cases y2 : s1.1 q = 0
        · rw [if_pos y2]
          have hlt := hI.lt hq36.1 hq36.2 y2
          obtain ⟨z1, z2⟩ := hqe.1 y2
          repeat' (with_reducible first | refine k_gf (by first | assumption | omega) (by first | assumption | ((try simp (disch := omega) only [sr_s, sr_a, sr_sr, u1_s, u1_k, p22, p27, p28, hqi, z1, z2]); exact rfl)) ?_ | refine k_gr (by first | assumption | omega) (by first | assumption | ((try simp (disch := omega) only [sr_s, sr_a, sr_sr, u1_s, u1_k, p22, p27, p28, hqi, z1, z2]); exact rfl)) (by omega) ?_ | refine k_ald (by first | assumption | omega) (by first | assumption | exact rfl) (by omega) (by omega) (by omega) (by first | assumption | ((try simp (disch := omega) only [sr_s, sr_a, sr_sr, u1_s, u1_k, p22, p27, p28, hqi, z1, z2]); exact rfl)) ?_ | refine k_aZ (by first | assumption | omega) (by first | assumption | exact rfl) (by omega) (by omega) (by omega) (by omega) (by (try simp (disch := omega) only [sr_s, sr_a, sr_sr, u1_u1, p22, p27, p28, hqi, z1, z2]); exact rfl) ?_ | refine k_eq (hbe) ?_ | refine k_ifT (by first | (simp (disch := omega) only [w32_id]; first | done | omega) | omega) ?_ | refine k_ifF (by first | (simp (disch := omega) only [w32_id]; first | done | omega) | omega) ?_ | refine k_pf (by first | assumption | omega) (by (try simp (disch := omega) only [sr_s, sr_a, sr_sr, u1_u1, p22, p27, p28, hqi, z1, z2]); exact rfl) ?_ | refine k_ast (by first | assumption | omega) (by first | assumption | exact rfl) (by omega) (by omega) (by omega) (by (try simp (disch := omega) only [sr_s, sr_a, sr_sr, u1_u1, p22, p27, p28, hqi, z1, z2]); exact rfl) ?_ | refine k_irm (by omega) (by omega) (by omega) (by omega) ?_ | refine k_idv (by omega) (by omega) (by omega) (by omega) ?_ | refine k_tk (by first | assumption | omega) ?_ | refine k_rp (by omega) ?_ | refine k_aldR (by first | assumption | omega) (by first | assumption | exact rfl) (by omega) (by omega) (by omega) (by first | assumption | ((try simp (disch := omega) only [sr_s, sr_a, sr_sr, u1_s, u1_k, p22, p27, p28, hqi, z1, z2]); exact rfl)) (by omega) ?_ | refine k_astR (by first | assumption | omega) (by first | assumption | exact rfl) (by omega) (by omega) (by omega) (by first | assumption | omega) (by (try simp (disch := omega) only [sr_s, sr_a, sr_sr, u1_u1, p22, p27, p28, hqi, z1, z2]); exact rfl) ?_ | refine k_pz (by first | assumption | omega) (by omega) (by (try simp (disch := omega) only [sr_s, sr_a, sr_sr, u1_u1, p22, p27, p28, hqi, z1, z2]); exact rfl) ?_ | refine k_alen (by first | assumption | omega) (by first | assumption | exact rfl) ?_ | refine k_cpy (by first | assumption | omega) (by first | assumption | omega) (by first | assumption | exact rfl) (by first | assumption | exact rfl) (by omega) (by omega) (by omega) (by omega) (by omega) (by omega) (by omega) (by omega) (by (try simp (disch := omega) only [sr_s, sr_a, sr_sr, u1_u1, p22, p27, p28, hqi, z1, z2]); exact rfl) ?_)
          refine Ok.ret ⟨_, rfl, ⟨fun a n1 n2 n3 => ?_, fun k hk => ?_⟩, ?_, ?_, fun k kk0 kk1 => ?_⟩
          · rw [sr_a _ _ n3, sr_a _ _ n2]; exact hF.1 a n1 n2 n3
          · rw [sr_a _ _ (by omega), sr_a _ _ (by omega)]; exact hF.2 k hk
          · refine rMt_up a1 a2 hqin hMt ?_ ?_
            · rw [sr_a _ _ (by omega), sr_s]
            · rw [sr_a _ _ (by omega), sr_a _ _ (by omega)]
          · rw [sr_a _ _ (by omega), sr_a _ _ (by omega)]; exact h29
          · have kk1 : k < s1.2.2 + 1 := kk1
            rw [sr_s]
            show u1 _ _ _ k = idx (M rg 0) (u1 s1.2.1 s1.2.2 q k)
            by_cases w1 : k = s1.2.2
            · rw [u1_e _ _ w1, u1_e _ _ w1]
            · rw [u1_k _ _ w1, u1_k _ _ w1]; exact hQ k kk0 (by omega)
        · rw [if_neg y2]
          by_cases y3 : M1 133 (idx (M rg 0) q) = 0
          · have y4 : M1 129 (map + idx (M rg 0) q) ≠ mk := fun z => y2 (hqe.2 ⟨y3, z⟩)
            repeat' (with_reducible first | refine k_gf (by first | assumption | omega) (by first | assumption | ((try simp (disch := omega) only [sr_s, sr_a, sr_sr, u1_s, u1_k, p22, p27, p28, hqi, y3]); exact rfl)) ?_ | refine k_gr (by first | assumption | omega) (by first | assumption | ((try simp (disch := omega) only [sr_s, sr_a, sr_sr, u1_s, u1_k, p22, p27, p28, hqi, y3]); exact rfl)) (by omega) ?_ | refine k_ald (by first | assumption | omega) (by first | assumption | exact rfl) (by omega) (by omega) (by omega) (by first | assumption | ((try simp (disch := omega) only [sr_s, sr_a, sr_sr, u1_s, u1_k, p22, p27, p28, hqi, y3]); exact rfl)) ?_ | refine k_aZ (by first | assumption | omega) (by first | assumption | exact rfl) (by omega) (by omega) (by omega) (by omega) (by (try simp (disch := omega) only [sr_s, sr_a, sr_sr, u1_u1, p22, p27, p28, hqi, y3]); exact rfl) ?_ | refine k_eq (hbe) ?_ | refine k_ifT (by first | (simp (disch := omega) only [w32_id]; first | done | omega) | omega) ?_ | refine k_ifF (by first | (simp (disch := omega) only [w32_id]; first | done | omega) | omega) ?_ | refine k_pf (by first | assumption | omega) (by (try simp (disch := omega) only [sr_s, sr_a, sr_sr, u1_u1, p22, p27, p28, hqi, y3]); exact rfl) ?_ | refine k_ast (by first | assumption | omega) (by first | assumption | exact rfl) (by omega) (by omega) (by omega) (by (try simp (disch := omega) only [sr_s, sr_a, sr_sr, u1_u1, p22, p27, p28, hqi, y3]); exact rfl) ?_ | refine k_irm (by omega) (by omega) (by omega) (by omega) ?_ | refine k_idv (by omega) (by omega) (by omega) (by omega) ?_ | refine k_tk (by first | assumption | omega) ?_ | refine k_rp (by omega) ?_ | refine k_aldR (by first | assumption | omega) (by first | assumption | exact rfl) (by omega) (by omega) (by omega) (by first | assumption | ((try simp (disch := omega) only [sr_s, sr_a, sr_sr, u1_s, u1_k, p22, p27, p28, hqi, y3]); exact rfl)) (by omega) ?_ | refine k_astR (by first | assumption | omega) (by first | assumption | exact rfl) (by omega) (by omega) (by omega) (by first | assumption | omega) (by (try simp (disch := omega) only [sr_s, sr_a, sr_sr, u1_u1, p22, p27, p28, hqi, y3]); exact rfl) ?_ | refine k_pz (by first | assumption | omega) (by omega) (by (try simp (disch := omega) only [sr_s, sr_a, sr_sr, u1_u1, p22, p27, p28, hqi, y3]); exact rfl) ?_ | refine k_alen (by first | assumption | omega) (by first | assumption | exact rfl) ?_ | refine k_cpy (by first | assumption | omega) (by first | assumption | omega) (by first | assumption | exact rfl) (by first | assumption | exact rfl) (by omega) (by omega) (by omega) (by omega) (by omega) (by omega) (by omega) (by omega) (by (try simp (disch := omega) only [sr_s, sr_a, sr_sr, u1_u1, p22, p27, p28, hqi, y3]); exact rfl) ?_)
            exact Ok.ret ⟨M1, rfl, hF, hMt, h29, hQ⟩
          · repeat' (with_reducible first | refine k_gf (by first | assumption | omega) (by first | assumption | ((try simp (disch := omega) only [sr_s, sr_a, sr_sr, u1_s, u1_k, p22, p27, p28, hqi]); exact rfl)) ?_ | refine k_gr (by first | assumption | omega) (by first | assumption | ((try simp (disch := omega) only [sr_s, sr_a, sr_sr, u1_s, u1_k, p22, p27, p28, hqi]); exact rfl)) (by omega) ?_ | refine k_ald (by first | assumption | omega) (by first | assumption | exact rfl) (by omega) (by omega) (by omega) (by first | assumption | ((try simp (disch := omega) only [sr_s, sr_a, sr_sr, u1_s, u1_k, p22, p27, p28, hqi]); exact rfl)) ?_ | refine k_aZ (by first | assumption | omega) (by first | assumption | exact rfl) (by omega) (by omega) (by omega) (by omega) (by (try simp (disch := omega) only [sr_s, sr_a, sr_sr, u1_u1, p22, p27, p28, hqi]); exact rfl) ?_ | refine k_eq (hbe) ?_ | refine k_ifT (by first | (simp (disch := omega) only [w32_id]; first | done | omega) | omega) ?_ | refine k_ifF (by first | (simp (disch := omega) only [w32_id]; first | done | omega) | omega) ?_ | refine k_pf (by first | assumption | omega) (by (try simp (disch := omega) only [sr_s, sr_a, sr_sr, u1_u1, p22, p27, p28, hqi]); exact rfl) ?_ | refine k_ast (by first | assumption | omega) (by first | assumption | exact rfl) (by omega) (by omega) (by omega) (by (try simp (disch := omega) only [sr_s, sr_a, sr_sr, u1_u1, p22, p27, p28, hqi]); exact rfl) ?_ | refine k_irm (by omega) (by omega) (by omega) (by omega) ?_ | refine k_idv (by omega) (by omega) (by omega) (by omega) ?_ | refine k_tk (by first | assumption | omega) ?_ | refine k_rp (by omega) ?_ | refine k_aldR (by first | assumption | omega) (by first | assumption | exact rfl) (by omega) (by omega) (by omega) (by first | assumption | ((try simp (disch := omega) only [sr_s, sr_a, sr_sr, u1_s, u1_k, p22, p27, p28, hqi]); exact rfl)) (by omega) ?_ | refine k_astR (by first | assumption | omega) (by first | assumption | exact rfl) (by omega) (by omega) (by omega) (by first | assumption | omega) (by (try simp (disch := omega) only [sr_s, sr_a, sr_sr, u1_u1, p22, p27, p28, hqi]); exact rfl) ?_ | refine k_pz (by first | assumption | omega) (by omega) (by (try simp (disch := omega) only [sr_s, sr_a, sr_sr, u1_u1, p22, p27, p28, hqi]); exact rfl) ?_ | refine k_alen (by first | assumption | omega) (by first | assumption | exact rfl) ?_ | refine k_cpy (by first | assumption | omega) (by first | assumption | omega) (by first | assumption | exact rfl) (by first | assumption | exact rfl) (by omega) (by omega) (by omega) (by omega) (by omega) (by omega) (by omega) (by omega) (by (try simp (disch := omega) only [sr_s, sr_a, sr_sr, u1_u1, p22, p27, p28, hqi]); exact rfl) ?_)
            exact Ok.ret ⟨M1, rfl, hF, hMt, h29, hQ⟩
    · rintro _ ⟨M1, rfl, hS⟩
      unfold M_X11_areasOf_b107
      dsimp only
      repeat' (with_reducible first | refine k_gf (by first | assumption | omega) (by first | assumption | ((try simp (disch := omega) only [sr_s, sr_a, sr_sr, u1_s, u1_k]); exact rfl)) ?_ | refine k_gr (by first | assumption | omega) (by first | assumption | ((try simp (disch := omega) only [sr_s, sr_a, sr_sr, u1_s, u1_k]); exact rfl)) (by omega) ?_ | refine k_ald (by first | assumption | omega) (by first | assumption | exact rfl) (by omega) (by omega) (by omega) (by first | assumption | ((try simp (disch := omega) only [sr_s, sr_a, sr_sr, u1_s, u1_k]); exact rfl)) ?_ | refine k_aZ (by first | assumption | omega) (by first | assumption | exact rfl) (by omega) (by omega) (by omega) (by omega) (by (try simp (disch := omega) only [sr_s, sr_a, sr_sr, u1_u1]); exact rfl) ?_ | refine k_ifT (by first | (simp (disch := omega) only [w32_id]; first | done | omega) | omega) ?_ | refine k_ifF (by first | (simp (disch := omega) only [w32_id]; first | done | omega) | omega) ?_ | refine k_pf (by first | assumption | omega) (by (try simp (disch := omega) only [sr_s, sr_a, sr_sr, u1_u1]); exact rfl) ?_ | refine k_ast (by first | assumption | omega) (by first | assumption | exact rfl) (by omega) (by omega) (by omega) (by (try simp (disch := omega) only [sr_s, sr_a, sr_sr, u1_u1]); exact rfl) ?_ | refine k_irm (by omega) (by omega) (by omega) (by omega) ?_ | refine k_idv (by omega) (by omega) (by omega) (by omega) ?_ | refine k_tk (by first | assumption | omega) ?_ | refine k_rp (by omega) ?_ | refine k_aldR (by first | assumption | omega) (by first | assumption | exact rfl) (by omega) (by omega) (by omega) (by first | assumption | ((try simp (disch := omega) only [sr_s, sr_a, sr_sr, u1_s, u1_k]); exact rfl)) (by omega) ?_ | refine k_astR (by first | assumption | omega) (by first | assumption | exact rfl) (by omega) (by omega) (by omega) (by first | assumption | omega) (by (try simp (disch := omega) only [sr_s, sr_a, sr_sr, u1_u1]); exact rfl) ?_ | refine k_pz (by first | assumption | omega) (by omega) (by (try simp (disch := omega) only [sr_s, sr_a, sr_sr, u1_u1]); exact rfl) ?_ | refine k_alen (by first | assumption | omega) (by first | assumption | exact rfl) ?_ | refine k_cpy (by first | assumption | omega) (by first | assumption | omega) (by first | assumption | exact rfl) (by first | assumption | exact rfl) (by omega) (by omega) (by omega) (by omega) (by omega) (by omega) (by omega) (by omega) (by (try simp (disch := omega) only [sr_s, sr_a, sr_sr, u1_u1]); exact rfl) ?_)
      exact Ok.ret ⟨M1, rfl, hS⟩
  · rintro _ ⟨M1, rfl, hS⟩
    exact Ok.ret ⟨M1, rfl, hS⟩
/-- one area -/
theorem X11_w97_ok (hG : gAll G) (hp124 : pr124 (M 124)) (hB : rB M G rg) (hmp : ∀ i, 0 ≤ M 129 i ∧ M 129 i < 6) (k0 : 0 ≤ mk) (k6 : mk < 6) (m0 : 0 ≤ map) (m1 : map + 36 ≤ 86616) (h : arI (M rg 0) (M rg 1) s) (hs1 : s.2.2 = 1) (hR : rAr M M' rg map mk s) (h29 : 0 ≤ M 124 29 ∧ M 124 29 ≤ 36) {c pp : Int} : Ok (M_X11_areasOf_w97 FU (M', G) 124 map mk c pp 1 0) (fun z => ∃ M1, z = .inl ((M1, G), c, pp + 1) ∧ rF M M1 ∧ rMt M1 (M rg 0) (M rg 1) map mk (arN (M rg 0) (M rg 1) s 36).1 ∧ M1 124 29 = if M 124 29 < (arN (M rg 0) (M rg 1) s 36).2.2 then (arN (M rg 0) (M rg 1) s 36).2.2 else M 124 29) := by
  have a2 := hB.2.2.2.2.2.1
  have b2 := hB.2.2.2.2.2.2.2
  have k124 := gk_124 hG
  unfold M_X11_areasOf_w97
  refine Ok.bind (Q := fun z => ∃ M1, z = ((M1, G), (arN (M rg 0) (M rg 1) s 36).2.2) ∧ rAr M M1 rg map mk (arN (M rg 0) (M rg 1) s 36)) ?_ ?_
  · refine wh_for (fun i z => ∃ M1, z = ((M1, G), (arN (M rg 0) (M rg 1) s i).2.2, (i : Int)) ∧ rAr M M1 rg map mk (arN (M rg 0) (M rg 1) s i)) _ 36 (by omega) ⟨M', by show _ = ((M', G), s.2.2, (0 : Int)); rw [hs1], hR⟩ ?_ ?_
    · rintro i _ hi ⟨M1, rfl, hS⟩
      have hI := arN_I a2 b2 h i
      have hl := hI.le
      have hl1 := hI.2.2.1
      unfold M_X11_areasOf_b97
      dsimp only
      by_cases y : (i : Int) < (arN (M rg 0) (M rg 1) s i).2.2
      · refine k_ifT (by rw [w32_id (by omega) (by omega), w32_id (by omega) (by omega)]; exact y) ?_
        refine (X11_w107_ok hG hp124 hB hmp k0 k6 m0 m1 hI hS (by omega) y).mono ?_
        rintro _ ⟨M2, rfl, hS2⟩
        have e : arN (M rg 0) (M rg 1) s (i + 1) = nbN (M rg 0) (M rg 1) ((arN (M rg 0) (M rg 1) s i).2.1 (i : Int)) (arN (M rg 0) (M rg 1) s i) 4 := if_pos y
        refine ⟨M2, ?_, ?_⟩
        · rw [e]; rfl
        · rw [e]; exact hS2
      · refine k_ifF (by rw [w32_id (by omega) (by omega), w32_id (by omega) (by omega)]; exact y) (Ok.ret ⟨M1, ?_, ?_⟩)
        · rw [arN_36 (by omega) y]
        · rw [arN_36 (by omega) y]; exact hS
    · rintro _ ⟨M1, rfl, hS⟩
      have hI := arN_I a2 b2 h 36
      have hl := hI.le
      have hl1 := hI.2.2.1
      generalize arN (M rg 0) (M rg 1) s 36 = s36 at *
      unfold M_X11_areasOf_b97
      dsimp only
      exact k_ifF (by rw [w32_id (by omega) (by omega), w32_id (by omega) (by omega)]; omega) (Ok.ret ⟨M1, rfl, hS⟩)
  · rintro _ ⟨M1, rfl, hF, hMt, e29, hQ⟩
    have hI := arN_I a2 b2 h 36
    have hl := hI.le
    have hl1 := hI.2.2.1
    generalize arN (M rg 0) (M rg 1) s 36 = s1 at *
    unfold M_X11_areasOf_p192 M_X11_areasOf_p211 M_X11_areasOf_p214
    dsimp only
    have hmt : ∀ x, rMt (sr M1 124 (u1 (M1 124) 29 x)) (M rg 0) (M rg 1) map mk s1.1 := fun x => by
      unfold rMt
      rw [sr_a _ _ (by omega), sr_a _ _ (by omega)]
      exact hMt
    have hf : ∀ x, rF M (sr M1 124 (u1 (M1 124) 29 x)) := fun x => ⟨fun a n1 n2 n3 => by rw [sr_a _ _ n1]; exact hF.1 a n1 n2 n3, fun k hk => by rw [sr_s, u1_k _ _ hk]; exact hF.2 k hk⟩
    by_cases y : M 124 29 < s1.2.2
    · rw [if_pos y]
      repeat' (with_reducible first | refine k_gf (by first | assumption | omega) (by first | assumption | ((try simp (disch := omega) only [sr_s, sr_a, sr_sr, u1_s, u1_k, e29]); exact rfl)) ?_ | refine k_gr (by first | assumption | omega) (by first | assumption | ((try simp (disch := omega) only [sr_s, sr_a, sr_sr, u1_s, u1_k, e29]); exact rfl)) (by omega) ?_ | refine k_ald (by first | assumption | omega) (by first | assumption | exact rfl) (by omega) (by omega) (by omega) (by first | assumption | ((try simp (disch := omega) only [sr_s, sr_a, sr_sr, u1_s, u1_k, e29]); exact rfl)) ?_ | refine k_aZ (by first | assumption | omega) (by first | assumption | exact rfl) (by omega) (by omega) (by omega) (by omega) (by (try simp (disch := omega) only [sr_s, sr_a, sr_sr, u1_u1, e29]); exact rfl) ?_ | refine k_ifT (by first | (simp (disch := omega) only [w32_id]; first | done | omega) | omega) ?_ | refine k_ifF (by first | (simp (disch := omega) only [w32_id]; first | done | omega) | omega) ?_ | refine k_pf (by first | assumption | omega) (by (try simp (disch := omega) only [sr_s, sr_a, sr_sr, u1_u1, e29]); exact rfl) ?_ | refine k_ast (by first | assumption | omega) (by first | assumption | exact rfl) (by omega) (by omega) (by omega) (by (try simp (disch := omega) only [sr_s, sr_a, sr_sr, u1_u1, e29]); exact rfl) ?_ | refine k_irm (by omega) (by omega) (by omega) (by omega) ?_ | refine k_idv (by omega) (by omega) (by omega) (by omega) ?_ | refine k_tk (by first | assumption | omega) ?_ | refine k_rp (by omega) ?_ | refine k_aldR (by first | assumption | omega) (by first | assumption | exact rfl) (by omega) (by omega) (by omega) (by first | assumption | ((try simp (disch := omega) only [sr_s, sr_a, sr_sr, u1_s, u1_k, e29]); exact rfl)) (by omega) ?_ | refine k_astR (by first | assumption | omega) (by first | assumption | exact rfl) (by omega) (by omega) (by omega) (by first | assumption | omega) (by (try simp (disch := omega) only [sr_s, sr_a, sr_sr, u1_u1, e29]); exact rfl) ?_ | refine k_pz (by first | assumption | omega) (by omega) (by (try simp (disch := omega) only [sr_s, sr_a, sr_sr, u1_u1, e29]); exact rfl) ?_ | refine k_alen (by first | assumption | omega) (by first | assumption | exact rfl) ?_ | refine k_cpy (by first | assumption | omega) (by first | assumption | omega) (by first | assumption | exact rfl) (by first | assumption | exact rfl) (by omega) (by omega) (by omega) (by omega) (by omega) (by omega) (by omega) (by omega) (by (try simp (disch := omega) only [sr_s, sr_a, sr_sr, u1_u1, e29]); exact rfl) ?_)
      exact Ok.ret ⟨_, rfl, hf _, hmt _, by rw [sr_s, u1_s]⟩
    · rw [if_neg y]
      repeat' (with_reducible first | refine k_gf (by first | assumption | omega) (by first | assumption | ((try simp (disch := omega) only [sr_s, sr_a, sr_sr, u1_s, u1_k, e29]); exact rfl)) ?_ | refine k_gr (by first | assumption | omega) (by first | assumption | ((try simp (disch := omega) only [sr_s, sr_a, sr_sr, u1_s, u1_k, e29]); exact rfl)) (by omega) ?_ | refine k_ald (by first | assumption | omega) (by first | assumption | exact rfl) (by omega) (by omega) (by omega) (by first | assumption | ((try simp (disch := omega) only [sr_s, sr_a, sr_sr, u1_s, u1_k, e29]); exact rfl)) ?_ | refine k_aZ (by first | assumption | omega) (by first | assumption | exact rfl) (by omega) (by omega) (by omega) (by omega) (by (try simp (disch := omega) only [sr_s, sr_a, sr_sr, u1_u1, e29]); exact rfl) ?_ | refine k_ifT (by first | (simp (disch := omega) only [w32_id]; first | done | omega) | omega) ?_ | refine k_ifF (by first | (simp (disch := omega) only [w32_id]; first | done | omega) | omega) ?_ | refine k_pf (by first | assumption | omega) (by (try simp (disch := omega) only [sr_s, sr_a, sr_sr, u1_u1, e29]); exact rfl) ?_ | refine k_ast (by first | assumption | omega) (by first | assumption | exact rfl) (by omega) (by omega) (by omega) (by (try simp (disch := omega) only [sr_s, sr_a, sr_sr, u1_u1, e29]); exact rfl) ?_ | refine k_irm (by omega) (by omega) (by omega) (by omega) ?_ | refine k_idv (by omega) (by omega) (by omega) (by omega) ?_ | refine k_tk (by first | assumption | omega) ?_ | refine k_rp (by omega) ?_ | refine k_aldR (by first | assumption | omega) (by first | assumption | exact rfl) (by omega) (by omega) (by omega) (by first | assumption | ((try simp (disch := omega) only [sr_s, sr_a, sr_sr, u1_s, u1_k, e29]); exact rfl)) (by omega) ?_ | refine k_astR (by first | assumption | omega) (by first | assumption | exact rfl) (by omega) (by omega) (by omega) (by first | assumption | omega) (by (try simp (disch := omega) only [sr_s, sr_a, sr_sr, u1_u1, e29]); exact rfl) ?_ | refine k_pz (by first | assumption | omega) (by omega) (by (try simp (disch := omega) only [sr_s, sr_a, sr_sr, u1_u1, e29]); exact rfl) ?_ | refine k_alen (by first | assumption | omega) (by first | assumption | exact rfl) ?_ | refine k_cpy (by first | assumption | omega) (by first | assumption | omega) (by first | assumption | exact rfl) (by first | assumption | exact rfl) (by omega) (by omega) (by omega) (by omega) (by omega) (by omega) (by omega) (by omega) (by (try simp (disch := omega) only [sr_s, sr_a, sr_sr, u1_u1, e29]); exact rfl) ?_)
      exact Ok.ret ⟨_, rfl, hf _, hmt _, by rw [sr_s, u1_s]⟩
/-- all of them -/
theorem X11_areasOf_ok (hG : gAll G) (hp124 : pr124 (M 124)) (hB : rB M G rg) (hmp : ∀ i, 0 ≤ M 129 i ∧ M 129 i < 6) (k0 : 0 ≤ mk) (k6 : mk < 6) (m0 : 0 ≤ map) (m1 : map + 36 ≤ 86616) (hv : svI (M rg 0) (M rg 1) v 0) (hv0 : v.2.2.1 = 0 ∧ v.2.2.2 = 0) (hm0 : ∀ p, inV (M rg 0) (M rg 1) p → (v.1 p = 0 ↔ M 129 (map + idx (M rg 0) p) = mk)) : Ok (M_X11_areasOf (M, G) 124 map mk) (fun z => ∃ M1, z = ((M1, G), (svN (M rg 0) (M rg 1) v 36).2.2.1) ∧ rF M M1 ∧ M1 124 29 = (svN (M rg 0) (M rg 1) v 36).2.2.2) := by
  have hrg := hB.2.2.1
  have hB' := hB
  obtain ⟨-, r3, r0, kr, a1, a2, b1, b2⟩ := hB
  have hm := mul_b a1 a2 b1 b2
  have k124 := gk_124 hG
  have k129 := gk_129 hG
  have l129 := gl_129 hG
  have k133 := gk_133 hG
  have l133 := gl_133 hG
  have k134 := gk_134 hG
  have l134 := gl_134 hG
  unfold M_X11_areasOf
  repeat' (with_reducible first | refine k_gf (by first | assumption | omega) (by first | assumption | ((try simp (disch := omega) only [sr_s, sr_a, sr_sr, u1_s, u1_k]); exact rfl)) ?_ | refine k_gr (by first | assumption | omega) (by first | assumption | ((try simp (disch := omega) only [sr_s, sr_a, sr_sr, u1_s, u1_k]); exact rfl)) (by omega) ?_ | refine k_ald (by first | assumption | omega) (by first | assumption | exact rfl) (by omega) (by omega) (by omega) (by first | assumption | ((try simp (disch := omega) only [sr_s, sr_a, sr_sr, u1_s, u1_k]); exact rfl)) ?_ | refine k_aZ (by first | assumption | omega) (by first | assumption | exact rfl) (by omega) (by omega) (by omega) (by omega) (by (try simp (disch := omega) only [sr_s, sr_a, sr_sr, u1_u1]); exact rfl) ?_ | refine k_ifT (by first | (simp (disch := omega) only [w32_id]; first | done | omega) | omega) ?_ | refine k_ifF (by first | (simp (disch := omega) only [w32_id]; first | done | omega) | omega) ?_ | refine k_pf (by first | assumption | omega) (by (try simp (disch := omega) only [sr_s, sr_a, sr_sr, u1_u1]); exact rfl) ?_ | refine k_ast (by first | assumption | omega) (by first | assumption | exact rfl) (by omega) (by omega) (by omega) (by (try simp (disch := omega) only [sr_s, sr_a, sr_sr, u1_u1]); exact rfl) ?_ | refine k_irm (by omega) (by omega) (by omega) (by omega) ?_ | refine k_idv (by omega) (by omega) (by omega) (by omega) ?_ | refine k_tk (by first | assumption | omega) ?_ | refine k_rp (by omega) ?_ | refine k_aldR (by first | assumption | omega) (by first | assumption | exact rfl) (by omega) (by omega) (by omega) (by first | assumption | ((try simp (disch := omega) only [sr_s, sr_a, sr_sr, u1_s, u1_k]); exact rfl)) (by omega) ?_ | refine k_astR (by first | assumption | omega) (by first | assumption | exact rfl) (by omega) (by omega) (by omega) (by first | assumption | omega) (by (try simp (disch := omega) only [sr_s, sr_a, sr_sr, u1_u1]); exact rfl) ?_ | refine k_pz (by first | assumption | omega) (by omega) (by (try simp (disch := omega) only [sr_s, sr_a, sr_sr, u1_u1]); exact rfl) ?_ | refine k_alen (by first | assumption | omega) (by first | assumption | exact rfl) ?_ | refine k_cpy (by first | assumption | omega) (by first | assumption | omega) (by first | assumption | exact rfl) (by first | assumption | exact rfl) (by omega) (by omega) (by omega) (by omega) (by omega) (by omega) (by omega) (by omega) (by (try simp (disch := omega) only [sr_s, sr_a, sr_sr, u1_u1]); exact rfl) ?_)
  unfold M_X11_areasOf_w10
  refine Ok.bind (Q := fun z => ∃ M1, z = (M1, G) ∧ rF M M1 ∧ M1 124 29 = 0 ∧ ∀ i, 0 ≤ i → i < 36 → M1 133 i = 0) ?_ ?_
  · refine wh_for (fun n z => ∃ M1, z = ((M1, G), (n : Int)) ∧ rF M M1 ∧ M1 124 29 = 0 ∧ ∀ i, 0 ≤ i → i < (n : Int) → M1 133 i = 0) _ 36 (by omega) ⟨_, rfl, ⟨fun a n1 n2 n3 => sr_a _ _ n1, fun k hk => by rw [sr_s, u1_k _ _ hk]⟩, by rw [sr_s, u1_s], fun i i0 i1 => by omega⟩ ?_ ?_
    · rintro n _ hn ⟨M1, rfl, hF, e29, hz⟩
      have hp124' : pr124 (M1 124) := pr124.u hp124 (fun k hk => hF.2 k (by omega))
      have p27 := pr124.p27 hp124'
      unfold M_X11_areasOf_b10
      dsimp only
      repeat' (with_reducible first | refine k_gf (by first | assumption | omega) (by first | assumption | ((try simp (disch := omega) only [sr_s, sr_a, sr_sr, u1_s, u1_k, p27]); exact rfl)) ?_ | refine k_gr (by first | assumption | omega) (by first | assumption | ((try simp (disch := omega) only [sr_s, sr_a, sr_sr, u1_s, u1_k, p27]); exact rfl)) (by omega) ?_ | refine k_ald (by first | assumption | omega) (by first | assumption | exact rfl) (by omega) (by omega) (by omega) (by first | assumption | ((try simp (disch := omega) only [sr_s, sr_a, sr_sr, u1_s, u1_k, p27]); exact rfl)) ?_ | refine k_aZ (by first | assumption | omega) (by first | assumption | exact rfl) (by omega) (by omega) (by omega) (by omega) (by (try simp (disch := omega) only [sr_s, sr_a, sr_sr, u1_u1, p27]); exact rfl) ?_ | refine k_ifT (by first | (simp (disch := omega) only [w32_id]; first | done | omega) | omega) ?_ | refine k_ifF (by first | (simp (disch := omega) only [w32_id]; first | done | omega) | omega) ?_ | refine k_pf (by first | assumption | omega) (by (try simp (disch := omega) only [sr_s, sr_a, sr_sr, u1_u1, p27]); exact rfl) ?_ | refine k_ast (by first | assumption | omega) (by first | assumption | exact rfl) (by omega) (by omega) (by omega) (by (try simp (disch := omega) only [sr_s, sr_a, sr_sr, u1_u1, p27]); exact rfl) ?_ | refine k_irm (by omega) (by omega) (by omega) (by omega) ?_ | refine k_idv (by omega) (by omega) (by omega) (by omega) ?_ | refine k_tk (by first | assumption | omega) ?_ | refine k_rp (by omega) ?_ | refine k_aldR (by first | assumption | omega) (by first | assumption | exact rfl) (by omega) (by omega) (by omega) (by first | assumption | ((try simp (disch := omega) only [sr_s, sr_a, sr_sr, u1_s, u1_k, p27]); exact rfl)) (by omega) ?_ | refine k_astR (by first | assumption | omega) (by first | assumption | exact rfl) (by omega) (by omega) (by omega) (by first | assumption | omega) (by (try simp (disch := omega) only [sr_s, sr_a, sr_sr, u1_u1, p27]); exact rfl) ?_ | refine k_pz (by first | assumption | omega) (by omega) (by (try simp (disch := omega) only [sr_s, sr_a, sr_sr, u1_u1, p27]); exact rfl) ?_ | refine k_alen (by first | assumption | omega) (by first | assumption | exact rfl) ?_ | refine k_cpy (by first | assumption | omega) (by first | assumption | omega) (by first | assumption | exact rfl) (by first | assumption | exact rfl) (by omega) (by omega) (by omega) (by omega) (by omega) (by omega) (by omega) (by omega) (by (try simp (disch := omega) only [sr_s, sr_a, sr_sr, u1_u1, p27]); exact rfl) ?_)
      refine Ok.ret ⟨_, rfl, ⟨fun a n1 n2 n3 => ?_, fun k hk => ?_⟩, ?_, fun i i0 i1 => ?_⟩
      · rw [sr_a _ _ n2]; exact hF.1 a n1 n2 n3
      · rw [sr_a _ _ (by omega)]; exact hF.2 k hk
      · rw [sr_a _ _ (by omega)]; exact e29
      · rw [sr_s]
        by_cases y : i = (n : Int)
        · rw [u1_e _ _ y]
        · rw [u1_k _ _ y]; exact hz i i0 (by omega)
    · rintro _ ⟨M1, rfl, hS⟩
      unfold M_X11_areasOf_b10
      dsimp only
      repeat' (with_reducible first | refine k_gf (by first | assumption | omega) (by first | assumption | ((try simp (disch := omega) only [sr_s, sr_a, sr_sr, u1_s, u1_k]); exact rfl)) ?_ | refine k_gr (by first | assumption | omega) (by first | assumption | ((try simp (disch := omega) only [sr_s, sr_a, sr_sr, u1_s, u1_k]); exact rfl)) (by omega) ?_ | refine k_ald (by first | assumption | omega) (by first | assumption | exact rfl) (by omega) (by omega) (by omega) (by first | assumption | ((try simp (disch := omega) only [sr_s, sr_a, sr_sr, u1_s, u1_k]); exact rfl)) ?_ | refine k_aZ (by first | assumption | omega) (by first | assumption | exact rfl) (by omega) (by omega) (by omega) (by omega) (by (try simp (disch := omega) only [sr_s, sr_a, sr_sr, u1_u1]); exact rfl) ?_ | refine k_ifT (by first | (simp (disch := omega) only [w32_id]; first | done | omega) | omega) ?_ | refine k_ifF (by first | (simp (disch := omega) only [w32_id]; first | done | omega) | omega) ?_ | refine k_pf (by first | assumption | omega) (by (try simp (disch := omega) only [sr_s, sr_a, sr_sr, u1_u1]); exact rfl) ?_ | refine k_ast (by first | assumption | omega) (by first | assumption | exact rfl) (by omega) (by omega) (by omega) (by (try simp (disch := omega) only [sr_s, sr_a, sr_sr, u1_u1]); exact rfl) ?_ | refine k_irm (by omega) (by omega) (by omega) (by omega) ?_ | refine k_idv (by omega) (by omega) (by omega) (by omega) ?_ | refine k_tk (by first | assumption | omega) ?_ | refine k_rp (by omega) ?_ | refine k_aldR (by first | assumption | omega) (by first | assumption | exact rfl) (by omega) (by omega) (by omega) (by first | assumption | ((try simp (disch := omega) only [sr_s, sr_a, sr_sr, u1_s, u1_k]); exact rfl)) (by omega) ?_ | refine k_astR (by first | assumption | omega) (by first | assumption | exact rfl) (by omega) (by omega) (by omega) (by first | assumption | omega) (by (try simp (disch := omega) only [sr_s, sr_a, sr_sr, u1_u1]); exact rfl) ?_ | refine k_pz (by first | assumption | omega) (by omega) (by (try simp (disch := omega) only [sr_s, sr_a, sr_sr, u1_u1]); exact rfl) ?_ | refine k_alen (by first | assumption | omega) (by first | assumption | exact rfl) ?_ | refine k_cpy (by first | assumption | omega) (by first | assumption | omega) (by first | assumption | exact rfl) (by first | assumption | exact rfl) (by omega) (by omega) (by omega) (by omega) (by omega) (by omega) (by omega) (by omega) (by (try simp (disch := omega) only [sr_s, sr_a, sr_sr, u1_u1]); exact rfl) ?_)
      exact Ok.ret ⟨M1, rfl, hS⟩
  · rintro _ ⟨M1, rfl, hF, e29, hz⟩
    unfold M_X11_areasOf_p31 M_X11_areasOf_w34
    refine Ok.bind (Q := fun z => ∃ M1, z = ((M1, G), (svN (M rg 0) (M rg 1) v 36).2.2.1) ∧ rF M M1 ∧ M1 124 29 = (svN (M rg 0) (M rg 1) v 36).2.2.2) ?_ ?_
    · refine wh_for (fun q z => ∃ M1, z = ((M1, G), (svN (M rg 0) (M rg 1) v (inn (M rg 0) q).toNat).2.2.1, (q : Int)) ∧ rF M M1 ∧ rMt M1 (M rg 0) (M rg 1) map mk (svN (M rg 0) (M rg 1) v (inn (M rg 0) q).toNat).1 ∧ M1 124 29 = (svN (M rg 0) (M rg 1) v (inn (M rg 0) q).toNat).2.2.2) _ (M rg 0 * M rg 1).toNat (by omega) ⟨M1, ?_, hF, ⟨fun i i0 i1 => Or.inl (hz i i0 i1), fun p hp => ?_⟩, ?_⟩ ?_ ?_
      · have : (inn (M rg 0) ((0 : Nat) : Int)).toNat = 0 := by unfold inn; simp
        rw [this]
        show _ = ((M1, G), v.2.2.1, (0 : Int))
        rw [hv0.1]
      · have : (inn (M rg 0) ((0 : Nat) : Int)).toNat = 0 := by unfold inn; simp
        rw [this]
        show v.1 p = 0 ↔ _
        have hb := idx_b a1 a2 b2 hp
        rw [hm0 p hp, hF.1 129 (by omega) (by omega) (by omega)]
        exact ⟨fun z => ⟨hz _ hb.1 (by omega), z⟩, fun z => z.2⟩
      · have : (inn (M rg 0) ((0 : Nat) : Int)).toNat = 0 := by unfold inn; simp
        rw [this, e29]
        exact hv0.2.symm
      · rintro q _ hq ⟨M2, rfl, hF2, hMt2, e29'⟩
        have hin := inn_in a1 a2 b1 b2 (q := (q : Int)) (by omega) (by omega)
        have hb := inV_36 a2 b2 hin
        have hix := idx_inn (wd := M rg 0) a1 a2 (q := (q : Int)) (by omega)
        have hnx := svN_next a1 a2 b1 b2 hv (q := (q : Int)) (by omega) (by omega)
        have hI := svN_I a2 b2 hv (inn (M rg 0) q).toNat (by omega)
        rw [show ((q : Int) + 1) = ((q + 1 : Nat) : Int) by omega] at hnx
        rw [hnx]
        clear hnx
        generalize svN (M rg 0) (M rg 1) v (inn (M rg 0) q).toNat = v1 at *
        generalize hP : inn (M rg 0) (q : Int) = P at *
        have hqe := hMt2.2 P hin
        rw [hix] at hqe
        have h01 := hMt2.1 q (by omega) (by omega)
        have frg := hF2.1 rg (by omega) (by omega) (by omega)
        have f129 := hF2.1 129 (by omega) (by omega) (by omega)
        have hmv := hmp (map + q)
        rw [← f129] at hmv
        have hB1 : rB M2 G rg := hB'.cg (hF2.2 3 (by omega)) frg
        have hal := X10_all_ok hB1
        rw [frg] at hal
        have hp124' : pr124 (M2 124) := pr124.u hp124 (fun k hk => hF2.2 k (by omega))
        have p22 := pr124.p22 hp124'
        have p27 := pr124.p27 hp124'
        have p28 := pr124.p28 hp124'
        have r3' := hB1.2.1
        unfold M_X11_areasOf_b34 M_X11_areasOf_p214
        dsimp only
        unfold sv1
        by_cases y : v1.1 P = 0
        · rw [if_pos y]
          obtain ⟨z1, z2⟩ := hqe.1 y
          obtain ⟨-, hA⟩ := hI.a a2 b2 hb.1 hb.2 y
          repeat' (with_reducible first | refine k_gf (by first | assumption | omega) (by first | assumption | ((try simp (disch := omega) only [sr_s, sr_a, sr_sr, u1_s, u1_k, p22, p27, p28, r3', z1, z2]); exact rfl)) ?_ | refine k_gr (by first | assumption | omega) (by first | assumption | ((try simp (disch := omega) only [sr_s, sr_a, sr_sr, u1_s, u1_k, p22, p27, p28, r3', z1, z2]); exact rfl)) (by omega) ?_ | refine k_ald (by first | assumption | omega) (by first | assumption | exact rfl) (by omega) (by omega) (by omega) (by first | assumption | ((try simp (disch := omega) only [sr_s, sr_a, sr_sr, u1_s, u1_k, p22, p27, p28, r3', z1, z2]); exact rfl)) ?_ | refine k_aZ (by first | assumption | omega) (by first | assumption | exact rfl) (by omega) (by omega) (by omega) (by omega) (by (try simp (disch := omega) only [sr_s, sr_a, sr_sr, u1_u1, p22, p27, p28, r3', z1, z2]); exact rfl) ?_ | refine k_eq (hal) ?_ | refine k_ifT (by first | (simp (disch := omega) only [w32_id]; first | done | omega) | omega) ?_ | refine k_ifF (by first | (simp (disch := omega) only [w32_id]; first | done | omega) | omega) ?_ | refine k_pf (by first | assumption | omega) (by (try simp (disch := omega) only [sr_s, sr_a, sr_sr, u1_u1, p22, p27, p28, r3', z1, z2]); exact rfl) ?_ | refine k_ast (by first | assumption | omega) (by first | assumption | exact rfl) (by omega) (by omega) (by omega) (by (try simp (disch := omega) only [sr_s, sr_a, sr_sr, u1_u1, p22, p27, p28, r3', z1, z2]); exact rfl) ?_ | refine k_irm (by omega) (by omega) (by omega) (by omega) ?_ | refine k_idv (by omega) (by omega) (by omega) (by omega) ?_ | refine k_tk (by first | assumption | omega) ?_ | refine k_rp (by omega) ?_ | refine k_aldR (by first | assumption | omega) (by first | assumption | exact rfl) (by omega) (by omega) (by omega) (by first | assumption | ((try simp (disch := omega) only [sr_s, sr_a, sr_sr, u1_s, u1_k, p22, p27, p28, r3', z1, z2]); exact rfl)) (by omega) ?_ | refine k_astR (by first | assumption | omega) (by first | assumption | exact rfl) (by omega) (by omega) (by omega) (by first | assumption | omega) (by (try simp (disch := omega) only [sr_s, sr_a, sr_sr, u1_u1, p22, p27, p28, r3', z1, z2]); exact rfl) ?_ | refine k_pz (by first | assumption | omega) (by omega) (by (try simp (disch := omega) only [sr_s, sr_a, sr_sr, u1_u1, p22, p27, p28, r3', z1, z2]); exact rfl) ?_ | refine k_alen (by first | assumption | omega) (by first | assumption | exact rfl) ?_ | refine k_cpy (by first | assumption | omega) (by first | assumption | omega) (by first | assumption | exact rfl) (by first | assumption | exact rfl) (by omega) (by omega) (by omega) (by omega) (by omega) (by omega) (by omega) (by omega) (by (try simp (disch := omega) only [sr_s, sr_a, sr_sr, u1_u1, p22, p27, p28, r3', z1, z2]); exact rfl) ?_)
          refine (X11_w97_ok (M := M2) (rg := rg) (map := map) (mk := mk) (s := (u1 v1.1 P 1, u1 v1.2.1 0 P, 1)) hG hp124' hB1 (by rw [f129]; exact hmp) k0 k6 m0 m1 (by rw [frg]; exact hA) rfl ⟨⟨fun a n1 n2 n3 => ?_, fun k hk => ?_⟩, ?_, ?_, fun k kk0 kk1 => ?_⟩ (by rw [e29']; exact hI.2.2.2.2)).mono ?_
          · rw [sr_a _ _ n2, sr_a _ _ n3]
          · rw [sr_a _ _ (by omega), sr_a _ _ (by omega)]
          · rw [frg]
            refine rMt_up (q := P) a1 a2 hin hMt2 ?_ ?_
            · rw [sr_s, hix]
            · rw [sr_a _ _ (by omega), sr_a _ _ (by omega)]
          · rw [sr_a _ _ (by omega), sr_a _ _ (by omega)]
          · have kk1 : k < 1 := kk1
            rw [sr_a _ _ (by omega), sr_s, u1_e _ _ (by omega), frg]
            show _ = idx (M rg 0) (u1 v1.2.1 0 P k)
            rw [u1_e _ _ (by omega), hix]
          · rintro _ ⟨M3, rfl, hF3, hMt3, h29⟩
            rw [frg] at hMt3 h29
            rw [e29'] at h29
            generalize arN (M rg 0) (M rg 1) (u1 v1.1 P 1, u1 v1.2.1 0 P, 1) 36 = s36 at hMt3 h29 ⊢
            exact ⟨M3, rfl, ⟨fun a n1 n2 n3 => (hF3.1 a n1 n2 n3).trans (hF2.1 a n1 n2 n3), fun k hk => (hF3.2 k hk).trans (hF2.2 k hk)⟩, hMt3, h29⟩
        · rw [if_neg y]
          by_cases y3 : M2 133 (q : Int) = 0
          · have y4 : M2 129 (map + q) ≠ mk := fun z => y (hqe.2 ⟨y3, z⟩)
            repeat' (with_reducible first | refine k_gf (by first | assumption | omega) (by first | assumption | ((try simp (disch := omega) only [sr_s, sr_a, sr_sr, u1_s, u1_k, p22, p27, p28, r3', y3]); exact rfl)) ?_ | refine k_gr (by first | assumption | omega) (by first | assumption | ((try simp (disch := omega) only [sr_s, sr_a, sr_sr, u1_s, u1_k, p22, p27, p28, r3', y3]); exact rfl)) (by omega) ?_ | refine k_ald (by first | assumption | omega) (by first | assumption | exact rfl) (by omega) (by omega) (by omega) (by first | assumption | ((try simp (disch := omega) only [sr_s, sr_a, sr_sr, u1_s, u1_k, p22, p27, p28, r3', y3]); exact rfl)) ?_ | refine k_aZ (by first | assumption | omega) (by first | assumption | exact rfl) (by omega) (by omega) (by omega) (by omega) (by (try simp (disch := omega) only [sr_s, sr_a, sr_sr, u1_u1, p22, p27, p28, r3', y3]); exact rfl) ?_ | refine k_eq (hal) ?_ | refine k_ifT (by first | (simp (disch := omega) only [w32_id]; first | done | omega) | omega) ?_ | refine k_ifF (by first | (simp (disch := omega) only [w32_id]; first | done | omega) | omega) ?_ | refine k_pf (by first | assumption | omega) (by (try simp (disch := omega) only [sr_s, sr_a, sr_sr, u1_u1, p22, p27, p28, r3', y3]); exact rfl) ?_ | refine k_ast (by first | assumption | omega) (by first | assumption | exact rfl) (by omega) (by omega) (by omega) (by (try simp (disch := omega) only [sr_s, sr_a, sr_sr, u1_u1, p22, p27, p28, r3', y3]); exact rfl) ?_ | refine k_irm (by omega) (by omega) (by omega) (by omega) ?_ | refine k_idv (by omega) (by omega) (by omega) (by omega) ?_ | refine k_tk (by first | assumption | omega) ?_ | refine k_rp (by omega) ?_ | refine k_aldR (by first | assumption | omega) (by first | assumption | exact rfl) (by omega) (by omega) (by omega) (by first | assumption | ((try simp (disch := omega) only [sr_s, sr_a, sr_sr, u1_s, u1_k, p22, p27, p28, r3', y3]); exact rfl)) (by omega) ?_ | refine k_astR (by first | assumption | omega) (by first | assumption | exact rfl) (by omega) (by omega) (by omega) (by first | assumption | omega) (by (try simp (disch := omega) only [sr_s, sr_a, sr_sr, u1_u1, p22, p27, p28, r3', y3]); exact rfl) ?_ | refine k_pz (by first | assumption | omega) (by omega) (by (try simp (disch := omega) only [sr_s, sr_a, sr_sr, u1_u1, p22, p27, p28, r3', y3]); exact rfl) ?_ | refine k_alen (by first | assumption | omega) (by first | assumption | exact rfl) ?_ | refine k_cpy (by first | assumption | omega) (by first | assumption | omega) (by first | assumption | exact rfl) (by first | assumption | exact rfl) (by omega) (by omega) (by omega) (by omega) (by omega) (by omega) (by omega) (by omega) (by (try simp (disch := omega) only [sr_s, sr_a, sr_sr, u1_u1, p22, p27, p28, r3', y3]); exact rfl) ?_)
            exact Ok.ret ⟨M2, rfl, hF2, hMt2, e29'⟩
          · repeat' (with_reducible first | refine k_gf (by first | assumption | omega) (by first | assumption | ((try simp (disch := omega) only [sr_s, sr_a, sr_sr, u1_s, u1_k, p22, p27, p28, r3']); exact rfl)) ?_ | refine k_gr (by first | assumption | omega) (by first | assumption | ((try simp (disch := omega) only [sr_s, sr_a, sr_sr, u1_s, u1_k, p22, p27, p28, r3']); exact rfl)) (by omega) ?_ | refine k_ald (by first | assumption | omega) (by first | assumption | exact rfl) (by omega) (by omega) (by omega) (by first | assumption | ((try simp (disch := omega) only [sr_s, sr_a, sr_sr, u1_s, u1_k, p22, p27, p28, r3']); exact rfl)) ?_ | refine k_aZ (by first | assumption | omega) (by first | assumption | exact rfl) (by omega) (by omega) (by omega) (by omega) (by (try simp (disch := omega) only [sr_s, sr_a, sr_sr, u1_u1, p22, p27, p28, r3']); exact rfl) ?_ | refine k_eq (hal) ?_ | refine k_ifT (by first | (simp (disch := omega) only [w32_id]; first | done | omega) | omega) ?_ | refine k_ifF (by first | (simp (disch := omega) only [w32_id]; first | done | omega) | omega) ?_ | refine k_pf (by first | assumption | omega) (by (try simp (disch := omega) only [sr_s, sr_a, sr_sr, u1_u1, p22, p27, p28, r3']); exact rfl) ?_ | refine k_ast (by first | assumption | omega) (by first | assumption | exact rfl) (by omega) (by omega) (by omega) (by (try simp (disch := omega) only [sr_s, sr_a, sr_sr, u1_u1, p22, p27, p28, r3']); exact rfl) ?_ | refine k_irm (by omega) (by omega) (by omega) (by omega) ?_ | refine k_idv (by omega) (by omega) (by omega) (by omega) ?_ | refine k_tk (by first | assumption | omega) ?_ | refine k_rp (by omega) ?_ | refine k_aldR (by first | assumption | omega) (by first | assumption | exact rfl) (by omega) (by omega) (by omega) (by first | assumption | ((try simp (disch := omega) only [sr_s, sr_a, sr_sr, u1_s, u1_k, p22, p27, p28, r3']); exact rfl)) (by omega) ?_ | refine k_astR (by first | assumption | omega) (by first | assumption | exact rfl) (by omega) (by omega) (by omega) (by first | assumption | omega) (by (try simp (disch := omega) only [sr_s, sr_a, sr_sr, u1_u1, p22, p27, p28, r3']); exact rfl) ?_ | refine k_pz (by first | assumption | omega) (by omega) (by (try simp (disch := omega) only [sr_s, sr_a, sr_sr, u1_u1, p22, p27, p28, r3']); exact rfl) ?_ | refine k_alen (by first | assumption | omega) (by first | assumption | exact rfl) ?_ | refine k_cpy (by first | assumption | omega) (by first | assumption | omega) (by first | assumption | exact rfl) (by first | assumption | exact rfl) (by omega) (by omega) (by omega) (by omega) (by omega) (by omega) (by omega) (by omega) (by (try simp (disch := omega) only [sr_s, sr_a, sr_sr, u1_u1, p22, p27, p28, r3']); exact rfl) ?_)
            exact Ok.ret ⟨M2, rfl, hF2, hMt2, e29'⟩
      · rintro _ ⟨M2, rfl, hF2, hMt2, e29'⟩
        have frg := hF2.1 rg (by omega) (by omega) (by omega)
        have hB1 : rB M2 G rg := hB'.cg (hF2.2 3 (by omega)) frg
        have hal := X10_all_ok hB1
        rw [frg] at hal
        have r3' := hB1.2.1
        rw [show (((M rg 0 * M rg 1).toNat : Nat) : Int) = M rg 0 * M rg 1 by omega, ← svN_all a1 a2 b1 b2 hv] at *
        unfold M_X11_areasOf_b34
        dsimp only
        generalize M rg 0 * M rg 1 = al at *
        repeat' (with_reducible first | refine k_gf (by first | assumption | omega) (by first | assumption | ((try simp (disch := omega) only [sr_s, sr_a, sr_sr, u1_s, u1_k, r3']); exact rfl)) ?_ | refine k_gr (by first | assumption | omega) (by first | assumption | ((try simp (disch := omega) only [sr_s, sr_a, sr_sr, u1_s, u1_k, r3']); exact rfl)) (by omega) ?_ | refine k_ald (by first | assumption | omega) (by first | assumption | exact rfl) (by omega) (by omega) (by omega) (by first | assumption | ((try simp (disch := omega) only [sr_s, sr_a, sr_sr, u1_s, u1_k, r3']); exact rfl)) ?_ | refine k_aZ (by first | assumption | omega) (by first | assumption | exact rfl) (by omega) (by omega) (by omega) (by omega) (by (try simp (disch := omega) only [sr_s, sr_a, sr_sr, u1_u1, r3']); exact rfl) ?_ | refine k_eq (hal) ?_ | refine k_ifT (by first | (simp (disch := omega) only [w32_id]; first | done | omega) | omega) ?_ | refine k_ifF (by first | (simp (disch := omega) only [w32_id]; first | done | omega) | omega) ?_ | refine k_pf (by first | assumption | omega) (by (try simp (disch := omega) only [sr_s, sr_a, sr_sr, u1_u1, r3']); exact rfl) ?_ | refine k_ast (by first | assumption | omega) (by first | assumption | exact rfl) (by omega) (by omega) (by omega) (by (try simp (disch := omega) only [sr_s, sr_a, sr_sr, u1_u1, r3']); exact rfl) ?_ | refine k_irm (by omega) (by omega) (by omega) (by omega) ?_ | refine k_idv (by omega) (by omega) (by omega) (by omega) ?_ | refine k_tk (by first | assumption | omega) ?_ | refine k_rp (by omega) ?_ | refine k_aldR (by first | assumption | omega) (by first | assumption | exact rfl) (by omega) (by omega) (by omega) (by first | assumption | ((try simp (disch := omega) only [sr_s, sr_a, sr_sr, u1_s, u1_k, r3']); exact rfl)) (by omega) ?_ | refine k_astR (by first | assumption | omega) (by first | assumption | exact rfl) (by omega) (by omega) (by omega) (by first | assumption | omega) (by (try simp (disch := omega) only [sr_s, sr_a, sr_sr, u1_u1, r3']); exact rfl) ?_ | refine k_pz (by first | assumption | omega) (by omega) (by (try simp (disch := omega) only [sr_s, sr_a, sr_sr, u1_u1, r3']); exact rfl) ?_ | refine k_alen (by first | assumption | omega) (by first | assumption | exact rfl) ?_ | refine k_cpy (by first | assumption | omega) (by first | assumption | omega) (by first | assumption | exact rfl) (by first | assumption | exact rfl) (by omega) (by omega) (by omega) (by omega) (by omega) (by omega) (by omega) (by omega) (by (try simp (disch := omega) only [sr_s, sr_a, sr_sr, u1_u1, r3']); exact rfl) ?_)
        exact Ok.ret ⟨M2, rfl, hF2, e29'⟩
    · rintro _ ⟨M2, rfl, hS⟩
      exact Ok.ret ⟨M2, rfl, hS⟩
end A3
