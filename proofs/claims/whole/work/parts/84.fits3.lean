/-! fits: find keeps what stands between calls; the digits of rows -/
section F3
variable {M M1 M2 Mx : Int → Int → Int} {G : GG} {td r rg : Int}
theorem Inv0.fi (h : Inv0 Mx G td r) (g : ∀ a, a ≠ 115 → a ≠ 116 → M1 a = Mx a) (hp : pr115 (M1 115)) (hf : ∀ rg, isR Mx G td rg → cFi M1 td) : Inv0 M1 G td r := by
  obtain ⟨⟨c1, c2, c3, c4, c5, c6, c7, c8, c9, c10, c11, c12, c13, c14, c15⟩, hs, h3, h4, h5, h6⟩ := h
  refine ⟨⟨c1, by rw [g 0 (by omega) (by omega)]; exact c2, c3, by rw [g 0 (by omega) (by omega)]; exact c4, by rw [g 0 (by omega) (by omega)]; exact c5, ?_, ?_, ?_, ?_, ?_, ?_, ?_, ?_, ?_, hp⟩, ?_, ?_, ?_, ?_, ?_⟩
  · unfold shR at *; simp (disch := omega) only [g]; exact c6
  · unfold shR at *; simp (disch := omega) only [g]; exact c7
  · unfold shW mW zoW at *; simp (disch := omega) only [g]; exact c8
  · unfold shW mW zoW at *; simp (disch := omega) only [g]; exact c9
  · unfold shW mW zoW at *; simp (disch := omega) only [g]; exact c10
  · intro w w0 w1 w2
    have := c11 w w0 w1 w2
    unfold shW mW zoW at *; simp (disch := omega) only [g]; exact this
  · simp (disch := omega) only [g]; exact c12
  · simp (disch := omega) only [g]; exact c13
  · unfold rot at *; simp (disch := omega) only [g]; exact c14
  · unfold cSc shW mW zoW chI at *; simp (disch := omega) only [g]; exact hs
  · unfold rSh at *; simp (disch := omega) only [g]; exact h3
  · unfold cTp at *; simp (disch := omega) only [g]; exact h4
  · simp (disch := omega) only [g]; exact h5
  · rcases h6 with h6 | ⟨rg, h6⟩
    · left
      unfold noR at *
      have ht : td = 2 ∨ td = 13 := c3
      simp (disch := omega) only [g]
      exact h6
    · right
      have hcf := hf rg h6
      have ht : td = 2 ∨ td = 13 := c3
      obtain ⟨q1, q2, q3, q4, q5, q6, q7, q8, q9, q10, q11, q12, -⟩ := h6
      have hrg := q2.1
      refine ⟨rg, by rw [g 124 (by omega) (by omega)]; exact q1, q2, ?_, ?_, ?_, ?_, ?_, ?_, ?_, ?_, ?_, ?_, hcf⟩
      · simp (disch := omega) only [g]; exact q3
      · simp (disch := omega) only [g]; exact q4
      · obtain ⟨-, -, -, q5⟩ := q5
        refine ⟨rfl, rfl, rfl, ?_⟩
        simp (disch := omega) only [g]; exact q5
      · unfold wR at *; simp (disch := omega) only [g]; exact q6
      · unfold cTd at *; simp (disch := omega) only [g]; exact q7
      · unfold cGs at *; simp (disch := omega) only [g]; exact q8
      · unfold cSe at *; simp (disch := omega) only [g]; exact q9
      · unfold cW at *; simp (disch := omega) only [g]; exact q10
      · simp (disch := omega) only [g]
        refine ⟨q11.1, q11.2.1, q11.2.2.1, fun i i0 i1 => ?_⟩
        have hx := q11.2.2.2 i i0 i1
        have hri := c14.2.2 i i0 (by have := q11.2.2.1; omega)
        have hb : 39 ≤ Mx 37 i ∧ Mx 37 i ≤ 83 := by omega
        clear hri
        unfold wR cW at *
        simp (disch := omega) only [g]
        exact hx
      · simp (disch := omega) only [g]
        refine ⟨q12.1, q12.2.1, q12.2.2.1, fun i i0 i1 => ?_⟩
        have hx := q12.2.2.2 i i0 i1
        have := q12.2.2.1
        unfold wR cW at *
        simp (disch := omega) only [g]
        exact hx
theorem fiI_ok (h0 : Inv0 M G td r) (hR : isR M G td rg) : fiI M G td := by
  obtain ⟨htd, hsr, hsw, -⟩ := h0.tdI
  obtain ⟨-, -, -, w2, -, hwf⟩ := tdw_ok h0 hR
  have hh := h0.tw
  have h8 := hR.2.2.2.2.2.2.1.2.2.2.2.2.2.2
  have hg := hR.2.2.2.2.2.2.2.1
  exact ⟨h0.1.1, htd, hsr, hsw, by omega, by omega, hwf.2.2.2.2.2.2.2.2.2.1, by rw [w2]; exact h8, hg.2.1, hg.2.2.1⟩
/-- all rows -/
def allR (M : Int → Int → Int) (td : Int) : Nat := (M td 4 ^ uk (M (td + 4)) (M (td + 1) 2).toNat).toNat
theorem X1_find_ok (h0 : Inv0 M G td r) (hR : isR M G td rg) (hg : 1 ≤ M td 4) : Ok (M_X1_find (M, G) 115 td 28) (fun h => ∃ M1, h = (M1, G) ∧ (∀ a, (a < 28 ∨ 31 < a) → (a < 99 ∨ 105 < a) → a ≠ 115 → a ≠ 116 → M1 a = M a) ∧ Inv0 M1 G td r ∧ M1 115 1 = 1) := by
  have hG := h0.1.1
  have hI := fiI_ok h0 hR
  have hp115 := h0.1.2.2.2.2.2.2.2.2.2.2.2.2.2.2
  have hmk := hR.mk
  obtain ⟨htd, hsr, hsw, hgr⟩ := h0.tdI
  obtain ⟨hW, w0, w1, w2, w6, hwf⟩ := tdw_ok h0 hR
  have hh := h0.tw
  have hcg := hR.2.2.2.2.2.2.2.1
  have hcf := hR.2.2.2.2.2.2.2.2.2.2.2.2
  have hu4 := hI.2.2.2.2.2.2.2.1
  have hpb := pw_b hg hI.2.2.2.2.2.2.2.2.2 _ hu4
  have k115 := gk_115 hG
  have kt := hgr.1
  have s1 := hsr.1
  unfold M_X1_find
  rcases hcf with hc0 | ⟨hc1, -⟩
  · refine k_tk k115 (k_gf k115 hc0 (k_ifT (by decide) ?_))
    repeat' (with_reducible first | refine k_gf (by first | assumption | omega) (by first | assumption | ((try simp (disch := omega) only [sr_s, sr_a, sr_sr, u1_s, u1_k]); exact rfl)) ?_ | refine k_gr (by first | assumption | omega) (by first | assumption | ((try simp (disch := omega) only [sr_s, sr_a, sr_sr, u1_s, u1_k]); exact rfl)) (by omega) ?_ | refine k_ald (by first | assumption | omega) (by first | assumption | exact rfl) (by omega) (by omega) (by omega) (by first | assumption | ((try simp (disch := omega) only [sr_s, sr_a, sr_sr, u1_s, u1_k]); exact rfl)) ?_ | refine k_ifT (by first | (simp (disch := omega) only [w32_id]; first | done | omega) | omega) ?_ | refine k_ifF (by first | (simp (disch := omega) only [w32_id]; first | done | omega) | omega) ?_ | refine k_pf (by first | assumption | omega) (by (try simp (disch := omega) only [sr_s, sr_a, sr_sr, u1_u1]); exact rfl) ?_ | refine k_ast (by first | assumption | omega) (by first | assumption | exact rfl) (by omega) (by omega) (by omega) (by (try simp (disch := omega) only [sr_s, sr_a, sr_sr, u1_u1]); exact rfl) ?_ | refine k_irm (by omega) (by omega) (by omega) (by omega) ?_ | refine k_idv (by omega) (by omega) (by omega) (by omega) ?_ | refine k_tk (by first | assumption | omega) ?_ | refine k_rp (by omega) ?_ | refine k_aldR (by first | assumption | omega) (by first | assumption | exact rfl) (by omega) (by omega) (by omega) (by first | assumption | ((try simp (disch := omega) only [sr_s, sr_a, sr_sr, u1_s, u1_k]); exact rfl)) (by omega) ?_ | refine k_astR (by first | assumption | omega) (by first | assumption | exact rfl) (by omega) (by omega) (by omega) (by first | assumption | omega) (by (try simp (disch := omega) only [sr_s, sr_a, sr_sr, u1_u1]); exact rfl) ?_ | refine k_pz (by first | assumption | omega) (by omega) (by (try simp (disch := omega) only [sr_s, sr_a, sr_sr, u1_u1]); exact rfl) ?_ | refine k_alen (by first | assumption | omega) (by first | assumption | exact rfl) ?_ | refine k_cpy (by first | assumption | omega) (by first | assumption | omega) (by first | assumption | exact rfl) (by first | assumption | exact rfl) (by omega) (by omega) (by omega) (by omega) (by omega) (by omega) (by omega) (by omega) (by (try simp (disch := omega) only [sr_s, sr_a, sr_sr, u1_u1]); exact rfl) ?_)
    generalize hN : sr M 115 (u1 (u1 (M 115) 1 1) 3 0) = N
    have n : ∀ a, a ≠ 115 → N a = M a := fun a ha => by rw [← hN, sr_a _ _ ha]
    have hIN : fiI N G td := hI.cg (fun a a0 a1 => n a (by omega))
    have huc := X5_unknownCount_ok hIN
    have hw := X1_weight_ok hIN (d := ((uk (M (td + 4)) (M (td + 1) 2).toNat : Nat) : Int)) (by omega) (by omega)
    rw [n (td + 4) (by omega), n (td + 1) (by omega)] at huc
    rw [n td (by omega), show (((uk (M (td + 4)) (M (td + 1) 2).toNat : Nat) : Int)).toNat = uk (M (td + 4)) (M (td + 1) 2).toNat by omega] at hw
    refine k_eq huc (k_eq hw (k_gr (v := td + 1) kt (by rw [n td (by omega)]; exact s1) (by omega) ?_))
    have hbe := X8_become_ok (M := N) (w := 28) (v := td + 1) (gW_28 hG) (by have := h0.2.1.1.1; unfold mW at *; rw [n 28 (by omega)]; exact this) (by have := h0.2.1.1.2; unfold zoW at *; rw [n (28 + 1) (by omega), n (28 + 2) (by omega), n (28 + 3) (by omega)]; exact this) hgr.2.1 (by have := hsw.1; unfold mW at *; rw [n (td + 1) (by omega)]; exact this) (by have := hsw.2; unfold zoW at *; rw [n (td + 1 + 1) (by omega), n (td + 1 + 2) (by omega), n (td + 1 + 3) (by omega)]; exact this) (by omega)
    refine k_eq hbe ?_
    have hF0 : fnI M (beM N 28 (td + 1)) td 0 := by
      have b0 := be_0 (M := N) (w := 28) (v := td + 1)
      have b1 : beM N 28 (td + 1) 29 = N (td + 2) := by have := be_1 (M := N) (w := 28) (v := td + 1); rw [show td + 1 + 1 = td + 2 by omega] at this; exact this
      have b2 : beM N 28 (td + 1) 30 = N (td + 3) := by have := be_2 (M := N) (w := 28) (v := td + 1); rw [show td + 1 + 2 = td + 3 by omega] at this; exact this
      have b3 : beM N 28 (td + 1) 31 = N (td + 4) := by have := be_3 (M := N) (w := 28) (v := td + 1); rw [show td + 1 + 3 = td + 4 by omega] at this; exact this
      have ba : ∀ a, (a < 28 ∨ 28 + 3 < a) → beM N 28 (td + 1) a = N a := fun a ha => be_a ha
      have t1 := n (td + 1) (by omega)
      refine ⟨fun a x1 x2 x3 x4 => (ba a (by omega)).trans (n a x3), ?_, ?_, ?_, ?_, ?_, ?_, ?_, ?_, fun k n1 n3 => ?_, ?_, ?_, fun r' hr' => by omega⟩
      · rw [b0, t1]; exact ⟨rfl, rfl, rfl, rfl⟩
      · unfold mW; rw [b0, n 28 (by omega)]; exact h0.2.1.1.1
      · rw [b1]; exact n _ (by omega)
      · rw [b2]; exact n _ (by omega)
      · rw [b3, n (td + 4) (by omega)]; exact fun i _ _ _ => rfl
      · rw [b3, n (td + 4) (by omega)]; exact hwf.2.2.2.2.2.2.2.2.2.1
      · rw [b3, n (td + 4) (by omega)]
        have := hsw.2.2.2
        rw [show td + 1 + 3 = td + 4 by omega] at this
        exact this
      · have := h0.2.1.2.2.1
        unfold chI at *
        simp (disch := omega) only [ba, n]
        exact this
      · rw [ba 115 (by omega), ← hN, sr_s, u1_k _ _ n3, u1_k _ _ n1]
      · rw [ba 115 (by omega), ← hN, sr_s, u1_k _ _ (by omega), u1_s]
      · rw [ba 115 (by omega), ← hN, sr_s, u1_s]; rfl
    unfold M_X1_find_w38 M_X1_find_p90
    refine Ok.bind (Q := fun h => ∃ M1, h = (M1, G) ∧ fnI M M1 td (allR M td)) ?_ ?_
    · refine wh_for (fun i s => ∃ M1, s = ((M1, G), (i : Int)) ∧ fnI M M1 td i) _ (allR M td) (by unfold allR; omega) ⟨_, rfl, hF0⟩ ?_ ?_
      · rintro i _ hi ⟨M1, rfl, hF⟩
        unfold allR at hi
        refine (X1_find_step hI hp115 hg hmk.2 (by rw [w0, w1, w2]; exact hwf) w6 hcg.2.2.2.1 (by rw [w0, w1]; exact fun g g0 g1 => (hcg.2.2.2.2.1 g g0 g1).1) (by rw [w0, w1, w2]; exact hR.se) (by omega) hF).mono ?_
        rintro _ ⟨M2, rfl, hF2⟩
        exact ⟨M2, rfl, hF2⟩
      · rintro _ ⟨M1, rfl, hF⟩
        unfold M_X1_find_b38
        unfold allR at *
        refine k_ifF (by rw [w32_id (by omega) (by omega), w32_id (by omega) (by omega)]; omega) (Ok.ret ⟨M1, rfl, hF⟩)
    · rintro _ ⟨M1, rfl, hF⟩
      refine Ok.ret ⟨M1, rfl, hF.1, ?_, hF.2.2.2.2.2.2.2.2.2.2.1⟩
      obtain ⟨f, ⟨z0, z1, z2, z6⟩, hm, w29, w30, hkn, h31b, h31z, hch, f115, k1, k3, hrows⟩ := hF
      have hq : cQ M (sr (sr M1 115 (M 115)) 116 (M 116)) := by
        obtain ⟨v1, v2, v3, v4, v5, v6, v7, v8, v9, v10⟩ := h0.2.1
        have w : ∀ a, a ≠ 115 → a ≠ 116 → sr (sr M1 115 (M 115)) 116 (M 116) a = M1 a := fun a x y => by rw [sr_a _ _ y, sr_a _ _ x]
        refine ⟨fun a ha => ?_, fun k _ => ?_, ?_, ?_, ?_, ?_, ?_, ?_, ?_, ?_, ?_, ?_⟩
        · by_cases e : a = 116
          · rw [e, sr_s]
          · rw [sr_a _ _ e]
            by_cases e2 : a = 115
            · rw [e2, sr_s]
            · rw [sr_a _ _ e2]; exact f a (by omega) (by omega) e2 e
        · rw [w 0 (by omega) (by omega), f 0 (by omega) (by omega) (by omega) (by omega)]
        · unfold shW mW zoW at *
          rw [w 28 (by omega) (by omega), w (28 + 1) (by omega) (by omega), w (28 + 2) (by omega) (by omega), w (28 + 3) (by omega) (by omega)]
          refine ⟨hm, ?_, ?_, ?_⟩
          · show zO 216 (M1 29); rw [w29]; have := hsw.2.1; rw [show td + 1 + 1 = td + 2 by omega] at this; exact this
          · show zO 6 (M1 30); rw [w30]; have := hsw.2.2.1; rw [show td + 1 + 2 = td + 3 by omega] at this; exact this
          · exact h31z
        · unfold shW mW zoW at *; simp (disch := omega) only [w, f]; exact v2
        · unfold chI at *; simp (disch := omega) only [w]; exact hch
        · simp (disch := omega) only [w, f]; exact v4
        · simp (disch := omega) only [w, f]; exact v5
        · simp (disch := omega) only [w, f]; exact v6
        · simp (disch := omega) only [w, f]; exact v7
        · simp (disch := omega) only [w, f]; exact v8
        · simp (disch := omega) only [w, f]; exact v9
        · simp (disch := omega) only [w, f]; exact v10
      refine Inv0.fi (h0.cl hq) (fun a x y => by rw [sr_a _ _ y, sr_a _ _ x]) (pr115.u hp115 (fun k hk => f115 k (by omega) (by omega))) (fun rg' _ => ?_)
      have ft : ∀ a, 0 < a → a < 24 → M1 a = M a := fun a a0 a1 => f a (by omega) (by omega) (by omega) (by omega)
      have hb : fitB M1 td = fitB M td := by
        funext x
        unfold fitB
        simp (disch := omega) only [ft]
      right
      refine ⟨k1, ?_, fun r' hr' hfr' => ?_⟩
      · rw [k3, ft td (by omega) (by omega), ft (td + 4) (by omega) (by omega), ft (td + 1) (by omega) (by omega), fitN_cg hb]
        rfl
      · rw [ft td (by omega) (by omega), ft (td + 4) (by omega) (by omega), ft (td + 1) (by omega) (by omega)] at hr'
        rw [fitN_cg hb]
        rw [hb] at hfr'
        exact hrows r' (by unfold allR; omega) hfr'
  · refine k_tk k115 (k_gf k115 hc1 (k_ifF (by decide) (Ok.ret ⟨M, rfl, fun _ _ _ _ _ => rfl, h0, hc1⟩)))
theorem X9_fitRefusal_ok (h0 : Inv0 M G td r) (hR : isR M G td rg) : M_X9_fitRefusal (M, G) 0 = some (if uk (M (td + 4)) (M (td + 1) 2).toNat = 0 ∨ M td 4 = 0 then 6 else 0) := by
  have hG := h0.1.1
  have hI := fiI_ok h0 hR
  have hh := h0.tw
  have t1 := hR.cl.2.2.2.2.1.2.2.2.2.1
  have hp0 := h0.1.2.1
  obtain ⟨htd, hsr, hsw, hgr⟩ := h0.tdI
  have p2 := h0.1.2.2.2.1
  have kt := hgr.1
  have huc := X5_unknownCount_ok hI
  have hu4 := hI.2.2.2.2.2.2.2.1
  have g0 := hI.2.2.2.2.2.2.2.2.1
  have g5 := hI.2.2.2.2.2.2.2.2.2
  have p4 := pr0.p4 hp0
  have k0 := gk_0 hG
  have k24 := gk_24 hG
  refine Ok.eq ?_
  unfold M_X9_fitRefusal
  generalize uk (M (td + 4)) (M (td + 1) 2).toNat = uc at *
  repeat' (with_reducible first | refine k_gf (by first | assumption | omega) (by first | assumption | ((try simp (disch := omega) only [sr_s, sr_a, sr_sr, u1_s, u1_k, p2, p4]); exact rfl)) ?_ | refine k_gr (by first | assumption | omega) (by first | assumption | ((try simp (disch := omega) only [sr_s, sr_a, sr_sr, u1_s, u1_k, p2, p4]); exact rfl)) (by omega) ?_ | refine k_ald (by first | assumption | omega) (by first | assumption | exact rfl) (by omega) (by omega) (by omega) (by first | assumption | ((try simp (disch := omega) only [sr_s, sr_a, sr_sr, u1_s, u1_k, p2, p4]); exact rfl)) ?_ | refine k_ifT (by first | (simp (disch := omega) only [w32_id]; first | done | omega) | omega) ?_ | refine k_ifF (by first | (simp (disch := omega) only [w32_id]; first | done | omega) | omega) ?_ | refine k_pf (by first | assumption | omega) (by (try simp (disch := omega) only [sr_s, sr_a, sr_sr, u1_u1, p2, p4]); exact rfl) ?_ | refine k_ast (by first | assumption | omega) (by first | assumption | exact rfl) (by omega) (by omega) (by omega) (by (try simp (disch := omega) only [sr_s, sr_a, sr_sr, u1_u1, p2, p4]); exact rfl) ?_ | refine k_irm (by omega) (by omega) (by omega) (by omega) ?_ | refine k_idv (by omega) (by omega) (by omega) (by omega) ?_ | refine k_tk (by first | assumption | omega) ?_ | refine k_rp (by omega) ?_ | refine k_aldR (by first | assumption | omega) (by first | assumption | exact rfl) (by omega) (by omega) (by omega) (by first | assumption | ((try simp (disch := omega) only [sr_s, sr_a, sr_sr, u1_s, u1_k, p2, p4]); exact rfl)) (by omega) ?_ | refine k_astR (by first | assumption | omega) (by first | assumption | exact rfl) (by omega) (by omega) (by omega) (by first | assumption | omega) (by (try simp (disch := omega) only [sr_s, sr_a, sr_sr, u1_u1, p2, p4]); exact rfl) ?_ | refine k_pz (by first | assumption | omega) (by omega) (by (try simp (disch := omega) only [sr_s, sr_a, sr_sr, u1_u1, p2, p4]); exact rfl) ?_ | refine k_alen (by first | assumption | omega) (by first | assumption | exact rfl) ?_ | refine k_cpy (by first | assumption | omega) (by first | assumption | omega) (by first | assumption | exact rfl) (by first | assumption | exact rfl) (by omega) (by omega) (by omega) (by omega) (by omega) (by omega) (by omega) (by omega) (by (try simp (disch := omega) only [sr_s, sr_a, sr_sr, u1_u1, p2, p4]); exact rfl) ?_)
  refine k_eq huc ?_
  by_cases y : uc = 0
  · rw [if_pos (Or.inl y)]
    repeat' (with_reducible first | refine k_gf (by first | assumption | omega) (by first | assumption | ((try simp (disch := omega) only [sr_s, sr_a, sr_sr, u1_s, u1_k]); exact rfl)) ?_ | refine k_gr (by first | assumption | omega) (by first | assumption | ((try simp (disch := omega) only [sr_s, sr_a, sr_sr, u1_s, u1_k]); exact rfl)) (by omega) ?_ | refine k_ald (by first | assumption | omega) (by first | assumption | exact rfl) (by omega) (by omega) (by omega) (by first | assumption | ((try simp (disch := omega) only [sr_s, sr_a, sr_sr, u1_s, u1_k]); exact rfl)) ?_ | refine k_ifT (by first | (simp (disch := omega) only [w32_id]; first | done | omega) | omega) ?_ | refine k_ifF (by first | (simp (disch := omega) only [w32_id]; first | done | omega) | omega) ?_ | refine k_pf (by first | assumption | omega) (by (try simp (disch := omega) only [sr_s, sr_a, sr_sr, u1_u1]); exact rfl) ?_ | refine k_ast (by first | assumption | omega) (by first | assumption | exact rfl) (by omega) (by omega) (by omega) (by (try simp (disch := omega) only [sr_s, sr_a, sr_sr, u1_u1]); exact rfl) ?_ | refine k_irm (by omega) (by omega) (by omega) (by omega) ?_ | refine k_idv (by omega) (by omega) (by omega) (by omega) ?_ | refine k_tk (by first | assumption | omega) ?_ | refine k_rp (by omega) ?_ | refine k_aldR (by first | assumption | omega) (by first | assumption | exact rfl) (by omega) (by omega) (by omega) (by first | assumption | ((try simp (disch := omega) only [sr_s, sr_a, sr_sr, u1_s, u1_k]); exact rfl)) (by omega) ?_ | refine k_astR (by first | assumption | omega) (by first | assumption | exact rfl) (by omega) (by omega) (by omega) (by first | assumption | omega) (by (try simp (disch := omega) only [sr_s, sr_a, sr_sr, u1_u1]); exact rfl) ?_ | refine k_pz (by first | assumption | omega) (by omega) (by (try simp (disch := omega) only [sr_s, sr_a, sr_sr, u1_u1]); exact rfl) ?_ | refine k_alen (by first | assumption | omega) (by first | assumption | exact rfl) ?_ | refine k_cpy (by first | assumption | omega) (by first | assumption | omega) (by first | assumption | exact rfl) (by first | assumption | exact rfl) (by omega) (by omega) (by omega) (by omega) (by omega) (by omega) (by omega) (by omega) (by (try simp (disch := omega) only [sr_s, sr_a, sr_sr, u1_u1]); exact rfl) ?_)
    exact Ok.ret rfl
  · by_cases y2 : M td 4 = 0
    · rw [if_pos (Or.inr y2)]
      repeat' (with_reducible first | refine k_gf (by first | assumption | omega) (by first | assumption | ((try simp (disch := omega) only [sr_s, sr_a, sr_sr, u1_s, u1_k, p2, y2]); exact rfl)) ?_ | refine k_gr (by first | assumption | omega) (by first | assumption | ((try simp (disch := omega) only [sr_s, sr_a, sr_sr, u1_s, u1_k, p2, y2]); exact rfl)) (by omega) ?_ | refine k_ald (by first | assumption | omega) (by first | assumption | exact rfl) (by omega) (by omega) (by omega) (by first | assumption | ((try simp (disch := omega) only [sr_s, sr_a, sr_sr, u1_s, u1_k, p2, y2]); exact rfl)) ?_ | refine k_ifT (by first | (simp (disch := omega) only [w32_id]; first | done | omega) | omega) ?_ | refine k_ifF (by first | (simp (disch := omega) only [w32_id]; first | done | omega) | omega) ?_ | refine k_pf (by first | assumption | omega) (by (try simp (disch := omega) only [sr_s, sr_a, sr_sr, u1_u1, p2, y2]); exact rfl) ?_ | refine k_ast (by first | assumption | omega) (by first | assumption | exact rfl) (by omega) (by omega) (by omega) (by (try simp (disch := omega) only [sr_s, sr_a, sr_sr, u1_u1, p2, y2]); exact rfl) ?_ | refine k_irm (by omega) (by omega) (by omega) (by omega) ?_ | refine k_idv (by omega) (by omega) (by omega) (by omega) ?_ | refine k_tk (by first | assumption | omega) ?_ | refine k_rp (by omega) ?_ | refine k_aldR (by first | assumption | omega) (by first | assumption | exact rfl) (by omega) (by omega) (by omega) (by first | assumption | ((try simp (disch := omega) only [sr_s, sr_a, sr_sr, u1_s, u1_k, p2, y2]); exact rfl)) (by omega) ?_ | refine k_astR (by first | assumption | omega) (by first | assumption | exact rfl) (by omega) (by omega) (by omega) (by first | assumption | omega) (by (try simp (disch := omega) only [sr_s, sr_a, sr_sr, u1_u1, p2, y2]); exact rfl) ?_ | refine k_pz (by first | assumption | omega) (by omega) (by (try simp (disch := omega) only [sr_s, sr_a, sr_sr, u1_u1, p2, y2]); exact rfl) ?_ | refine k_alen (by first | assumption | omega) (by first | assumption | exact rfl) ?_ | refine k_cpy (by first | assumption | omega) (by first | assumption | omega) (by first | assumption | exact rfl) (by first | assumption | exact rfl) (by omega) (by omega) (by omega) (by omega) (by omega) (by omega) (by omega) (by omega) (by (try simp (disch := omega) only [sr_s, sr_a, sr_sr, u1_u1, p2, y2]); exact rfl) ?_)
      exact Ok.ret rfl
    · rw [if_neg (show ¬ (uc = 0 ∨ M td 4 = 0) by omega)]
      repeat' (with_reducible first | refine k_gf (by first | assumption | omega) (by first | assumption | ((try simp (disch := omega) only [sr_s, sr_a, sr_sr, u1_s, u1_k, p2]); exact rfl)) ?_ | refine k_gr (by first | assumption | omega) (by first | assumption | ((try simp (disch := omega) only [sr_s, sr_a, sr_sr, u1_s, u1_k, p2]); exact rfl)) (by omega) ?_ | refine k_ald (by first | assumption | omega) (by first | assumption | exact rfl) (by omega) (by omega) (by omega) (by first | assumption | ((try simp (disch := omega) only [sr_s, sr_a, sr_sr, u1_s, u1_k, p2]); exact rfl)) ?_ | refine k_ifT (by first | (simp (disch := omega) only [w32_id]; first | done | omega) | omega) ?_ | refine k_ifF (by first | (simp (disch := omega) only [w32_id]; first | done | omega) | omega) ?_ | refine k_pf (by first | assumption | omega) (by (try simp (disch := omega) only [sr_s, sr_a, sr_sr, u1_u1, p2]); exact rfl) ?_ | refine k_ast (by first | assumption | omega) (by first | assumption | exact rfl) (by omega) (by omega) (by omega) (by (try simp (disch := omega) only [sr_s, sr_a, sr_sr, u1_u1, p2]); exact rfl) ?_ | refine k_irm (by omega) (by omega) (by omega) (by omega) ?_ | refine k_idv (by omega) (by omega) (by omega) (by omega) ?_ | refine k_tk (by first | assumption | omega) ?_ | refine k_rp (by omega) ?_ | refine k_aldR (by first | assumption | omega) (by first | assumption | exact rfl) (by omega) (by omega) (by omega) (by first | assumption | ((try simp (disch := omega) only [sr_s, sr_a, sr_sr, u1_s, u1_k, p2]); exact rfl)) (by omega) ?_ | refine k_astR (by first | assumption | omega) (by first | assumption | exact rfl) (by omega) (by omega) (by omega) (by first | assumption | omega) (by (try simp (disch := omega) only [sr_s, sr_a, sr_sr, u1_u1, p2]); exact rfl) ?_ | refine k_pz (by first | assumption | omega) (by omega) (by (try simp (disch := omega) only [sr_s, sr_a, sr_sr, u1_u1, p2]); exact rfl) ?_ | refine k_alen (by first | assumption | omega) (by first | assumption | exact rfl) ?_ | refine k_cpy (by first | assumption | omega) (by first | assumption | omega) (by first | assumption | exact rfl) (by first | assumption | exact rfl) (by omega) (by omega) (by omega) (by omega) (by omega) (by omega) (by omega) (by omega) (by (try simp (disch := omega) only [sr_s, sr_a, sr_sr, u1_u1, p2]); exact rfl) ?_)
      exact Ok.ret rfl
theorem X11_refusesFits_ok (h0 : Inv0 M G td r) (hR : isR M G td rg) : M_X11_refusesFits (M, G) 124 = some (if uk (M (td + 4)) (M (td + 1) 2).toNat = 0 ∨ M td 4 = 0 then 6 else 0) := by
  have hG := h0.1.1
  obtain ⟨k124, r3, r0, kr, -⟩ := hR.B hG
  have hI := fiI_ok h0 hR
  have w2 := (tdw_ok h0 hR).2.2.2.1
  have h6 := hR.2.2.2.2.2.2.1.2.2.2.2.2.2.1
  have h4 := hR.2.2.2.2.2.2.2.1.1
  have hu4 := hI.2.2.2.2.2.2.2.1
  have g0 := hI.2.2.2.2.2.2.2.2.1
  have g5 := hI.2.2.2.2.2.2.2.2.2
  rw [← w2] at h6
  refine Ok.eq ?_
  unfold M_X11_refusesFits
  generalize uk (M (td + 4)) (M (td + 1) 2).toNat = uc at *
  by_cases y : uc = 0
  · rw [if_pos (Or.inl y)]
    repeat' (with_reducible first | refine k_gf (by first | assumption | omega) (by first | assumption | ((try simp (disch := omega) only [sr_s, sr_a, sr_sr, u1_s, u1_k, r3, h6]); exact rfl)) ?_ | refine k_gr (by first | assumption | omega) (by first | assumption | ((try simp (disch := omega) only [sr_s, sr_a, sr_sr, u1_s, u1_k, r3, h6]); exact rfl)) (by omega) ?_ | refine k_ald (by first | assumption | omega) (by first | assumption | exact rfl) (by omega) (by omega) (by omega) (by first | assumption | ((try simp (disch := omega) only [sr_s, sr_a, sr_sr, u1_s, u1_k, r3, h6]); exact rfl)) ?_ | refine k_ifT (by first | (simp (disch := omega) only [w32_id]; first | done | omega) | omega) ?_ | refine k_ifF (by first | (simp (disch := omega) only [w32_id]; first | done | omega) | omega) ?_ | refine k_pf (by first | assumption | omega) (by (try simp (disch := omega) only [sr_s, sr_a, sr_sr, u1_u1, r3, h6]); exact rfl) ?_ | refine k_ast (by first | assumption | omega) (by first | assumption | exact rfl) (by omega) (by omega) (by omega) (by (try simp (disch := omega) only [sr_s, sr_a, sr_sr, u1_u1, r3, h6]); exact rfl) ?_ | refine k_irm (by omega) (by omega) (by omega) (by omega) ?_ | refine k_idv (by omega) (by omega) (by omega) (by omega) ?_ | refine k_tk (by first | assumption | omega) ?_ | refine k_rp (by omega) ?_ | refine k_aldR (by first | assumption | omega) (by first | assumption | exact rfl) (by omega) (by omega) (by omega) (by first | assumption | ((try simp (disch := omega) only [sr_s, sr_a, sr_sr, u1_s, u1_k, r3, h6]); exact rfl)) (by omega) ?_ | refine k_astR (by first | assumption | omega) (by first | assumption | exact rfl) (by omega) (by omega) (by omega) (by first | assumption | omega) (by (try simp (disch := omega) only [sr_s, sr_a, sr_sr, u1_u1, r3, h6]); exact rfl) ?_ | refine k_pz (by first | assumption | omega) (by omega) (by (try simp (disch := omega) only [sr_s, sr_a, sr_sr, u1_u1, r3, h6]); exact rfl) ?_ | refine k_alen (by first | assumption | omega) (by first | assumption | exact rfl) ?_ | refine k_cpy (by first | assumption | omega) (by first | assumption | omega) (by first | assumption | exact rfl) (by first | assumption | exact rfl) (by omega) (by omega) (by omega) (by omega) (by omega) (by omega) (by omega) (by omega) (by (try simp (disch := omega) only [sr_s, sr_a, sr_sr, u1_u1, r3, h6]); exact rfl) ?_)
    exact Ok.ret rfl
  · by_cases y2 : M td 4 = 0
    · rw [if_pos (Or.inr y2)]
      repeat' (with_reducible first | refine k_gf (by first | assumption | omega) (by first | assumption | ((try simp (disch := omega) only [sr_s, sr_a, sr_sr, u1_s, u1_k, r3, h6, h4, y2]); exact rfl)) ?_ | refine k_gr (by first | assumption | omega) (by first | assumption | ((try simp (disch := omega) only [sr_s, sr_a, sr_sr, u1_s, u1_k, r3, h6, h4, y2]); exact rfl)) (by omega) ?_ | refine k_ald (by first | assumption | omega) (by first | assumption | exact rfl) (by omega) (by omega) (by omega) (by first | assumption | ((try simp (disch := omega) only [sr_s, sr_a, sr_sr, u1_s, u1_k, r3, h6, h4, y2]); exact rfl)) ?_ | refine k_ifT (by first | (simp (disch := omega) only [w32_id]; first | done | omega) | omega) ?_ | refine k_ifF (by first | (simp (disch := omega) only [w32_id]; first | done | omega) | omega) ?_ | refine k_pf (by first | assumption | omega) (by (try simp (disch := omega) only [sr_s, sr_a, sr_sr, u1_u1, r3, h6, h4, y2]); exact rfl) ?_ | refine k_ast (by first | assumption | omega) (by first | assumption | exact rfl) (by omega) (by omega) (by omega) (by (try simp (disch := omega) only [sr_s, sr_a, sr_sr, u1_u1, r3, h6, h4, y2]); exact rfl) ?_ | refine k_irm (by omega) (by omega) (by omega) (by omega) ?_ | refine k_idv (by omega) (by omega) (by omega) (by omega) ?_ | refine k_tk (by first | assumption | omega) ?_ | refine k_rp (by omega) ?_ | refine k_aldR (by first | assumption | omega) (by first | assumption | exact rfl) (by omega) (by omega) (by omega) (by first | assumption | ((try simp (disch := omega) only [sr_s, sr_a, sr_sr, u1_s, u1_k, r3, h6, h4, y2]); exact rfl)) (by omega) ?_ | refine k_astR (by first | assumption | omega) (by first | assumption | exact rfl) (by omega) (by omega) (by omega) (by first | assumption | omega) (by (try simp (disch := omega) only [sr_s, sr_a, sr_sr, u1_u1, r3, h6, h4, y2]); exact rfl) ?_ | refine k_pz (by first | assumption | omega) (by omega) (by (try simp (disch := omega) only [sr_s, sr_a, sr_sr, u1_u1, r3, h6, h4, y2]); exact rfl) ?_ | refine k_alen (by first | assumption | omega) (by first | assumption | exact rfl) ?_ | refine k_cpy (by first | assumption | omega) (by first | assumption | omega) (by first | assumption | exact rfl) (by first | assumption | exact rfl) (by omega) (by omega) (by omega) (by omega) (by omega) (by omega) (by omega) (by omega) (by (try simp (disch := omega) only [sr_s, sr_a, sr_sr, u1_u1, r3, h6, h4, y2]); exact rfl) ?_)
      exact Ok.ret rfl
    · rw [if_neg (by omega)]
      repeat' (with_reducible first | refine k_gf (by first | assumption | omega) (by first | assumption | ((try simp (disch := omega) only [sr_s, sr_a, sr_sr, u1_s, u1_k, r3, h6, h4]); exact rfl)) ?_ | refine k_gr (by first | assumption | omega) (by first | assumption | ((try simp (disch := omega) only [sr_s, sr_a, sr_sr, u1_s, u1_k, r3, h6, h4]); exact rfl)) (by omega) ?_ | refine k_ald (by first | assumption | omega) (by first | assumption | exact rfl) (by omega) (by omega) (by omega) (by first | assumption | ((try simp (disch := omega) only [sr_s, sr_a, sr_sr, u1_s, u1_k, r3, h6, h4]); exact rfl)) ?_ | refine k_ifT (by first | (simp (disch := omega) only [w32_id]; first | done | omega) | omega) ?_ | refine k_ifF (by first | (simp (disch := omega) only [w32_id]; first | done | omega) | omega) ?_ | refine k_pf (by first | assumption | omega) (by (try simp (disch := omega) only [sr_s, sr_a, sr_sr, u1_u1, r3, h6, h4]); exact rfl) ?_ | refine k_ast (by first | assumption | omega) (by first | assumption | exact rfl) (by omega) (by omega) (by omega) (by (try simp (disch := omega) only [sr_s, sr_a, sr_sr, u1_u1, r3, h6, h4]); exact rfl) ?_ | refine k_irm (by omega) (by omega) (by omega) (by omega) ?_ | refine k_idv (by omega) (by omega) (by omega) (by omega) ?_ | refine k_tk (by first | assumption | omega) ?_ | refine k_rp (by omega) ?_ | refine k_aldR (by first | assumption | omega) (by first | assumption | exact rfl) (by omega) (by omega) (by omega) (by first | assumption | ((try simp (disch := omega) only [sr_s, sr_a, sr_sr, u1_s, u1_k, r3, h6, h4]); exact rfl)) (by omega) ?_ | refine k_astR (by first | assumption | omega) (by first | assumption | exact rfl) (by omega) (by omega) (by omega) (by first | assumption | omega) (by (try simp (disch := omega) only [sr_s, sr_a, sr_sr, u1_u1, r3, h6, h4]); exact rfl) ?_ | refine k_pz (by first | assumption | omega) (by omega) (by (try simp (disch := omega) only [sr_s, sr_a, sr_sr, u1_u1, r3, h6, h4]); exact rfl) ?_ | refine k_alen (by first | assumption | omega) (by first | assumption | exact rfl) ?_ | refine k_cpy (by first | assumption | omega) (by first | assumption | omega) (by first | assumption | exact rfl) (by first | assumption | exact rfl) (by omega) (by omega) (by omega) (by omega) (by omega) (by omega) (by omega) (by omega) (by (try simp (disch := omega) only [sr_s, sr_a, sr_sr, u1_u1, r3, h6, h4]); exact rfl) ?_)
      exact Ok.ret rfl
end F3
theorem dg_hi {g k : Int} {j m : Nat} (g1 : 1 ≤ g) (g5 : g ≤ 5) (hj : j < m) (hm : m ≤ 3) (k0 : 0 ≤ k) (h : (k + 1) % g ^ j = 0) (hl : k / g ^ j % g + 1 < g) : (k + 1) / g ^ m % g = k / g ^ m % g := by
  have hg : g = 1 ∨ g = 2 ∨ g = 3 ∨ g = 4 ∨ g = 5 := by omega
  have hm' : m = 1 ∨ m = 2 ∨ m = 3 := by omega
  have hj' : j = 0 ∨ j = 1 ∨ j = 2 := by omega
  rcases hg with rfl | rfl | rfl | rfl | rfl <;> rcases hm' with rfl | rfl | rfl <;> rcases hj' with rfl | rfl | rfl <;> simp only [Int.reducePow] at * <;> omega
theorem dg_at {g k : Int} {j : Nat} (g1 : 1 ≤ g) (g5 : g ≤ 5) (hj : j ≤ 3) (k0 : 0 ≤ k) (h : (k + 1) % g ^ j = 0) (hl : k / g ^ j % g + 1 < g) : (k + 1) / g ^ j % g = k / g ^ j % g + 1 := by
  have hg : g = 1 ∨ g = 2 ∨ g = 3 ∨ g = 4 ∨ g = 5 := by omega
  have hj' : j = 0 ∨ j = 1 ∨ j = 2 ∨ j = 3 := by omega
  rcases hg with rfl | rfl | rfl | rfl | rfl <;> rcases hj' with rfl | rfl | rfl | rfl <;> simp only [Int.reducePow] at * <;> omega
theorem dg_lo {g k : Int} {j m : Nat} (g1 : 1 ≤ g) (g5 : g ≤ 5) (hj : m < j) (hm : j ≤ 4) (k0 : 0 ≤ k) (h : (k + 1) % g ^ j = 0) : (k + 1) / g ^ m % g = 0 := by
  have hg : g = 1 ∨ g = 2 ∨ g = 3 ∨ g = 4 ∨ g = 5 := by omega
  have hm' : m = 0 ∨ m = 1 ∨ m = 2 ∨ m = 3 := by omega
  have hj' : j = 1 ∨ j = 2 ∨ j = 3 ∨ j = 4 := by omega
  rcases hg with rfl | rfl | rfl | rfl | rfl <;> rcases hm' with rfl | rfl | rfl | rfl <;> rcases hj' with rfl | rfl | rfl | rfl <;> simp only [Int.reducePow] at * <;> omega
theorem dg_up {g k : Int} {j : Nat} (g1 : 1 ≤ g) (g5 : g ≤ 5) (hj : j ≤ 3) (k0 : 0 ≤ k) (h : (k + 1) % g ^ j = 0) (hl : ¬ k / g ^ j % g + 1 < g) : (k + 1) % g ^ (j + 1) = 0 := by
  have hg : g = 1 ∨ g = 2 ∨ g = 3 ∨ g = 4 ∨ g = 5 := by omega
  have hj' : j = 0 ∨ j = 1 ∨ j = 2 ∨ j = 3 := by omega
  rcases hg with rfl | rfl | rfl | rfl | rfl <;> rcases hj' with rfl | rfl | rfl | rfl <;> simp only [Int.reducePow, Nat.reduceAdd] at * <;> omega
