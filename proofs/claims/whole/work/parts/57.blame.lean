/-! blame -/
theorem mkV_0 {wd hi e1 e2 e3 p dr : Int} {m : Int → Int} (h : 0 ≤ p) : mkV wd hi 0 e1 e2 e3 m p dr = m p := by
  have hs : srcV wd hi 0 e1 e2 e3 m p dr = p := by
    unfold srcV
    rw [if_neg (by decide), if_neg (by decide), if_neg (by decide), if_neg (by decide), if_neg (by decide), if_neg (by decide), if_neg (by decide), if_neg (by decide)]
  unfold mkV
  rw [hs, if_neg (by omega), if_neg (by decide)]
theorem rk_cg {e e' : Int → Int} (h : ∀ t, e (4 * t) = e' (4 * t)) : ∀ n, rk e n = rk e' n
  | 0 => rfl
  | n + 1 => by
    show rk e n + _ = rk e' n + _
    rw [rk_cg h n, h]
theorem bh_er {wd hi tw s0 : Int} {co e e' ce : Int → Int} (h : ∀ t, e (4 * t) = e' (4 * t)) (h2 : ∀ t, e (4 * t) ≠ 0 → e (4 * t + 1) = e' (4 * t + 1) ∧ e (4 * t + 2) = e' (4 * t + 2) ∧ e (4 * t + 3) = e' (4 * t + 3)) : ∀ k, bh wd hi tw co e s0 ce k = bh wd hi tw co e' s0 ce k
  | 0 => rfl
  | k + 1 => by
    have hd : drV wd hi tw e s0 k = drV wd hi tw e' s0 k := by
      funext t
      unfold drV
      rw [rk_cg h, rk_cg h]
    show cellV wd hi tw co e (drV wd hi tw e s0 k) (bh wd hi tw co e s0 ce k) = cellV wd hi tw co e' (drV wd hi tw e' s0 k) (bh wd hi tw co e' s0 ce k)
    rw [hd, bh_er h h2 k]
    funext i
    unfold cellV
    by_cases c : 0 ≤ i ∧ i < 36 * tw ∧ i % 36 % 6 < wd ∧ i % 36 / 6 < hi ∧ 0 ≤ co (i / 36)
    · rw [if_pos c, if_pos c]
      by_cases z : e (4 * (i / 36)) = 0
      · rw [← h, z, mkV_0 (by omega), mkV_0 (by omega)]
      · obtain ⟨x1, x2, x3⟩ := h2 _ z
        rw [h, x1, x2, x3]
    · rw [if_neg c, if_neg c]
theorem bh_mt {wd hi tw s0 u : Int} {co er ce : Int → Int} (k : Nat) : bh wd hi tw co (mtV er u) s0 ce k = bh wd hi tw co (u1 er (4 * u) 0) s0 ce k := by
  refine bh_er (fun t => ?_) (fun t z => ?_) k
  · by_cases c : t = u
    · subst c
      rw [u1_s]
      unfold mtV
      rw [if_pos rfl]
    · rw [u1_k _ _ (by omega)]
      unfold mtV
      rw [if_neg (by omega), if_neg (by omega)]
  · by_cases c : t = u
    · subst c
      exact absurd (show mtV er t (4 * t) = 0 by unfold mtV; rw [if_pos rfl]) z
    · rw [u1_k _ _ (by omega), u1_k _ _ (by omega), u1_k _ _ (by omega)]
      unfold mtV
      rw [if_neg (by omega), if_neg (by omega), if_neg (by omega), if_neg (by omega), if_neg (by omega), if_neg (by omega)]
      exact ⟨rfl, rfl, rfl⟩
theorem wfW_er {wd hi tw mk s0 : Int} {co er e ce : Int → Int} (h : wfW wd hi tw mk co er s0 ce) (he : ∀ i, e i = er i ∨ e i = 0 ∨ e i = -2) (h2 : ∀ t, 0 ≤ t → t < tw → (e (4 * t) = 0 ∨ e (4 * t) = er (4 * t) ∧ e (4 * t + 1) = er (4 * t + 1) ∧ e (4 * t + 2) = er (4 * t + 2) ∧ e (4 * t + 3) = er (4 * t + 3))) (h3 : ∀ t, 0 ≤ t → t < tw → er (4 * t) = 0 → e (4 * t) = 0) : wfW wd hi tw mk co e s0 ce := by
  obtain ⟨a1, a2, b1, b2, t1, t6, k2, k6, hco, her, het, hcz, s0, s1, hce⟩ := h
  refine ⟨a1, a2, b1, b2, t1, t6, k2, k6, hco, fun i => ?_, fun t x0 x1 => ?_, fun t x0 x1 x2 => ⟨(hcz t x0 x1 x2).1, h3 t x0 x1 (hcz t x0 x1 x2).2⟩, s0, s1, hce⟩
  · have := her i
    rcases he i with z | z | z <;> omega
  · have hE := het t x0 x1
    rcases h2 t x0 x1 with z | ⟨z0, z1, z2, z3⟩
    · have y1 := he (4 * t + 1)
      have y2 := he (4 * t + 2)
      have y3 := he (4 * t + 3)
      unfold errB at *
      rw [z]
      obtain ⟨e0, e1, d1, d2, d3, d4, d5, d6, -⟩ := hE
      refine ⟨by omega, by omega, by omega, by omega, by omega, by omega, by omega, by omega, by omega, by omega, by omega, by omega, by omega, by omega⟩
    · rw [z0, z1, z2, z3]; exact hE
theorem wfW_mt {wd hi tw mk s0 u : Int} {co er ce : Int → Int} (h : wfW wd hi tw mk co er s0 ce) : wfW wd hi tw mk co (mtV er u) s0 ce := by
  refine wfW_er h (fun i => ?_) (fun t _ _ => ?_) (fun t _ _ z => ?_)
  · unfold mtV
    split
    · exact Or.inr (Or.inl rfl)
    · split
      · exact Or.inr (Or.inr rfl)
      · exact Or.inl rfl
  · unfold mtV
    by_cases c : t = u
    · left; rw [if_pos (by omega)]
    · right
      rw [if_neg (by omega), if_neg (by omega), if_neg (by omega), if_neg (by omega), if_neg (by omega), if_neg (by omega), if_neg (by omega), if_neg (by omega)]
      exact ⟨rfl, rfl, rfl, rfl⟩
  · unfold mtV
    by_cases c : t = u
    · rw [if_pos (by omega)]
    · rw [if_neg (by omega), if_neg (by omega)]; exact z
theorem wfW_u1 {wd hi tw mk s0 u : Int} {co er ce : Int → Int} (h : wfW wd hi tw mk co er s0 ce) : wfW wd hi tw mk co (u1 er (4 * u) 0) s0 ce := by
  refine wfW_er h (fun i => ?_) (fun t _ _ => ?_) (fun t _ _ z => ?_)
  · by_cases c : i = 4 * u
    · subst c; right; left; exact u1_s _ _ _
    · left; exact u1_k _ _ c
  · by_cases c : t = u
    · subst c; left; exact u1_s _ _ _
    · right
      rw [u1_k _ _ (by omega), u1_k _ _ (by omega), u1_k _ _ (by omega), u1_k _ _ (by omega)]
      exact ⟨rfl, rfl, rfl, rfl⟩
  · by_cases c : t = u
    · subst c; exact u1_s _ _ _
    · rw [u1_k _ _ (by omega)]; exact z
theorem u1_eqv {f : Int → Int} {k v : Int} (h : f k = v) : u1 f k v = f := by
  funext j
  by_cases c : j = k
  · subst c; rw [u1_s, h]
  · rw [u1_k _ _ c]
/-- bits by a question -/
def blV (g : Nat → Bool) : Nat → Int
  | 0 => 0
  | u + 1 => ior (blV g u) (if g u = true then ishl 1 (u : Int) else 0)
theorem blV_0 (g : Nat → Bool) : ∀ u, ior (blV g u) 0 = blV g u
  | 0 => (by decide : ior 0 0 = 0)
  | u + 1 => by
    show ior (ior _ _) 0 = ior _ _
    unfold ior
    rw [Int32.ofInt_toInt]
    show (_ ||| 0 : Int32).toInt = _
    rw [Int32.or_zero]
section BL
variable {M M1 M2 N : Int → Int → Int} {G : GG} {td r rg t p n u w : Int}
def blG (M : Int → Int → Int) (n : Nat) (c : Int) (u : Nat) : Bool := !decide (bh (M 24 0) (M 24 1) (M 24 2) (M 26) (u1 (M 27) (4 * (u : Int)) 0) (M 24 6) (M 25) n c = bhM M 24 n c)
theorem X9_blame_loop (h0 : Inv0 M G td r) (hR : isR M G td rg) (hq0 : cQ M M1) (c : 0 ≤ t ∧ t < M 24 2) (hn : 0 ≤ n ∧ n ≤ 60) (p0 : 0 ≤ p) (hp : i32 p) (hin : inV (M 24 0) (M 24 1) (ipC p)) : Ok (M_X9_blame_w62 FU (M1, G) 0 t p n (bhM M 24 n.toNat (36 * t + ipC p)) 0 0) (cP M G (blV (blG M n.toNat (36 * t + ipC p)) (M 24 2).toNat) 0) := by
  have hG := h0.1.1
  have hwf := hR.cl.2.2.2.2.1
  have hh := h0.tw
  have m5 : M 24 5 = 27 := h0.now.2.2
  have hbk : ∀ k x, 0 ≤ bhM M 24 k x ∧ bhM M 24 k x < M td 0 := fun k x => (bh_wf hwf k).2.2.2.2.2.2.2.2.2.2.2.2.2.2 x
  have hmk := hR.mk
  have her := hwf.2.2.2.2.2.2.2.2.2.1
  unfold M_X9_blame_w62
  have hlo : Ok (wh (S := (Hp × Int × Int)) (T := (Hp × Int)) (fun a => M_X9_blame_b62 a.1 0 t p n (bhM M 24 n.toNat (36 * t + ipC p)) a.2.1 a.2.2) FU ((M1, G), 0, 0)) (fun z => ∃ M2, z = ((M2, G), blV (blG M n.toNat (36 * t + ipC p)) (M 24 2).toNat) ∧ cQ M M2) := by
    refine wh_for (fun i s => ∃ M2, s = ((M2, G), blV (blG M n.toNat (36 * t + ipC p)) i, (i : Int)) ∧ cQ M M2) _ (M 24 2).toNat (by omega) ⟨M1, rfl, hq0⟩ ?_ ?_
    · rintro i _ hi ⟨M2, rfl, hq⟩
      have h2 := h0.cl hq
      have hp0 := h2.1.2.1
      have p4 := pr0.p4 hp0
      have p5 := pr0.p5 hp0
      have p8 := pr0.p8 hp0
      have k0 := gk_0 hG
      have k24 := gk_24 hG
      have k27 := gk_27 hG
      have l27 := gl_27 hG
      have k28 := gk_28 hG
      have f24 := hq.1 24 (by omega)
      have f25 := hq.1 25 (by omega)
      have f26 := hq.1 26 (by omega)
      have f27 := hq.1 27 (by omega)
      have hei := her (4 * (i : Int))
      unfold M_X9_blame_b62 M_X9_blame_p140
      dsimp only
      by_cases y : M 27 (4 * (i : Int)) = 0
      · repeat' (with_reducible first | refine k_gf (by first | assumption | omega) (by first | assumption | ((try simp (disch := omega) only [sr_s, sr_a, sr_sr, u1_s, u1_k, p4, f24, f27, m5]); exact rfl)) ?_ | refine k_gr (by first | assumption | omega) (by first | assumption | ((try simp (disch := omega) only [sr_s, sr_a, sr_sr, u1_s, u1_k, p4, f24, f27, m5]); exact rfl)) (by omega) ?_ | refine k_ald (by first | assumption | omega) (by first | assumption | exact rfl) (by omega) (by omega) (by omega) (by first | assumption | ((try simp (disch := omega) only [sr_s, sr_a, sr_sr, u1_s, u1_k, p4, f24, f27, m5]); exact rfl)) ?_ | refine k_ifT (by first | (simp (disch := omega) only [w32_id]; first | done | omega) | omega) ?_ | refine k_ifF (by first | (simp (disch := omega) only [w32_id]; first | done | omega) | omega) ?_ | refine k_pf (by first | assumption | omega) (by (try simp (disch := omega) only [sr_s, sr_a, sr_sr, u1_u1, p4, f24, f27, m5]); exact rfl) ?_ | refine k_ast (by first | assumption | omega) (by first | assumption | exact rfl) (by omega) (by omega) (by omega) (by (try simp (disch := omega) only [sr_s, sr_a, sr_sr, u1_u1, p4, f24, f27, m5]); exact rfl) ?_ | refine k_irm (by omega) (by omega) (by omega) (by omega) ?_ | refine k_idv (by omega) (by omega) (by omega) (by omega) ?_ | refine k_tk (by first | assumption | omega) ?_ | refine k_rp (by omega) ?_ | refine k_aldR (by first | assumption | omega) (by first | assumption | exact rfl) (by omega) (by omega) (by omega) (by first | assumption | ((try simp (disch := omega) only [sr_s, sr_a, sr_sr, u1_s, u1_k, p4, f24, f27, m5]); exact rfl)) (by omega) ?_ | refine k_astR (by first | assumption | omega) (by first | assumption | exact rfl) (by omega) (by omega) (by omega) (by first | assumption | omega) (by (try simp (disch := omega) only [sr_s, sr_a, sr_sr, u1_u1, p4, f24, f27, m5]); exact rfl) ?_ | refine k_pz (by first | assumption | omega) (by omega) (by (try simp (disch := omega) only [sr_s, sr_a, sr_sr, u1_u1, p4, f24, f27, m5]); exact rfl) ?_ | refine k_alen (by first | assumption | omega) (by first | assumption | exact rfl) ?_ | refine k_cpy (by first | assumption | omega) (by first | assumption | omega) (by first | assumption | exact rfl) (by first | assumption | exact rfl) (by omega) (by omega) (by omega) (by omega) (by omega) (by omega) (by omega) (by omega) (by (try simp (disch := omega) only [sr_s, sr_a, sr_sr, u1_u1, p4, f24, f27, m5]); exact rfl) ?_ | refine k_if (by (try simp (disch := omega) only [w32_id]); exact Iff.rfl) (fun c => ?_) (fun c => ?_))
        refine Ok.ret ⟨M2, ?_, hq⟩
        show ((M2, G), blV _ i, (i : Int) + 1) = ((M2, G), ior (blV _ i) _, ((i + 1 : Nat) : Int))
        rw [if_neg (by unfold blG; rw [u1_eqv y]; simp; rfl), blV_0]
        rfl
      · have hbe := be28_ok h2
        have b5 : beM M2 28 24 28 5 = 28 + 3 := by rw [be_0]; exact h2.2.1.1.1.2.2
        have hmt := X8_makeTrue_ok (M := beM M2 28 24) (G := G) (w := 28) (t := (i : Int)) (gW_28 hG) b5 (by omega) (by omega)
        rw [be_3] at hmt
        have e27 : M2 (24 + 3) = M 27 := f27
        rw [e27] at hmt
        have b0 : beM M2 28 24 0 = M2 0 := be_a (by omega)
        have c0 : sr (beM M2 28 24) (28 + 3) (mtV (M 27) i) 0 = M2 0 := by rw [sr_a _ _ (by omega)]; exact b0
        repeat' (with_reducible first | refine k_gf (by first | assumption | omega) (by first | assumption | ((try simp (disch := omega) only [sr_s, sr_a, sr_sr, u1_s, u1_k, p4, p5, p8, f24, f27, m5, b0, c0]); exact rfl)) ?_ | refine k_gr (by first | assumption | omega) (by first | assumption | ((try simp (disch := omega) only [sr_s, sr_a, sr_sr, u1_s, u1_k, p4, p5, p8, f24, f27, m5, b0, c0]); exact rfl)) (by omega) ?_ | refine k_ald (by first | assumption | omega) (by first | assumption | exact rfl) (by omega) (by omega) (by omega) (by first | assumption | ((try simp (disch := omega) only [sr_s, sr_a, sr_sr, u1_s, u1_k, p4, p5, p8, f24, f27, m5, b0, c0]); exact rfl)) ?_ | refine k_eq (hbe) ?_ | refine k_eq (hmt) ?_ | refine k_eq (X9_inner_ok p0 hp) ?_ | refine k_ifT (by first | (simp (disch := omega) only [w32_id]; first | done | omega) | omega) ?_ | refine k_ifF (by first | (simp (disch := omega) only [w32_id]; first | done | omega) | omega) ?_ | refine k_pf (by first | assumption | omega) (by (try simp (disch := omega) only [sr_s, sr_a, sr_sr, u1_u1, p4, p5, p8, f24, f27, m5, b0, c0]); exact rfl) ?_ | refine k_ast (by first | assumption | omega) (by first | assumption | exact rfl) (by omega) (by omega) (by omega) (by (try simp (disch := omega) only [sr_s, sr_a, sr_sr, u1_u1, p4, p5, p8, f24, f27, m5, b0, c0]); exact rfl) ?_ | refine k_irm (by omega) (by omega) (by omega) (by omega) ?_ | refine k_idv (by omega) (by omega) (by omega) (by omega) ?_ | refine k_tk (by first | assumption | omega) ?_ | refine k_rp (by omega) ?_ | refine k_aldR (by first | assumption | omega) (by first | assumption | exact rfl) (by omega) (by omega) (by omega) (by first | assumption | ((try simp (disch := omega) only [sr_s, sr_a, sr_sr, u1_s, u1_k, p4, p5, p8, f24, f27, m5, b0, c0]); exact rfl)) (by omega) ?_ | refine k_astR (by first | assumption | omega) (by first | assumption | exact rfl) (by omega) (by omega) (by omega) (by first | assumption | omega) (by (try simp (disch := omega) only [sr_s, sr_a, sr_sr, u1_u1, p4, p5, p8, f24, f27, m5, b0, c0]); exact rfl) ?_ | refine k_pz (by first | assumption | omega) (by omega) (by (try simp (disch := omega) only [sr_s, sr_a, sr_sr, u1_u1, p4, p5, p8, f24, f27, m5, b0, c0]); exact rfl) ?_ | refine k_alen (by first | assumption | omega) (by first | assumption | exact rfl) ?_ | refine k_cpy (by first | assumption | omega) (by first | assumption | omega) (by first | assumption | exact rfl) (by first | assumption | exact rfl) (by omega) (by omega) (by omega) (by omega) (by omega) (by omega) (by omega) (by omega) (by (try simp (disch := omega) only [sr_s, sr_a, sr_sr, u1_u1, p4, p5, p8, f24, f27, m5, b0, c0]); exact rfl) ?_ | refine k_if (by (try simp (disch := omega) only [w32_id]); exact Iff.rfl) (fun c => ?_) (fun c => ?_))
        have hI : chI (sr (beM M2 28 24) (28 + 3) (mtV (M 27) i)) := by
          have := h2.2.1.2.2.1
          unfold chI at *
          rw [sr_a _ _ (by omega), sr_a _ _ (by omega), sr_a _ _ (by omega), be_a (by omega), be_a (by omega), be_a (by omega)]
          exact this
        have e0 : sr (beM M2 28 24) (28 + 3) (mtV (M 27) i) 28 = beM M2 28 24 28 := sr_a _ _ (by omega)
        have e1 : sr (beM M2 28 24) (28 + 3) (mtV (M 27) i) (28 + 1) = M 25 := by rw [sr_a _ _ (by omega), be_1]; exact f25
        have e2 : sr (beM M2 28 24) (28 + 3) (mtV (M 27) i) (28 + 2) = M 26 := by rw [sr_a _ _ (by omega), be_2]; exact f26
        have e3 : sr (beM M2 28 24) (28 + 3) (mtV (M 27) i) (28 + 3) = mtV (M 27) i := sr_s _ _ _
        have z0 : beM M2 28 24 28 0 = M 24 0 := by rw [be_0, ← f24]; rfl
        have z1 : beM M2 28 24 28 1 = M 24 1 := by rw [be_0, ← f24]; rfl
        have z2 : beM M2 28 24 28 2 = M 24 2 := by rw [be_0, ← f24]; rfl
        have z6 : beM M2 28 24 28 6 = M 24 6 := by rw [be_0, ← f24]; rfl
        have hW : wOK (sr (beM M2 28 24) (28 + 3) (mtV (M 27) i)) G 28 (M td 0) := by
          refine ⟨gW_28 hG, ?_, ?_, by omega⟩
          · unfold mW; rw [e0, be_0]; exact h2.2.1.1.1
          · show wfW _ _ _ _ _ _ _ _
            rw [e0, e1, e2, e3, z0, z1, z2, z6]
            exact wfW_mt hwf
        refine Ok.bd (X0_markBehind_ok (w := 28) hG hI hW c.1 (by rw [e0, z2]; exact c.2) hn.1 hn.2 (by rw [e0, z0, z1]; exact hin)) ?_
        rintro _ ⟨M3, rfl, f, b, hF, -⟩
        dsimp only
        have hq3 : cQ M M3 := by
          refine ⟨fun a ha => ?_, fun k hk => ?_, ?_⟩
          · rw [f a (by omega), sr_a _ _ (by omega), be_a (by omega)]; exact hq.1 a ha
          · rw [f 0 (by omega), c0]; exact hq.2.1 k hk
          · have hs := h2.2.1
            have w : ∀ b, (32 ≤ b ∧ b < 99 ∨ 105 < b) → M3 b = M2 b := fun b hb => by rw [f b (by omega), sr_a _ _ (by omega), be_a (by omega)]
            obtain ⟨v1, v2, v3, v4, v5, v6, v7, v8, v9, v10⟩ := hs
            unfold cSc
            refine ⟨⟨?_, ?_⟩, ?_, hF.I, ?_, ?_, ?_, ?_, ?_, ?_, ?_⟩
            · unfold mW; rw [f 28 (by omega), e0, be_0]; exact v1.1
            · unfold zoW
              rw [f (28 + 1) (by omega), f (28 + 2) (by omega), f (28 + 3) (by omega), e1, e2, e3]
              have hz := h0.s24.2
              refine ⟨hz.1, hz.2.1, fun j hj => ?_⟩
              unfold mtV
              rw [if_neg (by omega), if_neg (by omega)]
              exact hz.2.2 j hj
            · unfold shW mW zoW at *; simp (disch := omega) only [w]; exact v2
            · rw [w 106 (by omega)]; exact v4
            · rw [w 111 (by omega)]; exact v5
            · rw [w 111 (by omega)]; exact v6
            · rw [w 117 (by omega)]; exact v7
            · rw [w 123 (by omega)]; exact v8
            · rw [w 118 (by omega)]; exact v9
            · rw [w 122 (by omega)]; exact v10
        have hval : bhM (sr (beM M2 28 24) (28 + 3) (mtV (M 27) i)) 28 n.toNat (36 * t + ipC p) = bh (M 24 0) (M 24 1) (M 24 2) (M 26) (u1 (M 27) (4 * (i : Int)) 0) (M 24 6) (M 25) n.toNat (36 * t + ipC p) := by
          show bh _ _ _ _ _ _ _ _ _ = _
          rw [e0, e1, e2, e3, z0, z1, z2, z6, bh_mt]
        rw [hval]
        have hb1 := hbk n.toNat (36 * t + ipC p)
        have hb2 := (bh_wf (wfW_u1 (u := (i : Int)) hwf) n.toNat).2.2.2.2.2.2.2.2.2.2.2.2.2.2 (36 * t + ipC p)
        have hb2 : 0 ≤ bh (M 24 0) (M 24 1) (M 24 2) (M 26) (u1 (M 27) (4 * (i : Int)) 0) (M 24 6) (M 25) n.toNat (36 * t + ipC p) ∧ bh (M 24 0) (M 24 1) (M 24 2) (M 26) (u1 (M 27) (4 * (i : Int)) 0) (M 24 6) (M 25) n.toNat (36 * t + ipC p) < M td 0 := hb2
        have hg : blG M n.toNat (36 * t + ipC p) i = !decide (bh (M 24 0) (M 24 1) (M 24 2) (M 26) (u1 (M 27) (4 * (i : Int)) 0) (M 24 6) (M 25) n.toNat (36 * t + ipC p) = bhM M 24 n.toNat (36 * t + ipC p)) := rfl
        have hst : blV (blG M n.toNat (36 * t + ipC p)) (i + 1) = ior (blV (blG M n.toNat (36 * t + ipC p)) i) (if blG M n.toNat (36 * t + ipC p) i = true then ishl 1 (i : Int) else 0) := rfl
        generalize bh (M 24 0) (M 24 1) (M 24 2) (M 26) (u1 (M 27) (4 * (i : Int)) 0) (M 24 6) (M 25) n.toNat (36 * t + ipC p) = X at *
        generalize bhM M 24 n.toNat (36 * t + ipC p) = Y at *
        by_cases x : X = Y
        · refine k_ifT (by rw [x]) (Ok.ret ⟨M3, ?_, hq3⟩)
          rw [hst, if_neg (by rw [hg]; simp [x]), blV_0]
          rfl
        · refine k_ifF (by rw [w32_id (by omega) (by omega), w32_id (by omega) (by omega)]; exact x) (Ok.ret ⟨M3, ?_, hq3⟩)
          rw [hst, if_pos (by rw [hg]; simp [x])]
          rfl
    · rintro _ ⟨M2, rfl, hq⟩
      have h2 := h0.cl hq
      have hp0 := h2.1.2.1
      have p4 := pr0.p4 hp0
      have k0 := gk_0 hG
      have k24 := gk_24 hG
      have f24 := hq.1 24 (by omega)
      unfold M_X9_blame_b62
      dsimp only
      repeat' (with_reducible first | refine k_gf (by first | assumption | omega) (by first | assumption | ((try simp (disch := omega) only [sr_s, sr_a, sr_sr, u1_s, u1_k, p4, f24]); exact rfl)) ?_ | refine k_gr (by first | assumption | omega) (by first | assumption | ((try simp (disch := omega) only [sr_s, sr_a, sr_sr, u1_s, u1_k, p4, f24]); exact rfl)) (by omega) ?_ | refine k_ald (by first | assumption | omega) (by first | assumption | exact rfl) (by omega) (by omega) (by omega) (by first | assumption | ((try simp (disch := omega) only [sr_s, sr_a, sr_sr, u1_s, u1_k, p4, f24]); exact rfl)) ?_ | refine k_ifT (by first | (simp (disch := omega) only [w32_id]; first | done | omega) | omega) ?_ | refine k_ifF (by first | (simp (disch := omega) only [w32_id]; first | done | omega) | omega) ?_ | refine k_pf (by first | assumption | omega) (by (try simp (disch := omega) only [sr_s, sr_a, sr_sr, u1_u1, p4, f24]); exact rfl) ?_ | refine k_ast (by first | assumption | omega) (by first | assumption | exact rfl) (by omega) (by omega) (by omega) (by (try simp (disch := omega) only [sr_s, sr_a, sr_sr, u1_u1, p4, f24]); exact rfl) ?_ | refine k_irm (by omega) (by omega) (by omega) (by omega) ?_ | refine k_idv (by omega) (by omega) (by omega) (by omega) ?_ | refine k_tk (by first | assumption | omega) ?_ | refine k_rp (by omega) ?_ | refine k_aldR (by first | assumption | omega) (by first | assumption | exact rfl) (by omega) (by omega) (by omega) (by first | assumption | ((try simp (disch := omega) only [sr_s, sr_a, sr_sr, u1_s, u1_k, p4, f24]); exact rfl)) (by omega) ?_ | refine k_astR (by first | assumption | omega) (by first | assumption | exact rfl) (by omega) (by omega) (by omega) (by first | assumption | omega) (by (try simp (disch := omega) only [sr_s, sr_a, sr_sr, u1_u1, p4, f24]); exact rfl) ?_ | refine k_pz (by first | assumption | omega) (by omega) (by (try simp (disch := omega) only [sr_s, sr_a, sr_sr, u1_u1, p4, f24]); exact rfl) ?_ | refine k_alen (by first | assumption | omega) (by first | assumption | exact rfl) ?_ | refine k_cpy (by first | assumption | omega) (by first | assumption | omega) (by first | assumption | exact rfl) (by first | assumption | exact rfl) (by omega) (by omega) (by omega) (by omega) (by omega) (by omega) (by omega) (by omega) (by (try simp (disch := omega) only [sr_s, sr_a, sr_sr, u1_u1, p4, f24]); exact rfl) ?_ | refine k_if (by (try simp (disch := omega) only [w32_id]); exact Iff.rfl) (fun c => ?_) (fun c => ?_))
      exact Ok.ret ⟨M2, rfl, hq⟩
  refine Ok.bind hlo ?_
  rintro _ ⟨M2, rfl, hq⟩
  unfold M_X9_blame_p146
  exact e_ans hG hq
theorem X11_go_mt {β : Type} {F : Hp → Option β} {P : β → Prop} {wd hi tw s0 : Int} {co er ce : Int → Int} (hG : gAll G) (hp124 : pr124 (N 124)) (hmp : ∀ i, 0 ≤ N 129 i ∧ N 129 i < 6) (hB : rB N G rg) (h4 : N rg 0 = wd) (h5 : N rg 1 = hi) (h7 : N rg 3 = tw) (hwf : wfW wd hi tw 6 co er s0 ce) (hc : cW M wd hi tw w 126 0) (e126 : N 126 = M 126) (ew1 : M (w + 1) = ce) (ew2 : M (w + 2) = co) (ew3 : M (w + 3) = er) (ew6 : M w 6 = s0) (n0 : 0 ≤ n) (n1 : n ≤ 400) (u0 : 0 ≤ u) (u6 : u < tw) (hF : ∀ M1, rQ N M1 → rSt M1 M1 wd hi tw 6 co (u1 er (4 * u) 0) s0 ce n.toNat 0 → Ok (F (M1, G)) P) : Ok ((M_X11_starts (N, G) 124).bind fun h => (gr 21 h 124 24).bind fun x4 => (ast 1 h x4 (4 * u) 0).bind fun h => (M_X11_steps h 124 n).bind F) P := by
  have hrg : 146 ≤ rg := hB.2.2.1
  obtain ⟨c1, c2, c3, c4, c5, c6⟩ := hc
  rw [ew1] at c1
  rw [ew2] at c2
  rw [ew3] at c3
  rw [ew6] at c5
  rw [← e126] at c1 c2 c3 c5 c6
  have hwf' := wfW_u1 (u := u) hwf
  obtain ⟨a1, a2, b1, b2, t1, t6, -⟩ := hwf
  refine k_eq (X11_starts_ok hG hp124) ?_
  have e124 : ∀ k, k ≠ 26 → staM N 124 k = N 124 k := fun k hk => by unfold staM; rw [sr_s, u1_k _ _ hk]
  have e : ∀ a, a ≠ 124 → a ≠ 129 → a ≠ 130 → a ≠ 131 → staM N a = N a := fun a x1 x2 x3 x4 => by unfold staM; simp (disch := first | assumption | omega) only [sr_s, sr_a, sr_sr]
  have e130 : staM N 130 = cp1 (N 130) (N 126) 216 0 6 := by unfold staM; simp (disch := first | assumption | omega) only [sr_s, sr_a, sr_sr]
  have e131 : staM N 131 = cp1 (N 131) (N 126) 222 0 24 := by unfold staM; simp (disch := first | assumption | omega) only [sr_s, sr_a, sr_sr]
  have e129 : staM N 129 = cp1 (N 129) (N 126) 0 0 216 := by unfold staM; simp (disch := first | assumption | omega) only [sr_s, sr_a, sr_sr]
  have e26 : staM N 124 26 = N 126 247 := by unfold staM; rw [sr_s, u1_s]
  have x24 : staM N 124 24 = 131 := by rw [e124 24 (by omega)]; exact pr124.p24 hp124
  have k124 := gk_124 hG
  have k131 := gk_131 hG
  have l131 := gl_131 hG
  repeat' (with_reducible first | refine k_gf (by first | assumption | omega) (by first | assumption | ((try simp (disch := omega) only [sr_s, sr_a, sr_sr, u1_s, u1_k, x24]); exact rfl)) ?_ | refine k_gr (by first | assumption | omega) (by first | assumption | ((try simp (disch := omega) only [sr_s, sr_a, sr_sr, u1_s, u1_k, x24]); exact rfl)) (by omega) ?_ | refine k_ald (by first | assumption | omega) (by first | assumption | exact rfl) (by omega) (by omega) (by omega) (by first | assumption | ((try simp (disch := omega) only [sr_s, sr_a, sr_sr, u1_s, u1_k, x24]); exact rfl)) ?_ | refine k_ifT (by first | (simp (disch := omega) only [w32_id]; first | done | omega) | omega) ?_ | refine k_ifF (by first | (simp (disch := omega) only [w32_id]; first | done | omega) | omega) ?_ | refine k_pf (by first | assumption | omega) (by (try simp (disch := omega) only [sr_s, sr_a, sr_sr, u1_u1, x24]); exact rfl) ?_ | refine k_ast (by first | assumption | omega) (by first | assumption | exact rfl) (by omega) (by omega) (by omega) (by (try simp (disch := omega) only [sr_s, sr_a, sr_sr, u1_u1, x24]); exact rfl) ?_ | refine k_irm (by omega) (by omega) (by omega) (by omega) ?_ | refine k_idv (by omega) (by omega) (by omega) (by omega) ?_ | refine k_tk (by first | assumption | omega) ?_ | refine k_rp (by omega) ?_ | refine k_aldR (by first | assumption | omega) (by first | assumption | exact rfl) (by omega) (by omega) (by omega) (by first | assumption | ((try simp (disch := omega) only [sr_s, sr_a, sr_sr, u1_s, u1_k, x24]); exact rfl)) (by omega) ?_ | refine k_astR (by first | assumption | omega) (by first | assumption | exact rfl) (by omega) (by omega) (by omega) (by first | assumption | omega) (by (try simp (disch := omega) only [sr_s, sr_a, sr_sr, u1_u1, x24]); exact rfl) ?_ | refine k_pz (by first | assumption | omega) (by omega) (by (try simp (disch := omega) only [sr_s, sr_a, sr_sr, u1_u1, x24]); exact rfl) ?_ | refine k_alen (by first | assumption | omega) (by first | assumption | exact rfl) ?_ | refine k_cpy (by first | assumption | omega) (by first | assumption | omega) (by first | assumption | exact rfl) (by first | assumption | exact rfl) (by omega) (by omega) (by omega) (by omega) (by omega) (by omega) (by omega) (by omega) (by (try simp (disch := omega) only [sr_s, sr_a, sr_sr, u1_u1, x24]); exact rfl) ?_ | refine k_if (by (try simp (disch := omega) only [w32_id]); exact Iff.rfl) (fun c => ?_) (fun c => ?_))
  have c5 : N 126 247 = s0 := c5
  generalize staM N = S at *
  have f : ∀ a, a ≠ 131 → sr S 131 (u1 (S 131) (4 * u) 0) a = S a := fun a ha => sr_a _ _ ha
  have f131 : sr S 131 (u1 (S 131) (4 * u) 0) 131 = u1 (S 131) (4 * u) 0 := sr_s _ _ _
  generalize sr S 131 (u1 (S 131) (4 * u) 0) = S2 at *
  have hC : rC S2 G rg wd hi tw co (u1 er (4 * u) 0) := by
    refine ⟨hG, pr124.u hp124 (fun k hk => by rw [f 124 (by omega)]; exact e124 k (by omega)), hB.cg (by rw [f 124 (by omega)]; exact e124 3 (by omega)) (by rw [f rg (by omega)]; exact e rg (by omega) (by omega) (by omega) (by omega)), ?_, ?_, ?_, fun t t0 t1 => ?_, fun i i0 i1 => ?_⟩
    · rw [f rg (by omega), e rg (by omega) (by omega) (by omega) (by omega)]; exact h4
    · rw [f rg (by omega), e rg (by omega) (by omega) (by omega) (by omega)]; exact h5
    · rw [f rg (by omega), e rg (by omega) (by omega) (by omega) (by omega)]; exact h7
    · rw [f 130 (by omega), e130]; unfold cp1; rw [if_pos (by omega)]
      have := c2 t t0 t1
      rw [show (0 : Int) + 216 + t = 216 + (t - 0) by omega] at this
      exact this
    · rw [f131, e131]
      by_cases y : i = 4 * u
      · subst y; rw [u1_s, u1_s]
      · rw [u1_k _ _ y, u1_k _ _ y]
        unfold cp1; rw [if_pos (by omega)]
        have := c3 i i0 i1
        rw [show (0 : Int) + 222 + i = 222 + (i - 0) by omega] at this
        exact this
  have hS : rSt S2 S2 wd hi tw 6 co (u1 er (4 * u) 0) s0 ce 0 0 := by
    refine ⟨fun _ _ _ _ => rfl, fun _ _ => rfl, ?_, fun i => ?_, fun k t q hk t0 t1 q0 q1 => ?_, fun k t hk t0 t1 => by omega⟩
    · rw [show (0 * rk (u1 er (4 * u) 0) tw.toNat + rk (u1 er (4 * u) 0) (0 : Int).toNat) = 0 by rw [Nat.zero_mul]; rfl, f 124 (by omega), e26]
      exact c5
    · rw [f 129 (by omega), e129]; unfold cp1
      split
      · have := c6 i (by omega) (by omega)
        rw [show (0 : Int) + (i - 0) = 0 + i by omega]; exact this
      · exact hmp i
    · have hk : k = 0 := by omega
      subst hk
      have hm := mul_b a1 a2 b1 b2
      rw [f 129 (by omega), e129]; unfold cp1
      rw [if_pos (by omega)]
      have := c1 t (inn wd q) t0 t1 (inn_in a1 a2 b1 b2 q0 q1)
      rw [idx_inn a1 a2 q0] at this
      show _ = ce (36 * t + inn wd q)
      rw [← this]
      congr 1
      omega
  refine Ok.bind (X11_steps_ok hC hwf' n0 n1 hS) ?_
  rintro ⟨M1, G1⟩ ⟨e1, h1⟩
  dsimp only at e1 h1
  subst e1
  refine hF M1 ⟨fun a ha => ?_, fun k k0 k1 k2 k3 _ _ => ?_, h1.2.2.2.1⟩ h1.self
  · rw [h1.1 a (by omega) (by omega) (by omega), f a (by omega)]; exact e a (by omega) (by omega) (by omega) (by omega)
  · rw [h1.2.1 k k3, f 124 (by omega)]; exact e124 k k3
theorem X11_blame_loop (h0 : Inv0 M G td r) (hR : isR M G td rg) (hq0 : rQ M N) (c : 0 ≤ t ∧ t < M 24 2) (hn : 0 ≤ n ∧ n ≤ 60) (hp : i32 p) (hc : plC (M 24 0) (M 24 1) p) : Ok (M_X11_blame_w49 FU (N, G) 124 t p n (bhM M 24 n.toNat (36 * t + ipC p)) 0 0) (rP M G (blV (blG M n.toNat (36 * t + ipC p)) (M 24 2).toNat) 0) := by
  have hG := h0.1.1
  have hh := h0.tw
  have q10 := hR.2.2.2.2.2.2.2.2.2.1
  obtain ⟨e0, e1, e2, e3, hwf, -⟩ := hR.cl
  have hin := ipC_in hc (by omega)
  have hwf' := hwf
  obtain ⟨a1, a2, b1, b2, t1, t6, -⟩ := hwf
  have hb := idx_b a1 a2 b2 hin
  have hm := mul_b a1 a2 b1 b2
  have hmk := hR.mk
  have hrg : 146 ≤ rg := hR.2.1.1
  have hbk : ∀ k x, 0 ≤ bhM M 24 k x ∧ bhM M 24 k x < M td 0 := fun k x => (bh_wf hwf' k).2.2.2.2.2.2.2.2.2.2.2.2.2.2 x
  unfold M_X11_blame_w49
  have hlo : Ok (wh (S := (Hp × Int × Int)) (T := (Hp × Int)) (fun a => M_X11_blame_b49 a.1 124 t p n (bhM M 24 n.toNat (36 * t + ipC p)) a.2.1 a.2.2) FU ((N, G), 0, 0)) (fun z => ∃ M2, z = ((M2, G), blV (blG M n.toNat (36 * t + ipC p)) (M 24 2).toNat) ∧ rQ M M2) := by
    refine wh_for (fun i s => ∃ M2, s = ((M2, G), blV (blG M n.toNat (36 * t + ipC p)) i, (i : Int)) ∧ rQ M M2) _ (M 24 2).toNat (by omega) ⟨N, rfl, hq0⟩ ?_ ?_
    · rintro i _ hi ⟨N1, rfl, hq⟩
      have h1 := h0.rf hq
      have hB0 := hR.B hG
      have er : N1 rg = M rg := hq.1 rg (by omega)
      have hB1 : rB N1 G rg := hB0.cg (hq.2.1 3 (by omega) (by omega) (by omega) (by omega) (by omega) (by omega)) er
      have hB1' := hB1
      obtain ⟨k124, r3, r0, kr, -⟩ := hB1
      unfold M_X11_blame_b49 M_X11_blame_p106
      dsimp only
      repeat' (with_reducible first | refine k_gf (by first | assumption | omega) (by first | assumption | ((try simp (disch := omega) only [sr_s, sr_a, sr_sr, u1_s, u1_k, r3, er, e3]); exact rfl)) ?_ | refine k_gr (by first | assumption | omega) (by first | assumption | ((try simp (disch := omega) only [sr_s, sr_a, sr_sr, u1_s, u1_k, r3, er, e3]); exact rfl)) (by omega) ?_ | refine k_ald (by first | assumption | omega) (by first | assumption | exact rfl) (by omega) (by omega) (by omega) (by first | assumption | ((try simp (disch := omega) only [sr_s, sr_a, sr_sr, u1_s, u1_k, r3, er, e3]); exact rfl)) ?_ | refine k_ifT (by first | (simp (disch := omega) only [w32_id]; first | done | omega) | omega) ?_ | refine k_ifF (by first | (simp (disch := omega) only [w32_id]; first | done | omega) | omega) ?_ | refine k_pf (by first | assumption | omega) (by (try simp (disch := omega) only [sr_s, sr_a, sr_sr, u1_u1, r3, er, e3]); exact rfl) ?_ | refine k_ast (by first | assumption | omega) (by first | assumption | exact rfl) (by omega) (by omega) (by omega) (by (try simp (disch := omega) only [sr_s, sr_a, sr_sr, u1_u1, r3, er, e3]); exact rfl) ?_ | refine k_irm (by omega) (by omega) (by omega) (by omega) ?_ | refine k_idv (by omega) (by omega) (by omega) (by omega) ?_ | refine k_tk (by first | assumption | omega) ?_ | refine k_rp (by omega) ?_ | refine k_aldR (by first | assumption | omega) (by first | assumption | exact rfl) (by omega) (by omega) (by omega) (by first | assumption | ((try simp (disch := omega) only [sr_s, sr_a, sr_sr, u1_s, u1_k, r3, er, e3]); exact rfl)) (by omega) ?_ | refine k_astR (by first | assumption | omega) (by first | assumption | exact rfl) (by omega) (by omega) (by omega) (by first | assumption | omega) (by (try simp (disch := omega) only [sr_s, sr_a, sr_sr, u1_u1, r3, er, e3]); exact rfl) ?_ | refine k_pz (by first | assumption | omega) (by omega) (by (try simp (disch := omega) only [sr_s, sr_a, sr_sr, u1_u1, r3, er, e3]); exact rfl) ?_ | refine k_alen (by first | assumption | omega) (by first | assumption | exact rfl) ?_ | refine k_cpy (by first | assumption | omega) (by first | assumption | omega) (by first | assumption | exact rfl) (by first | assumption | exact rfl) (by omega) (by omega) (by omega) (by omega) (by omega) (by omega) (by omega) (by omega) (by (try simp (disch := omega) only [sr_s, sr_a, sr_sr, u1_u1, r3, er, e3]); exact rfl) ?_ | refine k_if (by (try simp (disch := omega) only [w32_id]); exact Iff.rfl) (fun c => ?_) (fun c => ?_))
      refine X11_go_mt (M := M) (w := 24) (rg := rg) (wd := M 24 0) (hi := M 24 1) (tw := M 24 2) (s0 := M 24 6) (co := M 26) (er := M 27) (ce := M 25) (n := n) (u := (i : Int)) hG h1.2.2.1.1 h1.2.2.1.2 hB1' (by rw [er]; exact e0) (by rw [er]; exact e1) (by rw [er]; exact e3) (wfW6 hwf') q10 (hq.1 126 (by omega)) rfl rfl rfl rfl hn.1 (by omega) (by omega) (by omega) (fun M3 hq3 hS => ?_)
      have hB3 : rB M3 G rg := hB1'.cg (hq3.2.1 3 (by omega) (by omega) (by omega) (by omega) (by omega) (by omega)) (hq3.1 rg (by omega))
      have er3 : M3 rg = M rg := (hq3.1 rg (by omega)).trans er
      have hpo := X11_placeOf_T hB3 hp (by rw [er3, e0, e1]; exact hc)
      rw [er3, e0] at hpo
      have p22 : M3 124 22 = 129 := by rw [hq3.2.1 22 (by omega) (by omega) (by omega) (by omega) (by omega) (by omega)]; exact pr124.p22 h1.2.2.1.1
      have hbe := X11_behind_ok (M := M3) (n := n) (t := t) (i := idx (M 24 0) (ipC p)) hG p22 (by omega) (by omega)
      have hv := hS.2.2.2.2.1 n.toNat t (idx (M 24 0) (ipC p)) (Or.inl (Nat.le_refl _)) c.1 c.2 hb.1 hb.2
      rw [show ((n.toNat : Nat) : Int) = n by omega, inn_idx a1 a2 hin] at hv
      rw [hv] at hbe
      refine k_eq hpo (k_eq hbe ?_)
      have hb1 := hbk n.toNat (36 * t + ipC p)
      have hb2 := (bh_wf (wfW_u1 (u := (i : Int)) hwf') n.toNat).2.2.2.2.2.2.2.2.2.2.2.2.2.2 (36 * t + ipC p)
      have hb2 : 0 ≤ bh (M 24 0) (M 24 1) (M 24 2) (M 26) (u1 (M 27) (4 * (i : Int)) 0) (M 24 6) (M 25) n.toNat (36 * t + ipC p) ∧ bh (M 24 0) (M 24 1) (M 24 2) (M 26) (u1 (M 27) (4 * (i : Int)) 0) (M 24 6) (M 25) n.toNat (36 * t + ipC p) < M td 0 := hb2
      have hg : blG M n.toNat (36 * t + ipC p) i = !decide (bh (M 24 0) (M 24 1) (M 24 2) (M 26) (u1 (M 27) (4 * (i : Int)) 0) (M 24 6) (M 25) n.toNat (36 * t + ipC p) = bhM M 24 n.toNat (36 * t + ipC p)) := rfl
      have hst : blV (blG M n.toNat (36 * t + ipC p)) (i + 1) = ior (blV (blG M n.toNat (36 * t + ipC p)) i) (if blG M n.toNat (36 * t + ipC p) i = true then ishl 1 (i : Int) else 0) := rfl
      generalize bh (M 24 0) (M 24 1) (M 24 2) (M 26) (u1 (M 27) (4 * (i : Int)) 0) (M 24 6) (M 25) n.toNat (36 * t + ipC p) = X at *
      generalize bhM M 24 n.toNat (36 * t + ipC p) = Y at *
      by_cases x : X = Y
      · refine k_ifT (by rw [x]) (Ok.ret ⟨M3, ?_, hq.trans hq3⟩)
        rw [hst, if_neg (by rw [hg]; simp [x])]
        rfl
      · refine k_ifF (by rw [w32_id (by omega) (by omega), w32_id (by omega) (by omega)]; exact x) (Ok.ret ⟨M3, ?_, hq.trans hq3⟩)
        rw [hst, if_pos (by rw [hg]; simp [x])]
        rfl
    · rintro _ ⟨N1, rfl, hq⟩
      have hB0 := hR.B hG
      have er : N1 rg = M rg := hq.1 rg (by omega)
      have hB1 : rB N1 G rg := hB0.cg (hq.2.1 3 (by omega) (by omega) (by omega) (by omega) (by omega) (by omega)) er
      obtain ⟨k124, r3, r0, kr, -⟩ := hB1
      unfold M_X11_blame_b49
      dsimp only
      repeat' (with_reducible first | refine k_gf (by first | assumption | omega) (by first | assumption | ((try simp (disch := omega) only [sr_s, sr_a, sr_sr, u1_s, u1_k, r3, er, e3]); exact rfl)) ?_ | refine k_gr (by first | assumption | omega) (by first | assumption | ((try simp (disch := omega) only [sr_s, sr_a, sr_sr, u1_s, u1_k, r3, er, e3]); exact rfl)) (by omega) ?_ | refine k_ald (by first | assumption | omega) (by first | assumption | exact rfl) (by omega) (by omega) (by omega) (by first | assumption | ((try simp (disch := omega) only [sr_s, sr_a, sr_sr, u1_s, u1_k, r3, er, e3]); exact rfl)) ?_ | refine k_ifT (by first | (simp (disch := omega) only [w32_id]; first | done | omega) | omega) ?_ | refine k_ifF (by first | (simp (disch := omega) only [w32_id]; first | done | omega) | omega) ?_ | refine k_pf (by first | assumption | omega) (by (try simp (disch := omega) only [sr_s, sr_a, sr_sr, u1_u1, r3, er, e3]); exact rfl) ?_ | refine k_ast (by first | assumption | omega) (by first | assumption | exact rfl) (by omega) (by omega) (by omega) (by (try simp (disch := omega) only [sr_s, sr_a, sr_sr, u1_u1, r3, er, e3]); exact rfl) ?_ | refine k_irm (by omega) (by omega) (by omega) (by omega) ?_ | refine k_idv (by omega) (by omega) (by omega) (by omega) ?_ | refine k_tk (by first | assumption | omega) ?_ | refine k_rp (by omega) ?_ | refine k_aldR (by first | assumption | omega) (by first | assumption | exact rfl) (by omega) (by omega) (by omega) (by first | assumption | ((try simp (disch := omega) only [sr_s, sr_a, sr_sr, u1_s, u1_k, r3, er, e3]); exact rfl)) (by omega) ?_ | refine k_astR (by first | assumption | omega) (by first | assumption | exact rfl) (by omega) (by omega) (by omega) (by first | assumption | omega) (by (try simp (disch := omega) only [sr_s, sr_a, sr_sr, u1_u1, r3, er, e3]); exact rfl) ?_ | refine k_pz (by first | assumption | omega) (by omega) (by (try simp (disch := omega) only [sr_s, sr_a, sr_sr, u1_u1, r3, er, e3]); exact rfl) ?_ | refine k_alen (by first | assumption | omega) (by first | assumption | exact rfl) ?_ | refine k_cpy (by first | assumption | omega) (by first | assumption | omega) (by first | assumption | exact rfl) (by first | assumption | exact rfl) (by omega) (by omega) (by omega) (by omega) (by omega) (by omega) (by omega) (by omega) (by (try simp (disch := omega) only [sr_s, sr_a, sr_sr, u1_u1, r3, er, e3]); exact rfl) ?_ | refine k_if (by (try simp (disch := omega) only [w32_id]); exact Iff.rfl) (fun c => ?_) (fun c => ?_))
      exact Ok.ret ⟨N1, rfl, hq⟩
  refine Ok.bind hlo ?_
  rintro _ ⟨M2, rfl, hq⟩
  unfold M_X11_blame_p115
  exact e_good hG hq
theorem q_blame (h : Inv M G) (ht : i32 t) (hp : i32 p) (hn : i32 n) : Both M G (fun h => M_X9_blame h 0 t p n) (fun h => M_X11_blame h 124 t p n) := by
  obtain ⟨htr, td, r, h0⟩ := h
  have hG := h0.1.1
  have ht' := ht
  have hp' := hp
  have hn' := hn
  unfold i32 at ht' hp' hn'
  have hh := h0.tw
  have hp0 := h0.1.2.1
  have p4 := pr0.p4 hp0
  have p8 := pr0.p8 hp0
  have k0 := gk_0 hG
  have k124 := gk_124 hG
  have h60 : i32 60 := by unfold i32; omega
  unfold M_X9_blame M_X11_blame
  by_cases c : 0 ≤ t ∧ t < M 24 2
  · by_cases c2 : plC (M 24 0) (M 24 1) p
    · by_cases c3 : 0 ≤ n ∧ n ≤ 60
      · have hin := ipC_in c2 (by omega)
        have p0 := c2.1
        refine Both.go h0 (blV (blG M n.toNat (36 * t + ipC p)) (M 24 2).toNat) 0 (by omega) (by omega) (by omega) ?_ (fun M2 h2 f => ?_)
        · obtain ⟨rg, hR⟩ := h0.ring (by omega)
          repeat' (with_reducible first | refine k_gf (by first | assumption | omega) (by first | assumption | ((try simp (disch := omega) only [sr_s, sr_a, sr_sr, u1_s, u1_k, p4, p8]); exact rfl)) ?_ | refine k_gr (by first | assumption | omega) (by first | assumption | ((try simp (disch := omega) only [sr_s, sr_a, sr_sr, u1_s, u1_k, p4, p8]); exact rfl)) (by omega) ?_ | refine k_ald (by first | assumption | omega) (by first | assumption | exact rfl) (by omega) (by omega) (by omega) (by first | assumption | ((try simp (disch := omega) only [sr_s, sr_a, sr_sr, u1_s, u1_k, p4, p8]); exact rfl)) ?_ | refine k_eq (X9_isTown_T h0 ht c) ?_ | refine k_eq (X9_isPlace_T h0 hp c2) ?_ | refine k_eq (X9_isBehind_T hn h60 c3) ?_ | refine k_eq (X9_inner_ok p0 hp) ?_ | refine k_ifT (by first | (simp (disch := omega) only [w32_id]; first | done | omega) | omega) ?_ | refine k_ifF (by first | (simp (disch := omega) only [w32_id]; first | done | omega) | omega) ?_ | refine k_pf (by first | assumption | omega) (by (try simp (disch := omega) only [sr_s, sr_a, sr_sr, u1_u1, p4, p8]); exact rfl) ?_ | refine k_ast (by first | assumption | omega) (by first | assumption | exact rfl) (by omega) (by omega) (by omega) (by (try simp (disch := omega) only [sr_s, sr_a, sr_sr, u1_u1, p4, p8]); exact rfl) ?_ | refine k_irm (by omega) (by omega) (by omega) (by omega) ?_ | refine k_idv (by omega) (by omega) (by omega) (by omega) ?_ | refine k_tk (by first | assumption | omega) ?_ | refine k_rp (by omega) ?_ | refine k_aldR (by first | assumption | omega) (by first | assumption | exact rfl) (by omega) (by omega) (by omega) (by first | assumption | ((try simp (disch := omega) only [sr_s, sr_a, sr_sr, u1_s, u1_k, p4, p8]); exact rfl)) (by omega) ?_ | refine k_astR (by first | assumption | omega) (by first | assumption | exact rfl) (by omega) (by omega) (by omega) (by first | assumption | omega) (by (try simp (disch := omega) only [sr_s, sr_a, sr_sr, u1_u1, p4, p8]); exact rfl) ?_ | refine k_pz (by first | assumption | omega) (by omega) (by (try simp (disch := omega) only [sr_s, sr_a, sr_sr, u1_u1, p4, p8]); exact rfl) ?_ | refine k_alen (by first | assumption | omega) (by first | assumption | exact rfl) ?_ | refine k_cpy (by first | assumption | omega) (by first | assumption | omega) (by first | assumption | exact rfl) (by first | assumption | exact rfl) (by omega) (by omega) (by omega) (by omega) (by omega) (by omega) (by omega) (by omega) (by (try simp (disch := omega) only [sr_s, sr_a, sr_sr, u1_u1, p4, p8]); exact rfl) ?_ | refine k_if (by (try simp (disch := omega) only [w32_id]); exact Iff.rfl) (fun c => ?_) (fun c => ?_))
          refine Ok.bd (X0_markBehind_ok hG h0.2.1.2.2.1 (hR.wOK hG h0.now) c.1 c.2 c3.1 c3.2 hin) ?_
          rintro _ ⟨M1, rfl, f, b, hF, -⟩
          dsimp only
          exact X9_blame_loop h0 hR (cQ.ch h0.2.1 f hF.I) c c3 p0 hp hin
        · have f24 : M2 24 = M 24 := f 24 (by omega)
          rw [← f24] at c c2 hin
          obtain ⟨rg, hR⟩ := h2.ring (by omega)
          obtain ⟨e0, e1, -, -, ⟨a1, a2, b1, b2, t1, t6, -⟩, -⟩ := hR.cl
          have hb := idx_b a1 a2 b2 hin
          have hm := mul_b a1 a2 b1 b2
          repeat' (with_reducible first | refine k_gf (by first | assumption | omega) (by first | assumption | ((try simp (disch := omega) only [sr_s, sr_a, sr_sr, u1_s, u1_k]); exact rfl)) ?_ | refine k_gr (by first | assumption | omega) (by first | assumption | ((try simp (disch := omega) only [sr_s, sr_a, sr_sr, u1_s, u1_k]); exact rfl)) (by omega) ?_ | refine k_ald (by first | assumption | omega) (by first | assumption | exact rfl) (by omega) (by omega) (by omega) (by first | assumption | ((try simp (disch := omega) only [sr_s, sr_a, sr_sr, u1_s, u1_k]); exact rfl)) ?_ | refine k_eq (X11_isPlace_T h2 ht hp c c2) ?_ | refine k_ifT (by first | (simp (disch := omega) only [w32_id]; first | done | omega) | omega) ?_ | refine k_ifF (by first | (simp (disch := omega) only [w32_id]; first | done | omega) | omega) ?_ | refine k_pf (by first | assumption | omega) (by (try simp (disch := omega) only [sr_s, sr_a, sr_sr, u1_u1]); exact rfl) ?_ | refine k_ast (by first | assumption | omega) (by first | assumption | exact rfl) (by omega) (by omega) (by omega) (by (try simp (disch := omega) only [sr_s, sr_a, sr_sr, u1_u1]); exact rfl) ?_ | refine k_irm (by omega) (by omega) (by omega) (by omega) ?_ | refine k_idv (by omega) (by omega) (by omega) (by omega) ?_ | refine k_tk (by first | assumption | omega) ?_ | refine k_rp (by omega) ?_ | refine k_aldR (by first | assumption | omega) (by first | assumption | exact rfl) (by omega) (by omega) (by omega) (by first | assumption | ((try simp (disch := omega) only [sr_s, sr_a, sr_sr, u1_s, u1_k]); exact rfl)) (by omega) ?_ | refine k_astR (by first | assumption | omega) (by first | assumption | exact rfl) (by omega) (by omega) (by omega) (by first | assumption | omega) (by (try simp (disch := omega) only [sr_s, sr_a, sr_sr, u1_u1]); exact rfl) ?_ | refine k_pz (by first | assumption | omega) (by omega) (by (try simp (disch := omega) only [sr_s, sr_a, sr_sr, u1_u1]); exact rfl) ?_ | refine k_alen (by first | assumption | omega) (by first | assumption | exact rfl) ?_ | refine k_cpy (by first | assumption | omega) (by first | assumption | omega) (by first | assumption | exact rfl) (by first | assumption | exact rfl) (by omega) (by omega) (by omega) (by omega) (by omega) (by omega) (by omega) (by omega) (by (try simp (disch := omega) only [sr_s, sr_a, sr_sr, u1_u1]); exact rfl) ?_ | refine k_if (by (try simp (disch := omega) only [w32_id]); exact Iff.rfl) (fun c => ?_) (fun c => ?_))
          refine Ok.bd (X11_asks_ok h2 hR hn c3) ?_
          rintro _ ⟨M3, rfl, hM⟩
          obtain ⟨h3, hR3, hB3, p22, er, hv⟩ := ref_maps h2 hR c3.1 hM
          dsimp only
          have hpo := X11_placeOf_T hB3 hp (by rw [er, e0, e1]; exact c2)
          rw [er, e0] at hpo
          have hbe := X11_behind_ok (M := M3) (n := n) (t := t) (i := idx (M2 24 0) (ipC p)) hG p22 (by omega) (by omega)
          rw [hv n t _ c3.1 (Int.le_refl n) c.1 c.2 hb.1 hb.2, inn_idx a1 a2 hin] at hbe
          refine k_ifF (by decide) (k_eq hpo (k_eq hbe ?_))
          have hl := X11_blame_loop h2 hR hM.1 c c3 hp c2
          have hg : blG M2 n.toNat (36 * t + ipC p) = blG M n.toNat (36 * t + ipC p) := by
            funext u
            unfold blG
            rw [bhM_cg (fun a ha => f a (by omega)), f24, f 25 (by omega), f 26 (by omega), f 27 (by omega)]
          rw [hg, f24] at hl
          exact hl
      · refine Both.go h0 (-1) 2 (by omega) (by omega) (by omega) ?_ (fun M2 h2 f => ?_)
        · repeat' (with_reducible first | refine k_gf (by first | assumption | omega) (by first | assumption | ((try simp (disch := omega) only [sr_s, sr_a, sr_sr, u1_s, u1_k]); exact rfl)) ?_ | refine k_gr (by first | assumption | omega) (by first | assumption | ((try simp (disch := omega) only [sr_s, sr_a, sr_sr, u1_s, u1_k]); exact rfl)) (by omega) ?_ | refine k_ald (by first | assumption | omega) (by first | assumption | exact rfl) (by omega) (by omega) (by omega) (by first | assumption | ((try simp (disch := omega) only [sr_s, sr_a, sr_sr, u1_s, u1_k]); exact rfl)) ?_ | refine k_eq (X9_isTown_T h0 ht c) ?_ | refine k_eq (X9_isPlace_T h0 hp c2) ?_ | refine k_eq (X9_isBehind_F hn h60 c3) ?_ | refine k_ifT (by first | (simp (disch := omega) only [w32_id]; first | done | omega) | omega) ?_ | refine k_ifF (by first | (simp (disch := omega) only [w32_id]; first | done | omega) | omega) ?_ | refine k_pf (by first | assumption | omega) (by (try simp (disch := omega) only [sr_s, sr_a, sr_sr, u1_u1]); exact rfl) ?_ | refine k_ast (by first | assumption | omega) (by first | assumption | exact rfl) (by omega) (by omega) (by omega) (by (try simp (disch := omega) only [sr_s, sr_a, sr_sr, u1_u1]); exact rfl) ?_ | refine k_irm (by omega) (by omega) (by omega) (by omega) ?_ | refine k_idv (by omega) (by omega) (by omega) (by omega) ?_ | refine k_tk (by first | assumption | omega) ?_ | refine k_rp (by omega) ?_ | refine k_aldR (by first | assumption | omega) (by first | assumption | exact rfl) (by omega) (by omega) (by omega) (by first | assumption | ((try simp (disch := omega) only [sr_s, sr_a, sr_sr, u1_s, u1_k]); exact rfl)) (by omega) ?_ | refine k_astR (by first | assumption | omega) (by first | assumption | exact rfl) (by omega) (by omega) (by omega) (by first | assumption | omega) (by (try simp (disch := omega) only [sr_s, sr_a, sr_sr, u1_u1]); exact rfl) ?_ | refine k_pz (by first | assumption | omega) (by omega) (by (try simp (disch := omega) only [sr_s, sr_a, sr_sr, u1_u1]); exact rfl) ?_ | refine k_alen (by first | assumption | omega) (by first | assumption | exact rfl) ?_ | refine k_cpy (by first | assumption | omega) (by first | assumption | omega) (by first | assumption | exact rfl) (by first | assumption | exact rfl) (by omega) (by omega) (by omega) (by omega) (by omega) (by omega) (by omega) (by omega) (by (try simp (disch := omega) only [sr_s, sr_a, sr_sr, u1_u1]); exact rfl) ?_ | refine k_if (by (try simp (disch := omega) only [w32_id]); exact Iff.rfl) (fun c => ?_) (fun c => ?_))
          exact e_ref hG (cQ.refl h0.2.1)
        · rw [← f 24 (by omega)] at c c2
          repeat' (with_reducible first | refine k_gf (by first | assumption | omega) (by first | assumption | ((try simp (disch := omega) only [sr_s, sr_a, sr_sr, u1_s, u1_k]); exact rfl)) ?_ | refine k_gr (by first | assumption | omega) (by first | assumption | ((try simp (disch := omega) only [sr_s, sr_a, sr_sr, u1_s, u1_k]); exact rfl)) (by omega) ?_ | refine k_ald (by first | assumption | omega) (by first | assumption | exact rfl) (by omega) (by omega) (by omega) (by first | assumption | ((try simp (disch := omega) only [sr_s, sr_a, sr_sr, u1_s, u1_k]); exact rfl)) ?_ | refine k_eq (X11_isPlace_T h2 ht hp c c2) ?_ | refine k_ifT (by first | (simp (disch := omega) only [w32_id]; first | done | omega) | omega) ?_ | refine k_ifF (by first | (simp (disch := omega) only [w32_id]; first | done | omega) | omega) ?_ | refine k_pf (by first | assumption | omega) (by (try simp (disch := omega) only [sr_s, sr_a, sr_sr, u1_u1]); exact rfl) ?_ | refine k_ast (by first | assumption | omega) (by first | assumption | exact rfl) (by omega) (by omega) (by omega) (by (try simp (disch := omega) only [sr_s, sr_a, sr_sr, u1_u1]); exact rfl) ?_ | refine k_irm (by omega) (by omega) (by omega) (by omega) ?_ | refine k_idv (by omega) (by omega) (by omega) (by omega) ?_ | refine k_tk (by first | assumption | omega) ?_ | refine k_rp (by omega) ?_ | refine k_aldR (by first | assumption | omega) (by first | assumption | exact rfl) (by omega) (by omega) (by omega) (by first | assumption | ((try simp (disch := omega) only [sr_s, sr_a, sr_sr, u1_s, u1_k]); exact rfl)) (by omega) ?_ | refine k_astR (by first | assumption | omega) (by first | assumption | exact rfl) (by omega) (by omega) (by omega) (by first | assumption | omega) (by (try simp (disch := omega) only [sr_s, sr_a, sr_sr, u1_u1]); exact rfl) ?_ | refine k_pz (by first | assumption | omega) (by omega) (by (try simp (disch := omega) only [sr_s, sr_a, sr_sr, u1_u1]); exact rfl) ?_ | refine k_alen (by first | assumption | omega) (by first | assumption | exact rfl) ?_ | refine k_cpy (by first | assumption | omega) (by first | assumption | omega) (by first | assumption | exact rfl) (by first | assumption | exact rfl) (by omega) (by omega) (by omega) (by omega) (by omega) (by omega) (by omega) (by omega) (by (try simp (disch := omega) only [sr_s, sr_a, sr_sr, u1_u1]); exact rfl) ?_ | refine k_if (by (try simp (disch := omega) only [w32_id]); exact Iff.rfl) (fun c => ?_) (fun c => ?_))
          refine k_bd (X11_asks_2 hG hn c3) (k_ifT (by decide) ?_)
          exact e_rref hG (rQ.refl h2.2.2.1.2)
    · refine Both.go h0 (-1) 1 (by omega) (by omega) (by omega) ?_ (fun M2 h2 f => ?_)
      · repeat' (with_reducible first | refine k_gf (by first | assumption | omega) (by first | assumption | ((try simp (disch := omega) only [sr_s, sr_a, sr_sr, u1_s, u1_k]); exact rfl)) ?_ | refine k_gr (by first | assumption | omega) (by first | assumption | ((try simp (disch := omega) only [sr_s, sr_a, sr_sr, u1_s, u1_k]); exact rfl)) (by omega) ?_ | refine k_ald (by first | assumption | omega) (by first | assumption | exact rfl) (by omega) (by omega) (by omega) (by first | assumption | ((try simp (disch := omega) only [sr_s, sr_a, sr_sr, u1_s, u1_k]); exact rfl)) ?_ | refine k_eq (X9_isTown_T h0 ht c) ?_ | refine k_eq (X9_isPlace_F h0 hp c2) ?_ | refine k_ifT (by first | (simp (disch := omega) only [w32_id]; first | done | omega) | omega) ?_ | refine k_ifF (by first | (simp (disch := omega) only [w32_id]; first | done | omega) | omega) ?_ | refine k_pf (by first | assumption | omega) (by (try simp (disch := omega) only [sr_s, sr_a, sr_sr, u1_u1]); exact rfl) ?_ | refine k_ast (by first | assumption | omega) (by first | assumption | exact rfl) (by omega) (by omega) (by omega) (by (try simp (disch := omega) only [sr_s, sr_a, sr_sr, u1_u1]); exact rfl) ?_ | refine k_irm (by omega) (by omega) (by omega) (by omega) ?_ | refine k_idv (by omega) (by omega) (by omega) (by omega) ?_ | refine k_tk (by first | assumption | omega) ?_ | refine k_rp (by omega) ?_ | refine k_aldR (by first | assumption | omega) (by first | assumption | exact rfl) (by omega) (by omega) (by omega) (by first | assumption | ((try simp (disch := omega) only [sr_s, sr_a, sr_sr, u1_s, u1_k]); exact rfl)) (by omega) ?_ | refine k_astR (by first | assumption | omega) (by first | assumption | exact rfl) (by omega) (by omega) (by omega) (by first | assumption | omega) (by (try simp (disch := omega) only [sr_s, sr_a, sr_sr, u1_u1]); exact rfl) ?_ | refine k_pz (by first | assumption | omega) (by omega) (by (try simp (disch := omega) only [sr_s, sr_a, sr_sr, u1_u1]); exact rfl) ?_ | refine k_alen (by first | assumption | omega) (by first | assumption | exact rfl) ?_ | refine k_cpy (by first | assumption | omega) (by first | assumption | omega) (by first | assumption | exact rfl) (by first | assumption | exact rfl) (by omega) (by omega) (by omega) (by omega) (by omega) (by omega) (by omega) (by omega) (by (try simp (disch := omega) only [sr_s, sr_a, sr_sr, u1_u1]); exact rfl) ?_ | refine k_if (by (try simp (disch := omega) only [w32_id]); exact Iff.rfl) (fun c => ?_) (fun c => ?_))
        exact e_ref hG (cQ.refl h0.2.1)
      · rw [← f 24 (by omega)] at c2
        have hnp := X11_isPlace_F h2 ht hp (fun z => c2 z.2)
        repeat' (with_reducible first | refine k_gf (by first | assumption | omega) (by first | assumption | ((try simp (disch := omega) only [sr_s, sr_a, sr_sr, u1_s, u1_k]); exact rfl)) ?_ | refine k_gr (by first | assumption | omega) (by first | assumption | ((try simp (disch := omega) only [sr_s, sr_a, sr_sr, u1_s, u1_k]); exact rfl)) (by omega) ?_ | refine k_ald (by first | assumption | omega) (by first | assumption | exact rfl) (by omega) (by omega) (by omega) (by first | assumption | ((try simp (disch := omega) only [sr_s, sr_a, sr_sr, u1_s, u1_k]); exact rfl)) ?_ | refine k_eq (hnp) ?_ | refine k_ifT (by first | (simp (disch := omega) only [w32_id]; first | done | omega) | omega) ?_ | refine k_ifF (by first | (simp (disch := omega) only [w32_id]; first | done | omega) | omega) ?_ | refine k_pf (by first | assumption | omega) (by (try simp (disch := omega) only [sr_s, sr_a, sr_sr, u1_u1]); exact rfl) ?_ | refine k_ast (by first | assumption | omega) (by first | assumption | exact rfl) (by omega) (by omega) (by omega) (by (try simp (disch := omega) only [sr_s, sr_a, sr_sr, u1_u1]); exact rfl) ?_ | refine k_irm (by omega) (by omega) (by omega) (by omega) ?_ | refine k_idv (by omega) (by omega) (by omega) (by omega) ?_ | refine k_tk (by first | assumption | omega) ?_ | refine k_rp (by omega) ?_ | refine k_aldR (by first | assumption | omega) (by first | assumption | exact rfl) (by omega) (by omega) (by omega) (by first | assumption | ((try simp (disch := omega) only [sr_s, sr_a, sr_sr, u1_s, u1_k]); exact rfl)) (by omega) ?_ | refine k_astR (by first | assumption | omega) (by first | assumption | exact rfl) (by omega) (by omega) (by omega) (by first | assumption | omega) (by (try simp (disch := omega) only [sr_s, sr_a, sr_sr, u1_u1]); exact rfl) ?_ | refine k_pz (by first | assumption | omega) (by omega) (by (try simp (disch := omega) only [sr_s, sr_a, sr_sr, u1_u1]); exact rfl) ?_ | refine k_alen (by first | assumption | omega) (by first | assumption | exact rfl) ?_ | refine k_cpy (by first | assumption | omega) (by first | assumption | omega) (by first | assumption | exact rfl) (by first | assumption | exact rfl) (by omega) (by omega) (by omega) (by omega) (by omega) (by omega) (by omega) (by omega) (by (try simp (disch := omega) only [sr_s, sr_a, sr_sr, u1_u1]); exact rfl) ?_ | refine k_if (by (try simp (disch := omega) only [w32_id]); exact Iff.rfl) (fun c => ?_) (fun c => ?_))
        refine k_bd (X11_asks_1 hG) (k_ifT (by decide) ?_)
        exact e_rref hG (rQ.refl h2.2.2.1.2)
  · refine Both.go h0 (-1) 1 (by omega) (by omega) (by omega) ?_ (fun M2 h2 f => ?_)
    · repeat' (with_reducible first | refine k_gf (by first | assumption | omega) (by first | assumption | ((try simp (disch := omega) only [sr_s, sr_a, sr_sr, u1_s, u1_k]); exact rfl)) ?_ | refine k_gr (by first | assumption | omega) (by first | assumption | ((try simp (disch := omega) only [sr_s, sr_a, sr_sr, u1_s, u1_k]); exact rfl)) (by omega) ?_ | refine k_ald (by first | assumption | omega) (by first | assumption | exact rfl) (by omega) (by omega) (by omega) (by first | assumption | ((try simp (disch := omega) only [sr_s, sr_a, sr_sr, u1_s, u1_k]); exact rfl)) ?_ | refine k_eq (X9_isTown_F h0 ht c) ?_ | refine k_ifT (by first | (simp (disch := omega) only [w32_id]; first | done | omega) | omega) ?_ | refine k_ifF (by first | (simp (disch := omega) only [w32_id]; first | done | omega) | omega) ?_ | refine k_pf (by first | assumption | omega) (by (try simp (disch := omega) only [sr_s, sr_a, sr_sr, u1_u1]); exact rfl) ?_ | refine k_ast (by first | assumption | omega) (by first | assumption | exact rfl) (by omega) (by omega) (by omega) (by (try simp (disch := omega) only [sr_s, sr_a, sr_sr, u1_u1]); exact rfl) ?_ | refine k_irm (by omega) (by omega) (by omega) (by omega) ?_ | refine k_idv (by omega) (by omega) (by omega) (by omega) ?_ | refine k_tk (by first | assumption | omega) ?_ | refine k_rp (by omega) ?_ | refine k_aldR (by first | assumption | omega) (by first | assumption | exact rfl) (by omega) (by omega) (by omega) (by first | assumption | ((try simp (disch := omega) only [sr_s, sr_a, sr_sr, u1_s, u1_k]); exact rfl)) (by omega) ?_ | refine k_astR (by first | assumption | omega) (by first | assumption | exact rfl) (by omega) (by omega) (by omega) (by first | assumption | omega) (by (try simp (disch := omega) only [sr_s, sr_a, sr_sr, u1_u1]); exact rfl) ?_ | refine k_pz (by first | assumption | omega) (by omega) (by (try simp (disch := omega) only [sr_s, sr_a, sr_sr, u1_u1]); exact rfl) ?_ | refine k_alen (by first | assumption | omega) (by first | assumption | exact rfl) ?_ | refine k_cpy (by first | assumption | omega) (by first | assumption | omega) (by first | assumption | exact rfl) (by first | assumption | exact rfl) (by omega) (by omega) (by omega) (by omega) (by omega) (by omega) (by omega) (by omega) (by (try simp (disch := omega) only [sr_s, sr_a, sr_sr, u1_u1]); exact rfl) ?_ | refine k_if (by (try simp (disch := omega) only [w32_id]); exact Iff.rfl) (fun c => ?_) (fun c => ?_))
      exact e_ref hG (cQ.refl h0.2.1)
    · rw [← f 24 (by omega)] at c
      have hnp := X11_isPlace_F h2 ht hp (fun z => c z.1)
      repeat' (with_reducible first | refine k_gf (by first | assumption | omega) (by first | assumption | ((try simp (disch := omega) only [sr_s, sr_a, sr_sr, u1_s, u1_k]); exact rfl)) ?_ | refine k_gr (by first | assumption | omega) (by first | assumption | ((try simp (disch := omega) only [sr_s, sr_a, sr_sr, u1_s, u1_k]); exact rfl)) (by omega) ?_ | refine k_ald (by first | assumption | omega) (by first | assumption | exact rfl) (by omega) (by omega) (by omega) (by first | assumption | ((try simp (disch := omega) only [sr_s, sr_a, sr_sr, u1_s, u1_k]); exact rfl)) ?_ | refine k_eq (hnp) ?_ | refine k_ifT (by first | (simp (disch := omega) only [w32_id]; first | done | omega) | omega) ?_ | refine k_ifF (by first | (simp (disch := omega) only [w32_id]; first | done | omega) | omega) ?_ | refine k_pf (by first | assumption | omega) (by (try simp (disch := omega) only [sr_s, sr_a, sr_sr, u1_u1]); exact rfl) ?_ | refine k_ast (by first | assumption | omega) (by first | assumption | exact rfl) (by omega) (by omega) (by omega) (by (try simp (disch := omega) only [sr_s, sr_a, sr_sr, u1_u1]); exact rfl) ?_ | refine k_irm (by omega) (by omega) (by omega) (by omega) ?_ | refine k_idv (by omega) (by omega) (by omega) (by omega) ?_ | refine k_tk (by first | assumption | omega) ?_ | refine k_rp (by omega) ?_ | refine k_aldR (by first | assumption | omega) (by first | assumption | exact rfl) (by omega) (by omega) (by omega) (by first | assumption | ((try simp (disch := omega) only [sr_s, sr_a, sr_sr, u1_s, u1_k]); exact rfl)) (by omega) ?_ | refine k_astR (by first | assumption | omega) (by first | assumption | exact rfl) (by omega) (by omega) (by omega) (by first | assumption | omega) (by (try simp (disch := omega) only [sr_s, sr_a, sr_sr, u1_u1]); exact rfl) ?_ | refine k_pz (by first | assumption | omega) (by omega) (by (try simp (disch := omega) only [sr_s, sr_a, sr_sr, u1_u1]); exact rfl) ?_ | refine k_alen (by first | assumption | omega) (by first | assumption | exact rfl) ?_ | refine k_cpy (by first | assumption | omega) (by first | assumption | omega) (by first | assumption | exact rfl) (by first | assumption | exact rfl) (by omega) (by omega) (by omega) (by omega) (by omega) (by omega) (by omega) (by omega) (by (try simp (disch := omega) only [sr_s, sr_a, sr_sr, u1_u1]); exact rfl) ?_ | refine k_if (by (try simp (disch := omega) only [w32_id]); exact Iff.rfl) (fun c => ?_) (fun c => ?_))
      refine k_bd (X11_asks_1 hG) (k_ifT (by decide) ?_)
      exact e_rref hG (rQ.refl h2.2.2.1.2)
end BL
