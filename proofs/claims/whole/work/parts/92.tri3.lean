/-! trials: build and having -/
section T3
variable {M M1 : Int → Int → Int} {G : GG} {mk n b t s q : Int} {ceT : Int → Int → Int} {A B : Int}
def twoR (A B : Int) : Prop := A = 112 ∧ B = 113 ∨ A = 113 ∧ B = 112
def hid (P : Prop) : Prop := P
theorem hid.put {P : Prop} (h : P) : hid P := h
theorem hid.get {P : Prop} (h : hid P) : P := h
theorem ovR_out {f : Int → Int} {q T m j : Int} (h : j < 3 * q ∨ 3 * q + 3 ≤ j) : ovR f q T m 3 j = f j := by unfold ovR; rw [if_neg (by omega)]
theorem cp3_out {f g : Int → Int} {S q j : Int} (h : j < 3 * q ∨ 3 * q + 3 ≤ j) : cp1 g f (3 * S) (3 * q) 3 j = g j := by unfold cp1; rw [if_neg (by omega)]
theorem cp3_in {f g : Int → Int} {S q c : Int} (c0 : 0 ≤ c) (c3 : c < 3) : cp1 g f (3 * S) (3 * q) 3 (3 * q + c) = f (3 * S + c) := by unfold cp1; rw [if_pos (by omega), show 3 * S + (3 * q + c - 3 * q) = 3 * S + c by omega]
theorem k_cp3 {β : Type} {f : Hp → Option β} {P : β → Prop} {S : Int} (kA : G.1 A = 2) (lA : G.2.1 A = 108) (kB : G.1 B = 2) (lB : G.2.1 B = 108) (S0 : 0 ≤ S) (S1 : S < 36) (q0 : 0 ≤ q) (q1 : q < 36) (h : Ok (f (sr M B (cp1 (M B) (M A) (3 * S) (3 * q) 3), G)) P) : Ok ((cpy 2 (M, G) A (3 * S) B (3 * q) 3).bind f) P := k_cpy kA kB lA lB (by omega) (by omega) (by omega) (by omega) (by omega) (by omega) (by omega) (by omega) rfl h
/-- one place of the next map -/
theorem X7_place_ok (hP : chP M G 24 mk n b t) (hmk : mk ≤ 6) (hp111 : pr111 (M 111)) (pa : M 111 1 = A) (pb : M 111 2 = B) (hAB : twoR A B) (hce : ∀ tr i, 0 ≤ ceT tr i ∧ ceT tr i < mk) (s0 : b < s) (s1 : s ≤ n) (hI : trI M (M A) ceT (s - 1)) (hin : inV (M 24 0) (M 24 1) q) (hbt : bt (M 105 s) q = true) (hst : M 27 (4 * M 100 s) = 6 → ∀ x, 0 ≤ x → x < 36 → bt (M 105 (s - 1)) x = true → ∀ tr, 0 ≤ tr → tr < 64 → bt (M 114 x) tr = decide (tV M (ceT tr) (s - 1) x = M 27 (4 * M 100 s + 1))) {i : Int} {P : ((Hp × Int) ⊕ Hp) → Prop} (hk : ∀ M1, (∀ a, a ≠ B → M1 a = M a) → (∀ j, j < 3 * q ∨ 3 * q + 3 ≤ j → M1 B j = M B j) → (∀ tr, 0 ≤ tr → tr < 64 → enc (M1 B) q tr (tV M (ceT tr) s q)) → P (.inl ((M1, G), i + 1))) : Ok ((M_X0_source (M, G) 99 s q).bind fun x20 =>
    if w32 x20 = (-1) then (
      (gr 17 (M, G) 111 2).bind fun x23 =>
      (M_X7_overlay (M, G) x23 q (-1) (M 27 (4 * M 100 s + 1))).bind fun h =>
      M_X7_build_p145 h 111 s (4 * M 100 s) (M 27 (4 * M 100 s)) (M 27 (4 * M 100 s + 1)) i q x20
    ) else (
      (gr 17 (M, G) 111 1).bind fun x21 =>
      (gr 17 (M, G) 111 2).bind fun x22 =>
      (cpy 2 (M, G) x21 (3 * x20) x22 (3 * q) 3).bind fun h =>
      M_X7_build_p145 h 111 s (4 * M 100 s) (M 27 (4 * M 100 s)) (M 27 (4 * M 100 s + 1)) i q x20
    )) P := by
  have hP' := hP
  have hBn : ∀ a, (a < 112 ∨ 113 < a) → a ≠ B := fun a ha => by unfold twoR at hAB; omega
  obtain ⟨⟨hG, ⟨hp99, hd, hmp⟩, ⟨hg, hm, hwf, hw99⟩, ⟨l0, l1', l2, b0, bn, n6, ln, lt, lc, -⟩, hD⟩, -, hc, -⟩ := hP
  obtain ⟨a1, a2, b1, b2, x1, x6, k2, k6, hco, her, het, -⟩ := hwf
  have ht := lt s (by omega) s1
  have hes := het _ ht.1 ht.2
  have hes : errB (M 24 0) (M 24 1) mk (M 27 (4 * M 100 s)) (M 27 (4 * M 100 s + 1)) (M 27 (4 * M 100 s + 2)) (M 27 (4 * M 100 s + 3)) := hes
  have hq36 := inV_36 a2 b2 hin
  have hcl := hc s s0 s1 q hq36.1 hq36.2 hbt
  have hA : A = 112 ∨ A = 113 := by unfold twoR at hAB; omega
  have hB : B = 112 ∨ B = 113 := by unfold twoR at hAB; omega
  have hne : A ≠ B := by unfold twoR at hAB; omega
  have kA : G.1 A = 2 := by rcases hA with rfl | rfl; exact gk_112 hG; exact gk_113 hG
  have lA : G.2.1 A = 108 := by rcases hA with rfl | rfl; exact gl_112 hG; exact gl_113 hG
  have kB : G.1 B = 2 := by rcases hB with rfl | rfl; exact gk_112 hG; exact gk_113 hG
  have lB : G.2.1 B = 108 := by rcases hB with rfl | rfl; exact gl_112 hG; exact gl_113 hG
  have k24 := gk_24 hG
  have k27 := gk_27 hG
  have l27 := gl_27 hG
  have k99 := gk_99 hG
  have k111 := gk_111 hG
  have p0 := pr111.p0 hp111
  have p3 := pr111.p3 hp111
  have hsrc := X0_source_ok hP'.1 s0 s1 hin
  have hsi := srcC_in (dr := M 101 s) a1 a2 b1 b2 hes hin
  have hval : ∀ tr, tV M (ceT tr) s q = mkV (M 24 0) (M 24 1) (M 27 (4 * M 100 s)) (M 27 (4 * M 100 s + 1)) (M 27 (4 * M 100 s + 2)) (M 27 (4 * M 100 s + 3)) (fun x => tV M (ceT tr) (s - 1) x) q (M 101 s) := fun tr => tV_step hP' s0 s1 hin
  have hb8 : ∀ tr x, 0 ≤ tV M (ceT tr) (s - 1) x ∧ tV M (ceT tr) (s - 1) x < 8 := fun tr x => by have := tV_b hP' (hce tr) (s - 1) x; omega
  have m5 : M 24 5 = 27 := hm.2.2
  have hcl1 : hid (srcC (M 24 0) (M 24 1) (M 27 (4 * M 100 s)) (M 27 (4 * M 100 s + 1)) (M 27 (4 * M 100 s + 2)) (M 27 (4 * M 100 s + 3)) q (M 101 s) ≠ -1 → bt (M 105 (s - 1)) (srcC (M 24 0) (M 24 1) (M 27 (4 * M 100 s)) (M 27 (4 * M 100 s + 1)) (M 27 (4 * M 100 s + 2)) (M 27 (4 * M 100 s + 3)) q (M 101 s)) = true) := hid.put hcl.1
  have hcl2 : hid (M 27 (4 * M 100 s) = 6 → ∀ d, 0 ≤ d → d < 4 → bsV (M 24 0) (M 24 1) q d ≠ -1 → bt (M 105 (s - 1)) (bsV (M 24 0) (M 24 1) q d) = true) := hid.put hcl.2
  have hst : hid (M 27 (4 * M 100 s) = 6 → ∀ x, 0 ≤ x → x < 36 → bt (M 105 (s - 1)) x = true → ∀ tr, 0 ≤ tr → tr < 64 → bt (M 114 x) tr = decide (tV M (ceT tr) (s - 1) x = M 27 (4 * M 100 s + 1))) := hid.put hst
  have hsrc : M_X0_source (M, G) 99 s q = some (srcC (M 24 0) (M 24 1) (M 27 (4 * M 100 s)) (M 27 (4 * M 100 s + 1)) (M 27 (4 * M 100 s + 2)) (M 27 (4 * M 100 s + 3)) q (M 101 s)) := hsrc
  have hsC : hid ((M 27 (4 * M 100 s) = 7 ∨ M 27 (4 * M 100 s) = 6) → srcC (M 24 0) (M 24 1) (M 27 (4 * M 100 s)) (M 27 (4 * M 100 s + 1)) (M 27 (4 * M 100 s + 2)) (M 27 (4 * M 100 s + 3)) q (M 101 s) = q) := hid.put (fun h => by unfold srcC; rw [if_pos h])
  have hsn : hid (srcC (M 24 0) (M 24 1) (M 27 (4 * M 100 s)) (M 27 (4 * M 100 s + 1)) (M 27 (4 * M 100 s + 2)) (M 27 (4 * M 100 s + 3)) q (M 101 s) = -1 → M 27 (4 * M 100 s) = 1 ∨ M 27 (4 * M 100 s) = 9) := hid.put (fun h => by
    by_cases z : M 27 (4 * M 100 s) = 7 ∨ M 27 (4 * M 100 s) = 6
    · rw [hsC.get z] at h; omega
    · unfold srcC at h
      rw [if_neg z] at h
      have := srcV_ne a1 a2 b1 b2 hes hin h
      omega)
  have hval2 := fun tr => (hval tr).trans (mkV_tri (m := fun x => tV M (ceT tr) (s - 1) x) hq36.1 a2 hin)
  clear hval hcl
  generalize srcC (M 24 0) (M 24 1) (M 27 (4 * M 100 s)) (M 27 (4 * M 100 s + 1)) (M 27 (4 * M 100 s + 2)) (M 27 (4 * M 100 s + 3)) q (M 101 s) = S at *
  have hes0 : 0 ≤ M 27 (4 * M 100 s) ∧ M 27 (4 * M 100 s) ≤ 10 := ⟨hes.1, hes.2.1⟩
  have fm : hid (M 27 (4 * M 100 s) = 1 ∨ M 27 (4 * M 100 s) = 5 ∨ M 27 (4 * M 100 s) = 6 ∨ M 27 (4 * M 100 s) = 7 ∨ M 27 (4 * M 100 s) = 9 → 0 ≤ M 27 (4 * M 100 s + 1) ∧ M 27 (4 * M 100 s + 1) < mk) := hid.put hes.2.2.2.2.2.2.2.2.1
  have f5 : hid (M 27 (4 * M 100 s) = 5 → 0 ≤ M 27 (4 * M 100 s + 2) ∧ M 27 (4 * M 100 s + 2) < mk) := hid.put hes.2.2.2.2.2.2.2.2.2.2.2.2.1
  clear hes hco her het hd hmp lt hc hD lc
  refine k_eq hsrc ?_
  by_cases hS : S = -1
  · have h19 := hsn.get hS
    have hem := fm.get (by omega)
    refine k_ifT (by rw [hS]; decide) (k_gr k111 pb (by omega) (k_eq (X7_overlay_ok kB lB hq36.1 hq36.2 hem.1 (by omega)) ?_))
    unfold M_X7_build_p145 M_X7_build_p257
    refine k_ifF (by rw [w32_id (by omega) (by omega)]; omega) (k_ifF (by rw [w32_id (by omega) (by omega)]; omega) (k_ifF (by rw [w32_id (by omega) (by omega)]; omega) ?_))
    refine Ok.ret (hk _ (fun a ha => sr_a _ _ ha) (fun j hj => by rw [sr_s, ovR_out hj]) (fun tr t0 t1 => ?_))
    rw [sr_s, hval2 tr, if_neg (by omega), if_neg (by omega), if_pos hS]
    exact enc_ov t0 t1 (fun z => by rw [bt_m1 t0 t1] at z; cases z) (fun _ => rfl)
  · have hSin := hsi.resolve_left hS
    have hS36 := inV_36 a2 b2 hSin
    have hSbt := hcl1.get hS
    have hSe : ∀ tr, 0 ≤ tr → tr < 64 → enc (M A) S tr (tV M (ceT tr) (s - 1) S) := fun tr t0 t1 => hI S hS36.1 hS36.2 hSbt tr t0 t1
    refine k_ifF (by rw [w32_id (by omega) (by omega)]; exact hS) (k_gr k111 pa (by omega) (k_gr k111 pb (by omega) ?_))
    refine k_cp3 kA lA kB lB hS36.1 hS36.2 hq36.1 hq36.2 ?_
    generalize hN : sr M B (cp1 (M B) (M A) (3 * S) (3 * q) 3) = N
    have n : ∀ a, a ≠ B → N a = M a := fun a ha => by rw [← hN, sr_a _ _ ha]
    have nBo : ∀ j, j < 3 * q ∨ 3 * q + 3 ≤ j → N B j = M B j := fun j hj => by rw [← hN, sr_s, cp3_out hj]
    have nBe : ∀ tr, 0 ≤ tr → tr < 64 → enc (N B) q tr (tV M (ceT tr) (s - 1) S) := fun tr t0 t1 c c0 c3 => by
      rw [← hN, sr_s, cp3_in c0 c3]
      exact hSe tr t0 t1 c c0 c3
    have nA : N A = M A := n A hne
    have n111 : N 111 = M 111 := n 111 (hBn 111 (by decide))
    have n99 : N 99 = M 99 := n 99 (hBn 99 (by decide))
    have n24 : N 24 = M 24 := n 24 (hBn 24 (by decide))
    have n27 : N 27 = M 27 := n 27 (hBn 27 (by decide))
    clear hN
    unfold M_X7_build_p145 M_X7_build_p257
    by_cases z5 : M 27 (4 * M 100 s) = 5
    · have hem := fm.get (by omega)
      have hem2 := f5.get z5
      refine k_ifT (by rw [z5]; decide) ?_
      repeat' (with_reducible first | refine k_gf (by first | assumption | omega) (by first | assumption | ((try simp (disch := omega) only [sr_s, sr_a, sr_sr, u1_s, u1_k, n111, n99, n24, n27, p0, l0, m5, pa, pb]); exact rfl)) ?_ | refine k_gr (by first | assumption | omega) (by first | assumption | ((try simp (disch := omega) only [sr_s, sr_a, sr_sr, u1_s, u1_k, n111, n99, n24, n27, p0, l0, m5, pa, pb]); exact rfl)) (by omega) ?_ | refine k_ald (by first | assumption | omega) (by first | assumption | exact rfl) (by omega) (by omega) (by omega) (by first | assumption | ((try simp (disch := omega) only [sr_s, sr_a, sr_sr, u1_s, u1_k, n111, n99, n24, n27, p0, l0, m5, pa, pb]); exact rfl)) ?_ | refine k_ifT (by first | (simp (disch := omega) only [w32_id]; first | done | omega) | omega) ?_ | refine k_ifF (by first | (simp (disch := omega) only [w32_id]; first | done | omega) | omega) ?_ | refine k_pf (by first | assumption | omega) (by (try simp (disch := omega) only [sr_s, sr_a, sr_sr, u1_u1, n111, n99, n24, n27, p0, l0, m5, pa, pb]); exact rfl) ?_ | refine k_ast (by first | assumption | omega) (by first | assumption | exact rfl) (by omega) (by omega) (by omega) (by (try simp (disch := omega) only [sr_s, sr_a, sr_sr, u1_u1, n111, n99, n24, n27, p0, l0, m5, pa, pb]); exact rfl) ?_ | refine k_irm (by omega) (by omega) (by omega) (by omega) ?_ | refine k_idv (by omega) (by omega) (by omega) (by omega) ?_ | refine k_tk (by first | assumption | omega) ?_ | refine k_rp (by omega) ?_ | refine k_aldR (by first | assumption | omega) (by first | assumption | exact rfl) (by omega) (by omega) (by omega) (by first | assumption | ((try simp (disch := omega) only [sr_s, sr_a, sr_sr, u1_s, u1_k, n111, n99, n24, n27, p0, l0, m5, pa, pb]); exact rfl)) (by omega) ?_ | refine k_astR (by first | assumption | omega) (by first | assumption | exact rfl) (by omega) (by omega) (by omega) (by first | assumption | omega) (by (try simp (disch := omega) only [sr_s, sr_a, sr_sr, u1_u1, n111, n99, n24, n27, p0, l0, m5, pa, pb]); exact rfl) ?_ | refine k_pz (by first | assumption | omega) (by omega) (by (try simp (disch := omega) only [sr_s, sr_a, sr_sr, u1_u1, n111, n99, n24, n27, p0, l0, m5, pa, pb]); exact rfl) ?_ | refine k_alen (by first | assumption | omega) (by first | assumption | exact rfl) ?_ | refine k_cpy (by first | assumption | omega) (by first | assumption | omega) (by first | assumption | exact rfl) (by first | assumption | exact rfl) (by omega) (by omega) (by omega) (by omega) (by omega) (by omega) (by omega) (by omega) (by (try simp (disch := omega) only [sr_s, sr_a, sr_sr, u1_u1, n111, n99, n24, n27, p0, l0, m5, pa, pb]); exact rfl) ?_)
      have hw1 := X7_with_ok (M := N) (a := A) (q := S) (mk := M 27 (4 * M 100 s + 1)) hG (by rw [n111]; exact pa) hA hS36.1 hS36.2 hem.1 (by omega)
      rw [nA] at hw1
      refine Ok.bind hw1 ?_
      intro X hX
      refine k_eq (X7_overlay_ok kB lB hq36.1 hq36.2 hem2.1 (by omega)) ?_
      generalize hN2 : sr N B (ovR (N B) q X (M 27 (4 * M 100 s + 2)) 3) = N2
      have n2 : ∀ a, a ≠ B → N2 a = N a := fun a ha => by rw [← hN2, sr_a _ _ ha]
      have n2B : N2 B = ovR (N B) q X (M 27 (4 * M 100 s + 2)) 3 := by rw [← hN2, sr_s]
      have n2A : N2 A = M A := (n2 A hne).trans nA
      have n2111 : N2 111 = M 111 := (n2 111 (hBn 111 (by decide))).trans n111
      refine k_gr k111 (v := B) (by rw [n2111]; exact pb) (by omega) ?_
      have hw2 := X7_with_ok (M := N2) (a := A) (q := S) (mk := M 27 (4 * M 100 s + 2)) hG (by rw [n2111]; exact pa) hA hS36.1 hS36.2 hem2.1 (by omega)
      rw [n2A] at hw2
      refine Ok.bind hw2 ?_
      intro Y hY
      refine k_eq (X7_overlay_ok kB lB hq36.1 hq36.2 hem.1 (by omega)) ?_
      refine Ok.ret (hk _ (fun a ha => by rw [sr_a _ _ ha, n2 a ha, n a ha]) (fun j hj => ?_) (fun tr t0 t1 => ?_))
      · rw [sr_s, n2B, ovR_out hj, ovR_out hj]; exact nBo j hj
      · have hx := (hX tr t0 t1).trans (enc_w3 (hb8 tr S).1 (hb8 tr S).2 hem.1 (by omega) (hSe tr t0 t1))
        have hy := (hY tr t0 t1).trans (enc_w3 (hb8 tr S).1 (hb8 tr S).2 hem2.1 (by omega) (hSe tr t0 t1))
        rw [sr_s, n2B, hval2 tr, if_neg (by omega), if_neg (by omega), if_neg hS, if_pos z5]
        refine enc_ov t0 t1 (fun z => ?_) (fun z => ?_)
        · rw [hy] at z
          have z := of_decide_eq_false z
          refine enc_ov t0 t1 (fun w => ?_) (fun w => ?_)
          · rw [hx] at w
            have w := of_decide_eq_false w
            rw [if_neg w, if_neg z]
            exact nBe tr t0 t1
          · rw [hx] at w
            rw [if_pos (of_decide_eq_true w)]
        · rw [hy] at z
          have z := of_decide_eq_true z
          by_cases w : tV M (ceT tr) (s - 1) S = M 27 (4 * M 100 s + 1)
          · rw [if_pos w]; omega
          · rw [if_neg w, if_pos z]
    · refine k_ifF (by rw [w32_id (by omega) (by omega)]; exact z5) ?_
      by_cases z7 : M 27 (4 * M 100 s) = 7
      · have hem := fm.get (by omega)
        have hSq := hsC.get (Or.inl z7)
        refine k_ifT (by rw [z7]; decide) (k_gr k111 (v := B) (by rw [n111]; exact pb) (by omega) ?_)
        have hw1 := X7_with_ok (M := N) (a := A) (q := q) (mk := M 27 (4 * M 100 s + 1)) hG (by rw [n111]; exact pa) hA hq36.1 hq36.2 hem.1 (by omega)
        rw [nA] at hw1
        refine Ok.bind hw1 ?_
        intro X hX
        refine k_eq (X7_overlay_ok kB lB hq36.1 hq36.2 (by omega) (by omega)) ?_
        refine Ok.ret (hk _ (fun a ha => by rw [sr_a _ _ ha, n a ha]) (fun j hj => ?_) (fun tr t0 t1 => ?_))
        · rw [sr_s, ovR_out hj]; exact nBo j hj
        · rw [hSq] at hSe nBe
          have hx := (hX tr t0 t1).trans (enc_w3 (hb8 tr q).1 (hb8 tr q).2 hem.1 (by omega) (hSe tr t0 t1))
          rw [sr_s, hval2 tr, if_neg (by omega), if_pos z7]
          refine enc_ov t0 t1 (fun w => ?_) (fun w => ?_)
          · rw [hx] at w
            rw [if_neg (of_decide_eq_false w)]
            exact nBe tr t0 t1
          · rw [hx] at w
            rw [if_pos (of_decide_eq_true w)]
      · refine k_ifF (by rw [w32_id (by omega) (by omega)]; exact z7) ?_
        by_cases z6 : M 27 (4 * M 100 s) = 6
        · have hem := fm.get (by omega)
          have hSq := hsC.get (Or.inr z6)
          have hcl2 := hcl2.get z6
          have hst := hst.get z6
          rw [hSq] at hSbt hSe nBe
          refine k_ifT (by rw [z6]; decide) (k_gr k111 (v := B) (by rw [n111]; exact pb) (by omega) ?_)
          have hsa := X7_stainedAt_ok (M := N) (q := q) (chP_fr hP' (fun a ha => n a (hBn a (by omega)))) (by rw [n111]; exact hp111) (by rw [n24]; exact hin)
          rw [n24, n 114 (hBn 114 (by decide))] at hsa
          refine Ok.bind hsa ?_
          intro X hX
          refine k_eq (X7_overlay_ok kB lB hq36.1 hq36.2 hem.1 (by omega)) ?_
          refine Ok.ret (hk _ (fun a ha => by rw [sr_a _ _ ha, n a ha]) (fun j hj => ?_) (fun tr t0 t1 => ?_))
          · rw [sr_s, ovR_out hj]; exact nBo j hj
          · have hx := hX tr t0 t1
            have hd4 : ∀ d, 0 ≤ d → d < 4 → (decide (bsV (M 24 0) (M 24 1) q d ≠ -1) && bt (M 114 (bsV (M 24 0) (M 24 1) q d)) tr) = decide (bsV (M 24 0) (M 24 1) q d ≠ -1 ∧ tV M (ceT tr) (s - 1) (bsV (M 24 0) (M 24 1) q d) = M 27 (4 * M 100 s + 1)) := fun d d0 d4 => by
              by_cases w : bsV (M 24 0) (M 24 1) q d ≠ -1
              · have hdi := inV_36 a2 b2 ((bsV_in (d := d) a2 hin).resolve_left w)
                rw [hst _ hdi.1 hdi.2 (hcl2 d d0 d4 w) tr t0 t1, decide_eq_true w, Bool.true_and]
                exact decide_eq_decide.mpr ⟨fun z => ⟨w, z⟩, fun z => z.2⟩
              · rw [decide_eq_false w, Bool.false_and]
                exact (decide_eq_false (fun z => w z.1)).symm
            rw [hst q hq36.1 hq36.2 hSbt tr t0 t1, hd4 0 (by omega) (by omega), hd4 1 (by omega) (by omega), hd4 2 (by omega) (by omega), hd4 3 (by omega) (by omega)] at hx
            rw [sr_s, hval2 tr, if_pos z6]
            refine enc_ov t0 t1 (fun w => ?_) (fun w => ?_)
            · rw [hx] at w
              simp only [Bool.or_eq_false_iff, decide_eq_false_iff_not] at w
              obtain ⟨⟨⟨⟨w0, w1⟩, w2⟩, w3⟩, w4⟩ := w
              rw [if_neg (by rintro (z | z | z | z | z); exact w0 z; exact w1 z; exact w2 z; exact w3 z; exact w4 z)]
              exact nBe tr t0 t1
            · rw [hx] at w
              simp only [Bool.or_eq_true, decide_eq_true_eq] at w
              rw [if_pos (by rcases w with (((w | w) | w) | w) | w; exact Or.inl w; exact Or.inr (Or.inl w); exact Or.inr (Or.inr (Or.inl w)); exact Or.inr (Or.inr (Or.inr (Or.inl w))); exact Or.inr (Or.inr (Or.inr (Or.inr w))))]
        · refine k_ifF (by rw [w32_id (by omega) (by omega)]; exact z6) ?_
          refine Ok.ret (hk N n nBo (fun tr t0 t1 => ?_))
          rw [hval2 tr, if_neg z6, if_neg z7, if_neg hS, if_neg z5]
          exact nBe tr t0 t1
end T3
