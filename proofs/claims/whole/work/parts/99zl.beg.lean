/-! both readers' beginning -/
section BG
variable {M Mc Mr A : Int → Int → Int} {G Gc Gr : GG} {R e n sp rd td r : Int} {f : Int → Int}
/-- the class's ring, cleared -/
theorem X5_clear_ok (hG : gAll G) (hs : sp = 2 ∨ sp = 13) (h : shR M sp) (hw : shW M (sp + 1)) : Ok (M_X5_clear (M, G) sp) (fun q => ∃ N, q = (N, G) ∧ (∀ a, ¬ (sp ≤ a ∧ a ≤ sp + 10) → N a = M a) ∧ ∀ (Mr : Int → Int → Int) (rd : Int), pRg (Mr rd) rd → (∀ j, 0 ≤ j → j ≤ 6 → Mr rd j = 0) → (∀ j, Mr (rd + 1) j = 0) → LDv sp rd 0 0 0 0 0 0 N Mr) := by
  obtain ⟨g0, gw, g6k, g6l, -⟩ := (⟨by rcases hs with rfl | rfl; exact gk_2 hG; exact gk_13 hG, by rcases hs with rfl | rfl; exact gW_3 hG; exact gW_14 hG, by rcases hs with rfl | rfl; exact gk_8 hG; exact gk_19 hG, by rcases hs with rfl | rfl; exact gl_8 hG; exact gl_19 hG, trivial⟩ : G.1 sp = 15 ∧ gW G (sp + 1) ∧ G.1 (sp + 6) = 1 ∧ G.2.1 (sp + 6) = 20 ∧ True)
  obtain ⟨s1, s2, s3, s5, s6, s7, s8, sz⟩ := h
  obtain ⟨⟨w3, w4, w5⟩, wz⟩ := hw
  unfold M_X5_clear
  refine k_tk g0 ?_
  refine k_pf g0 rfl ?_
  refine k_gr g0 (v := sp + 1) (by rw [sr_s, u1_k _ _ (by omega)]; exact s1) (by omega) ?_
  refine k_eq (X8_clear_ok gw (by unfold mW; rw [sr_a _ _ (by omega)]; exact ⟨w3, w4, w5⟩) (by unfold zoW at *; rw [sr_a _ _ (by omega), sr_a _ _ (by omega), sr_a _ _ (by omega)]; exact wz)) ?_
  have q3 : clM (sr M sp (u1 (M sp) 0 0)) (sp + 1) sp = u1 (M sp) 0 0 := by
    unfold clM
    rw [sr_a _ _ (by omega), sr_a _ _ (by omega), sr_a _ _ (by omega), sr_a _ _ (by omega), sr_s]
  refine k_gr g0 (v := sp + 6) (by rw [q3, u1_k _ _ (by omega)]; exact s3) (by omega) ?_
  refine k_eq (J7_fill_ok g6k g6l (by omega) (by omega)) ?_
  refine k_pf g0 rfl ?_
  refine k_pf g0 rfl ?_
  refine Ok.ret ⟨_, rfl, ?_, ?_⟩
  · intro a ha
    unfold clM
    simp (disch := omega) only [sr_a]
  · intro Mr rd hp hz0 hz1
    have q6 : clM (sr M sp (u1 (M sp) 0 0)) (sp + 1) (sp + 6) = M (sp + 6) := by
      unfold clM
      simp (disch := omega) only [sr_a]
    have e0 : ∀ j, sr (sr (sr (clM (sr M sp (u1 (M sp) 0 0)) (sp + 1)) (sp + 6) (fun j => if 0 ≤ j ∧ j < 20 then -2 else clM (sr M sp (u1 (M sp) 0 0)) (sp + 1) (sp + 6) j)) sp (u1 ((sr (clM (sr M sp (u1 (M sp) 0 0)) (sp + 1)) (sp + 6) (fun j => if 0 ≤ j ∧ j < 20 then -2 else clM (sr M sp (u1 (M sp) 0 0)) (sp + 1) (sp + 6) j)) sp) 4 0)) sp (u1 ((sr (sr (clM (sr M sp (u1 (M sp) 0 0)) (sp + 1)) (sp + 6) (fun j => if 0 ≤ j ∧ j < 20 then -2 else clM (sr M sp (u1 (M sp) 0 0)) (sp + 1) (sp + 6) j)) sp (u1 ((sr (clM (sr M sp (u1 (M sp) 0 0)) (sp + 1)) (sp + 6) (fun j => if 0 ≤ j ∧ j < 20 then -2 else clM (sr M sp (u1 (M sp) 0 0)) (sp + 1) (sp + 6) j)) sp) 4 0)) sp) 9 0) sp j = if j = 0 ∨ j = 4 ∨ j = 9 then 0 else M sp j := fun j => by
      rw [sr_s, sr_s, sr_a _ _ (by omega), q3]
      unfold u1
      (repeat' split) <;> first | rfl | omega
    have ea : ∀ a, a ≠ sp → a ≠ sp + 6 → sr (sr (sr (clM (sr M sp (u1 (M sp) 0 0)) (sp + 1)) (sp + 6) (fun j => if 0 ≤ j ∧ j < 20 then -2 else clM (sr M sp (u1 (M sp) 0 0)) (sp + 1) (sp + 6) j)) sp (u1 ((sr (clM (sr M sp (u1 (M sp) 0 0)) (sp + 1)) (sp + 6) (fun j => if 0 ≤ j ∧ j < 20 then -2 else clM (sr M sp (u1 (M sp) 0 0)) (sp + 1) (sp + 6) j)) sp) 4 0)) sp (u1 ((sr (sr (clM (sr M sp (u1 (M sp) 0 0)) (sp + 1)) (sp + 6) (fun j => if 0 ≤ j ∧ j < 20 then -2 else clM (sr M sp (u1 (M sp) 0 0)) (sp + 1) (sp + 6) j)) sp (u1 ((sr (clM (sr M sp (u1 (M sp) 0 0)) (sp + 1)) (sp + 6) (fun j => if 0 ≤ j ∧ j < 20 then -2 else clM (sr M sp (u1 (M sp) 0 0)) (sp + 1) (sp + 6) j)) sp) 4 0)) sp) 9 0) a = clM (sr M sp (u1 (M sp) 0 0)) (sp + 1) a := fun a a1 a2 => by
      rw [sr_a _ _ a1, sr_a _ _ a1, sr_a _ _ a2]
    have e6 : ∀ j, sr (sr (sr (clM (sr M sp (u1 (M sp) 0 0)) (sp + 1)) (sp + 6) (fun j => if 0 ≤ j ∧ j < 20 then -2 else clM (sr M sp (u1 (M sp) 0 0)) (sp + 1) (sp + 6) j)) sp (u1 ((sr (clM (sr M sp (u1 (M sp) 0 0)) (sp + 1)) (sp + 6) (fun j => if 0 ≤ j ∧ j < 20 then -2 else clM (sr M sp (u1 (M sp) 0 0)) (sp + 1) (sp + 6) j)) sp) 4 0)) sp (u1 ((sr (sr (clM (sr M sp (u1 (M sp) 0 0)) (sp + 1)) (sp + 6) (fun j => if 0 ≤ j ∧ j < 20 then -2 else clM (sr M sp (u1 (M sp) 0 0)) (sp + 1) (sp + 6) j)) sp (u1 ((sr (clM (sr M sp (u1 (M sp) 0 0)) (sp + 1)) (sp + 6) (fun j => if 0 ≤ j ∧ j < 20 then -2 else clM (sr M sp (u1 (M sp) 0 0)) (sp + 1) (sp + 6) j)) sp) 4 0)) sp) 9 0) (sp + 6) j = if 0 ≤ j ∧ j < 20 then -2 else 0 := fun j => by
      rw [sr_a _ _ (by omega), sr_a _ _ (by omega), sr_s, q6]
      by_cases y : 0 ≤ j ∧ j < 20
      · rw [if_pos y, if_pos y]
      · rw [if_neg y, if_neg y]; exact sz j (by omega)
    generalize sr (sr (sr (clM (sr M sp (u1 (M sp) 0 0)) (sp + 1)) (sp + 6) (fun j => if 0 ≤ j ∧ j < 20 then -2 else clM (sr M sp (u1 (M sp) 0 0)) (sp + 1) (sp + 6) j)) sp (u1 ((sr (clM (sr M sp (u1 (M sp) 0 0)) (sp + 1)) (sp + 6) (fun j => if 0 ≤ j ∧ j < 20 then -2 else clM (sr M sp (u1 (M sp) 0 0)) (sp + 1) (sp + 6) j)) sp) 4 0)) sp (u1 ((sr (sr (clM (sr M sp (u1 (M sp) 0 0)) (sp + 1)) (sp + 6) (fun j => if 0 ≤ j ∧ j < 20 then -2 else clM (sr M sp (u1 (M sp) 0 0)) (sp + 1) (sp + 6) j)) sp (u1 ((sr (clM (sr M sp (u1 (M sp) 0 0)) (sp + 1)) (sp + 6) (fun j => if 0 ≤ j ∧ j < 20 then -2 else clM (sr M sp (u1 (M sp) 0 0)) (sp + 1) (sp + 6) j)) sp) 4 0)) sp) 9 0) = N at *
    have w0 : ∀ j, N (sp + 1) j = if j = 0 ∨ j = 1 ∨ j = 2 ∨ j = 6 ∨ j = 7 then 0 else M (sp + 1) j := fun j => by
      rw [ea _ (by omega) (by omega)]; unfold clM
      rw [sr_a _ _ (by omega), sr_a _ _ (by omega), sr_a _ _ (by omega), sr_s, sr_a _ _ (by omega)]
    have w1 : ∀ j, N (sp + 2) j = 0 := fun j => by
      rw [ea _ (by omega) (by omega)]; unfold clM
      rw [sr_a _ _ (by omega), sr_a _ _ (by omega), show sp + 2 = sp + 1 + 1 by omega, sr_s]
    have w2 : ∀ j, N (sp + 3) j = if 0 ≤ j ∧ j < 6 then -2 else 0 := fun j => by
      rw [ea _ (by omega) (by omega)]; unfold clM
      rw [sr_a _ _ (by omega), show sp + 3 = sp + 1 + 2 by omega, sr_s]
    have w3' : ∀ j, N (sp + 4) j = if 0 ≤ j ∧ j < 24 then (if j % 4 = 0 then 0 else -2) else 0 := fun j => by
      rw [ea _ (by omega) (by omega)]; unfold clM
      rw [show sp + 4 = sp + 1 + 3 by omega, sr_s]
    clear ea q3 q6 hG
    refine ⟨⟨⟨?_, ?_, ?_, ?_, ?_, ?_, ?_, ?_⟩, ⟨?_, ?_, ?_⟩, ?_, ?_, ?_⟩, hp, ⟨⟨?_, ?_, ?_, ?_, ?_, ?_⟩, ⟨?_, ?_, ?_, ?_, ?_, ?_⟩, Or.inl ⟨rfl, rfl, rfl, rfl, rfl, rfl⟩, ?_, ?_, ?_, ?_, ?_, ?_⟩, ?_, ⟨?_, ?_, ?_, ?_, ?_, ?_⟩, ⟨?_, ?_, ?_, ?_, ?_, ?_, ?_, ?_, ?_⟩, ⟨?_, ?_, ?_, ?_⟩, ?_⟩
    · rw [e0, if_neg (by omega)]; exact s1
    · rw [e0, if_neg (by omega)]; exact s2
    · rw [e0, if_neg (by omega)]; exact s3
    · rw [e0, if_neg (by omega)]; exact s5
    · rw [e0, if_neg (by omega)]; exact s6
    · rw [e0, if_neg (by omega)]; exact s7
    · rw [e0, if_neg (by omega)]; exact s8
    · intro j hj; rw [e6, if_neg (by omega)]
    · rw [w0, if_neg (by omega)]; exact w3
    · rw [w0, if_neg (by omega)]; exact w4
    · rw [w0, if_neg (by omega)]; exact w5
    · intro j hj; rw [show sp + 1 + 1 = sp + 2 by omega, w1]
    · intro j hj; rw [show sp + 1 + 2 = sp + 3 by omega, w2, if_neg (by omega)]
    · intro j hj; rw [show sp + 1 + 3 = sp + 4 by omega, w3', if_neg (by omega)]
    · rw [w0, if_pos (by omega)]
    · rw [w0, if_pos (by omega)]
    · rw [w0, if_pos (by omega)]
    · rw [e0, if_pos (by omega)]
    · rw [e0, if_pos (by omega)]
    · rw [e0, if_pos (by omega)]
    · exact hz0 0 (by omega) (by omega)
    · exact hz0 1 (by omega) (by omega)
    · exact hz0 2 (by omega) (by omega)
    · exact hz0 3 (by omega) (by omega)
    · exact hz0 4 (by omega) (by omega)
    · exact hz0 5 (by omega) (by omega)
    · omega
    · omega
    · omega
    · omega
    · omega
    · omega
    · intro t t0 t1; omega
    · rw [w0, if_pos (by omega)]
    · rw [w0, if_pos (by omega)]
    · intro t p t0 t1; omega
    · intro i; rw [w1]; omega
    · intro i _; exact w1 i
    · intro k; rw [hz1]; omega
    · intro t t0 t1; rw [w2, if_pos (by omega)]; omega
    · intro t t0 t1; omega
    · intro t t0 t1; omega
    · intro i; rw [w3']; (repeat' split) <;> omega
    · intro t t0 t1; omega
    · intro t t0 t1 _
      rw [w2, if_pos (by omega), w3', if_pos (by omega), if_pos (by omega)]
      exact ⟨rfl, rfl, fun j j0 j1 => by rw [w3', if_pos (by omega), if_neg (by omega)]⟩
    · intro t t0 t1; rw [w2, if_pos (by omega)]
    · exact hz0 6 (by omega) (by omega)
    · exact Nat.zero_le _
    · intro i; rw [e6]; split <;> omega
    · intro g g0 g1; omega
    · intro i i0 i1; omega
    · intro i i0 i1; rw [e6, if_pos (by omega)]
    · intro i i0 i1; omega
/-- both read, from the beginning -/
theorem s_start (hB : lsB Gc Gr R e sp rd f Mc Mr) (c7 : Mc R 7 = 0) (r8 : Mr 124 8 = 0) (r9 : Mr 124 9 = 0) (z0 : Mc R 0 = 0) (z1 : Mc R 1 = -1) (z13 : Mr 124 13 = 0) (hd : LDv sp rd 0 0 0 0 0 0 Mc Mr) : O2 ((M_X4_take (Mc, Gc) R).bind fun h => M_X4_read_w13 FU h R 0) ((M_X11_goesOn (Mr, Gr) 124).bind fun h => M_X11_readAll h 124) (FnK Gc Gr R e sp rd f Mc Mr) := by
  have hB0 := hB
  obtain ⟨b1, b2, b3, b4, b5⟩ := hB0
  have he := b1.2.2.2.2.2.1
  have hR := b1.2.1
  have hrd := b4.1
  have k124 := gk_124 b2.1
  obtain ⟨_, ha, Mc1, rfl, kc, tc⟩ := X4_take_ok b1 c7 (by omega) he
  obtain ⟨_, hb, Mr1, rfl, kr, tr⟩ := X11_goesOn_ok b2 (by omega) r8 (by omega) he
  have ht := tS_kp kc kr
  have hL : LK Gc Gr R e sp rd f Mc1 Mr1 0 := ⟨hB.t ht, tc, tr, by omega, he, by rw [kc.2 0 (by omega)]; exact z0, by rw [kc.2 1 (by omega)]; exact z1, by rw [kr.2 13 (by omega)]; exact z13⟩
  rw [ha, hb, Option.bind_some, Option.bind_some]
  unfold M_X11_readAll
  rw [tk_ok k124]
  refine (s_read hL (hd.t hR b5 hrd ht)).mono ?_
  rintro a _ ⟨Mc2, Mr2, rfl, hf, hs, hc⟩
  exact ⟨Mc2, Mr2, rfl, ht.fs.tr hf, hs, hc⟩
theorem df4 : dflt 4 2 = -1 := by decide
theorem df10 {j : Int} (h0 : 0 ≤ j) (h1 : j ≤ 6) : dflt 10 j = 0 := by
  have hc : j = 0 ∨ j = 1 ∨ j = 2 ∨ j = 3 ∨ j = 4 ∨ j = 5 ∨ j = 6 := by omega
  rcases hc with rfl | rfl | rfl | rfl | rfl | rfl | rfl <;> decide
/-- the reference's end of ring -/
def rgE (h : Hp) : Option (Hp × Int) := (gf 21 h 124 13).bind fun x23 => if 0 < w32 x23 then (pf 21 h 124 1 4).bind fun h => (gf 21 h 124 14).bind fun x25 => (pf 21 h 124 2 x25).bind fun h => some (h, (-1)) else (gr 21 h 124 4).bind fun x24 => rp x24 (pf 21 h 124 3 x24) fun h => M_X11_ring_w99 FU h 124 0
/-- the reference's ring up to its reading -/
def rgB (G Gr : GG) (A Mr : Int → Int → Int) (n : Int) : Prop := gAll Gr ∧ gRg Gr G.2.2 ∧ (∀ a, a < G.2.2 → Gr.1 a = G.1 a ∧ Gr.2.1 a = G.2.1 a) ∧ (∀ a, a < G.2.2 → a ≠ 124 → Mr a = A a) ∧ (∀ j, j ≠ 0 → j ≠ 4 → ¬ (6 ≤ j ∧ j ≤ 9) → j ≠ 13 → Mr 124 j = A 124 j) ∧ (Mr 124 4 = G.2.2 ∧ Mr 124 6 = 0 ∧ Mr 124 7 = n ∧ Mr 124 8 = 0 ∧ Mr 124 9 = 0 ∧ Mr 124 13 = 0) ∧ pRg (Mr G.2.2) G.2.2 ∧ (∀ j, 0 ≤ j → j ≤ 6 → Mr G.2.2 j = 0) ∧ ∀ j, Mr (G.2.2 + 1) j = 0
theorem ring_ref (hG : gAll G) (n0 : 0 ≤ n) (n9 : n ≤ 900) (h6 : A 124 6 = e) (e9 : e ≤ 900) (hn : n ≤ e) : ∃ Mr Gr, rgB G Gr A Mr n ∧ M_X11_ring (A, G) 124 n = ((M_X11_goesOn (Mr, Gr) 124).bind fun h => M_X11_readAll h 124).bind rgE := by
  have k124 := gk_124 hG
  have hx := hG.2
  have kn : (gN G (10 + 10) 0).1 124 = 21 := by rw [(gN_old (by omega)).1]; exact k124
  obtain ⟨_, e10, N, G', rfl, a1, a2, a3, a4, a5, a6, a7, a8⟩ := X10_init_ok (M := sr (sr A 124 (u1 (u1 (u1 (u1 (u1 (A 124) 0 0) 7 n) 6 0) 8 0) 13 0)) G.2.2 (dflt 10)) (G := gN G (10 + 10) 0) (rd := G.2.2) (gN_all hG) rfl (by omega) gN_new.1
  have k2 := gk_124 a1
  have n124 : N 124 = u1 (u1 (u1 (u1 (u1 (A 124) 0 0) 7 n) 6 0) 8 0) 13 0 := by rw [a5 124 (by omega), sr_a _ _ (by omega), sr_s]
  refine ⟨sr N 124 (u1 (u1 (N 124) 4 G.2.2) 9 0), G', ⟨a1, a2, fun a ha => ?_, fun a ha hb => ?_, fun j j0 j4 j6 j13 => ?_, ⟨?_, ?_, ?_, ?_, ?_, ?_⟩, ?_, fun j j0 j6 => ?_, fun j => ?_⟩, ?_⟩
  · have := a4 a ha
    rw [(gN_old (by omega)).1, (gN_old (by omega)).2] at this
    exact this
  · rw [sr_a _ _ hb, a5 a ha, sr_a _ _ (by omega), sr_a _ _ hb]
  · rw [sr_s, n124]; simp (disch := omega) only [u1_k]
  · rw [sr_s, u1_k _ _ (by omega), u1_s]
  · rw [sr_s, n124]; simp (disch := omega) only [u1_k, u1_s]
  · rw [sr_s, n124]; simp (disch := omega) only [u1_k, u1_s]
  · rw [sr_s, n124]; simp (disch := omega) only [u1_k, u1_s]
  · rw [sr_s, u1_s]
  · rw [sr_s, n124]; simp (disch := omega) only [u1_k, u1_s]
  · rw [sr_a _ _ (by omega)]; exact a6
  · rw [sr_a _ _ (by omega), a7 j (by omega), sr_s]; exact df10 j0 j6
  · rw [sr_a _ _ (by omega)]; exact a8 _ (by omega) (by omega) j
  · unfold M_X11_ring
    rw [tk_ok k124, b_pf k124, if_neg (by rw [w32_id (by omega) (by omega)]; omega), b_gf k124, sr_s, u1_k _ _ (by omega), h6, if_neg (by rw [w32_id (by omega) (by omega), w32_id (by omega) (by omega)]; omega), b_pf k124, b_pf k124, b_pf k124, b_pf k124]
    simp only [sr_s, sr_sr]
    rw [nwo_eq]
    show (M_X10_init (sr (sr A 124 (u1 (u1 (u1 (u1 (u1 (A 124) 0 0) 7 n) 6 0) 8 0) 13 0)) G.2.2 (dflt 10), gN G (10 + 10) 0) G.2.2).bind _ = _
    rw [e10, Option.bind_some, b_rp (by omega), b_pf k2, b_pf k2]
    simp only [sr_s, sr_sr]
    cases M_X11_goesOn (sr N 124 (u1 (u1 (N 124) 4 G.2.2) 9 0), G') 124 with
    | none => rfl
    | some h1 =>
      rw [Option.bind_some, Option.bind_some]
      cases M_X11_readAll h1 124 with
      | none => rfl
      | some h2 => rfl
end BG
