/-! the call ring -/
/-- the class's end of ring -/
def clE (R : Int) (h : Hp) (x6 : Int) : Option (Hp × Int) := (gf 14 h R 0).bind fun x7 => (pf 19 h 0 15 x7).bind fun h => (gf 14 h R 1).bind fun x8 => (pf 19 h 0 16 x8).bind fun h => if w32 x6 = 0 then (bd (M_X9_refused h 0 4) fun h x19 => some (h, x19)) else ((gr 19 h 0 2).bind fun x9 => (gr 19 h 0 3).bind fun x10 => rp x10 (pf 19 h 0 2 x10) fun h => rp x9 (pf 19 h 0 3 x9) fun h => (gr 19 h 0 4).bind fun x11 => (gr 19 h 0 2).bind fun x12 => (gr 15 h x12 1).bind fun x13 => (M_X8_become h x11 x13).bind fun h => (gr 19 h 0 7).bind fun x14 => (M_X3_forgetAll h x14).bind fun h => (gr 19 h 0 10).bind fun x15 => (pz 11 h x15 1 0).bind fun h => (gr 19 h 0 4).bind fun x16 => (gf 18 h x16 2).bind fun x17 => bd (M_X9_answered h 0 x17) fun h x18 => some (h, x18))
/-- what the class's ring leaves when it is good, when it is not -/
def cGd (M C : Int → Int → Int) (R sp td : Int) : Prop := (∀ a, a ≠ 0 → ¬ (24 ≤ a ∧ a < 28) → a ≠ 36 → a ≠ 115 → C a = M a) ∧ (∀ k, k ≠ 2 → k ≠ 3 → ¬ (14 ≤ k ∧ k ≤ 16) → C 0 k = M 0 k) ∧ C 0 2 = sp ∧ C 0 3 = td ∧ C 0 14 = 0 ∧ C 0 15 = M R 0 ∧ (∀ j, j = 0 ∨ j = 1 ∨ j = 2 ∨ j = 6 ∨ j = 7 → C 24 j = M (sp + 1) j) ∧ (∀ j, j = 3 ∨ j = 4 ∨ j = 5 → C 24 j = M 24 j) ∧ C 25 = M (sp + 2) ∧ C 26 = M (sp + 3) ∧ C 27 = M (sp + 4) ∧ C 36 1 = 0 ∧ C 36 3 = 0 ∧ (∀ j, j = 0 ∨ j = 2 → C 36 j = M 36 j) ∧ C 115 1 = 0 ∧ ∀ j, j = 0 ∨ j = 2 → C 115 j = M 115 j
def cBd (M C : Int → Int → Int) (R : Int) : Prop := (∀ a, a ≠ 0 → C a = M a) ∧ (∀ k, ¬ (14 ≤ k ∧ k ≤ 16) → C 0 k = M 0 k) ∧ C 0 14 = 4 ∧ C 0 15 = M R 0 ∧ C 0 16 = M R 1
section QR
variable {M N : Int → Int → Int} {G : GG} {R td sp n r L : Int}
theorem c_bad (hG : gAll G) (kR : G.1 R = 14) (hR : 146 ≤ R) : Ok (clE R (M, G) 0) (fun z => ∃ C, z = ((C, G), -1) ∧ cBd M C R) := by
  have k0 := gk_0 hG
  unfold clE
  repeat' (with_reducible first | refine k_gf (by first | assumption | omega) (by first | assumption | ((try simp (disch := omega) only [sr_s, sr_a, sr_sr, u1_s, u1_k]); exact rfl)) ?_ | refine k_gr (by first | assumption | omega) (by first | assumption | ((try simp (disch := omega) only [sr_s, sr_a, sr_sr, u1_s, u1_k]); exact rfl)) (by omega) ?_ | refine k_ald (by first | assumption | omega) (by first | assumption | exact rfl) (by omega) (by omega) (by omega) (by first | assumption | ((try simp (disch := omega) only [sr_s, sr_a, sr_sr, u1_s, u1_k]); exact rfl)) ?_ | refine k_ifT (by first | (simp (disch := omega) only [w32_id]; first | done | omega) | omega) ?_ | refine k_ifF (by first | (simp (disch := omega) only [w32_id]; first | done | omega) | omega) ?_ | refine k_pf (by first | assumption | omega) (by (try simp (disch := omega) only [sr_s, sr_a, sr_sr, u1_u1]); exact rfl) ?_ | refine k_ast (by first | assumption | omega) (by first | assumption | exact rfl) (by omega) (by omega) (by omega) (by (try simp (disch := omega) only [sr_s, sr_a, sr_sr, u1_u1]); exact rfl) ?_ | refine k_irm (by omega) (by omega) (by omega) (by omega) ?_ | refine k_idv (by omega) (by omega) (by omega) (by omega) ?_ | refine k_tk (by first | assumption | omega) ?_ | refine k_rp (by omega) ?_ | refine k_aldR (by first | assumption | omega) (by first | assumption | exact rfl) (by omega) (by omega) (by omega) (by first | assumption | ((try simp (disch := omega) only [sr_s, sr_a, sr_sr, u1_s, u1_k]); exact rfl)) (by omega) ?_ | refine k_astR (by first | assumption | omega) (by first | assumption | exact rfl) (by omega) (by omega) (by omega) (by first | assumption | omega) (by (try simp (disch := omega) only [sr_s, sr_a, sr_sr, u1_u1]); exact rfl) ?_ | refine k_pz (by first | assumption | omega) (by omega) (by (try simp (disch := omega) only [sr_s, sr_a, sr_sr, u1_u1]); exact rfl) ?_ | refine k_alen (by first | assumption | omega) (by first | assumption | exact rfl) ?_ | refine k_cpy (by first | assumption | omega) (by first | assumption | omega) (by first | assumption | exact rfl) (by first | assumption | exact rfl) (by omega) (by omega) (by omega) (by omega) (by omega) (by omega) (by omega) (by omega) (by (try simp (disch := omega) only [sr_s, sr_a, sr_sr, u1_u1]); exact rfl) ?_)
  refine k_bd (X9_refused_ok hG) (Ok.ret ⟨_, rfl, fun a ha => ?_, fun k hk => ?_, ?_, ?_, ?_⟩)
  all_goals unfold trM
  · simp (disch := omega) only [sr_a]
  · simp (disch := omega) only [sr_s, u1_k]
  · simp (disch := omega) only [sr_s, u1_s]
  · simp (disch := omega) only [sr_s, u1_s, u1_k]
  · simp (disch := omega) only [sr_s, u1_s, u1_k]
theorem X3_forgetAll_ok (k36 : G.1 36 = 13) : M_X3_forgetAll (M, G) 36 = some (sr M 36 (u1 (u1 (M 36) 1 0) 3 0), G) := by
  refine Ok.eq ?_
  unfold M_X3_forgetAll
  repeat' (with_reducible first | refine k_gf (by first | assumption | omega) (by first | assumption | ((try simp (disch := omega) only [sr_s, sr_a, sr_sr, u1_s, u1_k]); exact rfl)) ?_ | refine k_gr (by first | assumption | omega) (by first | assumption | ((try simp (disch := omega) only [sr_s, sr_a, sr_sr, u1_s, u1_k]); exact rfl)) (by omega) ?_ | refine k_ald (by first | assumption | omega) (by first | assumption | exact rfl) (by omega) (by omega) (by omega) (by first | assumption | ((try simp (disch := omega) only [sr_s, sr_a, sr_sr, u1_s, u1_k]); exact rfl)) ?_ | refine k_ifT (by first | (simp (disch := omega) only [w32_id]; first | done | omega) | omega) ?_ | refine k_ifF (by first | (simp (disch := omega) only [w32_id]; first | done | omega) | omega) ?_ | refine k_pf (by first | assumption | omega) (by (try simp (disch := omega) only [sr_s, sr_a, sr_sr, u1_u1]); exact rfl) ?_ | refine k_ast (by first | assumption | omega) (by first | assumption | exact rfl) (by omega) (by omega) (by omega) (by (try simp (disch := omega) only [sr_s, sr_a, sr_sr, u1_u1]); exact rfl) ?_ | refine k_irm (by omega) (by omega) (by omega) (by omega) ?_ | refine k_idv (by omega) (by omega) (by omega) (by omega) ?_ | refine k_tk (by first | assumption | omega) ?_ | refine k_rp (by omega) ?_ | refine k_aldR (by first | assumption | omega) (by first | assumption | exact rfl) (by omega) (by omega) (by omega) (by first | assumption | ((try simp (disch := omega) only [sr_s, sr_a, sr_sr, u1_s, u1_k]); exact rfl)) (by omega) ?_ | refine k_astR (by first | assumption | omega) (by first | assumption | exact rfl) (by omega) (by omega) (by omega) (by first | assumption | omega) (by (try simp (disch := omega) only [sr_s, sr_a, sr_sr, u1_u1]); exact rfl) ?_ | refine k_pz (by first | assumption | omega) (by omega) (by (try simp (disch := omega) only [sr_s, sr_a, sr_sr, u1_u1]); exact rfl) ?_ | refine k_alen (by first | assumption | omega) (by first | assumption | exact rfl) ?_ | refine k_cpy (by first | assumption | omega) (by first | assumption | omega) (by first | assumption | exact rfl) (by first | assumption | exact rfl) (by omega) (by omega) (by omega) (by omega) (by omega) (by omega) (by omega) (by omega) (by (try simp (disch := omega) only [sr_s, sr_a, sr_sr, u1_u1]); exact rfl) ?_)
  exact Ok.ret rfl
theorem c_good (hG : gAll G) (kR : G.1 R = 14) (hR : 146 ≤ R) (hs : td = 2 ∧ sp = 13 ∨ td = 13 ∧ sp = 2) (m2 : M 0 2 = td) (m3 : M 0 3 = sp) (m4 : M 0 4 = 24) (m7 : M 0 7 = 36) (m10 : M 0 10 = 115) (ms : M sp 1 = sp + 1) (hw : shW M 24) (hw' : shW M (sp + 1)) : Ok (clE R (M, G) 1) (fun z => ∃ C, z = ((C, G), M (sp + 1) 2) ∧ cGd M C R sp td) := by
  have k0 := gk_0 hG
  have k24 := gk_24 hG
  have k36 := gk_36 hG
  have k115 := gk_115 hG
  have ks : G.1 sp = 15 := by rcases hs with ⟨-, rfl⟩ | ⟨-, rfl⟩; exact gk_13 hG; exact gk_2 hG
  have gw : gW G (sp + 1) := by rcases hs with ⟨-, rfl⟩ | ⟨-, rfl⟩; exact gW_14 hG; exact gW_3 hG
  have hX : ∃ X, X = sr M 0 (u1 (u1 (u1 (u1 (M 0) 15 (M R 0)) 16 (M R 1)) 2 sp) 3 td) := ⟨_, rfl⟩
  obtain ⟨X, eX⟩ := hX
  have xa : ∀ a, a ≠ 0 → X a = M a := fun a ha => by rw [eX, sr_a _ _ ha]
  have x0 : ∀ k, X 0 k = if k = 3 then td else if k = 2 then sp else if k = 16 then M R 1 else if k = 15 then M R 0 else M 0 k := fun k => by rw [eX, sr_s]; rfl
  have hbe : M_X8_become (X, G) 24 (sp + 1) = some (beM X 24 (sp + 1), G) := by
    refine X8_become_ok (gW_24 hG) ?_ ?_ gw ?_ ?_ (by omega)
    · unfold mW; rw [xa 24 (by omega)]; exact hw.1
    · unfold zoW; rw [xa (24 + 1) (by omega), xa (24 + 2) (by omega), xa (24 + 3) (by omega)]; exact hw.2
    · unfold mW; rw [xa (sp + 1) (by omega)]; exact hw'.1
    · unfold zoW; rw [xa (sp + 1 + 1) (by omega), xa (sp + 1 + 2) (by omega), xa (sp + 1 + 3) (by omega)]; exact hw'.2
  have fb : ∀ a, ¬ (24 ≤ a ∧ a < 28) → beM X 24 (sp + 1) a = X a := fun a ha => by
    unfold beM
    rw [sr_a _ _ (by omega), sr_a _ _ (by omega), sr_a _ _ (by omega), sr_a _ _ (by omega)]
  have f24 : ∀ j, beM X 24 (sp + 1) 24 j = if j = 0 then X (sp + 1) 0 else if j = 1 then X (sp + 1) 1 else if j = 2 then X (sp + 1) 2 else if j = 6 then X (sp + 1) 6 else if j = 7 then X (sp + 1) 7 else X 24 j := fun j => by
    unfold beM
    rw [sr_a _ _ (by omega), sr_a _ _ (by omega), sr_a _ _ (by omega), sr_s]
  have f25 : beM X 24 (sp + 1) 25 = M (sp + 2) := by
    unfold beM
    rw [sr_a _ _ (by omega), sr_a _ _ (by omega), show (25 : Int) = 24 + 1 by rfl, sr_s, xa _ (by omega)]
    congr 1; omega
  have f26 : beM X 24 (sp + 1) 26 = M (sp + 3) := by
    unfold beM
    rw [sr_a _ _ (by omega), show (26 : Int) = 24 + 2 by rfl, sr_s, xa _ (by omega)]
    congr 1; omega
  have f27 : beM X 24 (sp + 1) 27 = M (sp + 4) := by
    unfold beM
    rw [show (27 : Int) = 24 + 3 by rfl, sr_s, xa _ (by omega)]
    congr 1; omega
  generalize beM X 24 (sp + 1) = B at *
  unfold clE
  repeat' (with_reducible first | refine k_gf (by first | assumption | omega) (by first | assumption | ((try simp (disch := omega) only [sr_s, sr_a, sr_sr, u1_s, u1_k, m2, m3, m4, ms]); exact rfl)) ?_ | refine k_gr (by first | assumption | omega) (by first | assumption | ((try simp (disch := omega) only [sr_s, sr_a, sr_sr, u1_s, u1_k, m2, m3, m4, ms]); exact rfl)) (by omega) ?_ | refine k_ald (by first | assumption | omega) (by first | assumption | exact rfl) (by omega) (by omega) (by omega) (by first | assumption | ((try simp (disch := omega) only [sr_s, sr_a, sr_sr, u1_s, u1_k, m2, m3, m4, ms]); exact rfl)) ?_ | refine k_ifT (by first | (simp (disch := omega) only [w32_id]; first | done | omega) | omega) ?_ | refine k_ifF (by first | (simp (disch := omega) only [w32_id]; first | done | omega) | omega) ?_ | refine k_pf (by first | assumption | omega) (by (try simp (disch := omega) only [sr_s, sr_a, sr_sr, u1_u1, m2, m3, m4, ms]); exact rfl) ?_ | refine k_ast (by first | assumption | omega) (by first | assumption | exact rfl) (by omega) (by omega) (by omega) (by (try simp (disch := omega) only [sr_s, sr_a, sr_sr, u1_u1, m2, m3, m4, ms]); exact rfl) ?_ | refine k_irm (by omega) (by omega) (by omega) (by omega) ?_ | refine k_idv (by omega) (by omega) (by omega) (by omega) ?_ | refine k_tk (by first | assumption | omega) ?_ | refine k_rp (by omega) ?_ | refine k_aldR (by first | assumption | omega) (by first | assumption | exact rfl) (by omega) (by omega) (by omega) (by first | assumption | ((try simp (disch := omega) only [sr_s, sr_a, sr_sr, u1_s, u1_k, m2, m3, m4, ms]); exact rfl)) (by omega) ?_ | refine k_astR (by first | assumption | omega) (by first | assumption | exact rfl) (by omega) (by omega) (by omega) (by first | assumption | omega) (by (try simp (disch := omega) only [sr_s, sr_a, sr_sr, u1_u1, m2, m3, m4, ms]); exact rfl) ?_ | refine k_pz (by first | assumption | omega) (by omega) (by (try simp (disch := omega) only [sr_s, sr_a, sr_sr, u1_u1, m2, m3, m4, ms]); exact rfl) ?_ | refine k_alen (by first | assumption | omega) (by first | assumption | exact rfl) ?_ | refine k_cpy (by first | assumption | omega) (by first | assumption | omega) (by first | assumption | exact rfl) (by first | assumption | exact rfl) (by omega) (by omega) (by omega) (by omega) (by omega) (by omega) (by omega) (by omega) (by (try simp (disch := omega) only [sr_s, sr_a, sr_sr, u1_u1, m2, m3, m4, ms]); exact rfl) ?_)
  rw [← eX]
  refine k_eq hbe ?_
  clear hbe
  refine k_gr k0 (v := 36) (by rw [fb 0 (by omega), x0]; simp; exact m7) (by omega) ?_
  refine k_eq (X3_forgetAll_ok k36) ?_
  refine k_gr k0 (v := 115) (by rw [sr_a _ _ (by omega), fb 0 (by omega), x0]; simp; exact m10) (by omega) ?_
  refine k_pz k115 (Or.inl rfl) rfl ?_
  refine k_gr k0 (v := 24) (by rw [sr_a _ _ (by omega), sr_a _ _ (by omega), fb 0 (by omega), x0]; simp; exact m4) (by omega) ?_
  refine k_gf k24 (v := M (sp + 1) 2) (by rw [sr_a _ _ (by omega), sr_a _ _ (by omega), f24]; simp; rw [xa _ (by omega)]) ?_
  refine k_bd (X9_answered_ok hG) (Ok.ret ⟨_, rfl, fun a a0 a1 a2 a3 => ?_, fun k k1 k2 k3 => ?_, ?_, ?_, ?_, ?_, fun j hj => ?_, fun j hj => ?_, ?_, ?_, ?_, ?_, ?_, fun j hj => ?_, ?_, fun j hj => ?_⟩)
  all_goals unfold trM
  · simp (disch := omega) only [sr_a]; rw [fb a a1, xa a a0]
  · simp (disch := omega) only [sr_s, sr_a, u1_k]; rw [fb 0 (by omega), x0, if_neg (by omega), if_neg (by omega), if_neg (by omega), if_neg (by omega)]
  · simp (disch := omega) only [sr_s, sr_a, u1_k]; rw [fb 0 (by omega), x0]; rfl
  · simp (disch := omega) only [sr_s, sr_a, u1_k]; rw [fb 0 (by omega), x0]; rfl
  · simp (disch := omega) only [sr_s, sr_a, u1_s]
  · simp (disch := omega) only [sr_s, sr_a, u1_k]; rw [fb 0 (by omega), x0]; rfl
  · simp (disch := omega) only [sr_s, sr_a]; rw [f24, xa _ (by omega)]; rcases hj with rfl | rfl | rfl | rfl | rfl <;> rfl
  · simp (disch := omega) only [sr_s, sr_a]; rw [f24, if_neg (by omega), if_neg (by omega), if_neg (by omega), if_neg (by omega), if_neg (by omega), xa _ (by omega)]
  · simp (disch := omega) only [sr_s, sr_a]; exact f25
  · simp (disch := omega) only [sr_s, sr_a]; exact f26
  · simp (disch := omega) only [sr_s, sr_a]; exact f27
  · simp (disch := omega) only [sr_s, sr_a, u1_k, u1_s]
  · simp (disch := omega) only [sr_s, sr_a, u1_s]
  · simp (disch := omega) only [sr_s, sr_a, u1_k]; rw [fb 36 (by omega), xa _ (by omega)]
  · simp (disch := omega) only [sr_s, sr_a, u1_s]
  · simp (disch := omega) only [sr_s, sr_a, u1_k]; rw [fb 115 (by omega), xa _ (by omega)]
theorem ring_cls (hG : gAll G) (p0 : M 0 0 = 1) (m3 : M 0 3 = sp) (hs : sp = 2 ∨ sp = 13) (hL : M 0 1 = L) (L9 : L ≤ 900) (n0 : 0 ≤ n) (nL : n ≤ L) (hsR : shR M sp) (hsW : shW M (sp + 1)) : ∃ N, (∀ a, a ≠ 0 → a ≠ G.2.2 → ¬ (sp ≤ a ∧ a ≤ sp + 10) → N a = M a) ∧ (∀ k, k ≠ 1 → N 0 k = M 0 k) ∧ N 0 1 = 0 ∧ (N G.2.2 0 = 0 ∧ N G.2.2 1 = -1 ∧ N G.2.2 2 = 1 ∧ N G.2.2 3 = n ∧ N G.2.2 4 = sp ∧ N G.2.2 7 = 0) ∧ (∀ (Mr : Int → Int → Int) (rd : Int), pRg (Mr rd) rd → (∀ j, 0 ≤ j → j ≤ 6 → Mr rd j = 0) → (∀ j, Mr (rd + 1) j = 0) → LDv sp rd 0 0 0 0 0 0 N Mr) ∧ M_X9_ring (M, G) 0 n = ((M_X4_take (N, gN G 14 0) G.2.2).bind fun h => M_X4_read_w13 FU h G.2.2 0).bind fun q => clE G.2.2 q.1 q.2 := by
  have k0 := gk_0 hG
  have hx := hG.2
  have hGc : gAll (gN G 14 0) := gN_all hG
  have kc := gk_0 hGc
  have kR : (gN G 14 0).1 G.2.2 = 14 := gN_new.1
  obtain ⟨_, e1, N0, rfl, a1, a2, a3, a4, a5, a6, a7⟩ := X4_init_ok (M := sr (sr M 0 (u1 (M 0) 1 0)) G.2.2 (dflt 4)) (G := gN G 14 0) (R := G.2.2) (n := n) (sp := sp) hGc kR n0 (by omega) (by omega)
  have b : ∀ a, a ≠ 0 → a ≠ G.2.2 → N0 a = M a := fun a h1 h2 => by rw [a1 a h2, sr_a _ _ h2, sr_a _ _ h1]
  have hsR0 : shR N0 sp := by unfold shR at *; rw [b sp (by omega) (by omega), b (sp + 6) (by omega) (by omega)]; exact hsR
  have hsW0 : shW N0 (sp + 1) := by unfold shW mW zoW at *; rw [b (sp + 1) (by omega) (by omega), b (sp + 1 + 1) (by omega) (by omega), b (sp + 1 + 2) (by omega) (by omega), b (sp + 1 + 3) (by omega) (by omega)]; exact hsW
  obtain ⟨_, e2, N, rfl, c1, c2⟩ := X5_clear_ok hGc hs hsR0 hsW0
  refine ⟨N, fun a h1 h2 h3 => by rw [c1 a h3]; exact b a h1 h2, fun k hk => ?_, ?_, ⟨?_, ?_, ?_, ?_, ?_, ?_⟩, c2, ?_⟩
  · rw [c1 0 (by omega), a1 0 (by omega), sr_a _ _ (by omega), sr_s, u1_k _ _ hk]
  · rw [c1 0 (by omega), a1 0 (by omega), sr_a _ _ (by omega), sr_s, u1_s]
  · rw [c1 _ (by omega)]; exact a2
  · rw [c1 _ (by omega)]; exact a3
  · rw [c1 _ (by omega)]; exact a4
  · rw [c1 _ (by omega)]; exact a5
  · rw [c1 _ (by omega)]; exact a6
  · rw [c1 _ (by omega)]; exact a7
  · have hrd : M_X4_read (N0, gN G 14 0) G.2.2 = (M_X4_take (N, gN G 14 0) G.2.2).bind fun h => M_X4_read_w13 FU h G.2.2 0 := by
      unfold M_X4_read
      rw [tk_ok kR, b_gr kR (by omega), a6, e2, Option.bind_some]
    unfold M_X9_ring
    rw [tk_ok k0, if_neg (by rw [w32_id (by omega) (by omega)]; omega), b_gf k0, hL, if_neg (by rw [w32_id (by omega) (by omega), w32_id (by omega) (by omega)]; omega), b_pf k0, nwo_eq]
    have r0 : sr (sr M 0 (u1 (M 0) 1 0)) G.2.2 (dflt 4) 0 0 = 1 := by rw [sr_a _ _ (by omega), sr_s, u1_k _ _ (by omega)]; exact p0
    have r3 : sr (sr M 0 (u1 (M 0) 1 0)) G.2.2 (dflt 4) 0 3 = sp := by rw [sr_a _ _ (by omega), sr_s, u1_k _ _ (by omega)]; exact m3
    show ((gr 19 (sr (sr M 0 (u1 (M 0) 1 0)) G.2.2 (dflt 4), gN G 14 0) 0 0).bind _) = _
    rw [b_gr kc (by omega), r0, b_gr kc (by omega), r3, e1, Option.bind_some, hrd]
    rfl
theorem ring_good {Mc1 C Mr2 Mr3 : Int → Int → Int} {Gr2 : GG} {wd hi tw mk gs sn : Int} (h0 : Inv0 M G td r) (hsp : 15 - td = sp) (hRx : G.2.2 = R) (fc : ∀ a, a ≠ 0 → a ≠ R → ¬ (sp ≤ a ∧ a ≤ sp + 10) → Mc1 a = M a) (f0 : ∀ k, k ≠ 1 → Mc1 0 k = M 0 k) (f01 : Mc1 0 1 = 0) (C124 : C 124 = M 124) (hB2 : rgB (gN G 14 0) Gr2 C Mr2 n) (hf3 : fS R sp (R + 1) N Mr2 Mc1 Mr3) (hC : cGd Mc1 C R sp td) (y0 : Mc1 R 0 = 0) (y13 : Mr3 124 13 = 0) (tp : 0 < tw) (hLD : LDv sp (R + 1) wd hi tw mk gs sn Mc1 Mr3) : ∃ F, rgE (Mr3, Gr2) = some ((F, Gr2), tw) ∧ Inv F Gr2 := by
  have hG := h0.1.1
  have hx := hG.2
  rw [hRx] at hx
  have hs : sp = 2 ∨ sp = 13 := by have := h0.1.2.2.1; omega
  have hpr := h0.2.2.1.1
  have hGx : (gN G 14 0).2.2 = R + 1 := by rw [← hRx]; rfl
  obtain ⟨g1, g2, g3, g4, g5, g6, g7, g8, g9, g10, g11, g12, g13, g14, g15, g16⟩ := hC
  obtain ⟨c1, c2, c3, c4, c5, ⟨d4, d6, d7, d8, d9, d13⟩, -, -, -⟩ := hB2
  rw [hGx] at c2 c3 c4 d4
  have k2 := gk_124 c1
  have hn := hLD.2.2.1
  have tw0 := hn.2.2.2.1
  have tw6 := hn.2.2.2.2.1
  have r3' : Mr3 (R + 1) 3 = tw := hn.2.1.2.2.2.1
  have r124 : ∀ j, j < 8 ∨ 16 < j → Mr3 124 j = Mr2 124 j := hf3.2.2.1
  obtain ⟨_, hF, F, rfl, hrF⟩ := rg_l1 (M := sr Mr3 124 (u1 (Mr3 124) 3 (R + 1))) (G := Gr2) (rd := R + 1) (tw := tw) c1 c2 (by rw [sr_s, u1_k _ _ (by omega), r124 17 (by omega), c5 17 (by omega) (by omega) (by omega) (by omega), C124]; exact hpr.p17) (by rw [sr_s, u1_s]) (by rw [sr_a _ _ (by omega)]; exact hLD.2.1) (by rw [sr_a _ _ (by omega)]; exact r3') (by omega) (by omega)
  have hrf : rgE (Mr3, Gr2) = some ((F, Gr2), tw) := by
    unfold rgE
    rw [b_gf k2, y13, if_neg (by decide), b_gr k2 (by rw [r124 4 (by omega), d4]; omega), r124 4 (by omega), d4, b_rp (by omega), b_pf k2]
    exact hF
  refine ⟨F, hrf, ?_⟩
  obtain ⟨e1, e2, e3, e4, e5, e6, e7, e8, e9, e10, e11⟩ := hrF
  have eF : ∀ a, a ≠ 124 → a ≠ 126 → F a = Mr3 a := fun a a1 a2 => by rw [e1 a a1 a2, sr_a _ _ a1]
  have eC : ∀ a, a < R + 1 → a ≠ 124 → a ≠ 126 → F a = C a := fun a a0 a1 a2 => by rw [eF a a1 a2, hf3.2.1 a a1 (by omega)]; exact c4 a a0 a1
  have e4' : ∀ j, j ≠ 1 → j ≠ 2 → j ≠ 3 → j ≠ 20 → j ≠ 21 → F 124 j = Mr3 124 j := fun j j1 j2 j3 j4 j5 => by rw [e2 j j1 j2 j4 j5, sr_s, u1_k _ _ j3]
  have e0 : F 0 = C 0 := eC 0 (by omega) (by omega) (by omega)
  have f24 : F 24 = C 24 := eC 24 (by omega) (by omega) (by omega)
  have f36 : F 36 = C 36 := eC 36 (by omega) (by omega) (by omega)
  have f115 : F 115 = C 115 := eC 115 (by omega) (by omega) (by omega)
  refine Inv.good (wd := wd) (hi := hi) (tw := tw) (mk := mk) (gs := gs) (sn := sn) (rd := R + 1) (Mc := Mc1) (Mr := Mr3) (sp := sp) hsp.symm h0 c1 c2 (fun a a0 a1 a2 a3 a4 a5 a6 a7 => ?_) (fun k k1 k2 k3 k4 => ?_) ?_ ?_ ?_ ?_ (fun j hj => ?_) e3 e4 ?_ ?_ ?_ e5 e6 hLD tp (fun a a0 a1 => ?_) (fun a a0 a1 => ?_) (fun j hj => ?_) (fun j hj => ?_) ?_ ?_ ?_ ?_ ?_ (fun j hj => ?_) ?_ (fun j hj => ?_) (fun k k0 k1 => ?_) (fun t t0 t1 => ?_) (fun i i0 i1 => ?_) e10 e11
  · rw [eC a (by omega) a2 a3, g1 a a1 (by omega) a6 a7]; exact fc a a1 (by omega) (by omega)
  · rw [e0, g2 k k2 k3 k4]; exact f0 k k1
  · rw [e0, g2 1 (by omega) (by omega) (by omega)]; exact f01
  · rw [e0, g3]
  · rw [e0, g4]
  · rw [e0, g5]
  · rw [e4' j (by omega) (by omega) (by omega) (by omega) (by omega), r124 j (by omega), c5 j (by omega) (by omega) (by omega) (by omega), C124]
  · rw [e2 3 (by omega) (by omega) (by omega) (by omega), sr_s, u1_s]
  · rw [e4' 6 (by omega) (by omega) (by omega) (by omega) (by omega), r124 6 (by omega)]; exact d6
  · rw [e4' 13 (by omega) (by omega) (by omega) (by omega) (by omega), y13, e0, g6, y0]
  · rw [eC a (by omega) (by omega) (by omega)]; exact g1 a (by omega) (by omega) (by omega) (by omega)
  · exact eF a (by omega) (by omega)
  · rw [f24, g7 j hj]
  · rw [f24, g8 j hj, fc 24 (by omega) (by omega) (by omega)]
  · rw [eC 25 (by omega) (by omega) (by omega), g9]
  · rw [eC 26 (by omega) (by omega) (by omega), g10]
  · rw [eC 27 (by omega) (by omega) (by omega), g11]
  · rw [f36, g12]
  · rw [f36, g13]
  · rw [f36, g14 j hj, fc 36 (by omega) (by omega) (by omega)]
  · rw [f115, g15]
  · rw [f115, g16 j hj, fc 115 (by omega) (by omega) (by omega)]
  · rw [e7 k k0 k1, sr_a _ _ (by omega)]
  · rw [e8 t t0 t1, sr_a _ _ (by omega)]
  · rw [e9 i i0 i1, sr_a _ _ (by omega)]
theorem ring_bad {Mc1 C Mr2 Mr3 : Int → Int → Int} {Gc Gr2 : GG} {f : Int → Int} (h0 : Inv0 M G td r) (hsp : 15 - td = sp) (hRx : G.2.2 = R) (fc : ∀ a, a ≠ 0 → a ≠ R → ¬ (sp ≤ a ∧ a ≤ sp + 10) → Mc1 a = M a) (f0 : ∀ k, k ≠ 1 → Mc1 0 k = M 0 k) (f01 : Mc1 0 1 = 0) (C124 : C 124 = M 124) (hB2 : rgB (gN G 14 0) Gr2 C Mr2 n) (hf3 : fS R sp (R + 1) N Mr2 Mc1 Mr3) (hC : cBd Mc1 C R) (hsh : shR Mc1 sp ∧ shW Mc1 (sp + 1)) (hX : LX Gc Gr2 R n sp (R + 1) f Mc1 Mr3) : ∃ F, rgE (Mr3, Gr2) = some ((F, Gr2), -1) ∧ Inv F Gr2 := by
  have hG := h0.1.1
  have hx := hG.2
  rw [hRx] at hx
  have hs : sp = 2 ∨ sp = 13 := by have := h0.1.2.2.1; omega
  have hpr := h0.2.2.1.1
  have hGx : (gN G 14 0).2.2 = R + 1 := by rw [← hRx]; rfl
  have hgo : ∀ a, a < R → (gN G 14 0).1 a = G.1 a ∧ (gN G 14 0).2.1 a = G.2.1 a := fun a ha => gN_old (by omega)
  obtain ⟨g1, g2, g3, g4, g5⟩ := hC
  obtain ⟨c1, c2, c3, c4, c5, ⟨d4, d6, d7, d8, d9, d13⟩, -, -, -⟩ := hB2
  rw [hGx] at c2 c3 c4 d4
  have k2 := gk_124 c1
  obtain ⟨-, x9, x13, xa, xb, x14, xc, xd⟩ := hX
  have r124 : ∀ j, j < 8 ∨ 16 < j → Mr3 124 j = Mr2 124 j := hf3.2.2.1
  have hrf : rgE (Mr3, Gr2) = some ((sr Mr3 124 (u1 (u1 (Mr3 124) 1 4) 2 (Mr3 124 14)), Gr2), -1) := by
    unfold rgE
    rw [b_gf k2, if_pos (by rw [x13, w32_id (by omega) (by omega)]; omega), b_pf k2, b_gf k2, sr_s, u1_k _ _ (by omega), b_pf k2, sr_s, sr_sr]
  refine ⟨_, hrf, ?_⟩
  show Inv (sr Mr3 124 (u1 (u1 (Mr3 124) 1 4) 2 (Mr3 124 14))) Gr2
  have hN : ∃ F, F = sr Mr3 124 (u1 (u1 (Mr3 124) 1 4) 2 (Mr3 124 14)) := ⟨_, rfl⟩
  obtain ⟨F, eF⟩ := hN
  rw [← eF]
  have eC : ∀ a, a < R + 1 → a ≠ 124 → F a = C a := fun a a0 a1 => by rw [eF, sr_a _ _ a1, hf3.2.1 a a1 (by omega)]; exact c4 a a0 a1
  have e4 : ∀ j, j ≠ 1 → j ≠ 2 → F 124 j = Mr3 124 j := fun j j1 j2 => by rw [eF, sr_s, u1_k _ _ j2, u1_k _ _ j1]
  have e41 : F 124 1 = 4 := by rw [eF, sr_s, u1_k _ _ (by omega), u1_s]
  have e42 : F 124 2 = Mr3 124 14 := by rw [eF, sr_s, u1_s]
  have e0 : F 0 = C 0 := eC 0 (by omega) (by omega)
  refine Inv.fail h0 c1 (fun a ha => ?_) (by have := c2.2.2.2.2.2.2.2.2.2.2.2; omega) (fun a a0 a1 a2 a3 => ?_) (fun k k1 k2 k3 k4 => ?_) ?_ (fun j hj => ?_) ?_ ?_ ?_ ?_
  · rw [(c3 a (by omega)).1, (c3 a (by omega)).2]; exact hgo a (by omega)
  · rw [eC a (by omega) a2, g1 a a1]; exact fc a a1 (by omega) (by omega)
  · rw [e0, g2 k (by omega)]; exact f0 k k1
  · rw [e0, g2 1 (by omega)]; exact f01
  · rw [e4 j (by omega) (by omega), r124 j (by omega), c5 j (by omega) (by omega) (by omega) (by omega), C124]
  · rw [hsp]
    have hh := hsh
    unfold shR shW mW zoW at hh ⊢
    have es : ∀ a, 0 < a → a < 40 → F a = Mc1 a := fun a a0 a1 => (eC a (by omega) (by omega)).trans (g1 a (by omega))
    rw [es sp (by omega) (by omega), es (sp + 6) (by omega) (by omega), es (sp + 1) (by omega) (by omega), es (sp + 1 + 1) (by omega) (by omega), es (sp + 1 + 2) (by omega) (by omega), es (sp + 1 + 3) (by omega) (by omega)]
    exact hh
  · rw [e4 6 (by omega) (by omega), r124 6 (by omega)]; exact d6
  · rw [e4 13 (by omega) (by omega), e0, g4]; exact x13
  · refine ⟨by rw [e41, e0, g3], by rw [e0, g3]; omega, by rw [e0, g3]; omega, ?_⟩
    rw [e42, e0, g3, if_pos rfl, g5]; exact x14
theorem q_ring (h : Inv M G) (hn : i32 n) : Both M G (fun h => M_X9_ring h 0 n) (fun h => M_X11_ring h 124 n) := by
  obtain ⟨htr, td, r, h0⟩ := h
  have hG := h0.1.1
  have hx := hG.2
  have hn' := hn
  unfold i32 at hn'
  have k0 := gk_0 hG
  have k124 := gk_124 hG
  obtain ⟨t1, t2, t3, t4⟩ := h0.2.2.2.1
  by_cases y : 0 ≤ n ∧ n ≤ M 0 1
  · have hs : td = 2 ∧ 15 - td = 13 ∨ td = 13 ∧ 15 - td = 2 := by have := h0.1.2.2.1; omega
    have hp0 := h0.1.2.1
    have hpr := h0.2.2.1.1
    have hsR : shR M (15 - td) := by
      rcases hs with ⟨rfl, e⟩ | ⟨rfl, e⟩
      · exact h0.1.2.2.2.2.2.2.1
      · exact h0.1.2.2.2.2.2.1
    have hsW : shW M (15 - td + 1) := by
      rcases hs with ⟨rfl, e⟩ | ⟨rfl, e⟩
      · exact h0.1.2.2.2.2.2.2.2.2.1
      · exact h0.1.2.2.2.2.2.2.2.1
    have hw24 : shW M 24 := h0.1.2.2.2.2.2.2.2.2.2.1
    have m2 := h0.1.2.2.2.1
    have m3 := h0.1.2.2.2.2.1
    obtain ⟨sp, hsp⟩ : ∃ sp, 15 - td = sp := ⟨_, rfl⟩
    obtain ⟨R, hRx⟩ : ∃ R, G.2.2 = R := ⟨_, rfl⟩
    rw [hsp] at hsR hsW m3 hs
    obtain ⟨N, n1, n2, n3, ⟨z0, z1, z2, z3, z4, z7⟩, nLD, hcl⟩ := ring_cls hG hp0.p0 m3 (by omega) rfl t3 y.1 y.2 hsR hsW
    rw [hRx] at z0 z1 z2 z3 z4 z7 hcl hx
    simp only [hRx] at n1
    have hGc : gAll (gN G 14 0) := gN_all hG
    have kR : (gN G 14 0).1 R = 14 := by rw [← hRx]; exact gN_new.1
    have hGx : (gN G 14 0).2.2 = R + 1 := by rw [← hRx]; rfl
    have hgo : ∀ a, a < R → (gN G 14 0).1 a = G.1 a ∧ (gN G 14 0).2.1 a = G.2.1 a := fun a ha => gN_old (by omega)
    have key : ∀ A : Int → Int → Int, A 124 6 = M 0 1 → A 124 5 = 125 → A 125 = M 125 → ∃ Mr Gr q b, rgB (gN G 14 0) Gr A Mr n ∧ M_X11_ring (A, gN G 14 0) 124 n = rgE b ∧ ((M_X4_take (N, gN G 14 0) R).bind fun h => M_X4_read_w13 FU h R 0) = some q ∧ FnK (gN G 14 0) Gr R n sp (R + 1) (M 1) N Mr q b := by
      intro A A6 A5 A125
      obtain ⟨Mr, Gr, hB, hr⟩ := ring_ref (A := A) (G := gN G 14 0) (n := n) hGc y.1 (by omega) A6 t3 y.2
      have hB0 := hB
      obtain ⟨c1, c2, c3, c4, c5, ⟨d4, d6, d7, d8, d9, d13⟩, c7, c8, c9⟩ := hB0
      rw [hGx] at c2 c4 c7 c8 c9 d4
      have e1 : N 1 = M 1 := n1 1 (by omega) (by omega) (by omega)
      have hls : lsB (gN G 14 0) Gr R n sp (R + 1) (M 1) N Mr := by
        refine ⟨⟨hGc, by omega, kR, z2, z3, y.1, by omega, z4, fun i i0 i1 => ?_⟩, ⟨c1, ?_, d7, y.1, by omega, d4, by omega, fun i i0 i1 => ?_⟩, e1, c2, by omega⟩
        · rw [e1]
          have := t4 i i0 (by omega)
          omega
        · rw [c5 5 (by omega) (by omega) (by omega) (by omega)]; exact A5
        · rw [c4 125 (by omega) (by omega), A125]
          exact t4 i i0 (by omega)
      obtain ⟨q, hq, b, hb, hF⟩ := s_start hls z7 d8 d9 z0 z1 d13 (nLD Mr (R + 1) c7 c8 c9)
      exact ⟨Mr, Gr, q, b, hB, by rw [hr, hb, Option.bind_some], hq, hF⟩
    have N124 : N 124 = M 124 := n1 124 (by omega) (by omega) (by omega)
    have N125 : N 125 = M 125 := n1 125 (by omega) (by omega) (by omega)
    obtain ⟨Mr0, Gr0, q, b0, -, -, hq, Mc1, Mr1, -, hf, hsh, hc⟩ := key N (by rw [N124]; exact t1) (by rw [N124]; exact hpr.p5) N125
    have hcT := fun (_ : True) => hc
    clear hc
    have fc : ∀ a, a ≠ 0 → a ≠ R → ¬ (sp ≤ a ∧ a ≤ sp + 10) → Mc1 a = M a := fun a a1 a2 a3 => (hf.1 a a2 a3).trans (n1 a a1 a2 a3)
    have f0 : ∀ k, k ≠ 1 → Mc1 0 k = M 0 k := fun k hk => by rw [hf.1 0 (by omega) (by omega)]; exact n2 k hk
    have f01 : Mc1 0 1 = 0 := by rw [hf.1 0 (by omega) (by omega)]; exact n3
    have M124 : Mc1 124 = M 124 := fc 124 (by omega) (by omega) (by omega)
    have M125 : Mc1 125 = M 125 := fc 125 (by omega) (by omega) (by omega)
    rw [hq, Option.bind_some] at hcl
    rcases hcT trivial with ⟨rfl, y0, -, -, -⟩ | ⟨rfl, -⟩
    all_goals clear hcT
    · obtain ⟨_, hC, C, rfl, hCd⟩ := c_good (M := Mc1) (td := td) (sp := sp) (R := R) hGc kR (by omega) (by omega) (by rw [f0 2 (by omega)]; exact m2) (by rw [f0 3 (by omega)]; exact m3) (by rw [f0 4 (by omega)]; exact hp0.p4) (by rw [f0 7 (by omega)]; exact hp0.p7) (by rw [f0 10 (by omega)]; exact hp0.p10) hsh.1.1 (by unfold shW mW zoW at *; rw [fc 24 (by omega) (by omega) (by omega), fc (24 + 1) (by omega) (by omega) (by omega), fc (24 + 2) (by omega) (by omega) (by omega), fc (24 + 3) (by omega) (by omega) (by omega)]; exact hw24) hsh.2
      have C124 : C 124 = M 124 := by rw [hCd.1 124 (by omega) (by omega) (by omega) (by omega)]; exact M124
      have C125 : C 125 = M 125 := by rw [hCd.1 125 (by omega) (by omega) (by omega) (by omega)]; exact M125
      obtain ⟨Mr2, Gr2, q2, b2, hB2, hr2, hq2, Mc3, Mr3, rfl, hf3, hsh3, hc3⟩ := key C (by rw [C124]; exact t1) (by rw [C124]; exact hpr.p5) C125
      rw [hq] at hq2
      have hq2 := Option.some.inj hq2
      rcases hc3 with ⟨rfl, -, -, y13, wd, hi, tw, mk, gs, sn, tp, hLD⟩ | ⟨rfl, -⟩
      · have e3 : Mc1 = Mc3 := by
          have := congrArg (fun z => z.1.1) hq2
          exact this
        subst e3
        have hnn : Mc1 (sp + 1) 2 = tw := hLD.2.2.1.1.2.2.1
        obtain ⟨F, hrf, hI⟩ := ring_good (M := M) (C := C) h0 hsp hRx fc f0 f01 C124 hB2 hf3 hCd y0 y13 tp hLD
        rw [hnn] at hC
        exact ⟨(C, gN G 14 0), (F, Gr2), tw, hcl.trans hC, hr2.trans hrf, hI⟩
      · exfalso
        have := congrArg (fun z => z.2) hq2
        exact absurd (show (1 : Int) = 0 from this) (by decide)
    · obtain ⟨_, hC, C, rfl, hCd⟩ := c_bad (M := Mc1) (R := R) hGc kR (by omega)
      have C124 : C 124 = M 124 := by rw [hCd.1 124 (by omega)]; exact M124
      have C125 : C 125 = M 125 := by rw [hCd.1 125 (by omega)]; exact M125
      obtain ⟨Mr2, Gr2, q2, b2, hB2, hr2, hq2, Mc3, Mr3, rfl, hf3, hsh3, hc3⟩ := key C (by rw [C124]; exact t1) (by rw [C124]; exact hpr.p5) C125
      rw [hq] at hq2
      have hq2 := Option.some.inj hq2
      rcases hc3 with ⟨rfl, -, -, y13, -⟩ | ⟨rfl, hX⟩
      · exfalso
        have := congrArg (fun z => z.2) hq2
        exact absurd (show (0 : Int) = 1 from this) (by decide)
      · have e3 : Mc1 = Mc3 := by
          have := congrArg (fun z => z.1.1) hq2
          exact this
        subst e3
        obtain ⟨F, hrf, hI⟩ := ring_bad (M := M) (C := C) h0 hsp hRx fc f0 f01 C124 hB2 hf3 hCd hsh hX
        exact ⟨(C, gN G 14 0), (F, Gr2), -1, hcl.trans hC, hr2.trans hrf, hI⟩
  · have hcl : M_X9_ring (M, G) 0 n = some ((trM M 2, G), -1) := by
      refine Ok.eq ?_
      unfold M_X9_ring
      by_cases c : n < 0
      · repeat' (with_reducible first | refine k_gf (by first | assumption | omega) (by first | assumption | ((try simp (disch := omega) only [sr_s, sr_a, sr_sr, u1_s, u1_k]); exact rfl)) ?_ | refine k_gr (by first | assumption | omega) (by first | assumption | ((try simp (disch := omega) only [sr_s, sr_a, sr_sr, u1_s, u1_k]); exact rfl)) (by omega) ?_ | refine k_ald (by first | assumption | omega) (by first | assumption | exact rfl) (by omega) (by omega) (by omega) (by first | assumption | ((try simp (disch := omega) only [sr_s, sr_a, sr_sr, u1_s, u1_k]); exact rfl)) ?_ | refine k_ifT (by first | (simp (disch := omega) only [w32_id]; first | done | omega) | omega) ?_ | refine k_ifF (by first | (simp (disch := omega) only [w32_id]; first | done | omega) | omega) ?_ | refine k_pf (by first | assumption | omega) (by (try simp (disch := omega) only [sr_s, sr_a, sr_sr, u1_u1]); exact rfl) ?_ | refine k_ast (by first | assumption | omega) (by first | assumption | exact rfl) (by omega) (by omega) (by omega) (by (try simp (disch := omega) only [sr_s, sr_a, sr_sr, u1_u1]); exact rfl) ?_ | refine k_irm (by omega) (by omega) (by omega) (by omega) ?_ | refine k_idv (by omega) (by omega) (by omega) (by omega) ?_ | refine k_tk (by first | assumption | omega) ?_ | refine k_rp (by omega) ?_ | refine k_aldR (by first | assumption | omega) (by first | assumption | exact rfl) (by omega) (by omega) (by omega) (by first | assumption | ((try simp (disch := omega) only [sr_s, sr_a, sr_sr, u1_s, u1_k]); exact rfl)) (by omega) ?_ | refine k_astR (by first | assumption | omega) (by first | assumption | exact rfl) (by omega) (by omega) (by omega) (by first | assumption | omega) (by (try simp (disch := omega) only [sr_s, sr_a, sr_sr, u1_u1]); exact rfl) ?_ | refine k_pz (by first | assumption | omega) (by omega) (by (try simp (disch := omega) only [sr_s, sr_a, sr_sr, u1_u1]); exact rfl) ?_ | refine k_alen (by first | assumption | omega) (by first | assumption | exact rfl) ?_ | refine k_cpy (by first | assumption | omega) (by first | assumption | omega) (by first | assumption | exact rfl) (by first | assumption | exact rfl) (by omega) (by omega) (by omega) (by omega) (by omega) (by omega) (by omega) (by omega) (by (try simp (disch := omega) only [sr_s, sr_a, sr_sr, u1_u1]); exact rfl) ?_)
        exact k_bd (X9_refused_ok hG) (Ok.ret rfl)
      · repeat' (with_reducible first | refine k_gf (by first | assumption | omega) (by first | assumption | ((try simp (disch := omega) only [sr_s, sr_a, sr_sr, u1_s, u1_k]); exact rfl)) ?_ | refine k_gr (by first | assumption | omega) (by first | assumption | ((try simp (disch := omega) only [sr_s, sr_a, sr_sr, u1_s, u1_k]); exact rfl)) (by omega) ?_ | refine k_ald (by first | assumption | omega) (by first | assumption | exact rfl) (by omega) (by omega) (by omega) (by first | assumption | ((try simp (disch := omega) only [sr_s, sr_a, sr_sr, u1_s, u1_k]); exact rfl)) ?_ | refine k_ifT (by first | (simp (disch := omega) only [w32_id]; first | done | omega) | omega) ?_ | refine k_ifF (by first | (simp (disch := omega) only [w32_id]; first | done | omega) | omega) ?_ | refine k_pf (by first | assumption | omega) (by (try simp (disch := omega) only [sr_s, sr_a, sr_sr, u1_u1]); exact rfl) ?_ | refine k_ast (by first | assumption | omega) (by first | assumption | exact rfl) (by omega) (by omega) (by omega) (by (try simp (disch := omega) only [sr_s, sr_a, sr_sr, u1_u1]); exact rfl) ?_ | refine k_irm (by omega) (by omega) (by omega) (by omega) ?_ | refine k_idv (by omega) (by omega) (by omega) (by omega) ?_ | refine k_tk (by first | assumption | omega) ?_ | refine k_rp (by omega) ?_ | refine k_aldR (by first | assumption | omega) (by first | assumption | exact rfl) (by omega) (by omega) (by omega) (by first | assumption | ((try simp (disch := omega) only [sr_s, sr_a, sr_sr, u1_s, u1_k]); exact rfl)) (by omega) ?_ | refine k_astR (by first | assumption | omega) (by first | assumption | exact rfl) (by omega) (by omega) (by omega) (by first | assumption | omega) (by (try simp (disch := omega) only [sr_s, sr_a, sr_sr, u1_u1]); exact rfl) ?_ | refine k_pz (by first | assumption | omega) (by omega) (by (try simp (disch := omega) only [sr_s, sr_a, sr_sr, u1_u1]); exact rfl) ?_ | refine k_alen (by first | assumption | omega) (by first | assumption | exact rfl) ?_ | refine k_cpy (by first | assumption | omega) (by first | assumption | omega) (by first | assumption | exact rfl) (by first | assumption | exact rfl) (by omega) (by omega) (by omega) (by omega) (by omega) (by omega) (by omega) (by omega) (by (try simp (disch := omega) only [sr_s, sr_a, sr_sr, u1_u1]); exact rfl) ?_)
        exact k_bd (X9_refused_ok hG) (Ok.ret rfl)
    have q6 : thM (trM M 2) 124 6 = M 0 1 := by unfold thM trM; rw [sr_s, u1_k _ _ (by omega), sr_a _ _ (by omega)]; exact t1
    have hrf : M_X11_ring (trM M 2, G) 124 n = some ((rtM (thM (trM M 2)) 2, G), -1) := by
      refine Ok.eq ?_
      unfold M_X11_ring
      refine k_tk k124 (k_pf k124 (M' := thM (trM M 2)) rfl ?_)
      by_cases c : n < 0
      · repeat' (with_reducible first | refine k_gf (by first | assumption | omega) (by first | assumption | ((try simp (disch := omega) only [sr_s, sr_a, sr_sr, u1_s, u1_k]); exact rfl)) ?_ | refine k_gr (by first | assumption | omega) (by first | assumption | ((try simp (disch := omega) only [sr_s, sr_a, sr_sr, u1_s, u1_k]); exact rfl)) (by omega) ?_ | refine k_ald (by first | assumption | omega) (by first | assumption | exact rfl) (by omega) (by omega) (by omega) (by first | assumption | ((try simp (disch := omega) only [sr_s, sr_a, sr_sr, u1_s, u1_k]); exact rfl)) ?_ | refine k_ifT (by first | (simp (disch := omega) only [w32_id]; first | done | omega) | omega) ?_ | refine k_ifF (by first | (simp (disch := omega) only [w32_id]; first | done | omega) | omega) ?_ | refine k_pf (by first | assumption | omega) (by (try simp (disch := omega) only [sr_s, sr_a, sr_sr, u1_u1]); exact rfl) ?_ | refine k_ast (by first | assumption | omega) (by first | assumption | exact rfl) (by omega) (by omega) (by omega) (by (try simp (disch := omega) only [sr_s, sr_a, sr_sr, u1_u1]); exact rfl) ?_ | refine k_irm (by omega) (by omega) (by omega) (by omega) ?_ | refine k_idv (by omega) (by omega) (by omega) (by omega) ?_ | refine k_tk (by first | assumption | omega) ?_ | refine k_rp (by omega) ?_ | refine k_aldR (by first | assumption | omega) (by first | assumption | exact rfl) (by omega) (by omega) (by omega) (by first | assumption | ((try simp (disch := omega) only [sr_s, sr_a, sr_sr, u1_s, u1_k]); exact rfl)) (by omega) ?_ | refine k_astR (by first | assumption | omega) (by first | assumption | exact rfl) (by omega) (by omega) (by omega) (by first | assumption | omega) (by (try simp (disch := omega) only [sr_s, sr_a, sr_sr, u1_u1]); exact rfl) ?_ | refine k_pz (by first | assumption | omega) (by omega) (by (try simp (disch := omega) only [sr_s, sr_a, sr_sr, u1_u1]); exact rfl) ?_ | refine k_alen (by first | assumption | omega) (by first | assumption | exact rfl) ?_ | refine k_cpy (by first | assumption | omega) (by first | assumption | omega) (by first | assumption | exact rfl) (by first | assumption | exact rfl) (by omega) (by omega) (by omega) (by omega) (by omega) (by omega) (by omega) (by omega) (by (try simp (disch := omega) only [sr_s, sr_a, sr_sr, u1_u1]); exact rfl) ?_)
        exact k_bd (X11_refused_ok hG) (Ok.ret rfl)
      · repeat' (with_reducible first | refine k_gf (by first | assumption | omega) (by first | assumption | ((try simp (disch := omega) only [sr_s, sr_a, sr_sr, u1_s, u1_k, q6]); exact rfl)) ?_ | refine k_gr (by first | assumption | omega) (by first | assumption | ((try simp (disch := omega) only [sr_s, sr_a, sr_sr, u1_s, u1_k, q6]); exact rfl)) (by omega) ?_ | refine k_ald (by first | assumption | omega) (by first | assumption | exact rfl) (by omega) (by omega) (by omega) (by first | assumption | ((try simp (disch := omega) only [sr_s, sr_a, sr_sr, u1_s, u1_k, q6]); exact rfl)) ?_ | refine k_ifT (by first | (simp (disch := omega) only [w32_id]; first | done | omega) | omega) ?_ | refine k_ifF (by first | (simp (disch := omega) only [w32_id]; first | done | omega) | omega) ?_ | refine k_pf (by first | assumption | omega) (by (try simp (disch := omega) only [sr_s, sr_a, sr_sr, u1_u1, q6]); exact rfl) ?_ | refine k_ast (by first | assumption | omega) (by first | assumption | exact rfl) (by omega) (by omega) (by omega) (by (try simp (disch := omega) only [sr_s, sr_a, sr_sr, u1_u1, q6]); exact rfl) ?_ | refine k_irm (by omega) (by omega) (by omega) (by omega) ?_ | refine k_idv (by omega) (by omega) (by omega) (by omega) ?_ | refine k_tk (by first | assumption | omega) ?_ | refine k_rp (by omega) ?_ | refine k_aldR (by first | assumption | omega) (by first | assumption | exact rfl) (by omega) (by omega) (by omega) (by first | assumption | ((try simp (disch := omega) only [sr_s, sr_a, sr_sr, u1_s, u1_k, q6]); exact rfl)) (by omega) ?_ | refine k_astR (by first | assumption | omega) (by first | assumption | exact rfl) (by omega) (by omega) (by omega) (by first | assumption | omega) (by (try simp (disch := omega) only [sr_s, sr_a, sr_sr, u1_u1, q6]); exact rfl) ?_ | refine k_pz (by first | assumption | omega) (by omega) (by (try simp (disch := omega) only [sr_s, sr_a, sr_sr, u1_u1, q6]); exact rfl) ?_ | refine k_alen (by first | assumption | omega) (by first | assumption | exact rfl) ?_ | refine k_cpy (by first | assumption | omega) (by first | assumption | omega) (by first | assumption | exact rfl) (by first | assumption | exact rfl) (by omega) (by omega) (by omega) (by omega) (by omega) (by omega) (by omega) (by omega) (by (try simp (disch := omega) only [sr_s, sr_a, sr_sr, u1_u1, q6]); exact rfl) ?_)
        exact k_bd (X11_refused_ok hG) (Ok.ret rfl)
    have hcq := cQ.tr h0.2.1 2
    have h1 := h0.cl hcq.1
    have hth := rQ.th h1.2.2.1.2 0
    have h2 := h1.rf hth
    have hrq := rQ.tr h2.2.2.1.2 2
    exact ⟨_, _, -1, hcl, hrf, Inv.q h0 hcq.1 (hth.trans hrq.1) hcq.2 hrq.2.1 hrq.2.2 (by omega) (by omega) (by omega)⟩
end QR
