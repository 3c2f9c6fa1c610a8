/-! new objects; the readers' beginning -/
/-- kinds and lengths with one more object -/
def gN (G : GG) (t : Nat) (n : Int) : GG := (fun a => if a = G.2.2 then t else G.1 a, fun a => if a = G.2.2 then n else G.2.1 a, G.2.2 + 1)
section NW
variable {M N : Int → Int → Int} {G : GG} {β : Type} {P : β → Prop} {R sp n rd e : Int} {f : Int → Int}
theorem nw_eq (t : Nat) (n d : Int) : nw t n d (M, G) = (sr M G.2.2 (fun _ => d), gN G t n) := by
  unfold nw gN sr
  simp only [Prod.mk.injEq, and_true]
  funext a k
  by_cases y : a = G.2.2
  · simp [y]
  · simp [y]
theorem nwo_eq (ci : Nat) (d : Int → Int) : nwo ci d (M, G) = (sr M G.2.2 d, gN G (10 + ci) 0) := by
  unfold nwo gN sr
  simp only [Prod.mk.injEq, and_true]
  funext a k
  by_cases y : a = G.2.2
  · simp [y]
  · simp [y]
theorem gN_all {t : Nat} {n : Int} (h : gAll G) : gAll (gN G t n) := by
  obtain ⟨h1, h2⟩ := h
  refine ⟨fun a ha => ?_, by show 146 ≤ G.2.2 + 1; omega⟩
  have e : ¬ (a : Int) = G.2.2 := by omega
  show (if (a : Int) = G.2.2 then t else G.1 a) = _ ∧ (if (a : Int) = G.2.2 then n else G.2.1 a) = _
  rw [if_neg e, if_neg e]
  exact h1 a ha
theorem gN_old {t : Nat} {n a : Int} (h : a ≠ G.2.2) : (gN G t n).1 a = G.1 a ∧ (gN G t n).2.1 a = G.2.1 a := ⟨if_neg h, if_neg h⟩
theorem gN_new {t : Nat} {n : Int} : (gN G t n).1 G.2.2 = t ∧ (gN G t n).2.1 G.2.2 = n := ⟨if_pos rfl, if_pos rfl⟩
/-- the class's reader, new -/
theorem X4_init_ok (hG : gAll G) (kR : G.1 R = 14) (n0 : 0 ≤ n) (n9 : n ≤ 900) (s0 : 0 ≤ sp) : Ok (M_X4_init (M, G) R 1 n sp) (fun h => ∃ N, h = (N, G) ∧ (∀ a, a ≠ R → N a = M a) ∧ N R 0 = 0 ∧ N R 1 = -1 ∧ N R 2 = 1 ∧ N R 3 = n ∧ N R 4 = sp ∧ N R 7 = 0) := by
  have k1 := gk_1 hG
  have l1 := gl_1 hG
  have hmin : imin n 900 = n := by
    unfold imin
    rw [w32_id (by omega) (by omega), w32_id (by omega) (by omega)]
    split <;> omega
  unfold M_X4_init
  repeat' (with_reducible first | refine k_gf (by first | assumption | omega) (by first | assumption | ((try simp (disch := omega) only [sr_s, sr_a, sr_sr, u1_s, u1_k]); exact rfl)) ?_ | refine k_gr (by first | assumption | omega) (by first | assumption | ((try simp (disch := omega) only [sr_s, sr_a, sr_sr, u1_s, u1_k]); exact rfl)) (by omega) ?_ | refine k_ald (by first | assumption | omega) (by first | assumption | exact rfl) (by omega) (by omega) (by omega) (by first | assumption | ((try simp (disch := omega) only [sr_s, sr_a, sr_sr, u1_s, u1_k]); exact rfl)) ?_ | refine k_ifT (by first | (simp (disch := omega) only [w32_id]; first | done | omega) | omega) ?_ | refine k_ifF (by first | (simp (disch := omega) only [w32_id]; first | done | omega) | omega) ?_ | refine k_pf (by first | assumption | omega) (by (try simp (disch := omega) only [sr_s, sr_a, sr_sr, u1_u1]); exact rfl) ?_ | refine k_ast (by first | assumption | omega) (by first | assumption | exact rfl) (by omega) (by omega) (by omega) (by (try simp (disch := omega) only [sr_s, sr_a, sr_sr, u1_u1]); exact rfl) ?_ | refine k_irm (by omega) (by omega) (by omega) (by omega) ?_ | refine k_idv (by omega) (by omega) (by omega) (by omega) ?_ | refine k_tk (by first | assumption | omega) ?_ | refine k_rp (by omega) ?_ | refine k_aldR (by first | assumption | omega) (by first | assumption | exact rfl) (by omega) (by omega) (by omega) (by first | assumption | ((try simp (disch := omega) only [sr_s, sr_a, sr_sr, u1_s, u1_k]); exact rfl)) (by omega) ?_ | refine k_astR (by first | assumption | omega) (by first | assumption | exact rfl) (by omega) (by omega) (by omega) (by first | assumption | omega) (by (try simp (disch := omega) only [sr_s, sr_a, sr_sr, u1_u1]); exact rfl) ?_ | refine k_pz (by first | assumption | omega) (by omega) (by (try simp (disch := omega) only [sr_s, sr_a, sr_sr, u1_u1]); exact rfl) ?_ | refine k_alen (by first | assumption | omega) (by first | assumption | exact rfl) ?_ | refine k_cpy (by first | assumption | omega) (by first | assumption | omega) (by first | assumption | exact rfl) (by first | assumption | exact rfl) (by omega) (by omega) (by omega) (by omega) (by omega) (by omega) (by omega) (by omega) (by (try simp (disch := omega) only [sr_s, sr_a, sr_sr, u1_u1]); exact rfl) ?_)
  rw [hmin]
  repeat' (with_reducible first | refine k_gf (by first | assumption | omega) (by first | assumption | ((try simp (disch := omega) only [sr_s, sr_a, sr_sr, u1_s, u1_k]); exact rfl)) ?_ | refine k_gr (by first | assumption | omega) (by first | assumption | ((try simp (disch := omega) only [sr_s, sr_a, sr_sr, u1_s, u1_k]); exact rfl)) (by omega) ?_ | refine k_ald (by first | assumption | omega) (by first | assumption | exact rfl) (by omega) (by omega) (by omega) (by first | assumption | ((try simp (disch := omega) only [sr_s, sr_a, sr_sr, u1_s, u1_k]); exact rfl)) ?_ | refine k_ifT (by first | (simp (disch := omega) only [w32_id]; first | done | omega) | omega) ?_ | refine k_ifF (by first | (simp (disch := omega) only [w32_id]; first | done | omega) | omega) ?_ | refine k_pf (by first | assumption | omega) (by (try simp (disch := omega) only [sr_s, sr_a, sr_sr, u1_u1]); exact rfl) ?_ | refine k_ast (by first | assumption | omega) (by first | assumption | exact rfl) (by omega) (by omega) (by omega) (by (try simp (disch := omega) only [sr_s, sr_a, sr_sr, u1_u1]); exact rfl) ?_ | refine k_irm (by omega) (by omega) (by omega) (by omega) ?_ | refine k_idv (by omega) (by omega) (by omega) (by omega) ?_ | refine k_tk (by first | assumption | omega) ?_ | refine k_rp (by omega) ?_ | refine k_aldR (by first | assumption | omega) (by first | assumption | exact rfl) (by omega) (by omega) (by omega) (by first | assumption | ((try simp (disch := omega) only [sr_s, sr_a, sr_sr, u1_s, u1_k]); exact rfl)) (by omega) ?_ | refine k_astR (by first | assumption | omega) (by first | assumption | exact rfl) (by omega) (by omega) (by omega) (by first | assumption | omega) (by (try simp (disch := omega) only [sr_s, sr_a, sr_sr, u1_u1]); exact rfl) ?_ | refine k_pz (by first | assumption | omega) (by omega) (by (try simp (disch := omega) only [sr_s, sr_a, sr_sr, u1_u1]); exact rfl) ?_ | refine k_alen (by first | assumption | omega) (by first | assumption | exact rfl) ?_ | refine k_cpy (by first | assumption | omega) (by first | assumption | omega) (by first | assumption | exact rfl) (by first | assumption | exact rfl) (by omega) (by omega) (by omega) (by omega) (by omega) (by omega) (by omega) (by omega) (by (try simp (disch := omega) only [sr_s, sr_a, sr_sr, u1_u1]); exact rfl) ?_)
  refine Ok.ret ⟨_, rfl, fun a ha => ?_, ?_, ?_, ?_, ?_, ?_, ?_⟩
  · simp (disch := omega) only [sr_a]
  all_goals simp (disch := omega) only [sr_s, u1_s, u1_k]
/-- kinds and lengths kept -/
def kpG (G G' : GG) : Prop := ∀ a, a < G.2.2 → G'.1 a = G.1 a ∧ G'.2.1 a = G.2.1 a
theorem kpG.up {G1 G' : GG} {t : Nat} {n : Int} (e : G1 = gN G t n) (h : kpG G1 G') : kpG G G' := fun a ha => by
  have := h a (by rw [e]; show a < G.2.2 + 1; omega)
  rw [this.1, this.2, e]
  exact gN_old (by omega)
theorem kpG.nw {G1 G' : GG} {t : Nat} {n b : Int} (e : G1 = gN G t n) (hb : G.2.2 = b) (h : kpG G1 G') : G'.1 b = t ∧ G'.2.1 b = n := by
  have := h b (by rw [e]; show b < G.2.2 + 1; omega)
  rw [this.1, this.2, e, ← hb]
  exact gN_new
theorem kpG.refl : kpG G G := fun _ _ => ⟨rfl, rfl⟩
theorem in_step {j n d : Int} {T : Nat} {f : Hp → Option β} (kd : G.1 rd = 20) (hlt : rd < G.2.2) (h0 : 0 ≤ G.2.2) (h : ∀ M' G', G' = gN G T n → G'.2.2 = G.2.2 + 1 → G'.1 rd = 20 → (∀ a, a ≠ rd → a ≠ G.2.2 → M' a = M a) → M' rd = u1 (M rd) j G.2.2 → (∀ i, M' G.2.2 i = d) → Ok (f (M', G')) P) : Ok (nb (nw T n d (M, G)) (M, G).2.2.2 fun h x => rp x (pf 20 h rd j x) fun h => f h) P := by
  rw [nw_eq]
  show Ok (rp G.2.2 (pf 20 (sr M G.2.2 (fun _ => d), gN G T n) rd j G.2.2) fun h => f h) P
  have hk : (gN G T n).1 rd = 20 := by rw [(gN_old (by omega)).1]; exact kd
  refine k_rp h0 ?_
  refine k_pf hk rfl ?_
  refine h _ _ rfl rfl hk (fun a h1 h2 => ?_) ?_ (fun i => ?_)
  · rw [sr_a _ _ h1, sr_a _ _ h2]
  · rw [sr_s, sr_a _ _ (by omega)]
  · rw [sr_a _ _ (by omega), sr_s]
/-- the reference's ring, new -/
theorem X10_init_ok (hG : gAll G) (hx : G.2.2 = rd + 1) (hrd : 146 ≤ rd) (kd : G.1 rd = 20) : Ok (M_X10_init (M, G) rd) (fun h => ∃ N G', h = (N, G') ∧ gAll G' ∧ gRg G' rd ∧ G'.2.2 = rd + 10 ∧ (∀ a, a < rd → G'.1 a = G.1 a ∧ G'.2.1 a = G.2.1 a) ∧ (∀ a, a < rd → N a = M a) ∧ pRg (N rd) rd ∧ (∀ j, ¬ (7 ≤ j ∧ j ≤ 15) → N rd j = M rd j) ∧ ∀ a, rd < a → a ≤ rd + 9 → ∀ j, N a j = 0) := by
  unfold M_X10_init
  refine k_tk kd ?_
  have x0 := hx
  have q0 := kd
  refine in_step q0 (by omega) (by omega) ?_
  intro M1 G1 e1 x1 q1 a1 b1 c1
  rw [x0] at x1 a1 b1 c1
  have x1 : G1.2.2 = rd + 2 := by omega
  refine in_step q1 (by omega) (by omega) ?_
  intro M2 G2 e2 x2 q2 a2 b2 c2
  rw [x1] at x2 a2 b2 c2
  have x2 : G2.2.2 = rd + 3 := by omega
  refine in_step q2 (by omega) (by omega) ?_
  intro M3 G3 e3 x3 q3 a3 b3 c3
  rw [x2] at x3 a3 b3 c3
  have x3 : G3.2.2 = rd + 4 := by omega
  refine in_step q3 (by omega) (by omega) ?_
  intro M4 G4 e4 x4 q4 a4 b4 c4
  rw [x3] at x4 a4 b4 c4
  have x4 : G4.2.2 = rd + 5 := by omega
  refine in_step q4 (by omega) (by omega) ?_
  intro M5 G5 e5 x5 q5 a5 b5 c5
  rw [x4] at x5 a5 b5 c5
  have x5 : G5.2.2 = rd + 6 := by omega
  refine in_step q5 (by omega) (by omega) ?_
  intro M6 G6 e6 x6 q6 a6 b6 c6
  rw [x5] at x6 a6 b6 c6
  have x6 : G6.2.2 = rd + 7 := by omega
  refine in_step q6 (by omega) (by omega) ?_
  intro M7 G7 e7 x7 q7 a7 b7 c7
  rw [x6] at x7 a7 b7 c7
  have x7 : G7.2.2 = rd + 8 := by omega
  refine in_step q7 (by omega) (by omega) ?_
  intro M8 G8 e8 x8 q8 a8 b8 c8
  rw [x7] at x8 a8 b8 c8
  have x8 : G8.2.2 = rd + 9 := by omega
  refine in_step q8 (by omega) (by omega) ?_
  intro M9 G9 e9 x9 q9 a9 b9 c9
  rw [x8] at x9 a9 b9 c9
  have x9 : G9.2.2 = rd + 10 := by omega
  refine Ok.ret ⟨M9, G9, rfl, ?_, ?_, x9, ?_, ?_, ?_, ?_, ?_⟩
  · rw [e9, e8, e7, e6, e5, e4, e3, e2, e1]
    exact gN_all (gN_all (gN_all (gN_all (gN_all (gN_all (gN_all (gN_all (gN_all hG))))))))
  · have k9 : kpG G9 G9 := kpG.refl
    have k8 : kpG G8 G9 := kpG.up e9 k9
    have k7 : kpG G7 G9 := kpG.up e8 k8
    have k6 : kpG G6 G9 := kpG.up e7 k7
    have k5 : kpG G5 G9 := kpG.up e6 k6
    have k4 : kpG G4 G9 := kpG.up e5 k5
    have k3 : kpG G3 G9 := kpG.up e4 k4
    have k2 : kpG G2 G9 := kpG.up e3 k3
    have k1 : kpG G1 G9 := kpG.up e2 k2
    refine ⟨hrd, q9, kpG.nw e1 x0 k1, kpG.nw e2 x1 k2, kpG.nw e3 x2 k3, kpG.nw e4 x3 k4, kpG.nw e5 x4 k5, kpG.nw e6 x5 k6, kpG.nw e7 x6 k7, kpG.nw e8 x7 k8, kpG.nw e9 x8 k9, by omega⟩
  · have k9 : kpG G9 G9 := kpG.refl
    have k8 : kpG G8 G9 := kpG.up e9 k9
    have k7 : kpG G7 G9 := kpG.up e8 k8
    have k6 : kpG G6 G9 := kpG.up e7 k7
    have k5 : kpG G5 G9 := kpG.up e6 k6
    have k4 : kpG G4 G9 := kpG.up e5 k5
    have k3 : kpG G3 G9 := kpG.up e4 k4
    have k2 : kpG G2 G9 := kpG.up e3 k3
    have k1 : kpG G1 G9 := kpG.up e2 k2
    have k0 : kpG G G9 := kpG.up e1 k1
    exact fun a ha => k0 a (by omega)
  · intro a ha
    rw [a9 a (by omega) (by omega), a8 a (by omega) (by omega), a7 a (by omega) (by omega), a6 a (by omega) (by omega), a5 a (by omega) (by omega), a4 a (by omega) (by omega), a3 a (by omega) (by omega), a2 a (by omega) (by omega), a1 a (by omega) (by omega)]
  · unfold pRg
    rw [b9, b8, b7, b6, b5, b4, b3, b2, b1]
    simp (disch := omega) only [u1_s, u1_k]
    (first | trivial | exact ⟨trivial, trivial, trivial, trivial, trivial, trivial, trivial, trivial, rfl⟩)
  · intro j hj
    rw [b9, b8, b7, b6, b5, b4, b3, b2, b1]
    simp (disch := omega) only [u1_k]
  · intro a h0 h1 j
    have hc : a = rd + 1 ∨ a = rd + 2 ∨ a = rd + 3 ∨ a = rd + 4 ∨ a = rd + 5 ∨ a = rd + 6 ∨ a = rd + 7 ∨ a = rd + 8 ∨ a = rd + 9 := by omega
    rcases hc with y | y | y | y | y | y | y | y | y
    · rw [y, a9 _ (by omega) (by omega), a8 _ (by omega) (by omega), a7 _ (by omega) (by omega), a6 _ (by omega) (by omega), a5 _ (by omega) (by omega), a4 _ (by omega) (by omega), a3 _ (by omega) (by omega), a2 _ (by omega) (by omega)]; exact c1 j
    · rw [y, a9 _ (by omega) (by omega), a8 _ (by omega) (by omega), a7 _ (by omega) (by omega), a6 _ (by omega) (by omega), a5 _ (by omega) (by omega), a4 _ (by omega) (by omega), a3 _ (by omega) (by omega)]; exact c2 j
    · rw [y, a9 _ (by omega) (by omega), a8 _ (by omega) (by omega), a7 _ (by omega) (by omega), a6 _ (by omega) (by omega), a5 _ (by omega) (by omega), a4 _ (by omega) (by omega)]; exact c3 j
    · rw [y, a9 _ (by omega) (by omega), a8 _ (by omega) (by omega), a7 _ (by omega) (by omega), a6 _ (by omega) (by omega), a5 _ (by omega) (by omega)]; exact c4 j
    · rw [y, a9 _ (by omega) (by omega), a8 _ (by omega) (by omega), a7 _ (by omega) (by omega), a6 _ (by omega) (by omega)]; exact c5 j
    · rw [y, a9 _ (by omega) (by omega), a8 _ (by omega) (by omega), a7 _ (by omega) (by omega)]; exact c6 j
    · rw [y, a9 _ (by omega) (by omega), a8 _ (by omega) (by omega)]; exact c7 j
    · rw [y, a9 _ (by omega) (by omega)]; exact c8 j
    · rw [y]; exact c9 j
end NW
