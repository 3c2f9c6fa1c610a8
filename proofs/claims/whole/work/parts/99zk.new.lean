/-! new objects; the readers' beginning -/
/-- kinds and lengths with one more object -/
def gN (G : GG) (t : Nat) (n : Int) : GG := (fun a => if a = G.2.2 then t else G.1 a, fun a => if a = G.2.2 then n else G.2.1 a, G.2.2 + 1)
section NW
variable {M N : Int → Int → Int} {G : GG} {β : Type} {P : β → Prop} {R sp n rd e : Int} {f : Int → Int}
theorem nw_eq (t : Nat) (n d : Int) : nw t n d (M, G) = (sr M G.2.2 (fun _ => d), gN G t n) := by
  unfold nw gN sr
  simp only [Prod.mk.injEq, and_true]
  funext a k
  by_cases y : a = G.2.2
  · simp [y]
  · simp [y]
theorem nwo_eq (ci : Nat) (d : Int → Int) : nwo ci d (M, G) = (sr M G.2.2 d, gN G (10 + ci) 0) := by
  unfold nwo gN sr
  simp only [Prod.mk.injEq, and_true]
  funext a k
  by_cases y : a = G.2.2
  · simp [y]
  · simp [y]
theorem gN_all {t : Nat} {n : Int} (h : gAll G) : gAll (gN G t n) := by
  obtain ⟨h1, h2⟩ := h
  refine ⟨fun a ha => ?_, by show 146 ≤ G.2.2 + 1; omega⟩
  have e : ¬ (a : Int) = G.2.2 := by omega
  show (if (a : Int) = G.2.2 then t else G.1 a) = _ ∧ (if (a : Int) = G.2.2 then n else G.2.1 a) = _
  rw [if_neg e, if_neg e]
  exact h1 a ha
theorem gN_old {t : Nat} {n a : Int} (h : a ≠ G.2.2) : (gN G t n).1 a = G.1 a ∧ (gN G t n).2.1 a = G.2.1 a := ⟨if_neg h, if_neg h⟩
theorem gN_new {t : Nat} {n : Int} : (gN G t n).1 G.2.2 = t ∧ (gN G t n).2.1 G.2.2 = n := ⟨if_pos rfl, if_pos rfl⟩
/-- the class's reader, new -/
theorem X4_init_ok (hG : gAll G) (kR : G.1 R = 14) (n0 : 0 ≤ n) (n9 : n ≤ 900) (s0 : 0 ≤ sp) : Ok (M_X4_init (M, G) R 1 n sp) (fun h => ∃ N, h = (N, G) ∧ (∀ a, a ≠ R → N a = M a) ∧ N R 0 = 0 ∧ N R 1 = -1 ∧ N R 2 = 1 ∧ N R 3 = n ∧ N R 4 = sp ∧ N R 7 = 0) := by
  have k1 := gk_1 hG
  have l1 := gl_1 hG
  have hmin : imin n 900 = n := by
    unfold imin
    rw [w32_id (by omega) (by omega), w32_id (by omega) (by omega)]
    split <;> omega
  unfold M_X4_init
  repeat' (with_reducible first | refine k_gf (by first | assumption | omega) (by first | assumption | ((try simp (disch := omega) only [sr_s, sr_a, sr_sr, u1_s, u1_k]); exact rfl)) ?_ | refine k_gr (by first | assumption | omega) (by first | assumption | ((try simp (disch := omega) only [sr_s, sr_a, sr_sr, u1_s, u1_k]); exact rfl)) (by omega) ?_ | refine k_ald (by first | assumption | omega) (by first | assumption | exact rfl) (by omega) (by omega) (by omega) (by first | assumption | ((try simp (disch := omega) only [sr_s, sr_a, sr_sr, u1_s, u1_k]); exact rfl)) ?_ | refine k_ifT (by first | (simp (disch := omega) only [w32_id]; first | done | omega) | omega) ?_ | refine k_ifF (by first | (simp (disch := omega) only [w32_id]; first | done | omega) | omega) ?_ | refine k_pf (by first | assumption | omega) (by (try simp (disch := omega) only [sr_s, sr_a, sr_sr, u1_u1]); exact rfl) ?_ | refine k_ast (by first | assumption | omega) (by first | assumption | exact rfl) (by omega) (by omega) (by omega) (by (try simp (disch := omega) only [sr_s, sr_a, sr_sr, u1_u1]); exact rfl) ?_ | refine k_irm (by omega) (by omega) (by omega) (by omega) ?_ | refine k_idv (by omega) (by omega) (by omega) (by omega) ?_ | refine k_tk (by first | assumption | omega) ?_ | refine k_rp (by omega) ?_ | refine k_aldR (by first | assumption | omega) (by first | assumption | exact rfl) (by omega) (by omega) (by omega) (by first | assumption | ((try simp (disch := omega) only [sr_s, sr_a, sr_sr, u1_s, u1_k]); exact rfl)) (by omega) ?_ | refine k_astR (by first | assumption | omega) (by first | assumption | exact rfl) (by omega) (by omega) (by omega) (by first | assumption | omega) (by (try simp (disch := omega) only [sr_s, sr_a, sr_sr, u1_u1]); exact rfl) ?_ | refine k_pz (by first | assumption | omega) (by omega) (by (try simp (disch := omega) only [sr_s, sr_a, sr_sr, u1_u1]); exact rfl) ?_ | refine k_alen (by first | assumption | omega) (by first | assumption | exact rfl) ?_ | refine k_cpy (by first | assumption | omega) (by first | assumption | omega) (by first | assumption | exact rfl) (by first | assumption | exact rfl) (by omega) (by omega) (by omega) (by omega) (by omega) (by omega) (by omega) (by omega) (by (try simp (disch := omega) only [sr_s, sr_a, sr_sr, u1_u1]); exact rfl) ?_)
  rw [hmin]
  repeat' (with_reducible first | refine k_gf (by first | assumption | omega) (by first | assumption | ((try simp (disch := omega) only [sr_s, sr_a, sr_sr, u1_s, u1_k]); exact rfl)) ?_ | refine k_gr (by first | assumption | omega) (by first | assumption | ((try simp (disch := omega) only [sr_s, sr_a, sr_sr, u1_s, u1_k]); exact rfl)) (by omega) ?_ | refine k_ald (by first | assumption | omega) (by first | assumption | exact rfl) (by omega) (by omega) (by omega) (by first | assumption | ((try simp (disch := omega) only [sr_s, sr_a, sr_sr, u1_s, u1_k]); exact rfl)) ?_ | refine k_ifT (by first | (simp (disch := omega) only [w32_id]; first | done | omega) | omega) ?_ | refine k_ifF (by first | (simp (disch := omega) only [w32_id]; first | done | omega) | omega) ?_ | refine k_pf (by first | assumption | omega) (by (try simp (disch := omega) only [sr_s, sr_a, sr_sr, u1_u1]); exact rfl) ?_ | refine k_ast (by first | assumption | omega) (by first | assumption | exact rfl) (by omega) (by omega) (by omega) (by (try simp (disch := omega) only [sr_s, sr_a, sr_sr, u1_u1]); exact rfl) ?_ | refine k_irm (by omega) (by omega) (by omega) (by omega) ?_ | refine k_idv (by omega) (by omega) (by omega) (by omega) ?_ | refine k_tk (by first | assumption | omega) ?_ | refine k_rp (by omega) ?_ | refine k_aldR (by first | assumption | omega) (by first | assumption | exact rfl) (by omega) (by omega) (by omega) (by first | assumption | ((try simp (disch := omega) only [sr_s, sr_a, sr_sr, u1_s, u1_k]); exact rfl)) (by omega) ?_ | refine k_astR (by first | assumption | omega) (by first | assumption | exact rfl) (by omega) (by omega) (by omega) (by first | assumption | omega) (by (try simp (disch := omega) only [sr_s, sr_a, sr_sr, u1_u1]); exact rfl) ?_ | refine k_pz (by first | assumption | omega) (by omega) (by (try simp (disch := omega) only [sr_s, sr_a, sr_sr, u1_u1]); exact rfl) ?_ | refine k_alen (by first | assumption | omega) (by first | assumption | exact rfl) ?_ | refine k_cpy (by first | assumption | omega) (by first | assumption | omega) (by first | assumption | exact rfl) (by first | assumption | exact rfl) (by omega) (by omega) (by omega) (by omega) (by omega) (by omega) (by omega) (by omega) (by (try simp (disch := omega) only [sr_s, sr_a, sr_sr, u1_u1]); exact rfl) ?_)
  refine Ok.ret ⟨_, rfl, fun a ha => ?_, ?_, ?_, ?_, ?_, ?_, ?_⟩
  · simp (disch := omega) only [sr_a]
  all_goals simp (disch := omega) only [sr_s, u1_s, u1_k]
theorem in_step {j n d : Int} {T : Nat} {f : Hp → Option β} (kd : G.1 rd = 20) (hlt : rd ≠ G.2.2) (h0 : 0 ≤ G.2.2) (h : Ok (f (sr (sr M G.2.2 (fun _ => d)) rd (u1 (M rd) j G.2.2), gN G T n)) P) : Ok (nb (nw T n d (M, G)) (M, G).2.2.2 fun h x => rp x (pf 20 h rd j x) fun h => f h) P := by
  rw [nw_eq]
  show Ok (rp G.2.2 (pf 20 (sr M G.2.2 (fun _ => d), gN G T n) rd j G.2.2) fun h => f h) P
  refine k_rp h0 ?_
  refine k_pf (by rw [(gN_old hlt).1]; exact kd) ?_ h
  rw [sr_a _ _ hlt]
/-- the reference's ring, new -/
theorem X10_init_ok (hG : gAll G) (hx : G.2.2 = rd + 1) (hrd : 146 ≤ rd) (kd : G.1 rd = 20) : Ok (M_X10_init (M, G) rd) (fun h => ∃ N G', h = (N, G') ∧ gAll G' ∧ gRg G' rd ∧ G'.2.2 = rd + 10 ∧ (∀ a, a < rd → G'.1 a = G.1 a ∧ G'.2.1 a = G.2.1 a) ∧ (∀ a, a < rd → N a = M a) ∧ pRg (N rd) rd ∧ (∀ j, ¬ (7 ≤ j ∧ j ≤ 15) → N rd j = M rd j) ∧ ∀ a, rd < a → a ≤ rd + 9 → ∀ j, N a j = 0) := by
  have e : ∀ (G : GG) (t : Nat) (n : Int), (gN G t n).2.2 = G.2.2 + 1 := fun _ _ _ => rfl
  have hk : ∀ (G : GG) (t : Nat) (n : Int), G.1 rd = 20 → rd ≠ G.2.2 → (gN G t n).1 rd = 20 := fun G t n h h2 => by rw [(gN_old h2).1]; exact h
  have q1 := hk G 1 216 kd (by omega)
  have q2 := hk (gN G 1 216) 1 6 q1 (by rw [e]; omega)
  have q3 := hk _ 1 24 q2 (by rw [e, e]; omega)
  have q4 := hk _ 1 20 q3 (by rw [e, e, e]; omega)
  have q5 := hk _ 1 8 q4 (by rw [e, e, e, e]; omega)
  have q6 := hk _ 1 8 q5 (by rw [e, e, e, e, e]; omega)
  have q7 := hk _ 1 8 q6 (by rw [e, e, e, e, e, e]; omega)
  have q8 := hk _ 1 8 q7 (by rw [e, e, e, e, e, e, e]; omega)
  unfold M_X10_init
  refine k_tk kd ?_
  refine in_step kd (by omega) (by omega) ?_
  refine in_step q1 (by simp only [e]; omega) (by simp only [e]; omega) ?_
  refine in_step q2 (by simp only [e]; omega) (by simp only [e]; omega) ?_
  refine in_step q3 (by simp only [e]; omega) (by simp only [e]; omega) ?_
  refine in_step q4 (by simp only [e]; omega) (by simp only [e]; omega) ?_
  refine in_step q5 (by simp only [e]; omega) (by simp only [e]; omega) ?_
  refine in_step q6 (by simp only [e]; omega) (by simp only [e]; omega) ?_
  refine in_step q7 (by simp only [e]; omega) (by simp only [e]; omega) ?_
  refine in_step q8 (by simp only [e]; omega) (by simp only [e]; omega) ?_
  simp only [e, hx, sr_s, sr_sr]
  refine Ok.ret ⟨_, _, rfl, ?_, ?_, ?_, ?_, ?_, ?_, ?_, ?_⟩
  · exact gN_all (gN_all (gN_all (gN_all (gN_all (gN_all (gN_all (gN_all (gN_all hG))))))))
  · have hg : ∀ a, rd < a → a ≤ rd + 9 → ((gN (gN (gN (gN (gN (gN (gN (gN (gN G 1 216) 1 6) 1 24) 1 20) 1 8) 1 8) 1 8) 1 8) 2 6).1 a = if a = rd + 9 then 2 else 1) ∧ (gN (gN (gN (gN (gN (gN (gN (gN (gN G 1 216) 1 6) 1 24) 1 20) 1 8) 1 8) 1 8) 1 8) 2 6).2.1 a = if a = rd + 1 then 216 else if a = rd + 2 then 6 else if a = rd + 3 then 24 else if a = rd + 4 then 20 else if a = rd + 9 then 6 else 8 := fun a a0 a1 => by
      have hc : a = rd + 1 ∨ a = rd + 2 ∨ a = rd + 3 ∨ a = rd + 4 ∨ a = rd + 5 ∨ a = rd + 6 ∨ a = rd + 7 ∨ a = rd + 8 ∨ a = rd + 9 := by omega
      simp only [gN, hx]
      rcases hc with rfl | rfl | rfl | rfl | rfl | rfl | rfl | rfl | rfl <;> constructor <;> (repeat' split) <;> first | rfl | omega
    have h0 := hk _ 2 6 (hk _ 1 8 q7 (by simp only [e]; omega)) (by simp only [e]; omega)
    refine ⟨hrd, h0, ?_, ?_, ?_, ?_, ?_, ?_, ?_, ?_, ?_, ?_⟩
    · have := hg (rd + 1) (by omega) (by omega); rw [if_neg (by omega), if_pos rfl] at this; exact this
    · have := hg (rd + 2) (by omega) (by omega); rw [if_neg (by omega), if_neg (by omega), if_pos rfl] at this; exact this
    · have := hg (rd + 3) (by omega) (by omega); rw [if_neg (by omega), if_neg (by omega), if_neg (by omega), if_pos rfl] at this; exact this
    · have := hg (rd + 4) (by omega) (by omega); rw [if_neg (by omega), if_neg (by omega), if_neg (by omega), if_neg (by omega), if_pos rfl] at this; exact this
    · have := hg (rd + 5) (by omega) (by omega); rw [if_neg (by omega), if_neg (by omega), if_neg (by omega), if_neg (by omega), if_neg (by omega), if_neg (by omega)] at this; exact this
    · have := hg (rd + 6) (by omega) (by omega); rw [if_neg (by omega), if_neg (by omega), if_neg (by omega), if_neg (by omega), if_neg (by omega), if_neg (by omega)] at this; exact this
    · have := hg (rd + 7) (by omega) (by omega); rw [if_neg (by omega), if_neg (by omega), if_neg (by omega), if_neg (by omega), if_neg (by omega), if_neg (by omega)] at this; exact this
    · have := hg (rd + 8) (by omega) (by omega); rw [if_neg (by omega), if_neg (by omega), if_neg (by omega), if_neg (by omega), if_neg (by omega), if_neg (by omega)] at this; exact this
    · have := hg (rd + 9) (by omega) (by omega); rw [if_pos rfl, if_neg (by omega), if_neg (by omega), if_neg (by omega), if_neg (by omega), if_pos rfl] at this; exact this
    · simp only [e]; omega
  · simp only [e]; omega
  · intro a ha
    have hgo : ∀ (G : GG) (t : Nat) (n : Int), a ≠ G.2.2 → (gN G t n).1 a = G.1 a ∧ (gN G t n).2.1 a = G.2.1 a := fun G t n h => gN_old h
    simp only [gN, hx]
    constructor <;> (repeat' split) <;> first | rfl | omega
  · intro a ha
    simp (disch := omega) only [sr_a]
  · unfold pRg
    simp (disch := omega) only [sr_s, sr_a, u1_s, u1_k]
    refine ⟨?_, ?_, ?_, ?_, ?_, ?_, ?_, ?_, ?_⟩ <;> omega
  · intro j hj
    simp (disch := omega) only [sr_s, sr_a, u1_k]
  · intro a a0 a1 j
    simp only [sr]
    (repeat' split) <;> first | rfl | omega
end NW
