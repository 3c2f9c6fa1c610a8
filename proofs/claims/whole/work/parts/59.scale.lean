/-! scale -/
def stE (p : Int × Int) : Int × Int := if p.2 = 0 then p else (p.2, p.1 % p.2)
def euS : Nat → Int × Int → Int × Int
  | 0, p => p
  | n + 1, p => stE (euS n p)
theorem euS_s : ∀ (n : Nat) (p : Int × Int), euS (n + 1) p = euS n (stE p)
  | 0, _ => rfl
  | n + 1, p => by
    show stE (euS (n + 1) p) = stE (euS n (stE p))
    rw [euS_s n p]
theorem euS_st {p : Int × Int} {i : Nat} (h : (euS i p).2 = 0) : ∀ d, euS (i + d) p = euS i p
  | 0 => rfl
  | d + 1 => by
    show stE (euS (i + d) p) = _
    rw [euS_st h d]
    unfold stE
    rw [if_pos h]
theorem euS_u {p : Int × Int} {i j : Nat} (hi : (euS i p).2 = 0) (hj : (euS j p).2 = 0) : euS i p = euS j p := by
  by_cases c : i ≤ j
  · have := euS_st hi (j - i)
    rw [show i + (j - i) = j by omega] at this
    exact this.symm
  · have := euS_st hj (i - j)
    rw [show j + (i - j) = i by omega] at this
    exact this
theorem mod_half {b r : Int} (h0 : 0 < r) (h1 : r < b) : 2 * (b % r) < b := by
  have h2 := Int.emod_lt_of_pos b h0
  have h3 := Int.emod_nonneg b (show r ≠ 0 by omega)
  by_cases c : 2 * r ≤ b
  · omega
  · have : b % r = b - r := by
      rw [← Int.sub_emod_right, Int.emod_eq_of_lt (by omega) (by omega)]
    omega
theorem euS_end : ∀ (k : Nat) (p : Int × Int), 0 ≤ p.1 → 0 ≤ p.2 → p.2 < 2 ^ k → (euS (2 * k) p).2 = 0
  | 0, p, _, h, h2 => by
    show p.2 = 0
    have : (2 : Int) ^ 0 = 1 := rfl
    omega
  | k + 1, p, h0, h, h2 => by
    rw [show 2 * (k + 1) = 2 * k + 1 + 1 by omega, euS_s, euS_s]
    have hp : (2 : Int) ^ (k + 1) = 2 ^ k * 2 := Int.pow_succ 2 k
    have hk : (0 : Int) < 2 ^ k := Int.pow_pos (by decide)
    by_cases z : p.2 = 0
    · have e : stE p = p := by unfold stE; rw [if_pos z]
      rw [e, e]
      exact euS_end k p h0 h (by omega)
    · have e : stE p = (p.2, p.1 % p.2) := by unfold stE; rw [if_neg z]
      have g1 := Int.emod_lt_of_pos p.1 (show 0 < p.2 by omega)
      have g2 := Int.emod_nonneg p.1 z
      rw [e]
      by_cases z2 : p.1 % p.2 = 0
      · have e2 : stE (p.2, p.1 % p.2) = (p.2, p.1 % p.2) := by unfold stE; exact if_pos z2
        rw [e2]
        exact euS_end k _ h g2 (by show p.1 % p.2 < _; omega)
      · have e2 : stE (p.2, p.1 % p.2) = (p.1 % p.2, p.2 % (p.1 % p.2)) := by unfold stE; exact if_neg z2
        rw [e2]
        have g3 := mod_half (b := p.2) (r := p.1 % p.2) (by omega) g1
        exact euS_end k _ g2 (Int.emod_nonneg _ z2) (by show p.2 % (p.1 % p.2) < _; omega)
def euB (p : Int × Int) : Prop := 1 ≤ p.1 ∧ p.1 ≤ 1000000000000 ∧ 0 ≤ p.2 ∧ p.2 ≤ 1000000000000
theorem euB_st {p : Int × Int} (h : euB p) : euB (stE p) := by
  unfold stE
  by_cases z : p.2 = 0
  · rw [if_pos z]; exact h
  · rw [if_neg z]
    unfold euB at *
    have g1 := Int.emod_lt_of_pos p.1 (show 0 < p.2 by omega)
    have g2 := Int.emod_nonneg p.1 z
    dsimp only
    omega
theorem euB_n {p : Int × Int} (h : euB p) : ∀ n, euB (euS n p)
  | 0 => h
  | n + 1 => euB_st (euB_n h n)
theorem euS_80 {p : Int × Int} (h : euB p) : ∃ m : Nat, m ≤ 80 ∧ (euS m p).2 = 0 := by
  unfold euB at h
  refine ⟨2 * 40, by omega, ?_⟩
  refine euS_end 40 p (by omega) (by omega) ?_
  have : (2 : Int) ^ 40 = 1099511627776 := by decide
  omega
theorem lcmp_p {x : Int} (h0 : 0 ≤ x) (h1 : x ≤ 1000000000000) : lcmp x 0 = if x = 0 then 0 else 1 := by
  unfold lcmp
  rw [w64_of (x := x) (by omega) (by omega), w64_of (x := 0) (by omega) (by omega)]
  by_cases z : x = 0
  · rw [if_neg (by omega), if_pos z, if_pos z]
  · rw [if_pos (by omega), if_neg z]
theorem lrm_p {x y : Int} (h0 : 0 ≤ x) (h1 : x ≤ 1000000000000) (h2 : 1 ≤ y) (h3 : y ≤ 1000000000000) : lrm x y = some (x % y) := by
  unfold lrm
  rw [w64_of (x := x) (by omega) (by omega), w64_of (x := y) (by omega) (by omega), if_neg (by omega), Int.tmod_eq_emod_of_nonneg h0]
theorem X9_commonDivisor_ok {h : Hp} {a b : Int} {m : Nat} (hm : m ≤ 80) (h80 : (euS m (a, b)).2 = 0) (hb : euB (a, b)) : M_X9_commonDivisor h a b = some (euS m (a, b)).1 := by
  have hB := euB_n hb
  refine Ok.eq ?_
  unfold M_X9_commonDivisor M_X9_commonDivisor_w9
  refine Ok.bind (Q := fun z => z = (euS m (a, b)).1) (wh_for (fun i s => s = ((euS i (a, b)).1, (euS i (a, b)).2, (i : Int))) _ 200 (by omega) rfl ?_ ?_) ?_
  · rintro i _ hi rfl
    have hBi := hB i
    unfold euB at hBi
    have hl := lcmp_p (x := (euS i (a, b)).2) (by omega) (by omega)
    unfold M_X9_commonDivisor_b9
    dsimp only
    refine k_ifT (by rw [w32_id (by omega) (by omega)]; omega) ?_
    by_cases z : (euS i (a, b)).2 = 0
    · rw [hl, if_pos z]
      refine k_ifF (by decide) (Ok.ret ?_)
      show (euS i (a, b)).1 = (euS m (a, b)).1
      rw [euS_u z h80]
    · rw [hl, if_neg z]
      refine k_ifT (by decide) (k_eq (lrm_p (by omega) (by omega) (by omega) (by omega)) (Ok.ret ?_))
      show (_, _, _) = ((stE (euS i (a, b))).1, (stE (euS i (a, b))).2, ((i + 1 : Nat) : Int))
      unfold stE
      rw [if_neg z]
      rfl
  · rintro _ rfl
    unfold M_X9_commonDivisor_b9
    dsimp only
    refine k_ifF (by decide) (Ok.ret ?_)
    show (euS 200 (a, b)).1 = (euS m (a, b)).1
    have h2 := euS_st h80 (200 - m)
    rw [show m + (200 - m) = 200 by omega] at h2
    rw [h2]
  · rintro _ rfl
    have hB8 := hB m
    unfold euB at hB8
    unfold M_X9_commonDivisor_p45
    have hl := lcmp_p (x := (euS m (a, b)).1) (by omega) (by omega)
    rw [if_neg (show ¬ (euS m (a, b)).1 = 0 by omega)] at hl
    rw [hl]
    exact k_ifT (by decide) (Ok.ret rfl)
theorem X11_common_ok {h : Hp} {a b : Int} {m : Nat} (hm : m ≤ 80) (h80 : (euS m (a, b)).2 = 0) (hb : euB (a, b)) : M_X11_common h a b = some (euS m (a, b)).1 := by
  have hB := euB_n hb
  refine Ok.eq ?_
  unfold M_X11_common M_X11_common_w6 M_X11_common_p31
  refine Ok.bind (Q := fun z => z = (euS m (a, b)).1) (wh_for (fun i s => s = euS i (a, b)) _ m (by omega) rfl ?_ ?_) ?_
  · rintro i _ hi rfl
    have hBi := hB i
    unfold euB at hBi
    have hl := lcmp_p (x := (euS i (a, b)).2) (by omega) (by omega)
    unfold M_X11_common_b6
    by_cases z : (euS i (a, b)).2 = 0
    · rw [hl, if_pos z]
      refine k_ifT (by decide) (Ok.ret ?_)
      show (euS i (a, b)).1 = (euS m (a, b)).1
      rw [euS_u z h80]
    · rw [hl, if_neg z]
      refine k_ifF (by decide) (k_eq (lrm_p (by omega) (by omega) (by omega) (by omega)) (Ok.ret ?_))
      show (_, _) = stE (euS i (a, b))
      unfold stE
      rw [if_neg z]
  · rintro _ rfl
    unfold M_X11_common_b6
    rw [lcmp_p (by omega) (by omega), if_pos h80]
    exact k_ifT (by decide) (Ok.ret rfl)
  · rintro _ rfl
    exact Ok.ret rfl
def scF (co er : Int → Int) : Nat → Int → Int × Int → Int × Int
  | 0, _, p => p
  | d + 1, x, p => if x < 0 then p else scF co er d (co x) (if er (4 * x) = 8 then (p.1 * er (4 * x + 1), p.2 * 10) else p)
def pwB : Nat → Int
  | 0 => 1
  | n + 1 => 10 * pwB n
theorem pwB_1 : ∀ n, 1 ≤ pwB n
  | 0 => by decide
  | n + 1 => by have := pwB_1 n; show 1 ≤ 10 * pwB n; omega
theorem pwB_m (a : Nat) : ∀ d, pwB a ≤ pwB (a + d)
  | 0 => Int.le_refl _
  | d + 1 => by have := pwB_m a d; have := pwB_1 (a + d); show pwB a ≤ 10 * pwB (a + d); omega
theorem scF_neg {co er : Int → Int} {x : Int} {p : Int × Int} (h : x < 0) : ∀ d, scF co er d x p = p
  | 0 => rfl
  | d + 1 => by unfold scF; rw [if_pos h]
theorem scF_b {co er : Int → Int} {tw : Int} (hco : ∀ i, -2 ≤ co i ∧ co i < tw) (he : ∀ x, 0 ≤ x → x < tw → er (4 * x) = 8 → 5 ≤ er (4 * x + 1) ∧ er (4 * x + 1) ≤ 9) : ∀ (d j : Nat) (x : Int) (p : Int × Int), x < tw → 1 ≤ p.1 → p.1 ≤ pwB j → 1 ≤ p.2 → p.2 ≤ pwB j → 1 ≤ (scF co er d x p).1 ∧ (scF co er d x p).1 ≤ pwB (j + d) ∧ 1 ≤ (scF co er d x p).2 ∧ (scF co er d x p).2 ≤ pwB (j + d)
  | 0, j, x, p, _, h1, h2, h3, h4 => ⟨h1, h2, h3, h4⟩
  | d + 1, j, x, p, hx, h1, h2, h3, h4 => by
    unfold scF
    have hm := pwB_m j (d + 1)
    by_cases c : x < 0
    · rw [if_pos c]; omega
    · rw [if_neg c, show j + (d + 1) = j + 1 + d by omega]
      have hs : pwB (j + 1) = 10 * pwB j := rfl
      by_cases c8 : er (4 * x) = 8
      · rw [if_pos c8]
        have hb := he x (by omega) hx c8
        have hk : er (4 * x + 1) = 5 ∨ er (4 * x + 1) = 6 ∨ er (4 * x + 1) = 7 ∨ er (4 * x + 1) = 8 ∨ er (4 * x + 1) = 9 := by omega
        refine scF_b hco he d (j + 1) (co x) _ (hco x).2 ?_ ?_ ?_ ?_
        · dsimp only; rcases hk with k | k | k | k | k <;> (rw [k]; omega)
        · dsimp only; rcases hk with k | k | k | k | k <;> (rw [k]; omega)
        · dsimp only; omega
        · dsimp only; omega
      · rw [if_neg c8]
        exact scF_b hco he d (j + 1) (co x) p (hco x).2 h1 (by omega) h3 (by omega)
section SC
variable {M M1 M2 N : Int → Int → Int} {G : GG} {td r rg t n lw : Int}
theorem ldv_p {x y : Int} (h2 : 1 ≤ y) (h3 : y ≤ 1000000000000) : ldv x y = some ((w64 x).tdiv (w64 y)) := by
  unfold ldv
  rw [if_neg (by rw [w64_of (x := y) (by omega) (by omega)]; omega)]
theorem scE (hwf : wfW (M 24 0) (M 24 1) (M 24 2) (M td 0) (M 26) (M 27) (M 24 6) (M 25)) (c : 0 ≤ t ∧ t < M 24 2) (hn : 0 ≤ n ∧ n ≤ 12) : euB (scF (M 26) (M 27) n.toNat t (1, 1)) := by
  obtain ⟨a1, a2, b1, b2, t1, t6, k2, k6, hco, her, het, hcz, s0, s1, hce⟩ := hwf
  have := scF_b (er := M 27) hco (fun x x0 x1 e => by
    have hE := het x x0 x1
    obtain ⟨-, -, -, q2, -, -, -, -, -, -, -, -, -, q8⟩ := hE
    exact ⟨q8 e, q2⟩) n.toNat 0 t (1, 1) c.2 (by decide) (by decide) (by decide) (by decide)
  have hm := pwB_m (0 + n.toNat) (12 - n.toNat)
  rw [show 0 + n.toNat + (12 - n.toNat) = 12 by omega] at hm
  have h12 : pwB 12 = 1000000000000 := by decide
  unfold euB
  omega
/-- what scale answers -/
def scV (p : Int × Int) (m : Nat) (lw : Int) : Int := if w32 lw = 0 then (w64 p.1).tdiv (w64 (euS m p).1) else (w64 p.2).tdiv (w64 (euS m p).1)
theorem X9_scale_loop (h0 : Inv0 M G td r) (hR : isR M G td rg) (c : 0 ≤ t ∧ t < M 24 2) (hn : 0 ≤ n ∧ n ≤ 12) {m : Nat} (hm : m ≤ 80) (hE : (euS m (scF (M 26) (M 27) n.toNat t (1, 1))).2 = 0) : Ok (M_X9_scale_w43 FU (M, G) 0 lw 1 1 t n) (cP M G (scV (scF (M 26) (M 27) n.toNat t (1, 1)) m lw) 0) := by
  have hG := h0.1.1
  have hp0 := h0.1.2.1
  obtain ⟨m3, m4, m5⟩ := h0.now
  have hh := h0.tw
  have hwf := hR.cl.2.2.2.2.1
  have hEB := scE hwf c hn
  have hco := hwf.2.2.2.2.2.2.2.2.1
  have her := hwf.2.2.2.2.2.2.2.2.2.1
  have p4 := pr0.p4 hp0
  have k0 := gk_0 hG
  have k24 := gk_24 hG
  have k26 := gk_26 hG
  have l26 := gl_26 hG
  have k27 := gk_27 hG
  have l27 := gl_27 hG
  unfold M_X9_scale_w43
  generalize hV : scF (M 26) (M 27) n.toNat t (1, 1) = V at *
  refine Ok.bind (Q := fun z => z = V) (wh_for (fun i s => ∃ x p, s = (p.1, p.2, x, n - (i : Int)) ∧ V = scF (M 26) (M 27) (n.toNat - i) x p ∧ -2 ≤ x ∧ x < M 24 2) _ n.toNat (by omega) ⟨t, (1, 1), by rw [show n - ((0 : Nat) : Int) = n by omega], hV.symm, by omega, c.2⟩ ?_ ?_) ?_
  · rintro i _ hi ⟨x, p, rfl, hv, x0, x1⟩
    rw [show n.toNat - i = (n.toNat - (i + 1)) + 1 by omega] at hv
    unfold scF at hv
    have hcx := hco x
    have he0 := her (4 * x)
    have he1 := her (4 * x + 1)
    unfold M_X9_scale_b43 M_X9_scale_p98
    dsimp only
    by_cases y : x < 0
    · rw [if_pos y] at hv
      repeat' (with_reducible first | refine k_gf (by first | assumption | omega) (by first | assumption | ((try simp (disch := omega) only [sr_s, sr_a, sr_sr, u1_s, u1_k, p4, m4, m5]); exact rfl)) ?_ | refine k_gr (by first | assumption | omega) (by first | assumption | ((try simp (disch := omega) only [sr_s, sr_a, sr_sr, u1_s, u1_k, p4, m4, m5]); exact rfl)) (by omega) ?_ | refine k_ald (by first | assumption | omega) (by first | assumption | exact rfl) (by omega) (by omega) (by omega) (by first | assumption | ((try simp (disch := omega) only [sr_s, sr_a, sr_sr, u1_s, u1_k, p4, m4, m5]); exact rfl)) ?_ | refine k_ifT (by first | (simp (disch := omega) only [w32_id]; first | done | omega) | omega) ?_ | refine k_ifF (by first | (simp (disch := omega) only [w32_id]; first | done | omega) | omega) ?_ | refine k_pf (by first | assumption | omega) (by (try simp (disch := omega) only [sr_s, sr_a, sr_sr, u1_u1, p4, m4, m5]); exact rfl) ?_ | refine k_ast (by first | assumption | omega) (by first | assumption | exact rfl) (by omega) (by omega) (by omega) (by (try simp (disch := omega) only [sr_s, sr_a, sr_sr, u1_u1, p4, m4, m5]); exact rfl) ?_ | refine k_irm (by omega) (by omega) (by omega) (by omega) ?_ | refine k_idv (by omega) (by omega) (by omega) (by omega) ?_ | refine k_tk (by first | assumption | omega) ?_ | refine k_rp (by omega) ?_ | refine k_aldR (by first | assumption | omega) (by first | assumption | exact rfl) (by omega) (by omega) (by omega) (by first | assumption | ((try simp (disch := omega) only [sr_s, sr_a, sr_sr, u1_s, u1_k, p4, m4, m5]); exact rfl)) (by omega) ?_ | refine k_astR (by first | assumption | omega) (by first | assumption | exact rfl) (by omega) (by omega) (by omega) (by first | assumption | omega) (by (try simp (disch := omega) only [sr_s, sr_a, sr_sr, u1_u1, p4, m4, m5]); exact rfl) ?_ | refine k_pz (by first | assumption | omega) (by omega) (by (try simp (disch := omega) only [sr_s, sr_a, sr_sr, u1_u1, p4, m4, m5]); exact rfl) ?_ | refine k_alen (by first | assumption | omega) (by first | assumption | exact rfl) ?_ | refine k_cpy (by first | assumption | omega) (by first | assumption | omega) (by first | assumption | exact rfl) (by first | assumption | exact rfl) (by omega) (by omega) (by omega) (by omega) (by omega) (by omega) (by omega) (by omega) (by (try simp (disch := omega) only [sr_s, sr_a, sr_sr, u1_u1, p4, m4, m5]); exact rfl) ?_ | refine k_if (by (try simp (disch := omega) only [w32_id]); exact Iff.rfl) (fun c => ?_) (fun c => ?_))
      exact Ok.ret hv.symm
    · rw [if_neg y] at hv
      by_cases y8 : M 27 (4 * x) = 8
      · rw [if_pos y8] at hv
        have hw := w32_id (x := M 27 (4 * x + 1)) (by omega) (by omega)
        repeat' (with_reducible first | refine k_gf (by first | assumption | omega) (by first | assumption | ((try simp (disch := omega) only [sr_s, sr_a, sr_sr, u1_s, u1_k, p4, m4, m5]); exact rfl)) ?_ | refine k_gr (by first | assumption | omega) (by first | assumption | ((try simp (disch := omega) only [sr_s, sr_a, sr_sr, u1_s, u1_k, p4, m4, m5]); exact rfl)) (by omega) ?_ | refine k_ald (by first | assumption | omega) (by first | assumption | exact rfl) (by omega) (by omega) (by omega) (by first | assumption | ((try simp (disch := omega) only [sr_s, sr_a, sr_sr, u1_s, u1_k, p4, m4, m5]); exact rfl)) ?_ | refine k_ifT (by first | (simp (disch := omega) only [w32_id]; first | done | omega) | omega) ?_ | refine k_ifF (by first | (simp (disch := omega) only [w32_id]; first | done | omega) | omega) ?_ | refine k_pf (by first | assumption | omega) (by (try simp (disch := omega) only [sr_s, sr_a, sr_sr, u1_u1, p4, m4, m5]); exact rfl) ?_ | refine k_ast (by first | assumption | omega) (by first | assumption | exact rfl) (by omega) (by omega) (by omega) (by (try simp (disch := omega) only [sr_s, sr_a, sr_sr, u1_u1, p4, m4, m5]); exact rfl) ?_ | refine k_irm (by omega) (by omega) (by omega) (by omega) ?_ | refine k_idv (by omega) (by omega) (by omega) (by omega) ?_ | refine k_tk (by first | assumption | omega) ?_ | refine k_rp (by omega) ?_ | refine k_aldR (by first | assumption | omega) (by first | assumption | exact rfl) (by omega) (by omega) (by omega) (by first | assumption | ((try simp (disch := omega) only [sr_s, sr_a, sr_sr, u1_s, u1_k, p4, m4, m5]); exact rfl)) (by omega) ?_ | refine k_astR (by first | assumption | omega) (by first | assumption | exact rfl) (by omega) (by omega) (by omega) (by first | assumption | omega) (by (try simp (disch := omega) only [sr_s, sr_a, sr_sr, u1_u1, p4, m4, m5]); exact rfl) ?_ | refine k_pz (by first | assumption | omega) (by omega) (by (try simp (disch := omega) only [sr_s, sr_a, sr_sr, u1_u1, p4, m4, m5]); exact rfl) ?_ | refine k_alen (by first | assumption | omega) (by first | assumption | exact rfl) ?_ | refine k_cpy (by first | assumption | omega) (by first | assumption | omega) (by first | assumption | exact rfl) (by first | assumption | exact rfl) (by omega) (by omega) (by omega) (by omega) (by omega) (by omega) (by omega) (by omega) (by (try simp (disch := omega) only [sr_s, sr_a, sr_sr, u1_u1, p4, m4, m5]); exact rfl) ?_ | refine k_if (by (try simp (disch := omega) only [w32_id]); exact Iff.rfl) (fun c => ?_) (fun c => ?_))
        refine Ok.ret ⟨M 26 x, (p.1 * M 27 (4 * x + 1), p.2 * 10), ?_, hv, hcx.1, hcx.2⟩
        dsimp only
        rw [hw, show n - ((i + 1 : Nat) : Int) = n - (i : Int) + -1 by omega]
      · rw [if_neg y8] at hv
        repeat' (with_reducible first | refine k_gf (by first | assumption | omega) (by first | assumption | ((try simp (disch := omega) only [sr_s, sr_a, sr_sr, u1_s, u1_k, p4, m4, m5]); exact rfl)) ?_ | refine k_gr (by first | assumption | omega) (by first | assumption | ((try simp (disch := omega) only [sr_s, sr_a, sr_sr, u1_s, u1_k, p4, m4, m5]); exact rfl)) (by omega) ?_ | refine k_ald (by first | assumption | omega) (by first | assumption | exact rfl) (by omega) (by omega) (by omega) (by first | assumption | ((try simp (disch := omega) only [sr_s, sr_a, sr_sr, u1_s, u1_k, p4, m4, m5]); exact rfl)) ?_ | refine k_ifT (by first | (simp (disch := omega) only [w32_id]; first | done | omega) | omega) ?_ | refine k_ifF (by first | (simp (disch := omega) only [w32_id]; first | done | omega) | omega) ?_ | refine k_pf (by first | assumption | omega) (by (try simp (disch := omega) only [sr_s, sr_a, sr_sr, u1_u1, p4, m4, m5]); exact rfl) ?_ | refine k_ast (by first | assumption | omega) (by first | assumption | exact rfl) (by omega) (by omega) (by omega) (by (try simp (disch := omega) only [sr_s, sr_a, sr_sr, u1_u1, p4, m4, m5]); exact rfl) ?_ | refine k_irm (by omega) (by omega) (by omega) (by omega) ?_ | refine k_idv (by omega) (by omega) (by omega) (by omega) ?_ | refine k_tk (by first | assumption | omega) ?_ | refine k_rp (by omega) ?_ | refine k_aldR (by first | assumption | omega) (by first | assumption | exact rfl) (by omega) (by omega) (by omega) (by first | assumption | ((try simp (disch := omega) only [sr_s, sr_a, sr_sr, u1_s, u1_k, p4, m4, m5]); exact rfl)) (by omega) ?_ | refine k_astR (by first | assumption | omega) (by first | assumption | exact rfl) (by omega) (by omega) (by omega) (by first | assumption | omega) (by (try simp (disch := omega) only [sr_s, sr_a, sr_sr, u1_u1, p4, m4, m5]); exact rfl) ?_ | refine k_pz (by first | assumption | omega) (by omega) (by (try simp (disch := omega) only [sr_s, sr_a, sr_sr, u1_u1, p4, m4, m5]); exact rfl) ?_ | refine k_alen (by first | assumption | omega) (by first | assumption | exact rfl) ?_ | refine k_cpy (by first | assumption | omega) (by first | assumption | omega) (by first | assumption | exact rfl) (by first | assumption | exact rfl) (by omega) (by omega) (by omega) (by omega) (by omega) (by omega) (by omega) (by omega) (by (try simp (disch := omega) only [sr_s, sr_a, sr_sr, u1_u1, p4, m4, m5]); exact rfl) ?_ | refine k_if (by (try simp (disch := omega) only [w32_id]); exact Iff.rfl) (fun c => ?_) (fun c => ?_))
        refine Ok.ret ⟨M 26 x, p, ?_, hv, hcx.1, hcx.2⟩
        rw [show n - ((i + 1 : Nat) : Int) = n - (i : Int) + -1 by omega]
  · rintro _ ⟨x, p, rfl, hv, x0, x1⟩
    rw [Nat.sub_self] at hv
    unfold M_X9_scale_b43
    dsimp only
    repeat' (with_reducible first | refine k_gf (by first | assumption | omega) (by first | assumption | ((try simp (disch := omega) only [sr_s, sr_a, sr_sr, u1_s, u1_k]); exact rfl)) ?_ | refine k_gr (by first | assumption | omega) (by first | assumption | ((try simp (disch := omega) only [sr_s, sr_a, sr_sr, u1_s, u1_k]); exact rfl)) (by omega) ?_ | refine k_ald (by first | assumption | omega) (by first | assumption | exact rfl) (by omega) (by omega) (by omega) (by first | assumption | ((try simp (disch := omega) only [sr_s, sr_a, sr_sr, u1_s, u1_k]); exact rfl)) ?_ | refine k_ifT (by first | (simp (disch := omega) only [w32_id]; first | done | omega) | omega) ?_ | refine k_ifF (by first | (simp (disch := omega) only [w32_id]; first | done | omega) | omega) ?_ | refine k_pf (by first | assumption | omega) (by (try simp (disch := omega) only [sr_s, sr_a, sr_sr, u1_u1]); exact rfl) ?_ | refine k_ast (by first | assumption | omega) (by first | assumption | exact rfl) (by omega) (by omega) (by omega) (by (try simp (disch := omega) only [sr_s, sr_a, sr_sr, u1_u1]); exact rfl) ?_ | refine k_irm (by omega) (by omega) (by omega) (by omega) ?_ | refine k_idv (by omega) (by omega) (by omega) (by omega) ?_ | refine k_tk (by first | assumption | omega) ?_ | refine k_rp (by omega) ?_ | refine k_aldR (by first | assumption | omega) (by first | assumption | exact rfl) (by omega) (by omega) (by omega) (by first | assumption | ((try simp (disch := omega) only [sr_s, sr_a, sr_sr, u1_s, u1_k]); exact rfl)) (by omega) ?_ | refine k_astR (by first | assumption | omega) (by first | assumption | exact rfl) (by omega) (by omega) (by omega) (by first | assumption | omega) (by (try simp (disch := omega) only [sr_s, sr_a, sr_sr, u1_u1]); exact rfl) ?_ | refine k_pz (by first | assumption | omega) (by omega) (by (try simp (disch := omega) only [sr_s, sr_a, sr_sr, u1_u1]); exact rfl) ?_ | refine k_alen (by first | assumption | omega) (by first | assumption | exact rfl) ?_ | refine k_cpy (by first | assumption | omega) (by first | assumption | omega) (by first | assumption | exact rfl) (by first | assumption | exact rfl) (by omega) (by omega) (by omega) (by omega) (by omega) (by omega) (by omega) (by omega) (by (try simp (disch := omega) only [sr_s, sr_a, sr_sr, u1_u1]); exact rfl) ?_ | refine k_if (by (try simp (disch := omega) only [w32_id]); exact Iff.rfl) (fun c => ?_) (fun c => ?_))
    exact Ok.ret hv.symm
  · rintro _ rfl
    have hB := euB_n hEB m
    unfold euB at hB
    unfold M_X9_scale_p116
    refine k_eq (X9_commonDivisor_ok hm hE hEB) (k_bd (X9_answered_ok hG) ?_)
    have h2 := cQ.tr (M := M) h0.2.1 0
    unfold scV
    by_cases y : w32 lw = 0
    · rw [if_pos y, if_pos y]
      exact k_eq (ldv_p hB.1 hB.2.1) (Ok.ret ⟨_, rfl, h2.1, h2.2⟩)
    · rw [if_neg y, if_neg y]
      exact k_eq (ldv_p hB.1 hB.2.1) (Ok.ret ⟨_, rfl, h2.1, h2.2⟩)
theorem X11_scale_loop (h0 : Inv0 M G td r) (hR : isR M G td rg) (c : 0 ≤ t ∧ t < M 24 2) (hn : 0 ≤ n ∧ n ≤ 12) {m : Nat} (hm : m ≤ 80) (hE : (euS m (scF (M 26) (M 27) n.toNat t (1, 1))).2 = 0) : Ok (M_X11_scale_w49 FU (M, G) 124 n lw 1 1 t 0) (rP M G (scV (scF (M 26) (M 27) n.toNat t (1, 1)) m lw) 0) := by
  have hG := h0.1.1
  have hp124 := h0.2.2.1.1
  have hh := h0.tw
  obtain ⟨e0, e1, e2, e3, hwf, -, hc2, hc3, -⟩ := hR.cl
  have hEB := scE hwf c hn
  have hco := hwf.2.2.2.2.2.2.2.2.1
  have her := hwf.2.2.2.2.2.2.2.2.2.1
  have hcz := hwf.2.2.2.2.2.2.2.2.2.2.2.1
  have p17 := pr124.p17 hp124
  have k124 := gk_124 hG
  have k126 := gk_126 hG
  have l126 := gl_126 hG
  unfold M_X11_scale_w49
  generalize hV : scF (M 26) (M 27) n.toNat t (1, 1) = V at *
  refine Ok.bind (Q := fun z => z = V) (wh_for (fun i s => ∃ x p, s = (p.1, p.2, x, (i : Int)) ∧ V = scF (M 26) (M 27) (n.toNat - i) x p ∧ 0 ≤ x ∧ x < M 24 2) _ n.toNat (by omega) ⟨t, (1, 1), rfl, hV.symm, c.1, c.2⟩ ?_ ?_) ?_
  · rintro i _ hi ⟨x, p, rfl, hv, x0, x1⟩
    rw [show n.toNat - i = (n.toNat - (i + 1)) + 1 by omega] at hv
    unfold scF at hv
    rw [if_neg (by omega)] at hv
    have hcx := hco x
    have he0 := her (4 * x)
    have he1 := her (4 * x + 1)
    have g2 : M 126 (216 + x) = M 26 x := hc2 x x0 x1
    have g3 : M 126 (222 + 4 * x) = M 27 (4 * x) := hc3 (4 * x) (by omega) (by omega)
    have g4 : M 126 (222 + 4 * x + 1) = M 27 (4 * x + 1) := by have := hc3 (4 * x + 1) (by omega) (by omega); rw [← Int.add_assoc] at this; exact this
    have hz := hcz x x0 x1
    unfold M_X11_scale_b49 M_X11_scale_p118
    dsimp only
    by_cases y : M 26 x < 0
    · have y2 := (hz y).1
      rw [(hz y).2, if_neg (by decide), scF_neg y] at hv
      repeat' (with_reducible first | refine k_gf (by first | assumption | omega) (by first | assumption | ((try simp (disch := omega) only [sr_s, sr_a, sr_sr, u1_s, u1_k, p17, g2]); exact rfl)) ?_ | refine k_gr (by first | assumption | omega) (by first | assumption | ((try simp (disch := omega) only [sr_s, sr_a, sr_sr, u1_s, u1_k, p17, g2]); exact rfl)) (by omega) ?_ | refine k_ald (by first | assumption | omega) (by first | assumption | exact rfl) (by omega) (by omega) (by omega) (by first | assumption | ((try simp (disch := omega) only [sr_s, sr_a, sr_sr, u1_s, u1_k, p17, g2]); exact rfl)) ?_ | refine k_ifT (by first | (simp (disch := omega) only [w32_id]; first | done | omega) | omega) ?_ | refine k_ifF (by first | (simp (disch := omega) only [w32_id]; first | done | omega) | omega) ?_ | refine k_pf (by first | assumption | omega) (by (try simp (disch := omega) only [sr_s, sr_a, sr_sr, u1_u1, p17, g2]); exact rfl) ?_ | refine k_ast (by first | assumption | omega) (by first | assumption | exact rfl) (by omega) (by omega) (by omega) (by (try simp (disch := omega) only [sr_s, sr_a, sr_sr, u1_u1, p17, g2]); exact rfl) ?_ | refine k_irm (by omega) (by omega) (by omega) (by omega) ?_ | refine k_idv (by omega) (by omega) (by omega) (by omega) ?_ | refine k_tk (by first | assumption | omega) ?_ | refine k_rp (by omega) ?_ | refine k_aldR (by first | assumption | omega) (by first | assumption | exact rfl) (by omega) (by omega) (by omega) (by first | assumption | ((try simp (disch := omega) only [sr_s, sr_a, sr_sr, u1_s, u1_k, p17, g2]); exact rfl)) (by omega) ?_ | refine k_astR (by first | assumption | omega) (by first | assumption | exact rfl) (by omega) (by omega) (by omega) (by first | assumption | omega) (by (try simp (disch := omega) only [sr_s, sr_a, sr_sr, u1_u1, p17, g2]); exact rfl) ?_ | refine k_pz (by first | assumption | omega) (by omega) (by (try simp (disch := omega) only [sr_s, sr_a, sr_sr, u1_u1, p17, g2]); exact rfl) ?_ | refine k_alen (by first | assumption | omega) (by first | assumption | exact rfl) ?_ | refine k_cpy (by first | assumption | omega) (by first | assumption | omega) (by first | assumption | exact rfl) (by first | assumption | exact rfl) (by omega) (by omega) (by omega) (by omega) (by omega) (by omega) (by omega) (by omega) (by (try simp (disch := omega) only [sr_s, sr_a, sr_sr, u1_u1, p17, g2]); exact rfl) ?_ | refine k_if (by (try simp (disch := omega) only [w32_id]); exact Iff.rfl) (fun c => ?_) (fun c => ?_))
      exact Ok.ret hv.symm
    · by_cases y8 : M 27 (4 * x) = 8
      · rw [if_pos y8] at hv
        have hw := w32_id (x := M 27 (4 * x + 1)) (by omega) (by omega)
        repeat' (with_reducible first | refine k_gf (by first | assumption | omega) (by first | assumption | ((try simp (disch := omega) only [sr_s, sr_a, sr_sr, u1_s, u1_k, p17, g2, g3, g4]); exact rfl)) ?_ | refine k_gr (by first | assumption | omega) (by first | assumption | ((try simp (disch := omega) only [sr_s, sr_a, sr_sr, u1_s, u1_k, p17, g2, g3, g4]); exact rfl)) (by omega) ?_ | refine k_ald (by first | assumption | omega) (by first | assumption | exact rfl) (by omega) (by omega) (by omega) (by first | assumption | ((try simp (disch := omega) only [sr_s, sr_a, sr_sr, u1_s, u1_k, p17, g2, g3, g4]); exact rfl)) ?_ | refine k_ifT (by first | (simp (disch := omega) only [w32_id]; first | done | omega) | omega) ?_ | refine k_ifF (by first | (simp (disch := omega) only [w32_id]; first | done | omega) | omega) ?_ | refine k_pf (by first | assumption | omega) (by (try simp (disch := omega) only [sr_s, sr_a, sr_sr, u1_u1, p17, g2, g3, g4]); exact rfl) ?_ | refine k_ast (by first | assumption | omega) (by first | assumption | exact rfl) (by omega) (by omega) (by omega) (by (try simp (disch := omega) only [sr_s, sr_a, sr_sr, u1_u1, p17, g2, g3, g4]); exact rfl) ?_ | refine k_irm (by omega) (by omega) (by omega) (by omega) ?_ | refine k_idv (by omega) (by omega) (by omega) (by omega) ?_ | refine k_tk (by first | assumption | omega) ?_ | refine k_rp (by omega) ?_ | refine k_aldR (by first | assumption | omega) (by first | assumption | exact rfl) (by omega) (by omega) (by omega) (by first | assumption | ((try simp (disch := omega) only [sr_s, sr_a, sr_sr, u1_s, u1_k, p17, g2, g3, g4]); exact rfl)) (by omega) ?_ | refine k_astR (by first | assumption | omega) (by first | assumption | exact rfl) (by omega) (by omega) (by omega) (by first | assumption | omega) (by (try simp (disch := omega) only [sr_s, sr_a, sr_sr, u1_u1, p17, g2, g3, g4]); exact rfl) ?_ | refine k_pz (by first | assumption | omega) (by omega) (by (try simp (disch := omega) only [sr_s, sr_a, sr_sr, u1_u1, p17, g2, g3, g4]); exact rfl) ?_ | refine k_alen (by first | assumption | omega) (by first | assumption | exact rfl) ?_ | refine k_cpy (by first | assumption | omega) (by first | assumption | omega) (by first | assumption | exact rfl) (by first | assumption | exact rfl) (by omega) (by omega) (by omega) (by omega) (by omega) (by omega) (by omega) (by omega) (by (try simp (disch := omega) only [sr_s, sr_a, sr_sr, u1_u1, p17, g2, g3, g4]); exact rfl) ?_ | refine k_if (by (try simp (disch := omega) only [w32_id]); exact Iff.rfl) (fun c => ?_) (fun c => ?_))
        refine Ok.ret ⟨M 26 x, (p.1 * M 27 (4 * x + 1), p.2 * 10), ?_, hv, by omega, hcx.2⟩
        dsimp only
        rw [hw]
        rfl
      · rw [if_neg y8] at hv
        repeat' (with_reducible first | refine k_gf (by first | assumption | omega) (by first | assumption | ((try simp (disch := omega) only [sr_s, sr_a, sr_sr, u1_s, u1_k, p17, g2, g3, g4]); exact rfl)) ?_ | refine k_gr (by first | assumption | omega) (by first | assumption | ((try simp (disch := omega) only [sr_s, sr_a, sr_sr, u1_s, u1_k, p17, g2, g3, g4]); exact rfl)) (by omega) ?_ | refine k_ald (by first | assumption | omega) (by first | assumption | exact rfl) (by omega) (by omega) (by omega) (by first | assumption | ((try simp (disch := omega) only [sr_s, sr_a, sr_sr, u1_s, u1_k, p17, g2, g3, g4]); exact rfl)) ?_ | refine k_ifT (by first | (simp (disch := omega) only [w32_id]; first | done | omega) | omega) ?_ | refine k_ifF (by first | (simp (disch := omega) only [w32_id]; first | done | omega) | omega) ?_ | refine k_pf (by first | assumption | omega) (by (try simp (disch := omega) only [sr_s, sr_a, sr_sr, u1_u1, p17, g2, g3, g4]); exact rfl) ?_ | refine k_ast (by first | assumption | omega) (by first | assumption | exact rfl) (by omega) (by omega) (by omega) (by (try simp (disch := omega) only [sr_s, sr_a, sr_sr, u1_u1, p17, g2, g3, g4]); exact rfl) ?_ | refine k_irm (by omega) (by omega) (by omega) (by omega) ?_ | refine k_idv (by omega) (by omega) (by omega) (by omega) ?_ | refine k_tk (by first | assumption | omega) ?_ | refine k_rp (by omega) ?_ | refine k_aldR (by first | assumption | omega) (by first | assumption | exact rfl) (by omega) (by omega) (by omega) (by first | assumption | ((try simp (disch := omega) only [sr_s, sr_a, sr_sr, u1_s, u1_k, p17, g2, g3, g4]); exact rfl)) (by omega) ?_ | refine k_astR (by first | assumption | omega) (by first | assumption | exact rfl) (by omega) (by omega) (by omega) (by first | assumption | omega) (by (try simp (disch := omega) only [sr_s, sr_a, sr_sr, u1_u1, p17, g2, g3, g4]); exact rfl) ?_ | refine k_pz (by first | assumption | omega) (by omega) (by (try simp (disch := omega) only [sr_s, sr_a, sr_sr, u1_u1, p17, g2, g3, g4]); exact rfl) ?_ | refine k_alen (by first | assumption | omega) (by first | assumption | exact rfl) ?_ | refine k_cpy (by first | assumption | omega) (by first | assumption | omega) (by first | assumption | exact rfl) (by first | assumption | exact rfl) (by omega) (by omega) (by omega) (by omega) (by omega) (by omega) (by omega) (by omega) (by (try simp (disch := omega) only [sr_s, sr_a, sr_sr, u1_u1, p17, g2, g3, g4]); exact rfl) ?_ | refine k_if (by (try simp (disch := omega) only [w32_id]); exact Iff.rfl) (fun c => ?_) (fun c => ?_))
        exact Ok.ret ⟨M 26 x, p, rfl, hv, by omega, hcx.2⟩
  · rintro _ ⟨x, p, rfl, hv, x0, x1⟩
    rw [Nat.sub_self] at hv
    unfold M_X11_scale_b49
    dsimp only
    repeat' (with_reducible first | refine k_gf (by first | assumption | omega) (by first | assumption | ((try simp (disch := omega) only [sr_s, sr_a, sr_sr, u1_s, u1_k]); exact rfl)) ?_ | refine k_gr (by first | assumption | omega) (by first | assumption | ((try simp (disch := omega) only [sr_s, sr_a, sr_sr, u1_s, u1_k]); exact rfl)) (by omega) ?_ | refine k_ald (by first | assumption | omega) (by first | assumption | exact rfl) (by omega) (by omega) (by omega) (by first | assumption | ((try simp (disch := omega) only [sr_s, sr_a, sr_sr, u1_s, u1_k]); exact rfl)) ?_ | refine k_ifT (by first | (simp (disch := omega) only [w32_id]; first | done | omega) | omega) ?_ | refine k_ifF (by first | (simp (disch := omega) only [w32_id]; first | done | omega) | omega) ?_ | refine k_pf (by first | assumption | omega) (by (try simp (disch := omega) only [sr_s, sr_a, sr_sr, u1_u1]); exact rfl) ?_ | refine k_ast (by first | assumption | omega) (by first | assumption | exact rfl) (by omega) (by omega) (by omega) (by (try simp (disch := omega) only [sr_s, sr_a, sr_sr, u1_u1]); exact rfl) ?_ | refine k_irm (by omega) (by omega) (by omega) (by omega) ?_ | refine k_idv (by omega) (by omega) (by omega) (by omega) ?_ | refine k_tk (by first | assumption | omega) ?_ | refine k_rp (by omega) ?_ | refine k_aldR (by first | assumption | omega) (by first | assumption | exact rfl) (by omega) (by omega) (by omega) (by first | assumption | ((try simp (disch := omega) only [sr_s, sr_a, sr_sr, u1_s, u1_k]); exact rfl)) (by omega) ?_ | refine k_astR (by first | assumption | omega) (by first | assumption | exact rfl) (by omega) (by omega) (by omega) (by first | assumption | omega) (by (try simp (disch := omega) only [sr_s, sr_a, sr_sr, u1_u1]); exact rfl) ?_ | refine k_pz (by first | assumption | omega) (by omega) (by (try simp (disch := omega) only [sr_s, sr_a, sr_sr, u1_u1]); exact rfl) ?_ | refine k_alen (by first | assumption | omega) (by first | assumption | exact rfl) ?_ | refine k_cpy (by first | assumption | omega) (by first | assumption | omega) (by first | assumption | exact rfl) (by first | assumption | exact rfl) (by omega) (by omega) (by omega) (by omega) (by omega) (by omega) (by omega) (by omega) (by (try simp (disch := omega) only [sr_s, sr_a, sr_sr, u1_u1]); exact rfl) ?_ | refine k_if (by (try simp (disch := omega) only [w32_id]); exact Iff.rfl) (fun c => ?_) (fun c => ?_))
    exact Ok.ret hv.symm
  · rintro _ rfl
    have hB := euB_n hEB m
    unfold euB at hB
    unfold M_X11_scale_p137 M_X11_fraction
    have h2 := rQ.tr (M := M) h0.2.2.1.2 0
    refine Ok.bd (Q := rP M G (scV (scF (M 26) (M 27) n.toNat t (1, 1)) m lw) 0) ?_ (fun a ha => by rw [hV] at ha; exact Ok.ret ha)
    rw [hV]
    refine k_tk k124 (k_bd (X11_good_ok hG) ?_)
    unfold scV
    by_cases y : w32 lw = 0
    · rw [if_pos y, if_pos y]
      exact k_eq (X11_common_ok hm hE hEB) (k_eq (ldv_p hB.1 hB.2.1) (Ok.ret ⟨_, rfl, h2.1, h2.2⟩))
    · rw [if_neg y, if_neg y]
      exact k_eq (X11_common_ok hm hE hEB) (k_eq (ldv_p hB.1 hB.2.1) (Ok.ret ⟨_, rfl, h2.1, h2.2⟩))
theorem q_scale (h : Inv M G) (ht : i32 t) (hn : i32 n) : Both M G (fun h => M_X9_scale h 0 t n lw) (fun h => M_X11_scale h 124 t n lw) := by
  obtain ⟨htr, td, r, h0⟩ := h
  have hG := h0.1.1
  have hh := h0.tw
  have hn' := hn
  unfold i32 at hn'
  have h12 : i32 12 := by unfold i32; omega
  have hw1 : w32 (-1) = -1 := by decide
  have k0 := gk_0 hG
  have k124 := gk_124 hG
  unfold M_X9_scale M_X11_scale
  by_cases c : 0 ≤ t ∧ t < M 24 2
  · by_cases c2 : 0 ≤ n ∧ n ≤ 12
    · obtain ⟨rg, hR⟩ := h0.ring (by omega)
      obtain ⟨m, hm, hE⟩ := euS_80 (scE hR.cl.2.2.2.2.1 c c2)
      refine Both.go h0 (scV (scF (M 26) (M 27) n.toNat t (1, 1)) m lw) 0 (by omega) (by omega) (by omega) ?_ (fun M2 h2 f => ?_)
      · repeat' (with_reducible first | refine k_gf (by first | assumption | omega) (by first | assumption | ((try simp (disch := omega) only [sr_s, sr_a, sr_sr, u1_s, u1_k]); exact rfl)) ?_ | refine k_gr (by first | assumption | omega) (by first | assumption | ((try simp (disch := omega) only [sr_s, sr_a, sr_sr, u1_s, u1_k]); exact rfl)) (by omega) ?_ | refine k_ald (by first | assumption | omega) (by first | assumption | exact rfl) (by omega) (by omega) (by omega) (by first | assumption | ((try simp (disch := omega) only [sr_s, sr_a, sr_sr, u1_s, u1_k]); exact rfl)) ?_ | refine k_eq (X9_isTown_T h0 ht c) ?_ | refine k_eq (X9_isBehind_T hn h12 c2) ?_ | refine k_ifT (by first | (simp (disch := omega) only [w32_id]; first | done | omega) | omega) ?_ | refine k_ifF (by first | (simp (disch := omega) only [w32_id]; first | done | omega) | omega) ?_ | refine k_pf (by first | assumption | omega) (by (try simp (disch := omega) only [sr_s, sr_a, sr_sr, u1_u1]); exact rfl) ?_ | refine k_ast (by first | assumption | omega) (by first | assumption | exact rfl) (by omega) (by omega) (by omega) (by (try simp (disch := omega) only [sr_s, sr_a, sr_sr, u1_u1]); exact rfl) ?_ | refine k_irm (by omega) (by omega) (by omega) (by omega) ?_ | refine k_idv (by omega) (by omega) (by omega) (by omega) ?_ | refine k_tk (by first | assumption | omega) ?_ | refine k_rp (by omega) ?_ | refine k_aldR (by first | assumption | omega) (by first | assumption | exact rfl) (by omega) (by omega) (by omega) (by first | assumption | ((try simp (disch := omega) only [sr_s, sr_a, sr_sr, u1_s, u1_k]); exact rfl)) (by omega) ?_ | refine k_astR (by first | assumption | omega) (by first | assumption | exact rfl) (by omega) (by omega) (by omega) (by first | assumption | omega) (by (try simp (disch := omega) only [sr_s, sr_a, sr_sr, u1_u1]); exact rfl) ?_ | refine k_pz (by first | assumption | omega) (by omega) (by (try simp (disch := omega) only [sr_s, sr_a, sr_sr, u1_u1]); exact rfl) ?_ | refine k_alen (by first | assumption | omega) (by first | assumption | exact rfl) ?_ | refine k_cpy (by first | assumption | omega) (by first | assumption | omega) (by first | assumption | exact rfl) (by first | assumption | exact rfl) (by omega) (by omega) (by omega) (by omega) (by omega) (by omega) (by omega) (by omega) (by (try simp (disch := omega) only [sr_s, sr_a, sr_sr, u1_u1]); exact rfl) ?_ | refine k_if (by (try simp (disch := omega) only [w32_id]); exact Iff.rfl) (fun c => ?_) (fun c => ?_))
        exact X9_scale_loop h0 hR c c2 hm hE
      · have f24 : M2 24 = M 24 := f 24 (by omega)
        rw [← f24] at c
        rw [← f 26 (by omega), ← f 27 (by omega)] at hE ⊢
        obtain ⟨rg2, hR2⟩ := h2.ring (by omega)
        repeat' (with_reducible first | refine k_gf (by first | assumption | omega) (by first | assumption | ((try simp (disch := omega) only [sr_s, sr_a, sr_sr, u1_s, u1_k]); exact rfl)) ?_ | refine k_gr (by first | assumption | omega) (by first | assumption | ((try simp (disch := omega) only [sr_s, sr_a, sr_sr, u1_s, u1_k]); exact rfl)) (by omega) ?_ | refine k_ald (by first | assumption | omega) (by first | assumption | exact rfl) (by omega) (by omega) (by omega) (by first | assumption | ((try simp (disch := omega) only [sr_s, sr_a, sr_sr, u1_s, u1_k]); exact rfl)) ?_ | refine k_eq (X11_isTown_T h2 ht c) ?_ | refine k_eq (X11_in_T (by omega) (by omega) (by omega) (by omega) (by omega) (by omega) c2) ?_ | refine k_ifT (by first | (simp (disch := omega) only [w32_id]; first | done | omega) | omega) ?_ | refine k_ifF (by first | (simp (disch := omega) only [w32_id]; first | done | omega) | omega) ?_ | refine k_pf (by first | assumption | omega) (by (try simp (disch := omega) only [sr_s, sr_a, sr_sr, u1_u1]); exact rfl) ?_ | refine k_ast (by first | assumption | omega) (by first | assumption | exact rfl) (by omega) (by omega) (by omega) (by (try simp (disch := omega) only [sr_s, sr_a, sr_sr, u1_u1]); exact rfl) ?_ | refine k_irm (by omega) (by omega) (by omega) (by omega) ?_ | refine k_idv (by omega) (by omega) (by omega) (by omega) ?_ | refine k_tk (by first | assumption | omega) ?_ | refine k_rp (by omega) ?_ | refine k_aldR (by first | assumption | omega) (by first | assumption | exact rfl) (by omega) (by omega) (by omega) (by first | assumption | ((try simp (disch := omega) only [sr_s, sr_a, sr_sr, u1_s, u1_k]); exact rfl)) (by omega) ?_ | refine k_astR (by first | assumption | omega) (by first | assumption | exact rfl) (by omega) (by omega) (by omega) (by first | assumption | omega) (by (try simp (disch := omega) only [sr_s, sr_a, sr_sr, u1_u1]); exact rfl) ?_ | refine k_pz (by first | assumption | omega) (by omega) (by (try simp (disch := omega) only [sr_s, sr_a, sr_sr, u1_u1]); exact rfl) ?_ | refine k_alen (by first | assumption | omega) (by first | assumption | exact rfl) ?_ | refine k_cpy (by first | assumption | omega) (by first | assumption | omega) (by first | assumption | exact rfl) (by first | assumption | exact rfl) (by omega) (by omega) (by omega) (by omega) (by omega) (by omega) (by omega) (by omega) (by (try simp (disch := omega) only [sr_s, sr_a, sr_sr, u1_u1]); exact rfl) ?_ | refine k_if (by (try simp (disch := omega) only [w32_id]); exact Iff.rfl) (fun c => ?_) (fun c => ?_))
        exact X11_scale_loop h2 hR2 c c2 hm hE
    · refine Both.go h0 (-1) 2 (by omega) (by omega) (by omega) ?_ (fun M2 h2 f => ?_)
      · repeat' (with_reducible first | refine k_gf (by first | assumption | omega) (by first | assumption | ((try simp (disch := omega) only [sr_s, sr_a, sr_sr, u1_s, u1_k]); exact rfl)) ?_ | refine k_gr (by first | assumption | omega) (by first | assumption | ((try simp (disch := omega) only [sr_s, sr_a, sr_sr, u1_s, u1_k]); exact rfl)) (by omega) ?_ | refine k_ald (by first | assumption | omega) (by first | assumption | exact rfl) (by omega) (by omega) (by omega) (by first | assumption | ((try simp (disch := omega) only [sr_s, sr_a, sr_sr, u1_s, u1_k]); exact rfl)) ?_ | refine k_eq (X9_isTown_T h0 ht c) ?_ | refine k_eq (X9_isBehind_F hn h12 c2) ?_ | refine k_ifT (by first | (simp (disch := omega) only [w32_id]; first | done | omega) | omega) ?_ | refine k_ifF (by first | (simp (disch := omega) only [w32_id]; first | done | omega) | omega) ?_ | refine k_pf (by first | assumption | omega) (by (try simp (disch := omega) only [sr_s, sr_a, sr_sr, u1_u1]); exact rfl) ?_ | refine k_ast (by first | assumption | omega) (by first | assumption | exact rfl) (by omega) (by omega) (by omega) (by (try simp (disch := omega) only [sr_s, sr_a, sr_sr, u1_u1]); exact rfl) ?_ | refine k_irm (by omega) (by omega) (by omega) (by omega) ?_ | refine k_idv (by omega) (by omega) (by omega) (by omega) ?_ | refine k_tk (by first | assumption | omega) ?_ | refine k_rp (by omega) ?_ | refine k_aldR (by first | assumption | omega) (by first | assumption | exact rfl) (by omega) (by omega) (by omega) (by first | assumption | ((try simp (disch := omega) only [sr_s, sr_a, sr_sr, u1_s, u1_k]); exact rfl)) (by omega) ?_ | refine k_astR (by first | assumption | omega) (by first | assumption | exact rfl) (by omega) (by omega) (by omega) (by first | assumption | omega) (by (try simp (disch := omega) only [sr_s, sr_a, sr_sr, u1_u1]); exact rfl) ?_ | refine k_pz (by first | assumption | omega) (by omega) (by (try simp (disch := omega) only [sr_s, sr_a, sr_sr, u1_u1]); exact rfl) ?_ | refine k_alen (by first | assumption | omega) (by first | assumption | exact rfl) ?_ | refine k_cpy (by first | assumption | omega) (by first | assumption | omega) (by first | assumption | exact rfl) (by first | assumption | exact rfl) (by omega) (by omega) (by omega) (by omega) (by omega) (by omega) (by omega) (by omega) (by (try simp (disch := omega) only [sr_s, sr_a, sr_sr, u1_u1]); exact rfl) ?_ | refine k_if (by (try simp (disch := omega) only [w32_id]); exact Iff.rfl) (fun c => ?_) (fun c => ?_))
        have h3 := cQ.tr (M := M) h0.2.1 2
        exact k_bd (X9_refused_ok hG) (Ok.ret ⟨_, by rw [hw1], h3.1, h3.2⟩)
      · rw [← f 24 (by omega)] at c
        repeat' (with_reducible first | refine k_gf (by first | assumption | omega) (by first | assumption | ((try simp (disch := omega) only [sr_s, sr_a, sr_sr, u1_s, u1_k]); exact rfl)) ?_ | refine k_gr (by first | assumption | omega) (by first | assumption | ((try simp (disch := omega) only [sr_s, sr_a, sr_sr, u1_s, u1_k]); exact rfl)) (by omega) ?_ | refine k_ald (by first | assumption | omega) (by first | assumption | exact rfl) (by omega) (by omega) (by omega) (by first | assumption | ((try simp (disch := omega) only [sr_s, sr_a, sr_sr, u1_s, u1_k]); exact rfl)) ?_ | refine k_eq (X11_isTown_T h2 ht c) ?_ | refine k_eq (X11_in_F (by omega) (by omega) (by omega) (by omega) (by omega) (by omega) c2) ?_ | refine k_ifT (by first | (simp (disch := omega) only [w32_id]; first | done | omega) | omega) ?_ | refine k_ifF (by first | (simp (disch := omega) only [w32_id]; first | done | omega) | omega) ?_ | refine k_pf (by first | assumption | omega) (by (try simp (disch := omega) only [sr_s, sr_a, sr_sr, u1_u1]); exact rfl) ?_ | refine k_ast (by first | assumption | omega) (by first | assumption | exact rfl) (by omega) (by omega) (by omega) (by (try simp (disch := omega) only [sr_s, sr_a, sr_sr, u1_u1]); exact rfl) ?_ | refine k_irm (by omega) (by omega) (by omega) (by omega) ?_ | refine k_idv (by omega) (by omega) (by omega) (by omega) ?_ | refine k_tk (by first | assumption | omega) ?_ | refine k_rp (by omega) ?_ | refine k_aldR (by first | assumption | omega) (by first | assumption | exact rfl) (by omega) (by omega) (by omega) (by first | assumption | ((try simp (disch := omega) only [sr_s, sr_a, sr_sr, u1_s, u1_k]); exact rfl)) (by omega) ?_ | refine k_astR (by first | assumption | omega) (by first | assumption | exact rfl) (by omega) (by omega) (by omega) (by first | assumption | omega) (by (try simp (disch := omega) only [sr_s, sr_a, sr_sr, u1_u1]); exact rfl) ?_ | refine k_pz (by first | assumption | omega) (by omega) (by (try simp (disch := omega) only [sr_s, sr_a, sr_sr, u1_u1]); exact rfl) ?_ | refine k_alen (by first | assumption | omega) (by first | assumption | exact rfl) ?_ | refine k_cpy (by first | assumption | omega) (by first | assumption | omega) (by first | assumption | exact rfl) (by first | assumption | exact rfl) (by omega) (by omega) (by omega) (by omega) (by omega) (by omega) (by omega) (by omega) (by (try simp (disch := omega) only [sr_s, sr_a, sr_sr, u1_u1]); exact rfl) ?_ | refine k_if (by (try simp (disch := omega) only [w32_id]); exact Iff.rfl) (fun c => ?_) (fun c => ?_))
        have h3 := rQ.tr (M := M2) h2.2.2.1.2 2
        exact k_bd (X11_refused_ok hG) (Ok.ret ⟨_, by rw [hw1], h3.1, h3.2⟩)
  · refine Both.go h0 (-1) 1 (by omega) (by omega) (by omega) ?_ (fun M2 h2 f => ?_)
    · repeat' (with_reducible first | refine k_gf (by first | assumption | omega) (by first | assumption | ((try simp (disch := omega) only [sr_s, sr_a, sr_sr, u1_s, u1_k]); exact rfl)) ?_ | refine k_gr (by first | assumption | omega) (by first | assumption | ((try simp (disch := omega) only [sr_s, sr_a, sr_sr, u1_s, u1_k]); exact rfl)) (by omega) ?_ | refine k_ald (by first | assumption | omega) (by first | assumption | exact rfl) (by omega) (by omega) (by omega) (by first | assumption | ((try simp (disch := omega) only [sr_s, sr_a, sr_sr, u1_s, u1_k]); exact rfl)) ?_ | refine k_eq (X9_isTown_F h0 ht c) ?_ | refine k_ifT (by first | (simp (disch := omega) only [w32_id]; first | done | omega) | omega) ?_ | refine k_ifF (by first | (simp (disch := omega) only [w32_id]; first | done | omega) | omega) ?_ | refine k_pf (by first | assumption | omega) (by (try simp (disch := omega) only [sr_s, sr_a, sr_sr, u1_u1]); exact rfl) ?_ | refine k_ast (by first | assumption | omega) (by first | assumption | exact rfl) (by omega) (by omega) (by omega) (by (try simp (disch := omega) only [sr_s, sr_a, sr_sr, u1_u1]); exact rfl) ?_ | refine k_irm (by omega) (by omega) (by omega) (by omega) ?_ | refine k_idv (by omega) (by omega) (by omega) (by omega) ?_ | refine k_tk (by first | assumption | omega) ?_ | refine k_rp (by omega) ?_ | refine k_aldR (by first | assumption | omega) (by first | assumption | exact rfl) (by omega) (by omega) (by omega) (by first | assumption | ((try simp (disch := omega) only [sr_s, sr_a, sr_sr, u1_s, u1_k]); exact rfl)) (by omega) ?_ | refine k_astR (by first | assumption | omega) (by first | assumption | exact rfl) (by omega) (by omega) (by omega) (by first | assumption | omega) (by (try simp (disch := omega) only [sr_s, sr_a, sr_sr, u1_u1]); exact rfl) ?_ | refine k_pz (by first | assumption | omega) (by omega) (by (try simp (disch := omega) only [sr_s, sr_a, sr_sr, u1_u1]); exact rfl) ?_ | refine k_alen (by first | assumption | omega) (by first | assumption | exact rfl) ?_ | refine k_cpy (by first | assumption | omega) (by first | assumption | omega) (by first | assumption | exact rfl) (by first | assumption | exact rfl) (by omega) (by omega) (by omega) (by omega) (by omega) (by omega) (by omega) (by omega) (by (try simp (disch := omega) only [sr_s, sr_a, sr_sr, u1_u1]); exact rfl) ?_ | refine k_if (by (try simp (disch := omega) only [w32_id]); exact Iff.rfl) (fun c => ?_) (fun c => ?_))
      have h3 := cQ.tr (M := M) h0.2.1 1
      exact k_bd (X9_refused_ok hG) (Ok.ret ⟨_, by rw [hw1], h3.1, h3.2⟩)
    · rw [← f 24 (by omega)] at c
      repeat' (with_reducible first | refine k_gf (by first | assumption | omega) (by first | assumption | ((try simp (disch := omega) only [sr_s, sr_a, sr_sr, u1_s, u1_k]); exact rfl)) ?_ | refine k_gr (by first | assumption | omega) (by first | assumption | ((try simp (disch := omega) only [sr_s, sr_a, sr_sr, u1_s, u1_k]); exact rfl)) (by omega) ?_ | refine k_ald (by first | assumption | omega) (by first | assumption | exact rfl) (by omega) (by omega) (by omega) (by first | assumption | ((try simp (disch := omega) only [sr_s, sr_a, sr_sr, u1_s, u1_k]); exact rfl)) ?_ | refine k_eq (X11_isTown_F h2 ht c) ?_ | refine k_ifT (by first | (simp (disch := omega) only [w32_id]; first | done | omega) | omega) ?_ | refine k_ifF (by first | (simp (disch := omega) only [w32_id]; first | done | omega) | omega) ?_ | refine k_pf (by first | assumption | omega) (by (try simp (disch := omega) only [sr_s, sr_a, sr_sr, u1_u1]); exact rfl) ?_ | refine k_ast (by first | assumption | omega) (by first | assumption | exact rfl) (by omega) (by omega) (by omega) (by (try simp (disch := omega) only [sr_s, sr_a, sr_sr, u1_u1]); exact rfl) ?_ | refine k_irm (by omega) (by omega) (by omega) (by omega) ?_ | refine k_idv (by omega) (by omega) (by omega) (by omega) ?_ | refine k_tk (by first | assumption | omega) ?_ | refine k_rp (by omega) ?_ | refine k_aldR (by first | assumption | omega) (by first | assumption | exact rfl) (by omega) (by omega) (by omega) (by first | assumption | ((try simp (disch := omega) only [sr_s, sr_a, sr_sr, u1_s, u1_k]); exact rfl)) (by omega) ?_ | refine k_astR (by first | assumption | omega) (by first | assumption | exact rfl) (by omega) (by omega) (by omega) (by first | assumption | omega) (by (try simp (disch := omega) only [sr_s, sr_a, sr_sr, u1_u1]); exact rfl) ?_ | refine k_pz (by first | assumption | omega) (by omega) (by (try simp (disch := omega) only [sr_s, sr_a, sr_sr, u1_u1]); exact rfl) ?_ | refine k_alen (by first | assumption | omega) (by first | assumption | exact rfl) ?_ | refine k_cpy (by first | assumption | omega) (by first | assumption | omega) (by first | assumption | exact rfl) (by first | assumption | exact rfl) (by omega) (by omega) (by omega) (by omega) (by omega) (by omega) (by omega) (by omega) (by (try simp (disch := omega) only [sr_s, sr_a, sr_sr, u1_u1]); exact rfl) ?_ | refine k_if (by (try simp (disch := omega) only [w32_id]); exact Iff.rfl) (fun c => ?_) (fun c => ?_))
      have h3 := rQ.tr (M := M2) h2.2.2.1.2 1
      exact k_bd (X11_refused_ok hG) (Ok.ret ⟨_, by rw [hw1], h3.1, h3.2⟩)
end SC
