/-! fits: the reference's search -/
theorem seen_k {β : Type} {A : Option Int} {B : Int → Option Hp} {C : Hp → Option Int} {K : Hp → Int → Option β} {P : Hp × Int → Prop} {Q : β → Prop} (h : Ok (A.bind fun L => (B L).bind fun h => (C h).bind fun x => some (h, x)) P) (k : ∀ h x, P (h, x) → Ok (K h x) Q) : Ok (A.bind fun L => (B L).bind fun h => (C h).bind fun x => K h x) Q := by
  obtain ⟨⟨h1, x1⟩, e, hp⟩ := h
  cases A with
  | none => cases e
  | some L =>
    have e : ((B L).bind fun h => (C h).bind fun x => some (h, x)) = some (h1, x1) := e
    show Ok ((B L).bind fun h => (C h).bind fun x => K h x) Q
    cases hB : B L with
    | none => rw [hB] at e; cases e
    | some h2 =>
      rw [hB] at e
      have e : ((C h2).bind fun x => some (h2, x)) = some (h1, x1) := e
      show Ok ((C h2).bind fun x => K h2 x) Q
      cases hC : C h2 with
      | none => rw [hC] at e; cases e
      | some x2 =>
        rw [hC] at e
        have e : some (h2, x2) = some (h1, x1) := e
        cases e
        exact k h1 x1 hp
/-- which guesses occur, as bits -/
def vb (b : Int → Bool) : Int := (if b 0 = true then 1 else 0) + (if b 1 = true then 2 else 0) + (if b 2 = true then 4 else 0) + (if b 3 = true then 8 else 0) + (if b 4 = true then 16 else 0)
theorem vb_or {b b' : Int → Bool} {d : Int} (d0 : 0 ≤ d) (d4 : d < 5) (h : ∀ x, b' x = (b x || decide (x = d))) : ior (vb b) (ishl 1 d) = vb b' := by
  unfold vb
  rw [h 0, h 1, h 2, h 3, h 4]
  generalize b 0 = b0
  generalize b 1 = b1
  generalize b 2 = b2
  generalize b 3 = b3
  generalize b 4 = b4
  have hd : d = 0 ∨ d = 1 ∨ d = 2 ∨ d = 3 ∨ d = 4 := by omega
  rcases hd with rfl | rfl | rfl | rfl | rfl <;> cases b0 <;> cases b1 <;> cases b2 <;> cases b3 <;> cases b4 <;> decide
theorem vb_b (b : Int → Bool) : 0 ≤ vb b ∧ vb b ≤ 31 := by
  unfold vb
  (repeat' split) <;> omega
theorem vb_eq {b : Int → Bool} {d : Int} (d0 : 0 ≤ d) (d4 : d < 5) : w32 (vb b) = w32 (ishl 1 d) ↔ ∀ x, 0 ≤ x → x < 5 → b x = decide (x = d) := by
  have key : w32 (vb b) = w32 (ishl 1 d) ↔ (b 0 = decide ((0 : Int) = d) ∧ b 1 = decide ((1 : Int) = d) ∧ b 2 = decide ((2 : Int) = d) ∧ b 3 = decide ((3 : Int) = d) ∧ b 4 = decide ((4 : Int) = d)) := by
    unfold vb
    generalize b 0 = b0
    generalize b 1 = b1
    generalize b 2 = b2
    generalize b 3 = b3
    generalize b 4 = b4
    have hd : d = 0 ∨ d = 1 ∨ d = 2 ∨ d = 3 ∨ d = 4 := by omega
    rcases hd with rfl | rfl | rfl | rfl | rfl <;> cases b0 <;> cases b1 <;> cases b2 <;> cases b3 <;> cases b4 <;> decide
  rw [key]
  constructor
  · rintro ⟨h0, h1, h2, h3, h4⟩ x x0 x5
    have hx : x = 0 ∨ x = 1 ∨ x = 2 ∨ x = 3 ∨ x = 4 := by omega
    rcases hx with rfl | rfl | rfl | rfl | rfl <;> assumption
  · intro h
    exact ⟨h 0 (by decide) (by decide), h 1 (by decide) (by decide), h 2 (by decide) (by decide), h 3 (by decide) (by decide), h 4 (by decide) (by decide)⟩
section F6
variable {M N N1 M1 M2 : Int → Int → Int} {G : GG} {td r rg : Int}
/-- does the guess d of town t occur in the fits below k -/
def ocB (M : Int → Int → Int) (td t : Int) : Nat → Int → Bool
  | 0, _ => false
  | k + 1, d => ocB M td t k d || (fitB M td (k : Int) && decide (d = dgU M td (k : Int) t))
/-- where the search stands: k rows have been tried, look is the number of the fit that is wanted -/
def ftI (M N : Int → Int → Int) (td look : Int) (k : Nat) : Prop := rfF M N ∧ (∀ t, 0 ≤ t → t < 6 → N 144 t = vb (ocB M td t k)) ∧ ∀ r' : Nat, r' < k → fitB M td (r' : Int) = true → ((fitN M td r' : Nat) : Int) = look → ∀ t, 0 ≤ t → t < 6 → N 143 t = dgU M td (r' : Int) t
theorem ftI.cg {look : Int} {k : Nat} (h : ftI M N td look k) (hF : rfF M N1) (e3 : N1 143 = N 143) (e4 : N1 144 = N 144) : ftI M N1 td look k := ⟨hF, by rw [e4]; exact h.2.1, by rw [e3]; exact h.2.2⟩
/-- a fit is written down -/
theorem X11_w141_loop (h0 : Inv0 M G td r) (hg : 1 ≤ M td 4) (g5 : M td 4 ≤ 5) {look : Int} (hl : i32 look) {k : Nat} (hk : k ≤ 625) (hrow : ∀ t, 0 ≤ t → t < 6 → N 142 t = dgU M td k t) (hft : fitB M td (k : Int) = true) (hI : ftI M N td look k) : Ok (wh (S := (Hp × Int)) (T := Hp) (fun a => M_X11_fitting_b141 a.1 124 look (fitN M td k : Nat) a.2) FU ((N, G), 0)) (fun h => ∃ N1, h = (N1, G) ∧ ftI M N1 td look (k + 1) ∧ N1 142 = N 142) := by
  have hG := h0.1.1
  have hle := fitN_le (M := M) (td := td) k
  unfold i32 at hl
  have k124 := gk_124 hG
  have k142 := gk_142 hG
  have l142 := gl_142 hG
  have k143 := gk_143 hG
  have l143 := gl_143 hG
  have k144 := gk_144 hG
  have l144 := gl_144 hG
  have p38 := pr124.p38 h0.2.2.1.1
  have p39 := pr124.p39 h0.2.2.1.1
  have p40 := pr124.p40 h0.2.2.1.1
  obtain ⟨hF, hco, hfi⟩ := hI
  have hstep : ∀ t x, ocB M td t (k + 1) x = (ocB M td t k x || decide (x = dgU M td (k : Int) t)) := fun t x => by
    show (ocB M td t k x || (fitB M td (k : Int) && decide (x = dgU M td (k : Int) t))) = _
    rw [hft, Bool.true_and]
  refine (wh_for (fun i s => ∃ N1, s = ((N1, G), (i : Int)) ∧ (∀ a, a ≠ 143 → a ≠ 144 → N1 a = N a) ∧ (∀ t, 0 ≤ t → t < 6 → N1 144 t = if t < (i : Int) then vb (ocB M td t (k + 1)) else vb (ocB M td t k)) ∧ (((fitN M td k : Nat) : Int) = look → ∀ t, 0 ≤ t → t < (i : Int) → N1 143 t = dgU M td (k : Int) t) ∧ (((fitN M td k : Nat) : Int) ≠ look → N1 143 = N 143)) (fun h => ∃ N1, h = (N1, G) ∧ ftI M N1 td look (k + 1) ∧ N1 142 = N 142) 6 (by omega) ⟨N, rfl, fun _ _ _ => rfl, fun t t0 t6 => by rw [if_neg (by omega)]; exact hco t t0 t6, fun _ t t0 t1 => by omega, fun _ => rfl⟩ ?_ ?_)
  · rintro i _ hi ⟨N1, rfl, f1, h4, h3, h3'⟩
    have q38 : N1 124 38 = 142 := by rw [f1 124 (by omega) (by omega), hF.2.1 38 (by omega)]; exact p38
    have q39 : N1 124 39 = 143 := by rw [f1 124 (by omega) (by omega), hF.2.1 39 (by omega)]; exact p39
    have q40 : N1 124 40 = 144 := by rw [f1 124 (by omega) (by omega), hF.2.1 40 (by omega)]; exact p40
    have e2 : N1 142 (i : Int) = dgU M td k i := by rw [f1 142 (by omega) (by omega)]; exact hrow i (by omega) (by omega)
    have e4 : N1 144 (i : Int) = vb (ocB M td i k) := by rw [h4 i (by omega) (by omega), if_neg (by omega)]
    have hdb := dgU_b hg (k : Int) (i : Int)
    have hor := vb_or (b := ocB M td i k) (b' := ocB M td i (k + 1)) hdb.1 (by omega) (hstep i)
    generalize hD : dgU M td (k : Int) (i : Int) = D at *
    have h4' : ∀ N2 : Int → Int → Int, N2 144 = u1 (N1 144) (i : Int) (vb (ocB M td i (k + 1))) → ∀ t, 0 ≤ t → t < 6 → N2 144 t = if t < ((i + 1 : Nat) : Int) then vb (ocB M td t (k + 1)) else vb (ocB M td t k) := fun N2 e t t0 t6 => by
      rw [e]
      by_cases y : t = (i : Int)
      · rw [u1_e _ _ y, y, if_pos (by omega)]
      · rw [u1_k _ _ y, h4 t t0 t6]
        by_cases y2 : t < (i : Int)
        · rw [if_pos y2, if_pos (by omega)]
        · rw [if_neg y2, if_neg (by omega)]
    unfold M_X11_fitting_b141 M_X11_fitting_p186
    dsimp only
    by_cases y : ((fitN M td k : Nat) : Int) = look
    · repeat' (with_reducible first | refine k_gf (by first | assumption | omega) (by first | assumption | ((try simp (disch := omega) only [sr_s, sr_a, sr_sr, u1_s, u1_k, q38, q39, q40, e2, e4, hor]); exact rfl)) ?_ | refine k_gr (by first | assumption | omega) (by first | assumption | ((try simp (disch := omega) only [sr_s, sr_a, sr_sr, u1_s, u1_k, q38, q39, q40, e2, e4, hor]); exact rfl)) (by omega) ?_ | refine k_ald (by first | assumption | omega) (by first | assumption | exact rfl) (by omega) (by omega) (by omega) (by first | assumption | ((try simp (disch := omega) only [sr_s, sr_a, sr_sr, u1_s, u1_k, q38, q39, q40, e2, e4, hor]); exact rfl)) ?_ | refine k_ifT (by first | (simp (disch := omega) only [w32_id]; first | done | omega) | omega) ?_ | refine k_ifF (by first | (simp (disch := omega) only [w32_id]; first | done | omega) | omega) ?_ | refine k_pf (by first | assumption | omega) (by (try simp (disch := omega) only [sr_s, sr_a, sr_sr, u1_u1, q38, q39, q40, e2, e4, hor]); exact rfl) ?_ | refine k_ast (by first | assumption | omega) (by first | assumption | exact rfl) (by omega) (by omega) (by omega) (by (try simp (disch := omega) only [sr_s, sr_a, sr_sr, u1_u1, q38, q39, q40, e2, e4, hor]); exact rfl) ?_ | refine k_irm (by omega) (by omega) (by omega) (by omega) ?_ | refine k_idv (by omega) (by omega) (by omega) (by omega) ?_ | refine k_tk (by first | assumption | omega) ?_ | refine k_rp (by omega) ?_ | refine k_aldR (by first | assumption | omega) (by first | assumption | exact rfl) (by omega) (by omega) (by omega) (by first | assumption | ((try simp (disch := omega) only [sr_s, sr_a, sr_sr, u1_s, u1_k, q38, q39, q40, e2, e4, hor]); exact rfl)) (by omega) ?_ | refine k_astR (by first | assumption | omega) (by first | assumption | exact rfl) (by omega) (by omega) (by omega) (by first | assumption | omega) (by (try simp (disch := omega) only [sr_s, sr_a, sr_sr, u1_u1, q38, q39, q40, e2, e4, hor]); exact rfl) ?_ | refine k_pz (by first | assumption | omega) (by omega) (by (try simp (disch := omega) only [sr_s, sr_a, sr_sr, u1_u1, q38, q39, q40, e2, e4, hor]); exact rfl) ?_ | refine k_alen (by first | assumption | omega) (by first | assumption | exact rfl) ?_ | refine k_cpy (by first | assumption | omega) (by first | assumption | omega) (by first | assumption | exact rfl) (by first | assumption | exact rfl) (by omega) (by omega) (by omega) (by omega) (by omega) (by omega) (by omega) (by omega) (by (try simp (disch := omega) only [sr_s, sr_a, sr_sr, u1_u1, q38, q39, q40, e2, e4, hor]); exact rfl) ?_)
      refine Ok.ret ⟨_, rfl, fun a n3 n4 => by rw [sr_a _ _ n3, sr_a _ _ n4]; exact f1 a n3 n4, h4' _ (by rw [sr_a _ _ (by omega), sr_s]), fun _ t t0 t1 => ?_, fun z => absurd y z⟩
      rw [sr_s]
      by_cases y2 : t = (i : Int)
      · rw [u1_e _ _ y2, y2, hD]
      · rw [u1_k _ _ y2]; exact h3 y t t0 (by omega)
    · repeat' (with_reducible first | refine k_gf (by first | assumption | omega) (by first | assumption | ((try simp (disch := omega) only [sr_s, sr_a, sr_sr, u1_s, u1_k, q38, q39, q40, e2, e4, hor]); exact rfl)) ?_ | refine k_gr (by first | assumption | omega) (by first | assumption | ((try simp (disch := omega) only [sr_s, sr_a, sr_sr, u1_s, u1_k, q38, q39, q40, e2, e4, hor]); exact rfl)) (by omega) ?_ | refine k_ald (by first | assumption | omega) (by first | assumption | exact rfl) (by omega) (by omega) (by omega) (by first | assumption | ((try simp (disch := omega) only [sr_s, sr_a, sr_sr, u1_s, u1_k, q38, q39, q40, e2, e4, hor]); exact rfl)) ?_ | refine k_ifT (by first | (simp (disch := omega) only [w32_id]; first | done | omega) | omega) ?_ | refine k_ifF (by first | (simp (disch := omega) only [w32_id]; first | done | omega) | omega) ?_ | refine k_pf (by first | assumption | omega) (by (try simp (disch := omega) only [sr_s, sr_a, sr_sr, u1_u1, q38, q39, q40, e2, e4, hor]); exact rfl) ?_ | refine k_ast (by first | assumption | omega) (by first | assumption | exact rfl) (by omega) (by omega) (by omega) (by (try simp (disch := omega) only [sr_s, sr_a, sr_sr, u1_u1, q38, q39, q40, e2, e4, hor]); exact rfl) ?_ | refine k_irm (by omega) (by omega) (by omega) (by omega) ?_ | refine k_idv (by omega) (by omega) (by omega) (by omega) ?_ | refine k_tk (by first | assumption | omega) ?_ | refine k_rp (by omega) ?_ | refine k_aldR (by first | assumption | omega) (by first | assumption | exact rfl) (by omega) (by omega) (by omega) (by first | assumption | ((try simp (disch := omega) only [sr_s, sr_a, sr_sr, u1_s, u1_k, q38, q39, q40, e2, e4, hor]); exact rfl)) (by omega) ?_ | refine k_astR (by first | assumption | omega) (by first | assumption | exact rfl) (by omega) (by omega) (by omega) (by first | assumption | omega) (by (try simp (disch := omega) only [sr_s, sr_a, sr_sr, u1_u1, q38, q39, q40, e2, e4, hor]); exact rfl) ?_ | refine k_pz (by first | assumption | omega) (by omega) (by (try simp (disch := omega) only [sr_s, sr_a, sr_sr, u1_u1, q38, q39, q40, e2, e4, hor]); exact rfl) ?_ | refine k_alen (by first | assumption | omega) (by first | assumption | exact rfl) ?_ | refine k_cpy (by first | assumption | omega) (by first | assumption | omega) (by first | assumption | exact rfl) (by first | assumption | exact rfl) (by omega) (by omega) (by omega) (by omega) (by omega) (by omega) (by omega) (by omega) (by (try simp (disch := omega) only [sr_s, sr_a, sr_sr, u1_u1, q38, q39, q40, e2, e4, hor]); exact rfl) ?_)
      refine Ok.ret ⟨_, rfl, fun a n3 n4 => by rw [sr_a _ _ n4]; exact f1 a n3 n4, h4' _ (by rw [sr_s]), fun z => absurd z y, fun _ => ?_⟩
      rw [sr_a _ _ (by omega)]
      exact h3' y
  · rintro _ ⟨N1, rfl, f1, h4, h3, h3'⟩
    unfold M_X11_fitting_b141
    dsimp only
    repeat' (with_reducible first | refine k_gf (by first | assumption | omega) (by first | assumption | ((try simp (disch := omega) only [sr_s, sr_a, sr_sr, u1_s, u1_k]); exact rfl)) ?_ | refine k_gr (by first | assumption | omega) (by first | assumption | ((try simp (disch := omega) only [sr_s, sr_a, sr_sr, u1_s, u1_k]); exact rfl)) (by omega) ?_ | refine k_ald (by first | assumption | omega) (by first | assumption | exact rfl) (by omega) (by omega) (by omega) (by first | assumption | ((try simp (disch := omega) only [sr_s, sr_a, sr_sr, u1_s, u1_k]); exact rfl)) ?_ | refine k_ifT (by first | (simp (disch := omega) only [w32_id]; first | done | omega) | omega) ?_ | refine k_ifF (by first | (simp (disch := omega) only [w32_id]; first | done | omega) | omega) ?_ | refine k_pf (by first | assumption | omega) (by (try simp (disch := omega) only [sr_s, sr_a, sr_sr, u1_u1]); exact rfl) ?_ | refine k_ast (by first | assumption | omega) (by first | assumption | exact rfl) (by omega) (by omega) (by omega) (by (try simp (disch := omega) only [sr_s, sr_a, sr_sr, u1_u1]); exact rfl) ?_ | refine k_irm (by omega) (by omega) (by omega) (by omega) ?_ | refine k_idv (by omega) (by omega) (by omega) (by omega) ?_ | refine k_tk (by first | assumption | omega) ?_ | refine k_rp (by omega) ?_ | refine k_aldR (by first | assumption | omega) (by first | assumption | exact rfl) (by omega) (by omega) (by omega) (by first | assumption | ((try simp (disch := omega) only [sr_s, sr_a, sr_sr, u1_s, u1_k]); exact rfl)) (by omega) ?_ | refine k_astR (by first | assumption | omega) (by first | assumption | exact rfl) (by omega) (by omega) (by omega) (by first | assumption | omega) (by (try simp (disch := omega) only [sr_s, sr_a, sr_sr, u1_u1]); exact rfl) ?_ | refine k_pz (by first | assumption | omega) (by omega) (by (try simp (disch := omega) only [sr_s, sr_a, sr_sr, u1_u1]); exact rfl) ?_ | refine k_alen (by first | assumption | omega) (by first | assumption | exact rfl) ?_ | refine k_cpy (by first | assumption | omega) (by first | assumption | omega) (by first | assumption | exact rfl) (by first | assumption | exact rfl) (by omega) (by omega) (by omega) (by omega) (by omega) (by omega) (by omega) (by omega) (by (try simp (disch := omega) only [sr_s, sr_a, sr_sr, u1_u1]); exact rfl) ?_)
    refine Ok.ret ⟨N1, rfl, ⟨⟨fun a x1 x2 x3 x4 x5 x6 x7 x8 => (f1 a x7 x8).trans (hF.1 a x1 x2 x3 x4 x5 x6 x7 x8), fun j hj => by rw [f1 124 (by omega) (by omega)]; exact hF.2.1 j hj, by rw [f1 129 (by omega) (by omega)]; exact hF.2.2⟩, fun t t0 t6 => by rw [h4 t t0 t6, if_pos (by omega)], fun r' hr' hf' hl' t t0 t6 => ?_⟩, f1 142 (by omega) (by omega)⟩
    by_cases y : r' = k
    · subst y
      exact h3 hl' t t0 (by omega)
    · have hlt : fitN M td r' < fitN M td k := by
        have h1 : ∀ d, fitN M td (r' + 1) ≤ fitN M td (r' + 1 + d) := fun d => by
          induction d with
          | zero => exact Nat.le_refl _
          | succ d ih => show _ ≤ fitN M td (r' + 1 + d) + _; omega
        have h2 := h1 (k - (r' + 1))
        rw [show r' + 1 + (k - (r' + 1)) = k by omega] at h2
        have h3 : fitN M td (r' + 1) = fitN M td r' + 1 := by show fitN M td r' + _ = _; rw [if_pos hf']
        omega
      rw [h3' (by omega)]
      exact hfi r' (by omega) hf' hl' t t0 t6
/-- the guesses of a row are put in -/
theorem X11_w47_loop (h0 : Inv0 M G td r) (hR : isR M G td rg) (hg : 1 ≤ M td 4) {look m : Int} {k : Nat} (hF : rfF M N) (hrow : ∀ t, 0 ≤ t → t < 6 → N 142 t = dgU M td k t) (h131 : ∀ i, 0 ≤ i → i < 24 → N 131 i = M (rg + 3) i) : Ok (wh (S := (Hp × Int)) (T := Hp) (fun a => M_X11_fitting_b47 a.1 124 look m a.2) FU ((N, G), 0)) (fun h => ∃ N1, h = (N1, G) ∧ (∀ a, a ≠ 131 → N1 a = N a) ∧ ∀ i, 0 ≤ i → i < 4 * M 24 2 → N1 131 i = erF (M (td + 4)) (M (td + 6)) (M td 4) (uk (M (td + 4)) (M 24 2).toNat) (k : Int) i) := by
  have hG := h0.1.1
  obtain ⟨k124, r3, r0, kr, -⟩ := hR.B hG
  obtain ⟨-, -, -, -, -, ⟨kr4, lr4⟩, -⟩ := hR.2.1
  obtain ⟨-, -, -, q10, -⟩ := hR.2.2.1
  have h3 := hR.2.2.2.1.2.2.2
  have hh := h0.tw
  have c5 := hR.2.2.2.2.2.2.1.2.2.2.2.1
  obtain ⟨-, g0, g5, -, -, hgg⟩ := hR.2.2.2.2.2.2.2.1
  have k131 := gk_131 hG
  have l131 := gl_131 hG
  have k142 := gk_142 hG
  have l142 := gl_142 hG
  have p24 := pr124.p24 h0.2.2.1.1
  have p38 := pr124.p38 h0.2.2.1.1
  refine (wh_for (fun n s => ∃ N1, s = ((N1, G), (n : Int)) ∧ (∀ a, a ≠ 131 → N1 a = N a) ∧ (∀ i, 0 ≤ i → i < 4 * (n : Int) → N1 131 i = erF (M (td + 4)) (M (td + 6)) (M td 4) (uk (M (td + 4)) (M 24 2).toNat) (k : Int) i) ∧ ∀ i, 4 * (n : Int) ≤ i → N1 131 i = N 131 i) _ (M 24 2).toNat (by omega) ⟨N, rfl, fun _ _ => rfl, fun i i0 i1 => by omega, fun i _ => rfl⟩ ?_ ?_)
  · rintro n _ hn ⟨N1, rfl, f1, hlo, hhi⟩
    have hF1 : ∀ N2 : Int → Int → Int, (∀ a, a ≠ 131 → N2 a = N1 a) → rfF M N2 := fun N2 f2 => ⟨fun a x1 x2 x3 x4 x5 x6 x7 x8 => (f2 a x4).trans ((f1 a x4).trans (hF.1 a x1 x2 x3 x4 x5 x6 x7 x8)), fun j hj => by rw [f2 124 (by omega), f1 124 (by omega)]; exact hF.2.1 j hj, by rw [f2 129 (by omega), f1 129 (by omega)]; exact hF.2.2⟩
    have e3 : N1 124 3 = rg := by rw [f1 124 (by omega), hF.2.1 3 (by omega)]; exact r3
    have e33 : N1 rg 3 = M 24 2 := by rw [f1 rg (by omega), hF.hi r0]; exact h3
    have hdn := dgU_b hg (k : Int) (n : Int)
    have her : ∀ j, 0 ≤ j → j < 4 → erF (M (td + 4)) (M (td + 6)) (M td 4) (uk (M (td + 4)) (M 24 2).toNat) (k : Int) (4 * n + j) = if M (td + 4) (4 * (n : Int)) = 10 then M (td + 6) (4 * dgU M td k n + j) else M (td + 4) (4 * n + j) := fun j j0 j4 => by
      unfold erF dgU
      rw [show (4 * (n : Int) + j) / 4 = (n : Int) by omega, show (4 * (n : Int) + j) % 4 = j by omega]
      by_cases y : M (td + 4) (4 * (n : Int)) = 10
      · rw [if_pos ⟨by omega, y⟩, if_pos y, if_pos ⟨by omega, by omega, y⟩]; rfl
      · rw [if_neg (fun z => y z.2), if_neg y]
    unfold M_X11_fitting_b47
    dsimp only
    repeat' (with_reducible first | refine k_gf (by first | assumption | omega) (by first | assumption | ((try simp (disch := omega) only [sr_s, sr_a, sr_sr, u1_s, u1_k, e3, e33]); exact rfl)) ?_ | refine k_gr (by first | assumption | omega) (by first | assumption | ((try simp (disch := omega) only [sr_s, sr_a, sr_sr, u1_s, u1_k, e3, e33]); exact rfl)) (by omega) ?_ | refine k_ald (by first | assumption | omega) (by first | assumption | exact rfl) (by omega) (by omega) (by omega) (by first | assumption | ((try simp (disch := omega) only [sr_s, sr_a, sr_sr, u1_s, u1_k, e3, e33]); exact rfl)) ?_ | refine k_ifT (by first | (simp (disch := omega) only [w32_id]; first | done | omega) | omega) ?_ | refine k_ifF (by first | (simp (disch := omega) only [w32_id]; first | done | omega) | omega) ?_ | refine k_pf (by first | assumption | omega) (by (try simp (disch := omega) only [sr_s, sr_a, sr_sr, u1_u1, e3, e33]); exact rfl) ?_ | refine k_ast (by first | assumption | omega) (by first | assumption | exact rfl) (by omega) (by omega) (by omega) (by (try simp (disch := omega) only [sr_s, sr_a, sr_sr, u1_u1, e3, e33]); exact rfl) ?_ | refine k_irm (by omega) (by omega) (by omega) (by omega) ?_ | refine k_idv (by omega) (by omega) (by omega) (by omega) ?_ | refine k_tk (by first | assumption | omega) ?_ | refine k_rp (by omega) ?_ | refine k_aldR (by first | assumption | omega) (by first | assumption | exact rfl) (by omega) (by omega) (by omega) (by first | assumption | ((try simp (disch := omega) only [sr_s, sr_a, sr_sr, u1_s, u1_k, e3, e33]); exact rfl)) (by omega) ?_ | refine k_astR (by first | assumption | omega) (by first | assumption | exact rfl) (by omega) (by omega) (by omega) (by first | assumption | omega) (by (try simp (disch := omega) only [sr_s, sr_a, sr_sr, u1_u1, e3, e33]); exact rfl) ?_ | refine k_pz (by first | assumption | omega) (by omega) (by (try simp (disch := omega) only [sr_s, sr_a, sr_sr, u1_u1, e3, e33]); exact rfl) ?_ | refine k_alen (by first | assumption | omega) (by first | assumption | exact rfl) ?_ | refine k_cpy (by first | assumption | omega) (by first | assumption | omega) (by first | assumption | exact rfl) (by first | assumption | exact rfl) (by omega) (by omega) (by omega) (by omega) (by omega) (by omega) (by omega) (by omega) (by (try simp (disch := omega) only [sr_s, sr_a, sr_sr, u1_u1, e3, e33]); exact rfl) ?_)
    unfold M_X11_fitting_w62 M_X11_fitting_p115
    refine Ok.bind (Q := fun h => ∃ N2, h = (N2, G) ∧ (∀ a, a ≠ 131 → N2 a = N1 a) ∧ (∀ i, i < 4 * (n : Int) ∨ 4 * (n : Int) + 4 ≤ i → N2 131 i = N1 131 i) ∧ ∀ j, 0 ≤ j → j < 4 → N2 131 (4 * n + j) = erF (M (td + 4)) (M (td + 6)) (M td 4) (uk (M (td + 4)) (M 24 2).toNat) (k : Int) (4 * n + j)) ?_ ?_
    · by_cases y : M (td + 4) (4 * (n : Int)) = 10
      · refine (wh_for (fun j s => ∃ N2, s = ((N2, G), (j : Int)) ∧ (∀ a, a ≠ 131 → N2 a = N1 a) ∧ (∀ i, i < 4 * (n : Int) ∨ 4 * (n : Int) + 4 ≤ i → N2 131 i = N1 131 i) ∧ ∀ x, 0 ≤ x → x < (j : Int) → N2 131 (4 * n + x) = erF (M (td + 4)) (M (td + 6)) (M td 4) (uk (M (td + 4)) (M 24 2).toNat) (k : Int) (4 * n + x)) _ 4 (by omega) ⟨N1, rfl, fun _ _ => rfl, fun _ _ => rfl, fun x x0 x1 => by omega⟩ ?_ ?_)
        · rintro j _ hj ⟨N2, rfl, f2, hout, hin⟩
          have hF2 := hF1 N2 f2
          have hun := X11_isUnknown_ok h0 hR hF2 (t := (n : Int)) (by omega) (by omega)
          rw [if_pos y] at hun
          have s3 : N2 124 3 = rg := by rw [hF2.2.1 3 (by omega)]; exact r3
          have s24 : N2 124 24 = 131 := by rw [hF2.2.1 24 (by omega)]; exact p24
          have s38 : N2 124 38 = 142 := by rw [hF2.2.1 38 (by omega)]; exact p38
          have s10 : N2 rg 10 = rg + 4 := by rw [hF2.hi r0]; exact q10
          have s142 : N2 142 (n : Int) = dgU M td k n := by rw [f2 142 (by omega), f1 142 (by omega)]; exact hrow n (by omega) (by omega)
          have sg : N2 (rg + 4) (4 * dgU M td k n + j) = M (td + 6) (4 * dgU M td k n + j) := by rw [hF2.hi (by omega)]; exact hgg _ (by omega) (by omega)
          have hej := her j (by omega) (by omega)
          rw [if_pos y] at hej
          generalize dgU M td (k : Int) (n : Int) = D at *
          unfold M_X11_fitting_b62
          dsimp only
          refine k_ifT (by rw [w32_id (by omega) (by omega)]; omega) (k_eq hun (k_ifF (by decide) ?_))
          repeat' (with_reducible first | refine k_gf (by first | assumption | omega) (by first | assumption | ((try simp (disch := omega) only [sr_s, sr_a, sr_sr, u1_s, u1_k, s3, s24, s38, s10, s142, sg]); exact rfl)) ?_ | refine k_gr (by first | assumption | omega) (by first | assumption | ((try simp (disch := omega) only [sr_s, sr_a, sr_sr, u1_s, u1_k, s3, s24, s38, s10, s142, sg]); exact rfl)) (by omega) ?_ | refine k_ald (by first | assumption | omega) (by first | assumption | exact rfl) (by omega) (by omega) (by omega) (by first | assumption | ((try simp (disch := omega) only [sr_s, sr_a, sr_sr, u1_s, u1_k, s3, s24, s38, s10, s142, sg]); exact rfl)) ?_ | refine k_ifT (by first | (simp (disch := omega) only [w32_id]; first | done | omega) | omega) ?_ | refine k_ifF (by first | (simp (disch := omega) only [w32_id]; first | done | omega) | omega) ?_ | refine k_pf (by first | assumption | omega) (by (try simp (disch := omega) only [sr_s, sr_a, sr_sr, u1_u1, s3, s24, s38, s10, s142, sg]); exact rfl) ?_ | refine k_ast (by first | assumption | omega) (by first | assumption | exact rfl) (by omega) (by omega) (by omega) (by (try simp (disch := omega) only [sr_s, sr_a, sr_sr, u1_u1, s3, s24, s38, s10, s142, sg]); exact rfl) ?_ | refine k_irm (by omega) (by omega) (by omega) (by omega) ?_ | refine k_idv (by omega) (by omega) (by omega) (by omega) ?_ | refine k_tk (by first | assumption | omega) ?_ | refine k_rp (by omega) ?_ | refine k_aldR (by first | assumption | omega) (by first | assumption | exact rfl) (by omega) (by omega) (by omega) (by first | assumption | ((try simp (disch := omega) only [sr_s, sr_a, sr_sr, u1_s, u1_k, s3, s24, s38, s10, s142, sg]); exact rfl)) (by omega) ?_ | refine k_astR (by first | assumption | omega) (by first | assumption | exact rfl) (by omega) (by omega) (by omega) (by first | assumption | omega) (by (try simp (disch := omega) only [sr_s, sr_a, sr_sr, u1_u1, s3, s24, s38, s10, s142, sg]); exact rfl) ?_ | refine k_pz (by first | assumption | omega) (by omega) (by (try simp (disch := omega) only [sr_s, sr_a, sr_sr, u1_u1, s3, s24, s38, s10, s142, sg]); exact rfl) ?_ | refine k_alen (by first | assumption | omega) (by first | assumption | exact rfl) ?_ | refine k_cpy (by first | assumption | omega) (by first | assumption | omega) (by first | assumption | exact rfl) (by first | assumption | exact rfl) (by omega) (by omega) (by omega) (by omega) (by omega) (by omega) (by omega) (by omega) (by (try simp (disch := omega) only [sr_s, sr_a, sr_sr, u1_u1, s3, s24, s38, s10, s142, sg]); exact rfl) ?_)
          refine Ok.ret ⟨_, rfl, fun a ha => by rw [sr_a _ _ ha]; exact f2 a ha, fun i hi => ?_, fun x x0 x1 => ?_⟩
          · rw [sr_s, u1_k _ _ (by omega)]; exact hout i hi
          · rw [sr_s]
            by_cases z : x = (j : Int)
            · rw [u1_e _ _ (by rw [z]), z, hej]
            · rw [u1_k _ _ (by omega)]; exact hin x x0 (by omega)
        · rintro _ ⟨N2, rfl, hS⟩
          unfold M_X11_fitting_b62
          dsimp only
          repeat' (with_reducible first | refine k_gf (by first | assumption | omega) (by first | assumption | ((try simp (disch := omega) only [sr_s, sr_a, sr_sr, u1_s, u1_k]); exact rfl)) ?_ | refine k_gr (by first | assumption | omega) (by first | assumption | ((try simp (disch := omega) only [sr_s, sr_a, sr_sr, u1_s, u1_k]); exact rfl)) (by omega) ?_ | refine k_ald (by first | assumption | omega) (by first | assumption | exact rfl) (by omega) (by omega) (by omega) (by first | assumption | ((try simp (disch := omega) only [sr_s, sr_a, sr_sr, u1_s, u1_k]); exact rfl)) ?_ | refine k_ifT (by first | (simp (disch := omega) only [w32_id]; first | done | omega) | omega) ?_ | refine k_ifF (by first | (simp (disch := omega) only [w32_id]; first | done | omega) | omega) ?_ | refine k_pf (by first | assumption | omega) (by (try simp (disch := omega) only [sr_s, sr_a, sr_sr, u1_u1]); exact rfl) ?_ | refine k_ast (by first | assumption | omega) (by first | assumption | exact rfl) (by omega) (by omega) (by omega) (by (try simp (disch := omega) only [sr_s, sr_a, sr_sr, u1_u1]); exact rfl) ?_ | refine k_irm (by omega) (by omega) (by omega) (by omega) ?_ | refine k_idv (by omega) (by omega) (by omega) (by omega) ?_ | refine k_tk (by first | assumption | omega) ?_ | refine k_rp (by omega) ?_ | refine k_aldR (by first | assumption | omega) (by first | assumption | exact rfl) (by omega) (by omega) (by omega) (by first | assumption | ((try simp (disch := omega) only [sr_s, sr_a, sr_sr, u1_s, u1_k]); exact rfl)) (by omega) ?_ | refine k_astR (by first | assumption | omega) (by first | assumption | exact rfl) (by omega) (by omega) (by omega) (by first | assumption | omega) (by (try simp (disch := omega) only [sr_s, sr_a, sr_sr, u1_u1]); exact rfl) ?_ | refine k_pz (by first | assumption | omega) (by omega) (by (try simp (disch := omega) only [sr_s, sr_a, sr_sr, u1_u1]); exact rfl) ?_ | refine k_alen (by first | assumption | omega) (by first | assumption | exact rfl) ?_ | refine k_cpy (by first | assumption | omega) (by first | assumption | omega) (by first | assumption | exact rfl) (by first | assumption | exact rfl) (by omega) (by omega) (by omega) (by omega) (by omega) (by omega) (by omega) (by omega) (by (try simp (disch := omega) only [sr_s, sr_a, sr_sr, u1_u1]); exact rfl) ?_)
          exact Ok.ret ⟨N2, rfl, hS⟩
      · have hun := X11_isUnknown_ok h0 hR (hF1 N1 (fun _ _ => rfl)) (t := (n : Int)) (by omega) (by omega)
        rw [if_neg y] at hun
        refine wh_for (fun j s => s = ((N1, G), (0 : Int))) _ 1 (by omega) rfl ?_ ?_
        · rintro j _ hj rfl
          unfold M_X11_fitting_b62
          dsimp only
          refine k_ifT (by decide) (k_eq hun (k_ifT (by decide) (Ok.ret ⟨N1, rfl, fun _ _ => rfl, fun _ _ => rfl, fun j j0 j4 => ?_⟩)))
          rw [her j j0 j4, if_neg y, hhi _ (by omega), h131 _ (by omega) (by omega)]
          exact c5 _ (by omega) (by omega)
        · rintro _ rfl
          unfold M_X11_fitting_b62
          dsimp only
          refine k_ifT (by decide) (k_eq hun (k_ifT (by decide) (Ok.ret ⟨N1, rfl, fun _ _ => rfl, fun _ _ => rfl, fun j j0 j4 => ?_⟩)))
          rw [her j j0 j4, if_neg y, hhi _ (by omega), h131 _ (by omega) (by omega)]
          exact c5 _ (by omega) (by omega)
    · rintro _ ⟨N2, rfl, f2, hout, hin⟩
      refine Ok.ret ⟨N2, rfl, fun a ha => (f2 a ha).trans (f1 a ha), fun i i0 i1 => ?_, fun i hi => ?_⟩
      · by_cases z : i < 4 * (n : Int)
        · rw [hout i (Or.inl z)]; exact hlo i i0 z
        · have := hin (i - 4 * n) (by omega) (by omega)
          rw [show 4 * (n : Int) + (i - 4 * n) = i by omega] at this
          exact this
      · rw [hout i (Or.inr (by omega))]; exact hhi i (by omega)
  · rintro _ ⟨N1, rfl, f1, hlo, hhi⟩
    have e3 : N1 124 3 = rg := by rw [f1 124 (by omega), hF.2.1 3 (by omega)]; exact r3
    have e33 : N1 rg 3 = M 24 2 := by rw [f1 rg (by omega), hF.hi r0]; exact h3
    unfold M_X11_fitting_b47
    dsimp only
    repeat' (with_reducible first | refine k_gf (by first | assumption | omega) (by first | assumption | ((try simp (disch := omega) only [sr_s, sr_a, sr_sr, u1_s, u1_k, e3, e33]); exact rfl)) ?_ | refine k_gr (by first | assumption | omega) (by first | assumption | ((try simp (disch := omega) only [sr_s, sr_a, sr_sr, u1_s, u1_k, e3, e33]); exact rfl)) (by omega) ?_ | refine k_ald (by first | assumption | omega) (by first | assumption | exact rfl) (by omega) (by omega) (by omega) (by first | assumption | ((try simp (disch := omega) only [sr_s, sr_a, sr_sr, u1_s, u1_k, e3, e33]); exact rfl)) ?_ | refine k_ifT (by first | (simp (disch := omega) only [w32_id]; first | done | omega) | omega) ?_ | refine k_ifF (by first | (simp (disch := omega) only [w32_id]; first | done | omega) | omega) ?_ | refine k_pf (by first | assumption | omega) (by (try simp (disch := omega) only [sr_s, sr_a, sr_sr, u1_u1, e3, e33]); exact rfl) ?_ | refine k_ast (by first | assumption | omega) (by first | assumption | exact rfl) (by omega) (by omega) (by omega) (by (try simp (disch := omega) only [sr_s, sr_a, sr_sr, u1_u1, e3, e33]); exact rfl) ?_ | refine k_irm (by omega) (by omega) (by omega) (by omega) ?_ | refine k_idv (by omega) (by omega) (by omega) (by omega) ?_ | refine k_tk (by first | assumption | omega) ?_ | refine k_rp (by omega) ?_ | refine k_aldR (by first | assumption | omega) (by first | assumption | exact rfl) (by omega) (by omega) (by omega) (by first | assumption | ((try simp (disch := omega) only [sr_s, sr_a, sr_sr, u1_s, u1_k, e3, e33]); exact rfl)) (by omega) ?_ | refine k_astR (by first | assumption | omega) (by first | assumption | exact rfl) (by omega) (by omega) (by omega) (by first | assumption | omega) (by (try simp (disch := omega) only [sr_s, sr_a, sr_sr, u1_u1, e3, e33]); exact rfl) ?_ | refine k_pz (by first | assumption | omega) (by omega) (by (try simp (disch := omega) only [sr_s, sr_a, sr_sr, u1_u1, e3, e33]); exact rfl) ?_ | refine k_alen (by first | assumption | omega) (by first | assumption | exact rfl) ?_ | refine k_cpy (by first | assumption | omega) (by first | assumption | omega) (by first | assumption | exact rfl) (by first | assumption | exact rfl) (by omega) (by omega) (by omega) (by omega) (by omega) (by omega) (by omega) (by omega) (by (try simp (disch := omega) only [sr_s, sr_a, sr_sr, u1_u1, e3, e33]); exact rfl) ?_)
    exact Ok.ret ⟨N1, rfl, f1, fun i i0 i1 => hlo i i0 (by omega)⟩
theorem X11_seen_ok2 (h0 : Inv0 M G td r) (hR : isR M G td rg) {er : Int → Int} {N : Int → Int → Int} (hF : rfF M N) (hC : rC N G rg (M 24 0) (M 24 1) (M 24 2) (M (td + 3)) er) (hS : rSt N N (M 24 0) (M 24 1) (M 24 2) 6 (M (td + 3)) er 0 (M (td + 2)) 0 0) (hwf : wfW (M 24 0) (M 24 1) (M 24 2) 6 (M (td + 3)) er 0 (M (td + 2))) : Ok ((M_X11_latestSeen (N, G) 124).bind fun L => (M_X11_steps (N, G) 124 L).bind fun h => (M_X11_firstUnseen h 124).bind fun x => some (h, x)) (fun z => ∃ M1, z = ((M1, G), fstN (sfE M td er) (M td 9).toNat 0) ∧ (∀ a, a ≠ 124 → a ≠ 129 → a ≠ 132 → M1 a = N a) ∧ (∀ k, k ≠ 26 → M1 124 k = N 124 k) ∧ ∀ i, 0 ≤ M1 129 i ∧ M1 129 i < 6) := by
  have hG := h0.1.1
  have hg := hR.2.1
  have hpr := hR.2.2.1
  have hrg := hg.1
  have hwf' := hwf
  obtain ⟨a1, a2, b1, b2, t1, t6, -⟩ := hwf
  have hml := mul_b a1 a2 b1 b2
  have hmk := hR.mk
  obtain ⟨s1, s2, s3, s4⟩ := hR.2.2.2.2.2.2.2.2.1
  have fr : ∀ a, 146 ≤ a → N a = M a := fun a ha => hF.hi ha
  have hrg5 : N rg 5 = M td 9 := by rw [fr rg hrg]; exact s1
  refine Ok.bind (X11_latestSeen_ok hC.2.2.1 hg (by rw [fr rg hrg]; exact hpr) (by omega) (by omega) (fun i i0 i1 => ?_)) ?_
  · obtain ⟨-, x2, -, -, -, y2, -⟩ := s4 i i0 (by omega)
    rw [fr (rg + 6) (by omega), y2]; exact x2
  · rintro L ⟨L0, L1, hL⟩
    refine Ok.bind (X11_steps_ok hC hwf' L0 (by omega) hS) ?_
    rintro ⟨M1, G1⟩ ⟨eG, h1⟩
    dsimp only at eG h1
    subst eG
    have f1 : ∀ a, 146 ≤ a → M1 a = M a := fun a ha => (h1.1 a (by omega) (by omega) (by omega)).trans (fr a ha)
    have hC1 := hC.cg h1.1 h1.2.1
    refine k_eq (X11_firstUnseen_ok (M := M1) (rg := rg) (F := sfE M td er) hG hC1.2.2.1 (pr124.p22 hC1.2.1) h1.2.2.2.1 hg (by rw [f1 rg hrg]; exact hpr) (by rw [f1 rg hrg]; omega) (by rw [f1 rg hrg]; omega) (fun i hi => ?_)) ?_
    · rw [f1 rg hrg, s1] at hi
      obtain ⟨x1, x2, x3, x4, y1, y2, y3, y4⟩ := s4 i (by omega) hi
      have hb := idx_b a1 a2 b2 x3
      have hLi := hL i (by omega) (by omega)
      rw [fr (rg + 6) (by omega), y2] at hLi
      rw [f1 (rg + 5) (by omega), f1 (rg + 6) (by omega), f1 (rg + 7) (by omega), f1 (rg + 8) (by omega), y1, y2, y3, y4]
      refine ⟨by omega, by omega, ?_⟩
      have hv := h1.2.2.2.2.1 (M (td + 8) i).toNat (M (td + 7) i) (idx (M 24 0) (M (td + 9) i)) (Or.inl (by omega)) x1.1 x1.2 hb.1 hb.2
      rw [show (((M (td + 8) i).toNat : Nat) : Int) = M (td + 8) i by omega, inn_idx a1 a2 x3] at hv
      rw [hv]
      rfl
    · rw [f1 rg hrg, s1]
      exact Ok.ret ⟨M1, rfl, h1.1, h1.2.1, h1.2.2.2.1⟩
end F6
