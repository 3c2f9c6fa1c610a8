/-! the call led -/
def M_X9_led_b4 (h : Hp) (l0 l1 l2 l3 : Int) : Option ((Int × Int) ⊕ (Unit ⊕ Int)) :=
  (gr 19 h l0 4).bind fun x1 =>
  (gf 18 h x1 2).bind fun x2 =>
  if w32 l3 < w32 x2 then (
    (M_X9_isLed h l0 l3).bind fun x3 =>
    if w32 x3 = 0 then (
      some (.inl (l2, l3 + 1))
    ) else (
      if w32 l2 = w32 l1 then (
        some (.inr (.inr l3))
      ) else (
        some (.inl (l2 + 1, l3 + 1))
      )
    )
  ) else (
    some (.inr (.inl ()))
  )
/-- what led does: throws (inl), or answers -/
def M_X9_led (h : Hp) (l0 l1 : Int) : Option (Unit ⊕ Int) := tk 19 h l0 (
  wh (S := (Int × Int)) (T := (Unit ⊕ Int)) (fun a => M_X9_led_b4 h l0 l1 a.1 a.2) FU (0, 0))
/-- the same, over which towns are as at first -/
def ledR (L : Int → Bool) (n : Int) : Nat → Int → Int → Unit ⊕ Int
  | 0, _, _ => .inl ()
  | k + 1, c, t => if L t = true then ledR L n k c (t + 1) else if c = n then .inr t else ledR L n k (c + 1) (t + 1)
theorem ledR_b {L : Int → Bool} {n v : Int} : ∀ (k : Nat) (c t : Int), 0 ≤ t → ledR L n k c t = .inr v → 0 ≤ v ∧ v < t + k
  | 0, c, t, _, h => by cases h
  | k + 1, c, t, h0, h => by
    unfold ledR at h
    split at h
    · have := ledR_b k c (t + 1) (by omega) h; omega
    · split at h
      · cases h; omega
      · have := ledR_b k (c + 1) (t + 1) (by omega) h; omega
theorem led_run {T : Type} {body : Int × Int → Option ((Int × Int) ⊕ T)} (fin : Unit ⊕ Int → T) {L : Int → Bool} {n tw : Int} (hb : ∀ c t, 0 ≤ t → t < tw → 0 ≤ c → c ≤ t → body (c, t) = some (if L t = true then .inl (c, t + 1) else if c = n then .inr (fin (.inr t)) else .inl (c + 1, t + 1))) (he : ∀ c, 0 ≤ c → c ≤ tw → body (c, tw) = some (.inr (fin (.inl ())))) : ∀ (k m : Nat) (c t : Int), t + k = tw → k < m → 0 ≤ t → 0 ≤ c → c ≤ t → wh body m (c, t) = some (fin (ledR L n k c t))
  | 0, m, c, t, ht, hm, t0, c0, c1 => by
    obtain ⟨m, rfl⟩ : ∃ q, m = q + 1 := ⟨m - 1, by omega⟩
    have : t = tw := by omega
    subst this
    unfold wh
    rw [he c c0 c1]
    rfl
  | k + 1, m, c, t, ht, hm, t0, c0, c1 => by
    obtain ⟨m, rfl⟩ : ∃ q, m = q + 1 := ⟨m - 1, by omega⟩
    unfold wh ledR
    rw [hb c t t0 (by omega) c0 c1]
    by_cases y : L t = true
    · rw [if_pos y, if_pos y]
      exact led_run fin hb he k m c (t + 1) (by omega) (by omega) (by omega) c0 (by omega)
    · rw [if_neg y, if_neg y]
      by_cases z : c = n
      · rw [if_pos z, if_pos z]; rfl
      · rw [if_neg z, if_neg z]
        exact led_run fin hb he k m (c + 1) (t + 1) (by omega) (by omega) (by omega) (by omega) (by omega)
section LE
variable {M M1 : Int → Int → Int} {G G1 : GG} {td r rg t n : Int}
/-- is a town as at first, in the class -/
def asC (M : Int → Int → Int) (td t : Int) : Bool := seN (fun p => decide (M 25 (36 * t + p) = M (td + 2) (36 * t + p))) 36
def asR (M : Int → Int → Int) (rg wh t : Int) : Bool := seN (fun p => decide (M 126 (36 * t + p) = M (rg + 1) (36 * t + p))) wh.toNat
theorem X9_isLed_ok (h : Inv0 M G td r) (hR : isR M G td rg) (t0 : 0 ≤ t) (t6 : t < 6) : M_X9_isLed (M, G) 0 t = some (if asC M td t = true then 0 else 1) := by
  have hG := h.1.1
  have hp0 := h.1.2.1
  obtain ⟨m3, m4, m5⟩ := h.now
  have m2 := h.1.2.2.2.1
  have htd := h.1.2.2.1
  have kt : G.1 td = 15 := by rcases htd with rfl | rfl; exact gk_2 hG; exact gk_13 hG
  have gw : gW G (td + 1) := by rcases htd with rfl | rfl; exact gW_3 hG; exact gW_14 hG
  have hs : shR M td := by rcases htd with rfl | rfl; exact h.1.2.2.2.2.2.1; exact h.1.2.2.2.2.2.2.1
  have hw : shW M (td + 1) := by rcases htd with rfl | rfl; exact h.1.2.2.2.2.2.2.2.1; exact h.1.2.2.2.2.2.2.2.2.1
  have s1 := hs.1
  have s3 : M (td + 1) 3 = td + 2 := by have := hw.1.1; omega
  have kw := gw.2.1
  have kc : G.1 (td + 2) = 1 := by have := gw.2.2.1; rw [show td + 1 + 1 = td + 2 by omega] at this; exact this
  have lc : G.2.1 (td + 2) = 216 := by have := gw.2.2.2.1; rw [show td + 1 + 1 = td + 2 by omega] at this; exact this
  have k0 := gk_0 hG
  have k24 := gk_24 hG
  have k25 := gk_25 hG
  have l25 := gl_25 hG
  have p4 := pr0.p4 hp0
  obtain ⟨-, -, -, -, hwf, -⟩ := hR.cl
  have hce : ∀ i, 0 ≤ M 25 i ∧ M 25 i ≤ 6 := fun i => by have := hwf.2.2.2.2.2.2.2.2.2.2.2.2.2.2 i; have := hwf.2.2.2.2.2.2.2.1; omega
  have hwt := hR.2.2.2.2.2.1
  have hct : ∀ i, 0 ≤ M (td + 2) i ∧ M (td + 2) i ≤ 6 := fun i => by
    have h1 := hwt.2.2.2.1.2.2.2.2.2.2.2.2.2.2.2.2.2.2 i
    rw [show td + 1 + 1 = td + 2 by omega] at h1
    have := hwf.2.2.2.2.2.2.2.1
    omega
  clear hwf hwt hR hs hw
  unfold M_X9_isLed
  rw [tk_ok k0]
  unfold M_X9_isLed_w5 M_X9_isLed_p47
  have key : Ok (wh (S := Int) (T := (Unit ⊕ (Int))) (fun a => M_X9_isLed_b5 (M, G) 0 t a) FU (36 * t)) (fun z => z = if asC M td t = true then .inl () else .inr 1) := by
    refine wh_for (fun i s => s = 36 * t + (i : Int) ∧ ∀ j : Nat, j < i → M 25 (36 * t + (j : Int)) = M (td + 2) (36 * t + (j : Int))) _ 36 (by omega) ⟨by omega, fun j hj => by omega⟩ ?_ ?_
    · rintro i _ hi ⟨rfl, hall⟩
      have e1 := hce (36 * t + i)
      have e2 := hct (36 * t + i)
      have hT := fun (_ : True) => hall
      clear hall
      unfold M_X9_isLed_b5
      by_cases y : M 25 (36 * t + (i : Int)) = M (td + 2) (36 * t + (i : Int))
      · repeat' (with_reducible first | refine k_gf (by first | assumption | omega) (by first | assumption | ((try simp (disch := omega) only [sr_s, sr_a, sr_sr, u1_s, u1_k, p4, m3, m2, s1, s3]); exact rfl)) ?_ | refine k_gr (by first | assumption | omega) (by first | assumption | ((try simp (disch := omega) only [sr_s, sr_a, sr_sr, u1_s, u1_k, p4, m3, m2, s1, s3]); exact rfl)) (by omega) ?_ | refine k_ald (by first | assumption | omega) (by first | assumption | exact rfl) (by omega) (by omega) (by omega) (by first | assumption | ((try simp (disch := omega) only [sr_s, sr_a, sr_sr, u1_s, u1_k, p4, m3, m2, s1, s3]); exact rfl)) ?_ | refine k_ifT (by first | (simp (disch := omega) only [w32_id]; first | done | omega) | omega) ?_ | refine k_ifF (by first | (simp (disch := omega) only [w32_id]; first | done | omega) | omega) ?_ | refine k_pf (by first | assumption | omega) (by (try simp (disch := omega) only [sr_s, sr_a, sr_sr, u1_u1, p4, m3, m2, s1, s3]); exact rfl) ?_ | refine k_ast (by first | assumption | omega) (by first | assumption | exact rfl) (by omega) (by omega) (by omega) (by (try simp (disch := omega) only [sr_s, sr_a, sr_sr, u1_u1, p4, m3, m2, s1, s3]); exact rfl) ?_ | refine k_irm (by omega) (by omega) (by omega) (by omega) ?_ | refine k_idv (by omega) (by omega) (by omega) (by omega) ?_ | refine k_tk (by first | assumption | omega) ?_ | refine k_rp (by omega) ?_ | refine k_aldR (by first | assumption | omega) (by first | assumption | exact rfl) (by omega) (by omega) (by omega) (by first | assumption | ((try simp (disch := omega) only [sr_s, sr_a, sr_sr, u1_s, u1_k, p4, m3, m2, s1, s3]); exact rfl)) (by omega) ?_ | refine k_astR (by first | assumption | omega) (by first | assumption | exact rfl) (by omega) (by omega) (by omega) (by first | assumption | omega) (by (try simp (disch := omega) only [sr_s, sr_a, sr_sr, u1_u1, p4, m3, m2, s1, s3]); exact rfl) ?_ | refine k_pz (by first | assumption | omega) (by omega) (by (try simp (disch := omega) only [sr_s, sr_a, sr_sr, u1_u1, p4, m3, m2, s1, s3]); exact rfl) ?_ | refine k_alen (by first | assumption | omega) (by first | assumption | exact rfl) ?_ | refine k_cpy (by first | assumption | omega) (by first | assumption | omega) (by first | assumption | exact rfl) (by first | assumption | exact rfl) (by omega) (by omega) (by omega) (by omega) (by omega) (by omega) (by omega) (by omega) (by (try simp (disch := omega) only [sr_s, sr_a, sr_sr, u1_u1, p4, m3, m2, s1, s3]); exact rfl) ?_)
        refine Ok.ret ⟨by omega, fun j hj => ?_⟩
        by_cases z : j = i
        · rw [z]; exact y
        · exact hT trivial j (by omega)
      · repeat' (with_reducible first | refine k_gf (by first | assumption | omega) (by first | assumption | ((try simp (disch := omega) only [sr_s, sr_a, sr_sr, u1_s, u1_k, p4, m3, m2, s1, s3]); exact rfl)) ?_ | refine k_gr (by first | assumption | omega) (by first | assumption | ((try simp (disch := omega) only [sr_s, sr_a, sr_sr, u1_s, u1_k, p4, m3, m2, s1, s3]); exact rfl)) (by omega) ?_ | refine k_ald (by first | assumption | omega) (by first | assumption | exact rfl) (by omega) (by omega) (by omega) (by first | assumption | ((try simp (disch := omega) only [sr_s, sr_a, sr_sr, u1_s, u1_k, p4, m3, m2, s1, s3]); exact rfl)) ?_ | refine k_ifT (by first | (simp (disch := omega) only [w32_id]; first | done | omega) | omega) ?_ | refine k_ifF (by first | (simp (disch := omega) only [w32_id]; first | done | omega) | omega) ?_ | refine k_pf (by first | assumption | omega) (by (try simp (disch := omega) only [sr_s, sr_a, sr_sr, u1_u1, p4, m3, m2, s1, s3]); exact rfl) ?_ | refine k_ast (by first | assumption | omega) (by first | assumption | exact rfl) (by omega) (by omega) (by omega) (by (try simp (disch := omega) only [sr_s, sr_a, sr_sr, u1_u1, p4, m3, m2, s1, s3]); exact rfl) ?_ | refine k_irm (by omega) (by omega) (by omega) (by omega) ?_ | refine k_idv (by omega) (by omega) (by omega) (by omega) ?_ | refine k_tk (by first | assumption | omega) ?_ | refine k_rp (by omega) ?_ | refine k_aldR (by first | assumption | omega) (by first | assumption | exact rfl) (by omega) (by omega) (by omega) (by first | assumption | ((try simp (disch := omega) only [sr_s, sr_a, sr_sr, u1_s, u1_k, p4, m3, m2, s1, s3]); exact rfl)) (by omega) ?_ | refine k_astR (by first | assumption | omega) (by first | assumption | exact rfl) (by omega) (by omega) (by omega) (by first | assumption | omega) (by (try simp (disch := omega) only [sr_s, sr_a, sr_sr, u1_u1, p4, m3, m2, s1, s3]); exact rfl) ?_ | refine k_pz (by first | assumption | omega) (by omega) (by (try simp (disch := omega) only [sr_s, sr_a, sr_sr, u1_u1, p4, m3, m2, s1, s3]); exact rfl) ?_ | refine k_alen (by first | assumption | omega) (by first | assumption | exact rfl) ?_ | refine k_cpy (by first | assumption | omega) (by first | assumption | omega) (by first | assumption | exact rfl) (by first | assumption | exact rfl) (by omega) (by omega) (by omega) (by omega) (by omega) (by omega) (by omega) (by omega) (by (try simp (disch := omega) only [sr_s, sr_a, sr_sr, u1_u1, p4, m3, m2, s1, s3]); exact rfl) ?_)
        refine Ok.ret ?_
        show (Sum.inr 1 : Unit ⊕ Int) = if asC M td t = true then .inl () else .inr 1
        rw [if_neg]
        intro q
        have := (seN_iff 36).mp q i hi
        exact y (of_decide_eq_true this)
    · rintro _ ⟨rfl, hall⟩
      have hT := fun (_ : True) => hall
      clear hall
      unfold M_X9_isLed_b5
      repeat' (with_reducible first | refine k_gf (by first | assumption | omega) (by first | assumption | ((try simp (disch := omega) only [sr_s, sr_a, sr_sr, u1_s, u1_k]); exact rfl)) ?_ | refine k_gr (by first | assumption | omega) (by first | assumption | ((try simp (disch := omega) only [sr_s, sr_a, sr_sr, u1_s, u1_k]); exact rfl)) (by omega) ?_ | refine k_ald (by first | assumption | omega) (by first | assumption | exact rfl) (by omega) (by omega) (by omega) (by first | assumption | ((try simp (disch := omega) only [sr_s, sr_a, sr_sr, u1_s, u1_k]); exact rfl)) ?_ | refine k_ifT (by first | (simp (disch := omega) only [w32_id]; first | done | omega) | omega) ?_ | refine k_ifF (by first | (simp (disch := omega) only [w32_id]; first | done | omega) | omega) ?_ | refine k_pf (by first | assumption | omega) (by (try simp (disch := omega) only [sr_s, sr_a, sr_sr, u1_u1]); exact rfl) ?_ | refine k_ast (by first | assumption | omega) (by first | assumption | exact rfl) (by omega) (by omega) (by omega) (by (try simp (disch := omega) only [sr_s, sr_a, sr_sr, u1_u1]); exact rfl) ?_ | refine k_irm (by omega) (by omega) (by omega) (by omega) ?_ | refine k_idv (by omega) (by omega) (by omega) (by omega) ?_ | refine k_tk (by first | assumption | omega) ?_ | refine k_rp (by omega) ?_ | refine k_aldR (by first | assumption | omega) (by first | assumption | exact rfl) (by omega) (by omega) (by omega) (by first | assumption | ((try simp (disch := omega) only [sr_s, sr_a, sr_sr, u1_s, u1_k]); exact rfl)) (by omega) ?_ | refine k_astR (by first | assumption | omega) (by first | assumption | exact rfl) (by omega) (by omega) (by omega) (by first | assumption | omega) (by (try simp (disch := omega) only [sr_s, sr_a, sr_sr, u1_u1]); exact rfl) ?_ | refine k_pz (by first | assumption | omega) (by omega) (by (try simp (disch := omega) only [sr_s, sr_a, sr_sr, u1_u1]); exact rfl) ?_ | refine k_alen (by first | assumption | omega) (by first | assumption | exact rfl) ?_ | refine k_cpy (by first | assumption | omega) (by first | assumption | omega) (by first | assumption | exact rfl) (by first | assumption | exact rfl) (by omega) (by omega) (by omega) (by omega) (by omega) (by omega) (by omega) (by omega) (by (try simp (disch := omega) only [sr_s, sr_a, sr_sr, u1_u1]); exact rfl) ?_)
      refine Ok.ret ?_
      show (Sum.inl () : Unit ⊕ Int) = if asC M td t = true then .inl () else .inr 1
      rw [if_pos]
      exact (seN_iff 36).mpr (fun j hj => decide_eq_true (hT trivial j hj))
  rw [Ok.eq key, Option.bind_some]
  by_cases y : asC M td t = true
  · rw [if_pos y, if_pos y]; rfl
  · rw [if_neg y, if_neg y]; rfl
theorem as_eq (h : Inv0 M G td r) (hR : isR M G td rg) (t0 : 0 ≤ t) (t1 : t < M 24 2) : asR M rg (M 24 0 * M 24 1) t = asC M td t := by
  obtain ⟨-, -, -, -, hwf, hc, -, -, -, -, hz, -⟩ := hR.cl
  obtain ⟨a1, a2, b1, b2, t1', t6, -⟩ := hwf
  have hwt := hR.2.2.2.2.2.1.2.2.2.2.1
  have hct := hR.2.2.2.2.2.2.1.2.2.1
  rw [show td + 1 + 1 = td + 2 by omega] at hwt
  have hiff : asR M rg (M 24 0 * M 24 1) t = true ↔ asC M td t = true := by
    unfold asR asC
    rw [seN_iff, seN_iff]
    constructor
    · intro hq j hj
      refine decide_eq_true ?_
      by_cases y : (j : Int) % 6 < M 24 0 ∧ (j : Int) / 6 < M 24 1
      · have hp : inV (M 24 0) (M 24 1) (j : Int) := ⟨by omega, y.1, y.2⟩
        have hb := idx_b a1 a2 b2 hp
        rw [← hc t j t0 t1 hp, ← hct t j t0 t1 hp]
        have := of_decide_eq_true (hq (idx (M 24 0) j).toNat (by omega))
        rw [show (((idx (M 24 0) (j : Int)).toNat : Nat) : Int) = idx (M 24 0) j by omega] at this
        exact this
      · rw [hz (36 * t + j) (by omega), hwt (36 * t + j) (by omega)]
    · intro hq q hq1
      have q1 : (q : Int) < M 24 0 * M 24 1 := by omega
      have hb := inn_b a1 a2 b1 b2 (by omega) q1
      have hp := inn_in a1 a2 b1 b2 (by omega) q1
      refine decide_eq_true ?_
      have e := idx_inn a1 a2 (q := (q : Int)) (by omega)
      have h1 := hc t _ t0 t1 hp
      have h2 := hct t _ t0 t1 hp
      rw [e] at h1 h2
      rw [h1, h2]
      have := of_decide_eq_true (hq (inn (M 24 0) q).toNat (by omega))
      rw [show (((inn (M 24 0) (q : Int)).toNat : Nat) : Int) = inn (M 24 0) q by omega] at this
      exact this
  cases h1 : asR M rg (M 24 0 * M 24 1) t <;> cases h2 : asC M td t <;> simp_all
theorem X11_isAsFirst_ok (h : Inv0 M G td r) (hR : isR M G td rg) (t0 : 0 ≤ t) (t1 : t < M 24 2) : M_X11_isAsFirst (M, G) 124 t = some (if asC M td t = true then 1 else 0) := by
  have hG := h.1.1
  have hpr := h.2.2.1.1
  have p17 := hpr.p17
  rw [← as_eq h hR t0 t1]
  have hb : ∀ k, 0 ≤ M (rg + 1) k ∧ M (rg + 1) k < 6 := hR.2.2.2.2.2.2.1.2.2.2.2.2.1
  have hb2 : ∀ k, 0 ≤ k → k < 216 → 0 ≤ M 126 k ∧ M 126 k < 6 := fun k k0 k1 => by
    have := hR.2.2.2.2.2.2.2.2.2.1.2.2.2.2.2 k k0 k1
    rw [Int.zero_add] at this
    exact this
  obtain ⟨e0, e1, -, -, hwf, -⟩ := hR.cl
  obtain ⟨a1, a2, b1, b2, -, t6, -⟩ := hwf
  obtain ⟨r0, kr, ⟨k1, l1⟩, -⟩ := hR.2.1
  have p7 := hR.2.2.1.1
  have m3 := hR.1
  have k124 := gk_124 hG
  have k126 := gk_126 hG
  have l126 := gl_126 hG
  have hm : M 24 0 * M 24 1 ≤ 6 * 6 := Int.mul_le_mul a2 b2 (by omega) (by omega)
  have hm0 : 0 ≤ M 24 0 * M 24 1 := Int.mul_nonneg (by omega) (by omega)
  obtain ⟨A, hA⟩ : ∃ A, A = M 24 0 * M 24 1 := ⟨_, rfl⟩
  have hall : M_X10_all (M, G) rg = some A := by
    refine Ok.eq ?_
    unfold M_X10_all
    repeat' (with_reducible first | refine k_gf (by first | assumption | omega) (by first | assumption | ((try simp (disch := omega) only [sr_s, sr_a, sr_sr, u1_s, u1_k, e0, e1]); exact rfl)) ?_ | refine k_gr (by first | assumption | omega) (by first | assumption | ((try simp (disch := omega) only [sr_s, sr_a, sr_sr, u1_s, u1_k, e0, e1]); exact rfl)) (by omega) ?_ | refine k_ald (by first | assumption | omega) (by first | assumption | exact rfl) (by omega) (by omega) (by omega) (by first | assumption | ((try simp (disch := omega) only [sr_s, sr_a, sr_sr, u1_s, u1_k, e0, e1]); exact rfl)) ?_ | refine k_ifT (by first | (simp (disch := omega) only [w32_id]; first | done | omega) | omega) ?_ | refine k_ifF (by first | (simp (disch := omega) only [w32_id]; first | done | omega) | omega) ?_ | refine k_pf (by first | assumption | omega) (by (try simp (disch := omega) only [sr_s, sr_a, sr_sr, u1_u1, e0, e1]); exact rfl) ?_ | refine k_ast (by first | assumption | omega) (by first | assumption | exact rfl) (by omega) (by omega) (by omega) (by (try simp (disch := omega) only [sr_s, sr_a, sr_sr, u1_u1, e0, e1]); exact rfl) ?_ | refine k_irm (by omega) (by omega) (by omega) (by omega) ?_ | refine k_idv (by omega) (by omega) (by omega) (by omega) ?_ | refine k_tk (by first | assumption | omega) ?_ | refine k_rp (by omega) ?_ | refine k_aldR (by first | assumption | omega) (by first | assumption | exact rfl) (by omega) (by omega) (by omega) (by first | assumption | ((try simp (disch := omega) only [sr_s, sr_a, sr_sr, u1_s, u1_k, e0, e1]); exact rfl)) (by omega) ?_ | refine k_astR (by first | assumption | omega) (by first | assumption | exact rfl) (by omega) (by omega) (by omega) (by first | assumption | omega) (by (try simp (disch := omega) only [sr_s, sr_a, sr_sr, u1_u1, e0, e1]); exact rfl) ?_ | refine k_pz (by first | assumption | omega) (by omega) (by (try simp (disch := omega) only [sr_s, sr_a, sr_sr, u1_u1, e0, e1]); exact rfl) ?_ | refine k_alen (by first | assumption | omega) (by first | assumption | exact rfl) ?_ | refine k_cpy (by first | assumption | omega) (by first | assumption | omega) (by first | assumption | exact rfl) (by first | assumption | exact rfl) (by omega) (by omega) (by omega) (by omega) (by omega) (by omega) (by omega) (by omega) (by (try simp (disch := omega) only [sr_s, sr_a, sr_sr, u1_u1, e0, e1]); exact rfl) ?_)
    exact Ok.ret hA.symm
  rw [← hA] at hm hm0 ⊢
  clear hR h
  unfold M_X11_isAsFirst
  rw [tk_ok k124]
  unfold M_X11_isAsFirst_w2 M_X11_isAsFirst_p49
  have key : Ok (wh (S := Int) (T := (Unit ⊕ (Int))) (fun a => M_X11_isAsFirst_b2 (M, G) 124 t a) FU 0) (fun z => z = if asR M rg A t = true then .inl () else .inr 0) := by
    refine wh_for (fun i s => s = (i : Int) ∧ ∀ j : Nat, j < i → M 126 (36 * t + (j : Int)) = M (rg + 1) (36 * t + (j : Int))) _ A.toNat (by omega) ⟨by omega, fun j hj => by omega⟩ ?_ ?_
    · rintro i _ hi ⟨rfl, hq⟩
      have f1 := hb (36 * t + i)
      have f2 := hb2 (36 * t + i) (by omega) (by omega)
      have hT := fun (_ : True) => hq
      clear hq
      unfold M_X11_isAsFirst_b2
      by_cases y : M 126 (36 * t + (i : Int)) = M (rg + 1) (36 * t + (i : Int))
      · repeat' (with_reducible first | refine k_gf (by first | assumption | omega) (by first | assumption | ((try simp (disch := omega) only [sr_s, sr_a, sr_sr, u1_s, u1_k, m3, p17, p7]); exact rfl)) ?_ | refine k_gr (by first | assumption | omega) (by first | assumption | ((try simp (disch := omega) only [sr_s, sr_a, sr_sr, u1_s, u1_k, m3, p17, p7]); exact rfl)) (by omega) ?_ | refine k_ald (by first | assumption | omega) (by first | assumption | exact rfl) (by omega) (by omega) (by omega) (by first | assumption | ((try simp (disch := omega) only [sr_s, sr_a, sr_sr, u1_s, u1_k, m3, p17, p7]); exact rfl)) ?_ | refine k_eq (hall) ?_ | refine k_ifT (by first | (simp (disch := omega) only [w32_id]; first | done | omega) | omega) ?_ | refine k_ifF (by first | (simp (disch := omega) only [w32_id]; first | done | omega) | omega) ?_ | refine k_pf (by first | assumption | omega) (by (try simp (disch := omega) only [sr_s, sr_a, sr_sr, u1_u1, m3, p17, p7]); exact rfl) ?_ | refine k_ast (by first | assumption | omega) (by first | assumption | exact rfl) (by omega) (by omega) (by omega) (by (try simp (disch := omega) only [sr_s, sr_a, sr_sr, u1_u1, m3, p17, p7]); exact rfl) ?_ | refine k_irm (by omega) (by omega) (by omega) (by omega) ?_ | refine k_idv (by omega) (by omega) (by omega) (by omega) ?_ | refine k_tk (by first | assumption | omega) ?_ | refine k_rp (by omega) ?_ | refine k_aldR (by first | assumption | omega) (by first | assumption | exact rfl) (by omega) (by omega) (by omega) (by first | assumption | ((try simp (disch := omega) only [sr_s, sr_a, sr_sr, u1_s, u1_k, m3, p17, p7]); exact rfl)) (by omega) ?_ | refine k_astR (by first | assumption | omega) (by first | assumption | exact rfl) (by omega) (by omega) (by omega) (by first | assumption | omega) (by (try simp (disch := omega) only [sr_s, sr_a, sr_sr, u1_u1, m3, p17, p7]); exact rfl) ?_ | refine k_pz (by first | assumption | omega) (by omega) (by (try simp (disch := omega) only [sr_s, sr_a, sr_sr, u1_u1, m3, p17, p7]); exact rfl) ?_ | refine k_alen (by first | assumption | omega) (by first | assumption | exact rfl) ?_ | refine k_cpy (by first | assumption | omega) (by first | assumption | omega) (by first | assumption | exact rfl) (by first | assumption | exact rfl) (by omega) (by omega) (by omega) (by omega) (by omega) (by omega) (by omega) (by omega) (by (try simp (disch := omega) only [sr_s, sr_a, sr_sr, u1_u1, m3, p17, p7]); exact rfl) ?_)
        refine Ok.ret ⟨by omega, fun j hj => ?_⟩
        by_cases z : j = i
        · rw [z]; exact y
        · exact hT trivial j (by omega)
      · repeat' (with_reducible first | refine k_gf (by first | assumption | omega) (by first | assumption | ((try simp (disch := omega) only [sr_s, sr_a, sr_sr, u1_s, u1_k, m3, p17, p7]); exact rfl)) ?_ | refine k_gr (by first | assumption | omega) (by first | assumption | ((try simp (disch := omega) only [sr_s, sr_a, sr_sr, u1_s, u1_k, m3, p17, p7]); exact rfl)) (by omega) ?_ | refine k_ald (by first | assumption | omega) (by first | assumption | exact rfl) (by omega) (by omega) (by omega) (by first | assumption | ((try simp (disch := omega) only [sr_s, sr_a, sr_sr, u1_s, u1_k, m3, p17, p7]); exact rfl)) ?_ | refine k_eq (hall) ?_ | refine k_ifT (by first | (simp (disch := omega) only [w32_id]; first | done | omega) | omega) ?_ | refine k_ifF (by first | (simp (disch := omega) only [w32_id]; first | done | omega) | omega) ?_ | refine k_pf (by first | assumption | omega) (by (try simp (disch := omega) only [sr_s, sr_a, sr_sr, u1_u1, m3, p17, p7]); exact rfl) ?_ | refine k_ast (by first | assumption | omega) (by first | assumption | exact rfl) (by omega) (by omega) (by omega) (by (try simp (disch := omega) only [sr_s, sr_a, sr_sr, u1_u1, m3, p17, p7]); exact rfl) ?_ | refine k_irm (by omega) (by omega) (by omega) (by omega) ?_ | refine k_idv (by omega) (by omega) (by omega) (by omega) ?_ | refine k_tk (by first | assumption | omega) ?_ | refine k_rp (by omega) ?_ | refine k_aldR (by first | assumption | omega) (by first | assumption | exact rfl) (by omega) (by omega) (by omega) (by first | assumption | ((try simp (disch := omega) only [sr_s, sr_a, sr_sr, u1_s, u1_k, m3, p17, p7]); exact rfl)) (by omega) ?_ | refine k_astR (by first | assumption | omega) (by first | assumption | exact rfl) (by omega) (by omega) (by omega) (by first | assumption | omega) (by (try simp (disch := omega) only [sr_s, sr_a, sr_sr, u1_u1, m3, p17, p7]); exact rfl) ?_ | refine k_pz (by first | assumption | omega) (by omega) (by (try simp (disch := omega) only [sr_s, sr_a, sr_sr, u1_u1, m3, p17, p7]); exact rfl) ?_ | refine k_alen (by first | assumption | omega) (by first | assumption | exact rfl) ?_ | refine k_cpy (by first | assumption | omega) (by first | assumption | omega) (by first | assumption | exact rfl) (by first | assumption | exact rfl) (by omega) (by omega) (by omega) (by omega) (by omega) (by omega) (by omega) (by omega) (by (try simp (disch := omega) only [sr_s, sr_a, sr_sr, u1_u1, m3, p17, p7]); exact rfl) ?_)
        refine Ok.ret ?_
        show (Sum.inr 0 : Unit ⊕ Int) = if asR M rg A t = true then .inl () else .inr 0
        rw [if_neg]
        intro q
        have := (seN_iff A.toNat).mp q i hi
        exact y (of_decide_eq_true this)
    · rintro _ ⟨rfl, hq⟩
      have hT := fun (_ : True) => hq
      clear hq
      unfold M_X11_isAsFirst_b2
      repeat' (with_reducible first | refine k_gf (by first | assumption | omega) (by first | assumption | ((try simp (disch := omega) only [sr_s, sr_a, sr_sr, u1_s, u1_k, m3]); exact rfl)) ?_ | refine k_gr (by first | assumption | omega) (by first | assumption | ((try simp (disch := omega) only [sr_s, sr_a, sr_sr, u1_s, u1_k, m3]); exact rfl)) (by omega) ?_ | refine k_ald (by first | assumption | omega) (by first | assumption | exact rfl) (by omega) (by omega) (by omega) (by first | assumption | ((try simp (disch := omega) only [sr_s, sr_a, sr_sr, u1_s, u1_k, m3]); exact rfl)) ?_ | refine k_eq (hall) ?_ | refine k_ifT (by first | (simp (disch := omega) only [w32_id]; first | done | omega) | omega) ?_ | refine k_ifF (by first | (simp (disch := omega) only [w32_id]; first | done | omega) | omega) ?_ | refine k_pf (by first | assumption | omega) (by (try simp (disch := omega) only [sr_s, sr_a, sr_sr, u1_u1, m3]); exact rfl) ?_ | refine k_ast (by first | assumption | omega) (by first | assumption | exact rfl) (by omega) (by omega) (by omega) (by (try simp (disch := omega) only [sr_s, sr_a, sr_sr, u1_u1, m3]); exact rfl) ?_ | refine k_irm (by omega) (by omega) (by omega) (by omega) ?_ | refine k_idv (by omega) (by omega) (by omega) (by omega) ?_ | refine k_tk (by first | assumption | omega) ?_ | refine k_rp (by omega) ?_ | refine k_aldR (by first | assumption | omega) (by first | assumption | exact rfl) (by omega) (by omega) (by omega) (by first | assumption | ((try simp (disch := omega) only [sr_s, sr_a, sr_sr, u1_s, u1_k, m3]); exact rfl)) (by omega) ?_ | refine k_astR (by first | assumption | omega) (by first | assumption | exact rfl) (by omega) (by omega) (by omega) (by first | assumption | omega) (by (try simp (disch := omega) only [sr_s, sr_a, sr_sr, u1_u1, m3]); exact rfl) ?_ | refine k_pz (by first | assumption | omega) (by omega) (by (try simp (disch := omega) only [sr_s, sr_a, sr_sr, u1_u1, m3]); exact rfl) ?_ | refine k_alen (by first | assumption | omega) (by first | assumption | exact rfl) ?_ | refine k_cpy (by first | assumption | omega) (by first | assumption | omega) (by first | assumption | exact rfl) (by first | assumption | exact rfl) (by omega) (by omega) (by omega) (by omega) (by omega) (by omega) (by omega) (by omega) (by (try simp (disch := omega) only [sr_s, sr_a, sr_sr, u1_u1, m3]); exact rfl) ?_)
      refine Ok.ret ?_
      show (Sum.inl () : Unit ⊕ Int) = if asR M rg A t = true then .inl () else .inr 0
      rw [if_pos]
      exact (seN_iff A.toNat).mpr (fun j hj => decide_eq_true (hT trivial j hj))
  rw [Ok.eq key, Option.bind_some]
  by_cases y : asR M rg A t = true
  · rw [if_pos y, if_pos y]; rfl
  · rw [if_neg y, if_neg y]; rfl
end LE
