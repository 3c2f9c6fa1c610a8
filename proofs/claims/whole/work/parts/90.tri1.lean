/-! trials: 64 drawings at once -/
def bv3 (v b : Int) : Bool := if b = 0 then decide (v % 2 = 1) else if b = 1 then decide (v / 2 % 2 = 1) else decide (v / 4 % 2 = 1)
theorem sh3 {mk b : Int} (m0 : 0 ≤ mk) (m8 : mk < 8) (b0 : 0 ≤ b) (b3 : b < 3) : w32 (iand (ishr mk b) 1) = 0 ↔ bv3 mk b = false := by
  have hm : mk = 0 ∨ mk = 1 ∨ mk = 2 ∨ mk = 3 ∨ mk = 4 ∨ mk = 5 ∨ mk = 6 ∨ mk = 7 := by omega
  have hb : b = 0 ∨ b = 1 ∨ b = 2 := by omega
  rcases hm with rfl | rfl | rfl | rfl | rfl | rfl | rfl | rfl <;> rcases hb with rfl | rfl | rfl <;> decide
theorem bt_not {x p : Int} (p0 : 0 ≤ p) (p1 : p < 64) : bt (lxor x (-1)) p = !bt x p := by
  unfold bt lxor
  rw [Int64.ofInt_toInt, Int64.toBitVec_xor, BitVec.getLsbD_xor, show (Int64.ofInt (-1)).toBitVec = BitVec.allOnes 64 by decide, BitVec.getLsbD_allOnes, decide_eq_true (by omega), Bool.xor_true]
theorem bt_m1 {p : Int} (p0 : 0 ≤ p) (p1 : p < 64) : bt (-1) p = true := by
  unfold bt
  rw [show (Int64.ofInt (-1)).toBitVec = BitVec.allOnes 64 by decide, BitVec.getLsbD_allOnes]
  exact decide_eq_true (by omega)
/-- a row of longs holds the mark v of place q in a trial -/
def enc (f : Int → Int) (q tr v : Int) : Prop := ∀ b, 0 ≤ b → b < 3 → bt (f (3 * q + b)) tr = bv3 v b
def w3 (f : Int → Int) (q mk tr : Int) : Bool := (bt (f (3 * q)) tr == bv3 mk 0) && (bt (f (3 * q + 1)) tr == bv3 mk 1) && (bt (f (3 * q + 2)) tr == bv3 mk 2)
theorem enc_w3 {f : Int → Int} {q tr v mk : Int} (v0 : 0 ≤ v) (v8 : v < 8) (m0 : 0 ≤ mk) (m8 : mk < 8) (h : enc f q tr v) : w3 f q mk tr = decide (v = mk) := by
  have h0 := h 0 (by omega) (by omega)
  have h1 := h 1 (by omega) (by omega)
  have h2 := h 2 (by omega) (by omega)
  rw [Int.add_zero] at h0
  unfold w3
  rw [h0, h1, h2]
  have hv : v = 0 ∨ v = 1 ∨ v = 2 ∨ v = 3 ∨ v = 4 ∨ v = 5 ∨ v = 6 ∨ v = 7 := by omega
  have hm : mk = 0 ∨ mk = 1 ∨ mk = 2 ∨ mk = 3 ∨ mk = 4 ∨ mk = 5 ∨ mk = 6 ∨ mk = 7 := by omega
  rcases hv with rfl | rfl | rfl | rfl | rfl | rfl | rfl | rfl <;> rcases hm with rfl | rfl | rfl | rfl | rfl | rfl | rfl | rfl <;> decide
def ovR (f : Int → Int) (q T mk n : Int) : Int → Int := fun j => if 3 * q ≤ j ∧ j < 3 * q + n then (if bv3 mk (j - 3 * q) = true then lor (f j) T else land (f j) (lxor T (-1))) else f j
theorem ovR_0 (f : Int → Int) (q T mk : Int) : ovR f q T mk 0 = f := by funext j; unfold ovR; rw [if_neg (by omega)]
theorem ovR_up {f : Int → Int} {q T mk n : Int} (n0 : 0 ≤ n) : u1 (ovR f q T mk n) (3 * q + n) (if bv3 mk n = true then lor (f (3 * q + n)) T else land (f (3 * q + n)) (lxor T (-1))) = ovR f q T mk (n + 1) := by
  funext j
  unfold u1 ovR
  by_cases y : j = 3 * q + n
  · subst y
    rw [if_pos rfl, if_pos (show 3 * q ≤ 3 * q + n ∧ 3 * q + n < 3 * q + (n + 1) by omega), show 3 * q + n - 3 * q = n by omega]
  · rw [if_neg y]
    by_cases y2 : 3 * q ≤ j ∧ j < 3 * q + n
    · rw [if_pos y2, if_pos (show 3 * q ≤ j ∧ j < 3 * q + (n + 1) by omega)]
    · rw [if_neg y2, if_neg (show ¬ (3 * q ≤ j ∧ j < 3 * q + (n + 1)) by omega)]
theorem enc_ov {f : Int → Int} {q T mk tr v : Int} (t0 : 0 ≤ tr) (t1 : tr < 64) (h : bt T tr = false → enc f q tr v) (h2 : bt T tr = true → v = mk) : enc (ovR f q T mk 3) q tr v := by
  intro b b0 b3
  unfold ovR
  rw [if_pos (by omega), show 3 * q + b - 3 * q = b by omega]
  cases hT : bt T tr with
  | false =>
    have hb := h hT b b0 b3
    by_cases y : bv3 mk b = true
    · rw [if_pos y, bt_lor2, hT, Bool.or_false]; exact hb
    · rw [if_neg y, bt_land2, bt_not t0 t1, hT, Bool.not_false, Bool.and_true]; exact hb
  | true =>
    rw [h2 hT]
    by_cases y : bv3 mk b = true
    · rw [if_pos y, bt_lor2, hT, Bool.or_true, y]
    · rw [if_neg y, bt_land2, bt_not t0 t1, hT, Bool.not_true, Bool.and_false]
      rw [Bool.not_eq_true] at y
      exact y.symm
theorem enc_o {f g : Int → Int} {q tr v : Int} (h : enc f q tr v) (e : ∀ b, 0 ≤ b → b < 3 → g (3 * q + b) = f (3 * q + b)) : enc g q tr v := fun b b0 b3 => by rw [e b b0 b3]; exact h b b0 b3
theorem ovR_o {f : Int → Int} {q q' T mk : Int} (h : q' ≠ q) {b : Int} (b0 : 0 ≤ b) (b3 : b < 3) : ovR f q T mk 3 (3 * q' + b) = f (3 * q' + b) := by
  unfold ovR
  rw [if_neg (by omega)]
section T1
variable {M : Int → Int → Int} {G : GG} {a q T mk : Int}
theorem X7_overlay_ok (ka : G.1 a = 2) (la : G.2.1 a = 108) (q0 : 0 ≤ q) (q1 : q < 36) (m0 : 0 ≤ mk) (m8 : mk < 8) : M_X7_overlay (M, G) a q T mk = some (sr M a (ovR (M a) q T mk 3), G) := by
  refine Ok.eq ?_
  unfold M_X7_overlay M_X7_overlay_w3 M_X7_overlay_p56
  refine k_eq (wh_st (fun b => ((sr M a (ovR (M a) q T mk (b : Int)), G), (b : Int))) 3 (by omega) (t := (sr M a (ovR (M a) q T mk 3), G)) ?_ ?_ ?_) (Ok.ret rfl)
  · show _ = ((sr M a (ovR (M a) q T mk 0), G), (0 : Int))
    rw [ovR_0, sr_id]
  · intro b hb
    have hup := ovR_up (f := M a) (q := q) (T := T) (mk := mk) (n := (b : Int)) (by omega)
    have hsh := sh3 m0 m8 (b := (b : Int)) (by omega) (by omega)
    have hrd : sr M a (ovR (M a) q T mk (b : Int)) a (3 * q + b) = M a (3 * q + b) := by rw [sr_s]; unfold ovR; rw [if_neg (by omega)]
    refine Ok.eq ?_
    unfold M_X7_overlay_b3 M_X7_overlay_p49
    dsimp only
    refine k_ifT (by rw [w32_id (by omega) (by omega)]; omega) ?_
    cases hbv : bv3 mk (b : Int) with
    | false =>
      rw [hbv, if_neg (by decide)] at hup
      refine k_ifT (hsh.2 hbv) (k_ald ka la (by omega) (by omega) (by omega) hrd ?_)
      refine k_ast ka la (by omega) (by omega) (by omega) (M' := sr M a (ovR (M a) q T mk ((b + 1 : Nat) : Int))) ?_ (Ok.ret rfl)
      rw [sr_s, sr_sr, hup]
      rfl
    | true =>
      rw [hbv, if_pos rfl] at hup
      refine k_ifF (fun z => by have := hsh.1 z; rw [hbv] at this; cases this) (k_ald ka la (by omega) (by omega) (by omega) hrd ?_)
      refine k_ast ka la (by omega) (by omega) (by omega) (M' := sr M a (ovR (M a) q T mk ((b + 1 : Nat) : Int))) ?_ (Ok.ret rfl)
      rw [sr_s, sr_sr, hup]
      rfl
  · refine Ok.eq ?_
    unfold M_X7_overlay_b3
    dsimp only
    exact k_ifF (by decide) (Ok.ret rfl)
theorem X7_with_ok (hG : gAll G) (pa : M 111 1 = a) (ha : a = 112 ∨ a = 113) (q0 : 0 ≤ q) (q1 : q < 36) (m0 : 0 ≤ mk) (m8 : mk < 8) : Ok (M_X7_with (M, G) 111 q mk) (fun X => ∀ tr, 0 ≤ tr → tr < 64 → bt X tr = w3 (M a) q mk tr) := by
  have ka : G.1 a = 2 := by rcases ha with rfl | rfl; exact gk_112 hG; exact gk_113 hG
  have la : G.2.1 a = 108 := by rcases ha with rfl | rfl; exact gl_112 hG; exact gl_113 hG
  have k111 := gk_111 hG
  unfold M_X7_with M_X7_with_w7 M_X7_with_p55
  refine k_tk k111 ?_
  refine Ok.bind (Q := fun X => ∀ tr, 0 ≤ tr → tr < 64 → bt X tr = w3 (M a) q mk tr) ?_ (fun b hb => Ok.ret hb)
  refine wh_for (fun i s => s.2 = (i : Int) ∧ ∀ tr, 0 ≤ tr → tr < 64 → bt s.1 tr = ((decide ((i : Int) < 1) || (bt (M a (3 * q)) tr == bv3 mk 0)) && (decide ((i : Int) < 2) || (bt (M a (3 * q + 1)) tr == bv3 mk 1)) && (decide ((i : Int) < 3) || (bt (M a (3 * q + 2)) tr == bv3 mk 2)))) _ 3 (by omega) ⟨rfl, fun tr t0 t1 => by rw [bt_m1 t0 t1]; rfl⟩ ?_ ?_
  · rintro i ⟨X, j⟩ hi ⟨e, hX⟩
    dsimp only at e hX ⊢
    subst e
    have hsh := sh3 m0 m8 (b := (i : Int)) (by omega) (by omega)
    have key : ∀ X', (∀ tr, 0 ≤ tr → tr < 64 → bt X' tr = (bt X tr && (bt (M a (3 * q + i)) tr == bv3 mk i))) → ∀ tr, 0 ≤ tr → tr < 64 → bt X' tr = ((decide (((i + 1 : Nat) : Int) < 1) || (bt (M a (3 * q)) tr == bv3 mk 0)) && (decide (((i + 1 : Nat) : Int) < 2) || (bt (M a (3 * q + 1)) tr == bv3 mk 1)) && (decide (((i + 1 : Nat) : Int) < 3) || (bt (M a (3 * q + 2)) tr == bv3 mk 2))) := fun X' h tr t0 t1 => by
      rw [h tr t0 t1, hX tr t0 t1]
      have hi3 : i = 0 ∨ i = 1 ∨ i = 2 := by omega
      rcases hi3 with rfl | rfl | rfl
      · simp
      · simp
      · simp
    unfold M_X7_with_b7 M_X7_with_p47
    refine k_ifT (by rw [w32_id (by omega) (by omega)]; omega) ?_
    repeat' (with_reducible first | refine k_gf (by first | assumption | omega) (by first | assumption | ((try simp (disch := omega) only [sr_s, sr_a, sr_sr, u1_s, u1_k, pa]); exact rfl)) ?_ | refine k_gr (by first | assumption | omega) (by first | assumption | ((try simp (disch := omega) only [sr_s, sr_a, sr_sr, u1_s, u1_k, pa]); exact rfl)) (by omega) ?_ | refine k_ald (by first | assumption | omega) (by first | assumption | exact rfl) (by omega) (by omega) (by omega) (by first | assumption | ((try simp (disch := omega) only [sr_s, sr_a, sr_sr, u1_s, u1_k, pa]); exact rfl)) ?_ | refine k_ifT (by first | (simp (disch := omega) only [w32_id]; first | done | omega) | omega) ?_ | refine k_ifF (by first | (simp (disch := omega) only [w32_id]; first | done | omega) | omega) ?_ | refine k_pf (by first | assumption | omega) (by (try simp (disch := omega) only [sr_s, sr_a, sr_sr, u1_u1, pa]); exact rfl) ?_ | refine k_ast (by first | assumption | omega) (by first | assumption | exact rfl) (by omega) (by omega) (by omega) (by (try simp (disch := omega) only [sr_s, sr_a, sr_sr, u1_u1, pa]); exact rfl) ?_ | refine k_irm (by omega) (by omega) (by omega) (by omega) ?_ | refine k_idv (by omega) (by omega) (by omega) (by omega) ?_ | refine k_tk (by first | assumption | omega) ?_ | refine k_rp (by omega) ?_ | refine k_aldR (by first | assumption | omega) (by first | assumption | exact rfl) (by omega) (by omega) (by omega) (by first | assumption | ((try simp (disch := omega) only [sr_s, sr_a, sr_sr, u1_s, u1_k, pa]); exact rfl)) (by omega) ?_ | refine k_astR (by first | assumption | omega) (by first | assumption | exact rfl) (by omega) (by omega) (by omega) (by first | assumption | omega) (by (try simp (disch := omega) only [sr_s, sr_a, sr_sr, u1_u1, pa]); exact rfl) ?_ | refine k_pz (by first | assumption | omega) (by omega) (by (try simp (disch := omega) only [sr_s, sr_a, sr_sr, u1_u1, pa]); exact rfl) ?_ | refine k_alen (by first | assumption | omega) (by first | assumption | exact rfl) ?_ | refine k_cpy (by first | assumption | omega) (by first | assumption | omega) (by first | assumption | exact rfl) (by first | assumption | exact rfl) (by omega) (by omega) (by omega) (by omega) (by omega) (by omega) (by omega) (by omega) (by (try simp (disch := omega) only [sr_s, sr_a, sr_sr, u1_u1, pa]); exact rfl) ?_)
    cases hbv : bv3 mk (i : Int) with
    | false =>
      refine k_ifT (hsh.2 hbv) (Ok.ret ⟨by dsimp only; omega, key _ (fun tr t0 t1 => ?_)⟩)
      rw [bt_land2, bt_not t0 t1, hbv]
      cases bt (M a (3 * q + i)) tr <;> rfl
    | true =>
      refine k_ifF (fun z => by have := hsh.1 z; rw [hbv] at this; cases this) (Ok.ret ⟨by dsimp only; omega, key _ (fun tr t0 t1 => ?_)⟩)
      rw [bt_land2, hbv]
      cases bt (M a (3 * q + i)) tr <;> rfl
  · rintro ⟨X, j⟩ ⟨e, hX⟩
    dsimp only at e hX ⊢
    subst e
    unfold M_X7_with_b7
    refine k_ifF (by decide) (Ok.ret (fun tr t0 t1 => ?_))
    rw [hX tr t0 t1]
    unfold w3
    simp
end T1
