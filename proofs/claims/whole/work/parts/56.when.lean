/-! when -/
section BE
variable {M M1 M2 : Int → Int → Int} {G : GG} {td r rg w v a : Int}
theorem be_a (h : a < w ∨ w + 3 < a) : beM M w v a = M a := by
  unfold beM
  rw [sr_a _ _ (by omega), sr_a _ _ (by omega), sr_a _ _ (by omega), sr_a _ _ (by omega)]
theorem be_0 : beM M w v w = fun k => if k = 0 then M v 0 else if k = 1 then M v 1 else if k = 2 then M v 2 else if k = 6 then M v 6 else if k = 7 then M v 7 else M w k := by
  unfold beM
  rw [sr_a _ _ (by omega), sr_a _ _ (by omega), sr_a _ _ (by omega), sr_s]
theorem be_1 : beM M w v (w + 1) = M (v + 1) := by
  unfold beM
  rw [sr_a _ _ (by omega), sr_a _ _ (by omega), sr_s]
theorem be_2 : beM M w v (w + 2) = M (v + 2) := by
  unfold beM
  rw [sr_a _ _ (by omega), sr_s]
theorem be_3 : beM M w v (w + 3) = M (v + 3) := by
  unfold beM
  rw [sr_s]
theorem be28_ok (h0 : Inv0 M G td r) : M_X8_become (M, G) 28 24 = some (beM M 28 24, G) :=
  X8_become_ok (gW_28 h0.1.1) h0.2.1.1.1 h0.2.1.1.2 (gW_24 h0.1.1) h0.s24.1 h0.s24.2 (by omega)
theorem go28_ok (h0 : Inv0 M G td r) (hR : isR M G td rg) (k : Nat) : M_X8_goOn (goM (beM M 28 24) 28 123 k, G) 28 123 = some (goM (beM M 28 24) 28 123 (k + 1), G) := by
  have hG := h0.1.1
  have hs := h0.2.1
  have hwf := hR.cl.2.2.2.2.1
  refine goM_ok (mk := M td 0) (gW_28 hG) ?_ ?_ ?_ (gk_123 hG) (gl_123 hG) (by omega) ?_ k
  · unfold mW; rw [be_0]; exact hs.1.1
  · unfold zoW; rw [be_1, be_2, be_3]; exact h0.s24.2
  · show wfW _ _ _ _ _ _ _ _; rw [be_0, be_1, be_2, be_3]; exact hwf
  · rw [be_a (by omega)]; exact hs.2.2.2.2.2.2.2.1
theorem go28_a (k : Nat) (h : a < 28 ∨ 31 < a) (h2 : a ≠ 123) : goM (beM M 28 24) 28 123 k a = M a := by
  unfold goM
  rw [sr_a _ _ (by omega), sr_a _ _ (by omega), sr_a _ _ (by omega), be_a (by omega)]
theorem go28_1 (k : Nat) : goM (beM M 28 24) 28 123 k 29 = bhM M 24 k := by
  unfold goM
  rw [sr_a _ _ (by omega)]
  show sr _ (28 + 1) _ (28 + 1) = _
  rw [sr_s, be_0, be_1, be_2, be_3]
  rfl
theorem go28_0 (k : Nat) {j : Int} (h : j ≠ 6) : goM (beM M 28 24) 28 123 k 28 j = beM M 28 24 28 j := by
  unfold goM
  rw [sr_s, u1_k _ _ h]
theorem go28_cQ (h0 : Inv0 M G td r) (k : Nat) : cQ M (goM (beM M 28 24) 28 123 k) := by
  have hs := h0.2.1
  have t6 := h0.tw.2.1
  refine ⟨fun a ha => go28_a k (by omega) (by omega), fun j _ => by rw [go28_a k (by omega) (by omega)], ?_⟩
  obtain ⟨v1, v2, v3, v4, v5, v6, v7, v8, v9, v10⟩ := hs
  have w : ∀ b, (32 ≤ b ∧ b ≠ 123) → goM (beM M 28 24) 28 123 k b = M b := fun b hb => go28_a k (by omega) (by omega)
  unfold cSc
  refine ⟨⟨?_, ?_⟩, ?_, ?_, ?_, ?_, ?_, ?_, ?_, ?_, ?_⟩
  · unfold mW
    rw [go28_0 k (by omega), go28_0 k (by omega), go28_0 k (by omega), be_0]
    exact v1.1
  · unfold zoW
    rw [show goM (beM M 28 24) 28 123 k (28 + 1) = bhM M 24 k from go28_1 k]
    have e2 : goM (beM M 28 24) 28 123 k (28 + 2) = M (24 + 2) := by unfold goM; rw [sr_a _ _ (by omega), sr_a _ _ (by omega), sr_a _ _ (by omega), be_2]
    have e3 : goM (beM M 28 24) 28 123 k (28 + 3) = M (24 + 3) := by unfold goM; rw [sr_a _ _ (by omega), sr_a _ _ (by omega), sr_a _ _ (by omega), be_3]
    rw [e2, e3]
    exact ⟨bh_o t6 h0.s24.2.1 _, h0.s24.2.2⟩
  · unfold shW mW zoW at *; simp (disch := omega) only [w]; exact v2
  · unfold chI at *; simp (disch := omega) only [w]; exact v3
  · rw [w 106 (by omega)]; exact v4
  · rw [w 111 (by omega)]; exact v5
  · rw [w 111 (by omega)]; exact v6
  · rw [w 117 (by omega)]; exact v7
  · unfold goM
    rw [sr_a _ _ (by omega), sr_a _ _ (by omega), sr_s]
    split
    · rw [be_a (by omega)]; exact v8
    · rw [be_0, be_1, be_2, be_3]; exact bh_o t6 h0.s24.2.1 _
  · rw [w 118 (by omega)]; exact v9
  · rw [w 122 (by omega)]; exact v10
/-- the first of d numbers from i on that f holds of -/
def fstN (f : Nat → Bool) : Nat → Nat → Int
  | 0, _ => -2
  | d + 1, i => if f i = true then (i : Int) else fstN f d (i + 1)
end BE
section WN
variable {M M1 M2 : Int → Int → Int} {G : GG} {td r rg t p k : Int}
theorem X9_when_loop (h0 : Inv0 M G td r) (hR : isR M G td rg) {ce : Int} (c0 : 0 ≤ ce) (c1 : ce < 216) (hk : 0 ≤ k ∧ k < 6) : Ok (M_X9_when_w55 FU (beM M 28 24, G) 0 k ce 0) (cP M G (fstN (fun n => decide (bhM M 24 n ce = k)) 61 0) 0) := by
  have hG := h0.1.1
  have hp0 := h0.1.2.1
  have hwf := hR.cl.2.2.2.2.1
  have hb : ∀ n, 0 ≤ bhM M 24 n ce ∧ bhM M 24 n ce < 6 := fun n => by
    have := (bh_wf hwf n).2.2.2.2.2.2.2.2.2.2.2.2.2.2 ce
    exact ⟨this.1, Int.lt_of_lt_of_le this.2 hR.mk.2⟩
  have p5 := pr0.p5 hp0
  have p13 := pr0.p13 hp0
  have k0 := gk_0 hG
  have k28 := gk_28 hG
  have k29 := gk_29 hG
  have l29 := gl_29 hG
  unfold M_X9_when_w55
  generalize hV : fstN (fun n => decide (bhM M 24 n ce = k)) 61 0 = V
  have hlo : Ok (wh (S := (Hp × Int)) (T := (Hp ⊕ (Hp × Int))) (fun a => M_X9_when_b55 a.1 0 k ce a.2) FU ((beM M 28 24, G), 0)) (lo (fun h => h = (goM (beM M 28 24) 28 123 61, G) ∧ V = -2) (cP M G V 0)) := by
    refine wh_for (fun i s => s = ((goM (beM M 28 24) 28 123 i, G), (i : Int)) ∧ V = fstN (fun n => decide (bhM M 24 n ce = k)) (61 - i) i) _ 61 (by omega) ?_ ?_ ?_
    · exact ⟨by rw [goM_0 (by omega)]; rfl, hV.symm⟩
    · rintro i _ hi ⟨rfl, hv⟩
      rw [show 61 - i = (61 - (i + 1)) + 1 by omega] at hv
      unfold fstN at hv
      have hbi := hb i
      have g0 := go28_a (M := M) (a := 0) i (by omega) (by omega)
      have g28 : goM (beM M 28 24) 28 123 i 28 3 = 29 := by rw [go28_0 i (by omega), be_0]; exact h0.2.1.1.1.1
      have g29 := go28_1 (M := M) i
      unfold M_X9_when_b55
      dsimp only
      by_cases y : bhM M 24 i ce = k
      · rw [if_pos (by simpa using y)] at hv
        repeat' (with_reducible first | refine k_gf (by first | assumption | omega) (by first | assumption | ((try simp (disch := omega) only [sr_s, sr_a, sr_sr, u1_s, u1_k, g0, g28, g29, p5, p13]); exact rfl)) ?_ | refine k_gr (by first | assumption | omega) (by first | assumption | ((try simp (disch := omega) only [sr_s, sr_a, sr_sr, u1_s, u1_k, g0, g28, g29, p5, p13]); exact rfl)) (by omega) ?_ | refine k_ald (by first | assumption | omega) (by first | assumption | exact rfl) (by omega) (by omega) (by omega) (by first | assumption | ((try simp (disch := omega) only [sr_s, sr_a, sr_sr, u1_s, u1_k, g0, g28, g29, p5, p13]); exact rfl)) ?_ | refine k_eq (go28_ok h0 hR i) ?_ | refine k_ifT (by first | (simp (disch := omega) only [w32_id]; first | done | omega) | omega) ?_ | refine k_ifF (by first | (simp (disch := omega) only [w32_id]; first | done | omega) | omega) ?_ | refine k_pf (by first | assumption | omega) (by (try simp (disch := omega) only [sr_s, sr_a, sr_sr, u1_u1, g0, g28, g29, p5, p13]); exact rfl) ?_ | refine k_ast (by first | assumption | omega) (by first | assumption | exact rfl) (by omega) (by omega) (by omega) (by (try simp (disch := omega) only [sr_s, sr_a, sr_sr, u1_u1, g0, g28, g29, p5, p13]); exact rfl) ?_ | refine k_irm (by omega) (by omega) (by omega) (by omega) ?_ | refine k_idv (by omega) (by omega) (by omega) (by omega) ?_ | refine k_tk (by first | assumption | omega) ?_ | refine k_rp (by omega) ?_ | refine k_aldR (by first | assumption | omega) (by first | assumption | exact rfl) (by omega) (by omega) (by omega) (by first | assumption | ((try simp (disch := omega) only [sr_s, sr_a, sr_sr, u1_s, u1_k, g0, g28, g29, p5, p13]); exact rfl)) (by omega) ?_ | refine k_astR (by first | assumption | omega) (by first | assumption | exact rfl) (by omega) (by omega) (by omega) (by first | assumption | omega) (by (try simp (disch := omega) only [sr_s, sr_a, sr_sr, u1_u1, g0, g28, g29, p5, p13]); exact rfl) ?_ | refine k_pz (by first | assumption | omega) (by omega) (by (try simp (disch := omega) only [sr_s, sr_a, sr_sr, u1_u1, g0, g28, g29, p5, p13]); exact rfl) ?_ | refine k_alen (by first | assumption | omega) (by first | assumption | exact rfl) ?_ | refine k_cpy (by first | assumption | omega) (by first | assumption | omega) (by first | assumption | exact rfl) (by first | assumption | exact rfl) (by omega) (by omega) (by omega) (by omega) (by omega) (by omega) (by omega) (by omega) (by (try simp (disch := omega) only [sr_s, sr_a, sr_sr, u1_u1, g0, g28, g29, p5, p13]); exact rfl) ?_ | refine k_if (by (try simp (disch := omega) only [w32_id]); exact Iff.rfl) (fun c => ?_) (fun c => ?_))
        have hcq := go28_cQ h0 i
        have h2 := cQ.tr (M := goM (beM M 28 24) 28 123 i) hcq.2.2 0
        exact k_bd (X9_answered_ok hG) (Ok.ret ⟨_, by rw [hv], hcq.trans h2.1, h2.2⟩)
      · rw [if_neg (by simpa using y)] at hv
        repeat' (with_reducible first | refine k_gf (by first | assumption | omega) (by first | assumption | ((try simp (disch := omega) only [sr_s, sr_a, sr_sr, u1_s, u1_k, g0, g28, g29, p5, p13]); exact rfl)) ?_ | refine k_gr (by first | assumption | omega) (by first | assumption | ((try simp (disch := omega) only [sr_s, sr_a, sr_sr, u1_s, u1_k, g0, g28, g29, p5, p13]); exact rfl)) (by omega) ?_ | refine k_ald (by first | assumption | omega) (by first | assumption | exact rfl) (by omega) (by omega) (by omega) (by first | assumption | ((try simp (disch := omega) only [sr_s, sr_a, sr_sr, u1_s, u1_k, g0, g28, g29, p5, p13]); exact rfl)) ?_ | refine k_eq (go28_ok h0 hR i) ?_ | refine k_ifT (by first | (simp (disch := omega) only [w32_id]; first | done | omega) | omega) ?_ | refine k_ifF (by first | (simp (disch := omega) only [w32_id]; first | done | omega) | omega) ?_ | refine k_pf (by first | assumption | omega) (by (try simp (disch := omega) only [sr_s, sr_a, sr_sr, u1_u1, g0, g28, g29, p5, p13]); exact rfl) ?_ | refine k_ast (by first | assumption | omega) (by first | assumption | exact rfl) (by omega) (by omega) (by omega) (by (try simp (disch := omega) only [sr_s, sr_a, sr_sr, u1_u1, g0, g28, g29, p5, p13]); exact rfl) ?_ | refine k_irm (by omega) (by omega) (by omega) (by omega) ?_ | refine k_idv (by omega) (by omega) (by omega) (by omega) ?_ | refine k_tk (by first | assumption | omega) ?_ | refine k_rp (by omega) ?_ | refine k_aldR (by first | assumption | omega) (by first | assumption | exact rfl) (by omega) (by omega) (by omega) (by first | assumption | ((try simp (disch := omega) only [sr_s, sr_a, sr_sr, u1_s, u1_k, g0, g28, g29, p5, p13]); exact rfl)) (by omega) ?_ | refine k_astR (by first | assumption | omega) (by first | assumption | exact rfl) (by omega) (by omega) (by omega) (by first | assumption | omega) (by (try simp (disch := omega) only [sr_s, sr_a, sr_sr, u1_u1, g0, g28, g29, p5, p13]); exact rfl) ?_ | refine k_pz (by first | assumption | omega) (by omega) (by (try simp (disch := omega) only [sr_s, sr_a, sr_sr, u1_u1, g0, g28, g29, p5, p13]); exact rfl) ?_ | refine k_alen (by first | assumption | omega) (by first | assumption | exact rfl) ?_ | refine k_cpy (by first | assumption | omega) (by first | assumption | omega) (by first | assumption | exact rfl) (by first | assumption | exact rfl) (by omega) (by omega) (by omega) (by omega) (by omega) (by omega) (by omega) (by omega) (by (try simp (disch := omega) only [sr_s, sr_a, sr_sr, u1_u1, g0, g28, g29, p5, p13]); exact rfl) ?_ | refine k_if (by (try simp (disch := omega) only [w32_id]); exact Iff.rfl) (fun c => ?_) (fun c => ?_))
        refine Ok.ret ?_
        exact ⟨by rw [show ((i + 1 : Nat) : Int) = (i : Int) + 1 by omega], hv⟩
    · rintro _ ⟨rfl, hv⟩
      unfold M_X9_when_b55
      dsimp only
      repeat' (with_reducible first | refine k_gf (by first | assumption | omega) (by first | assumption | ((try simp (disch := omega) only [sr_s, sr_a, sr_sr, u1_s, u1_k]); exact rfl)) ?_ | refine k_gr (by first | assumption | omega) (by first | assumption | ((try simp (disch := omega) only [sr_s, sr_a, sr_sr, u1_s, u1_k]); exact rfl)) (by omega) ?_ | refine k_ald (by first | assumption | omega) (by first | assumption | exact rfl) (by omega) (by omega) (by omega) (by first | assumption | ((try simp (disch := omega) only [sr_s, sr_a, sr_sr, u1_s, u1_k]); exact rfl)) ?_ | refine k_ifT (by first | (simp (disch := omega) only [w32_id]; first | done | omega) | omega) ?_ | refine k_ifF (by first | (simp (disch := omega) only [w32_id]; first | done | omega) | omega) ?_ | refine k_pf (by first | assumption | omega) (by (try simp (disch := omega) only [sr_s, sr_a, sr_sr, u1_u1]); exact rfl) ?_ | refine k_ast (by first | assumption | omega) (by first | assumption | exact rfl) (by omega) (by omega) (by omega) (by (try simp (disch := omega) only [sr_s, sr_a, sr_sr, u1_u1]); exact rfl) ?_ | refine k_irm (by omega) (by omega) (by omega) (by omega) ?_ | refine k_idv (by omega) (by omega) (by omega) (by omega) ?_ | refine k_tk (by first | assumption | omega) ?_ | refine k_rp (by omega) ?_ | refine k_aldR (by first | assumption | omega) (by first | assumption | exact rfl) (by omega) (by omega) (by omega) (by first | assumption | ((try simp (disch := omega) only [sr_s, sr_a, sr_sr, u1_s, u1_k]); exact rfl)) (by omega) ?_ | refine k_astR (by first | assumption | omega) (by first | assumption | exact rfl) (by omega) (by omega) (by omega) (by first | assumption | omega) (by (try simp (disch := omega) only [sr_s, sr_a, sr_sr, u1_u1]); exact rfl) ?_ | refine k_pz (by first | assumption | omega) (by omega) (by (try simp (disch := omega) only [sr_s, sr_a, sr_sr, u1_u1]); exact rfl) ?_ | refine k_alen (by first | assumption | omega) (by first | assumption | exact rfl) ?_ | refine k_cpy (by first | assumption | omega) (by first | assumption | omega) (by first | assumption | exact rfl) (by first | assumption | exact rfl) (by omega) (by omega) (by omega) (by omega) (by omega) (by omega) (by omega) (by omega) (by (try simp (disch := omega) only [sr_s, sr_a, sr_sr, u1_u1]); exact rfl) ?_ | refine k_if (by (try simp (disch := omega) only [w32_id]); exact Iff.rfl) (fun c => ?_) (fun c => ?_))
      exact Ok.ret ⟨rfl, hv⟩
  refine Ok.bind hlo ?_
  intro z hz
  cases z with
  | inl h =>
    obtain ⟨rfl, rfl⟩ := hz
    rw [exi_l]
    unfold M_X9_when_p100
    exact e_ans hG (go28_cQ h0 61)
  | inr q =>
    rw [exi_r]
    exact Ok.ret hz
theorem X11_when_loop (hG : gAll G) (hB : rB M G rg) (hmp : ∀ i, 0 ≤ M 129 i ∧ M 129 i < 6) (p22 : M 124 22 = 129) (hp : i32 p) (hc : plC (M rg 0) (M rg 1) p) (t0 : 0 ≤ t) (t1 : t < 6) (hk : 0 ≤ k ∧ k < 6) (f : Nat → Int) (hf : ∀ n : Nat, n ≤ 60 → M 129 (216 * n + 36 * t + idx (M rg 0) (ipC p)) = f n) : Ok (M_X11_when_w50 FU (M, G) 124 t p k 0) (rP M G (fstN (fun n => decide (f n = k)) 61 0) 0) := by
  have hin := ipC_in hc (by have := hB; unfold rB at this; omega)
  have hb := idx_b hB.2.2.2.2.1 hB.2.2.2.2.2.1 hB.2.2.2.2.2.2.2 hin
  have hm := mul_b hB.2.2.2.2.1 hB.2.2.2.2.2.1 hB.2.2.2.2.2.2.1 hB.2.2.2.2.2.2.2
  have hpo := X11_placeOf_T hB hp hc
  generalize idx (M rg 0) (ipC p) = q at *
  unfold M_X11_when_w50
  generalize hV : fstN (fun n => decide (f n = k)) 61 0 = V
  have hlo : Ok (wh (S := Int) (T := (Unit ⊕ (Hp × Int))) (fun a => M_X11_when_b50 (M, G) 124 t p k a) FU 0) (lo (fun _ => V = -2) (rP M G V 0)) := by
    refine wh_for (fun i s => s = (i : Int) ∧ V = fstN (fun n => decide (f n = k)) (61 - i) i) _ 61 (by omega) ?_ ?_ ?_
    · exact ⟨rfl, hV.symm⟩
    · rintro i _ hi ⟨rfl, hv⟩
      rw [show 61 - i = (61 - (i + 1)) + 1 by omega] at hv
      unfold fstN at hv
      have hmi := hmp (216 * i + 36 * t + q)
      have hfi := hf i (by omega)
      have hbe := X11_behind_ok (M := M) (n := (i : Int)) (t := t) (i := q) hG p22 (by omega) (by omega)
      rw [hfi] at hbe hmi
      unfold M_X11_when_b50
      by_cases y : f i = k
      · rw [if_pos (by simpa using y)] at hv
        repeat' (with_reducible first | refine k_gf (by first | assumption | omega) (by first | assumption | ((try simp (disch := omega) only [sr_s, sr_a, sr_sr, u1_s, u1_k]); exact rfl)) ?_ | refine k_gr (by first | assumption | omega) (by first | assumption | ((try simp (disch := omega) only [sr_s, sr_a, sr_sr, u1_s, u1_k]); exact rfl)) (by omega) ?_ | refine k_ald (by first | assumption | omega) (by first | assumption | exact rfl) (by omega) (by omega) (by omega) (by first | assumption | ((try simp (disch := omega) only [sr_s, sr_a, sr_sr, u1_s, u1_k]); exact rfl)) ?_ | refine k_eq (hpo) ?_ | refine k_eq (hbe) ?_ | refine k_ifT (by first | (simp (disch := omega) only [w32_id]; first | done | omega) | omega) ?_ | refine k_ifF (by first | (simp (disch := omega) only [w32_id]; first | done | omega) | omega) ?_ | refine k_pf (by first | assumption | omega) (by (try simp (disch := omega) only [sr_s, sr_a, sr_sr, u1_u1]); exact rfl) ?_ | refine k_ast (by first | assumption | omega) (by first | assumption | exact rfl) (by omega) (by omega) (by omega) (by (try simp (disch := omega) only [sr_s, sr_a, sr_sr, u1_u1]); exact rfl) ?_ | refine k_irm (by omega) (by omega) (by omega) (by omega) ?_ | refine k_idv (by omega) (by omega) (by omega) (by omega) ?_ | refine k_tk (by first | assumption | omega) ?_ | refine k_rp (by omega) ?_ | refine k_aldR (by first | assumption | omega) (by first | assumption | exact rfl) (by omega) (by omega) (by omega) (by first | assumption | ((try simp (disch := omega) only [sr_s, sr_a, sr_sr, u1_s, u1_k]); exact rfl)) (by omega) ?_ | refine k_astR (by first | assumption | omega) (by first | assumption | exact rfl) (by omega) (by omega) (by omega) (by first | assumption | omega) (by (try simp (disch := omega) only [sr_s, sr_a, sr_sr, u1_u1]); exact rfl) ?_ | refine k_pz (by first | assumption | omega) (by omega) (by (try simp (disch := omega) only [sr_s, sr_a, sr_sr, u1_u1]); exact rfl) ?_ | refine k_alen (by first | assumption | omega) (by first | assumption | exact rfl) ?_ | refine k_cpy (by first | assumption | omega) (by first | assumption | omega) (by first | assumption | exact rfl) (by first | assumption | exact rfl) (by omega) (by omega) (by omega) (by omega) (by omega) (by omega) (by omega) (by omega) (by (try simp (disch := omega) only [sr_s, sr_a, sr_sr, u1_u1]); exact rfl) ?_ | refine k_if (by (try simp (disch := omega) only [w32_id]); exact Iff.rfl) (fun c => ?_) (fun c => ?_))
        have h2 := rQ.tr (M := M) hmp 0
        exact k_bd (X11_good_ok hG) (Ok.ret ⟨_, by rw [hv], h2.1, h2.2⟩)
      · rw [if_neg (by simpa using y)] at hv
        repeat' (with_reducible first | refine k_gf (by first | assumption | omega) (by first | assumption | ((try simp (disch := omega) only [sr_s, sr_a, sr_sr, u1_s, u1_k]); exact rfl)) ?_ | refine k_gr (by first | assumption | omega) (by first | assumption | ((try simp (disch := omega) only [sr_s, sr_a, sr_sr, u1_s, u1_k]); exact rfl)) (by omega) ?_ | refine k_ald (by first | assumption | omega) (by first | assumption | exact rfl) (by omega) (by omega) (by omega) (by first | assumption | ((try simp (disch := omega) only [sr_s, sr_a, sr_sr, u1_s, u1_k]); exact rfl)) ?_ | refine k_eq (hpo) ?_ | refine k_eq (hbe) ?_ | refine k_ifT (by first | (simp (disch := omega) only [w32_id]; first | done | omega) | omega) ?_ | refine k_ifF (by first | (simp (disch := omega) only [w32_id]; first | done | omega) | omega) ?_ | refine k_pf (by first | assumption | omega) (by (try simp (disch := omega) only [sr_s, sr_a, sr_sr, u1_u1]); exact rfl) ?_ | refine k_ast (by first | assumption | omega) (by first | assumption | exact rfl) (by omega) (by omega) (by omega) (by (try simp (disch := omega) only [sr_s, sr_a, sr_sr, u1_u1]); exact rfl) ?_ | refine k_irm (by omega) (by omega) (by omega) (by omega) ?_ | refine k_idv (by omega) (by omega) (by omega) (by omega) ?_ | refine k_tk (by first | assumption | omega) ?_ | refine k_rp (by omega) ?_ | refine k_aldR (by first | assumption | omega) (by first | assumption | exact rfl) (by omega) (by omega) (by omega) (by first | assumption | ((try simp (disch := omega) only [sr_s, sr_a, sr_sr, u1_s, u1_k]); exact rfl)) (by omega) ?_ | refine k_astR (by first | assumption | omega) (by first | assumption | exact rfl) (by omega) (by omega) (by omega) (by first | assumption | omega) (by (try simp (disch := omega) only [sr_s, sr_a, sr_sr, u1_u1]); exact rfl) ?_ | refine k_pz (by first | assumption | omega) (by omega) (by (try simp (disch := omega) only [sr_s, sr_a, sr_sr, u1_u1]); exact rfl) ?_ | refine k_alen (by first | assumption | omega) (by first | assumption | exact rfl) ?_ | refine k_cpy (by first | assumption | omega) (by first | assumption | omega) (by first | assumption | exact rfl) (by first | assumption | exact rfl) (by omega) (by omega) (by omega) (by omega) (by omega) (by omega) (by omega) (by omega) (by (try simp (disch := omega) only [sr_s, sr_a, sr_sr, u1_u1]); exact rfl) ?_ | refine k_if (by (try simp (disch := omega) only [w32_id]); exact Iff.rfl) (fun c => ?_) (fun c => ?_))
        refine Ok.ret ?_
        exact ⟨by omega, hv⟩
    · rintro _ ⟨rfl, hv⟩
      unfold M_X11_when_b50
      repeat' (with_reducible first | refine k_gf (by first | assumption | omega) (by first | assumption | ((try simp (disch := omega) only [sr_s, sr_a, sr_sr, u1_s, u1_k]); exact rfl)) ?_ | refine k_gr (by first | assumption | omega) (by first | assumption | ((try simp (disch := omega) only [sr_s, sr_a, sr_sr, u1_s, u1_k]); exact rfl)) (by omega) ?_ | refine k_ald (by first | assumption | omega) (by first | assumption | exact rfl) (by omega) (by omega) (by omega) (by first | assumption | ((try simp (disch := omega) only [sr_s, sr_a, sr_sr, u1_s, u1_k]); exact rfl)) ?_ | refine k_ifT (by first | (simp (disch := omega) only [w32_id]; first | done | omega) | omega) ?_ | refine k_ifF (by first | (simp (disch := omega) only [w32_id]; first | done | omega) | omega) ?_ | refine k_pf (by first | assumption | omega) (by (try simp (disch := omega) only [sr_s, sr_a, sr_sr, u1_u1]); exact rfl) ?_ | refine k_ast (by first | assumption | omega) (by first | assumption | exact rfl) (by omega) (by omega) (by omega) (by (try simp (disch := omega) only [sr_s, sr_a, sr_sr, u1_u1]); exact rfl) ?_ | refine k_irm (by omega) (by omega) (by omega) (by omega) ?_ | refine k_idv (by omega) (by omega) (by omega) (by omega) ?_ | refine k_tk (by first | assumption | omega) ?_ | refine k_rp (by omega) ?_ | refine k_aldR (by first | assumption | omega) (by first | assumption | exact rfl) (by omega) (by omega) (by omega) (by first | assumption | ((try simp (disch := omega) only [sr_s, sr_a, sr_sr, u1_s, u1_k]); exact rfl)) (by omega) ?_ | refine k_astR (by first | assumption | omega) (by first | assumption | exact rfl) (by omega) (by omega) (by omega) (by first | assumption | omega) (by (try simp (disch := omega) only [sr_s, sr_a, sr_sr, u1_u1]); exact rfl) ?_ | refine k_pz (by first | assumption | omega) (by omega) (by (try simp (disch := omega) only [sr_s, sr_a, sr_sr, u1_u1]); exact rfl) ?_ | refine k_alen (by first | assumption | omega) (by first | assumption | exact rfl) ?_ | refine k_cpy (by first | assumption | omega) (by first | assumption | omega) (by first | assumption | exact rfl) (by first | assumption | exact rfl) (by omega) (by omega) (by omega) (by omega) (by omega) (by omega) (by omega) (by omega) (by (try simp (disch := omega) only [sr_s, sr_a, sr_sr, u1_u1]); exact rfl) ?_ | refine k_if (by (try simp (disch := omega) only [w32_id]); exact Iff.rfl) (fun c => ?_) (fun c => ?_))
      exact Ok.ret hv
  refine Ok.bind hlo ?_
  intro z hz
  cases z with
  | inl h =>
    have hz : V = -2 := hz
    rw [exi_l, hz]
    unfold M_X11_when_p86
    exact e_good hG (rQ.refl hmp)
  | inr q =>
    rw [exi_r]
    exact Ok.ret hz
theorem q_when (h : Inv M G) (ht : i32 t) (hp : i32 p) (hk : i32 k) : Both M G (fun h => M_X9_when h 0 t p k) (fun h => M_X11_when h 124 t p k) := by
  obtain ⟨htr, td, r, h0⟩ := h
  have hG := h0.1.1
  have ht' := ht
  have hp' := hp
  have hk' := hk
  unfold i32 at ht' hp' hk'
  have hh := h0.tw
  have hp0 := h0.1.2.1
  have htd : td = 2 ∨ td = 13 := h0.1.2.2.1
  have p4 := pr0.p4 hp0
  have p5 := pr0.p5 hp0
  have k0 := gk_0 hG
  have k124 := gk_124 hG
  have h60 : i32 60 := by unfold i32; omega
  unfold M_X9_when M_X11_when
  by_cases c : 0 ≤ t ∧ t < M 24 2
  · obtain ⟨rg, hR⟩ := h0.ring (by omega)
    have hmk := hR.mk
    by_cases c2 : plC (M 24 0) (M 24 1) p
    · by_cases c3 : 0 ≤ k ∧ k < M td 0
      · have hin := ipC_in c2 (by omega)
        have p0 := c2.1
        have hib : 0 ≤ ipC p ∧ ipC p < 36 := by unfold inV at hin; omega
        refine Both.go h0 (fstN (fun n => decide (bhM M 24 n (36 * t + ipC p) = k)) 61 0) 0 (by omega) (by omega) (by omega) ?_ (fun M2 h2 f => ?_)
        · repeat' (with_reducible first | refine k_gf (by first | assumption | omega) (by first | assumption | ((try simp (disch := omega) only [sr_s, sr_a, sr_sr, u1_s, u1_k, p4, p5]); exact rfl)) ?_ | refine k_gr (by first | assumption | omega) (by first | assumption | ((try simp (disch := omega) only [sr_s, sr_a, sr_sr, u1_s, u1_k, p4, p5]); exact rfl)) (by omega) ?_ | refine k_ald (by first | assumption | omega) (by first | assumption | exact rfl) (by omega) (by omega) (by omega) (by first | assumption | ((try simp (disch := omega) only [sr_s, sr_a, sr_sr, u1_s, u1_k, p4, p5]); exact rfl)) ?_ | refine k_eq (X9_isTown_T h0 ht c) ?_ | refine k_eq (X9_isPlace_T h0 hp c2) ?_ | refine k_eq (X9_isMark_T h0 hk (by omega) c3) ?_ | refine k_eq (be28_ok h0) ?_ | refine k_eq (X9_inner_ok p0 hp) ?_ | refine k_ifT (by first | (simp (disch := omega) only [w32_id]; first | done | omega) | omega) ?_ | refine k_ifF (by first | (simp (disch := omega) only [w32_id]; first | done | omega) | omega) ?_ | refine k_pf (by first | assumption | omega) (by (try simp (disch := omega) only [sr_s, sr_a, sr_sr, u1_u1, p4, p5]); exact rfl) ?_ | refine k_ast (by first | assumption | omega) (by first | assumption | exact rfl) (by omega) (by omega) (by omega) (by (try simp (disch := omega) only [sr_s, sr_a, sr_sr, u1_u1, p4, p5]); exact rfl) ?_ | refine k_irm (by omega) (by omega) (by omega) (by omega) ?_ | refine k_idv (by omega) (by omega) (by omega) (by omega) ?_ | refine k_tk (by first | assumption | omega) ?_ | refine k_rp (by omega) ?_ | refine k_aldR (by first | assumption | omega) (by first | assumption | exact rfl) (by omega) (by omega) (by omega) (by first | assumption | ((try simp (disch := omega) only [sr_s, sr_a, sr_sr, u1_s, u1_k, p4, p5]); exact rfl)) (by omega) ?_ | refine k_astR (by first | assumption | omega) (by first | assumption | exact rfl) (by omega) (by omega) (by omega) (by first | assumption | omega) (by (try simp (disch := omega) only [sr_s, sr_a, sr_sr, u1_u1, p4, p5]); exact rfl) ?_ | refine k_pz (by first | assumption | omega) (by omega) (by (try simp (disch := omega) only [sr_s, sr_a, sr_sr, u1_u1, p4, p5]); exact rfl) ?_ | refine k_alen (by first | assumption | omega) (by first | assumption | exact rfl) ?_ | refine k_cpy (by first | assumption | omega) (by first | assumption | omega) (by first | assumption | exact rfl) (by first | assumption | exact rfl) (by omega) (by omega) (by omega) (by omega) (by omega) (by omega) (by omega) (by omega) (by (try simp (disch := omega) only [sr_s, sr_a, sr_sr, u1_u1, p4, p5]); exact rfl) ?_ | refine k_if (by (try simp (disch := omega) only [w32_id]); exact Iff.rfl) (fun c => ?_) (fun c => ?_))
          exact X9_when_loop h0 hR (by omega) (by omega) (by omega)
        · have f24 : M2 24 = M 24 := f 24 (by omega)
          have ftd : M2 td = M td := f td (by omega)
          have c' : 0 ≤ t ∧ t < M2 24 2 := by rw [f24]; exact c
          have c2' : plC (M2 24 0) (M2 24 1) p := by rw [f24]; exact c2
          have c3' : 0 ≤ k ∧ k < M2 td 0 := by rw [ftd]; exact c3
          obtain ⟨rg2, hR2⟩ := h2.ring (by omega)
          obtain ⟨e0, e1, -, -, ⟨a1, a2, b1, b2, t1, t6, -⟩, -⟩ := hR2.cl
          rw [← f24] at hin
          have hb := idx_b a1 a2 b2 hin
          repeat' (with_reducible first | refine k_gf (by first | assumption | omega) (by first | assumption | ((try simp (disch := omega) only [sr_s, sr_a, sr_sr, u1_s, u1_k]); exact rfl)) ?_ | refine k_gr (by first | assumption | omega) (by first | assumption | ((try simp (disch := omega) only [sr_s, sr_a, sr_sr, u1_s, u1_k]); exact rfl)) (by omega) ?_ | refine k_ald (by first | assumption | omega) (by first | assumption | exact rfl) (by omega) (by omega) (by omega) (by first | assumption | ((try simp (disch := omega) only [sr_s, sr_a, sr_sr, u1_s, u1_k]); exact rfl)) ?_ | refine k_eq (X11_isPlace_T h2 ht hp c' c2') ?_ | refine k_eq (X11_mark_T hR2 hG hk c3') ?_ | refine k_ifT (by first | (simp (disch := omega) only [w32_id]; first | done | omega) | omega) ?_ | refine k_ifF (by first | (simp (disch := omega) only [w32_id]; first | done | omega) | omega) ?_ | refine k_pf (by first | assumption | omega) (by (try simp (disch := omega) only [sr_s, sr_a, sr_sr, u1_u1]); exact rfl) ?_ | refine k_ast (by first | assumption | omega) (by first | assumption | exact rfl) (by omega) (by omega) (by omega) (by (try simp (disch := omega) only [sr_s, sr_a, sr_sr, u1_u1]); exact rfl) ?_ | refine k_irm (by omega) (by omega) (by omega) (by omega) ?_ | refine k_idv (by omega) (by omega) (by omega) (by omega) ?_ | refine k_tk (by first | assumption | omega) ?_ | refine k_rp (by omega) ?_ | refine k_aldR (by first | assumption | omega) (by first | assumption | exact rfl) (by omega) (by omega) (by omega) (by first | assumption | ((try simp (disch := omega) only [sr_s, sr_a, sr_sr, u1_s, u1_k]); exact rfl)) (by omega) ?_ | refine k_astR (by first | assumption | omega) (by first | assumption | exact rfl) (by omega) (by omega) (by omega) (by first | assumption | omega) (by (try simp (disch := omega) only [sr_s, sr_a, sr_sr, u1_u1]); exact rfl) ?_ | refine k_pz (by first | assumption | omega) (by omega) (by (try simp (disch := omega) only [sr_s, sr_a, sr_sr, u1_u1]); exact rfl) ?_ | refine k_alen (by first | assumption | omega) (by first | assumption | exact rfl) ?_ | refine k_cpy (by first | assumption | omega) (by first | assumption | omega) (by first | assumption | exact rfl) (by first | assumption | exact rfl) (by omega) (by omega) (by omega) (by omega) (by omega) (by omega) (by omega) (by omega) (by (try simp (disch := omega) only [sr_s, sr_a, sr_sr, u1_u1]); exact rfl) ?_ | refine k_if (by (try simp (disch := omega) only [w32_id]); exact Iff.rfl) (fun c => ?_) (fun c => ?_))
          unfold M_X11_when_p28
          refine Ok.bd (X11_asks_ok h2 hR2 h60 (by omega)) ?_
          rintro _ ⟨M3, rfl, hM⟩
          obtain ⟨h3, hR3, hB3, p22, er, hv⟩ := ref_maps h2 hR2 (by omega) hM
          dsimp only
          refine k_ifF (by decide) ?_
          have hl := X11_when_loop (M := M3) (t := t) (k := k) hG hB3 h3.2.2.1.2 p22 hp (by rw [er, e0, e1]; exact c2') c.1 (by omega) (by omega) (fun n => bhM M 24 n (36 * t + ipC p)) (fun n hn => by
            rw [er, e0, hv n t _ (by omega) (by omega) c'.1 c'.2 hb.1 hb.2, inn_idx a1 a2 hin, bhM_cg (fun a ha => f a (by omega))]
            rfl)
          refine hl.mono ?_
          rintro _ ⟨M4, rfl, q1, q2⟩
          exact ⟨M4, rfl, hM.1.trans q1, q2⟩
      · refine Both.go h0 (-1) 1 (by omega) (by omega) (by omega) ?_ (fun M2 h2 f => ?_)
        · repeat' (with_reducible first | refine k_gf (by first | assumption | omega) (by first | assumption | ((try simp (disch := omega) only [sr_s, sr_a, sr_sr, u1_s, u1_k]); exact rfl)) ?_ | refine k_gr (by first | assumption | omega) (by first | assumption | ((try simp (disch := omega) only [sr_s, sr_a, sr_sr, u1_s, u1_k]); exact rfl)) (by omega) ?_ | refine k_ald (by first | assumption | omega) (by first | assumption | exact rfl) (by omega) (by omega) (by omega) (by first | assumption | ((try simp (disch := omega) only [sr_s, sr_a, sr_sr, u1_s, u1_k]); exact rfl)) ?_ | refine k_eq (X9_isTown_T h0 ht c) ?_ | refine k_eq (X9_isPlace_T h0 hp c2) ?_ | refine k_eq (X9_isMark_F h0 hk (by omega) c3) ?_ | refine k_ifT (by first | (simp (disch := omega) only [w32_id]; first | done | omega) | omega) ?_ | refine k_ifF (by first | (simp (disch := omega) only [w32_id]; first | done | omega) | omega) ?_ | refine k_pf (by first | assumption | omega) (by (try simp (disch := omega) only [sr_s, sr_a, sr_sr, u1_u1]); exact rfl) ?_ | refine k_ast (by first | assumption | omega) (by first | assumption | exact rfl) (by omega) (by omega) (by omega) (by (try simp (disch := omega) only [sr_s, sr_a, sr_sr, u1_u1]); exact rfl) ?_ | refine k_irm (by omega) (by omega) (by omega) (by omega) ?_ | refine k_idv (by omega) (by omega) (by omega) (by omega) ?_ | refine k_tk (by first | assumption | omega) ?_ | refine k_rp (by omega) ?_ | refine k_aldR (by first | assumption | omega) (by first | assumption | exact rfl) (by omega) (by omega) (by omega) (by first | assumption | ((try simp (disch := omega) only [sr_s, sr_a, sr_sr, u1_s, u1_k]); exact rfl)) (by omega) ?_ | refine k_astR (by first | assumption | omega) (by first | assumption | exact rfl) (by omega) (by omega) (by omega) (by first | assumption | omega) (by (try simp (disch := omega) only [sr_s, sr_a, sr_sr, u1_u1]); exact rfl) ?_ | refine k_pz (by first | assumption | omega) (by omega) (by (try simp (disch := omega) only [sr_s, sr_a, sr_sr, u1_u1]); exact rfl) ?_ | refine k_alen (by first | assumption | omega) (by first | assumption | exact rfl) ?_ | refine k_cpy (by first | assumption | omega) (by first | assumption | omega) (by first | assumption | exact rfl) (by first | assumption | exact rfl) (by omega) (by omega) (by omega) (by omega) (by omega) (by omega) (by omega) (by omega) (by (try simp (disch := omega) only [sr_s, sr_a, sr_sr, u1_u1]); exact rfl) ?_ | refine k_if (by (try simp (disch := omega) only [w32_id]); exact Iff.rfl) (fun c => ?_) (fun c => ?_))
          exact e_ref hG (cQ.refl h0.2.1)
        · have f24 : M2 24 = M 24 := f 24 (by omega)
          have ftd : M2 td = M td := f td (by omega)
          have c' : 0 ≤ t ∧ t < M2 24 2 := by rw [f24]; exact c
          have c2' : plC (M2 24 0) (M2 24 1) p := by rw [f24]; exact c2
          have c3' : ¬ (0 ≤ k ∧ k < M2 td 0) := by rw [ftd]; exact c3
          obtain ⟨rg2, hR2⟩ := h2.ring (by omega)
          repeat' (with_reducible first | refine k_gf (by first | assumption | omega) (by first | assumption | ((try simp (disch := omega) only [sr_s, sr_a, sr_sr, u1_s, u1_k]); exact rfl)) ?_ | refine k_gr (by first | assumption | omega) (by first | assumption | ((try simp (disch := omega) only [sr_s, sr_a, sr_sr, u1_s, u1_k]); exact rfl)) (by omega) ?_ | refine k_ald (by first | assumption | omega) (by first | assumption | exact rfl) (by omega) (by omega) (by omega) (by first | assumption | ((try simp (disch := omega) only [sr_s, sr_a, sr_sr, u1_s, u1_k]); exact rfl)) ?_ | refine k_eq (X11_isPlace_T h2 ht hp c' c2') ?_ | refine k_eq (X11_mark_F hR2 hG hk c3') ?_ | refine k_ifT (by first | (simp (disch := omega) only [w32_id]; first | done | omega) | omega) ?_ | refine k_ifF (by first | (simp (disch := omega) only [w32_id]; first | done | omega) | omega) ?_ | refine k_pf (by first | assumption | omega) (by (try simp (disch := omega) only [sr_s, sr_a, sr_sr, u1_u1]); exact rfl) ?_ | refine k_ast (by first | assumption | omega) (by first | assumption | exact rfl) (by omega) (by omega) (by omega) (by (try simp (disch := omega) only [sr_s, sr_a, sr_sr, u1_u1]); exact rfl) ?_ | refine k_irm (by omega) (by omega) (by omega) (by omega) ?_ | refine k_idv (by omega) (by omega) (by omega) (by omega) ?_ | refine k_tk (by first | assumption | omega) ?_ | refine k_rp (by omega) ?_ | refine k_aldR (by first | assumption | omega) (by first | assumption | exact rfl) (by omega) (by omega) (by omega) (by first | assumption | ((try simp (disch := omega) only [sr_s, sr_a, sr_sr, u1_s, u1_k]); exact rfl)) (by omega) ?_ | refine k_astR (by first | assumption | omega) (by first | assumption | exact rfl) (by omega) (by omega) (by omega) (by first | assumption | omega) (by (try simp (disch := omega) only [sr_s, sr_a, sr_sr, u1_u1]); exact rfl) ?_ | refine k_pz (by first | assumption | omega) (by omega) (by (try simp (disch := omega) only [sr_s, sr_a, sr_sr, u1_u1]); exact rfl) ?_ | refine k_alen (by first | assumption | omega) (by first | assumption | exact rfl) ?_ | refine k_cpy (by first | assumption | omega) (by first | assumption | omega) (by first | assumption | exact rfl) (by first | assumption | exact rfl) (by omega) (by omega) (by omega) (by omega) (by omega) (by omega) (by omega) (by omega) (by (try simp (disch := omega) only [sr_s, sr_a, sr_sr, u1_u1]); exact rfl) ?_ | refine k_if (by (try simp (disch := omega) only [w32_id]); exact Iff.rfl) (fun c => ?_) (fun c => ?_))
          unfold M_X11_when_p27 M_X11_when_p28
          refine k_bd (X11_asks_1 hG) (k_ifT (by decide) ?_)
          exact e_rref hG (rQ.refl h2.2.2.1.2)
    · refine Both.go h0 (-1) 1 (by omega) (by omega) (by omega) ?_ (fun M2 h2 f => ?_)
      · repeat' (with_reducible first | refine k_gf (by first | assumption | omega) (by first | assumption | ((try simp (disch := omega) only [sr_s, sr_a, sr_sr, u1_s, u1_k]); exact rfl)) ?_ | refine k_gr (by first | assumption | omega) (by first | assumption | ((try simp (disch := omega) only [sr_s, sr_a, sr_sr, u1_s, u1_k]); exact rfl)) (by omega) ?_ | refine k_ald (by first | assumption | omega) (by first | assumption | exact rfl) (by omega) (by omega) (by omega) (by first | assumption | ((try simp (disch := omega) only [sr_s, sr_a, sr_sr, u1_s, u1_k]); exact rfl)) ?_ | refine k_eq (X9_isTown_T h0 ht c) ?_ | refine k_eq (X9_isPlace_F h0 hp c2) ?_ | refine k_ifT (by first | (simp (disch := omega) only [w32_id]; first | done | omega) | omega) ?_ | refine k_ifF (by first | (simp (disch := omega) only [w32_id]; first | done | omega) | omega) ?_ | refine k_pf (by first | assumption | omega) (by (try simp (disch := omega) only [sr_s, sr_a, sr_sr, u1_u1]); exact rfl) ?_ | refine k_ast (by first | assumption | omega) (by first | assumption | exact rfl) (by omega) (by omega) (by omega) (by (try simp (disch := omega) only [sr_s, sr_a, sr_sr, u1_u1]); exact rfl) ?_ | refine k_irm (by omega) (by omega) (by omega) (by omega) ?_ | refine k_idv (by omega) (by omega) (by omega) (by omega) ?_ | refine k_tk (by first | assumption | omega) ?_ | refine k_rp (by omega) ?_ | refine k_aldR (by first | assumption | omega) (by first | assumption | exact rfl) (by omega) (by omega) (by omega) (by first | assumption | ((try simp (disch := omega) only [sr_s, sr_a, sr_sr, u1_s, u1_k]); exact rfl)) (by omega) ?_ | refine k_astR (by first | assumption | omega) (by first | assumption | exact rfl) (by omega) (by omega) (by omega) (by first | assumption | omega) (by (try simp (disch := omega) only [sr_s, sr_a, sr_sr, u1_u1]); exact rfl) ?_ | refine k_pz (by first | assumption | omega) (by omega) (by (try simp (disch := omega) only [sr_s, sr_a, sr_sr, u1_u1]); exact rfl) ?_ | refine k_alen (by first | assumption | omega) (by first | assumption | exact rfl) ?_ | refine k_cpy (by first | assumption | omega) (by first | assumption | omega) (by first | assumption | exact rfl) (by first | assumption | exact rfl) (by omega) (by omega) (by omega) (by omega) (by omega) (by omega) (by omega) (by omega) (by (try simp (disch := omega) only [sr_s, sr_a, sr_sr, u1_u1]); exact rfl) ?_ | refine k_if (by (try simp (disch := omega) only [w32_id]); exact Iff.rfl) (fun c => ?_) (fun c => ?_))
        exact e_ref hG (cQ.refl h0.2.1)
      · rw [← f 24 (by omega)] at c2
        have hnp := X11_isPlace_F h2 ht hp (fun z => c2 z.2)
        repeat' (with_reducible first | refine k_gf (by first | assumption | omega) (by first | assumption | ((try simp (disch := omega) only [sr_s, sr_a, sr_sr, u1_s, u1_k]); exact rfl)) ?_ | refine k_gr (by first | assumption | omega) (by first | assumption | ((try simp (disch := omega) only [sr_s, sr_a, sr_sr, u1_s, u1_k]); exact rfl)) (by omega) ?_ | refine k_ald (by first | assumption | omega) (by first | assumption | exact rfl) (by omega) (by omega) (by omega) (by first | assumption | ((try simp (disch := omega) only [sr_s, sr_a, sr_sr, u1_s, u1_k]); exact rfl)) ?_ | refine k_eq (hnp) ?_ | refine k_ifT (by first | (simp (disch := omega) only [w32_id]; first | done | omega) | omega) ?_ | refine k_ifF (by first | (simp (disch := omega) only [w32_id]; first | done | omega) | omega) ?_ | refine k_pf (by first | assumption | omega) (by (try simp (disch := omega) only [sr_s, sr_a, sr_sr, u1_u1]); exact rfl) ?_ | refine k_ast (by first | assumption | omega) (by first | assumption | exact rfl) (by omega) (by omega) (by omega) (by (try simp (disch := omega) only [sr_s, sr_a, sr_sr, u1_u1]); exact rfl) ?_ | refine k_irm (by omega) (by omega) (by omega) (by omega) ?_ | refine k_idv (by omega) (by omega) (by omega) (by omega) ?_ | refine k_tk (by first | assumption | omega) ?_ | refine k_rp (by omega) ?_ | refine k_aldR (by first | assumption | omega) (by first | assumption | exact rfl) (by omega) (by omega) (by omega) (by first | assumption | ((try simp (disch := omega) only [sr_s, sr_a, sr_sr, u1_s, u1_k]); exact rfl)) (by omega) ?_ | refine k_astR (by first | assumption | omega) (by first | assumption | exact rfl) (by omega) (by omega) (by omega) (by first | assumption | omega) (by (try simp (disch := omega) only [sr_s, sr_a, sr_sr, u1_u1]); exact rfl) ?_ | refine k_pz (by first | assumption | omega) (by omega) (by (try simp (disch := omega) only [sr_s, sr_a, sr_sr, u1_u1]); exact rfl) ?_ | refine k_alen (by first | assumption | omega) (by first | assumption | exact rfl) ?_ | refine k_cpy (by first | assumption | omega) (by first | assumption | omega) (by first | assumption | exact rfl) (by first | assumption | exact rfl) (by omega) (by omega) (by omega) (by omega) (by omega) (by omega) (by omega) (by omega) (by (try simp (disch := omega) only [sr_s, sr_a, sr_sr, u1_u1]); exact rfl) ?_ | refine k_if (by (try simp (disch := omega) only [w32_id]); exact Iff.rfl) (fun c => ?_) (fun c => ?_))
        unfold M_X11_when_p27 M_X11_when_p28
        refine k_bd (X11_asks_1 hG) (k_ifT (by decide) ?_)
        exact e_rref hG (rQ.refl h2.2.2.1.2)
  · refine Both.go h0 (-1) 1 (by omega) (by omega) (by omega) ?_ (fun M2 h2 f => ?_)
    · repeat' (with_reducible first | refine k_gf (by first | assumption | omega) (by first | assumption | ((try simp (disch := omega) only [sr_s, sr_a, sr_sr, u1_s, u1_k]); exact rfl)) ?_ | refine k_gr (by first | assumption | omega) (by first | assumption | ((try simp (disch := omega) only [sr_s, sr_a, sr_sr, u1_s, u1_k]); exact rfl)) (by omega) ?_ | refine k_ald (by first | assumption | omega) (by first | assumption | exact rfl) (by omega) (by omega) (by omega) (by first | assumption | ((try simp (disch := omega) only [sr_s, sr_a, sr_sr, u1_s, u1_k]); exact rfl)) ?_ | refine k_eq (X9_isTown_F h0 ht c) ?_ | refine k_ifT (by first | (simp (disch := omega) only [w32_id]; first | done | omega) | omega) ?_ | refine k_ifF (by first | (simp (disch := omega) only [w32_id]; first | done | omega) | omega) ?_ | refine k_pf (by first | assumption | omega) (by (try simp (disch := omega) only [sr_s, sr_a, sr_sr, u1_u1]); exact rfl) ?_ | refine k_ast (by first | assumption | omega) (by first | assumption | exact rfl) (by omega) (by omega) (by omega) (by (try simp (disch := omega) only [sr_s, sr_a, sr_sr, u1_u1]); exact rfl) ?_ | refine k_irm (by omega) (by omega) (by omega) (by omega) ?_ | refine k_idv (by omega) (by omega) (by omega) (by omega) ?_ | refine k_tk (by first | assumption | omega) ?_ | refine k_rp (by omega) ?_ | refine k_aldR (by first | assumption | omega) (by first | assumption | exact rfl) (by omega) (by omega) (by omega) (by first | assumption | ((try simp (disch := omega) only [sr_s, sr_a, sr_sr, u1_s, u1_k]); exact rfl)) (by omega) ?_ | refine k_astR (by first | assumption | omega) (by first | assumption | exact rfl) (by omega) (by omega) (by omega) (by first | assumption | omega) (by (try simp (disch := omega) only [sr_s, sr_a, sr_sr, u1_u1]); exact rfl) ?_ | refine k_pz (by first | assumption | omega) (by omega) (by (try simp (disch := omega) only [sr_s, sr_a, sr_sr, u1_u1]); exact rfl) ?_ | refine k_alen (by first | assumption | omega) (by first | assumption | exact rfl) ?_ | refine k_cpy (by first | assumption | omega) (by first | assumption | omega) (by first | assumption | exact rfl) (by first | assumption | exact rfl) (by omega) (by omega) (by omega) (by omega) (by omega) (by omega) (by omega) (by omega) (by (try simp (disch := omega) only [sr_s, sr_a, sr_sr, u1_u1]); exact rfl) ?_ | refine k_if (by (try simp (disch := omega) only [w32_id]); exact Iff.rfl) (fun c => ?_) (fun c => ?_))
      exact e_ref hG (cQ.refl h0.2.1)
    · rw [← f 24 (by omega)] at c
      have hnp := X11_isPlace_F h2 ht hp (fun z => c z.1)
      repeat' (with_reducible first | refine k_gf (by first | assumption | omega) (by first | assumption | ((try simp (disch := omega) only [sr_s, sr_a, sr_sr, u1_s, u1_k]); exact rfl)) ?_ | refine k_gr (by first | assumption | omega) (by first | assumption | ((try simp (disch := omega) only [sr_s, sr_a, sr_sr, u1_s, u1_k]); exact rfl)) (by omega) ?_ | refine k_ald (by first | assumption | omega) (by first | assumption | exact rfl) (by omega) (by omega) (by omega) (by first | assumption | ((try simp (disch := omega) only [sr_s, sr_a, sr_sr, u1_s, u1_k]); exact rfl)) ?_ | refine k_eq (hnp) ?_ | refine k_ifT (by first | (simp (disch := omega) only [w32_id]; first | done | omega) | omega) ?_ | refine k_ifF (by first | (simp (disch := omega) only [w32_id]; first | done | omega) | omega) ?_ | refine k_pf (by first | assumption | omega) (by (try simp (disch := omega) only [sr_s, sr_a, sr_sr, u1_u1]); exact rfl) ?_ | refine k_ast (by first | assumption | omega) (by first | assumption | exact rfl) (by omega) (by omega) (by omega) (by (try simp (disch := omega) only [sr_s, sr_a, sr_sr, u1_u1]); exact rfl) ?_ | refine k_irm (by omega) (by omega) (by omega) (by omega) ?_ | refine k_idv (by omega) (by omega) (by omega) (by omega) ?_ | refine k_tk (by first | assumption | omega) ?_ | refine k_rp (by omega) ?_ | refine k_aldR (by first | assumption | omega) (by first | assumption | exact rfl) (by omega) (by omega) (by omega) (by first | assumption | ((try simp (disch := omega) only [sr_s, sr_a, sr_sr, u1_s, u1_k]); exact rfl)) (by omega) ?_ | refine k_astR (by first | assumption | omega) (by first | assumption | exact rfl) (by omega) (by omega) (by omega) (by first | assumption | omega) (by (try simp (disch := omega) only [sr_s, sr_a, sr_sr, u1_u1]); exact rfl) ?_ | refine k_pz (by first | assumption | omega) (by omega) (by (try simp (disch := omega) only [sr_s, sr_a, sr_sr, u1_u1]); exact rfl) ?_ | refine k_alen (by first | assumption | omega) (by first | assumption | exact rfl) ?_ | refine k_cpy (by first | assumption | omega) (by first | assumption | omega) (by first | assumption | exact rfl) (by first | assumption | exact rfl) (by omega) (by omega) (by omega) (by omega) (by omega) (by omega) (by omega) (by omega) (by (try simp (disch := omega) only [sr_s, sr_a, sr_sr, u1_u1]); exact rfl) ?_ | refine k_if (by (try simp (disch := omega) only [w32_id]); exact Iff.rfl) (fun c => ?_) (fun c => ?_))
      unfold M_X11_when_p27 M_X11_when_p28
      refine k_bd (X11_asks_1 hG) (k_ifT (by decide) ?_)
      exact e_rref hG (rQ.refl h2.2.2.1.2)
end WN
