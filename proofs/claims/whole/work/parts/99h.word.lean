/-! the words -/
section TF
variable {f : Int → Int} {e k : Int}
theorem tkA (k1 : k ≤ e) : k ≤ tA f e k ∧ tA f e k ≤ e ∧ tA f e k ≤ tL f e k ∧ tL f e k ≤ e ∧ tA f e k ≤ tD f e k ∧ tD f e k ≤ e := by
  have h1 := rnV_ex (f := f) (lo := 32) (hi := 32) k1
  have h2 : k ≤ tA f e k ∧ tA f e k ≤ e := ⟨h1.1, h1.2.1⟩
  have h3 := rnV_ex (f := f) (lo := 97) (hi := 122) h2.2
  have h4 := rnV_ex (f := f) (lo := 48) (hi := 57) h2.2
  exact ⟨h2.1, h2.2, h3.1, h3.2.1, h4.1, h4.2.1⟩
theorem tk1 (h : tK f e k = 1) : tA f e k < tL f e k ∧ tL f e k - tA f e k ≤ 8 ∧ tB f e k = tL f e k := by
  unfold tK at h
  unfold tB
  by_cases y : tA f e k < tL f e k
  · rw [if_pos y] at h
    rw [if_pos y]
    by_cases y2 : tL f e k - tA f e k ≤ 8
    · exact ⟨y, y2, rfl⟩
    · rw [if_neg y2] at h; omega
  · rw [if_neg y] at h
    exfalso
    revert h
    (repeat' split) <;> omega
theorem tkL (k1 : k ≤ e) : ∀ j, tA f e k ≤ j → j < tL f e k → 97 ≤ f j ∧ f j ≤ 122 := by
  have h2 := tkA (f := f) k1
  exact (rnV_ex (f := f) (lo := 97) (hi := 122) h2.2.1).2.2.1
theorem tkB (k1 : k ≤ e) : tA f e k ≤ tB f e k ∧ tB f e k ≤ e ∧ (tK f e k ≠ 0 → tA f e k < tB f e k) := by
  have h2 := tkA (f := f) k1
  unfold tB tK
  by_cases y : tA f e k < tL f e k
  · rw [if_pos y, if_pos y]; exact ⟨by omega, by omega, fun _ => by omega⟩
  · rw [if_neg y, if_neg y]
    by_cases y2 : tA f e k < tD f e k
    · rw [if_pos y2, if_pos y2]; exact ⟨by omega, by omega, fun _ => by omega⟩
    · rw [if_neg y2, if_neg y2]
      by_cases y3 : ¬ tA f e k < e
      · rw [if_pos y3, if_pos y3]; exact ⟨by omega, by omega, fun z => absurd rfl z⟩
      · rw [if_neg y3, if_neg y3]; exact ⟨by omega, by omega, fun _ => by omega⟩
end TF
theorem wdV_cg {f g : Int → Int} {a b : Int} : ∀ n : Nat, (∀ j : Nat, j < n → f (a + j) = g (b + j)) → wdV f a n = wdV g b n
  | 0, _ => rfl
  | n + 1, h => by
    show 32 * wdV f a n + (f (a + n) - 96) = 32 * wdV g b n + (g (b + n) - 96)
    rw [wdV_cg n (fun j hj => h j (by omega)), h n (by omega)]
/-- a word of the program as a number -/
def swV (i : Int) : Int := wdV (sch i) 0 (slen i).toNat
theorem sw_small : ∀ i : Nat, i < 20 → ((sTx.getD i []).length ≤ 8 ∧ 1 ≤ (sTx.getD i []).length) ∧ ∀ k : Nat, k < (sTx.getD i []).length → 97 ≤ (sTx.getD i []).getD k 0 ∧ (sTx.getD i []).getD k 0 ≤ 122 := by decide +kernel
theorem sw_len {i : Int} (i0 : 0 ≤ i) (i1 : i < 20) : 1 ≤ slen i ∧ slen i ≤ 8 := by
  have := (sw_small i.toNat (by omega)).1
  unfold slen
  omega
theorem sw_ch {i : Int} (i0 : 0 ≤ i) (i1 : i < 20) : ∀ j, 0 ≤ j → j < slen i → 97 ≤ sch i j ∧ sch i j ≤ 122 := by
  intro j j0 j1
  have := (sw_small i.toNat (by omega)).2 j.toNat (by unfold slen at j1; omega)
  exact this
theorem J0_len {i : Int} (i0 : 0 ≤ i) (i1 : i < 27) : M_J0_length i = some (slen i) := if_pos ⟨i0, i1⟩
theorem J0_ch {i j : Int} (i0 : 0 ≤ i) (i1 : i < 27) (j0 : 0 ≤ j) (j1 : j < slen i) (j2 : j < 100) : M_J0_charAt i j = some (sch i j) := by
  unfold M_J0_charAt
  rw [w32_id (by omega) (by omega), if_pos ⟨⟨i0, i1⟩, j0, j1⟩]
section WD
variable {M : Int → Int → Int} {G : GG} {R e k sp rd i : Int} {f : Int → Int}
theorem X4_isWord_ok (hC : rdC M G R e sp) (hT : clT M R e k) (k0 : 0 ≤ k) (ke : k ≤ e) (i0 : 0 ≤ i) (i1 : i < 20) : M_X4_isWord (M, G) R i = some (if tK (M 1) e k = 1 ∧ tW (M 1) e k = swV i then 1 else 0) := by
  obtain ⟨hG, r0, kR, m2, m3, e0, e9, m4, hf⟩ := hC
  obtain ⟨t5, t6, t7, -, -⟩ := hT
  have k1 := gk_1 hG
  have l1 := gl_1 hG
  apply Ok.eq
  unfold M_X4_isWord
  have hA := tkA (f := M 1) ke
  have hKb : 0 ≤ tK (M 1) e k ∧ tK (M 1) e k ≤ 5 := by
    unfold tK
    (repeat' split) <;> omega
  by_cases y : tK (M 1) e k = 1
  · have h1 := tk1 y
    have hL := tkL (f := M 1) ke
    have hs := sw_len i0 i1
    have hc := sw_ch i0 i1
    have hW : tW (M 1) e k = wdV (M 1) (tA (M 1) e k) (tL (M 1) e k - tA (M 1) e k).toNat := rfl
    have hinj := fun h : tW (M 1) e k = swV i => wdV_inj (f := M 1) (g := sch i) (a := tA (M 1) e k) (b := 0) (tL (M 1) e k - tA (M 1) e k).toNat (slen i).toNat (by omega) (by omega) (fun j j0 j1 => hL j (by omega) (by omega)) (fun j j0 j1 => hc j (by omega) (by omega)) h
    rw [h1.2.2] at t7
    rw [hW] at hinj
    rw [y, hW]
    rw [y] at t5
    generalize tA (M 1) e k = A at *
    generalize tL (M 1) e k = L at *
    clear y hW hKb
    by_cases yl : L - A = slen i
    · repeat' (with_reducible first | refine k_gf (by first | assumption | omega) (by first | assumption | ((try simp (disch := omega) only [sr_s, sr_a, sr_sr, u1_s, u1_k, t5, t6, t7]); exact rfl)) ?_ | refine k_gr (by first | assumption | omega) (by first | assumption | ((try simp (disch := omega) only [sr_s, sr_a, sr_sr, u1_s, u1_k, t5, t6, t7]); exact rfl)) (by omega) ?_ | refine k_ald (by first | assumption | omega) (by first | assumption | exact rfl) (by omega) (by omega) (by omega) (by first | assumption | ((try simp (disch := omega) only [sr_s, sr_a, sr_sr, u1_s, u1_k, t5, t6, t7]); exact rfl)) ?_ | refine k_eq (J0_len i0 (by omega)) ?_ | refine k_ifT (by first | (simp (disch := omega) only [w32_id]; first | done | omega) | omega) ?_ | refine k_ifF (by first | (simp (disch := omega) only [w32_id]; first | done | omega) | omega) ?_ | refine k_pf (by first | assumption | omega) (by (try simp (disch := omega) only [sr_s, sr_a, sr_sr, u1_u1, t5, t6, t7]); exact rfl) ?_ | refine k_ast (by first | assumption | omega) (by first | assumption | exact rfl) (by omega) (by omega) (by omega) (by (try simp (disch := omega) only [sr_s, sr_a, sr_sr, u1_u1, t5, t6, t7]); exact rfl) ?_ | refine k_irm (by omega) (by omega) (by omega) (by omega) ?_ | refine k_idv (by omega) (by omega) (by omega) (by omega) ?_ | refine k_tk (by first | assumption | omega) ?_ | refine k_rp (by omega) ?_ | refine k_aldR (by first | assumption | omega) (by first | assumption | exact rfl) (by omega) (by omega) (by omega) (by first | assumption | ((try simp (disch := omega) only [sr_s, sr_a, sr_sr, u1_s, u1_k, t5, t6, t7]); exact rfl)) (by omega) ?_ | refine k_astR (by first | assumption | omega) (by first | assumption | exact rfl) (by omega) (by omega) (by omega) (by first | assumption | omega) (by (try simp (disch := omega) only [sr_s, sr_a, sr_sr, u1_u1, t5, t6, t7]); exact rfl) ?_ | refine k_pz (by first | assumption | omega) (by omega) (by (try simp (disch := omega) only [sr_s, sr_a, sr_sr, u1_u1, t5, t6, t7]); exact rfl) ?_ | refine k_alen (by first | assumption | omega) (by first | assumption | exact rfl) ?_ | refine k_cpy (by first | assumption | omega) (by first | assumption | omega) (by first | assumption | exact rfl) (by first | assumption | exact rfl) (by omega) (by omega) (by omega) (by omega) (by omega) (by omega) (by omega) (by omega) (by (try simp (disch := omega) only [sr_s, sr_a, sr_sr, u1_u1, t5, t6, t7]); exact rfl) ?_)
      unfold M_X4_isWord_w28
      refine Ok.bind (Q := fun z => (z = .inl () ∧ ∀ j : Nat, (j : Int) < slen i → M 1 (A + j) = sch i j) ∨ (z = .inr 0 ∧ ∃ j : Nat, (j : Int) < slen i ∧ M 1 (A + j) ≠ sch i j)) ?_ ?_
      · refine wh_for (fun n s => s = (n : Int) ∧ ∀ j : Nat, j < n → M 1 (A + j) = sch i j) _ (slen i).toNat (by omega) ⟨rfl, fun j hj => by omega⟩ ?_ ?_
        · rintro n _ hn ⟨rfl, hall⟩
          have hb := hf (A + n) (by omega) (by omega)
          have hcb := hc n (by omega) (by omega)
          unfold M_X4_isWord_b28
          by_cases z : M 1 (A + n) = sch i n
          · repeat' (with_reducible first | refine k_gf (by first | assumption | omega) (by first | assumption | ((try simp (disch := omega) only [sr_s, sr_a, sr_sr, u1_s, u1_k, t6, m2]); exact rfl)) ?_ | refine k_gr (by first | assumption | omega) (by first | assumption | ((try simp (disch := omega) only [sr_s, sr_a, sr_sr, u1_s, u1_k, t6, m2]); exact rfl)) (by omega) ?_ | refine k_ald (by first | assumption | omega) (by first | assumption | exact rfl) (by omega) (by omega) (by omega) (by first | assumption | ((try simp (disch := omega) only [sr_s, sr_a, sr_sr, u1_s, u1_k, t6, m2]); exact rfl)) ?_ | refine k_eq (J0_len i0 (by omega)) ?_ | refine k_eq (J0_ch i0 (by omega) (by omega) (by omega) (by omega)) ?_ | refine k_ifT (by first | (simp (disch := omega) only [w32_id]; first | done | omega) | omega) ?_ | refine k_ifF (by first | (simp (disch := omega) only [w32_id]; first | done | omega) | omega) ?_ | refine k_pf (by first | assumption | omega) (by (try simp (disch := omega) only [sr_s, sr_a, sr_sr, u1_u1, t6, m2]); exact rfl) ?_ | refine k_ast (by first | assumption | omega) (by first | assumption | exact rfl) (by omega) (by omega) (by omega) (by (try simp (disch := omega) only [sr_s, sr_a, sr_sr, u1_u1, t6, m2]); exact rfl) ?_ | refine k_irm (by omega) (by omega) (by omega) (by omega) ?_ | refine k_idv (by omega) (by omega) (by omega) (by omega) ?_ | refine k_tk (by first | assumption | omega) ?_ | refine k_rp (by omega) ?_ | refine k_aldR (by first | assumption | omega) (by first | assumption | exact rfl) (by omega) (by omega) (by omega) (by first | assumption | ((try simp (disch := omega) only [sr_s, sr_a, sr_sr, u1_s, u1_k, t6, m2]); exact rfl)) (by omega) ?_ | refine k_astR (by first | assumption | omega) (by first | assumption | exact rfl) (by omega) (by omega) (by omega) (by first | assumption | omega) (by (try simp (disch := omega) only [sr_s, sr_a, sr_sr, u1_u1, t6, m2]); exact rfl) ?_ | refine k_pz (by first | assumption | omega) (by omega) (by (try simp (disch := omega) only [sr_s, sr_a, sr_sr, u1_u1, t6, m2]); exact rfl) ?_ | refine k_alen (by first | assumption | omega) (by first | assumption | exact rfl) ?_ | refine k_cpy (by first | assumption | omega) (by first | assumption | omega) (by first | assumption | exact rfl) (by first | assumption | exact rfl) (by omega) (by omega) (by omega) (by omega) (by omega) (by omega) (by omega) (by omega) (by (try simp (disch := omega) only [sr_s, sr_a, sr_sr, u1_u1, t6, m2]); exact rfl) ?_)
            refine Ok.ret ⟨rfl, fun j hj => ?_⟩
            by_cases z2 : j = n
            · rw [z2]; exact z
            · exact hall j (by omega)
          · repeat' (with_reducible first | refine k_gf (by first | assumption | omega) (by first | assumption | ((try simp (disch := omega) only [sr_s, sr_a, sr_sr, u1_s, u1_k, t6, m2]); exact rfl)) ?_ | refine k_gr (by first | assumption | omega) (by first | assumption | ((try simp (disch := omega) only [sr_s, sr_a, sr_sr, u1_s, u1_k, t6, m2]); exact rfl)) (by omega) ?_ | refine k_ald (by first | assumption | omega) (by first | assumption | exact rfl) (by omega) (by omega) (by omega) (by first | assumption | ((try simp (disch := omega) only [sr_s, sr_a, sr_sr, u1_s, u1_k, t6, m2]); exact rfl)) ?_ | refine k_eq (J0_len i0 (by omega)) ?_ | refine k_eq (J0_ch i0 (by omega) (by omega) (by omega) (by omega)) ?_ | refine k_ifT (by first | (simp (disch := omega) only [w32_id]; first | done | omega) | omega) ?_ | refine k_ifF (by first | (simp (disch := omega) only [w32_id]; first | done | omega) | omega) ?_ | refine k_pf (by first | assumption | omega) (by (try simp (disch := omega) only [sr_s, sr_a, sr_sr, u1_u1, t6, m2]); exact rfl) ?_ | refine k_ast (by first | assumption | omega) (by first | assumption | exact rfl) (by omega) (by omega) (by omega) (by (try simp (disch := omega) only [sr_s, sr_a, sr_sr, u1_u1, t6, m2]); exact rfl) ?_ | refine k_irm (by omega) (by omega) (by omega) (by omega) ?_ | refine k_idv (by omega) (by omega) (by omega) (by omega) ?_ | refine k_tk (by first | assumption | omega) ?_ | refine k_rp (by omega) ?_ | refine k_aldR (by first | assumption | omega) (by first | assumption | exact rfl) (by omega) (by omega) (by omega) (by first | assumption | ((try simp (disch := omega) only [sr_s, sr_a, sr_sr, u1_s, u1_k, t6, m2]); exact rfl)) (by omega) ?_ | refine k_astR (by first | assumption | omega) (by first | assumption | exact rfl) (by omega) (by omega) (by omega) (by first | assumption | omega) (by (try simp (disch := omega) only [sr_s, sr_a, sr_sr, u1_u1, t6, m2]); exact rfl) ?_ | refine k_pz (by first | assumption | omega) (by omega) (by (try simp (disch := omega) only [sr_s, sr_a, sr_sr, u1_u1, t6, m2]); exact rfl) ?_ | refine k_alen (by first | assumption | omega) (by first | assumption | exact rfl) ?_ | refine k_cpy (by first | assumption | omega) (by first | assumption | omega) (by first | assumption | exact rfl) (by first | assumption | exact rfl) (by omega) (by omega) (by omega) (by omega) (by omega) (by omega) (by omega) (by omega) (by (try simp (disch := omega) only [sr_s, sr_a, sr_sr, u1_u1, t6, m2]); exact rfl) ?_)
            exact Ok.ret (Or.inr ⟨rfl, n, by omega, z⟩)
        · rintro _ ⟨rfl, hall⟩
          unfold M_X4_isWord_b28
          repeat' (with_reducible first | refine k_gf (by first | assumption | omega) (by first | assumption | ((try simp (disch := omega) only [sr_s, sr_a, sr_sr, u1_s, u1_k]); exact rfl)) ?_ | refine k_gr (by first | assumption | omega) (by first | assumption | ((try simp (disch := omega) only [sr_s, sr_a, sr_sr, u1_s, u1_k]); exact rfl)) (by omega) ?_ | refine k_ald (by first | assumption | omega) (by first | assumption | exact rfl) (by omega) (by omega) (by omega) (by first | assumption | ((try simp (disch := omega) only [sr_s, sr_a, sr_sr, u1_s, u1_k]); exact rfl)) ?_ | refine k_eq (J0_len i0 (by omega)) ?_ | refine k_ifT (by first | (simp (disch := omega) only [w32_id]; first | done | omega) | omega) ?_ | refine k_ifF (by first | (simp (disch := omega) only [w32_id]; first | done | omega) | omega) ?_ | refine k_pf (by first | assumption | omega) (by (try simp (disch := omega) only [sr_s, sr_a, sr_sr, u1_u1]); exact rfl) ?_ | refine k_ast (by first | assumption | omega) (by first | assumption | exact rfl) (by omega) (by omega) (by omega) (by (try simp (disch := omega) only [sr_s, sr_a, sr_sr, u1_u1]); exact rfl) ?_ | refine k_irm (by omega) (by omega) (by omega) (by omega) ?_ | refine k_idv (by omega) (by omega) (by omega) (by omega) ?_ | refine k_tk (by first | assumption | omega) ?_ | refine k_rp (by omega) ?_ | refine k_aldR (by first | assumption | omega) (by first | assumption | exact rfl) (by omega) (by omega) (by omega) (by first | assumption | ((try simp (disch := omega) only [sr_s, sr_a, sr_sr, u1_s, u1_k]); exact rfl)) (by omega) ?_ | refine k_astR (by first | assumption | omega) (by first | assumption | exact rfl) (by omega) (by omega) (by omega) (by first | assumption | omega) (by (try simp (disch := omega) only [sr_s, sr_a, sr_sr, u1_u1]); exact rfl) ?_ | refine k_pz (by first | assumption | omega) (by omega) (by (try simp (disch := omega) only [sr_s, sr_a, sr_sr, u1_u1]); exact rfl) ?_ | refine k_alen (by first | assumption | omega) (by first | assumption | exact rfl) ?_ | refine k_cpy (by first | assumption | omega) (by first | assumption | omega) (by first | assumption | exact rfl) (by first | assumption | exact rfl) (by omega) (by omega) (by omega) (by omega) (by omega) (by omega) (by omega) (by omega) (by (try simp (disch := omega) only [sr_s, sr_a, sr_sr, u1_u1]); exact rfl) ?_)
          exact Ok.ret (Or.inl ⟨rfl, fun j hj => hall j (by omega)⟩)
      · rintro _ (⟨rfl, hall⟩ | ⟨rfl, j, hj, hne⟩)
        · rw [exi_l]
          unfold M_X4_isWord_p63
          have hw : wdV (M 1) A (L - A).toNat = swV i := by
            unfold swV
            rw [yl]
            exact wdV_cg _ (fun j hj => by rw [hall j (by omega), show (0 : Int) + j = j by omega])
          refine Ok.ret ?_
          rw [if_pos ⟨rfl, hw⟩]
        · rw [exi_r]
          refine Ok.ret ?_
          rw [if_neg]
          rintro ⟨-, h⟩
          have := (hinj h).2 j (by omega)
          rw [show (0 : Int) + j = j by omega] at this
          exact hne this
    · repeat' (with_reducible first | refine k_gf (by first | assumption | omega) (by first | assumption | ((try simp (disch := omega) only [sr_s, sr_a, sr_sr, u1_s, u1_k, t5, t6, t7]); exact rfl)) ?_ | refine k_gr (by first | assumption | omega) (by first | assumption | ((try simp (disch := omega) only [sr_s, sr_a, sr_sr, u1_s, u1_k, t5, t6, t7]); exact rfl)) (by omega) ?_ | refine k_ald (by first | assumption | omega) (by first | assumption | exact rfl) (by omega) (by omega) (by omega) (by first | assumption | ((try simp (disch := omega) only [sr_s, sr_a, sr_sr, u1_s, u1_k, t5, t6, t7]); exact rfl)) ?_ | refine k_eq (J0_len i0 (by omega)) ?_ | refine k_ifT (by first | (simp (disch := omega) only [w32_id]; first | done | omega) | omega) ?_ | refine k_ifF (by first | (simp (disch := omega) only [w32_id]; first | done | omega) | omega) ?_ | refine k_pf (by first | assumption | omega) (by (try simp (disch := omega) only [sr_s, sr_a, sr_sr, u1_u1, t5, t6, t7]); exact rfl) ?_ | refine k_ast (by first | assumption | omega) (by first | assumption | exact rfl) (by omega) (by omega) (by omega) (by (try simp (disch := omega) only [sr_s, sr_a, sr_sr, u1_u1, t5, t6, t7]); exact rfl) ?_ | refine k_irm (by omega) (by omega) (by omega) (by omega) ?_ | refine k_idv (by omega) (by omega) (by omega) (by omega) ?_ | refine k_tk (by first | assumption | omega) ?_ | refine k_rp (by omega) ?_ | refine k_aldR (by first | assumption | omega) (by first | assumption | exact rfl) (by omega) (by omega) (by omega) (by first | assumption | ((try simp (disch := omega) only [sr_s, sr_a, sr_sr, u1_s, u1_k, t5, t6, t7]); exact rfl)) (by omega) ?_ | refine k_astR (by first | assumption | omega) (by first | assumption | exact rfl) (by omega) (by omega) (by omega) (by first | assumption | omega) (by (try simp (disch := omega) only [sr_s, sr_a, sr_sr, u1_u1, t5, t6, t7]); exact rfl) ?_ | refine k_pz (by first | assumption | omega) (by omega) (by (try simp (disch := omega) only [sr_s, sr_a, sr_sr, u1_u1, t5, t6, t7]); exact rfl) ?_ | refine k_alen (by first | assumption | omega) (by first | assumption | exact rfl) ?_ | refine k_cpy (by first | assumption | omega) (by first | assumption | omega) (by first | assumption | exact rfl) (by first | assumption | exact rfl) (by omega) (by omega) (by omega) (by omega) (by omega) (by omega) (by omega) (by omega) (by (try simp (disch := omega) only [sr_s, sr_a, sr_sr, u1_u1, t5, t6, t7]); exact rfl) ?_)
      refine Ok.ret ?_
      rw [if_neg]
      rintro ⟨-, h⟩
      have := (hinj h).1
      omega
  · repeat' (with_reducible first | refine k_gf (by first | assumption | omega) (by first | assumption | ((try simp (disch := omega) only [sr_s, sr_a, sr_sr, u1_s, u1_k, t5]); exact rfl)) ?_ | refine k_gr (by first | assumption | omega) (by first | assumption | ((try simp (disch := omega) only [sr_s, sr_a, sr_sr, u1_s, u1_k, t5]); exact rfl)) (by omega) ?_ | refine k_ald (by first | assumption | omega) (by first | assumption | exact rfl) (by omega) (by omega) (by omega) (by first | assumption | ((try simp (disch := omega) only [sr_s, sr_a, sr_sr, u1_s, u1_k, t5]); exact rfl)) ?_ | refine k_ifT (by first | (simp (disch := omega) only [w32_id]; first | done | omega) | omega) ?_ | refine k_ifF (by first | (simp (disch := omega) only [w32_id]; first | done | omega) | omega) ?_ | refine k_pf (by first | assumption | omega) (by (try simp (disch := omega) only [sr_s, sr_a, sr_sr, u1_u1, t5]); exact rfl) ?_ | refine k_ast (by first | assumption | omega) (by first | assumption | exact rfl) (by omega) (by omega) (by omega) (by (try simp (disch := omega) only [sr_s, sr_a, sr_sr, u1_u1, t5]); exact rfl) ?_ | refine k_irm (by omega) (by omega) (by omega) (by omega) ?_ | refine k_idv (by omega) (by omega) (by omega) (by omega) ?_ | refine k_tk (by first | assumption | omega) ?_ | refine k_rp (by omega) ?_ | refine k_aldR (by first | assumption | omega) (by first | assumption | exact rfl) (by omega) (by omega) (by omega) (by first | assumption | ((try simp (disch := omega) only [sr_s, sr_a, sr_sr, u1_s, u1_k, t5]); exact rfl)) (by omega) ?_ | refine k_astR (by first | assumption | omega) (by first | assumption | exact rfl) (by omega) (by omega) (by omega) (by first | assumption | omega) (by (try simp (disch := omega) only [sr_s, sr_a, sr_sr, u1_u1, t5]); exact rfl) ?_ | refine k_pz (by first | assumption | omega) (by omega) (by (try simp (disch := omega) only [sr_s, sr_a, sr_sr, u1_u1, t5]); exact rfl) ?_ | refine k_alen (by first | assumption | omega) (by first | assumption | exact rfl) ?_ | refine k_cpy (by first | assumption | omega) (by first | assumption | omega) (by first | assumption | exact rfl) (by first | assumption | exact rfl) (by omega) (by omega) (by omega) (by omega) (by omega) (by omega) (by omega) (by omega) (by (try simp (disch := omega) only [sr_s, sr_a, sr_sr, u1_u1, t5]); exact rfl) ?_)
    refine Ok.ret ?_
    rw [if_neg (fun h => y h.1)]
theorem wordOf_ok {h : Hp} (i0 : 0 ≤ i) (i1 : i < 20) : M_X11_wordOf h i = some (swV i) := by
  apply Ok.eq
  have hs := sw_len i0 i1
  have hc := sw_ch i0 i1
  unfold M_X11_wordOf M_X11_wordOf_w4
  refine Ok.bind (Q := fun z => z = swV i) ?_ ?_
  · refine wh_for (fun n s => s = (wdV (sch i) 0 n, (n : Int))) _ (slen i).toNat (by omega) rfl ?_ ?_
    · rintro n _ hn rfl
      have hcb := hc n (by omega) (by omega)
      unfold M_X11_wordOf_b4
      dsimp only
      repeat' (with_reducible first | refine k_gf (by first | assumption | omega) (by first | assumption | ((try simp (disch := omega) only [sr_s, sr_a, sr_sr, u1_s, u1_k]); exact rfl)) ?_ | refine k_gr (by first | assumption | omega) (by first | assumption | ((try simp (disch := omega) only [sr_s, sr_a, sr_sr, u1_s, u1_k]); exact rfl)) (by omega) ?_ | refine k_ald (by first | assumption | omega) (by first | assumption | exact rfl) (by omega) (by omega) (by omega) (by first | assumption | ((try simp (disch := omega) only [sr_s, sr_a, sr_sr, u1_s, u1_k]); exact rfl)) ?_ | refine k_eq (J0_len i0 (by omega)) ?_ | refine k_eq (J0_ch i0 (by omega) (by omega) (by omega) (by omega)) ?_ | refine k_ifT (by first | (simp (disch := omega) only [w32_id]; first | done | omega) | omega) ?_ | refine k_ifF (by first | (simp (disch := omega) only [w32_id]; first | done | omega) | omega) ?_ | refine k_pf (by first | assumption | omega) (by (try simp (disch := omega) only [sr_s, sr_a, sr_sr, u1_u1]); exact rfl) ?_ | refine k_ast (by first | assumption | omega) (by first | assumption | exact rfl) (by omega) (by omega) (by omega) (by (try simp (disch := omega) only [sr_s, sr_a, sr_sr, u1_u1]); exact rfl) ?_ | refine k_irm (by omega) (by omega) (by omega) (by omega) ?_ | refine k_idv (by omega) (by omega) (by omega) (by omega) ?_ | refine k_tk (by first | assumption | omega) ?_ | refine k_rp (by omega) ?_ | refine k_aldR (by first | assumption | omega) (by first | assumption | exact rfl) (by omega) (by omega) (by omega) (by first | assumption | ((try simp (disch := omega) only [sr_s, sr_a, sr_sr, u1_s, u1_k]); exact rfl)) (by omega) ?_ | refine k_astR (by first | assumption | omega) (by first | assumption | exact rfl) (by omega) (by omega) (by omega) (by first | assumption | omega) (by (try simp (disch := omega) only [sr_s, sr_a, sr_sr, u1_u1]); exact rfl) ?_ | refine k_pz (by first | assumption | omega) (by omega) (by (try simp (disch := omega) only [sr_s, sr_a, sr_sr, u1_u1]); exact rfl) ?_ | refine k_alen (by first | assumption | omega) (by first | assumption | exact rfl) ?_ | refine k_cpy (by first | assumption | omega) (by first | assumption | omega) (by first | assumption | exact rfl) (by first | assumption | exact rfl) (by omega) (by omega) (by omega) (by omega) (by omega) (by omega) (by omega) (by omega) (by (try simp (disch := omega) only [sr_s, sr_a, sr_sr, u1_u1]); exact rfl) ?_)
      refine Ok.ret ?_
      rw [w32_id (by omega) (by omega)]
      show (_, _) = (32 * wdV (sch i) 0 n + (sch i (0 + n) - 96), _)
      rw [show (0 : Int) + n = n by omega, show sch i n - 97 + 1 = sch i n - 96 by omega]
      rfl
    · rintro _ rfl
      unfold M_X11_wordOf_b4
      dsimp only
      repeat' (with_reducible first | refine k_gf (by first | assumption | omega) (by first | assumption | ((try simp (disch := omega) only [sr_s, sr_a, sr_sr, u1_s, u1_k]); exact rfl)) ?_ | refine k_gr (by first | assumption | omega) (by first | assumption | ((try simp (disch := omega) only [sr_s, sr_a, sr_sr, u1_s, u1_k]); exact rfl)) (by omega) ?_ | refine k_ald (by first | assumption | omega) (by first | assumption | exact rfl) (by omega) (by omega) (by omega) (by first | assumption | ((try simp (disch := omega) only [sr_s, sr_a, sr_sr, u1_s, u1_k]); exact rfl)) ?_ | refine k_eq (J0_len i0 (by omega)) ?_ | refine k_ifT (by first | (simp (disch := omega) only [w32_id]; first | done | omega) | omega) ?_ | refine k_ifF (by first | (simp (disch := omega) only [w32_id]; first | done | omega) | omega) ?_ | refine k_pf (by first | assumption | omega) (by (try simp (disch := omega) only [sr_s, sr_a, sr_sr, u1_u1]); exact rfl) ?_ | refine k_ast (by first | assumption | omega) (by first | assumption | exact rfl) (by omega) (by omega) (by omega) (by (try simp (disch := omega) only [sr_s, sr_a, sr_sr, u1_u1]); exact rfl) ?_ | refine k_irm (by omega) (by omega) (by omega) (by omega) ?_ | refine k_idv (by omega) (by omega) (by omega) (by omega) ?_ | refine k_tk (by first | assumption | omega) ?_ | refine k_rp (by omega) ?_ | refine k_aldR (by first | assumption | omega) (by first | assumption | exact rfl) (by omega) (by omega) (by omega) (by first | assumption | ((try simp (disch := omega) only [sr_s, sr_a, sr_sr, u1_s, u1_k]); exact rfl)) (by omega) ?_ | refine k_astR (by first | assumption | omega) (by first | assumption | exact rfl) (by omega) (by omega) (by omega) (by first | assumption | omega) (by (try simp (disch := omega) only [sr_s, sr_a, sr_sr, u1_u1]); exact rfl) ?_ | refine k_pz (by first | assumption | omega) (by omega) (by (try simp (disch := omega) only [sr_s, sr_a, sr_sr, u1_u1]); exact rfl) ?_ | refine k_alen (by first | assumption | omega) (by first | assumption | exact rfl) ?_ | refine k_cpy (by first | assumption | omega) (by first | assumption | omega) (by first | assumption | exact rfl) (by first | assumption | exact rfl) (by omega) (by omega) (by omega) (by omega) (by omega) (by omega) (by omega) (by omega) (by (try simp (disch := omega) only [sr_s, sr_a, sr_sr, u1_u1]); exact rfl) ?_)
      exact Ok.ret rfl
  · rintro _ rfl
    exact Ok.ret rfl
theorem swV_b (i0 : 0 ≤ i) (i1 : i < 20) : 0 ≤ swV i ∧ swV i < 1099511627776 := by
  have hs := sw_len i0 i1
  have hc := sw_ch i0 i1
  exact wdV_b2 (by omega) (fun j j0 j1 => hc j (by omega) (by omega))
theorem tW_b (k1 : k ≤ e) (y : tK f e k = 1) : 1 ≤ tW f e k ∧ tW f e k < 1099511627776 := by
  have h1 := tk1 y
  have hL := tkL (f := f) k1
  have hA := tkA (f := f) k1
  have h2 := wdV_b2 (f := f) (a := tA f e k) (n := (tL f e k - tA f e k).toNat) (by omega) (fun j j0 j1 => hL j (by omega) (by omega))
  have h3 := (wdV_b (f := f) (a := tA f e k) ((tL f e k - tA f e k).toNat - 1) (by omega) (fun j j0 j1 => hL j (by omega) (by omega))).1
  have h4 := wdV_0 (f := f) (a := tA f e k) (n := (tL f e k - tA f e k).toNat) (by omega) (fun j j0 j1 => hL j (by omega) (by omega)) h3
  exact ⟨h4, h2.2⟩
theorem lcmpE {x y : Int} (x0 : 0 ≤ x) (x1 : x < 1099511627776) (y0 : 0 ≤ y) (y1 : y < 1099511627776) : w32 (lcmp x y) = 0 ↔ x = y := by
  have a1 : w32 1 = 1 := by decide
  have a0 : w32 0 = 0 := by decide
  have am : w32 (-1) = -1 := by decide
  unfold lcmp
  rw [w64_of (by omega) (by omega), w64_of (by omega) (by omega)]
  by_cases c : y < x
  · rw [if_pos c, a1]; omega
  · rw [if_neg c]
    by_cases c2 : x = y
    · rw [if_pos c2, a0]; omega
    · rw [if_neg c2, am]; omega
theorem X11_isWord_ok (hG : gAll G) (hT : rfT M f e k) (k1 : k ≤ e) (i0 : 0 ≤ i) (i1 : i < 20) : M_X11_isWord (M, G) 124 i = some (if tK f e k = 1 ∧ tW f e k = swV i then 1 else 0) := by
  obtain ⟨t9, -, -, -, -, -, t16⟩ := hT
  have k124 := gk_124 hG
  apply Ok.eq
  unfold M_X11_isWord
  by_cases y : tK f e k = 1
  · have h9 : M 124 9 = 2 := by rw [t9, y]; rfl
    have h16 := (t16 y).2
    have hb := tW_b k1 y
    have hb2 := swV_b i0 i1
    have hcm := lcmpE (x := tW f e k) (y := swV i) (by omega) (by omega) (by omega) (by omega)
    rw [y]
    by_cases z : tW f e k = swV i
    · repeat' (with_reducible first | refine k_gf (by first | assumption | omega) (by first | assumption | ((try simp (disch := omega) only [sr_s, sr_a, sr_sr, u1_s, u1_k, h9, h16]); exact rfl)) ?_ | refine k_gr (by first | assumption | omega) (by first | assumption | ((try simp (disch := omega) only [sr_s, sr_a, sr_sr, u1_s, u1_k, h9, h16]); exact rfl)) (by omega) ?_ | refine k_ald (by first | assumption | omega) (by first | assumption | exact rfl) (by omega) (by omega) (by omega) (by first | assumption | ((try simp (disch := omega) only [sr_s, sr_a, sr_sr, u1_s, u1_k, h9, h16]); exact rfl)) ?_ | refine k_eq (wordOf_ok i0 i1) ?_ | refine k_ifT (by first | (simp (disch := omega) only [w32_id]; first | done | omega) | omega) ?_ | refine k_ifF (by first | (simp (disch := omega) only [w32_id]; first | done | omega) | omega) ?_ | refine k_pf (by first | assumption | omega) (by (try simp (disch := omega) only [sr_s, sr_a, sr_sr, u1_u1, h9, h16]); exact rfl) ?_ | refine k_ast (by first | assumption | omega) (by first | assumption | exact rfl) (by omega) (by omega) (by omega) (by (try simp (disch := omega) only [sr_s, sr_a, sr_sr, u1_u1, h9, h16]); exact rfl) ?_ | refine k_irm (by omega) (by omega) (by omega) (by omega) ?_ | refine k_idv (by omega) (by omega) (by omega) (by omega) ?_ | refine k_tk (by first | assumption | omega) ?_ | refine k_rp (by omega) ?_ | refine k_aldR (by first | assumption | omega) (by first | assumption | exact rfl) (by omega) (by omega) (by omega) (by first | assumption | ((try simp (disch := omega) only [sr_s, sr_a, sr_sr, u1_s, u1_k, h9, h16]); exact rfl)) (by omega) ?_ | refine k_astR (by first | assumption | omega) (by first | assumption | exact rfl) (by omega) (by omega) (by omega) (by first | assumption | omega) (by (try simp (disch := omega) only [sr_s, sr_a, sr_sr, u1_u1, h9, h16]); exact rfl) ?_ | refine k_pz (by first | assumption | omega) (by omega) (by (try simp (disch := omega) only [sr_s, sr_a, sr_sr, u1_u1, h9, h16]); exact rfl) ?_ | refine k_alen (by first | assumption | omega) (by first | assumption | exact rfl) ?_ | refine k_cpy (by first | assumption | omega) (by first | assumption | omega) (by first | assumption | exact rfl) (by first | assumption | exact rfl) (by omega) (by omega) (by omega) (by omega) (by omega) (by omega) (by omega) (by omega) (by (try simp (disch := omega) only [sr_s, sr_a, sr_sr, u1_u1, h9, h16]); exact rfl) ?_)
      refine Ok.ret ?_
      rw [if_pos ⟨rfl, z⟩]
    · repeat' (with_reducible first | refine k_gf (by first | assumption | omega) (by first | assumption | ((try simp (disch := omega) only [sr_s, sr_a, sr_sr, u1_s, u1_k, h9, h16]); exact rfl)) ?_ | refine k_gr (by first | assumption | omega) (by first | assumption | ((try simp (disch := omega) only [sr_s, sr_a, sr_sr, u1_s, u1_k, h9, h16]); exact rfl)) (by omega) ?_ | refine k_ald (by first | assumption | omega) (by first | assumption | exact rfl) (by omega) (by omega) (by omega) (by first | assumption | ((try simp (disch := omega) only [sr_s, sr_a, sr_sr, u1_s, u1_k, h9, h16]); exact rfl)) ?_ | refine k_eq (wordOf_ok i0 i1) ?_ | refine k_ifT (by first | (simp (disch := omega) only [w32_id]; first | done | omega) | omega) ?_ | refine k_ifF (by first | (simp (disch := omega) only [w32_id]; first | done | omega) | omega) ?_ | refine k_pf (by first | assumption | omega) (by (try simp (disch := omega) only [sr_s, sr_a, sr_sr, u1_u1, h9, h16]); exact rfl) ?_ | refine k_ast (by first | assumption | omega) (by first | assumption | exact rfl) (by omega) (by omega) (by omega) (by (try simp (disch := omega) only [sr_s, sr_a, sr_sr, u1_u1, h9, h16]); exact rfl) ?_ | refine k_irm (by omega) (by omega) (by omega) (by omega) ?_ | refine k_idv (by omega) (by omega) (by omega) (by omega) ?_ | refine k_tk (by first | assumption | omega) ?_ | refine k_rp (by omega) ?_ | refine k_aldR (by first | assumption | omega) (by first | assumption | exact rfl) (by omega) (by omega) (by omega) (by first | assumption | ((try simp (disch := omega) only [sr_s, sr_a, sr_sr, u1_s, u1_k, h9, h16]); exact rfl)) (by omega) ?_ | refine k_astR (by first | assumption | omega) (by first | assumption | exact rfl) (by omega) (by omega) (by omega) (by first | assumption | omega) (by (try simp (disch := omega) only [sr_s, sr_a, sr_sr, u1_u1, h9, h16]); exact rfl) ?_ | refine k_pz (by first | assumption | omega) (by omega) (by (try simp (disch := omega) only [sr_s, sr_a, sr_sr, u1_u1, h9, h16]); exact rfl) ?_ | refine k_alen (by first | assumption | omega) (by first | assumption | exact rfl) ?_ | refine k_cpy (by first | assumption | omega) (by first | assumption | omega) (by first | assumption | exact rfl) (by first | assumption | exact rfl) (by omega) (by omega) (by omega) (by omega) (by omega) (by omega) (by omega) (by omega) (by (try simp (disch := omega) only [sr_s, sr_a, sr_sr, u1_u1, h9, h16]); exact rfl) ?_)
      refine Ok.ret ?_
      rw [if_neg (fun h => z h.2)]
  · have h9 : M 124 9 = 0 ∨ M 124 9 = 1 ∨ M 124 9 = 3 ∨ M 124 9 = 4 := by
      rw [t9]
      unfold srt
      (repeat' split) <;> omega
    repeat' (with_reducible first | refine k_gf (by first | assumption | omega) (by first | assumption | ((try simp (disch := omega) only [sr_s, sr_a, sr_sr, u1_s, u1_k]); exact rfl)) ?_ | refine k_gr (by first | assumption | omega) (by first | assumption | ((try simp (disch := omega) only [sr_s, sr_a, sr_sr, u1_s, u1_k]); exact rfl)) (by omega) ?_ | refine k_ald (by first | assumption | omega) (by first | assumption | exact rfl) (by omega) (by omega) (by omega) (by first | assumption | ((try simp (disch := omega) only [sr_s, sr_a, sr_sr, u1_s, u1_k]); exact rfl)) ?_ | refine k_ifT (by first | (simp (disch := omega) only [w32_id]; first | done | omega) | omega) ?_ | refine k_ifF (by first | (simp (disch := omega) only [w32_id]; first | done | omega) | omega) ?_ | refine k_pf (by first | assumption | omega) (by (try simp (disch := omega) only [sr_s, sr_a, sr_sr, u1_u1]); exact rfl) ?_ | refine k_ast (by first | assumption | omega) (by first | assumption | exact rfl) (by omega) (by omega) (by omega) (by (try simp (disch := omega) only [sr_s, sr_a, sr_sr, u1_u1]); exact rfl) ?_ | refine k_irm (by omega) (by omega) (by omega) (by omega) ?_ | refine k_idv (by omega) (by omega) (by omega) (by omega) ?_ | refine k_tk (by first | assumption | omega) ?_ | refine k_rp (by omega) ?_ | refine k_aldR (by first | assumption | omega) (by first | assumption | exact rfl) (by omega) (by omega) (by omega) (by first | assumption | ((try simp (disch := omega) only [sr_s, sr_a, sr_sr, u1_s, u1_k]); exact rfl)) (by omega) ?_ | refine k_astR (by first | assumption | omega) (by first | assumption | exact rfl) (by omega) (by omega) (by omega) (by first | assumption | omega) (by (try simp (disch := omega) only [sr_s, sr_a, sr_sr, u1_u1]); exact rfl) ?_ | refine k_pz (by first | assumption | omega) (by omega) (by (try simp (disch := omega) only [sr_s, sr_a, sr_sr, u1_u1]); exact rfl) ?_ | refine k_alen (by first | assumption | omega) (by first | assumption | exact rfl) ?_ | refine k_cpy (by first | assumption | omega) (by first | assumption | omega) (by first | assumption | exact rfl) (by first | assumption | exact rfl) (by omega) (by omega) (by omega) (by omega) (by omega) (by omega) (by omega) (by omega) (by (try simp (disch := omega) only [sr_s, sr_a, sr_sr, u1_u1]); exact rfl) ?_)
    refine Ok.ret ?_
    rw [if_neg (fun h => y h.1)]
theorem X11_isWord_over (hG : gAll G) (h9 : M 124 9 = 5) : M_X11_isWord (M, G) 124 i = some 0 := by
  have k124 := gk_124 hG
  apply Ok.eq
  unfold M_X11_isWord
  repeat' (with_reducible first | refine k_gf (by first | assumption | omega) (by first | assumption | ((try simp (disch := omega) only [sr_s, sr_a, sr_sr, u1_s, u1_k, h9]); exact rfl)) ?_ | refine k_gr (by first | assumption | omega) (by first | assumption | ((try simp (disch := omega) only [sr_s, sr_a, sr_sr, u1_s, u1_k, h9]); exact rfl)) (by omega) ?_ | refine k_ald (by first | assumption | omega) (by first | assumption | exact rfl) (by omega) (by omega) (by omega) (by first | assumption | ((try simp (disch := omega) only [sr_s, sr_a, sr_sr, u1_s, u1_k, h9]); exact rfl)) ?_ | refine k_ifT (by first | (simp (disch := omega) only [w32_id]; first | done | omega) | omega) ?_ | refine k_ifF (by first | (simp (disch := omega) only [w32_id]; first | done | omega) | omega) ?_ | refine k_pf (by first | assumption | omega) (by (try simp (disch := omega) only [sr_s, sr_a, sr_sr, u1_u1, h9]); exact rfl) ?_ | refine k_ast (by first | assumption | omega) (by first | assumption | exact rfl) (by omega) (by omega) (by omega) (by (try simp (disch := omega) only [sr_s, sr_a, sr_sr, u1_u1, h9]); exact rfl) ?_ | refine k_irm (by omega) (by omega) (by omega) (by omega) ?_ | refine k_idv (by omega) (by omega) (by omega) (by omega) ?_ | refine k_tk (by first | assumption | omega) ?_ | refine k_rp (by omega) ?_ | refine k_aldR (by first | assumption | omega) (by first | assumption | exact rfl) (by omega) (by omega) (by omega) (by first | assumption | ((try simp (disch := omega) only [sr_s, sr_a, sr_sr, u1_s, u1_k, h9]); exact rfl)) (by omega) ?_ | refine k_astR (by first | assumption | omega) (by first | assumption | exact rfl) (by omega) (by omega) (by omega) (by first | assumption | omega) (by (try simp (disch := omega) only [sr_s, sr_a, sr_sr, u1_u1, h9]); exact rfl) ?_ | refine k_pz (by first | assumption | omega) (by omega) (by (try simp (disch := omega) only [sr_s, sr_a, sr_sr, u1_u1, h9]); exact rfl) ?_ | refine k_alen (by first | assumption | omega) (by first | assumption | exact rfl) ?_ | refine k_cpy (by first | assumption | omega) (by first | assumption | omega) (by first | assumption | exact rfl) (by first | assumption | exact rfl) (by omega) (by omega) (by omega) (by omega) (by omega) (by omega) (by omega) (by omega) (by (try simp (disch := omega) only [sr_s, sr_a, sr_sr, u1_u1, h9]); exact rfl) ?_)
  exact Ok.ret rfl
end WD
