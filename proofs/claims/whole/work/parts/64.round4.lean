/-! round: alike -/
section R4
variable {M0 M M1 : Int → Int → Int} {G : GG} {td r rg w mk : Int} {k k1 k2 : Nat}
theorem bh_alB {a b : Nat} (h : alB (bhM M0 24 a) (bhM M0 24 b) (36 * M0 24 2).toNat = true) : bhM M0 24 a = bhM M0 24 b := by
  have h := (alB_iff _).1 h
  funext i
  by_cases c : 0 ≤ i ∧ i < 36 * M0 24 2
  · have := h i.toNat (by omega)
    rw [show ((i.toNat : Nat) : Int) = i by omega] at this
    exact this
  · show bh _ _ _ _ _ _ _ _ _ = bh _ _ _ _ _ _ _ _ _
    rw [bh_out (by omega), bh_out (by omega)]
theorem rd_looks (h0 : Inv0 M0 G td r) (hR : isR M0 G td rg) (h : rdS M0 M k1 k2) : M_X8_looksLike (M, G) 32 28 = some (if alB (bhM M0 24 k2) (bhM M0 24 k1) (36 * M0 24 2).toNat = true then 1 else 0) := by
  have hG := h0.1.1
  obtain ⟨hc, ⟨a0, a1, a2, a6, am, ay, -⟩, ⟨b0, b1, b2, b6, bm, bz, -⟩⟩ := h
  have hh := h0.tw
  have hwf := hR.cl.2.2.2.2.1
  have hb : ∀ k i, 0 ≤ bhM M0 24 k i ∧ bhM M0 24 k i ≤ 9 := fun k i => by
    have := (bh_wf hwf k).2.2.2.2.2.2.2.2.2.2.2.2.2.2 i
    exact ⟨this.1, Int.le_of_lt (Int.lt_of_lt_of_le this.2 (Int.le_trans hR.mk.2 (by decide)))⟩
  have := X8_looksLike_ok (M := M) (gW_32 hG) (gW_28 hG) bm.1 am.1 (by omega) (by omega) (by rw [bz]; exact hb k2) (by rw [ay]; exact hb k1)
  rw [bz, ay, b2] at this
  exact this
end R4
