/-! round: both worlds -/
section R3
variable {M0 M M1 : Int → Int → Int} {G : GG} {td r rg w mk : Int} {k k1 k2 : Nat}
theorem wAt_sh (hz : zoW M0 24) (t6 : M0 24 2 ≤ 6) (h : wAt M0 M w k) : shW M w := by
  obtain ⟨x0, x1, x2, x6, hm, y1, y2, y3⟩ := h
  refine ⟨hm, ?_⟩
  unfold zoW
  rw [y1, y2, y3]
  exact ⟨bh_o t6 hz.1 k, hz.2.1, hz.2.2⟩
theorem cQ_rd (hc : cQ M0 M) (f : ∀ a, (a < 28 ∨ 35 < a) → a ≠ 123 → M1 a = M a) (hs : zO 216 (M1 123)) (h1 : shW M1 28) (h2 : shW M1 32) : cQ M0 M1 := by
  obtain ⟨g, g0, v1, v2, v3, v4, v5, v6, v7, v8, v9, v10⟩ := hc
  refine ⟨fun a ha => ?_, fun j hj => ?_, h1, h2, ?_, ?_, ?_, ?_, ?_, hs, ?_, ?_⟩
  · rw [f a (by omega) (by omega)]; exact g a ha
  · rw [f 0 (by omega) (by omega)]; exact g0 j hj
  · unfold chI at *; simp (disch := omega) only [f]; exact v3
  · rw [f 106 (by omega) (by omega)]; exact v4
  · rw [f 111 (by omega) (by omega)]; exact v5
  · rw [f 111 (by omega) (by omega)]; exact v6
  · rw [f 117 (by omega) (by omega)]; exact v7
  · rw [f 118 (by omega) (by omega)]; exact v9
  · rw [f 122 (by omega) (by omega)]; exact v10
/-- other behind k1, another behind k2 -/
def rdS (M0 M : Int → Int → Int) (k1 k2 : Nat) : Prop := cQ M0 M ∧ wAt M0 M 28 k1 ∧ wAt M0 M 32 k2
theorem wAt.cg (h : wAt M0 M w k) (f : ∀ a, w ≤ a → a ≤ w + 3 → M1 a = M a) : wAt M0 M1 w k := by
  unfold wAt mW at *
  rw [f w (by omega) (by omega), f (w + 1) (by omega) (by omega), f (w + 2) (by omega) (by omega), f (w + 3) (by omega) (by omega)]
  exact h
theorem rd_go32 (h0 : Inv0 M0 G td r) (hR : isR M0 G td rg) (hns : ∀ t, 0 ≤ t → t < M0 24 2 → M0 27 (4 * t) ≠ 9) (h : rdS M0 M k1 k2) : Ok (M_X8_goOn (M, G) 32 123) (fun h => ∃ M1, h = (M1, G) ∧ rdS M0 M1 k1 (k2 + 1)) := by
  have hG := h0.1.1
  obtain ⟨hc, hA, hB⟩ := h
  have t6 := h0.tw.2.1
  refine (wAt_go hR.cl.2.2.2.2.1 hns h0.s24.2 (gW_32 hG) (gk_123 hG) (gl_123 hG) (by omega) hc.2.2.2.2.2.2.2.2.2.1 hB).mono ?_
  rintro _ ⟨M1, rfl, hB1, hz1, f⟩
  have hA1 := hA.cg (M1 := M1) (fun a _ _ => f a (by omega) (by omega) (by omega))
  exact ⟨M1, rfl, cQ_rd hc (fun a _ _ => f a (by omega) (by omega) (by omega)) hz1 (wAt_sh h0.s24.2 t6 hA1) (wAt_sh h0.s24.2 t6 hB1), hA1, hB1⟩
theorem rd_go28 (h0 : Inv0 M0 G td r) (hR : isR M0 G td rg) (hns : ∀ t, 0 ≤ t → t < M0 24 2 → M0 27 (4 * t) ≠ 9) (h : rdS M0 M k1 k2) : Ok (M_X8_goOn (M, G) 28 123) (fun h => ∃ M1, h = (M1, G) ∧ rdS M0 M1 (k1 + 1) k2) := by
  have hG := h0.1.1
  obtain ⟨hc, hA, hB⟩ := h
  have t6 := h0.tw.2.1
  refine (wAt_go hR.cl.2.2.2.2.1 hns h0.s24.2 (gW_28 hG) (gk_123 hG) (gl_123 hG) (by omega) hc.2.2.2.2.2.2.2.2.2.1 hA).mono ?_
  rintro _ ⟨M1, rfl, hA1, hz1, f⟩
  have hB1 := hB.cg (M1 := M1) (fun a _ _ => f a (by omega) (by omega) (by omega))
  exact ⟨M1, rfl, cQ_rd hc (fun a _ _ => f a (by omega) (by omega) (by omega)) hz1 (wAt_sh h0.s24.2 t6 hA1) (wAt_sh h0.s24.2 t6 hB1), hA1, hB1⟩
theorem rd_be (h0 : Inv0 M0 G td r) (h : rdS M0 M k1 k2) : Ok (M_X8_become (M, G) 28 32) (fun h => ∃ M1, h = (M1, G) ∧ rdS M0 M1 k2 k2) := by
  have hG := h0.1.1
  obtain ⟨hc, hA, hB⟩ := h
  have t6 := h0.tw.2.1
  have hsh := wAt_sh h0.s24.2 t6 hA
  refine (wAt_be h0.s24.2 t6 (gW_28 hG) (gW_32 hG) (by omega) hsh.1 hsh.2 hB).mono ?_
  rintro _ ⟨M1, rfl, hA1, f⟩
  have hB1 := hB.cg (M1 := M1) (fun a _ _ => f a (by omega))
  exact ⟨M1, rfl, cQ_rd hc (fun a _ _ => f a (by omega)) (by rw [f 123 (by omega)]; exact hc.2.2.2.2.2.2.2.2.2.1) (wAt_sh h0.s24.2 t6 hA1) (wAt_sh h0.s24.2 t6 hB1), hA1, hB1⟩
end R3
