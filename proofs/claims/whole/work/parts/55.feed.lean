/-! feed -/
theorem m255 : ∀ i : Nat, i < 32 → (255#32).getLsbD i = decide (i < 8) := by decide +kernel
theorem bv_byte (b : BitVec 32) (s : Nat) (hs : s ≤ 24) : (((b.sshiftRight s).signExtend 8).signExtend 32) &&& 255#32 = (b >>> s) &&& 255#32 := by
  apply BitVec.eq_of_getLsbD_eq
  intro i hi
  rw [BitVec.getLsbD_and, BitVec.getLsbD_and, m255 i hi]
  by_cases h : i < 8
  · have h1 : (((b.sshiftRight s).signExtend 8).signExtend 32).getLsbD i = (b >>> s).getLsbD i := by
      rw [BitVec.getLsbD_signExtend, BitVec.getLsbD_signExtend, BitVec.getLsbD_sshiftRight, BitVec.getLsbD_ushiftRight]
      have a1 : ¬ 32 ≤ i := by omega
      have a2 : s + i < 32 := by omega
      simp [hi, h, a1, a2]
    rw [h1]
  · simp [h]
def byV (v i : Int) : Int := iand (iushr v (24 - 8 * i)) 255
theorem byte_ok {v s : Int} (hs : s = 24 ∨ s = 16 ∨ s = 8 ∨ s = 0) : iand (i2b (i2b (ishr v s))) 255 = iand (iushr v s) 255 := by
  unfold iand i2b ishr iushr
  rw [Int32.ofInt_toInt, Int32.ofInt_toInt, Int32.ofInt_toInt, Int32.ofInt_toInt]
  congr 1
  apply Int32.toBitVec_inj.mp
  rw [Int32.toBitVec_and, Int32.toBitVec_and, Int8.toInt8_toInt32, Int8.toBitVec_toInt32, Int32.toBitVec_toInt8, Int32.toBitVec_shiftRight]
  have e1 : ∀ x : UInt32, x.toInt32.toBitVec = x.toBitVec := fun _ => rfl
  have e2 : ∀ x : Int32, x.toUInt32.toBitVec = x.toBitVec := fun _ => rfl
  rw [e1, UInt32.toBitVec_shiftRight, e2]
  have h255 : (Int32.ofInt 255).toBitVec = 255#32 := by decide
  rw [h255]
  rcases hs with rfl | rfl | rfl | rfl
  · have h1 : ((Int32.ofInt 24 &&& 31).toBitVec.smod 32#32).toNat = 24 := by decide
    have h2 : (((Int32.ofInt 24).toUInt32 &&& Int32.toUInt32 31).toBitVec % 32#32).toNat = 24 := by decide
    have g := bv_byte (Int32.ofInt v).toBitVec 24 (by omega)
    show BitVec.signExtend 32 (BitVec.signExtend 8 ((Int32.ofInt v).toBitVec.sshiftRight ((Int32.ofInt 24 &&& 31).toBitVec.smod 32#32).toNat)) &&& 255#32 = (Int32.ofInt v).toBitVec >>> (((Int32.ofInt 24).toUInt32 &&& Int32.toUInt32 31).toBitVec % 32#32).toNat &&& 255#32
    rw [h1, h2]
    exact g
  · have h1 : ((Int32.ofInt 16 &&& 31).toBitVec.smod 32#32).toNat = 16 := by decide
    have h2 : (((Int32.ofInt 16).toUInt32 &&& Int32.toUInt32 31).toBitVec % 32#32).toNat = 16 := by decide
    have g := bv_byte (Int32.ofInt v).toBitVec 16 (by omega)
    show BitVec.signExtend 32 (BitVec.signExtend 8 ((Int32.ofInt v).toBitVec.sshiftRight ((Int32.ofInt 16 &&& 31).toBitVec.smod 32#32).toNat)) &&& 255#32 = (Int32.ofInt v).toBitVec >>> (((Int32.ofInt 16).toUInt32 &&& Int32.toUInt32 31).toBitVec % 32#32).toNat &&& 255#32
    rw [h1, h2]
    exact g
  · have h1 : ((Int32.ofInt 8 &&& 31).toBitVec.smod 32#32).toNat = 8 := by decide
    have h2 : (((Int32.ofInt 8).toUInt32 &&& Int32.toUInt32 31).toBitVec % 32#32).toNat = 8 := by decide
    have g := bv_byte (Int32.ofInt v).toBitVec 8 (by omega)
    show BitVec.signExtend 32 (BitVec.signExtend 8 ((Int32.ofInt v).toBitVec.sshiftRight ((Int32.ofInt 8 &&& 31).toBitVec.smod 32#32).toNat)) &&& 255#32 = (Int32.ofInt v).toBitVec >>> (((Int32.ofInt 8).toUInt32 &&& Int32.toUInt32 31).toBitVec % 32#32).toNat &&& 255#32
    rw [h1, h2]
    exact g
  · have h1 : ((Int32.ofInt 0 &&& 31).toBitVec.smod 32#32).toNat = 0 := by decide
    have h2 : (((Int32.ofInt 0).toUInt32 &&& Int32.toUInt32 31).toBitVec % 32#32).toNat = 0 := by decide
    have g := bv_byte (Int32.ofInt v).toBitVec 0 (by omega)
    show BitVec.signExtend 32 (BitVec.signExtend 8 ((Int32.ofInt v).toBitVec.sshiftRight ((Int32.ofInt 0 &&& 31).toBitVec.smod 32#32).toNat)) &&& 255#32 = (Int32.ofInt v).toBitVec >>> (((Int32.ofInt 0).toUInt32 &&& Int32.toUInt32 31).toBitVec % 32#32).toNat &&& 255#32
    rw [h1, h2]
    exact g
theorem iand255_b (x : Int) : 0 ≤ iand x 255 ∧ iand x 255 ≤ 255 := by
  unfold iand
  have h : ((Int32.ofInt x) &&& Int32.ofInt 255).toBitVec = (Int32.ofInt x).toBitVec &&& 255#32 := by rw [Int32.toBitVec_and]; rfl
  have hlt : ((Int32.ofInt x).toBitVec &&& 255#32).toNat ≤ 255 := by
    rw [BitVec.toNat_and]
    exact Nat.and_le_right
  have : (Int32.ofInt x &&& Int32.ofInt 255).toInt = (((Int32.ofInt x).toBitVec &&& 255#32).toNat : Int) := by
    show ((Int32.ofInt x) &&& Int32.ofInt 255).toBitVec.toInt = _
    rw [h, BitVec.toInt_eq_toNat_of_lt (by omega)]
  rw [this]
  omega
section FD
variable {M M1 M2 N : Int → Int → Int} {G : GG} {td r rg v L : Int}
theorem X9_append_ok (hG : gAll G) (p0 : M 0 0 = 1) (hL : M 0 1 = L) (l0 : 0 ≤ L) (l1 : L + 4 ≤ 900) : M_X9_append (M, G) 0 v = some (sr (sr M 1 (fl1 (M 1) (byV v) L 4)) 0 (u1 (M 0) 1 (L + 4)), G) := by
  have k0 := gk_0 hG
  have k1 := gk_1 hG
  have l1 := gl_1 hG
  refine Ok.eq ?_
  unfold M_X9_append M_X9_append_w3 M_X9_append_p39
  refine k_tk k0 ?_
  refine k_eq (wh_st (fun i => ((sr (sr M 1 (fl1 (M 1) (byV v) L (i : Int))) 0 (u1 (M 0) 1 (L + (i : Int))), G), 24 - 8 * (i : Int))) 4 (by omega) (t := (sr (sr M 1 (fl1 (M 1) (byV v) L 4)) 0 (u1 (M 0) 1 (L + 4)), G)) ?_ ?_ ?_) (Ok.ret rfl)
  · show ((M, G), (24 : Int)) = ((sr (sr M 1 (fl1 (M 1) (byV v) L 0)) 0 (u1 (M 0) 1 (L + 0)), G), 24 - 8 * 0)
    rw [fl1_0, sr_id, Int.add_zero, ← hL, u1_same, sr_id]
    rfl
  · intro i hi
    refine Ok.eq ?_
    unfold M_X9_append_b3
    dsimp only
    repeat' (with_reducible first | refine k_gf (by first | assumption | omega) (by first | assumption | ((try simp (disch := omega) only [sr_s, sr_a, sr_sr, u1_s, u1_k, p0]); exact rfl)) ?_ | refine k_gr (by first | assumption | omega) (by first | assumption | ((try simp (disch := omega) only [sr_s, sr_a, sr_sr, u1_s, u1_k, p0]); exact rfl)) (by omega) ?_ | refine k_ald (by first | assumption | omega) (by first | assumption | exact rfl) (by omega) (by omega) (by omega) (by first | assumption | ((try simp (disch := omega) only [sr_s, sr_a, sr_sr, u1_s, u1_k, p0]); exact rfl)) ?_ | refine k_ifT (by first | (simp (disch := omega) only [w32_id]; first | done | omega) | omega) ?_ | refine k_ifF (by first | (simp (disch := omega) only [w32_id]; first | done | omega) | omega) ?_ | refine k_pf (by first | assumption | omega) (by (try simp (disch := omega) only [sr_s, sr_a, sr_sr, u1_u1, p0]); exact rfl) ?_ | refine k_ast (by first | assumption | omega) (by first | assumption | exact rfl) (by omega) (by omega) (by omega) (by (try simp (disch := omega) only [sr_s, sr_a, sr_sr, u1_u1, p0]); exact rfl) ?_ | refine k_irm (by omega) (by omega) (by omega) (by omega) ?_ | refine k_idv (by omega) (by omega) (by omega) (by omega) ?_ | refine k_tk (by first | assumption | omega) ?_ | refine k_rp (by omega) ?_ | refine k_aldR (by first | assumption | omega) (by first | assumption | exact rfl) (by omega) (by omega) (by omega) (by first | assumption | ((try simp (disch := omega) only [sr_s, sr_a, sr_sr, u1_s, u1_k, p0]); exact rfl)) (by omega) ?_ | refine k_astR (by first | assumption | omega) (by first | assumption | exact rfl) (by omega) (by omega) (by omega) (by first | assumption | omega) (by (try simp (disch := omega) only [sr_s, sr_a, sr_sr, u1_u1, p0]); exact rfl) ?_ | refine k_pz (by first | assumption | omega) (by omega) (by (try simp (disch := omega) only [sr_s, sr_a, sr_sr, u1_u1, p0]); exact rfl) ?_ | refine k_alen (by first | assumption | omega) (by first | assumption | exact rfl) ?_ | refine k_cpy (by first | assumption | omega) (by first | assumption | omega) (by first | assumption | exact rfl) (by first | assumption | exact rfl) (by omega) (by omega) (by omega) (by omega) (by omega) (by omega) (by omega) (by omega) (by (try simp (disch := omega) only [sr_s, sr_a, sr_sr, u1_u1, p0]); exact rfl) ?_ | refine k_if (by (try simp (disch := omega) only [w32_id]); exact Iff.rfl) (fun c => ?_) (fun c => ?_))
    refine Ok.ret ?_
    simp only [Sum.inl.injEq, Prod.mk.injEq, and_true, true_and]
    refine ⟨?_, by omega⟩
    have := fl1_u (g := M 1) (V := byV v) (i := L) (n := (i : Int)) (by omega)
    rw [show iand (iushr v (24 - 8 * (i : Int))) 255 = byV v i from rfl]
    funext a
    by_cases e0 : a = 0
    · subst e0
      simp (disch := first | assumption | omega) only [sr_s, sr_a, sr_sr]
      rw [show L + ((i + 1 : Nat) : Int) = L + i + 1 by omega]
    · by_cases e1 : a = 1
      · subst e1
        simp (disch := first | assumption | omega) only [sr_s, sr_a, sr_sr]
        rw [this]
        rfl
      · simp (disch := first | assumption | omega) only [sr_s, sr_a, sr_sr]
  · refine Ok.eq ?_
    unfold M_X9_append_b3
    dsimp only
    repeat' (with_reducible first | refine k_gf (by first | assumption | omega) (by first | assumption | ((try simp (disch := omega) only [sr_s, sr_a, sr_sr, u1_s, u1_k]); exact rfl)) ?_ | refine k_gr (by first | assumption | omega) (by first | assumption | ((try simp (disch := omega) only [sr_s, sr_a, sr_sr, u1_s, u1_k]); exact rfl)) (by omega) ?_ | refine k_ald (by first | assumption | omega) (by first | assumption | exact rfl) (by omega) (by omega) (by omega) (by first | assumption | ((try simp (disch := omega) only [sr_s, sr_a, sr_sr, u1_s, u1_k]); exact rfl)) ?_ | refine k_ifT (by first | (simp (disch := omega) only [w32_id]; first | done | omega) | omega) ?_ | refine k_ifF (by first | (simp (disch := omega) only [w32_id]; first | done | omega) | omega) ?_ | refine k_pf (by first | assumption | omega) (by (try simp (disch := omega) only [sr_s, sr_a, sr_sr, u1_u1]); exact rfl) ?_ | refine k_ast (by first | assumption | omega) (by first | assumption | exact rfl) (by omega) (by omega) (by omega) (by (try simp (disch := omega) only [sr_s, sr_a, sr_sr, u1_u1]); exact rfl) ?_ | refine k_irm (by omega) (by omega) (by omega) (by omega) ?_ | refine k_idv (by omega) (by omega) (by omega) (by omega) ?_ | refine k_tk (by first | assumption | omega) ?_ | refine k_rp (by omega) ?_ | refine k_aldR (by first | assumption | omega) (by first | assumption | exact rfl) (by omega) (by omega) (by omega) (by first | assumption | ((try simp (disch := omega) only [sr_s, sr_a, sr_sr, u1_s, u1_k]); exact rfl)) (by omega) ?_ | refine k_astR (by first | assumption | omega) (by first | assumption | exact rfl) (by omega) (by omega) (by omega) (by first | assumption | omega) (by (try simp (disch := omega) only [sr_s, sr_a, sr_sr, u1_u1]); exact rfl) ?_ | refine k_pz (by first | assumption | omega) (by omega) (by (try simp (disch := omega) only [sr_s, sr_a, sr_sr, u1_u1]); exact rfl) ?_ | refine k_alen (by first | assumption | omega) (by first | assumption | exact rfl) ?_ | refine k_cpy (by first | assumption | omega) (by first | assumption | omega) (by first | assumption | exact rfl) (by first | assumption | exact rfl) (by omega) (by omega) (by omega) (by omega) (by omega) (by omega) (by omega) (by omega) (by (try simp (disch := omega) only [sr_s, sr_a, sr_sr, u1_u1]); exact rfl) ?_ | refine k_if (by (try simp (disch := omega) only [w32_id]); exact Iff.rfl) (fun c => ?_) (fun c => ?_))
    exact Ok.ret rfl
def apR (M M' : Int → Int → Int) (v L : Int) : Prop := (∀ a, a ≠ 0 → a ≠ 1 → M' a = M a) ∧ (∀ k, k ≠ 1 → M' 0 k = M 0 k) ∧ M' 0 1 = L + 4 ∧ (∀ j, j < L → M' 1 j = M 1 j) ∧ ∀ i, 0 ≤ i → i < 4 → M' 1 (L + i) = byV v i
theorem X9_append_r (hG : gAll G) (p0 : M 0 0 = 1) (hL : M 0 1 = L) (l0 : 0 ≤ L) (l1 : L + 4 ≤ 900) : ∃ M', M_X9_append (M, G) 0 v = some (M', G) ∧ apR M M' v L := by
  refine ⟨_, X9_append_ok hG p0 hL l0 l1, fun a x y => by rw [sr_a _ _ x, sr_a _ _ y], fun k hk => by rw [sr_s, u1_k _ _ hk], by rw [sr_s, u1_s], fun j hj => ?_, fun i i0 i1 => ?_⟩
  · rw [sr_a _ _ (by omega), sr_s]; unfold fl1; rw [if_neg (by omega)]
  · rw [sr_a _ _ (by omega), sr_s]; unfold fl1; rw [if_pos (by omega), show L + i - L = i by omega]
def slV (a b c d e k : Int) : Int := if k < 4 then a else if k < 8 then b else if k < 12 then c else if k < 16 then d else e
theorem isR.cg2 (f : ∀ a, (2 ≤ a ∧ a < 28 ∨ 36 ≤ a ∧ a < 99 ∨ a = 115 ∨ a = 116 ∨ 126 ≤ a ∧ a ≤ 128 ∨ 146 ≤ a) → M1 a = M a) (f3 : M1 124 3 = M 124 3) (f20 : M1 124 20 = M 124 20) (f21 : M1 124 21 = M 124 21) (ht : td = 2 ∨ td = 13) (hr : rot M r) (h : isR M G td rg) : isR M1 G td rg := by
  have hX : isR (sr (sr M1 1 (M 1)) 125 (M 125)) G td rg := isR.cg (M := M) (r := r) (fun a ha => by
    by_cases e : a = 125
    · rw [e, sr_s]
    · rw [sr_a _ _ e]
      by_cases e1 : a = 1
      · rw [e1, sr_s]
      · rw [sr_a _ _ e1]; exact f a (by omega)) (by rw [sr_a _ _ (by omega), sr_a _ _ (by omega)]; exact f3) (by rw [sr_a _ _ (by omega), sr_a _ _ (by omega)]; exact f20) (by rw [sr_a _ _ (by omega), sr_a _ _ (by omega)]; exact f21) ht hr h
  have g : ∀ a, a ≠ 1 → a ≠ 125 → M1 a = sr (sr M1 1 (M 1)) 125 (M 125) a := fun a x y => by rw [sr_a _ _ y, sr_a _ _ x]
  have hro : rot (sr (sr M1 1 (M 1)) 125 (M 125)) r := by unfold rot at *; rw [sr_a _ _ (by omega), sr_a _ _ (by omega), f 37 (by omega)]; exact hr
  generalize sr (sr M1 1 (M 1)) 125 (M 125) = Mx at *
  obtain ⟨h1, h2, h3, h4, h5, h6, h7, h8, h9, h10, h11, h12, h13⟩ := hX
  have hrg := h2.1
  refine ⟨by rw [g 124 (by omega) (by omega)]; exact h1, h2, ?_, ?_, ?_, ?_, ?_, ?_, ?_, ?_, ?_, ?_, ?_⟩
  · simp (disch := omega) only [g]; exact h3
  · simp (disch := omega) only [g]; exact h4
  · obtain ⟨-, -, -, h5⟩ := h5
    refine ⟨rfl, rfl, rfl, ?_⟩
    simp (disch := omega) only [g]; exact h5
  · unfold wR at *; simp (disch := omega) only [g]; exact h6
  · unfold cTd at *; simp (disch := omega) only [g]; exact h7
  · unfold cGs at *; simp (disch := omega) only [g]; exact h8
  · unfold cSe at *; simp (disch := omega) only [g]; exact h9
  · unfold cW at *; simp (disch := omega) only [g]; exact h10
  · simp (disch := omega) only [g]
    refine ⟨h11.1, h11.2.1, h11.2.2.1, fun i i0 i1 => ?_⟩
    have hx := h11.2.2.2 i i0 i1
    have hri := hro.2.2 i i0 (by have := h11.2.2.1; omega)
    have hb : 39 ≤ Mx 37 i ∧ Mx 37 i ≤ 83 := by omega
    clear hri
    unfold wR cW at *
    simp (disch := omega) only [g]
    exact hx
  · simp (disch := omega) only [g]
    refine ⟨h12.1, h12.2.1, h12.2.2.1, fun i i0 i1 => ?_⟩
    have hx := h12.2.2.2 i i0 i1
    have := h12.2.2.1
    unfold wR cW at *
    simp (disch := omega) only [g]
    exact hx
  · have hb : fitB M1 td = fitB Mx td := by
      funext x
      unfold fitB
      simp (disch := omega) only [g]
    unfold cFi at *
    simp (disch := omega) only [g, fitN_cg hb, hb]
    exact h13
theorem q_feed {a b c d e : Int} (h : Inv M G) : Both M G (fun h => M_X9_feed h 0 a b c d e) (fun h => M_X11_feed h 124 a b c d e) := by
  obtain ⟨htr, td, r, h0⟩ := h
  have hG := h0.1.1
  have hp0 := pr0.p0 h0.1.2.1
  obtain ⟨t1, t2, t3, t4⟩ := h0.2.2.2.1
  have k0 := gk_0 hG
  have k1 := gk_1 hG
  have l1 := gl_1 hG
  have k124 := gk_124 hG
  have k125 := gk_125 hG
  have l125 := gl_125 hG
  by_cases cc : M 0 1 + 20 ≤ 900
  · obtain ⟨A1, ea1, x1⟩ := X9_append_r (M := M) (G := G) (v := a) (L := M 0 1) hG hp0 rfl t2 (by omega)
    obtain ⟨A2, ea2, x2⟩ := X9_append_r (M := A1) (G := G) (v := b) (L := M 0 1 + 4) hG (by rw [x1.2.1 0 (by omega)]; exact hp0) (by rw [x1.2.2.1]) (by omega) (by omega)
    obtain ⟨A3, ea3, x3⟩ := X9_append_r (M := A2) (G := G) (v := c) (L := M 0 1 + 8) hG (by rw [x2.2.1 0 (by omega), x1.2.1 0 (by omega)]; exact hp0) (by rw [x2.2.2.1]; omega) (by omega) (by omega)
    obtain ⟨A4, ea4, x4⟩ := X9_append_r (M := A3) (G := G) (v := d) (L := M 0 1 + 12) hG (by rw [x3.2.1 0 (by omega), x2.2.1 0 (by omega), x1.2.1 0 (by omega)]; exact hp0) (by rw [x3.2.2.1]; omega) (by omega) (by omega)
    obtain ⟨A5, ea5, x5⟩ := X9_append_r (M := A4) (G := G) (v := e) (L := M 0 1 + 16) hG (by rw [x4.2.1 0 (by omega), x3.2.1 0 (by omega), x2.2.1 0 (by omega), x1.2.1 0 (by omega)]; exact hp0) (by rw [x4.2.2.1]; omega) (by omega) (by omega)
    have fA : ∀ b, b ≠ 0 → b ≠ 1 → A5 b = M b := fun b y z => by rw [x5.1 b y z, x4.1 b y z, x3.1 b y z, x2.1 b y z, x1.1 b y z]
    have f0 : ∀ k, k ≠ 1 → A5 0 k = M 0 k := fun k y => by rw [x5.2.1 k y, x4.2.1 k y, x3.2.1 k y, x2.2.1 k y, x1.2.1 k y]
    have f01 : A5 0 1 = M 0 1 + 20 := by rw [x5.2.2.1]; omega
    have fl : ∀ j, j < M 0 1 → A5 1 j = M 1 j := fun j y => by rw [x5.2.2.2.1 j (by omega), x4.2.2.2.1 j (by omega), x3.2.2.2.1 j (by omega), x2.2.2.2.1 j (by omega), x1.2.2.2.1 j y]
    have fn : ∀ k, 0 ≤ k → k < 20 → A5 1 (M 0 1 + k) = byV (slV a b c d e k) (k % 4) := fun k k0 k1 => by
      unfold slV
      by_cases y1 : k < 4
      · rw [if_pos y1, x5.2.2.2.1 _ (by omega), x4.2.2.2.1 _ (by omega), x3.2.2.2.1 _ (by omega), x2.2.2.2.1 _ (by omega), x1.2.2.2.2 k k0 y1, show k % 4 = k by omega]
      rw [if_neg y1]
      by_cases y2 : k < 8
      · rw [if_pos y2, x5.2.2.2.1 _ (by omega), x4.2.2.2.1 _ (by omega), x3.2.2.2.1 _ (by omega), show M 0 1 + k = M 0 1 + 4 + (k - 4) by omega, x2.2.2.2.2 (k - 4) (by omega) (by omega), show k % 4 = k - 4 by omega]
      rw [if_neg y2]
      by_cases y3 : k < 12
      · rw [if_pos y3, x5.2.2.2.1 _ (by omega), x4.2.2.2.1 _ (by omega), show M 0 1 + k = M 0 1 + 8 + (k - 8) by omega, x3.2.2.2.2 (k - 8) (by omega) (by omega), show k % 4 = k - 8 by omega]
      rw [if_neg y3]
      by_cases y4 : k < 16
      · rw [if_pos y4, x5.2.2.2.1 _ (by omega), show M 0 1 + k = M 0 1 + 12 + (k - 12) by omega, x4.2.2.2.2 (k - 12) (by omega) (by omega), show k % 4 = k - 12 by omega]
      rw [if_neg y4, show M 0 1 + k = M 0 1 + 16 + (k - 16) by omega, x5.2.2.2.2 (k - 16) (by omega) (by omega), show k % 4 = k - 16 by omega]
    have hcl : M_X9_feed (M, G) 0 a b c d e = some ((A5, G), M 0 1 + 20) := by
      refine Ok.eq ?_
      unfold M_X9_feed
      repeat' (with_reducible first | refine k_gf (by first | assumption | omega) (by first | assumption | ((try simp (disch := omega) only [sr_s, sr_a, sr_sr, u1_s, u1_k]); exact rfl)) ?_ | refine k_gr (by first | assumption | omega) (by first | assumption | ((try simp (disch := omega) only [sr_s, sr_a, sr_sr, u1_s, u1_k]); exact rfl)) (by omega) ?_ | refine k_ald (by first | assumption | omega) (by first | assumption | exact rfl) (by omega) (by omega) (by omega) (by first | assumption | ((try simp (disch := omega) only [sr_s, sr_a, sr_sr, u1_s, u1_k]); exact rfl)) ?_ | refine k_eq (ea1) ?_ | refine k_eq (ea2) ?_ | refine k_eq (ea3) ?_ | refine k_eq (ea4) ?_ | refine k_eq (ea5) ?_ | refine k_ifT (by first | (simp (disch := omega) only [w32_id]; first | done | omega) | omega) ?_ | refine k_ifF (by first | (simp (disch := omega) only [w32_id]; first | done | omega) | omega) ?_ | refine k_pf (by first | assumption | omega) (by (try simp (disch := omega) only [sr_s, sr_a, sr_sr, u1_u1]); exact rfl) ?_ | refine k_ast (by first | assumption | omega) (by first | assumption | exact rfl) (by omega) (by omega) (by omega) (by (try simp (disch := omega) only [sr_s, sr_a, sr_sr, u1_u1]); exact rfl) ?_ | refine k_irm (by omega) (by omega) (by omega) (by omega) ?_ | refine k_idv (by omega) (by omega) (by omega) (by omega) ?_ | refine k_tk (by first | assumption | omega) ?_ | refine k_rp (by omega) ?_ | refine k_aldR (by first | assumption | omega) (by first | assumption | exact rfl) (by omega) (by omega) (by omega) (by first | assumption | ((try simp (disch := omega) only [sr_s, sr_a, sr_sr, u1_s, u1_k]); exact rfl)) (by omega) ?_ | refine k_astR (by first | assumption | omega) (by first | assumption | exact rfl) (by omega) (by omega) (by omega) (by first | assumption | omega) (by (try simp (disch := omega) only [sr_s, sr_a, sr_sr, u1_u1]); exact rfl) ?_ | refine k_pz (by first | assumption | omega) (by omega) (by (try simp (disch := omega) only [sr_s, sr_a, sr_sr, u1_u1]); exact rfl) ?_ | refine k_alen (by first | assumption | omega) (by first | assumption | exact rfl) ?_ | refine k_cpy (by first | assumption | omega) (by first | assumption | omega) (by first | assumption | exact rfl) (by first | assumption | exact rfl) (by omega) (by omega) (by omega) (by omega) (by omega) (by omega) (by omega) (by omega) (by (try simp (disch := omega) only [sr_s, sr_a, sr_sr, u1_u1]); exact rfl) ?_ | refine k_if (by (try simp (disch := omega) only [w32_id]); exact Iff.rfl) (fun c => ?_) (fun c => ?_))
      exact Ok.ret rfl
    clear x1 x2 x3 x4 x5 ea1 ea2 ea3 ea4 ea5
    have hN : ∀ b, b ≠ 124 → thM A5 b = A5 b := fun b hb => thM_a hb
    have hN4 : ∀ j, j ≠ 0 → thM A5 124 j = M 124 j := fun j hj => by rw [thM_k hj, fA 124 (by omega) (by omega)]
    have hrf : M_X11_feed (A5, G) 124 a b c d e = some ((sr (sr (thM A5) 125 (fl1 (M 125) (fun k => i2b (i2b (ishr (slV a b c d e k) (24 - 8 * (k % 4))))) (M 0 1) 20)) 124 (u1 (thM A5 124) 6 (M 0 1 + 20)), G), M 0 1 + 20) := by
      refine Ok.eq ?_
      unfold M_X11_feed
      refine k_tk k124 (k_pf k124 (M' := thM A5) rfl ?_)
      have n6 : thM A5 124 6 = M 0 1 := by rw [hN4 6 (by omega)]; exact t1
      have p5 : thM A5 124 5 = 125 := by rw [hN4 5 (by omega)]; exact pr124.p5 h0.2.2.1.1
      have x125 : thM A5 125 = M 125 := by rw [hN 125 (by omega), fA 125 (by omega) (by omega)]
      generalize thM A5 = N at *
      repeat' (with_reducible first | refine k_gf (by first | assumption | omega) (by first | assumption | ((try simp (disch := omega) only [sr_s, sr_a, sr_sr, u1_s, u1_k, n6]); exact rfl)) ?_ | refine k_gr (by first | assumption | omega) (by first | assumption | ((try simp (disch := omega) only [sr_s, sr_a, sr_sr, u1_s, u1_k, n6]); exact rfl)) (by omega) ?_ | refine k_ald (by first | assumption | omega) (by first | assumption | exact rfl) (by omega) (by omega) (by omega) (by first | assumption | ((try simp (disch := omega) only [sr_s, sr_a, sr_sr, u1_s, u1_k, n6]); exact rfl)) ?_ | refine k_ifT (by first | (simp (disch := omega) only [w32_id]; first | done | omega) | omega) ?_ | refine k_ifF (by first | (simp (disch := omega) only [w32_id]; first | done | omega) | omega) ?_ | refine k_pf (by first | assumption | omega) (by (try simp (disch := omega) only [sr_s, sr_a, sr_sr, u1_u1, n6]); exact rfl) ?_ | refine k_ast (by first | assumption | omega) (by first | assumption | exact rfl) (by omega) (by omega) (by omega) (by (try simp (disch := omega) only [sr_s, sr_a, sr_sr, u1_u1, n6]); exact rfl) ?_ | refine k_irm (by omega) (by omega) (by omega) (by omega) ?_ | refine k_idv (by omega) (by omega) (by omega) (by omega) ?_ | refine k_tk (by first | assumption | omega) ?_ | refine k_rp (by omega) ?_ | refine k_aldR (by first | assumption | omega) (by first | assumption | exact rfl) (by omega) (by omega) (by omega) (by first | assumption | ((try simp (disch := omega) only [sr_s, sr_a, sr_sr, u1_s, u1_k, n6]); exact rfl)) (by omega) ?_ | refine k_astR (by first | assumption | omega) (by first | assumption | exact rfl) (by omega) (by omega) (by omega) (by first | assumption | omega) (by (try simp (disch := omega) only [sr_s, sr_a, sr_sr, u1_u1, n6]); exact rfl) ?_ | refine k_pz (by first | assumption | omega) (by omega) (by (try simp (disch := omega) only [sr_s, sr_a, sr_sr, u1_u1, n6]); exact rfl) ?_ | refine k_alen (by first | assumption | omega) (by first | assumption | exact rfl) ?_ | refine k_cpy (by first | assumption | omega) (by first | assumption | omega) (by first | assumption | exact rfl) (by first | assumption | exact rfl) (by omega) (by omega) (by omega) (by omega) (by omega) (by omega) (by omega) (by omega) (by (try simp (disch := omega) only [sr_s, sr_a, sr_sr, u1_u1, n6]); exact rfl) ?_ | refine k_if (by (try simp (disch := omega) only [w32_id]); exact Iff.rfl) (fun c => ?_) (fun c => ?_))
      unfold M_X11_feed_w23 M_X11_feed_p117
      refine k_eq (wh_st (fun i => ((sr (sr N 125 (fl1 (M 125) (fun k => i2b (i2b (ishr (slV a b c d e k) (24 - 8 * (k % 4))))) (M 0 1) (i : Int))) 124 (u1 (N 124) 6 (M 0 1 + (i : Int))), G), (i : Int))) 20 (by omega) (t := (sr (sr N 125 (fl1 (M 125) (fun k => i2b (i2b (ishr (slV a b c d e k) (24 - 8 * (k % 4))))) (M 0 1) 20)) 124 (u1 (N 124) 6 (M 0 1 + 20)), G)) ?_ ?_ ?_) ?_
      · show ((N, G), (0 : Int)) = ((sr (sr N 125 (fl1 (M 125) _ (M 0 1) 0)) 124 (u1 (N 124) 6 (M 0 1 + 0)), G), 0)
        rw [fl1_0, ← x125, sr_id, Int.add_zero, ← n6, u1_same, sr_id]
      · intro i hi
        have hp76 : ∀ s0, s0 = slV a b c d e i → Ok (M_X11_feed_p76 (sr (sr N 125 (fl1 (M 125) (fun k => i2b (i2b (ishr (slV a b c d e k) (24 - 8 * (k % 4))))) (M 0 1) (i : Int))) 124 (u1 (N 124) 6 (M 0 1 + (i : Int))), G) 124 a b c d e i s0) (fun z => z = .inl ((sr (sr N 125 (fl1 (M 125) (fun k => i2b (i2b (ishr (slV a b c d e k) (24 - 8 * (k % 4))))) (M 0 1) ((i + 1 : Nat) : Int))) 124 (u1 (N 124) 6 (M 0 1 + ((i + 1 : Nat) : Int))), G), ((i + 1 : Nat) : Int))) := by
          intro s0 hs
          subst hs
          unfold M_X11_feed_p76 astB
          repeat' (with_reducible first | refine k_gf (by first | assumption | omega) (by first | assumption | ((try simp (disch := omega) only [sr_s, sr_a, sr_sr, u1_s, u1_k, p5]); exact rfl)) ?_ | refine k_gr (by first | assumption | omega) (by first | assumption | ((try simp (disch := omega) only [sr_s, sr_a, sr_sr, u1_s, u1_k, p5]); exact rfl)) (by omega) ?_ | refine k_ald (by first | assumption | omega) (by first | assumption | exact rfl) (by omega) (by omega) (by omega) (by first | assumption | ((try simp (disch := omega) only [sr_s, sr_a, sr_sr, u1_s, u1_k, p5]); exact rfl)) ?_ | refine k_ifT (by first | (simp (disch := omega) only [w32_id]; first | done | omega) | omega) ?_ | refine k_ifF (by first | (simp (disch := omega) only [w32_id]; first | done | omega) | omega) ?_ | refine k_pf (by first | assumption | omega) (by (try simp (disch := omega) only [sr_s, sr_a, sr_sr, u1_u1, p5]); exact rfl) ?_ | refine k_ast (by first | assumption | omega) (by first | assumption | exact rfl) (by omega) (by omega) (by omega) (by (try simp (disch := omega) only [sr_s, sr_a, sr_sr, u1_u1, p5]); exact rfl) ?_ | refine k_irm (by omega) (by omega) (by omega) (by omega) ?_ | refine k_idv (by omega) (by omega) (by omega) (by omega) ?_ | refine k_tk (by first | assumption | omega) ?_ | refine k_rp (by omega) ?_ | refine k_aldR (by first | assumption | omega) (by first | assumption | exact rfl) (by omega) (by omega) (by omega) (by first | assumption | ((try simp (disch := omega) only [sr_s, sr_a, sr_sr, u1_s, u1_k, p5]); exact rfl)) (by omega) ?_ | refine k_astR (by first | assumption | omega) (by first | assumption | exact rfl) (by omega) (by omega) (by omega) (by first | assumption | omega) (by (try simp (disch := omega) only [sr_s, sr_a, sr_sr, u1_u1, p5]); exact rfl) ?_ | refine k_pz (by first | assumption | omega) (by omega) (by (try simp (disch := omega) only [sr_s, sr_a, sr_sr, u1_u1, p5]); exact rfl) ?_ | refine k_alen (by first | assumption | omega) (by first | assumption | exact rfl) ?_ | refine k_cpy (by first | assumption | omega) (by first | assumption | omega) (by first | assumption | exact rfl) (by first | assumption | exact rfl) (by omega) (by omega) (by omega) (by omega) (by omega) (by omega) (by omega) (by omega) (by (try simp (disch := omega) only [sr_s, sr_a, sr_sr, u1_u1, p5]); exact rfl) ?_ | refine k_if (by (try simp (disch := omega) only [w32_id]); exact Iff.rfl) (fun c => ?_) (fun c => ?_))
          refine Ok.ret ?_
          simp only [Sum.inl.injEq, Prod.mk.injEq, and_true, true_and]
          refine ⟨?_, by omega⟩
          have hfu := fl1_u (g := M 125) (V := fun k => i2b (i2b (ishr (slV a b c d e k) (24 - 8 * (k % 4))))) (i := M 0 1) (n := (i : Int)) (by omega)
          funext w
          by_cases y0 : w = 124
          · subst y0
            simp (disch := first | assumption | omega) only [sr_s, sr_a, sr_sr]
            rw [show M 0 1 + ((i + 1 : Nat) : Int) = M 0 1 + i + 1 by omega]
          · by_cases y1 : w = 125
            · subst y1
              simp (disch := first | assumption | omega) only [sr_s, sr_a, sr_sr]
              rw [hfu]
              rfl
            · simp (disch := first | assumption | omega) only [sr_s, sr_a, sr_sr]
        refine Ok.eq ?_
        unfold M_X11_feed_b23
        dsimp only
        unfold slV at hp76
        by_cases y1 : (i : Int) < 4
        · repeat' (with_reducible first | refine k_gf (by first | assumption | omega) (by first | assumption | ((try simp (disch := omega) only [sr_s, sr_a, sr_sr, u1_s, u1_k]); exact rfl)) ?_ | refine k_gr (by first | assumption | omega) (by first | assumption | ((try simp (disch := omega) only [sr_s, sr_a, sr_sr, u1_s, u1_k]); exact rfl)) (by omega) ?_ | refine k_ald (by first | assumption | omega) (by first | assumption | exact rfl) (by omega) (by omega) (by omega) (by first | assumption | ((try simp (disch := omega) only [sr_s, sr_a, sr_sr, u1_s, u1_k]); exact rfl)) ?_ | refine k_ifT (by first | (simp (disch := omega) only [w32_id]; first | done | omega) | omega) ?_ | refine k_ifF (by first | (simp (disch := omega) only [w32_id]; first | done | omega) | omega) ?_ | refine k_pf (by first | assumption | omega) (by (try simp (disch := omega) only [sr_s, sr_a, sr_sr, u1_u1]); exact rfl) ?_ | refine k_ast (by first | assumption | omega) (by first | assumption | exact rfl) (by omega) (by omega) (by omega) (by (try simp (disch := omega) only [sr_s, sr_a, sr_sr, u1_u1]); exact rfl) ?_ | refine k_irm (by omega) (by omega) (by omega) (by omega) ?_ | refine k_idv (by omega) (by omega) (by omega) (by omega) ?_ | refine k_tk (by first | assumption | omega) ?_ | refine k_rp (by omega) ?_ | refine k_aldR (by first | assumption | omega) (by first | assumption | exact rfl) (by omega) (by omega) (by omega) (by first | assumption | ((try simp (disch := omega) only [sr_s, sr_a, sr_sr, u1_s, u1_k]); exact rfl)) (by omega) ?_ | refine k_astR (by first | assumption | omega) (by first | assumption | exact rfl) (by omega) (by omega) (by omega) (by first | assumption | omega) (by (try simp (disch := omega) only [sr_s, sr_a, sr_sr, u1_u1]); exact rfl) ?_ | refine k_pz (by first | assumption | omega) (by omega) (by (try simp (disch := omega) only [sr_s, sr_a, sr_sr, u1_u1]); exact rfl) ?_ | refine k_alen (by first | assumption | omega) (by first | assumption | exact rfl) ?_ | refine k_cpy (by first | assumption | omega) (by first | assumption | omega) (by first | assumption | exact rfl) (by first | assumption | exact rfl) (by omega) (by omega) (by omega) (by omega) (by omega) (by omega) (by omega) (by omega) (by (try simp (disch := omega) only [sr_s, sr_a, sr_sr, u1_u1]); exact rfl) ?_ | refine k_if (by (try simp (disch := omega) only [w32_id]); exact Iff.rfl) (fun c => ?_) (fun c => ?_))
          exact hp76 a (by rw [if_pos y1])
        by_cases y2 : (i : Int) < 8
        · repeat' (with_reducible first | refine k_gf (by first | assumption | omega) (by first | assumption | ((try simp (disch := omega) only [sr_s, sr_a, sr_sr, u1_s, u1_k]); exact rfl)) ?_ | refine k_gr (by first | assumption | omega) (by first | assumption | ((try simp (disch := omega) only [sr_s, sr_a, sr_sr, u1_s, u1_k]); exact rfl)) (by omega) ?_ | refine k_ald (by first | assumption | omega) (by first | assumption | exact rfl) (by omega) (by omega) (by omega) (by first | assumption | ((try simp (disch := omega) only [sr_s, sr_a, sr_sr, u1_s, u1_k]); exact rfl)) ?_ | refine k_ifT (by first | (simp (disch := omega) only [w32_id]; first | done | omega) | omega) ?_ | refine k_ifF (by first | (simp (disch := omega) only [w32_id]; first | done | omega) | omega) ?_ | refine k_pf (by first | assumption | omega) (by (try simp (disch := omega) only [sr_s, sr_a, sr_sr, u1_u1]); exact rfl) ?_ | refine k_ast (by first | assumption | omega) (by first | assumption | exact rfl) (by omega) (by omega) (by omega) (by (try simp (disch := omega) only [sr_s, sr_a, sr_sr, u1_u1]); exact rfl) ?_ | refine k_irm (by omega) (by omega) (by omega) (by omega) ?_ | refine k_idv (by omega) (by omega) (by omega) (by omega) ?_ | refine k_tk (by first | assumption | omega) ?_ | refine k_rp (by omega) ?_ | refine k_aldR (by first | assumption | omega) (by first | assumption | exact rfl) (by omega) (by omega) (by omega) (by first | assumption | ((try simp (disch := omega) only [sr_s, sr_a, sr_sr, u1_s, u1_k]); exact rfl)) (by omega) ?_ | refine k_astR (by first | assumption | omega) (by first | assumption | exact rfl) (by omega) (by omega) (by omega) (by first | assumption | omega) (by (try simp (disch := omega) only [sr_s, sr_a, sr_sr, u1_u1]); exact rfl) ?_ | refine k_pz (by first | assumption | omega) (by omega) (by (try simp (disch := omega) only [sr_s, sr_a, sr_sr, u1_u1]); exact rfl) ?_ | refine k_alen (by first | assumption | omega) (by first | assumption | exact rfl) ?_ | refine k_cpy (by first | assumption | omega) (by first | assumption | omega) (by first | assumption | exact rfl) (by first | assumption | exact rfl) (by omega) (by omega) (by omega) (by omega) (by omega) (by omega) (by omega) (by omega) (by (try simp (disch := omega) only [sr_s, sr_a, sr_sr, u1_u1]); exact rfl) ?_ | refine k_if (by (try simp (disch := omega) only [w32_id]); exact Iff.rfl) (fun c => ?_) (fun c => ?_))
          exact hp76 b (by rw [if_neg y1, if_pos y2])
        by_cases y3 : (i : Int) < 12
        · repeat' (with_reducible first | refine k_gf (by first | assumption | omega) (by first | assumption | ((try simp (disch := omega) only [sr_s, sr_a, sr_sr, u1_s, u1_k]); exact rfl)) ?_ | refine k_gr (by first | assumption | omega) (by first | assumption | ((try simp (disch := omega) only [sr_s, sr_a, sr_sr, u1_s, u1_k]); exact rfl)) (by omega) ?_ | refine k_ald (by first | assumption | omega) (by first | assumption | exact rfl) (by omega) (by omega) (by omega) (by first | assumption | ((try simp (disch := omega) only [sr_s, sr_a, sr_sr, u1_s, u1_k]); exact rfl)) ?_ | refine k_ifT (by first | (simp (disch := omega) only [w32_id]; first | done | omega) | omega) ?_ | refine k_ifF (by first | (simp (disch := omega) only [w32_id]; first | done | omega) | omega) ?_ | refine k_pf (by first | assumption | omega) (by (try simp (disch := omega) only [sr_s, sr_a, sr_sr, u1_u1]); exact rfl) ?_ | refine k_ast (by first | assumption | omega) (by first | assumption | exact rfl) (by omega) (by omega) (by omega) (by (try simp (disch := omega) only [sr_s, sr_a, sr_sr, u1_u1]); exact rfl) ?_ | refine k_irm (by omega) (by omega) (by omega) (by omega) ?_ | refine k_idv (by omega) (by omega) (by omega) (by omega) ?_ | refine k_tk (by first | assumption | omega) ?_ | refine k_rp (by omega) ?_ | refine k_aldR (by first | assumption | omega) (by first | assumption | exact rfl) (by omega) (by omega) (by omega) (by first | assumption | ((try simp (disch := omega) only [sr_s, sr_a, sr_sr, u1_s, u1_k]); exact rfl)) (by omega) ?_ | refine k_astR (by first | assumption | omega) (by first | assumption | exact rfl) (by omega) (by omega) (by omega) (by first | assumption | omega) (by (try simp (disch := omega) only [sr_s, sr_a, sr_sr, u1_u1]); exact rfl) ?_ | refine k_pz (by first | assumption | omega) (by omega) (by (try simp (disch := omega) only [sr_s, sr_a, sr_sr, u1_u1]); exact rfl) ?_ | refine k_alen (by first | assumption | omega) (by first | assumption | exact rfl) ?_ | refine k_cpy (by first | assumption | omega) (by first | assumption | omega) (by first | assumption | exact rfl) (by first | assumption | exact rfl) (by omega) (by omega) (by omega) (by omega) (by omega) (by omega) (by omega) (by omega) (by (try simp (disch := omega) only [sr_s, sr_a, sr_sr, u1_u1]); exact rfl) ?_ | refine k_if (by (try simp (disch := omega) only [w32_id]); exact Iff.rfl) (fun c => ?_) (fun c => ?_))
          exact hp76 c (by rw [if_neg y1, if_neg y2, if_pos y3])
        by_cases y4 : (i : Int) < 16
        · repeat' (with_reducible first | refine k_gf (by first | assumption | omega) (by first | assumption | ((try simp (disch := omega) only [sr_s, sr_a, sr_sr, u1_s, u1_k]); exact rfl)) ?_ | refine k_gr (by first | assumption | omega) (by first | assumption | ((try simp (disch := omega) only [sr_s, sr_a, sr_sr, u1_s, u1_k]); exact rfl)) (by omega) ?_ | refine k_ald (by first | assumption | omega) (by first | assumption | exact rfl) (by omega) (by omega) (by omega) (by first | assumption | ((try simp (disch := omega) only [sr_s, sr_a, sr_sr, u1_s, u1_k]); exact rfl)) ?_ | refine k_ifT (by first | (simp (disch := omega) only [w32_id]; first | done | omega) | omega) ?_ | refine k_ifF (by first | (simp (disch := omega) only [w32_id]; first | done | omega) | omega) ?_ | refine k_pf (by first | assumption | omega) (by (try simp (disch := omega) only [sr_s, sr_a, sr_sr, u1_u1]); exact rfl) ?_ | refine k_ast (by first | assumption | omega) (by first | assumption | exact rfl) (by omega) (by omega) (by omega) (by (try simp (disch := omega) only [sr_s, sr_a, sr_sr, u1_u1]); exact rfl) ?_ | refine k_irm (by omega) (by omega) (by omega) (by omega) ?_ | refine k_idv (by omega) (by omega) (by omega) (by omega) ?_ | refine k_tk (by first | assumption | omega) ?_ | refine k_rp (by omega) ?_ | refine k_aldR (by first | assumption | omega) (by first | assumption | exact rfl) (by omega) (by omega) (by omega) (by first | assumption | ((try simp (disch := omega) only [sr_s, sr_a, sr_sr, u1_s, u1_k]); exact rfl)) (by omega) ?_ | refine k_astR (by first | assumption | omega) (by first | assumption | exact rfl) (by omega) (by omega) (by omega) (by first | assumption | omega) (by (try simp (disch := omega) only [sr_s, sr_a, sr_sr, u1_u1]); exact rfl) ?_ | refine k_pz (by first | assumption | omega) (by omega) (by (try simp (disch := omega) only [sr_s, sr_a, sr_sr, u1_u1]); exact rfl) ?_ | refine k_alen (by first | assumption | omega) (by first | assumption | exact rfl) ?_ | refine k_cpy (by first | assumption | omega) (by first | assumption | omega) (by first | assumption | exact rfl) (by first | assumption | exact rfl) (by omega) (by omega) (by omega) (by omega) (by omega) (by omega) (by omega) (by omega) (by (try simp (disch := omega) only [sr_s, sr_a, sr_sr, u1_u1]); exact rfl) ?_ | refine k_if (by (try simp (disch := omega) only [w32_id]); exact Iff.rfl) (fun c => ?_) (fun c => ?_))
          exact hp76 d (by rw [if_neg y1, if_neg y2, if_neg y3, if_pos y4])
        · repeat' (with_reducible first | refine k_gf (by first | assumption | omega) (by first | assumption | ((try simp (disch := omega) only [sr_s, sr_a, sr_sr, u1_s, u1_k]); exact rfl)) ?_ | refine k_gr (by first | assumption | omega) (by first | assumption | ((try simp (disch := omega) only [sr_s, sr_a, sr_sr, u1_s, u1_k]); exact rfl)) (by omega) ?_ | refine k_ald (by first | assumption | omega) (by first | assumption | exact rfl) (by omega) (by omega) (by omega) (by first | assumption | ((try simp (disch := omega) only [sr_s, sr_a, sr_sr, u1_s, u1_k]); exact rfl)) ?_ | refine k_ifT (by first | (simp (disch := omega) only [w32_id]; first | done | omega) | omega) ?_ | refine k_ifF (by first | (simp (disch := omega) only [w32_id]; first | done | omega) | omega) ?_ | refine k_pf (by first | assumption | omega) (by (try simp (disch := omega) only [sr_s, sr_a, sr_sr, u1_u1]); exact rfl) ?_ | refine k_ast (by first | assumption | omega) (by first | assumption | exact rfl) (by omega) (by omega) (by omega) (by (try simp (disch := omega) only [sr_s, sr_a, sr_sr, u1_u1]); exact rfl) ?_ | refine k_irm (by omega) (by omega) (by omega) (by omega) ?_ | refine k_idv (by omega) (by omega) (by omega) (by omega) ?_ | refine k_tk (by first | assumption | omega) ?_ | refine k_rp (by omega) ?_ | refine k_aldR (by first | assumption | omega) (by first | assumption | exact rfl) (by omega) (by omega) (by omega) (by first | assumption | ((try simp (disch := omega) only [sr_s, sr_a, sr_sr, u1_s, u1_k]); exact rfl)) (by omega) ?_ | refine k_astR (by first | assumption | omega) (by first | assumption | exact rfl) (by omega) (by omega) (by omega) (by first | assumption | omega) (by (try simp (disch := omega) only [sr_s, sr_a, sr_sr, u1_u1]); exact rfl) ?_ | refine k_pz (by first | assumption | omega) (by omega) (by (try simp (disch := omega) only [sr_s, sr_a, sr_sr, u1_u1]); exact rfl) ?_ | refine k_alen (by first | assumption | omega) (by first | assumption | exact rfl) ?_ | refine k_cpy (by first | assumption | omega) (by first | assumption | omega) (by first | assumption | exact rfl) (by first | assumption | exact rfl) (by omega) (by omega) (by omega) (by omega) (by omega) (by omega) (by omega) (by omega) (by (try simp (disch := omega) only [sr_s, sr_a, sr_sr, u1_u1]); exact rfl) ?_ | refine k_if (by (try simp (disch := omega) only [w32_id]); exact Iff.rfl) (fun c => ?_) (fun c => ?_))
          exact hp76 e (by rw [if_neg y1, if_neg y2, if_neg y3, if_neg y4])
      · refine Ok.eq ?_
        unfold M_X11_feed_b23
        dsimp only
        repeat' (with_reducible first | refine k_gf (by first | assumption | omega) (by first | assumption | ((try simp (disch := omega) only [sr_s, sr_a, sr_sr, u1_s, u1_k]); exact rfl)) ?_ | refine k_gr (by first | assumption | omega) (by first | assumption | ((try simp (disch := omega) only [sr_s, sr_a, sr_sr, u1_s, u1_k]); exact rfl)) (by omega) ?_ | refine k_ald (by first | assumption | omega) (by first | assumption | exact rfl) (by omega) (by omega) (by omega) (by first | assumption | ((try simp (disch := omega) only [sr_s, sr_a, sr_sr, u1_s, u1_k]); exact rfl)) ?_ | refine k_ifT (by first | (simp (disch := omega) only [w32_id]; first | done | omega) | omega) ?_ | refine k_ifF (by first | (simp (disch := omega) only [w32_id]; first | done | omega) | omega) ?_ | refine k_pf (by first | assumption | omega) (by (try simp (disch := omega) only [sr_s, sr_a, sr_sr, u1_u1]); exact rfl) ?_ | refine k_ast (by first | assumption | omega) (by first | assumption | exact rfl) (by omega) (by omega) (by omega) (by (try simp (disch := omega) only [sr_s, sr_a, sr_sr, u1_u1]); exact rfl) ?_ | refine k_irm (by omega) (by omega) (by omega) (by omega) ?_ | refine k_idv (by omega) (by omega) (by omega) (by omega) ?_ | refine k_tk (by first | assumption | omega) ?_ | refine k_rp (by omega) ?_ | refine k_aldR (by first | assumption | omega) (by first | assumption | exact rfl) (by omega) (by omega) (by omega) (by first | assumption | ((try simp (disch := omega) only [sr_s, sr_a, sr_sr, u1_s, u1_k]); exact rfl)) (by omega) ?_ | refine k_astR (by first | assumption | omega) (by first | assumption | exact rfl) (by omega) (by omega) (by omega) (by first | assumption | omega) (by (try simp (disch := omega) only [sr_s, sr_a, sr_sr, u1_u1]); exact rfl) ?_ | refine k_pz (by first | assumption | omega) (by omega) (by (try simp (disch := omega) only [sr_s, sr_a, sr_sr, u1_u1]); exact rfl) ?_ | refine k_alen (by first | assumption | omega) (by first | assumption | exact rfl) ?_ | refine k_cpy (by first | assumption | omega) (by first | assumption | omega) (by first | assumption | exact rfl) (by first | assumption | exact rfl) (by omega) (by omega) (by omega) (by omega) (by omega) (by omega) (by omega) (by omega) (by (try simp (disch := omega) only [sr_s, sr_a, sr_sr, u1_u1]); exact rfl) ?_ | refine k_if (by (try simp (disch := omega) only [w32_id]); exact Iff.rfl) (fun c => ?_) (fun c => ?_))
        exact Ok.ret rfl
      · repeat' (with_reducible first | refine k_gf (by first | assumption | omega) (by first | assumption | ((try simp (disch := omega) only [sr_s, sr_a, sr_sr, u1_s, u1_k]); exact rfl)) ?_ | refine k_gr (by first | assumption | omega) (by first | assumption | ((try simp (disch := omega) only [sr_s, sr_a, sr_sr, u1_s, u1_k]); exact rfl)) (by omega) ?_ | refine k_ald (by first | assumption | omega) (by first | assumption | exact rfl) (by omega) (by omega) (by omega) (by first | assumption | ((try simp (disch := omega) only [sr_s, sr_a, sr_sr, u1_s, u1_k]); exact rfl)) ?_ | refine k_ifT (by first | (simp (disch := omega) only [w32_id]; first | done | omega) | omega) ?_ | refine k_ifF (by first | (simp (disch := omega) only [w32_id]; first | done | omega) | omega) ?_ | refine k_pf (by first | assumption | omega) (by (try simp (disch := omega) only [sr_s, sr_a, sr_sr, u1_u1]); exact rfl) ?_ | refine k_ast (by first | assumption | omega) (by first | assumption | exact rfl) (by omega) (by omega) (by omega) (by (try simp (disch := omega) only [sr_s, sr_a, sr_sr, u1_u1]); exact rfl) ?_ | refine k_irm (by omega) (by omega) (by omega) (by omega) ?_ | refine k_idv (by omega) (by omega) (by omega) (by omega) ?_ | refine k_tk (by first | assumption | omega) ?_ | refine k_rp (by omega) ?_ | refine k_aldR (by first | assumption | omega) (by first | assumption | exact rfl) (by omega) (by omega) (by omega) (by first | assumption | ((try simp (disch := omega) only [sr_s, sr_a, sr_sr, u1_s, u1_k]); exact rfl)) (by omega) ?_ | refine k_astR (by first | assumption | omega) (by first | assumption | exact rfl) (by omega) (by omega) (by omega) (by first | assumption | omega) (by (try simp (disch := omega) only [sr_s, sr_a, sr_sr, u1_u1]); exact rfl) ?_ | refine k_pz (by first | assumption | omega) (by omega) (by (try simp (disch := omega) only [sr_s, sr_a, sr_sr, u1_u1]); exact rfl) ?_ | refine k_alen (by first | assumption | omega) (by first | assumption | exact rfl) ?_ | refine k_cpy (by first | assumption | omega) (by first | assumption | omega) (by first | assumption | exact rfl) (by first | assumption | exact rfl) (by omega) (by omega) (by omega) (by omega) (by omega) (by omega) (by omega) (by omega) (by (try simp (disch := omega) only [sr_s, sr_a, sr_sr, u1_u1]); exact rfl) ?_ | refine k_if (by (try simp (disch := omega) only [w32_id]); exact Iff.rfl) (fun c => ?_) (fun c => ?_))
        exact Ok.ret rfl
    refine ⟨_, _, M 0 1 + 20, hcl, hrf, ?_⟩
    dsimp only
    have gN : ∀ w, w ≠ 124 → w ≠ 125 → sr (sr (thM A5) 125 (fl1 (M 125) (fun k => i2b (i2b (ishr (slV a b c d e k) (24 - 8 * (k % 4))))) (M 0 1) 20)) 124 (u1 (thM A5 124) 6 (M 0 1 + 20)) w = A5 w := fun w y z => by rw [sr_a _ _ y, sr_a _ _ z, hN w y]
    have g5 : sr (sr (thM A5) 125 (fl1 (M 125) (fun k => i2b (i2b (ishr (slV a b c d e k) (24 - 8 * (k % 4))))) (M 0 1) 20)) 124 (u1 (thM A5 124) 6 (M 0 1 + 20)) 125 = fl1 (M 125) (fun k => i2b (i2b (ishr (slV a b c d e k) (24 - 8 * (k % 4))))) (M 0 1) 20 := by rw [sr_a _ _ (by omega), sr_s]
    have g4 : ∀ j, j ≠ 0 → j ≠ 6 → sr (sr (thM A5) 125 (fl1 (M 125) (fun k => i2b (i2b (ishr (slV a b c d e k) (24 - 8 * (k % 4))))) (M 0 1) 20)) 124 (u1 (thM A5 124) 6 (M 0 1 + 20)) 124 j = M 124 j := fun j y z => by rw [sr_s, u1_k _ _ z]; exact hN4 j y
    have g46 : sr (sr (thM A5) 125 (fl1 (M 125) (fun k => i2b (i2b (ishr (slV a b c d e k) (24 - 8 * (k % 4))))) (M 0 1) 20)) 124 (u1 (thM A5 124) 6 (M 0 1 + 20)) 124 6 = M 0 1 + 20 := by rw [sr_s, u1_s]
    generalize sr (sr (thM A5) 125 (fl1 (M 125) (fun k => i2b (i2b (ishr (slV a b c d e k) (24 - 8 * (k % 4))))) (M 0 1) 20)) 124 (u1 (thM A5 124) 6 (M 0 1 + 20)) = M2 at *
    have st : ∀ w, w ≠ 0 → w ≠ 1 → w ≠ 124 → w ≠ 125 → M2 w = M w := fun w y0 y1 y2 y3 => by rw [gN w y2 y3, fA w y0 y1]
    have st0 : ∀ k, k ≠ 1 → M2 0 k = M 0 k := fun k y => by rw [gN 0 (by omega) (by omega)]; exact f0 k y
    obtain ⟨⟨s1, s2, s3, s4, s5, s6, s7, s8, s9, s10, s11, s12, s13, s14, s15⟩, s16, s17, s18, s19, s20⟩ := h0
    refine ⟨?_, td, r, ⟨s1, pr0.u s2 (fun k hk => st0 k (by omega)), s3, by rw [st0 2 (by omega)]; exact s4, by rw [st0 3 (by omega)]; exact s5, ?_, ?_, ?_, ?_, ?_, ?_, ?_, ?_, ?_, ?_⟩, ?_, ⟨pr124.u s17.1 (fun k hk => g4 k (by omega) (by omega)), by rw [st 129 (by omega) (by omega) (by omega) (by omega)]; exact s17.2⟩, ?_, ?_, ?_⟩
    · unfold cTr at *; rw [st0 14 (by omega), st0 16 (by omega), g4 1 (by omega) (by omega), g4 2 (by omega) (by omega)]; exact htr
    · unfold shR at *; simp (disch := omega) only [st]; exact s6
    · unfold shR at *; simp (disch := omega) only [st]; exact s7
    · unfold shW mW zoW at *; simp (disch := omega) only [st]; exact s8
    · unfold shW mW zoW at *; simp (disch := omega) only [st]; exact s9
    · unfold shW mW zoW at *; simp (disch := omega) only [st]; exact s10
    · intro w w0 w1 w2
      have := s11 w w0 w1 w2
      unfold shW mW zoW at *; simp (disch := omega) only [st]; exact this
    · simp (disch := omega) only [st]; exact s12
    · simp (disch := omega) only [st]; exact s13
    · unfold rot at *; simp (disch := omega) only [st]; exact s14
    · simp (disch := omega) only [st]; exact s15
    · unfold cSc shW mW zoW chI at *; simp (disch := omega) only [st]; exact s16
    · unfold cTp
      rw [gN 0 (by omega) (by omega), f01, gN 1 (by omega) (by omega), g5, g46]
      refine ⟨rfl, by omega, by omega, fun i i0 i1 => ?_⟩
      unfold fl1
      by_cases y : i < M 0 1
      · rw [if_neg (by omega), fl i y]; exact t4 i i0 y
      · rw [if_pos (by omega), show A5 1 i = A5 1 (M 0 1 + (i - M 0 1)) by congr 1; omega, fn (i - M 0 1) (by omega) (by omega)]
        unfold byV
        have hb := iand255_b (iushr (slV a b c d e (i - M 0 1)) (24 - 8 * ((i - M 0 1) % 4)))
        exact ⟨hb.1, hb.2, byte_ok (by omega)⟩
    · rw [g4 13 (by omega) (by omega), st0 15 (by omega)]; exact s19
    · rcases s20 with hn | ⟨rg, hR⟩
      · left
        unfold noR at *
        rw [g4 3 (by omega) (by omega), g4 20 (by omega) (by omega), g4 21 (by omega) (by omega)]
        simp (disch := omega) only [st]
        exact hn
      · have hrg := hR.2.1.1
        exact Or.inr ⟨rg, isR.cg2 (fun w hw => st w (by omega) (by omega) (by omega) (by omega)) (g4 3 (by omega) (by omega)) (g4 20 (by omega) (by omega)) (g4 21 (by omega) (by omega)) s3 s14 hR⟩
  · have hcl : M_X9_feed (M, G) 0 a b c d e = some ((M, G), -1) := by
      refine Ok.eq ?_
      unfold M_X9_feed
      repeat' (with_reducible first | refine k_gf (by first | assumption | omega) (by first | assumption | ((try simp (disch := omega) only [sr_s, sr_a, sr_sr, u1_s, u1_k]); exact rfl)) ?_ | refine k_gr (by first | assumption | omega) (by first | assumption | ((try simp (disch := omega) only [sr_s, sr_a, sr_sr, u1_s, u1_k]); exact rfl)) (by omega) ?_ | refine k_ald (by first | assumption | omega) (by first | assumption | exact rfl) (by omega) (by omega) (by omega) (by first | assumption | ((try simp (disch := omega) only [sr_s, sr_a, sr_sr, u1_s, u1_k]); exact rfl)) ?_ | refine k_ifT (by first | (simp (disch := omega) only [w32_id]; first | done | omega) | omega) ?_ | refine k_ifF (by first | (simp (disch := omega) only [w32_id]; first | done | omega) | omega) ?_ | refine k_pf (by first | assumption | omega) (by (try simp (disch := omega) only [sr_s, sr_a, sr_sr, u1_u1]); exact rfl) ?_ | refine k_ast (by first | assumption | omega) (by first | assumption | exact rfl) (by omega) (by omega) (by omega) (by (try simp (disch := omega) only [sr_s, sr_a, sr_sr, u1_u1]); exact rfl) ?_ | refine k_irm (by omega) (by omega) (by omega) (by omega) ?_ | refine k_idv (by omega) (by omega) (by omega) (by omega) ?_ | refine k_tk (by first | assumption | omega) ?_ | refine k_rp (by omega) ?_ | refine k_aldR (by first | assumption | omega) (by first | assumption | exact rfl) (by omega) (by omega) (by omega) (by first | assumption | ((try simp (disch := omega) only [sr_s, sr_a, sr_sr, u1_s, u1_k]); exact rfl)) (by omega) ?_ | refine k_astR (by first | assumption | omega) (by first | assumption | exact rfl) (by omega) (by omega) (by omega) (by first | assumption | omega) (by (try simp (disch := omega) only [sr_s, sr_a, sr_sr, u1_u1]); exact rfl) ?_ | refine k_pz (by first | assumption | omega) (by omega) (by (try simp (disch := omega) only [sr_s, sr_a, sr_sr, u1_u1]); exact rfl) ?_ | refine k_alen (by first | assumption | omega) (by first | assumption | exact rfl) ?_ | refine k_cpy (by first | assumption | omega) (by first | assumption | omega) (by first | assumption | exact rfl) (by first | assumption | exact rfl) (by omega) (by omega) (by omega) (by omega) (by omega) (by omega) (by omega) (by omega) (by (try simp (disch := omega) only [sr_s, sr_a, sr_sr, u1_u1]); exact rfl) ?_ | refine k_if (by (try simp (disch := omega) only [w32_id]); exact Iff.rfl) (fun c => ?_) (fun c => ?_))
      exact Ok.ret rfl
    have hrf : M_X11_feed (M, G) 124 a b c d e = some ((thM M, G), -1) := by
      refine Ok.eq ?_
      unfold M_X11_feed
      refine k_tk k124 (k_pf k124 (M' := thM M) rfl ?_)
      have n6 : thM M 124 6 = M 0 1 := by rw [thM_k (by omega)]; exact t1
      repeat' (with_reducible first | refine k_gf (by first | assumption | omega) (by first | assumption | ((try simp (disch := omega) only [sr_s, sr_a, sr_sr, u1_s, u1_k, n6]); exact rfl)) ?_ | refine k_gr (by first | assumption | omega) (by first | assumption | ((try simp (disch := omega) only [sr_s, sr_a, sr_sr, u1_s, u1_k, n6]); exact rfl)) (by omega) ?_ | refine k_ald (by first | assumption | omega) (by first | assumption | exact rfl) (by omega) (by omega) (by omega) (by first | assumption | ((try simp (disch := omega) only [sr_s, sr_a, sr_sr, u1_s, u1_k, n6]); exact rfl)) ?_ | refine k_ifT (by first | (simp (disch := omega) only [w32_id]; first | done | omega) | omega) ?_ | refine k_ifF (by first | (simp (disch := omega) only [w32_id]; first | done | omega) | omega) ?_ | refine k_pf (by first | assumption | omega) (by (try simp (disch := omega) only [sr_s, sr_a, sr_sr, u1_u1, n6]); exact rfl) ?_ | refine k_ast (by first | assumption | omega) (by first | assumption | exact rfl) (by omega) (by omega) (by omega) (by (try simp (disch := omega) only [sr_s, sr_a, sr_sr, u1_u1, n6]); exact rfl) ?_ | refine k_irm (by omega) (by omega) (by omega) (by omega) ?_ | refine k_idv (by omega) (by omega) (by omega) (by omega) ?_ | refine k_tk (by first | assumption | omega) ?_ | refine k_rp (by omega) ?_ | refine k_aldR (by first | assumption | omega) (by first | assumption | exact rfl) (by omega) (by omega) (by omega) (by first | assumption | ((try simp (disch := omega) only [sr_s, sr_a, sr_sr, u1_s, u1_k, n6]); exact rfl)) (by omega) ?_ | refine k_astR (by first | assumption | omega) (by first | assumption | exact rfl) (by omega) (by omega) (by omega) (by first | assumption | omega) (by (try simp (disch := omega) only [sr_s, sr_a, sr_sr, u1_u1, n6]); exact rfl) ?_ | refine k_pz (by first | assumption | omega) (by omega) (by (try simp (disch := omega) only [sr_s, sr_a, sr_sr, u1_u1, n6]); exact rfl) ?_ | refine k_alen (by first | assumption | omega) (by first | assumption | exact rfl) ?_ | refine k_cpy (by first | assumption | omega) (by first | assumption | omega) (by first | assumption | exact rfl) (by first | assumption | exact rfl) (by omega) (by omega) (by omega) (by omega) (by omega) (by omega) (by omega) (by omega) (by (try simp (disch := omega) only [sr_s, sr_a, sr_sr, u1_u1, n6]); exact rfl) ?_ | refine k_if (by (try simp (disch := omega) only [w32_id]); exact Iff.rfl) (fun c => ?_) (fun c => ?_))
      exact Ok.ret rfl
    exact ⟨_, _, -1, hcl, hrf, th_tr ⟨htr, td, r, h0⟩ h0⟩
end FD
