/-! the letters of a word as marks -/
theorem lsh5 {w : Int} (w0 : 0 ≤ w) (w1 : w < 1099511627776) {s : Nat} (hs : s < 8) : land (lshr w (5 * (s : Int))) 31 = w / 32 ^ s % 32 := by
  obtain ⟨n, rfl⟩ : ∃ n : Nat, w = (n : Int) := ⟨w.toNat, by omega⟩
  have hsh : ∀ s : Nat, s < 8 → (((Int32.ofInt (5 * (s : Int))).toInt64 &&& 63).toBitVec.smod 64#64).toNat = 5 * s := by decide
  have hn : (Int64.ofInt (n : Int)).toBitVec.toNat = n := by
    show (BitVec.ofInt 64 (n : Int)).toNat = n
    rw [BitVec.toNat_ofInt]
    omega
  have hm : (Int64.ofInt (n : Int)).toBitVec.msb = false := by
    rw [BitVec.msb_eq_false_iff_two_mul_lt, hn]
    omega
  have h31 : (Int64.ofInt 31).toBitVec.toNat = 2 ^ 5 - 1 := by decide
  have hx : (Int64.ofInt (n : Int) >>> ((Int32.ofInt (5 * (s : Int))).toInt64 &&& 63) &&& Int64.ofInt 31).toBitVec.toNat = n / 2 ^ (5 * s) % 2 ^ 5 := by
    rw [Int64.toBitVec_and, BitVec.toNat_and, h31, Nat.and_two_pow_sub_one_eq_mod, Int64.toBitVec_shiftRight]
    show ((Int64.ofInt (n : Int)).toBitVec.sshiftRight (((Int32.ofInt (5 * (s : Int))).toInt64 &&& 63).toBitVec.smod 64#64).toNat).toNat % 2 ^ 5 = _
    rw [hsh s hs, BitVec.sshiftRight_eq_of_msb_false hm, BitVec.toNat_ushiftRight, hn, Nat.shiftRight_eq_div_pow]
  unfold land lshr
  rw [Int64.ofInt_toInt]
  show (Int64.ofInt (n : Int) >>> ((Int32.ofInt (5 * (s : Int))).toInt64 &&& 63) &&& Int64.ofInt 31).toBitVec.toInt = _
  rw [BitVec.toInt_eq_toNat_of_lt (by rw [hx]; have := Nat.mod_lt (n / 2 ^ (5 * s)) (show 0 < 2 ^ 5 by decide); omega), hx]
  have hc : s = 0 ∨ s = 1 ∨ s = 2 ∨ s = 3 ∨ s = 4 ∨ s = 5 ∨ s = 6 ∨ s = 7 := by omega
  rcases hc with rfl | rfl | rfl | rfl | rfl | rfl | rfl | rfl <;> simp only [Nat.reduceMul, Nat.reducePow, Int.reducePow] <;> omega
theorem wdV_sh {f : Int → Int} {A : Int} {i : Nat} : ∀ m : Nat, (∀ j, A ≤ j → j < A + i + m → 97 ≤ f j ∧ f j ≤ 122) → ∃ b, wdV f A (i + m) = 32 ^ m * wdV f A i + b ∧ 0 ≤ b ∧ b < 32 ^ m
  | 0, _ => ⟨0, by show wdV f A i = 32 ^ 0 * wdV f A i + 0; rw [Int.pow_zero]; omega, by omega, by decide⟩
  | m + 1, h => by
    obtain ⟨b, e, b0, b1⟩ := wdV_sh (f := f) (A := A) (i := i) m (fun j j0 j1 => h j j0 (by omega))
    have hd := h (A + ((i + m : Nat) : Int)) (by omega) (by omega)
    refine ⟨32 * b + (f (A + ((i + m : Nat) : Int)) - 96), ?_, by omega, ?_⟩
    · show 32 * wdV f A (i + m) + (f (A + ((i + m : Nat) : Int)) - 96) = _
      rw [e, Int.pow_succ, Int.mul_comm (32 ^ m) 32, Int.mul_assoc]
      omega
    · rw [Int.pow_succ]; omega
theorem wdV_at {f : Int → Int} {A : Int} {n : Nat} (j : Nat) (hj : j < n) (h : ∀ p, A ≤ p → p < A + n → 97 ≤ f p ∧ f p ≤ 122) : wdV f A n / 32 ^ (n - 1 - j) % 32 = f (A + j) - 96 := by
  obtain ⟨b, e, b0, b1⟩ := wdV_sh (f := f) (A := A) (i := j + 1) (n - 1 - j) (fun p p0 p1 => h p p0 (by omega))
  rw [show j + 1 + (n - 1 - j) = n by omega] at e
  have hd := h (A + j) (by omega) (by omega)
  have hw : wdV f A (j + 1) = 32 * wdV f A j + (f (A + j) - 96) := rfl
  have hp : (0 : Int) < 32 ^ (n - 1 - j) := by omega
  rw [e, Int.add_comm, Int.add_mul_ediv_left _ _ (by omega), Int.ediv_eq_zero_of_lt b0 b1, hw]
  omega
section MK
variable {Mc Mr : Int → Int → Int} {Gc Gr : GG} {R e k sp rd mk n : Int} {f : Int → Int}
/-- the mark that the reference sees at place j of its word -/
def mkA (M : Int → Int → Int) (j : Int) : Int := w64 (land (lshr (M 124 16) (5 * ((M 124 15 - 1) - j))) 31) - 1
theorem markAt_ok {j : Int} (hG : gAll Gr) : M_X11_markAt (Mr, Gr) 124 j = some (mkA Mr j) := by
  apply Ok.eq
  have k124 := gk_124 hG
  unfold M_X11_markAt
  refine k_tk k124 ?_
  exact k_gf k124 rfl (k_gf k124 rfl (Ok.ret rfl))
theorem mkA_ok {j : Int} (hT : rfT Mr f e k) (ke : k ≤ e) (y : tK f e k = 1) (j0 : 0 ≤ j) (j1 : j < tL f e k - tA f e k) : mkA Mr j = f (tA f e k + j) - 97 := by
  have h1 := tk1 y
  have hL := tkL (f := f) ke
  have hA := tkA (f := f) ke
  have hW := tW_b ke y
  obtain ⟨h15, h16⟩ := hT.2.2.2.2.2.2 y
  have hb := hL (tA f e k + j) (by omega) (by omega)
  have h3 := wdV_at (f := f) (A := tA f e k) (n := (tL f e k - tA f e k).toNat) j.toNat (by omega) (fun p p0 p1 => hL p p0 (by omega))
  have h4 := lsh5 (w := tW f e k) (by omega) hW.2 (s := (tL f e k - tA f e k).toNat - 1 - j.toNat) (by omega)
  have hs : 5 * (((tL f e k - tA f e k).toNat - 1 - j.toNat : Nat) : Int) = 5 * ((tL f e k - tA f e k - 1) - j) := by omega
  unfold mkA
  rw [h15, h16, ← hs, h4]
  have hWd : tW f e k = wdV f (tA f e k) (tL f e k - tA f e k).toNat := rfl
  rw [hWd, h3, show tA f e k + ((j.toNat : Nat) : Int) = tA f e k + j by omega, w64_of (by omega) (by omega)]
  omega
theorem cm_loop (hG : gAll Gr) (h4 : Mr 124 4 = rd) (r0 : 0 ≤ rd) (kd : Gr.1 rd = 20) (h15 : w32 (Mr 124 15) = n) (n0 : 0 ≤ n) (n1 : n ≤ 8) : Ok (wh (S := (Int × Int)) (T := Int) (fun a => M_X11_checksMarks_b29 (Mr, Gr) 124 a.1 a.2) FU (1, 0)) (fun b => (b = 1 ∧ ∀ j, 0 ≤ j → j < n → w32 (mkA Mr j) < w32 (Mr rd 2)) ∨ (b = 0 ∧ ∃ j, 0 ≤ j ∧ j < n ∧ ¬ w32 (mkA Mr j) < w32 (Mr rd 2))) := by
  have k124 := gk_124 hG
  refine wh_for (fun i s => (s = (1, (i : Int)) ∧ ∀ j : Int, 0 ≤ j → j < (i : Int) → w32 (mkA Mr j) < w32 (Mr rd 2)) ∨ (s = (0, (i : Int)) ∧ ∃ j, 0 ≤ j ∧ j < n ∧ ¬ w32 (mkA Mr j) < w32 (Mr rd 2))) _ n.toNat (by omega) (Or.inl ⟨rfl, fun j j0 j1 => by omega⟩) ?_ ?_
  · rintro i _ hi (⟨rfl, hall⟩ | ⟨rfl, hex⟩)
    · unfold M_X11_checksMarks_b29
      dsimp only
      refine k_gf k124 rfl ?_
      refine k_ifT (by rw [h15, w32_id (by omega) (by omega)]; omega) ?_
      refine k_ifF (by decide) ?_
      refine k_eq (markAt_ok hG) ?_
      refine k_gr k124 h4 r0 ?_
      refine k_gf kd rfl ?_
      unfold M_X11_checksMarks_p61
      refine Ok.ite (fun c => Ok.ret (Or.inl ⟨rfl, fun j j0 j1 => ?_⟩)) (fun c => Ok.ret (Or.inr ⟨rfl, i, by omega, by omega, c⟩))
      by_cases z : j = i
      · rw [z]; exact c
      · exact hall j j0 (by omega)
    · unfold M_X11_checksMarks_b29
      dsimp only
      refine k_gf k124 rfl ?_
      refine k_ifT (by rw [h15, w32_id (by omega) (by omega)]; omega) ?_
      refine k_ifT (by decide) ?_
      exact Ok.ret (Or.inr ⟨rfl, hex⟩)
  · rintro _ (⟨rfl, hall⟩ | ⟨rfl, hex⟩)
    · unfold M_X11_checksMarks_b29
      dsimp only
      refine k_gf k124 rfl ?_
      refine k_ifF (by rw [h15, w32_id (by omega) (by omega)]; omega) ?_
      exact Ok.ret (Or.inl ⟨rfl, fun j j0 j1 => hall j j0 (by omega)⟩)
    · unfold M_X11_checksMarks_b29
      dsimp only
      refine k_gf k124 rfl ?_
      refine k_ifF (by rw [h15, w32_id (by omega) (by omega)]; omega) ?_
      exact Ok.ret (Or.inr ⟨rfl, hex⟩)
theorem cm_zero (hG : gAll Gr) : Ok (wh (S := (Int × Int)) (T := Int) (fun a => M_X11_checksMarks_b29 (Mr, Gr) 124 a.1 a.2) FU (0, 0)) (fun b => b = 0) := by
  have k124 := gk_124 hG
  refine wh_for (fun i s => s = (0, 0)) _ 0 (by omega) rfl (fun i _ hi => by omega) ?_
  rintro _ rfl
  unfold M_X11_checksMarks_b29
  dsimp only
  refine k_gf k124 rfl ?_
  refine Ok.ite (fun c => ?_) (fun c => Ok.ret rfl)
  refine k_ifT (by decide) ?_
  exact Ok.ret rfl
/-- the row of marks: none, or the fault 7 -/
theorem cm_p13 (hG : gAll Gr) (h4 : Mr 124 4 = rd) (r0 : 0 ≤ rd) (kd : Gr.1 rd = 20) (n0 : 0 ≤ n) (n1 : n ≤ 8) : ((w32 (Mr 124 15) = n ∧ ∀ j, 0 ≤ j → j < n → w32 (mkA Mr j) < w32 (Mr rd 2)) ∧ M_X11_checksMarks_p13 (Mr, Gr) 124 n = some (Mr, Gr)) ∨ (¬ (w32 (Mr 124 15) = n ∧ ∀ j, 0 ≤ j → j < n → w32 (mkA Mr j) < w32 (Mr rd 2)) ∧ M_X11_checksMarks_p13 (Mr, Gr) 124 n = M_X11_checksMarks_p68 (Mr, Gr) 124 0) := by
  have k124 := gk_124 hG
  by_cases y : w32 (Mr 124 15) = n
  · obtain ⟨b, hb, h⟩ := cm_loop hG h4 r0 kd y n0 n1
    have hp : M_X11_checksMarks_p13 (Mr, Gr) 124 n = M_X11_checksMarks_p68 (Mr, Gr) 124 b := by
      unfold M_X11_checksMarks_p13 M_X11_checksMarks_p26 M_X11_checksMarks_w29
      rw [b_gf k124, if_pos (by rw [y, w32_id (by omega) (by omega)]), hb]
      rfl
    rcases h with ⟨rfl, hall⟩ | ⟨rfl, j, j0, j1, hj⟩
    · refine Or.inl ⟨⟨y, hall⟩, ?_⟩
      rw [hp]
      unfold M_X11_checksMarks_p68
      rw [if_neg (by decide)]
    · exact Or.inr ⟨fun h => hj (h.2 j j0 j1), hp⟩
  · refine Or.inr ⟨fun h => y h.1, ?_⟩
    obtain ⟨b, hb, rfl⟩ := cm_zero (Mr := Mr) (Gr := Gr) hG
    unfold M_X11_checksMarks_p13 M_X11_checksMarks_p26 M_X11_checksMarks_w29
    rw [b_gf k124, if_neg (by rw [w32_id (x := n) (by omega) (by omega)]; exact y), hb]
    rfl
theorem checksMarks_over (hG : gAll Gr) (h9 : Mr 124 9 = 5) (h4 : Mr 124 4 = rd) (r0 : 0 ≤ rd) (kd : Gr.1 rd = 20) (n0 : 0 ≤ n) (n1 : n ≤ 8) : M_X11_checksMarks (Mr, Gr) 124 n = some (Mr, Gr) := by
  have k124 := gk_124 hG
  apply Ok.eq
  unfold M_X11_checksMarks
  refine k_tk k124 ?_
  refine k_gf k124 h9 ?_
  refine k_ifF (by decide) ?_
  refine k_eq (X11_flaw_over hG h9) ?_
  rcases cm_p13 hG h4 r0 kd n0 n1 with ⟨-, h⟩ | ⟨-, h⟩
  · rw [h]; exact Ok.ret rfl
  · rw [h]
    unfold M_X11_checksMarks_p68
    refine k_ifT (by decide) ?_
    exact k_eq (X11_flaw_over hG h9) (Ok.ret rfl)
/-- the word is a row of n marks -/
def isMs (f : Int → Int) (e k n mk : Int) : Prop := tL f e k - tA f e k = n ∧ ∀ j, 0 ≤ j → j < n → f (tA f e k + j) - 97 < mk
theorem checksMarks_ok (h : LK Gc Gr R e sp rd f Mc Mr k) (n0 : 1 ≤ n) (n1 : n ≤ 6) (hm : Mr rd 2 = mk) (m0 : 0 ≤ mk) (m6 : mk ≤ 6) : (tK f e k = 1 ∧ isMs f e k n mk ∧ M_X11_checksMarks (Mr, Gr) 124 n = some (Mr, Gr)) ∨ (tK f e k = 1 ∧ ¬ isMs f e k n mk ∧ M_X11_checksMarks (Mr, Gr) 124 n = some (flR Mr 7, Gr)) ∨ (tK f e k ≠ 1 ∧ M_X11_checksMarks (Mr, Gr) 124 n = some (flR Mr 1, Gr)) := by
  have hG := h.hr
  have k124 := gk_124 hG
  have h4 : Mr 124 4 = rd := h.1.2.1.2.2.2.2.2.1
  have hg := h.1.2.2.2.1
  have r0 : 146 ≤ rd := hg.1
  have kd : Gr.1 rd = 20 := hg.2.1
  have ke := h.2.2.2.2.1
  by_cases y : tK f e k = 1
  · have h9 : Mr 124 9 = 2 := by rw [h.2.2.1.1, y]; rfl
    have h1 := tk1 y
    have h15 := (h.2.2.1.2.2.2.2.2.2 y).1
    have hL := tkL (f := f) ke
    have hi : (w32 (Mr 124 15) = n ∧ ∀ j, 0 ≤ j → j < n → w32 (mkA Mr j) < w32 (Mr rd 2)) ↔ isMs f e k n mk := by
      unfold isMs
      rw [h15, hm, w32_id (x := tL f e k - tA f e k) (by omega) (by omega), w32_id (x := mk) (by omega) (by omega)]
      constructor
      · rintro ⟨a, b⟩
        refine ⟨a, fun j j0 j1 => ?_⟩
        have := b j j0 j1
        have hb := hL (tA f e k + j) (by omega) (by omega)
        rw [mkA_ok h.2.2.1 ke y j0 (by omega), w32_id (by omega) (by omega)] at this
        exact this
      · rintro ⟨a, b⟩
        refine ⟨a, fun j j0 j1 => ?_⟩
        have := b j j0 j1
        have hb := hL (tA f e k + j) (by omega) (by omega)
        rw [mkA_ok h.2.2.1 ke y j0 (by omega), w32_id (by omega) (by omega)]
        exact this
    have hp : M_X11_checksMarks (Mr, Gr) 124 n = M_X11_checksMarks_p13 (Mr, Gr) 124 n := by
      unfold M_X11_checksMarks
      rw [tk_ok k124, b_gf k124, h9, if_pos (by decide)]
    rcases cm_p13 (n := n) hG h4 (by omega) kd (by omega) (by omega) with ⟨a, b⟩ | ⟨a, b⟩
    · exact Or.inl ⟨y, hi.mp a, by rw [hp, b]⟩
    · refine Or.inr (Or.inl ⟨y, fun c => a (hi.mpr c), ?_⟩)
      rw [hp, b]
      unfold M_X11_checksMarks_p68
      rw [if_pos (by decide), X11_flaw_ok hG h.r9]
      rfl
  · refine Or.inr (Or.inr ⟨y, ?_⟩)
    have hF := h.fl (n := 1) (by omega) (by omega)
    have h9 : Mr 124 9 ≠ 2 := by
      rw [h.2.2.1.1]
      unfold srt
      (repeat' split) <;> omega
    have hb := h.r9
    have h4' : flR Mr 1 124 4 = rd := by rw [hF.2.2.2.2 4 (by omega)]; exact h4
    apply Ok.eq
    unfold M_X11_checksMarks
    refine k_tk k124 ?_
    refine k_gf k124 rfl ?_
    refine k_ifF (by rw [w32_id (by omega) (by omega)]; exact h9) ?_
    refine k_eq (X11_flaw_ok hG h.r9) ?_
    rcases cm_p13 (n := n) hG h4' (by omega) kd (by omega) (by omega) with ⟨-, b⟩ | ⟨-, b⟩
    · rw [b]; exact Ok.ret rfl
    · rw [b]
      unfold M_X11_checksMarks_p68
      refine k_ifT (by decide) ?_
      exact k_eq (X11_flaw_over hG hF.1.2.1) (Ok.ret rfl)
end MK
