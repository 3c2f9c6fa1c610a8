/-! which word; towns by name -/
/-- is the token the word i -/
def wQ (f : Int → Int) (e k i : Int) : Int := if tK f e k = 1 ∧ tW f e k = swV i then 1 else 0
theorem wQ_b (f : Int → Int) (e k i : Int) : wQ f e k i = 0 ∨ wQ f e k i = 1 := by
  unfold wQ
  split
  · exact Or.inr rfl
  · exact Or.inl rfl
theorem wQ_1 {f : Int → Int} {e k i : Int} (h : wQ f e k i ≠ 0) : tK f e k = 1 := by
  unfold wQ at h
  by_cases y : tK f e k = 1 ∧ tW f e k = swV i
  · exact y.1
  · rw [if_neg y] at h; exact absurd rfl h
def lnS (f : Int → Int) (e k : Int) : Int := if wQ f e k 0 = 0 then (if wQ f e k 1 = 0 then (if wQ f e k 2 = 0 then (if wQ f e k 3 = 0 then (if wQ f e k 4 = 0 then -1 else 4) else 3) else 2) else 1) else 0
def nmQ (f : Int → Int) (e k : Int) : Int := if tK f e k = 1 then (if wQ f e k 8 = 0 then (if lnS f e k = -1 then 1 else 0) else 0) else 0
def erS (f : Int → Int) (e k : Int) : Int := if wQ f e k 9 = 0 then (if wQ f e k 10 = 0 then (if wQ f e k 11 = 0 then (if wQ f e k 12 = 0 then (if wQ f e k 13 = 0 then (if wQ f e k 14 = 0 then (if wQ f e k 15 = 0 then (if wQ f e k 16 = 0 then (if wQ f e k 17 = 0 then (if wQ f e k 18 = 0 then (if wQ f e k 19 = 0 then -1 else 10) else 9) else 8) else 7) else 6) else 5) else 4) else 3) else 2) else 1) else 0
theorem erS_b {f : Int → Int} {e k : Int} : -1 ≤ erS f e k ∧ erS f e k ≤ 10 := by
  unfold erS
  (repeat' split) <;> omega
theorem lnS_b {f : Int → Int} {e k : Int} : -1 ≤ lnS f e k ∧ lnS f e k ≤ 4 := by
  unfold lnS
  (repeat' split) <;> omega
section TN
variable {Mc Mr Mc1 Mr1 : Int → Int → Int} {Gc Gr : GG} {R e k sp rd mk n q tw w : Int} {f : Int → Int}
theorem w32_q {x : Int} (h : x = 0 ∨ x = 1) : w32 x = x := by
  rcases h with rfl | rfl <;> decide
theorem LK.cq {i : Int} (h : LK Gc Gr R e sp rd f Mc Mr k) (i0 : 0 ≤ i) (i1 : i < 20) : M_X4_isWord (Mc, Gc) R i = some (wQ f e k i) := h.cwd i0 i1
theorem LK.rq {i : Int} (h : LK Gc Gr R e sp rd f Mc Mr k) (i0 : 0 ≤ i) (i1 : i < 20) : M_X11_isWord (Mr, Gr) 124 i = some (wQ f e k i) := h.rwd i0 i1
theorem lineSort_ok (h : LK Gc Gr R e sp rd f Mc Mr k) : M_X4_lineSort (Mc, Gc) R = some (lnS f e k) := by
  have hw := fun i => w32_q (wQ_b f e k i)
  unfold M_X4_lineSort lnS
  rw [tk_ok h.kR, h.cq (by omega) (by omega), h.cq (by omega) (by omega), h.cq (by omega) (by omega), h.cq (by omega) (by omega), h.cq (by omega) (by omega)]
  simp only [Option.bind_some, hw]
  (repeat' split) <;> rfl
theorem cName_ok (h : LK Gc Gr R e sp rd f Mc Mr k) : M_X4_isName (Mc, Gc) R = some (nmQ f e k) := by
  have hw := fun i => w32_q (wQ_b f e k i)
  have hl := lnS_b (f := f) (e := e) (k := k)
  have hK := tK_b (f := f) (e := e) (k := k)
  have c5 := h.2.1.1
  rw [h.1.2.2.1] at c5
  have m1 : w32 (-1) = -1 := by decide
  unfold M_X4_isName nmQ
  rw [tk_ok h.kR, b_gf h.kR, c5, h.cq (by omega) (by omega), lineSort_ok h]
  simp only [Option.bind_some, hw]
  rw [w32_id (x := tK f e k) (by omega) (by omega), w32_id (x := lnS f e k) (by omega) (by omega)]
  (repeat' split) <;> rfl
theorem rName_ok (h : LK Gc Gr R e sp rd f Mc Mr k) : M_X11_isName (Mr, Gr) 124 = some (nmQ f e k) := by
  have hG := h.hr
  have k124 := gk_124 hG
  have hw := fun i => w32_q (wQ_b f e k i)
  have r9 := h.2.2.1.1
  have hb := h.r9
  have hy : (w32 (Mr 124 9) = 2) ↔ tK f e k = 1 := by
    rw [w32_id (by omega) (by omega), r9]
    unfold srt
    (repeat' split) <;> omega
  unfold M_X11_isName nmQ lnS
  rw [tk_ok k124, b_gf k124, h.rq (by omega) (by omega), h.rq (by omega) (by omega), h.rq (by omega) (by omega), h.rq (by omega) (by omega), h.rq (by omega) (by omega), h.rq (by omega) (by omega)]
  simp only [Option.bind_some, hw, hy]
  by_cases y : tK f e k = 1
  · rw [if_pos y, if_pos y]
    generalize wQ f e k 0 = a0
    generalize wQ f e k 1 = a1
    generalize wQ f e k 2 = a2
    generalize wQ f e k 3 = a3
    generalize wQ f e k 4 = a4
    generalize wQ f e k 8 = a8
    by_cases y0 : a0 = 0 <;> by_cases y1 : a1 = 0 <;> by_cases y2 : a2 = 0 <;> by_cases y3 : a3 = 0 <;> by_cases y4 : a4 = 0 <;> by_cases y8 : a8 = 0 <;> simp [y0, y1, y2, y3, y4, y8]
  · rw [if_neg y, if_neg y]
theorem rName_over (hG : gAll Gr) (h9 : Mr 124 9 = 5) : M_X11_isName (Mr, Gr) 124 = some 0 := by
  have k124 := gk_124 hG
  unfold M_X11_isName
  rw [tk_ok k124, b_gf k124, h9, if_neg (by decide)]
theorem rErr_ok (h : LK Gc Gr R e sp rd f Mc Mr k) : M_X11_sortOfError (Mr, Gr) 124 = some (erS f e k) := by
  have hG := h.hr
  have k124 := gk_124 hG
  have hw := fun i => w32_q (wQ_b f e k i)
  unfold M_X11_sortOfError erS
  rw [tk_ok k124, h.rq (by omega) (by omega), h.rq (by omega) (by omega), h.rq (by omega) (by omega), h.rq (by omega) (by omega), h.rq (by omega) (by omega), h.rq (by omega) (by omega), h.rq (by omega) (by omega), h.rq (by omega) (by omega), h.rq (by omega) (by omega), h.rq (by omega) (by omega), h.rq (by omega) (by omega)]
  simp only [Option.bind_some, hw]
  (repeat' split) <;> rfl
theorem rErr_over (hG : gAll Gr) (h9 : Mr 124 9 = 5) : M_X11_sortOfError (Mr, Gr) 124 = some (-1) := by
  have k124 := gk_124 hG
  have w0 : w32 0 = 0 := by decide
  unfold M_X11_sortOfError
  rw [tk_ok k124]
  simp only [X11_isWord_over hG h9, Option.bind_some, w0, if_true]
theorem errorWord_ok {h : Hp} {i : Int} (i0 : 0 ≤ i) (i1 : i ≤ 10) : M_X4_errorWord h i = some (9 + i) := by
  have hc : i = 0 ∨ i = 1 ∨ i = 2 ∨ i = 3 ∨ i = 4 ∨ i = 5 ∨ i = 6 ∨ i = 7 ∨ i = 8 ∨ i = 9 ∨ i = 10 := by omega
  rcases hc with rfl | rfl | rfl | rfl | rfl | rfl | rfl | rfl | rfl | rfl | rfl <;> rfl
/-- where the first of n words from 9 on is the token -/
def erN (f : Int → Int) (e k : Int) : Nat → Int
  | 0 => -1
  | n + 1 => if erN f e k n = -1 then (if wQ f e k (9 + (n : Int)) = 0 then -1 else n) else erN f e k n
theorem erN_S (f : Int → Int) (e k : Int) : erN f e k 11 = erS f e k := by
  unfold erS
  simp only [erN]
  simp only [show (9 : Int) + ((0 : Nat) : Int) = 9 from rfl, show (9 : Int) + ((1 : Nat) : Int) = 10 from rfl, show (9 : Int) + ((2 : Nat) : Int) = 11 from rfl, show (9 : Int) + ((3 : Nat) : Int) = 12 from rfl, show (9 : Int) + ((4 : Nat) : Int) = 13 from rfl, show (9 : Int) + ((5 : Nat) : Int) = 14 from rfl, show (9 : Int) + ((6 : Nat) : Int) = 15 from rfl, show (9 : Int) + ((7 : Nat) : Int) = 16 from rfl, show (9 : Int) + ((8 : Nat) : Int) = 17 from rfl, show (9 : Int) + ((9 : Nat) : Int) = 18 from rfl, show (9 : Int) + ((10 : Nat) : Int) = 19 from rfl]
  by_cases y0 : wQ f e k 9 = 0
  · simp only [y0, if_true]
    by_cases y1 : wQ f e k 10 = 0
    · simp only [y1, if_true]
      by_cases y2 : wQ f e k 11 = 0
      · simp only [y2, if_true]
        by_cases y3 : wQ f e k 12 = 0
        · simp only [y3, if_true]
          by_cases y4 : wQ f e k 13 = 0
          · simp only [y4, if_true]
            by_cases y5 : wQ f e k 14 = 0
            · simp only [y5, if_true]
              by_cases y6 : wQ f e k 15 = 0
              · simp only [y6, if_true]
                by_cases y7 : wQ f e k 16 = 0
                · simp only [y7, if_true]
                  by_cases y8 : wQ f e k 17 = 0
                  · simp only [y8, if_true]
                    by_cases y9 : wQ f e k 18 = 0
                    · simp only [y9, if_true]
                      by_cases ya : wQ f e k 19 = 0
                      · simp only [ya, if_true]
                      · simp only [ya, if_false]; rfl
                    · simp [y9]
                  · simp [y8]
                · simp [y7]
              · simp [y6]
            · simp [y5]
          · simp [y4]
        · simp [y3]
      · simp [y2]
    · simp [y1]
  · simp [y0]
theorem cErr_ok (h : LK Gc Gr R e sp rd f Mc Mr k) : M_X4_errorSort (Mc, Gc) R = some (erS f e k) := by
  have hw := fun i => w32_q (wQ_b f e k i)
  apply Ok.eq
  unfold M_X4_errorSort
  refine k_tk h.kR ?_
  unfold M_X4_errorSort_w2
  have hst : ∀ n m : Nat, erN f e k n ≠ -1 → erN f e k (n + m) = erN f e k n := by
    intro n m hn
    induction m with
    | zero => rfl
    | succ m ih =>
      show (if erN f e k (n + m) = -1 then _ else erN f e k (n + m)) = _
      rw [if_neg (by rw [ih]; exact hn), ih]
  refine Ok.bind (Q := fun z => (z = .inl () ∧ erN f e k 11 = -1) ∨ (∃ v, z = .inr v ∧ v = erN f e k 11)) ?_ ?_
  · refine wh_for (fun n s => s = (n : Int) ∧ erN f e k n = -1) _ 11 (by omega) ⟨rfl, rfl⟩ ?_ ?_
    · rintro n _ hn ⟨rfl, he⟩
      unfold M_X4_errorSort_b2
      refine k_ifF (by rw [w32_id (by omega) (by omega)]; omega) ?_
      refine k_eq (errorWord_ok (by omega) (by omega)) ?_
      refine k_eq (h.cq (by omega) (by omega)) ?_
      rw [hw]
      by_cases y : wQ f e k (9 + (n : Int)) = 0
      · refine k_ifT y (Ok.ret ⟨rfl, ?_⟩)
        show (if erN f e k n = -1 then (if wQ f e k (9 + (n : Int)) = 0 then (-1 : Int) else n) else erN f e k n) = -1
        rw [if_pos he, if_pos y]
      · refine k_ifF y (Ok.ret (Or.inr ⟨_, rfl, ?_⟩))
        have h1 : erN f e k (n + 1) = n := by
          show (if erN f e k n = -1 then (if wQ f e k (9 + (n : Int)) = 0 then (-1 : Int) else n) else erN f e k n) = n
          rw [if_pos he, if_neg y]
        have h2 := hst (n + 1) (10 - n) (by rw [h1]; omega)
        rw [show n + 1 + (10 - n) = 11 by omega, h1] at h2
        exact h2.symm
    · rintro _ ⟨rfl, he⟩
      unfold M_X4_errorSort_b2
      refine k_ifT (by decide) ?_
      exact Ok.ret (Or.inl ⟨rfl, he⟩)
  · rintro _ (⟨rfl, he⟩ | ⟨v, rfl, hv⟩)
    · rw [exi_l]
      unfold M_X4_errorSort_p27
      refine Ok.ret ?_
      rw [← erN_S, he]
    · rw [exi_r]
      refine Ok.ret ?_
      rw [hv, erN_S]
end TN
