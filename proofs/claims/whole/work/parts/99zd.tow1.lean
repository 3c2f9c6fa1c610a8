/-! two loops side by side; a town's row -/
theorem wh_rr {S T : Type} {body : S → Option (S ⊕ T)} {m : Nat} {s : S} {t : T} (h : body s = some (.inr t)) : wh body (m + 1) s = some t := by
  unfold wh; rw [h]; rfl
theorem wh_ll {S T : Type} {body : S → Option (S ⊕ T)} {m : Nat} {s s1 : S} (h : body s = some (.inl s1)) : wh body (m + 1) s = wh body m s1 := by
  show (body s).bind _ = _
  rw [h]; rfl
theorem wh_2e {S T S' T' : Type} {body : S → Option (S ⊕ T)} {body' : S' → Option (S' ⊕ T')} (I : Nat → S → S' → Prop) (P : T → T' → Prop) (n : Nat)
    (hs : ∀ i s s', i ≤ n → I i s s' → ∃ a, body s = some a ∧ ∃ b, body' s' = some b ∧ ((∃ s1 s1', a = .inl s1 ∧ b = .inl s1' ∧ i < n ∧ I (i + 1) s1 s1') ∨ (∃ t t', a = .inr t ∧ (b = .inr t' ∨ ∃ s1', b = .inl s1' ∧ body' s1' = some (.inr t')) ∧ P t t'))) :
    ∀ (d i m m' : Nat) (s : S) (s' : S'), i + d = n → d < m → d + 1 < m' → I i s s' → O2 (wh body m s) (wh body' m' s') P := by
  intro d
  induction d with
  | zero =>
    intro i m m' s s' hi hm hm' hI
    obtain ⟨m, rfl⟩ : ∃ q, m = q + 1 := ⟨m - 1, by omega⟩
    obtain ⟨m', rfl⟩ : ∃ q, m' = q + 1 + 1 := ⟨m' - 2, by omega⟩
    obtain ⟨a, ha, b, hb, hc⟩ := hs i s s' (by omega) hI
    rcases hc with ⟨s1, s1', rfl, rfl, hin, -⟩ | ⟨t, t', rfl, hb2, hP⟩
    · omega
    · refine ⟨t, wh_rr ha, t', ?_, hP⟩
      rcases hb2 with rfl | ⟨s1', rfl, hb3⟩
      · exact wh_rr hb
      · rw [wh_ll hb]; exact wh_rr hb3
  | succ d ih =>
    intro i m m' s s' hi hm hm' hI
    obtain ⟨m, rfl⟩ : ∃ q, m = q + 1 := ⟨m - 1, by omega⟩
    obtain ⟨m', rfl⟩ : ∃ q, m' = q + 1 + 1 := ⟨m' - 2, by omega⟩
    obtain ⟨a, ha, b, hb, hc⟩ := hs i s s' (by omega) hI
    rcases hc with ⟨s1, s1', rfl, rfl, hin, hI1⟩ | ⟨t, t', rfl, hb2, hP⟩
    · obtain ⟨x, hx, y, hy, hP⟩ := ih (i + 1) m (m' + 1) s1 s1' (by omega) (by omega) (by omega) hI1
      refine ⟨x, ?_, y, ?_, hP⟩
      · rw [wh_ll ha]; exact hx
      · rw [wh_ll hb]; exact hy
    · refine ⟨t, wh_rr ha, t', ?_, hP⟩
      rcases hb2 with rfl | ⟨s1', rfl, hb3⟩
      · exact wh_rr hb
      · rw [wh_ll hb]; exact wh_rr hb3
section TW
variable {Mc Mr Mc1 Mr1 : Int → Int → Int} {Gc Gr : GG} {R e k sp rd wd hi tw mk gs sn : Int} {f : Int → Int}
/-- a row with n marks written into it from b on -/
def rwM (g f : Int → Int) (A b n : Int) : Int → Int := cp1 g (fun j => f j - 97) A b n
theorem rwM_0 {g f : Int → Int} {A b : Int} : rwM g f A b 0 = g := by
  funext j
  unfold rwM cp1
  rw [if_neg (by omega)]
theorem rwM_s {g f : Int → Int} {A b n : Int} (n0 : 0 ≤ n) : u1 (rwM g f A b n) (b + n) (f (A + n) - 97) = rwM g f A b (n + 1) := by
  funext j
  unfold rwM cp1 u1
  by_cases y : j = b + n
  · rw [if_pos y, if_pos (by omega), y, show A + (b + n - b) = A + n by omega]
  · rw [if_neg y]
    dsimp only
    by_cases z : b ≤ j ∧ j < b + n
    · rw [if_pos z, if_pos (by omega)]
    · rw [if_neg z, if_neg (by omega)]
theorem rwM_in {g f : Int → Int} {A b n j : Int} (h0 : 0 ≤ j) (h1 : j < n) : rwM g f A b n (b + j) = f (A + j) - 97 := by
  unfold rwM cp1
  rw [if_pos (by omega), show A + (b + j - b) = A + j by omega]
theorem rwM_out {g f : Int → Int} {A b n j : Int} (h : j < b ∨ b + n ≤ j) : rwM g f A b n j = g j := by
  unfold rwM cp1
  rw [if_neg (by omega)]
theorem zO_rwM {g : Int → Int} {A b n l : Int} (h : zO l g) (b0 : 0 ≤ b) (n0 : 0 ≤ n) (bn : b + n ≤ l) : zO l (rwM g f A b n) := fun j hj => by rw [rwM_out (by omega)]; exact h j hj
/-- the class's loop over a row's marks -/
theorem row_c {b : Int} (h : LK Gc Gr R e sp rd f Mc Mr k) (hsC : szC sp wd hi mk Mc) (p3 : Mc (sp + 1) 3 = sp + 2) (w2 : 2 ≤ wd) (w6 : wd ≤ 6) (m2 : 2 ≤ mk) (m6 : mk ≤ 6) (y : tK f e k = 1) (yl : tL f e k - tA f e k = wd) (b0 : 0 ≤ b) (b1 : b + wd ≤ 216) (hz : zO 216 (Mc (sp + 2))) : Ok (wh (S := (Hp × Int)) (T := (Hp ⊕ (Hp × Int))) (fun a => M_X4_readRow_b45 a.1 R b a.2) FU ((Mc, Gc), 0)) (fun z => (isMs f e k wd mk ∧ z = .inl (sr Mc (sp + 2) (rwM (Mc (sp + 2)) f (tA f e k) b wd), Gc)) ∨ (¬ isMs f e k wd mk ∧ ∃ g, zO 216 g ∧ z = .inr ((flC (sr Mc (sp + 2) g) R 7, Gc), 0))) := by
  have kR := h.kR
  have hsp := h.1.2.2.2.2
  have hR := h.1.1.2.1
  have he := h.1.1.2.2.2.2.2.2.1
  have hf := h.1.1.2.2.2.2.2.2.2.2
  rw [h.1.2.2.1] at hf
  have c2 := h.1.1.2.2.2.1
  have c4 := h.c4
  have c6 := h.2.1.2.1
  rw [h.1.2.2.1] at c6
  have c1 : Mc 1 = f := h.1.2.2.1
  obtain ⟨g0, gw, -⟩ := h.gc
  obtain ⟨gw0, gwk, gw1, gl1, -⟩ := gw
  have gw1 : Gc.1 (sp + 2) = 1 := by rw [show sp + 2 = sp + 1 + 1 by omega]; exact gw1
  have gl1 : Gc.2.1 (sp + 2) = 216 := by rw [show sp + 2 = sp + 1 + 1 by omega]; exact gl1
  have hG := h.1.1.1
  have k1 := gk_1 hG
  have l1 := gl_1 hG
  have hA := tkA (f := f) h.2.2.2.2.1
  have hLL := tkL (f := f) h.2.2.2.2.1
  have hk0 := h.2.2.2.1
  obtain ⟨s1, s2, -, s4⟩ := hsC
  have hbeg : ((Mc, Gc), (0 : Int)) = ((sr Mc (sp + 2) (rwM (Mc (sp + 2)) f (tA f e k) b ((0 : Nat) : Int)), Gc), ((0 : Nat) : Int)) := by
    rw [show ((0 : Nat) : Int) = 0 from rfl, rwM_0, sr_id]
  refine wh_for (fun i s => s = ((sr Mc (sp + 2) (rwM (Mc (sp + 2)) f (tA f e k) b (i : Int)), Gc), (i : Int)) ∧ ∀ j, 0 ≤ j → j < (i : Int) → f (tA f e k + j) - 97 < mk) _ wd.toNat (by omega) ⟨hbeg, fun j j0 j1 => by omega⟩ ?_ ?_
  · rintro i _ hi' ⟨rfl, hall⟩
    have hb := hLL (tA f e k + i) (by omega) (by omega)
    have e1 : ∀ a, a ≠ sp + 2 → sr Mc (sp + 2) (rwM (Mc (sp + 2)) f (tA f e k) b (i : Int)) a = Mc a := fun a ha => sr_a _ _ ha
    have e2 : sr Mc (sp + 2) (rwM (Mc (sp + 2)) f (tA f e k) b (i : Int)) (sp + 2) = rwM (Mc (sp + 2)) f (tA f e k) b (i : Int) := sr_s _ _ _
    have hsrr : ∀ g, sr (sr Mc (sp + 2) (rwM (Mc (sp + 2)) f (tA f e k) b (i : Int))) (sp + 2) g = sr Mc (sp + 2) g := fun g => sr_sr _ _ _ _
    have hz1 : zO 216 (rwM (Mc (sp + 2)) f (tA f e k) b (i : Int)) := zO_rwM hz b0 (by omega) (by omega)
    have hgo : ∀ g, Ok (some (Sum.inr (Sum.inr ((flC (sr Mc (sp + 2) g) R 7, Gc), (0 : Int)))) : Option ((Hp × Int) ⊕ (Hp ⊕ (Hp × Int)))) (fun r => r = .inr (.inr ((flC (sr Mc (sp + 2) g) R 7, Gc), 0))) := fun g => Ok.ret rfl
    unfold M_X4_readRow_b45
    dsimp only
    rw [b_gr kR (by rw [e1 R (by omega)]; omega), e1 R (by omega), c4, b_gr g0 (by rw [e1 sp (by omega)]; omega), e1 sp (by omega), s1, b_gf gwk, e1 (sp + 1) (by omega), s2, if_pos (by rw [w32_id (by omega) (by omega), w32_id (by omega) (by omega)]; omega), b_gr kR (by rw [e1 R (by omega)]; omega), e1 R (by omega), c2, b_gf kR, e1 R (by omega), c6, b_ald k1 (by omega) (by rw [l1]; omega) (by omega), e1 1 (by omega), c1, b_gr kR (by rw [e1 R (by omega)]; omega), e1 R (by omega), c4, b_gf g0, e1 sp (by omega), s4, w32_id (x := f (tA f e k + i) - 97) (by omega) (by omega), w32_id (x := mk) (by omega) (by omega)]
    by_cases z : f (tA f e k + i) - 97 < mk
    · rw [if_pos z, b_gr kR (by rw [e1 R (by omega)]; omega), e1 R (by omega), c4, b_gr g0 (by rw [e1 sp (by omega)]; omega), e1 sp (by omega), s1, b_gr gwk (by rw [e1 (sp + 1) (by omega)]; omega), e1 (sp + 1) (by omega), p3, b_ast gw1 (by omega) (by omega) (by omega), e2, hsrr, rwM_s (by omega)]
      refine Ok.ret ⟨rfl, fun j j0 j1 => ?_⟩
      by_cases q : j = (i : Int)
      · rw [q]; exact z
      · exact hall j j0 (by omega)
    · rw [if_neg z]
      refine k_bd (X4_fail_ok kR) ?_
      refine k_eq (zb1_ok (Or.inl rfl)) ?_
      refine Ok.ret (Or.inr ⟨fun q => z (q.2 i (by omega) (by omega)), _, hz1, rfl⟩)
  · rintro _ ⟨rfl, hall⟩
    have e1 : ∀ a, a ≠ sp + 2 → sr Mc (sp + 2) (rwM (Mc (sp + 2)) f (tA f e k) b (wd.toNat : Int)) a = Mc a := fun a ha => sr_a _ _ ha
    unfold M_X4_readRow_b45
    dsimp only
    rw [b_gr kR (by rw [e1 R (by omega)]; omega), e1 R (by omega), c4, b_gr g0 (by rw [e1 sp (by omega)]; omega), e1 sp (by omega), s1, b_gf gwk, e1 (sp + 1) (by omega), s2, if_neg (by rw [w32_id (by omega) (by omega), w32_id (by omega) (by omega)]; omega)]
    rw [show ((wd.toNat : Nat) : Int) = wd by omega] at hall ⊢
    exact Ok.ret (Or.inl ⟨⟨yl, hall⟩, rfl⟩)
/-- the reference's -/
theorem row_r {l1 r b : Int} (h : LK Gc Gr R e sp rd f Mc Mr k) (hsR : szR rd wd hi mk Mr) (p7 : Mr rd 7 = rd + 1) (n3 : Mr rd 3 = tw) (w2 : 2 ≤ wd) (w6 : wd ≤ 6) (y : tK f e k = 1) (yl : tL f e k - tA f e k = wd) (hb : 36 * tw + r * wd = b) (b0 : 0 ≤ b) (b1 : b + wd ≤ 216) : wh (S := (Hp × Int)) (T := Hp) (fun a => M_X11_readTownLine_b131 a.1 124 l1 r a.2) FU ((Mr, Gr), 0) = some (sr Mr (rd + 1) (rwM (Mr (rd + 1)) f (tA f e k) b wd), Gr) := by
  have hG := h.hr
  have k124 := gk_124 hG
  have hrd := h.kd.1
  have kd := h.kd.2
  have m4 := h.m4
  obtain ⟨-, -, ⟨kr1, lr1⟩, -⟩ := h.1.2.2.2.1
  obtain ⟨s0, -, -⟩ := hsR
  have hbeg : ((Mr, Gr), (0 : Int)) = ((sr Mr (rd + 1) (rwM (Mr (rd + 1)) f (tA f e k) b ((0 : Nat) : Int)), Gr), ((0 : Nat) : Int)) := by
    rw [show ((0 : Nat) : Int) = 0 from rfl, rwM_0, sr_id]
  refine wh_st (fun i => ((sr Mr (rd + 1) (rwM (Mr (rd + 1)) f (tA f e k) b (i : Int)), Gr), (i : Int))) wd.toNat (by omega) hbeg ?_ ?_
  · intro i hi'
    have e1 : ∀ a, a ≠ rd + 1 → sr Mr (rd + 1) (rwM (Mr (rd + 1)) f (tA f e k) b (i : Int)) a = Mr a := fun a ha => sr_a _ _ ha
    have e2 : sr Mr (rd + 1) (rwM (Mr (rd + 1)) f (tA f e k) b (i : Int)) (rd + 1) = rwM (Mr (rd + 1)) f (tA f e k) b (i : Int) := sr_s _ _ _
    have hma : mkA (sr Mr (rd + 1) (rwM (Mr (rd + 1)) f (tA f e k) b (i : Int))) (i : Int) = f (tA f e k + i) - 97 := by
      have := mkA_ok (j := (i : Int)) h.2.2.1 h.2.2.2.2.1 y (by omega) (by omega)
      unfold mkA at *
      rw [e1 124 (by omega)]
      exact this
    unfold M_X11_readTownLine_b131
    dsimp only
    rw [b_gr k124 (by rw [e1 124 (by omega)]; omega), e1 124 (by omega), m4, b_gf kd, e1 rd (by omega), s0, if_pos (by rw [w32_id (by omega) (by omega), w32_id (by omega) (by omega)]; omega), b_gr k124 (by rw [e1 124 (by omega)]; omega), e1 124 (by omega), m4, b_gr kd (by rw [e1 rd (by omega)]; omega), e1 rd (by omega), p7, b_gr k124 (by rw [e1 124 (by omega)]; omega), e1 124 (by omega), m4, b_gf kd, e1 rd (by omega), n3, b_gr k124 (by rw [e1 124 (by omega)]; omega), e1 124 (by omega), m4, b_gf kd, e1 rd (by omega), s0, markAt_ok hG, Option.bind_some, hma, hb, b_ast kr1 (by omega) (by omega) (by omega), e2, sr_sr, rwM_s (by omega)]
    rfl
  · have e1 : ∀ a, a ≠ rd + 1 → sr Mr (rd + 1) (rwM (Mr (rd + 1)) f (tA f e k) b (wd.toNat : Int)) a = Mr a := fun a ha => sr_a _ _ ha
    unfold M_X11_readTownLine_b131
    dsimp only
    rw [b_gr k124 (by rw [e1 124 (by omega)]; omega), e1 124 (by omega), m4, b_gf kd, e1 rd (by omega), s0, if_neg (by rw [w32_id (by omega) (by omega), w32_id (by omega) (by omega)]; omega)]
    rw [show ((wd.toNat : Nat) : Int) = wd by omega]
end TW
