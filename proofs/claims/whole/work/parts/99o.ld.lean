/-! what both have read so far -/
/-- the told world: class's ring sp, reference's ring rd -/
def LDw (sp rd wd hi tw mk : Int) (Mc Mr : Int → Int → Int) : Prop :=
  Mc (sp + 1) 6 = 0 ∧ Mc (sp + 1) 7 = 0 ∧ (∀ t p, 0 ≤ t → t < tw → inV wd hi p → Mr (rd + 1) (36 * t + idx wd p) = Mc (sp + 2) (36 * t + p)) ∧ (∀ i, 0 ≤ Mc (sp + 2) i ∧ Mc (sp + 2) i ≤ 5 ∧ (0 < mk → Mc (sp + 2) i < mk)) ∧ (∀ i, ¬ (0 ≤ i ∧ i < 36 * tw ∧ i % 36 % 6 < wd ∧ i % 36 / 6 < hi) → Mc (sp + 2) i = 0) ∧ ∀ k, 0 ≤ Mr (rd + 1) k ∧ Mr (rd + 1) k < 6
def LDe (sp rd wd hi tw mk : Int) (Mc Mr : Int → Int → Int) : Prop :=
  (∀ t, 0 ≤ t → t < 6 → -2 ≤ Mc (sp + 3) t ∧ Mc (sp + 3) t < tw) ∧ (∀ t, 0 ≤ t → t < tw → Mr (rd + 2) t = Mc (sp + 3) t) ∧ (∀ i, 0 ≤ i → i < 4 * tw → Mr (rd + 3) i = Mc (sp + 4) i) ∧ (∀ i, -2 ≤ Mc (sp + 4) i ∧ Mc (sp + 4) i ≤ 10) ∧ (∀ t, 0 ≤ t → t < tw → errT wd hi mk (Mc (sp + 4)) t) ∧ (∀ t, 0 ≤ t → t < 6 → Mc (sp + 3) t < 0 → Mc (sp + 3) t = -2 ∧ Mc (sp + 4) (4 * t) = 0 ∧ ∀ j, 1 ≤ j → j < 4 → Mc (sp + 4) (4 * t + j) = -2) ∧ (∀ t, tw ≤ t → t < 6 → Mc (sp + 3) t = -2) ∧ Mr rd 6 = (uk (Mc (sp + 4)) tw.toNat : Nat) ∧ uk (Mc (sp + 4)) tw.toNat ≤ 4
def LDg (sp rd wd hi mk gs : Int) (Mc Mr : Int → Int → Int) : Prop := (∀ i, -2 ≤ Mc (sp + 6) i ∧ Mc (sp + 6) i ≤ 10) ∧ (∀ g, 0 ≤ g → g < gs → errT wd hi mk (Mc (sp + 6)) g ∧ Mc (sp + 6) (4 * g) ≤ 8) ∧ (∀ i, 0 ≤ i → i < 4 * gs → Mr (rd + 4) i = Mc (sp + 6) i) ∧ ∀ i, 4 * gs ≤ i → i < 20 → Mc (sp + 6) i = -2
def LDs (sp rd wd hi tw mk sn : Int) (Mc Mr : Int → Int → Int) : Prop := ∀ i, 0 ≤ i → i < sn → (0 ≤ Mc (sp + 7) i ∧ Mc (sp + 7) i < tw) ∧ (1 ≤ Mc (sp + 8) i ∧ Mc (sp + 8) i ≤ 20) ∧ inV wd hi (Mc (sp + 9) i) ∧ (0 ≤ Mc (sp + 10) i ∧ Mc (sp + 10) i < mk) ∧ Mr (rd + 5) i = Mc (sp + 7) i ∧ Mr (rd + 6) i = Mc (sp + 8) i ∧ Mr (rd + 7) i = idx wd (Mc (sp + 9) i) ∧ Mr (rd + 8) i = Mc (sp + 10) i
/-- the numbers -/
def LDn (sp rd wd hi tw mk gs sn : Int) (Mc Mr : Int → Int → Int) : Prop := (Mc (sp + 1) 0 = wd ∧ Mc (sp + 1) 1 = hi ∧ Mc (sp + 1) 2 = tw ∧ Mc sp 0 = mk ∧ Mc sp 4 = gs ∧ Mc sp 9 = sn) ∧ (Mr rd 0 = wd ∧ Mr rd 1 = hi ∧ Mr rd 2 = mk ∧ Mr rd 3 = tw ∧ Mr rd 4 = gs ∧ Mr rd 5 = sn) ∧ ((wd = 0 ∧ hi = 0 ∧ tw = 0 ∧ mk = 0 ∧ gs = 0 ∧ sn = 0) ∨ (2 ≤ wd ∧ wd ≤ 6 ∧ 2 ≤ hi ∧ hi ≤ 6 ∧ 2 ≤ mk ∧ mk ≤ 6)) ∧ 0 ≤ tw ∧ tw ≤ 6 ∧ 0 ≤ gs ∧ gs ≤ 5 ∧ 0 ≤ sn ∧ sn ≤ 8
def LDv (sp rd wd hi tw mk gs sn : Int) (Mc Mr : Int → Int → Int) : Prop := (shR Mc sp ∧ shW Mc (sp + 1)) ∧ pRg (Mr rd) rd ∧ LDn sp rd wd hi tw mk gs sn Mc Mr ∧ (∀ t, 0 ≤ t → t < tw → Mr (rd + 9) t = Mc (sp + 5) t) ∧ LDw sp rd wd hi tw mk Mc Mr ∧ LDe sp rd wd hi tw mk Mc Mr ∧ LDg sp rd wd hi mk gs Mc Mr ∧ LDs sp rd wd hi tw mk sn Mc Mr
section LDS
variable {Mc Mr Mc1 Mr1 Mc2 Mr2 : Int → Int → Int} {Gc Gr : GG} {R e k sp rd wd hi tw mk gs sn : Int} {f : Int → Int}
/-- nothing but the readers and the rings has changed -/
def fS (R sp rd : Int) (Mc Mr Mc1 Mr1 : Int → Int → Int) : Prop := (∀ a, a ≠ R → ¬ (sp ≤ a ∧ a ≤ sp + 10) → Mc1 a = Mc a) ∧ (∀ a, a ≠ 124 → ¬ (rd ≤ a ∧ a ≤ rd + 9) → Mr1 a = Mr a) ∧ (∀ j, j < 8 ∨ 16 < j → Mr1 124 j = Mr 124 j) ∧ ∀ j, 2 ≤ j → j < 5 → Mc1 R j = Mc R j
theorem fS.tr (h : fS R sp rd Mc Mr Mc1 Mr1) (h1 : fS R sp rd Mc1 Mr1 Mc2 Mr2) : fS R sp rd Mc Mr Mc2 Mr2 := ⟨fun a ha hb => (h1.1 a ha hb).trans (h.1 a ha hb), fun a ha hb => (h1.2.1 a ha hb).trans (h.2.1 a ha hb), fun j hj => (h1.2.2.1 j hj).trans (h.2.2.1 j hj), fun j j0 j1 => (h1.2.2.2 j j0 j1).trans (h.2.2.2 j j0 j1)⟩
theorem tS.fs (h : tS R Mc Mr Mc1 Mr1) : fS R sp rd Mc Mr Mc1 Mr1 := ⟨fun a ha _ => h.1 a ha, fun a ha _ => h.2.2.1 a ha, h.2.2.2, h.2.1⟩
theorem sh_t (hR : 146 ≤ R) (hs : sp = 2 ∨ sp = 13) (h : shR Mc sp ∧ shW Mc (sp + 1)) (f1 : ∀ a, a ≠ R → Mc1 a = Mc a) : shR Mc1 sp ∧ shW Mc1 (sp + 1) := by
  have e : ∀ a, a < 124 → Mc1 a = Mc a := fun a ha => f1 a (by omega)
  unfold shR shW mW zoW at *
  rw [e sp (by omega), e (sp + 6) (by omega), e (sp + 1) (by omega), e (sp + 1 + 1) (by omega), e (sp + 1 + 2) (by omega), e (sp + 1 + 3) (by omega)]
  exact h
theorem LDv.t (hR : 146 ≤ R) (hs : sp = 2 ∨ sp = 13) (hd : 146 ≤ rd) (h : LDv sp rd wd hi tw mk gs sn Mc Mr) (h1 : tS R Mc Mr Mc1 Mr1) : LDv sp rd wd hi tw mk gs sn Mc1 Mr1 := by
  have ec : ∀ a, a < 124 → Mc1 a = Mc a := fun a ha => h1.1 a (by omega)
  have er : ∀ a, 146 ≤ a → Mr1 a = Mr a := fun a ha => h1.2.2.1 a (by omega)
  obtain ⟨a, b⟩ := h
  refine ⟨sh_t hR hs a h1.1, ?_⟩
  unfold LDn LDw LDe LDg LDs at *
  rw [er rd (by omega), er (rd + 1) (by omega), er (rd + 2) (by omega), er (rd + 3) (by omega), er (rd + 4) (by omega), er (rd + 5) (by omega), er (rd + 6) (by omega), er (rd + 7) (by omega), er (rd + 8) (by omega), er (rd + 9) (by omega), ec sp (by omega), ec (sp + 1) (by omega), ec (sp + 2) (by omega), ec (sp + 3) (by omega), ec (sp + 4) (by omega), ec (sp + 5) (by omega), ec (sp + 6) (by omega), ec (sp + 7) (by omega), ec (sp + 8) (by omega), ec (sp + 9) (by omega), ec (sp + 10) (by omega)]
  exact b
theorem fail_z {n : Int} (kR : Gc.1 R = 14) : (bd (M_X4_fail (Mc, Gc) R n) fun h x => (zb1 x ()).bind fun _ => some (h, x)) = some ((flC Mc R n, Gc), 0) := by
  rw [X4_fail_ok kR]
  show ((zb1 (0 : Int) ()).bind fun _ => some ((flC Mc R n, Gc), (0 : Int))) = _
  rw [zb1_ok (Or.inl rfl)]
  rfl
/-- may a line come: all five sorts of lines -/
theorem mayCome_ok {s : Int} (h : LK Gc Gr R e sp rd f Mc Mr k) (hd : LDv sp rd wd hi tw mk gs sn Mc Mr) (s0 : -1 ≤ s) (s4 : s ≤ 4) : M_X4_mayCome (Mc, Gc) R s = if s = -1 then some ((flC Mc R 1, Gc), 0) else if s = 0 ∧ 0 < mk then some ((flC Mc R 3, Gc), 0) else if (s = 1 ∧ tw = 6) ∨ (s = 3 ∧ gs = 5) ∨ (s = 4 ∧ sn = 8) then some ((flC Mc R 5, Gc), 0) else if s ≠ 0 ∧ mk = 0 then some ((flC Mc R 6, Gc), 0) else some ((Mc, Gc), 1) := by
  have kR := h.kR
  obtain ⟨g0, gw, -⟩ := h.gc
  have gw := gw.2.1
  have c4 := h.c4
  have hsp := h.1.2.2.2.2
  obtain ⟨⟨hs, -⟩, -, hn, -⟩ := hd
  obtain ⟨⟨-, -, n2, n0, n4, n9⟩, -, hdim, t0, t6, g0', g5, s0', s8⟩ := hn
  have hm : 0 ≤ mk ∧ mk ≤ 6 := by omega
  have p1 := hs.1
  have hfull : M_X4_isFull (Mc, Gc) R s = some (if (s = 1 ∧ tw = 6) ∨ (s = 3 ∧ gs = 5) ∨ (s = 4 ∧ sn = 8) then 1 else 0) := by
    apply Ok.eq
    unfold M_X4_isFull
    refine k_tk kR ?_
    have hp36 : s = 4 → M_X4_isFull_p36 (Mc, Gc) R s = some (if sn = 8 then 1 else 0) := fun y => by
      apply Ok.eq
      unfold M_X4_isFull_p36
      refine k_ifT (by rw [y]; decide) ?_
      refine k_gr kR c4 (by omega) ?_
      refine k_gf g0 n9 ?_
      by_cases z : sn = 8
      · refine k_ifF (by rw [z]; decide) (Ok.ret ?_)
        rw [if_pos z]
      · refine k_ifT (by rw [w32_id (by omega) (by omega)]; omega) (Ok.ret ?_)
        rw [if_neg z]
    have hp36n : s ≠ 4 → M_X4_isFull_p36 (Mc, Gc) R s = some 0 := fun y => by
      unfold M_X4_isFull_p36
      rw [if_neg (by rw [w32_id (by omega) (by omega)]; exact y)]
    by_cases y1 : s = 1
    · refine k_ifT (by rw [y1]; decide) ?_
      refine k_gr kR c4 (by omega) ?_
      refine k_gr g0 p1 (by omega) ?_
      refine k_gf gw n2 ?_
      by_cases z : tw = 6
      · refine k_ifF (by rw [z]; decide) (Ok.ret ?_)
        rw [if_pos (Or.inl ⟨y1, z⟩)]
      · refine k_ifT (by rw [w32_id (by omega) (by omega)]; omega) ?_
        unfold M_X4_isFull_p20
        refine k_ifF (by rw [y1]; decide) ?_
        rw [hp36n (by omega), if_neg (by omega)]
        exact Ok.ret rfl
    · refine k_ifF (by rw [w32_id (by omega) (by omega)]; exact y1) ?_
      unfold M_X4_isFull_p20
      by_cases y3 : s = 3
      · refine k_ifT (by rw [y3]; decide) ?_
        refine k_gr kR c4 (by omega) ?_
        refine k_gf g0 n4 ?_
        by_cases z : gs = 5
        · refine k_ifF (by rw [z]; decide) (Ok.ret ?_)
          rw [if_pos (by omega)]
        · refine k_ifT (by rw [w32_id (by omega) (by omega)]; omega) ?_
          rw [hp36n (by omega), if_neg (by omega)]
          exact Ok.ret rfl
      · refine k_ifF (by rw [w32_id (by omega) (by omega)]; exact y3) ?_
        by_cases y4 : s = 4
        · rw [hp36 y4]
          refine Ok.ret ?_
          by_cases z : sn = 8
          · rw [if_pos z, if_pos (by omega)]
          · rw [if_neg z, if_neg (by omega)]
        · rw [hp36n y4, if_neg (by omega)]
          exact Ok.ret rfl
  have hp41 : ∀ x, x = (if 0 < mk then (1 : Int) else 0) → ¬ (s = 0 ∧ 0 < mk) → M_X4_mayCome_p41 (Mc, Gc) R s x = if (s = 1 ∧ tw = 6) ∨ (s = 3 ∧ gs = 5) ∨ (s = 4 ∧ sn = 8) then some ((flC Mc R 5, Gc), 0) else if s ≠ 0 ∧ mk = 0 then some ((flC Mc R 6, Gc), 0) else some ((Mc, Gc), 1) := by
    intro x hx hn0
    unfold M_X4_mayCome_p41
    rw [hfull, Option.bind_some]
    by_cases y : (s = 1 ∧ tw = 6) ∨ (s = 3 ∧ gs = 5) ∨ (s = 4 ∧ sn = 8)
    · rw [if_pos y, if_pos y, if_neg (by decide), fail_z kR]
    · rw [if_neg y, if_neg y, if_pos (by decide)]
      by_cases z : s = 0
      · rw [if_pos (by rw [z]; decide), if_neg (by omega)]
      · rw [if_neg (by rw [w32_id (by omega) (by omega)]; exact z)]
        by_cases z2 : mk = 0
        · have hx0 : x = 0 := by rw [hx, if_neg (by omega)]
          rw [if_pos (c := s ≠ 0 ∧ mk = 0) ⟨z, z2⟩, hx0, if_pos (by decide), X4_fail_ok kR]
          show (if w32 0 = 0 then some ((flC Mc R 6, Gc), (0 : Int)) else some ((flC Mc R 6, Gc), 1)) = _
          rw [if_pos (by decide)]
        · have hx1 : x = 1 := by rw [hx, if_pos (by omega)]
          rw [if_neg (c := s ≠ 0 ∧ mk = 0) (by omega), hx1, if_neg (by decide)]
  have hp15 : ∀ x, x = (if 0 < mk then (1 : Int) else 0) → M_X4_mayCome_p15 (Mc, Gc) R s x = if s = -1 then some ((flC Mc R 1, Gc), 0) else if s = 0 ∧ 0 < mk then some ((flC Mc R 3, Gc), 0) else if (s = 1 ∧ tw = 6) ∨ (s = 3 ∧ gs = 5) ∨ (s = 4 ∧ sn = 8) then some ((flC Mc R 5, Gc), 0) else if s ≠ 0 ∧ mk = 0 then some ((flC Mc R 6, Gc), 0) else some ((Mc, Gc), 1) := by
    intro x hx
    unfold M_X4_mayCome_p15
    by_cases y : s = -1
    · rw [if_pos (by rw [y]; decide), if_pos y, fail_z kR]
    · rw [if_neg (by rw [w32_id (by omega) (by omega)]; exact y), if_neg y]
      by_cases z : s = 0
      · rw [if_pos (by rw [z]; decide)]
        by_cases z2 : 0 < mk
        · rw [if_neg (by rw [hx, if_pos z2]; decide), if_pos ⟨z, z2⟩, fail_z kR]
        · rw [if_pos (by rw [hx, if_neg z2]; decide), hp41 x hx (by omega), if_neg (c := s = 0 ∧ 0 < mk) (by omega)]
      · rw [if_neg (by rw [w32_id (by omega) (by omega)]; exact z), hp41 x hx (by omega), if_neg (c := s = 0 ∧ 0 < mk) (by omega)]
  unfold M_X4_mayCome
  rw [tk_ok kR, b_gr kR (by omega), c4, b_gf g0, n0, w32_id (x := mk) (by omega) (by omega)]
  by_cases y : 0 < mk
  · rw [if_pos y]
    exact hp15 1 (by rw [if_pos y])
  · rw [if_neg y]
    exact hp15 0 (by rw [if_neg y])
end LDS
