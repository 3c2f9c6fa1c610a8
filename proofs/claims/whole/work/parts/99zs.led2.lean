/-! led: both sides -/
section L2
variable {M M1 : Int → Int → Int} {G G1 : GG} {td r rg t n : Int}
/-- other cells may have come, out's number may be another one -/
def cLd (M : Int → Int → Int) (G : GG) (M1 : Int → Int → Int) (G1 : GG) : Prop := (∀ a, a ≠ 145 → M1 a = M a) ∧ G1.1 = G.1 ∧ G1.2.1 = G.2.1 ∧ G.2.2 ≤ G1.2.2
theorem Inv0.ld (h0 : Inv0 M G td r) (hl : cLd M G M1 G1) : Inv0 M1 G1 td r := by
  obtain ⟨st, g1, g2, g3⟩ := hl
  obtain ⟨⟨s1, s2, s3, s4, s5, s6, s7, s8, s9, s10, s11, s12, s13, s14, s15⟩, s16, s17, s18, s19, s20⟩ := h0
  have hgo : ∀ a, a < G.2.2 → G1.1 a = G.1 a ∧ G1.2.1 a = G.2.1 a := fun a _ => by rw [g1, g2]; exact ⟨rfl, rfl⟩
  refine ⟨⟨⟨fun a ha => by rw [g1, g2]; exact s1.1 a ha, by have := s1.2; omega⟩, ?_, s3, ?_, ?_, ?_, ?_, ?_, ?_, ?_, ?_, ?_, ?_, ?_, ?_⟩, ?_, ?_, ?_, ?_, ?_⟩
  · rw [st 0 (by omega)]; exact s2
  · rw [st 0 (by omega)]; exact s4
  · rw [st 0 (by omega)]; exact s5
  · unfold shR at *; simp (disch := omega) only [st]; exact s6
  · unfold shR at *; simp (disch := omega) only [st]; exact s7
  · unfold shW mW zoW at *; simp (disch := omega) only [st]; exact s8
  · unfold shW mW zoW at *; simp (disch := omega) only [st]; exact s9
  · unfold shW mW zoW at *; simp (disch := omega) only [st]; exact s10
  · intro w w0 w1 w2
    have := s11 w w0 w1 w2
    unfold shW mW zoW at *; simp (disch := omega) only [st]; exact this
  · simp (disch := omega) only [st]; exact s12
  · simp (disch := omega) only [st]; exact s13
  · unfold rot at *; simp (disch := omega) only [st]; exact s14
  · simp (disch := omega) only [st]; exact s15
  · unfold cSc shW mW zoW chI at *; simp (disch := omega) only [st]; exact s16
  · unfold rSh at *; simp (disch := omega) only [st]; exact s17
  · unfold cTp at *; simp (disch := omega) only [st]; exact s18
  · simp (disch := omega) only [st]; exact s19
  · rcases s20 with hn | ⟨rg, hR⟩
    · left
      unfold noR at *
      simp (disch := omega) only [st]
      exact hn
    · have hrg := hR.2.1.1
      exact Or.inr ⟨rg, isR.cg3 (fun w hw => st w (by omega)) hgo g3 (by rw [st 124 (by omega)]) (by rw [st 124 (by omega)]) (by rw [st 124 (by omega)]) s14 hR⟩
theorem Inv.ld (h : Inv M G) (hl : cLd M G M1 G1) : Inv M1 G1 := by
  obtain ⟨htr, td, r, h0⟩ := h
  refine ⟨?_, td, r, h0.ld hl⟩
  unfold cTr at *
  rw [hl.1 0 (by omega), hl.1 124 (by omega)]
  exact htr
def rdV : Unit ⊕ Int → Int
  | .inl _ => 0
  | .inr v => v
def rdT : Unit ⊕ Int → Int
  | .inl _ => 1
  | .inr _ => 0
/-- the reference's led -/
theorem X11_led_ok (htr : cTr M) (h0 : Inv0 M G td r) (hn : i32 n) : M_X9_led (M, G) 0 n = some (ledR (asC M td) n (M 24 2).toNat 0 0) ∧ ∃ M2, M_X11_led (M, G) 124 n = some ((M2, G), rdV (ledR (asC M td) n (M 24 2).toNat 0 0)) ∧ M2 124 0 = rdT (ledR (asC M td) n (M 24 2).toNat 0 0) ∧ (∀ a, a ≠ 124 → M2 a = M a) ∧ Inv M2 G := by
  have hI : Inv M G := ⟨htr, td, r, h0⟩
  have hG := h0.1.1
  have hn' := hn
  unfold i32 at hn'
  have hh := h0.tw
  have hp0 := h0.1.2.1
  obtain ⟨m3, m4, m5⟩ := h0.now
  have p4 := pr0.p4 hp0
  have k0 := gk_0 hG
  have k24 := gk_24 hG
  have k124 := gk_124 hG
  have hFU := FU_big
  have hq := rQ.th h0.2.2.1.2 0
  have h1 : Inv0 (thM M) G td r := h0.rf hq
  have hf : ∀ a, a ≠ 124 → thM M a = M a := fun a ha => by unfold thM; rw [sr_a _ _ ha]
  have hI1 : Inv (thM M) G := th_tr hI h0
  have hq2 := rQ.th h1.2.2.1.2 1
  have hI2 : Inv (sr (thM M) 124 (u1 (thM M 124) 0 1)) G := by
    refine ⟨?_, td, r, h1.rf hq2⟩
    have := hI1.1
    unfold cTr at *
    simp (disch := omega) only [sr_s, sr_a, u1_k]
    exact this
  have hcls : ∀ rg, isR M G td rg → M_X9_led (M, G) 0 n = some (ledR (asC M td) n (M 24 2).toNat 0 0) := by
    intro rg hR
    unfold M_X9_led
    rw [tk_ok k0]
    refine led_run (T := Unit ⊕ Int) id (tw := M 24 2) ?_ ?_ (M 24 2).toNat FU 0 0 (by omega) (by omega) (by omega) (by omega) (by omega)
    · intro c t t0 t1 c0 c1
      have hl := X9_isLed_ok h0 hR t0 (by omega)
      show M_X9_led_b4 (M, G) 0 n c t = _
      unfold M_X9_led_b4
      rw [b_gr k0 (by omega), p4, b_gf k24, if_pos (by rw [w32_id (by omega) (by omega), w32_id (by omega) (by omega)]; exact t1), hl, Option.bind_some]
      by_cases y : asC M td t = true
      · rw [if_pos y, if_pos y, if_pos (by decide)]
      · rw [if_neg y, if_neg y, if_neg (by decide), w32_id (by omega) (by omega), w32_id (by omega) (by omega)]
        by_cases z : c = n
        · rw [if_pos z, if_pos z]; rfl
        · rw [if_neg z, if_neg z]
    · intro c c0 c1
      show M_X9_led_b4 (M, G) 0 n c (M 24 2) = _
      unfold M_X9_led_b4
      rw [b_gr k0 (by omega), p4, b_gf k24, if_neg (by omega)]
      rfl
  have hcls0 : M 24 2 = 0 → M_X9_led (M, G) 0 n = some (.inl ()) := by
    intro z
    unfold M_X9_led
    rw [tk_ok k0]
    refine led_run (T := Unit ⊕ Int) id (tw := 0) (L := fun _ => true) (n := n) ?_ ?_ 0 FU 0 0 (by omega) (by omega) (by omega) (by omega) (by omega)
    · intro c t t0 t1; omega
    · intro c c0 c1
      show M_X9_led_b4 (M, G) 0 n c 0 = _
      unfold M_X9_led_b4
      rw [b_gr k0 (by omega), p4, b_gf k24, z, if_neg (by omega)]
      rfl
  rcases h1.2.2.2.2.2 with hN | ⟨rg, hR⟩
  · have z : M 24 2 = 0 := by have := hN.2.2.2.1; rw [hf 24 (by omega)] at this; exact this
    rw [z]
    refine ⟨hcls0 z, _, ?_, ?_, fun a ha => by rw [sr_a _ _ ha]; exact hf a ha, hI2⟩
    · unfold M_X11_led
      rw [tk_ok k124, b_pf k124]
      show M_X11_led_w9 FU (thM M, G) 124 n 0 0 = _
      unfold M_X11_led_w9 M_X11_led_p54
      have hw : wh (S := (Int × Int)) (T := (Unit ⊕ (Hp × Int))) (fun a => M_X11_led_b9 (thM M, G) 124 n a.1 a.2) FU (0, 0) = some (.inl ()) := by
        refine led_run (T := Unit ⊕ (Hp × Int)) (fun q => match q with | .inl u => .inl u | .inr v => .inr ((thM M, G), v)) (tw := 0) (L := fun _ => true) (n := n) ?_ ?_ 0 FU 0 0 (by omega) (by omega) (by omega) (by omega) (by omega)
        · intro c t t0 t1; omega
        · intro c c0 c1
          show M_X11_led_b9 (thM M, G) 124 n c 0 = _
          unfold M_X11_led_b9
          rw [b_gf k124, hN.1, if_pos (by omega)]
      rw [hw, Option.bind_some, exi_l, b_pf k124]
      rfl
    · rw [sr_s, u1_s]; rfl
  · have hR0 : ∃ rg, isR M G td rg := by
      rcases h0.2.2.2.2.2 with hx | hx
      · exfalso
        have e1 : M 24 2 = 0 := hx.2.2.2.1
        have e2 := hR.cl.2.2.2.2.1.2.2.2.2.1
        rw [hf 24 (by omega)] at e2
        omega
      · exact hx
    obtain ⟨rg0, hR0⟩ := hR0
    have htd := h0.1.2.2.1
    have e24 : thM M 24 = M 24 := hf 24 (by omega)
    have hL : asC (thM M) td = asC M td := by
      funext t
      unfold asC
      rw [hf 25 (by omega), hf (td + 2) (by omega)]
    have m3' := hR.1
    have e3 : thM M rg 3 = M 24 2 := by rw [hR.2.2.2.1.2.2.2, e24]
    obtain ⟨r0, kr, -⟩ := hR.2.1
    have hw : wh (S := (Int × Int)) (T := (Unit ⊕ (Hp × Int))) (fun a => M_X11_led_b9 (thM M, G) 124 n a.1 a.2) FU (0, 0) = some ((fun q : Unit ⊕ Int => match q with | .inl u => (.inl u : Unit ⊕ (Hp × Int)) | .inr v => .inr ((thM M, G), v)) (ledR (asC M td) n (M 24 2).toNat 0 0)) := by
      refine led_run (T := Unit ⊕ (Hp × Int)) (fun q => match q with | .inl u => .inl u | .inr v => .inr ((thM M, G), v)) (tw := M 24 2) ?_ ?_ (M 24 2).toNat FU 0 0 (by omega) (by omega) (by omega) (by omega) (by omega)
      · intro c t t0 t1 c0 c1
        have hl := X11_isAsFirst_ok h1 hR t0 (by rw [e24]; exact t1)
        rw [hL] at hl
        show M_X11_led_b9 (thM M, G) 124 n c t = _
        unfold M_X11_led_b9
        rw [b_gf k124, if_neg (by omega), b_gr k124 (by omega), m3', b_gf kr, e3, if_pos (by rw [w32_id (by omega) (by omega), w32_id (by omega) (by omega)]; exact t1), hl, Option.bind_some]
        unfold M_X11_led_p48
        by_cases y : asC M td t = true
        · rw [if_pos y, if_pos y, if_neg (by decide)]
        · rw [if_neg y, if_neg y, if_pos (by decide), w32_id (by omega) (by omega), w32_id (by omega) (by omega)]
          by_cases z : c = n
          · rw [if_pos z, if_pos z]
          · rw [if_neg z, if_neg z]
      · intro c c0 c1
        show M_X11_led_b9 (thM M, G) 124 n c (M 24 2) = _
        unfold M_X11_led_b9
        rw [b_gf k124, if_neg (by omega), b_gr k124 (by omega), m3', b_gf kr, e3, if_neg (by omega)]
    have hu : M_X11_led (M, G) 124 n = (some ((fun q : Unit ⊕ Int => match q with | .inl u => (.inl u : Unit ⊕ (Hp × Int)) | .inr v => .inr ((thM M, G), v)) (ledR (asC M td) n (M 24 2).toNat 0 0))).bind (fun z => exi z (fun b => M_X11_led_p54 (thM M, G) 124) (fun q => some q)) := by
      unfold M_X11_led
      rw [tk_ok k124, b_pf k124]
      show M_X11_led_w9 FU (thM M, G) 124 n 0 0 = _
      unfold M_X11_led_w9
      rw [hw]
    refine ⟨hcls rg0 hR0, ?_⟩
    rw [hu]
    cases hv : ledR (asC M td) n (M 24 2).toNat 0 0 with
    | inl u =>
      refine ⟨_, ?_, ?_, fun a ha => by rw [sr_a _ _ ha]; exact hf a ha, hI2⟩
      · rw [Option.bind_some]
        show M_X11_led_p54 (thM M, G) 124 = _
        unfold M_X11_led_p54
        rw [b_pf k124]
        rfl
      · rw [sr_s, u1_s]; rfl
    | inr v =>
      refine ⟨thM M, rfl, ?_, hf, hI1⟩
      unfold thM
      rw [sr_s, u1_s]; rfl
/-- the class answers or throws, the reference alike behind it -/
theorem q_led (h : Inv M G) (hn : i32 n) : ∃ q : Unit ⊕ Int, M_X9_led (M, G) 0 n = some q ∧ (0 ≤ rdV q ∧ rdV q ≤ 6) ∧ ∀ M1 G1, cLd M G M1 G1 → ∃ M2, M_X11_led (M1, G1) 124 n = some ((M2, G1), rdV q) ∧ M_X11_thrown (M2, G1) 124 = some (rdT q) ∧ M2 145 = M1 145 ∧ Inv M2 G1 := by
  obtain ⟨htr, td, r, h0⟩ := h
  have hh := h0.tw
  have htd := h0.1.2.2.1
  refine ⟨_, (X11_led_ok htr h0 hn).1, ?_, fun M1 G1 hl => ?_⟩
  · cases hv : ledR (asC M td) n (M 24 2).toNat 0 0 with
    | inl u => show (0 : Int) ≤ 0 ∧ (0 : Int) ≤ 6; omega
    | inr v =>
      have := ledR_b _ _ _ (by omega) hv
      show 0 ≤ v ∧ v ≤ 6
      omega
  · have h1 := h0.ld hl
    have htr1 : cTr M1 := by
      unfold cTr at *
      rw [hl.1 0 (by omega), hl.1 124 (by omega)]
      exact htr
    have k124 := gk_124 h1.1.1
    obtain ⟨-, M2, e1, e2, e3, e4⟩ := X11_led_ok htr1 h1 hn
    have hL : asC M1 td = asC M td := by
      funext t
      unfold asC
      rw [hl.1 25 (by omega), hl.1 (td + 2) (by omega)]
    rw [hL, hl.1 24 (by omega)] at e1 e2
    refine ⟨M2, e1, ?_, e3 145 (by omega), e4⟩
    unfold M_X11_thrown
    rw [tk_ok k124, b_gf k124, e2]
end L2
