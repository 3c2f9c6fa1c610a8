/-! the line of what was seen, whole -/
def sc1 (h : Hp) (R v : Int) : Option (Hp × Int) := bd (M_X4_wholeDue h R 1 20) fun h x19 => if w32 x19 = (-1) then M_X4_readSeen_p50 h R v x19 (-1) else (gr 14 h R 4).bind fun x20 => (gr 15 h x20 1).bind fun x21 => (gf 18 h x21 0).bind fun x22 => bd (M_X4_wholeDue h R 0 (x22 - 1)) fun h x23 => M_X4_readSeen_p50 h R v x19 x23
section SM
variable {Mc Mr Mc1 Mr1 : Int → Int → Int} {Gc Gr : GG} {R e k sp rd wd hi tw mk gs sn : Int} {f : Int → Int}
theorem LDv.nm (hd : LDv sp rd wd hi tw mk gs sn Mc Mr) : nmR sp rd tw Mc Mr := ⟨hd.1.1.1, hd.1.1.2.1, hd.2.2.1.1.2.2.1, hd.2.1.2.2.2.2.2.2.2.2, hd.2.2.1.2.1.2.2.2.1, hd.2.2.1.2.2.2.1, hd.2.2.1.2.2.2.2.1, hd.2.2.2.1⟩
theorem c_wd {γ : Type} {g : Int → Option γ} (h : LK Gc Gr R e sp rd f Mc Mr k) (hd : LDv sp rd wd hi tw mk gs sn Mc Mr) : ((gr 14 (Mc, Gc) R 4).bind fun a => (gr 15 (Mc, Gc) a 1).bind fun b => (gf 18 (Mc, Gc) b 0).bind g) = g wd := by
  have hsp := h.1.2.2.2.2
  have q4 := h.c4
  have p1 := hd.1.1.1
  have n0 := hd.2.2.1.1.1
  rw [b_gr h.kR (by omega), q4, b_gr h.gc.1 (by omega), p1, b_gf h.gc.2.1.2.1, n0]
theorem c_hi {γ : Type} {g : Int → Option γ} (h : LK Gc Gr R e sp rd f Mc Mr k) (hd : LDv sp rd wd hi tw mk gs sn Mc Mr) : ((gr 14 (Mc, Gc) R 4).bind fun a => (gr 15 (Mc, Gc) a 1).bind fun b => (gf 18 (Mc, Gc) b 1).bind g) = g hi := by
  have hsp := h.1.2.2.2.2
  have q4 := h.c4
  have p1 := hd.1.1.1
  have n0 := hd.2.2.1.1.2.1
  rw [b_gr h.kR (by omega), q4, b_gr h.gc.1 (by omega), p1, b_gf h.gc.2.1.2.1, n0]
theorem r_wd {γ : Type} {g : Int → Option γ} (h : LK Gc Gr R e sp rd f Mc Mr k) (hd : LDv sp rd wd hi tw mk gs sn Mc Mr) : ((gr 21 (Mr, Gr) 124 4).bind fun a => (gf 20 (Mr, Gr) a 0).bind g) = g wd := by
  have hG := h.hr
  have k124 := gk_124 hG
  have hk := h.kd
  have m4 := h.m4
  have n0 := hd.2.2.1.2.1.1
  rw [b_gr k124 (by omega), m4, b_gf hk.2, n0]
theorem r_hi {γ : Type} {g : Int → Option γ} (h : LK Gc Gr R e sp rd f Mc Mr k) (hd : LDv sp rd wd hi tw mk gs sn Mc Mr) : ((gr 21 (Mr, Gr) 124 4).bind fun a => (gf 20 (Mr, Gr) a 1).bind g) = g hi := by
  have hG := h.hr
  have k124 := gk_124 hG
  have hk := h.kd
  have m4 := h.m4
  have n0 := hd.2.2.1.2.1.2.1
  rw [b_gr k124 (by omega), m4, b_gf hk.2, n0]
theorem s_seen (h : LK Gc Gr R e sp rd f Mc Mr k) (hd : LDv sp rd wd hi tw mk gs sn Mc Mr) (w2 : 2 ≤ wd) (s7 : sn < 8) : O2 (M_X4_readSeen (Mc, Gc) R) (snT (Mr, Gr)) (LnK Gc Gr R e sp rd f Mc Mr k) := by
  have hG := h.hr
  have k124 := gk_124 hG
  have kR := h.kR
  have hsp := h.1.2.2.2.2
  have hR := h.1.1.2.1
  have hrd := h.kd.1
  have ke := h.2.2.2.2.1
  have hdim : (2 ≤ wd ∧ wd ≤ 6) ∧ (2 ≤ hi ∧ hi ≤ 6) ∧ 2 ≤ mk ∧ mk ≤ 6 := by
    have := hd.2.2.1.2.2.1
    omega
  have hfl : ∀ {Ma Mb : Int → Int → Int}, tS R Mc Mr Ma Mb → LX Gc Gr R e sp rd f Ma Mb → LnK Gc Gr R e sp rd f Mc Mr k ((Ma, Gc), 0) (Mb, Gr) := fun {Ma Mb} ht hF => LnK.no ht.fs (sh_t hR hsp hd.1 ht.1) hF
  obtain ⟨a, ha, b, hb, hc⟩ := s_town h hd.nm
  rcases hc with ⟨v, v0, v1, y1, rfl, rfl⟩ | ⟨Mc1, Mr1, rfl, rfl, ht, hF⟩
  · have t6 := hd.2.2.1.2.2.2.2.1
    have hct : M_X4_readSeen (Mc, Gc) R = (M_X4_take (Mc, Gc) R).bind (fun h => sc1 h R v) := by
      unfold M_X4_readSeen
      rw [tk_ok kR, ha]
      show (if w32 v = -1 then _ else _) = _
      rw [if_neg (by rw [w32_id (by omega) (by omega)]; omega)]
      rfl
    have hrt : snT (Mr, Gr) = (M_X11_goesOn (Mr, Gr) 124).bind (fun h => sn1 h v) := by
      unfold snT M_X11_readTown
      rw [tk_ok k124, hb]
      show bd ((M_X11_goesOn (Mr, Gr) 124).bind fun h => some (h, v)) _ = _
      cases M_X11_goesOn (Mr, Gr) 124 <;> rfl
    rw [hct, hrt]
    refine O2.bind (s_take h (by omega)) ?_
    rintro _ _ ⟨Mc1, Mr1, rfl, rfl, ht1, hL1⟩
    have hk1 : k < tB f e k := by
      have hp := tkB (f := f) ke
      have hq := tkA (f := f) ke
      have := hp.2.2 (by omega)
      omega
    have hd1 := hd.t hR hsp hrd ht1
    unfold sc1 sn1
    refine O2.bd2 (s_whole hL1 (by omega) (by omega) (by omega) (by omega)) ?_
    rintro _ _ ⟨Mc2, Mr2, ht2, ⟨b, rfl, rfl, b0, b1, k2, hk2, hL2⟩ | ⟨rfl, ⟨u, rfl⟩, hF⟩⟩
    · have ht2 := ht1.tr ht2
      have hd2 := hd.t hR hsp hrd ht2
      dsimp only
      unfold sn2
      rw [if_neg (by rw [w32_id (by omega) (by omega)]; omega), c_wd hL2 hd2, r_wd hL2 hd2]
      refine O2.bd2 (s_whole hL2 (by omega) (by omega) (by omega) (by omega)) ?_
      rintro _ _ ⟨Mc3, Mr3, ht3, ⟨x, rfl, rfl, x0, x1, k3, hk3, hL3⟩ | ⟨rfl, ⟨u, rfl⟩, hF⟩⟩
      · have ht3 := ht2.tr ht3
        have hd3 := hd.t hR hsp hrd ht3
        dsimp only
        unfold sn3 M_X4_readSeen_p50
        rw [if_neg (by rw [w32_id (by omega) (by omega)]; omega), c_hi hL3 hd3, r_hi hL3 hd3]
        refine O2.bd2 (s_whole hL3 (by omega) (by omega) (by omega) (by omega)) ?_
        rintro _ _ ⟨Mc4, Mr4, ht4, ⟨y, rfl, rfl, y0, y9, k4, hk4, hL4⟩ | ⟨rfl, ⟨u, rfl⟩, hF⟩⟩
        · have ht4 := ht3.tr ht4
          have hd4 := hd.t hR hsp hrd ht4
          dsimp only
          unfold sn4 M_X4_readSeen_p77
          rw [if_neg (by rw [w32_id (by omega) (by omega)]; omega)]
          refine O2.bd2 (s_mark hL4 hd4.2.2.1.1.2.2.2.1 hd4.2.2.1.2.1.2.2.1 (by omega) (by omega)) ?_
          rintro _ _ ⟨Mc5, Mr5, ht5, ⟨m, rfl, rfl, m0, m9, k5, hk5, hL5⟩ | ⟨rfl, ⟨u, rfl⟩, hF⟩⟩
          · have ht5 := ht4.tr ht5
            have hd5 := hd.t hR hsp hrd ht5
            dsimp only
            refine (sn_end hL5 hd5 w2 s7 ⟨v0, v1⟩ ⟨b0, b1⟩ ⟨x0, by omega⟩ ⟨y0, by omega⟩ ⟨m0, by omega⟩).mono ?_
            rintro _ _ ⟨Mc6, Mr6, rfl, rfl, hf6, hL6, hd6⟩
            exact LnK.ok (ht5.fs.tr hf6) (by omega) hL6 hd6
          · dsimp only
            rw [sn_p94]
            exact ⟨_, rfl, _, sn5_o hF, hfl (ht4.tr ht5) hF⟩
        · dsimp only
          rw [sn_p77]
          exact ⟨_, rfl, _, sn4_o hF, hfl (ht3.tr ht4) hF⟩
      · dsimp only
        rw [sn_p50]
        exact ⟨_, rfl, _, sn3_o hF, hfl (ht2.tr ht3) hF⟩
    · dsimp only
      rw [if_pos (by decide), sn_p50]
      exact ⟨_, rfl, _, sn2_o hF, hfl (ht1.tr ht2) hF⟩
  · refine ⟨((Mc1, Gc), 0), ?_, (Mr1, Gr), ?_, hfl ht hF⟩
    · apply Ok.eq
      unfold M_X4_readSeen
      refine k_tk kR ?_
      refine k_bd ha ?_
      exact k_ifT (by decide) (Ok.ret rfl)
    · unfold snT M_X11_readTown
      rw [tk_ok k124, hb]
      show bd ((M_X11_goesOn (Mr1, Gr) 124).bind fun h => some (h, 0)) _ = _
      rw [X11_over hG hF.2.1]
      exact sn1_o hF
end SM
