/-! strokes: the class's answer -/
section S9
variable {M M1 M2 N : Int → Int → Int} {G : GG} {mk n b t u mark L p due td r rg : Int} {ce ce' : Int → Int}
/-- strokes in the map of t are enough -/
def Wst (M : Int → Int → Int) (t mark u p due n : Int) (S : Int → Bool) : Prop := bh (M 24 0) (M 24 1) (M 24 2) (M 26) (M 27) (M 24 6) (drw (M 25) t mark S) n.toNat (36 * u + p) = due
/-- only the wanted places of the first map count -/
theorem tV_dep (hP : chP M G 24 mk n b u) (h : ∀ q, 0 ≤ q → q < 36 → bt (M 105 b) q = true → ce (36 * M 100 b + q) = ce' (36 * M 100 b + q)) : ∀ (d : Nat) (q : Int), b + d ≤ n → 0 ≤ q → q < 36 → bt (M 105 (b + d)) q = true → tV M ce (b + d) q = tV M ce' (b + d) q
  | 0, q, _, q0, q1, hq => by
    rw [show b + ((0 : Nat) : Int) = b by omega] at hq ⊢
    rw [tV_begin hP q0 q1, tV_begin hP q0 q1]
    exact h q q0 q1 hq
  | d + 1, q, hd, q0, q1, hq => by
    have hP' := hP
    obtain ⟨⟨hG, ⟨hp99, hdd, hmp⟩, ⟨hg, hm, hwf, hw99⟩, ⟨l0, l1', l2, b0, bn, n6, ln, lt, lc, lb⟩, hD⟩, hw, hc, -⟩ := hP
    obtain ⟨a1, a2, b1, b2, x1, x6, k2, k6, hco, her, het, -⟩ := hwf
    have hs0 : b < b + ((d + 1 : Nat) : Int) := by omega
    obtain ⟨ws1, ws2, ws3⟩ := hw (b + ((d + 1 : Nat) : Int)) (by omega) hd
    obtain ⟨j, j0, j1, hj⟩ := ws3 q q0 q1 hq
    have hin := (ws2 j j0 j1).1
    rw [hj] at hin
    have hcl := hc (b + ((d + 1 : Nat) : Int)) hs0 hd q q0 q1 hq
    have ht := lt (b + ((d + 1 : Nat) : Int)) (by omega) hd
    have hes := het _ ht.1 ht.2
    rw [tV_step hP' hs0 hd hin, tV_step hP' hs0 hd hin]
    have e1 : b + ((d + 1 : Nat) : Int) - 1 = b + (d : Int) := by omega
    unfold clP at hcl
    rw [e1] at hcl ⊢
    refine mkV_dep a1 a2 b1 b2 hes hin (fun hs => ?_) (fun h6 dd d0 d1 hdn => ?_)
    · have hsi := inV_36 a2 b2 ((srcC_in (dr := M 101 (b + ((d + 1 : Nat) : Int))) a1 a2 b1 b2 hes hin).resolve_left hs)
      exact tV_dep hP' h d _ (by omega) hsi.1 hsi.2 (hcl.1 hs)
    · have hsi := inV_36 a2 b2 ((bsV_in (d := dd) a2 hin).resolve_left hdn)
      exact tV_dep hP' h d _ (by omega) hsi.1 hsi.2 (hcl.2 h6 dd d0 d1 hdn)
theorem tV_dep_n (hP : chP M G 24 mk n b u) (h : ∀ q, 0 ≤ q → q < 36 → bt (M 105 b) q = true → ce (36 * M 100 b + q) = ce' (36 * M 100 b + q)) (p0 : 0 ≤ p) (p1 : p < 36) (hbt : bt (M 105 n) p = true) : tV M ce n p = tV M ce' n p := by
  have hb := hP.1.2.2.2.1
  obtain ⟨-, -, -, b0, bn, -⟩ := hb
  have := tV_dep hP h (n - b).toNat p (by omega) p0 p1 (by rw [show b + (((n - b).toNat : Nat) : Int) = n by omega]; exact hbt)
  rw [show b + (((n - b).toNat : Nat) : Int) = n by omega] at this
  exact this
theorem Wst_tV (hP : chP M1 G 24 mk n b u) (f : ∀ a, (24 ≤ a ∧ a < 28) → M1 a = M a) (S : Int → Bool) : Wst M t mark u p due n S ↔ tV M1 (drw (M1 25) t mark S) n p = due := by
  unfold Wst tV
  rw [f 24 (by omega), f 25 (by omega), f 26 (by omega), f 27 (by omega), hP.1.2.2.2.1.2.2.2.2.2.2.1]
theorem dep_cl (hP : chP M1 G 24 mk n b u) (f : ∀ a, (24 ≤ a ∧ a < 28) → M1 a = M a) (hT : M1 100 b = t) (p0 : 0 ≤ p) (p1 : p < 36) (hbt : bt (M1 105 n) p = true) : dep (Wst M t mark u p due n) (okO M1 b mark) := by
  intro S S' hS hW
  rw [Wst_tV hP f] at hW ⊢
  rw [← hW]
  refine tV_dep_n hP (fun q q0 q1 hq => ?_) p0 p1 hbt
  rw [hT, drw_at q0 q1, drw_at q0 q1]
  by_cases y : M1 25 (36 * t + q) = mark
  · rw [y]
    split <;> split <;> rfl
  · have := hS q q0 q1 ⟨hq, by rw [hT]; exact y⟩
    rw [this]
theorem dep_no (hP : chP M1 G 24 mk n b u) (f : ∀ a, (24 ≤ a ∧ a < 28) → M1 a = M a) (hT : M1 100 b ≠ t) (p0 : 0 ≤ p) (p1 : p < 36) (hbt : bt (M1 105 n) p = true) : dep (Wst M t mark u p due n) (fun _ => False) := by
  intro S S' _ hW
  rw [Wst_tV hP f] at hW ⊢
  rw [← hW]
  refine tV_dep_n hP (fun q q0 q1 hq => ?_) p0 p1 hbt
  unfold drw
  rw [if_neg (by omega), if_neg (by omega)]
theorem nW_no {W : (Int → Bool) → Prop} (hD : dep W (fun _ => False)) (h : nW W 0) : nW W 1 ∧ nW W 2 ∧ nW W 3 := by
  have hl : lsI (fun _ => False) (fun _ => 0) 0 36 := ⟨by omega, by omega, fun i i0 i1 => by omega, fun i j i0 i1 i2 => by omega, fun q _ _ hq _ => hq.elim⟩
  have n1 : nW W 1 := nW_step (m := 1) hD hl (by omega) h (fun a b c hv => by unfold pkV at hv; omega)
  have n2 : nW W 2 := nW_step (m := 2) hD hl (by omega) n1 (fun a b c hv => by unfold pkV at hv; omega)
  exact ⟨n1, n2, nW_step (m := 3) hD hl (by omega) n2 (fun a b c hv => by unfold pkV at hv; omega)⟩
/-- strokes leaves alone what lasts -/
theorem cQ.st {A B : Int} (hs : cQ M M1) (f : ∀ a, (a < 106 ∨ 114 < a) → M2 a = M1 a) (h106 : pr106 (M2 106)) (h111 : pr111 (M2 111)) (ha : M2 111 1 = A) (hb : M2 111 2 = B) (hAB : twoR A B) : cQ M M2 := by
  obtain ⟨g, g0, v1, v2, v3, v4, v5, v6, v7, v8, v9, v10⟩ := hs
  refine ⟨fun a h => ?_, fun j hj => ?_, ?_, ?_, ?_, h106, h111, ?_, ?_, ?_, ?_, ?_⟩
  · rw [f a (by omega)]; exact g a h
  · rw [f 0 (by omega)]; exact g0 j hj
  · unfold shW mW zoW at *; simp (disch := omega) only [f]; exact v1
  · unfold shW mW zoW at *; simp (disch := omega) only [f]; exact v2
  · unfold chI at *; simp (disch := omega) only [f]; exact v3
  · unfold twoR at hAB; rw [ha, hb]; exact hAB
  · rw [f 117 (by omega)]; exact v7
  · rw [f 123 (by omega)]; exact v8
  · rw [f 118 (by omega)]; exact v9
  · rw [f 122 (by omega)]; exact v10
theorem X6_fewest_ok (h0 : Inv0 M G td r) (hR : isR M G td rg) (ht : 0 ≤ t ∧ t < M 24 2) (hmk : 0 ≤ mark ∧ mark < M td 0) (hu : 0 ≤ u ∧ u < M 24 2) (hin : inV (M 24 0) (M 24 1) p) (hd : 0 ≤ due ∧ due < M td 0) (hn : 0 ≤ n ∧ n ≤ 12) : Ok (M_X6_fewest (M, G) 106 24 t mark u p due n) (fun z => ∃ M1 v x y w, z = ((M1, G), v) ∧ cQ M M1 ∧ strP (Wst M t mark u p due n) v x y w ∧ (1 ≤ v → pkM (M1 108) v x y w)) := by
  have hG := h0.1.1
  have hmk6 := hR.mk
  have hs := h0.2.1
  obtain ⟨hp106, hp111, hpt⟩ := (⟨hs.2.2.2.1, hs.2.2.2.2.1, hs.2.2.2.2.2.1⟩ : _ ∧ _ ∧ _)
  have hp36 := inV_36 (by have := hR.cl.2.2.2.2.1.2.1; exact this) (by have := hR.cl.2.2.2.2.1.2.2.2.1; exact this) hin
  have hh := h0.tw
  obtain ⟨A, B, pa, pb, hAB⟩ : ∃ A B, M 111 1 = A ∧ M 111 2 = B ∧ twoR A B := ⟨_, _, rfl, rfl, by unfold twoR; exact hpt⟩
  have k106 := gk_106 hG
  have p0 := pr106.p0 hp106
  unfold M_X6_fewest
  repeat' (with_reducible first | refine k_gf (by first | assumption | omega) (by first | assumption | ((try simp (disch := omega) only [sr_s, sr_a, sr_sr, u1_s, u1_k, p0]); exact rfl)) ?_ | refine k_gr (by first | assumption | omega) (by first | assumption | ((try simp (disch := omega) only [sr_s, sr_a, sr_sr, u1_s, u1_k, p0]); exact rfl)) (by omega) ?_ | refine k_ald (by first | assumption | omega) (by first | assumption | exact rfl) (by omega) (by omega) (by omega) (by first | assumption | ((try simp (disch := omega) only [sr_s, sr_a, sr_sr, u1_s, u1_k, p0]); exact rfl)) ?_ | refine k_ifT (by first | (simp (disch := omega) only [w32_id]; first | done | omega) | omega) ?_ | refine k_ifF (by first | (simp (disch := omega) only [w32_id]; first | done | omega) | omega) ?_ | refine k_pf (by first | assumption | omega) (by (try simp (disch := omega) only [sr_s, sr_a, sr_sr, u1_u1, p0]); exact rfl) ?_ | refine k_ast (by first | assumption | omega) (by first | assumption | exact rfl) (by omega) (by omega) (by omega) (by (try simp (disch := omega) only [sr_s, sr_a, sr_sr, u1_u1, p0]); exact rfl) ?_ | refine k_irm (by omega) (by omega) (by omega) (by omega) ?_ | refine k_idv (by omega) (by omega) (by omega) (by omega) ?_ | refine k_tk (by first | assumption | omega) ?_ | refine k_rp (by omega) ?_ | refine k_aldR (by first | assumption | omega) (by first | assumption | exact rfl) (by omega) (by omega) (by omega) (by first | assumption | ((try simp (disch := omega) only [sr_s, sr_a, sr_sr, u1_s, u1_k, p0]); exact rfl)) (by omega) ?_ | refine k_astR (by first | assumption | omega) (by first | assumption | exact rfl) (by omega) (by omega) (by omega) (by first | assumption | omega) (by (try simp (disch := omega) only [sr_s, sr_a, sr_sr, u1_u1, p0]); exact rfl) ?_ | refine k_pz (by first | assumption | omega) (by omega) (by (try simp (disch := omega) only [sr_s, sr_a, sr_sr, u1_u1, p0]); exact rfl) ?_ | refine k_alen (by first | assumption | omega) (by first | assumption | exact rfl) ?_ | refine k_cpy (by first | assumption | omega) (by first | assumption | omega) (by first | assumption | exact rfl) (by first | assumption | exact rfl) (by omega) (by omega) (by omega) (by omega) (by omega) (by omega) (by omega) (by omega) (by (try simp (disch := omega) only [sr_s, sr_a, sr_sr, u1_u1, p0]); exact rfl) ?_)
  refine Ok.bd (X0_markBehind_ok (M := M) (w := 24) (t := u) (p := p) (n := n) hG hs.2.2.1 (hR.wOK hG h0.now) hu.1 hu.2 hn.1 (by omega) hin) ?_
  rintro _ ⟨M1, rfl, f, b, hF, hbt⟩
  dsimp only
  have hq1 : cQ M M1 := cQ.ch hs f hF.I
  have f24 : ∀ a, (24 ≤ a ∧ a < 28) → M1 a = M a := fun a ha => f a (by omega)
  have hbase : bhM M 24 n.toNat (36 * u + p) = due ↔ Wst M t mark u p due n (fun _ => false) := by
    unfold Wst
    rw [drw_no]
    exact Iff.rfl
  have hvb : 0 ≤ bhM M 24 n.toNat (36 * u + p) ∧ bhM M 24 n.toNat (36 * u + p) < 6 := by
    have := (bh_wf hR.cl.2.2.2.2.1 n.toNat).2.2.2.2.2.2.2.2.2.2.2.2.2.2 (36 * u + p)
    exact ⟨this.1, Int.lt_of_lt_of_le this.2 hmk6.2⟩
  generalize bhM M 24 n.toNat (36 * u + p) = V at *
  have g106 : M1 106 = M 106 := f 106 (by omega)
  have g111 : M1 111 = M 111 := f 111 (by omega)
  by_cases y : V = due
  · refine k_ifT (by rw [y]) ?_
    refine Ok.ret ⟨M1, 0, 0, 0, 0, rfl, hq1, Or.inl ⟨rfl, fun z => z (hbase.1 y), rfl, rfl, rfl⟩, fun z => by omega⟩
  · have n0 : nW (Wst M t mark u p due n) 0 := fun z => y (hbase.2 z)
    refine k_ifF (by rw [w32_id (by omega) (by omega), w32_id (by omega) (by omega)]; exact y) ?_
    refine k_gr k106 (v := 99) (by rw [g106]; exact p0) (by omega) (k_eq (X0_beginTown_ok hF) ?_)
    have hTb : 0 ≤ M1 100 b ∧ M1 100 b < M1 24 2 := by
      have hcl := hF.1.1.2.2.2.1
      obtain ⟨-, -, -, b0, bn, -, -, lt, -⟩ := hcl
      exact lt b (by omega) bn
    rw [f 24 (by omega)] at hTb
    by_cases yT : M1 100 b = t
    · refine k_ifT (by rw [yT]) ?_
      refine Ok.bind (X6_listOpen_ok (mark := mark) hF hmk6.2 (by rw [g106]; exact hp106) hmk.1 hmk.2) ?_
      rintro _ ⟨M2, L, rfl, f2, f2', hL3, hL⟩
      have hL0 := hL.1
      have hL36 := hL.2.1
      have hq106 : pr106 (M2 106) := pr106.u hp106 (fun k hk => by rw [f2' k (by omega), g106])
      have hF2 : chF M2 G 24 (M td 0) n b u := chF_fr hF (fun a ha => f2 a (by omega) (by omega))
      have fr2 : ∀ a, a < 106 → M2 a = M1 a := fun a ha => f2 a (by omega) (by omega)
      have hL2 : lsI (okO M2 b mark) (M2 107) L 36 := by
        have : okO M2 b mark = okO M1 b mark := by
          funext q
          unfold okO
          rw [fr2 105 (by omega), fr2 25 (by omega), fr2 100 (by omega)]
        rw [this]
        exact hL
      have f242 : ∀ a, (24 ≤ a ∧ a < 28) → M2 a = M a := fun a ha => (fr2 a (by omega)).trans (f24 a ha)
      have hT2 : M2 100 b = t := by rw [fr2 100 (by omega)]; exact yT
      have hbt2 : bt (M2 105 n) p = true := by rw [fr2 105 (by omega)]; exact hbt
      have hD : dep (Wst M t mark u p due n) (okO M2 b mark) := dep_cl hF2.1 f242 hT2 hp36.1 hp36.2 hbt2
      have hC : fnC M2 G (M td 0) n b u mark L := ⟨hF2, hmk6.2, hq106, hL3, hL0, hL36, fun i i0 i1 => ⟨(hL2.2.2.1 i i0 i1).1, (hL2.2.2.1 i i0 i1).2.1⟩, hmk.1, hmk.2⟩
      have hach : ∀ m x y z, ach M2 b mark m p due n x y z ↔ Wst M t mark u p due n (pkD (M2 107) m x y z) := fun m x y z => by
        rw [Wst_tV hF2.1 f242]
        unfold ach
        rw [hT2]
      have hb2 : tV M2 (M2 25) n p ≠ due := fun z => n0 ((Wst_tV hF2.1 f242 _).2 (by rw [drw_no]; exact z))
      have hFn : fnF M2 M2 A B := ⟨fun _ _ => rfl, by rw [f2 111 (by omega) (by omega), g111]; exact hp111, by rw [f2 111 (by omega) (by omega), g111]; exact pa, by rw [f2 111 (by omega) (by omega), g111]; exact pb, hAB⟩
      have hcq : ∀ M3 A' B', fnF M2 M3 A' B' → cQ M M3 := fun M3 A' B' h => cQ.st hq1 (fun a ha => (h.1 a (by omega)).trans (f2 a (by omega) (by omega))) (by rw [h.1 106 (by omega)]; exact hq106) h.2.1 h.2.2.1 h.2.2.2.1 h.2.2.2.2
      unfold M_X6_fewest_w43
      have hlo : Ok (wh (S := (Hp × Int)) (T := (Hp ⊕ (Hp × Int))) (fun a => M_X6_fewest_b43 a.1 106 mark p due a.2) FU ((M2, G), 1)) (lo (fun h => ∃ M3 A' B', h = (M3, G) ∧ fnF M2 M3 A' B' ∧ nW (Wst M t mark u p due n) 1 ∧ nW (Wst M t mark u p due n) 2 ∧ nW (Wst M t mark u p due n) 3) (fun z => ∃ M3 A' B' v x y w, z = ((M3, G), v) ∧ fnF M2 M3 A' B' ∧ strP (Wst M t mark u p due n) v x y w ∧ pkM (M3 108) v x y w)) := by
        refine wh_for (fun i s => ∃ M3 A' B', s = ((M3, G), ((i + 1 : Nat) : Int)) ∧ fnF M2 M3 A' B' ∧ nW (Wst M t mark u p due n) (i : Int) ∧ (1 ≤ i → nW (Wst M t mark u p due n) 1) ∧ (2 ≤ i → nW (Wst M t mark u p due n) 2)) _ 3 (by omega) ⟨M2, A, B, rfl, hFn, n0, fun z => by omega, fun z => by omega⟩ ?_ ?_
        · rintro i _ hi ⟨M3, A', B', rfl, hF3, hni, hn1, hn2⟩
          have hm : 1 ≤ ((i + 1 : Nat) : Int) ∧ ((i + 1 : Nat) : Int) ≤ 3 := by omega
          have hni' : nW (Wst M t mark u p due n) (((i + 1 : Nat) : Int) - 1) := by rw [show ((i + 1 : Nat) : Int) - 1 = i by omega]; exact hni
          have e3 : M3 106 3 = L := by rw [hF3.1 106 (by omega)]; exact hL3
          unfold M_X6_fewest_b43
          dsimp only
          refine k_ifF (by rw [w32_id (by omega) (by omega)]; omega) (k_gf k106 e3 ?_)
          by_cases yL : L < ((i + 1 : Nat) : Int)
          · refine k_ifT (by rw [w32_id (by omega) (by omega), w32_id (by omega) (by omega)]; exact yL) (Ok.ret ⟨M3, A', B', rfl, hF3, ?_⟩)
            have hm1 : nW (Wst M t mark u p due n) ((i + 1 : Nat) : Int) := nW_step hD hL2 hm hni' (fun a b c hv => by unfold pkV at hv; omega)
            have hi3 : i = 0 ∨ i = 1 ∨ i = 2 := by omega
            rcases hi3 with rfl | rfl | rfl
            · have n2 : nW (Wst M t mark u p due n) 2 := nW_step (m := 2) hD hL2 (by omega) hm1 (fun a b c hv => by unfold pkV at hv; omega)
              exact ⟨hm1, n2, nW_step (m := 3) hD hL2 (by omega) n2 (fun a b c hv => by unfold pkV at hv; omega)⟩
            · exact ⟨hn1 (by omega), hm1, nW_step (m := 3) hD hL2 (by omega) hm1 (fun a b c hv => by unfold pkV at hv; omega)⟩
            · exact ⟨hn1 (by omega), hn2 (by omega), hm1⟩
          · refine k_ifF (by rw [w32_id (by omega) (by omega), w32_id (by omega) (by omega)]; exact yL) ?_
            refine Ok.bd (X6_find_ok (p := p) (due := due) hC hm (by omega) hF3 hp36.1 hp36.2 hbt2 hd.1 (by omega) hb2) ?_
            rintro _ ⟨M4, A4, B4, hF4, (⟨x, yy, z, rfl, ⟨hv, ha, hl⟩, hpk⟩ | ⟨rfl, hall⟩)⟩
            · refine k_ifF (by show ¬ w32 1 = 0; decide) ?_
              have hfs := fsW_of hD hL2 hm hni' hv ((hach _ _ _ _).1 ha) (fun a' b' c' hv' hl' hw' => hl a' b' c' hv' hl' ((hach _ _ _ _).2 hw'))
              refine Ok.ret ⟨M4, A4, B4, _, _, _, _, rfl, hF4, Or.inr (Or.inl ⟨by omega, n0, fun z => hn1 (by omega), fun z => hn2 (by omega), hfs⟩), hpk.1, fun z => by rw [if_pos z]; exact hpk.2.1 z, fun z => by rw [if_pos z]; exact hpk.2.2 z⟩
            · refine k_ifT (by show w32 0 = 0; decide) ?_
              have hm1 : nW (Wst M t mark u p due n) ((i + 1 : Nat) : Int) := nW_step hD hL2 hm hni' (fun a b c hv hw => hall a b c hv ((hach _ _ _ _).2 hw))
              refine Ok.ret ⟨M4, A4, B4, rfl, hF4, hm1, fun z => ?_, fun z => ?_⟩
              · by_cases q : i = 0
                · subst q; exact hm1
                · exact hn1 (by omega)
              · by_cases q : i = 1
                · subst q; exact hm1
                · exact hn2 (by omega)
        · rintro _ ⟨M3, A', B', rfl, hF3, hni, hn1, hn2⟩
          unfold M_X6_fewest_b43
          dsimp only
          exact k_ifT (by decide) (Ok.ret ⟨M3, A', B', rfl, hF3, hn1 (by omega), hn2 (by omega), hni⟩)
      refine Ok.bind hlo ?_
      intro z hz
      cases z with
      | inl h =>
        obtain ⟨M3, A', B', rfl, hF3, n1, n2, n3⟩ := hz
        rw [exi_l]
        unfold M_X6_fewest_p81
        exact Ok.ret ⟨M3, -2, 0, 0, 0, rfl, hcq M3 A' B' hF3, Or.inr (Or.inr ⟨rfl, n0, n1, n2, n3, rfl, rfl, rfl⟩), fun z => by omega⟩
      | inr q =>
        obtain ⟨M3, A', B', v, x, y', w, rfl, hF3, hst, hpk⟩ := hz
        rw [exi_r]
        exact Ok.ret ⟨M3, v, x, y', w, rfl, hcq M3 A' B' hF3, hst, fun _ => hpk⟩
    · refine k_ifF (by rw [w32_id (by omega) (by omega), w32_id (by omega) (by omega)]; exact yT) ?_
      have hD : dep (Wst M t mark u p due n) (fun _ => False) := dep_no hF.1 f24 yT hp36.1 hp36.2 hbt
      obtain ⟨n1, n2, n3⟩ := nW_no hD n0
      exact Ok.ret ⟨M1, -2, 0, 0, 0, rfl, hq1, Or.inr (Or.inr ⟨rfl, n0, n1, n2, n3, rfl, rfl, rfl⟩), fun z => by omega⟩
end S9
