/-! strokes: the class's find -/
section S7
variable {M M1 N : Int → Int → Int} {G : GG} {mk n b t mark L m A B p due : Int}
/-- what find may use: a chain, the open places -/
def fnC (M : Int → Int → Int) (G : GG) (mk n b t mark L : Int) : Prop := chF M G 24 mk n b t ∧ mk ≤ 6 ∧ pr106 (M 106) ∧ M 106 3 = L ∧ 0 ≤ L ∧ L ≤ 36 ∧ (∀ i, 0 ≤ i → i < L → 0 ≤ M 107 i ∧ M 107 i < 36) ∧ 0 ≤ mark ∧ mark < mk
/-- the rows that find leaves alone -/
def fnF (M M1 : Int → Int → Int) (A B : Int) : Prop := (∀ a, (a < 108 ∨ 114 < a) → M1 a = M a) ∧ pr111 (M1 111) ∧ M1 111 1 = A ∧ M1 111 2 = B ∧ twoR A B
/-- a pick is enough -/
def ach (M : Int → Int → Int) (b mark m p due n : Int) (x y z : Int) : Prop := tV M (drw (M 25) (M 100 b) mark (pkD (M 107) m x y z)) n p = due
/-- j trials of a batch that begins with the pick sx sy sz are laid -/
def btI (M M1 : Int → Int → Int) (b mark L m A sx sy sz : Int) (j : Int) (X Y Z : Int → Int) : Prop :=
  (∀ tr, 0 ≤ tr → tr < j → pkV L m (X tr) (Y tr) (Z tr) ∧ pkM (fun i => M1 110 (3 * tr + i)) m (M 107 (X tr)) (M 107 (Y tr)) (M 107 (Z tr)) ∧ ∀ x y z, pkV L m x y z → pkL x y z (X tr) (Y tr) (Z tr) → pkL x y z sx sy sz ∨ ∃ s, 0 ≤ s ∧ s < tr ∧ x = X s ∧ y = Y s ∧ z = Z s) ∧
  ∀ q, 0 ≤ q → q < 36 → bt (M 105 b) q = true → ∀ tr, 0 ≤ tr → tr < 64 → enc (M1 A) q tr (if tr < j ∧ pkD (M 107) m (X tr) (Y tr) (Z tr) q = true then mark else M 25 (36 * M 100 b + q))
/-- the pick that comes now, or none -/
def btC (M1 : Int → Int → Int) (L m sx sy sz : Int) (j : Int) (X Y Z : Int → Int) (more : Int) : Prop :=
  (more = 1 ∧ ∃ x y z, pkV L m x y z ∧ pkM (M1 109) m x y z ∧ pkR L m x y z + j.toNat = pkR L m sx sy sz ∧ ∀ x' y' z', pkV L m x' y' z' → pkL x' y' z' x y z → pkL x' y' z' sx sy sz ∨ ∃ s, 0 ≤ s ∧ s < j ∧ x' = X s ∧ y' = Y s ∧ z' = Z s) ∨
  (more = 0 ∧ ∀ x' y' z', pkV L m x' y' z' → pkL x' y' z' sx sy sz ∨ ∃ s, 0 ≤ s ∧ s < j ∧ x' = X s ∧ y' = Y s ∧ z' = Z s)
theorem X6_batch_ok (hC : fnC M G mk n b t mark L) (hm : 1 ≤ m ∧ m ≤ 3) {sx sy sz : Int} (hF : fnF M N A B) (hs : pkV L m sx sy sz) (hpk : pkM (N 109) m sx sy sz) (hen : ∀ q, 0 ≤ q → q < 36 → bt (M 105 b) q = true → ∀ tr, 0 ≤ tr → tr < 64 → enc (N A) q tr (M 25 (36 * M 100 b + q))) {l6 : Int} : Ok (wh (S := (Hp × Int × Int)) (T := (Hp × Int)) (fun a => M_X6_find_b53 a.1 106 m mark p due l6 a.2.1 a.2.2) FU ((N, G), 1, 0)) (fun z => ∃ M1 more j X Y Z, z = ((M1, G), more) ∧ fnF M M1 A B ∧ 0 ≤ j ∧ j ≤ 64 ∧ btI M M1 b mark L m A sx sy sz j X Y Z ∧ btC M1 L m sx sy sz j X Y Z more ∧ (more = 1 → j = 64)) := by
  obtain ⟨hch, hmk, hp106, hL3, l0, l36, hop, m0, m1⟩ := hC
  have hG := hch.1.1.1
  refine wh_for (fun i z => ∃ M1 more j X Y Z, z = ((M1, G), more, (i : Int)) ∧ fnF M M1 A B ∧ 0 ≤ j ∧ j ≤ (i : Int) ∧ btI M M1 b mark L m A sx sy sz j X Y Z ∧ btC M1 L m sx sy sz j X Y Z more ∧ (more = 1 → j = (i : Int))) _ 64 (by omega) ⟨N, 1, 0, fun _ => 0, fun _ => 0, fun _ => 0, rfl, hF, by omega, by omega, ⟨fun tr t0 t1 => by omega, fun q q0 q1 hq tr t0 t1 => by rw [if_neg (by omega)]; exact hen q q0 q1 hq tr t0 t1⟩, Or.inl ⟨rfl, sx, sy, sz, hs, hpk, rfl, fun x' y' z' _ h => Or.inl h⟩, fun _ => rfl⟩ ?_ ?_
  · rintro i _ hi ⟨M1, more, j, X, Y, Z, rfl, hF1, j0, j1, hI, hCu, hj⟩
    unfold M_X6_find_b53
    dsimp only
    refine k_ifT (by rw [w32_id (by omega) (by omega)]; omega) ?_
    rcases hCu with ⟨rfl, x, y, z, hV, hpk1, hR, hlt⟩ | ⟨rfl, hall⟩
    · have hj := hj rfl
      subst hj
      obtain ⟨f1, q111, qa, qb, hAB⟩ := hF1
      have hA : A = 112 ∨ A = 113 := by unfold twoR at hAB; omega
      have f107 : M1 107 = M 107 := f1 107 (by omega)
      have f106 : M1 106 = M 106 := f1 106 (by omega)
      refine k_ifF (by decide) ?_
      have htp := X6_tryPick_ok (M := M1) (tr := (i : Int)) (mark := mark) hG (by rw [f106]; exact hp106) q111 qa hA hm hV l36 hpk1 (by rw [f107]; exact hop) (by omega) (by omega) m0 (by omega)
      rw [f107] at htp
      refine Ok.bind htp ?_
      rintro _ ⟨M2, rfl, f2, h110, h110', hen2⟩
      have g106 : M2 106 = M 106 := (f2 106 (by omega) (by omega)).trans f106
      have g109 : M2 109 = M1 109 := f2 109 (by omega) (by omega)
      have hpb : ∀ k, 0 ≤ k → k < m → 0 ≤ M2 109 k ∧ M2 109 k ≤ 36 := fun k k0 k1 => by
        rw [g109]
        unfold pkV at hV
        unfold pkM at hpk1
        have hk' : k = 0 ∨ k = 1 ∨ k = 2 := by omega
        rcases hk' with rfl | rfl | rfl
        · rw [hpk1.1]; omega
        · rw [hpk1.2.1 (by omega)]; omega
        · rw [hpk1.2.2 (by omega)]; omega
      refine Ok.bd (X6_next_ok (M := M2) (L := L) hG (by rw [g106]; exact hp106) (by rw [g106]; exact hL3) l0 l36 hm hpb) ?_
      rintro _ ⟨M3, f3, hz⟩
      -- the trials with this one
      have hI3 : btI M M3 b mark L m A sx sy sz ((i : Int) + 1) (u1 X i x) (u1 Y i y) (u1 Z i z) := by
        have e110 : M3 110 = M2 110 := f3 110 (by omega)
        have eA : M3 A = M2 A := f3 A (by omega)
        refine ⟨fun tr t0 t1 => ?_, fun q q0 q1 hq tr t0 t1 => ?_⟩
        · by_cases w : tr = (i : Int)
          · subst w
            rw [u1_s, u1_s, u1_s, e110]
            refine ⟨hV, h110, fun x' y' z' hv' hl' => ?_⟩
            rcases hlt x' y' z' hv' hl' with h | ⟨s, s0, s1, h⟩
            · exact Or.inl h
            · exact Or.inr ⟨s, s0, s1, by rw [u1_k _ _ (by omega), u1_k _ _ (by omega), u1_k _ _ (by omega)]; exact h⟩
          · rw [u1_k _ _ w, u1_k _ _ w, u1_k _ _ w, e110]
            obtain ⟨k1, k2, k3⟩ := hI.1 tr t0 (by omega)
            refine ⟨k1, ?_, fun x' y' z' hv' hl' => ?_⟩
            · unfold pkM at *
              dsimp only at k2 ⊢
              rw [h110' (3 * tr + 0) (by omega), h110' (3 * tr + 1) (by omega), h110' (3 * tr + 2) (by omega)]
              exact k2
            · rcases k3 x' y' z' hv' hl' with h | ⟨s, s0, s1, h⟩
              · exact Or.inl h
              · exact Or.inr ⟨s, s0, s1, by rw [u1_k _ _ (by omega), u1_k _ _ (by omega), u1_k _ _ (by omega)]; exact h⟩
        · have h1 := hen2 q tr _ t0 t1 (hI.2 q q0 q1 hq tr t0 t1)
          rw [eA]
          by_cases w : tr = (i : Int)
          · subst w
            rw [u1_s, u1_s, u1_s]
            rw [if_neg (show ¬ ((i : Int) < i ∧ _) by omega)] at h1
            by_cases w2 : pkD (M 107) m x y z q = true
            · rw [if_pos ⟨rfl, w2⟩] at h1
              rw [if_pos ⟨by omega, w2⟩]; exact h1
            · rw [if_neg (fun z => w2 z.2)] at h1
              rw [if_neg (fun z => w2 z.2)]; exact h1
          · rw [u1_k _ _ w, u1_k _ _ w, u1_k _ _ w]
            rw [if_neg (fun z => w z.1)] at h1
            by_cases w2 : tr < (i : Int) ∧ pkD (M 107) m (X tr) (Y tr) (Z tr) q = true
            · rw [if_pos w2] at h1
              rw [if_pos ⟨by omega, w2.2⟩]; exact h1
            · rw [if_neg w2] at h1
              rw [if_neg (fun z => w2 ⟨by omega, z.2⟩)]; exact h1
      have hF3 : fnF M M3 A B := by
        refine ⟨fun a ha => ?_, ?_, ?_, ?_, hAB⟩
        · rw [f3 a (by omega), f2 a (by unfold twoR at hAB; omega) (by omega)]; exact f1 a ha
        · rw [f3 111 (by omega), f2 111 (by omega) (by omega)]; exact q111
        · rw [f3 111 (by omega), f2 111 (by omega) (by omega)]; exact qa
        · rw [f3 111 (by omega), f2 111 (by omega) (by omega)]; exact qb
      have hold : ∀ x' y' z', (pkL x' y' z' x y z ∨ x' = x ∧ y' = y ∧ z' = z) → pkV L m x' y' z' → pkL x' y' z' sx sy sz ∨ ∃ s, 0 ≤ s ∧ s < (i : Int) + 1 ∧ x' = u1 X i x s ∧ y' = u1 Y i y s ∧ z' = u1 Z i z s := fun x' y' z' hl hv' => by
        rcases hl with hl | ⟨rfl, rfl, rfl⟩
        · rcases hlt x' y' z' hv' hl with h | ⟨s, s0, s1, h⟩
          · exact Or.inl h
          · exact Or.inr ⟨s, s0, by omega, by rw [u1_k _ _ (by omega), u1_k _ _ (by omega), u1_k _ _ (by omega)]; exact h⟩
        · exact Or.inr ⟨i, by omega, by omega, by rw [u1_s, u1_s, u1_s]; exact ⟨rfl, rfl, rfl⟩⟩
      rcases hz with ⟨rfl, hn⟩ | ⟨rfl, -, hn⟩
      · rw [g109] at hn
        obtain ⟨x', y', z', hS, e0, e1, e2⟩ := nxP_S hm hV hpk1.1 hpk1.2.1 hpk1.2.2 hn
        have hR' := pkR_S hV hS
        refine Ok.ret ⟨M3, 1, (i : Int) + 1, u1 X i x, u1 Y i y, u1 Z i z, rfl, hF3, by omega, by omega, hI3, Or.inl ⟨rfl, x', y', z', pkS_V hV hS, ⟨e0, e1, e2⟩, by omega, fun u v w hv' hl' => hold u v w (pkS_lt hV hS hv' hl') hv'⟩, fun _ => by omega⟩
      · rw [g109] at hn
        have hE := nxE_E hm hpk1.1 hpk1.2.1 hpk1.2.2 hn
        refine Ok.ret ⟨M3, 0, (i : Int) + 1, u1 X i x, u1 Y i y, u1 Z i z, rfl, hF3, by omega, by omega, hI3, Or.inr ⟨rfl, fun u v w hv' => hold u v w (pkE_lt hV hE hv') hv'⟩, fun z => by omega⟩
    · refine k_ifT (by decide) (Ok.ret ⟨M1, 0, j, X, Y, Z, rfl, hF1, j0, by omega, hI, Or.inr ⟨rfl, hall⟩, fun z => by omega⟩)
  · rintro _ ⟨M1, more, j, X, Y, Z, rfl, hF1, j0, j1, hI, hCu, hj⟩
    unfold M_X6_find_b53
    dsimp only
    exact k_ifF (by decide) (Ok.ret ⟨M1, more, j, X, Y, Z, rfl, hF1, j0, j1, hI, hCu, hj⟩)
/-- the first pick that is enough -/
def fstP (M : Int → Int → Int) (b mark L m p due n : Int) (x y z : Int) : Prop := pkV L m x y z ∧ ach M b mark m p due n x y z ∧ ∀ x' y' z', pkV L m x' y' z' → pkL x' y' z' x y z → ¬ ach M b mark m p due n x' y' z'
theorem X6_find_ok (hC : fnC M G mk n b t mark L) (hm : 1 ≤ m ∧ m ≤ 3) (hmL : m ≤ L) (hF : fnF M N A B) (p0 : 0 ≤ p) (p1 : p < 36) (hbt : bt (M 105 n) p = true) (d0 : 0 ≤ due) (d8 : due < 8) (hbase : tV M (M 25) n p ≠ due) : Ok (M_X6_find (N, G) 106 m mark p due) (fun z => ∃ M1 A' B', fnF M M1 A' B' ∧ ((∃ x y z', z = ((M1, G), 1) ∧ fstP M b mark L m p due n x y z' ∧ pkM (M1 108) m (M 107 x) (M 107 y) (M 107 z')) ∨ z = ((M1, G), 0) ∧ ∀ x y z', pkV L m x y z' → ¬ ach M b mark m p due n x y z')) := by
  have hC' := hC
  obtain ⟨hch, hmk, hp106, hL3, l0, l36, hop, m0, m1⟩ := hC
  have hG := hch.1.1.1
  have hce0 : ∀ i, 0 ≤ M 25 i ∧ M 25 i < mk := hch.1.1.2.2.1.2.2.1.2.2.2.2.2.2.2.2.2.2.2.2.2.2
  obtain ⟨fN, q111, qa, qb, hAB⟩ := hF
  have k106 := gk_106 hG
  have k109 := gk_109 hG
  have l109 := gl_109 hG
  unfold M_X6_find
  refine k_tk k106 ?_
  unfold M_X6_find_w3
  refine Ok.bind (Q := fun h => ∃ M1, h = (M1, G) ∧ (∀ a, a ≠ 109 → M1 a = N a) ∧ ∀ k, 0 ≤ k → k < m → M1 109 k = k) ?_ ?_
  · refine wh_for (fun i z => ∃ M1, z = ((M1, G), (i : Int)) ∧ (∀ a, a ≠ 109 → M1 a = N a) ∧ ∀ k, 0 ≤ k → k < (i : Int) → M1 109 k = k) _ m.toNat (by omega) ⟨N, rfl, fun _ _ => rfl, fun k k0 k1 => by omega⟩ ?_ ?_
    · rintro i _ hi ⟨M1, rfl, f, hv⟩
      have q5 : M1 106 5 = 109 := by rw [f 106 (by omega), fN 106 (by omega)]; exact pr106.p5 hp106
      unfold M_X6_find_b3
      dsimp only
      repeat' (with_reducible first | refine k_gf (by first | assumption | omega) (by first | assumption | ((try simp (disch := omega) only [sr_s, sr_a, sr_sr, u1_s, u1_k, q5]); exact rfl)) ?_ | refine k_gr (by first | assumption | omega) (by first | assumption | ((try simp (disch := omega) only [sr_s, sr_a, sr_sr, u1_s, u1_k, q5]); exact rfl)) (by omega) ?_ | refine k_ald (by first | assumption | omega) (by first | assumption | exact rfl) (by omega) (by omega) (by omega) (by first | assumption | ((try simp (disch := omega) only [sr_s, sr_a, sr_sr, u1_s, u1_k, q5]); exact rfl)) ?_ | refine k_ifT (by first | (simp (disch := omega) only [w32_id]; first | done | omega) | omega) ?_ | refine k_ifF (by first | (simp (disch := omega) only [w32_id]; first | done | omega) | omega) ?_ | refine k_pf (by first | assumption | omega) (by (try simp (disch := omega) only [sr_s, sr_a, sr_sr, u1_u1, q5]); exact rfl) ?_ | refine k_ast (by first | assumption | omega) (by first | assumption | exact rfl) (by omega) (by omega) (by omega) (by (try simp (disch := omega) only [sr_s, sr_a, sr_sr, u1_u1, q5]); exact rfl) ?_ | refine k_irm (by omega) (by omega) (by omega) (by omega) ?_ | refine k_idv (by omega) (by omega) (by omega) (by omega) ?_ | refine k_tk (by first | assumption | omega) ?_ | refine k_rp (by omega) ?_ | refine k_aldR (by first | assumption | omega) (by first | assumption | exact rfl) (by omega) (by omega) (by omega) (by first | assumption | ((try simp (disch := omega) only [sr_s, sr_a, sr_sr, u1_s, u1_k, q5]); exact rfl)) (by omega) ?_ | refine k_astR (by first | assumption | omega) (by first | assumption | exact rfl) (by omega) (by omega) (by omega) (by first | assumption | omega) (by (try simp (disch := omega) only [sr_s, sr_a, sr_sr, u1_u1, q5]); exact rfl) ?_ | refine k_pz (by first | assumption | omega) (by omega) (by (try simp (disch := omega) only [sr_s, sr_a, sr_sr, u1_u1, q5]); exact rfl) ?_ | refine k_alen (by first | assumption | omega) (by first | assumption | exact rfl) ?_ | refine k_cpy (by first | assumption | omega) (by first | assumption | omega) (by first | assumption | exact rfl) (by first | assumption | exact rfl) (by omega) (by omega) (by omega) (by omega) (by omega) (by omega) (by omega) (by omega) (by (try simp (disch := omega) only [sr_s, sr_a, sr_sr, u1_u1, q5]); exact rfl) ?_)
      refine Ok.ret ⟨_, rfl, fun a ha => by rw [sr_a _ _ ha]; exact f a ha, fun k k0 k1 => ?_⟩
      rw [sr_s]
      by_cases y : k = (i : Int)
      · rw [u1_e _ _ y, y]
      · rw [u1_k _ _ y]; exact hv k k0 (by omega)
    · rintro _ ⟨M1, rfl, f, hv⟩
      unfold M_X6_find_b3
      dsimp only
      refine k_ifF (by rw [w32_id (by omega) (by omega), w32_id (by omega) (by omega)]; omega) (Ok.ret ⟨M1, rfl, f, fun k k0 k1 => hv k k0 (by omega)⟩)
  · rintro _ ⟨N1, rfl, fN1, hN1⟩
    have hF1 : fnF M N1 A B := ⟨fun a ha => (fN1 a (by omega)).trans (fN a ha), by rw [fN1 111 (by omega)]; exact q111, by rw [fN1 111 (by omega)]; exact qa, by rw [fN1 111 (by omega)]; exact qb, hAB⟩
    have hs0 := pk0_V hm hmL
    have hpk0 : pkM (N1 109) m 0 (if 2 ≤ m then 1 else 0) (if m = 3 then 2 else 0) := ⟨hN1 0 (by omega) (by omega), fun z => by rw [if_pos z]; exact hN1 1 (by omega) (by omega), fun z => by rw [if_pos z]; exact hN1 2 (by omega) (by omega)⟩
    unfold M_X6_find_p24 M_X6_find_w30
    have hlo : Ok (wh (S := (Hp × Int × Int)) (T := (Hp ⊕ (Hp × Int))) (fun a => M_X6_find_b30 a.1 106 m mark p due a.2.1 a.2.2) FU ((N1, G), 1, 0)) (lo (fun h => ∃ M1 A' B', h = (M1, G) ∧ fnF M M1 A' B' ∧ ∀ x y z', pkV L m x y z' → ¬ ach M b mark m p due n x y z') (fun z => ∃ M1 A' B' x y z', z = ((M1, G), 1) ∧ fnF M M1 A' B' ∧ fstP M b mark L m p due n x y z' ∧ pkM (M1 108) m (M 107 x) (M 107 y) (M 107 z'))) := by
      refine wh_for (fun k s => ∃ M1 A' B' more, s = ((M1, G), more, (k : Int)) ∧ fnF M M1 A' B' ∧ (more = 1 ∧ (∃ x y z, pkV L m x y z ∧ pkM (M1 109) m x y z ∧ pkR L m x y z + 64 * k ≤ 7139 ∧ ∀ x' y' z', pkV L m x' y' z' → pkL x' y' z' x y z → ¬ ach M b mark m p due n x' y' z') ∨ more = 0 ∧ ∀ x y z', pkV L m x y z' → ¬ ach M b mark m p due n x y z')) _ 200 (by omega) ⟨N1, A, B, 1, rfl, hF1, Or.inl ⟨rfl, 0, (if 2 ≤ m then 1 else 0), (if m = 3 then 2 else 0), hs0, hpk0, by have := pkR_b hs0 l36; omega, fun x' y' z' hv hl => absurd hl (pk0_lt hv)⟩⟩ ?_ ?_
      · rintro k _ hk ⟨M1, A', B', more, rfl, hFm, hmo⟩
        unfold M_X6_find_b30
        dsimp only
        refine k_ifT (by rw [w32_id (by omega) (by omega)]; omega) ?_
        rcases hmo with ⟨rfl, x, y, z, hV, hpk, hR, hlt⟩ | ⟨rfl, hall⟩
        · obtain ⟨f1, r111, ra, rb, hAB1⟩ := hFm
          have hA1 : A' = 112 ∨ A' = 113 := by unfold twoR at hAB1; omega
          have g106 : M1 106 = M 106 := f1 106 (by omega)
          have p1' : M1 106 1 = 111 := by rw [g106]; exact pr106.p1 hp106
          refine k_ifF (by decide) (k_gr k106 p1' (by omega) ?_)
          have hch1 : chF M1 G 24 mk n b t := chF_fr hch (fun a ha => f1 a (by omega))
          refine Ok.bind (X7_begin_ok (M := M1) (A := A') hch1 hmk r111 ra hA1) ?_
          rintro _ ⟨M2, rfl, f2, hen2⟩
          rw [f1 105 (by omega), f1 25 (by omega), f1 100 (by omega)] at hen2
          have hF2 : fnF M M2 A' B' := ⟨fun a ha => (f2 a (by omega)).trans (f1 a ha), by rw [f2 111 (by omega)]; exact r111, by rw [f2 111 (by omega)]; exact ra, by rw [f2 111 (by omega)]; exact rb, hAB1⟩
          unfold M_X6_find_w53
          refine Ok.bind (X6_batch_ok (p := p) (due := due) (l6 := (k : Int)) hC' hm hF2 hV (by rw [f2 109 (by omega)]; exact hpk) hen2) ?_
          rintro _ ⟨M3, more3, j, X, Y, Z, rfl, hF3, j0, j1, hI3, hC3, hj64⟩
          obtain ⟨f3, s111, sa, sb, hAB3⟩ := hF3
          -- the cells of each trial
          have hch3 : chF M3 G 24 mk n b t := chF_fr hch (fun a ha => f3 a (by omega))
          have g3 : ∀ a, a < 106 → M3 a = M a := fun a ha => f3 a (by omega)
          have hceT : ∀ tr i, 0 ≤ (if tr < j then drw (M 25) (M 100 b) mark (pkD (M 107) m (X tr) (Y tr) (Z tr)) else M 25) i ∧ (if tr < j then drw (M 25) (M 100 b) mark (pkD (M 107) m (X tr) (Y tr) (Z tr)) else M 25) i < mk := fun tr i => by
            split
            · exact drw_b hce0 m0 m1 i
            · exact hce0 i
          have htr : trI M3 (M3 A') (fun tr => if tr < j then drw (M 25) (M 100 b) mark (pkD (M 107) m (X tr) (Y tr) (Z tr)) else M 25) b := fun q q0 q1 hq tr t0 t1 => by
            rw [tV_begin hch3.1 q0 q1, f3 100 (by omega)]
            rw [f3 105 (by omega)] at hq
            have := hI3.2 q q0 q1 hq tr t0 t1
            dsimp only
            by_cases w : tr < j
            · rw [if_pos w, drw_at q0 q1]
              by_cases w2 : pkD (M 107) m (X tr) (Y tr) (Z tr) q = true
              · rw [if_pos ⟨w, w2⟩] at this
                rw [if_pos w2]; exact this
              · rw [if_neg (fun z => w2 z.2)] at this
                rw [if_neg w2]; exact this
            · rw [if_neg (fun z => w z.1)] at this
              rw [if_neg w]; exact this
          have p1'' : M3 106 1 = 111 := by rw [f3 106 (by omega)]; exact pr106.p1 hp106
          unfold M_X6_find_p86
          refine k_gr k106 p1'' (by omega) ?_
          refine Ok.bd (X7_having_ok (M := M3) (A := A') (B := B') (p := p) (due := due) hch3.1 hmk s111 sa sb hAB3 hceT htr p0 p1 (by rw [f3 105 (by omega)]; exact hbt) d0 d8) ?_
          rintro _ ⟨M4, XX, A4, B4, rfl, f4, u111, ua, ub, hAB4, hbits⟩
          have hb1 : ∀ tr, 0 ≤ tr → tr < 64 → (bt XX tr = true ↔ tr < j ∧ ach M b mark m p due n (X tr) (Y tr) (Z tr)) := fun tr t0 t1 => by
            rw [hbits tr t0 t1, tV_cg g3]
            by_cases w : tr < j
            · rw [if_pos w, decide_eq_true_iff]
              exact ⟨fun z => ⟨w, z⟩, fun z => z.2⟩
            · rw [if_neg w, decide_eq_false hbase]
              exact ⟨fun z => (by cases z), fun z => absurd z.1 w⟩
          have hF4 : fnF M M4 A4 B4 := ⟨fun a ha => (f4 a (by omega)).trans (f3 a ha), u111, ua, ub, hAB4⟩
          have h110 : M4 110 = M3 110 := f4 110 (by omega)
          have h109 : M4 109 = M3 109 := f4 109 (by omega)
          have v106 : M4 106 = M 106 := (f4 106 (by omega)).trans (f3 106 (by omega))
          refine Ok.bd (X6_takeFirst_ok (M := M4) (X := XX) hG (by rw [v106]; exact hp106) hm) ?_
          rintro _ (⟨tr, t0, t1, hb, hbl, M5, rfl, f5, h108⟩ | ⟨rfl, hb⟩)
          · refine k_ifF (by show ¬ w32 1 = 0; decide) ?_
            obtain ⟨htj, hach⟩ := (hb1 tr t0 t1).1 hb
            obtain ⟨kV, kT, kL⟩ := hI3.1 tr t0 htj
            refine Ok.ret ⟨M5, A4, B4, X tr, Y tr, Z tr, rfl, ⟨fun a ha => (f5 a (by omega)).trans (hF4.1 a ha), by rw [f5 111 (by omega)]; exact u111, by rw [f5 111 (by omega)]; exact ua, by rw [f5 111 (by omega)]; exact ub, hAB4⟩, ⟨kV, hach, fun x' y' z' hv' hl' ha' => ?_⟩, ?_⟩
            · rcases kL x' y' z' hv' hl' with h | ⟨s, s0, s1, rfl, rfl, rfl⟩
              · exact hlt x' y' z' hv' h ha'
              · have h1 := hbl s s0 s1
                have h2 := (hb1 s s0 (by omega)).2 ⟨by omega, ha'⟩
                rw [h1] at h2
                cases h2
            · unfold pkM at *
              refine ⟨?_, fun w => ?_, fun w => ?_⟩
              · rw [h108 0 (by omega) (by omega), h110]; exact kT.1
              · rw [h108 1 (by omega) (by omega), h110]; exact kT.2.1 w
              · rw [h108 2 (by omega) (by omega), h110]; exact kT.2.2 w
          · refine k_ifT (by show w32 0 = 0; decide) ?_
            have hnone : ∀ s, 0 ≤ s → s < j → ¬ ach M b mark m p due n (X s) (Y s) (Z s) := fun s s0 s1 ha => by
              have h1 := hb s s0 (by omega)
              have h2 := (hb1 s s0 (by omega)).2 ⟨s1, ha⟩
              rw [h1] at h2
              cases h2
            refine Ok.ret ⟨M4, A4, B4, more3, rfl, hF4, ?_⟩
            rcases hC3 with ⟨rfl, x', y', z', hV', hpk', hR', hlt'⟩ | ⟨rfl, hall'⟩
            · have hj := hj64 rfl
              refine Or.inl ⟨rfl, x', y', z', hV', by rw [h109]; exact hpk', by omega, fun u v w hv' hl' ha' => ?_⟩
              rcases hlt' u v w hv' hl' with h | ⟨s, s0, s1, rfl, rfl, rfl⟩
              · exact hlt u v w hv' h ha'
              · exact hnone s s0 s1 ha'
            · refine Or.inr ⟨rfl, fun u v w hv' ha' => ?_⟩
              rcases hall' u v w hv' with h | ⟨s, s0, s1, rfl, rfl, rfl⟩
              · exact hlt u v w hv' h ha'
              · exact hnone s s0 s1 ha'
        · exact k_ifT (by decide) (Ok.ret ⟨M1, A', B', rfl, hFm, hall⟩)
      · rintro _ ⟨M1, A', B', more, rfl, hFm, hmo⟩
        unfold M_X6_find_b30
        dsimp only
        rcases hmo with ⟨rfl, x, y, z, hV, hpk, hR, hlt⟩ | ⟨rfl, hall⟩
        · omega
        · exact k_ifF (by decide) (Ok.ret ⟨M1, A', B', rfl, hFm, hall⟩)
    refine Ok.bind hlo ?_
    intro z hz
    cases z with
    | inl h =>
      obtain ⟨M1, A', B', rfl, hFm, hall⟩ := hz
      rw [exi_l]
      unfold M_X6_find_p112
      exact Ok.ret ⟨M1, A', B', hFm, Or.inr ⟨rfl, hall⟩⟩
    | inr q =>
      obtain ⟨M1, A', B', x, y, z', rfl, hFm, h1, h2⟩ := hz
      rw [exi_r]
      exact Ok.ret ⟨M1, A', B', hFm, Or.inl ⟨x, y, z', rfl, h1, h2⟩⟩
end S7
