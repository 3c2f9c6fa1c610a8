/-! strokes: what both sides look for -/
section W8
variable {W : (Int → Bool) → Prop} {ok : Int → Prop} {op : Int → Int} {L m x y z : Int}
/-- one, two, three places, column by column -/
def plV (m x y z : Int) : Prop := (0 ≤ x ∧ x < 36) ∧ (m = 1 ∧ y = 0 ∧ z = 0 ∨ m = 2 ∧ (0 ≤ y ∧ y < 36) ∧ kap x < kap y ∧ z = 0 ∨ m = 3 ∧ (0 ≤ y ∧ y < 36) ∧ (0 ≤ z ∧ z < 36) ∧ kap x < kap y ∧ kap y < kap z)
def plL (x y z x' y' z' : Int) : Prop := kap x < kap x' ∨ x = x' ∧ (kap y < kap y' ∨ y = y' ∧ kap z < kap z')
def idD (m x y z : Int) : Int → Bool := pkD (fun i => i) m x y z
/-- no so many places are enough -/
def nW (W : (Int → Bool) → Prop) (m : Int) : Prop := if m = 0 then ¬ W (fun _ => false) else ∀ x y z, plV m x y z → ¬ W (idD m x y z)
/-- the first so many places that are enough -/
def fsW (W : (Int → Bool) → Prop) (m x y z : Int) : Prop := plV m x y z ∧ W (idD m x y z) ∧ ∀ x' y' z', plV m x' y' z' → plL x' y' z' x y z → ¬ W (idD m x' y' z')
def dep (W : (Int → Bool) → Prop) (ok : Int → Prop) : Prop := ∀ S S' : Int → Bool, (∀ q, 0 ≤ q → q < 36 → ok q → S q = S' q) → W S → W S'
theorem lsI_lt {N k : Int} (h : lsI ok op N k) {i j : Int} (i0 : 0 ≤ i) (i1 : i < N) (j0 : 0 ≤ j) (j1 : j < N) (hk : kap (op i) < kap (op j)) : i < j := by
  by_cases y : i < j
  · exact y
  · by_cases y2 : i = j
    · subst y2; omega
    · have := h.2.2.2.1 j i j0 (by omega) i1; omega
/-- every enough pick of places is one of ok places, where fewer aren't enough -/
theorem ok_all (hD : dep W ok) (hm : 1 ≤ m ∧ m ≤ 3) (hn : nW W (m - 1)) (hV : plV m x y z) (hW : W (idD m x y z)) : ok x ∧ (2 ≤ m → ok y) ∧ (m = 3 → ok z) := by
  have hm' : m = 1 ∨ m = 2 ∨ m = 3 := by omega
  unfold plV at hV
  rcases hm' with rfl | rfl | rfl
  · refine ⟨?_, fun z => by omega, fun z => by omega⟩
    by_cases c : ok x
    · exact c
    · exfalso
      have hn : ¬ W (fun _ => false) := hn
      refine hn (hD _ _ (fun q q0 q1 hq => ?_) hW)
      unfold idD pkD
      have : q ≠ x := fun e => c (by rw [← e]; exact hq)
      simp [this]
  · have hn : ∀ x y z, plV 1 x y z → ¬ W (idD 1 x y z) := hn
    refine ⟨?_, fun _ => ?_, fun z => by omega⟩
    · by_cases c : ok x
      · exact c
      · exfalso
        refine hn y 0 0 ⟨by omega, Or.inl ⟨rfl, rfl, rfl⟩⟩ (hD _ _ (fun q q0 q1 hq => ?_) hW)
        unfold idD pkD
        have : q ≠ x := fun e => c (by rw [← e]; exact hq)
        simp [this]
    · by_cases c : ok y
      · exact c
      · exfalso
        refine hn x 0 0 ⟨by omega, Or.inl ⟨rfl, rfl, rfl⟩⟩ (hD _ _ (fun q q0 q1 hq => ?_) hW)
        unfold idD pkD
        have : q ≠ y := fun e => c (by rw [← e]; exact hq)
        simp [this]
  · have hn : ∀ x y z, plV 2 x y z → ¬ W (idD 2 x y z) := hn
    refine ⟨?_, fun _ => ?_, fun _ => ?_⟩
    · by_cases c : ok x
      · exact c
      · exfalso
        refine hn y z 0 ⟨by omega, Or.inr (Or.inl ⟨rfl, by omega, by omega, rfl⟩)⟩ (hD _ _ (fun q q0 q1 hq => ?_) hW)
        unfold idD pkD
        have : q ≠ x := fun e => c (by rw [← e]; exact hq)
        simp [this]
    · by_cases c : ok y
      · exact c
      · exfalso
        refine hn x z 0 ⟨by omega, Or.inr (Or.inl ⟨rfl, by omega, by omega, rfl⟩)⟩ (hD _ _ (fun q q0 q1 hq => ?_) hW)
        unfold idD pkD
        have : q ≠ y := fun e => c (by rw [← e]; exact hq)
        simp [this]
    · by_cases c : ok z
      · exact c
      · exfalso
        refine hn x y 0 ⟨by omega, Or.inr (Or.inl ⟨rfl, by omega, by omega, rfl⟩)⟩ (hD _ _ (fun q q0 q1 hq => ?_) hW)
        unfold idD pkD
        have : q ≠ z := fun e => c (by rw [← e]; exact hq)
        simp [this]
/-- the pick of the list for places -/
theorem pk_of (hL : lsI ok op L 36) (hm : 1 ≤ m ∧ m ≤ 3) (hV : plV m x y z) (ho : ok x ∧ (2 ≤ m → ok y) ∧ (m = 3 → ok z)) : ∃ a b c, pkV L m a b c ∧ op a = x ∧ (2 ≤ m → op b = y) ∧ (m = 3 → op c = z) := by
  have hk36 : ∀ q, 0 ≤ q → q < 36 → kap q < 36 := fun q q0 q1 => by unfold kap; omega
  have hm' : m = 1 ∨ m = 2 ∨ m = 3 := by omega
  unfold plV at hV
  obtain ⟨a, a0, a1, ea⟩ := hL.2.2.2.2 x hV.1.1 hV.1.2 ho.1 (hk36 x hV.1.1 hV.1.2)
  rcases hm' with rfl | rfl | rfl
  · exact ⟨a, 0, 0, ⟨a0, Or.inl ⟨rfl, a1, rfl, rfl⟩⟩, ea, fun z => by omega, fun z => by omega⟩
  · obtain ⟨b, b0, b1, eb⟩ := hL.2.2.2.2 y (by omega) (by omega) (ho.2.1 (by omega)) (hk36 y (by omega) (by omega))
    have hab := lsI_lt hL a0 a1 b0 b1 (by rw [ea, eb]; omega)
    exact ⟨a, b, 0, ⟨a0, Or.inr (Or.inl ⟨rfl, hab, b1, rfl⟩)⟩, ea, fun _ => eb, fun z => by omega⟩
  · obtain ⟨b, b0, b1, eb⟩ := hL.2.2.2.2 y (by omega) (by omega) (ho.2.1 (by omega)) (hk36 y (by omega) (by omega))
    obtain ⟨c, c0, c1, ec⟩ := hL.2.2.2.2 z (by omega) (by omega) (ho.2.2 rfl) (hk36 z (by omega) (by omega))
    have hab := lsI_lt hL a0 a1 b0 b1 (by rw [ea, eb]; omega)
    have hbc := lsI_lt hL b0 b1 c0 c1 (by rw [eb, ec]; omega)
    exact ⟨a, b, c, ⟨a0, Or.inr (Or.inr ⟨rfl, hab, hbc, c1⟩)⟩, ea, fun _ => eb, fun _ => ec⟩
theorem idD_pk {a b c : Int} (ea : op a = x) (eb : 2 ≤ m → op b = y) (ec : m = 3 → op c = z) : pkD op m a b c = idD m x y z := by
  funext q
  unfold idD pkD
  rw [ea]
  by_cases h2 : 2 ≤ m
  · rw [eb h2]
    by_cases h3 : m = 3
    · rw [ec h3]
    · simp [h3]
  · have h3 : ¬ m = 3 := by omega
    simp [h2, h3]
theorem nW_step (hD : dep W ok) (hL : lsI ok op L 36) (hm : 1 ≤ m ∧ m ≤ 3) (hn : nW W (m - 1)) (h : ∀ a b c, pkV L m a b c → ¬ W (pkD op m a b c)) : nW W m := by
  unfold nW
  rw [if_neg (by omega)]
  intro x y z hV hW
  obtain ⟨a, b, c, hpk, ea, eb, ec⟩ := pk_of hL hm hV (ok_all hD hm hn hV hW)
  refine h a b c hpk ?_
  rw [idD_pk ea eb ec]
  exact hW
theorem fsW_of (hD : dep W ok) (hL : lsI ok op L 36) (hm : 1 ≤ m ∧ m ≤ 3) (hn : nW W (m - 1)) {a b c : Int} (hV : pkV L m a b c) (hW : W (pkD op m a b c)) (h : ∀ a' b' c', pkV L m a' b' c' → pkL a' b' c' a b c → ¬ W (pkD op m a' b' c')) : fsW W m (op a) (if 2 ≤ m then op b else 0) (if m = 3 then op c else 0) := by
  have hm' : m = 1 ∨ m = 2 ∨ m = 3 := by omega
  have hV' := hV
  unfold pkV at hV
  have hid : pkD op m a b c = idD m (op a) (if 2 ≤ m then op b else 0) (if m = 3 then op c else 0) := idD_pk rfl (fun z => by rw [if_pos z]) (fun z => by rw [if_pos z])
  have hin : ∀ i, 0 ≤ i → i < L → 0 ≤ op i ∧ op i < 36 := fun i i0 i1 => ⟨(hL.2.2.1 i i0 i1).1, (hL.2.2.1 i i0 i1).2.1⟩
  have hlt : ∀ i j, 0 ≤ i → i < j → j < L → kap (op i) < kap (op j) := hL.2.2.2.1
  refine ⟨?_, by rw [← hid]; exact hW, fun x' y' z' hp' hl' hW' => ?_⟩
  · unfold plV
    rcases hm' with rfl | rfl | rfl
    · have := hin a (by omega) (by omega)
      exact ⟨this, Or.inl ⟨rfl, by rw [if_neg (by omega)], by rw [if_neg (by omega)]⟩⟩
    · have h1 := hin a (by omega) (by omega)
      have h2 := hin b (by omega) (by omega)
      have h3 := hlt a b (by omega) (by omega) (by omega)
      rw [if_pos (by omega), if_neg (by omega)]
      exact ⟨h1, Or.inr (Or.inl ⟨rfl, h2, h3, rfl⟩)⟩
    · have h1 := hin a (by omega) (by omega)
      have h2 := hin b (by omega) (by omega)
      have h4 := hin c (by omega) (by omega)
      have h3 := hlt a b (by omega) (by omega) (by omega)
      have h5 := hlt b c (by omega) (by omega) (by omega)
      rw [if_pos (by omega), if_pos rfl]
      exact ⟨h1, Or.inr (Or.inr ⟨rfl, h2, h4, h3, h5⟩)⟩
  · obtain ⟨a', b', c', hpk, ea, eb, ec⟩ := pk_of hL hm hp' (ok_all hD hm hn hp' hW')
    refine h a' b' c' hpk ?_ (by rw [idD_pk ea eb ec]; exact hW')
    have hpk' := hpk
    unfold pkV at hpk
    unfold plL at hl'
    have hcmp : ∀ i j, 0 ≤ i → i < L → 0 ≤ j → j < L → kap (op i) < kap (op j) → i < j := fun i j i0 i1 j0 j1 hk => lsI_lt hL i0 i1 j0 j1 hk
    have hinj : ∀ i j, 0 ≤ i → i < L → 0 ≤ j → j < L → op i = op j → i = j := fun i j i0 i1 j0 j1 he => by
      by_cases y1 : i < j
      · have := hlt i j i0 y1 j1; rw [he] at this; omega
      · by_cases y2 : j < i
        · have := hlt j i j0 y2 i1; rw [he] at this; omega
        · omega
    unfold pkL
    rw [← ea] at hl'
    rcases hl' with hl' | ⟨e1, hl'⟩
    · exact Or.inl (hcmp a' a (by omega) (by omega) (by omega) (by omega) hl')
    · have haa := hinj a' a (by omega) (by omega) (by omega) (by omega) e1
      refine Or.inr ⟨haa, ?_⟩
      rcases hm' with rfl | rfl | rfl
      · unfold plV at hp'
        rw [if_neg (by omega), if_neg (by omega)] at hl'
        have : y' = 0 ∧ z' = 0 := by omega
        rw [this.1, this.2] at hl'
        omega
      · rw [← eb (by omega), if_pos (by omega), if_neg (by omega)] at hl'
        rcases hl' with hl' | ⟨e2, hl'⟩
        · exact Or.inl (hcmp b' b (by omega) (by omega) (by omega) (by omega) hl')
        · unfold plV at hp'
          have : z' = 0 := by omega
          rw [this] at hl'
          omega
      · rw [← eb (by omega), ← ec rfl, if_pos (by omega), if_pos rfl] at hl'
        rcases hl' with hl' | ⟨e2, hl'⟩
        · exact Or.inl (hcmp b' b (by omega) (by omega) (by omega) (by omega) hl')
        · exact Or.inr ⟨hinj b' b (by omega) (by omega) (by omega) (by omega) e2, hcmp c' c (by omega) (by omega) (by omega) (by omega) hl'⟩
/-- what strokes answers; the places -/
def strP (W : (Int → Bool) → Prop) (v x y z : Int) : Prop := v = 0 ∧ ¬ nW W 0 ∧ x = 0 ∧ y = 0 ∧ z = 0 ∨ (v = 1 ∨ v = 2 ∨ v = 3) ∧ nW W 0 ∧ (2 ≤ v → nW W 1) ∧ (v = 3 → nW W 2) ∧ fsW W v x y z ∨ v = -2 ∧ nW W 0 ∧ nW W 1 ∧ nW W 2 ∧ nW W 3 ∧ x = 0 ∧ y = 0 ∧ z = 0
theorem fsW_unq {x' y' z' : Int} (h : fsW W m x y z) (h' : fsW W m x' y' z') : x = x' ∧ y = y' ∧ z = z' := by
  obtain ⟨h1, h2, h3⟩ := h
  obtain ⟨h1', h2', h3'⟩ := h'
  have n1 : ¬ plL x' y' z' x y z := fun hl => h3 x' y' z' h1' hl h2'
  have n2 : ¬ plL x y z x' y' z' := fun hl => h3' x y z h1 hl h2
  unfold plL at n1 n2
  unfold plV at h1 h1'
  have hx : x = x' := kap_inj h1.1.1 h1.1.2 h1'.1.1 h1'.1.2 (by omega)
  subst hx
  have hm' : m = 1 ∨ m = 2 ∨ m = 3 := by omega
  rcases hm' with rfl | rfl | rfl
  · omega
  · have hy : y = y' := kap_inj (by omega) (by omega) (by omega) (by omega) (by omega)
    omega
  · have hy : y = y' := kap_inj (by omega) (by omega) (by omega) (by omega) (by omega)
    subst hy
    have hz : z = z' := kap_inj (by omega) (by omega) (by omega) (by omega) (by omega)
    omega
theorem strP_unq {v v' x' y' z' : Int} (h : strP W v x y z) (h' : strP W v' x' y' z') : v = v' ∧ x = x' ∧ y = y' ∧ z = z' := by
  have key : ∀ v x y z, strP W v x y z → (v = 0 ∧ ¬ nW W 0 ∧ x = 0 ∧ y = 0 ∧ z = 0) ∨ (v = 1 ∧ nW W 0 ∧ ¬ nW W 1 ∧ fsW W 1 x y z) ∨ (v = 2 ∧ nW W 0 ∧ nW W 1 ∧ ¬ nW W 2 ∧ fsW W 2 x y z) ∨ (v = 3 ∧ nW W 0 ∧ nW W 1 ∧ nW W 2 ∧ ¬ nW W 3 ∧ fsW W 3 x y z) ∨ (v = -2 ∧ nW W 0 ∧ nW W 1 ∧ nW W 2 ∧ nW W 3 ∧ x = 0 ∧ y = 0 ∧ z = 0) := by
    intro v x y z h
    rcases h with h | ⟨hv, h0, h1, h2, hf⟩ | h
    · exact Or.inl h
    · have hno : ¬ nW W v := fun hn => by
        unfold nW at hn
        rw [if_neg (by omega)] at hn
        exact hn x y z hf.1 hf.2.1
      rcases hv with rfl | rfl | rfl
      · exact Or.inr (Or.inl ⟨rfl, h0, hno, hf⟩)
      · exact Or.inr (Or.inr (Or.inl ⟨rfl, h0, h1 (by omega), hno, hf⟩))
      · exact Or.inr (Or.inr (Or.inr (Or.inl ⟨rfl, h0, h1 (by omega), h2 rfl, hno, hf⟩)))
    · exact Or.inr (Or.inr (Or.inr (Or.inr h)))
  rcases key v x y z h with ⟨rfl, a, rfl, rfl, rfl⟩ | ⟨rfl, a0, a1, af⟩ | ⟨rfl, a0, a1, a2, af⟩ | ⟨rfl, a0, a1, a2, a3, af⟩ | ⟨rfl, a0, a1, a2, a3, rfl, rfl, rfl⟩ <;> rcases key v' x' y' z' h' with ⟨rfl, b, rfl, rfl, rfl⟩ | ⟨rfl, b0, b1, bf⟩ | ⟨rfl, b0, b1, b2, bf⟩ | ⟨rfl, b0, b1, b2, b3, bf⟩ | ⟨rfl, b0, b1, b2, b3, rfl, rfl, rfl⟩
  all_goals first
    | exact ⟨rfl, rfl, rfl, rfl⟩
    | exact ⟨rfl, fsW_unq af bf⟩
    | contradiction
end W8
