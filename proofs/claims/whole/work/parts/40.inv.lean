/-! what class and reference have in common between two calls -/
/-- where a World lies -/
def wAd (w : Int) : Prop := w = 3 ∨ w = 14 ∨ w = 24 ∨ w = 28 ∨ w = 32 ∨ (39 ≤ w ∧ w ≤ 95 ∧ (w - 39) % 4 = 0)
theorem wAd_g {G : GG} (hG : gAll G) {w : Int} (h : wAd w) : gW G w := by
  unfold wAd at h
  have : w = 3 ∨ w = 14 ∨ w = 24 ∨ w = 28 ∨ w = 32 ∨ w = 39 ∨ w = 43 ∨ w = 47 ∨ w = 51 ∨ w = 55 ∨ w = 59 ∨ w = 63 ∨ w = 67 ∨ w = 71 ∨ w = 75 ∨ w = 79 ∨ w = 83 ∨ w = 87 ∨ w = 91 ∨ w = 95 := by omega
  rcases this with rfl | rfl | rfl | rfl | rfl | rfl | rfl | rfl | rfl | rfl | rfl | rfl | rfl | rfl | rfl | rfl | rfl | rfl | rfl | rfl
  · exact gW_3 hG
  · exact gW_14 hG
  · exact gW_24 hG
  · exact gW_28 hG
  · exact gW_32 hG
  · exact gW_39 hG
  · exact gW_43 hG
  · exact gW_47 hG
  · exact gW_51 hG
  · exact gW_55 hG
  · exact gW_59 hG
  · exact gW_63 hG
  · exact gW_67 hG
  · exact gW_71 hG
  · exact gW_75 hG
  · exact gW_79 hG
  · exact gW_83 hG
  · exact gW_87 hG
  · exact gW_91 hG
  · exact gW_95 hG
/-- a World's own pointers, and nothing beyond its rows -/
def shW (M : Int → Int → Int) (w : Int) : Prop := mW M w ∧ zoW M w
/-- a Ring's own pointers -/
def shR (M : Int → Int → Int) (r : Int) : Prop := M r 1 = r + 1 ∧ M r 2 = r + 5 ∧ M r 3 = r + 6 ∧ M r 5 = r + 7 ∧ M r 6 = r + 8 ∧ M r 7 = r + 9 ∧ M r 8 = r + 10 ∧ zO 20 (M (r + 6))
/-- where the past worlds lie: turned round by r -/
def rot (M : Int → Int → Int) (r : Int) : Prop := 0 ≤ r ∧ r < 12 ∧ ∀ i, 0 ≤ i → i < 12 → M 37 i = 39 + 4 * ((i + r) % 12)
/-- the class's lasting rows -/
def cSh (M : Int → Int → Int) (G : GG) (td r : Int) : Prop := gAll G ∧ pr0 (M 0) ∧ (td = 2 ∨ td = 13) ∧ M 0 2 = td ∧ M 0 3 = 15 - td ∧ shR M 2 ∧ shR M 13 ∧ shW M 3 ∧ shW M 14 ∧ shW M 24 ∧ (∀ w, 39 ≤ w → w ≤ 95 → (w - 39) % 4 = 0 → shW M w) ∧ pr36 (M 36) ∧ pr38 (M 38) ∧ rot M r ∧ pr115 (M 115)
/-- the class's rows that a call may use as it likes -/
def cSc (M : Int → Int → Int) : Prop := shW M 28 ∧ shW M 32 ∧ chI M ∧ pr106 (M 106) ∧ pr111 (M 111) ∧ (M 111 1 = 112 ∧ M 111 2 = 113 ∨ M 111 1 = 113 ∧ M 111 2 = 112) ∧ pr117 (M 117) ∧ zO 216 (M 123) ∧ (∀ i, 0 ≤ M 118 i ∧ M 118 i ≤ 9) ∧ ∀ i, 0 ≤ M 122 i ∧ M 122 i ≤ 9
/-- the reference's own rows -/
def rSh (M : Int → Int → Int) : Prop := pr124 (M 124) ∧ ∀ i, 0 ≤ M 129 i ∧ M 129 i < 6
/-- the tapes -/
def cTp (M : Int → Int → Int) : Prop := M 124 6 = M 0 1 ∧ 0 ≤ M 0 1 ∧ M 0 1 ≤ 900 ∧ ∀ i, 0 ≤ i → i < M 0 1 → 0 ≤ M 1 i ∧ M 1 i ≤ 255 ∧ iand (M 125 i) 255 = M 1 i
/-- trouble, its place, the fault -/
def cTr (M : Int → Int → Int) : Prop := M 124 1 = M 0 14 ∧ 0 ≤ M 0 14 ∧ M 0 14 ≤ 6 ∧ M 124 2 = if M 0 14 = 4 then M 0 16 else -1
/-- no ring yet -/
def noR (M : Int → Int → Int) (td : Int) : Prop := M 124 3 = -1 ∧ M 24 0 = 0 ∧ M 24 1 = 0 ∧ M 24 2 = 0 ∧ M 24 6 = 0 ∧ M 24 7 = 0 ∧ M td 0 = 0 ∧ M td 4 = 0 ∧ M td 9 = 0 ∧ M 36 1 = 0 ∧ M 36 3 = 0 ∧ M 124 20 = 0 ∧ M 124 21 = 0
/-- the reference's ring: kinds, pointers -/
def gRg (G : GG) (rg : Int) : Prop := 146 ≤ rg ∧ G.1 rg = 20 ∧ (G.1 (rg + 1) = 1 ∧ G.2.1 (rg + 1) = 216) ∧ (G.1 (rg + 2) = 1 ∧ G.2.1 (rg + 2) = 6) ∧ (G.1 (rg + 3) = 1 ∧ G.2.1 (rg + 3) = 24) ∧ (G.1 (rg + 4) = 1 ∧ G.2.1 (rg + 4) = 20) ∧ (G.1 (rg + 5) = 1 ∧ G.2.1 (rg + 5) = 8) ∧ (G.1 (rg + 6) = 1 ∧ G.2.1 (rg + 6) = 8) ∧ (G.1 (rg + 7) = 1 ∧ G.2.1 (rg + 7) = 8) ∧ (G.1 (rg + 8) = 1 ∧ G.2.1 (rg + 8) = 8) ∧ (G.1 (rg + 9) = 2 ∧ G.2.1 (rg + 9) = 6) ∧ rg + 9 < G.2.2
def pRg (f : Int → Int) (rg : Int) : Prop := f 7 = rg + 1 ∧ f 8 = rg + 2 ∧ f 9 = rg + 3 ∧ f 10 = rg + 4 ∧ f 11 = rg + 5 ∧ f 12 = rg + 6 ∧ f 13 = rg + 7 ∧ f 14 = rg + 8 ∧ f 15 = rg + 9
/-- a World of the ring -/
def wR (M : Int → Int → Int) (w wd hi tw mk : Int) : Prop := M w 0 = wd ∧ M w 1 = hi ∧ M w 2 = tw ∧ wfW wd hi tw mk (M (w + 2)) (M (w + 3)) (M w 6) (M (w + 1)) ∧ (∀ i, ¬ (0 ≤ i ∧ i < 36 * tw ∧ i % 36 % 6 < wd ∧ i % 36 / 6 < hi) → M (w + 1) i = 0) ∧ ∀ t k, 0 ≤ t → t < tw → M (w + 2) t < 0 → 1 ≤ k → k < 4 → M (w + 3) (4 * t + k) = -2
/-- the reference holds the World w in its row a from o on -/
def cW (M : Int → Int → Int) (wd hi tw w a o : Int) : Prop := (∀ t p, 0 ≤ t → t < tw → inV wd hi p → M a (o + 36 * t + idx wd p) = M (w + 1) (36 * t + p)) ∧ (∀ t, 0 ≤ t → t < tw → M a (o + 216 + t) = M (w + 2) t) ∧ (∀ i, 0 ≤ i → i < 4 * tw → M a (o + 222 + i) = M (w + 3) i) ∧ M a (o + 246) = M w 7 ∧ M a (o + 247) = M w 6 ∧ ∀ k, 0 ≤ k → k < 216 → 0 ≤ M a (o + k) ∧ M a (o + k) < 6
/-- how many towns below t have an unknown error -/
def uk (er : Int → Int) : Nat → Nat
  | 0 => 0
  | t + 1 => uk er t + (if er (4 * (t : Int)) = 10 then 1 else 0)
/-- what was told -/
def cTd (M : Int → Int → Int) (wd hi tw mk td rg : Int) : Prop := M (td + 1) 6 = 0 ∧ M (td + 1) 7 = 0 ∧ (∀ t p, 0 ≤ t → t < tw → inV wd hi p → M (rg + 1) (36 * t + idx wd p) = M (td + 2) (36 * t + p)) ∧ (∀ t, 0 ≤ t → t < tw → M (rg + 2) t = M (td + 3) t) ∧ (∀ i, 0 ≤ i → i < 4 * tw → M (rg + 3) i = M (td + 4) i) ∧ (∀ k, 0 ≤ M (rg + 1) k ∧ M (rg + 1) k < 6) ∧ M rg 6 = (uk (M (td + 4)) tw.toNat : Nat) ∧ uk (M (td + 4)) tw.toNat ≤ 4
def cGs (M : Int → Int → Int) (wd hi mk td rg : Int) : Prop := M rg 4 = M td 4 ∧ 0 ≤ M td 4 ∧ M td 4 ≤ 5 ∧ (∀ i, -2 ≤ M (td + 6) i ∧ M (td + 6) i ≤ 10) ∧ (∀ g, 0 ≤ g → g < M td 4 → errT wd hi mk (M (td + 6)) g ∧ M (td + 6) (4 * g) ≤ 8) ∧ ∀ i, 0 ≤ i → i < 4 * M td 4 → M (rg + 4) i = M (td + 6) i
def cSe (M : Int → Int → Int) (wd hi tw mk td rg : Int) : Prop := M rg 5 = M td 9 ∧ 0 ≤ M td 9 ∧ M td 9 ≤ 8 ∧ ∀ i, 0 ≤ i → i < M td 9 → (0 ≤ M (td + 7) i ∧ M (td + 7) i < tw) ∧ (1 ≤ M (td + 8) i ∧ M (td + 8) i ≤ 20) ∧ inV wd hi (M (td + 9) i) ∧ (0 ≤ M (td + 10) i ∧ M (td + 10) i < mk) ∧ M (rg + 5) i = M (td + 7) i ∧ M (rg + 6) i = M (td + 8) i ∧ M (rg + 7) i = idx wd (M (td + 9) i) ∧ M (rg + 8) i = M (td + 10) i
/-- what was seen is so, the first n of it -/
def seN (f : Int → Bool) : Nat → Bool
  | 0 => true
  | n + 1 => seN f n && f (n : Int)
/-- the errors by a row of guesses -/
def erF (er gs : Int → Int) (gc : Int) (uc : Nat) (r : Int) : Int → Int := fun i => if 0 ≤ i ∧ er (4 * (i / 4)) = 10 then gs (4 * (r / gc ^ (uc - 1 - uk er (i / 4).toNat) % gc) + i % 4) else er i
/-- does a row fit -/
def fitB (M : Int → Int → Int) (td r : Int) : Bool := seN (fun i => decide (bh (M (td + 1) 0) (M (td + 1) 1) (M (td + 1) 2) (M (td + 3)) (erF (M (td + 4)) (M (td + 6)) (M td 4) (uk (M (td + 4)) (M (td + 1) 2).toNat) r) 0 (M (td + 2)) (M (td + 8) i).toNat (36 * M (td + 7) i + M (td + 9) i) = M (td + 10) i)) (M td 9).toNat
/-- how many of the rows below r fit -/
def fitN (M : Int → Int → Int) (td : Int) : Nat → Nat
  | 0 => 0
  | r + 1 => fitN M td r + (if fitB M td (r : Int) = true then 1 else 0)
/-- what was found of fits -/
def cFi (M : Int → Int → Int) (td : Int) : Prop := M 115 1 = 0 ∨ (M 115 1 = 1 ∧ M 115 3 = (fitN M td (M td 4 ^ uk (M (td + 4)) (M (td + 1) 2).toNat).toNat : Nat) ∧ ∀ r : Nat, (r : Int) < M td 4 ^ uk (M (td + 4)) (M (td + 1) 2).toNat → fitB M td (r : Int) = true → M 116 (fitN M td r : Nat) = r)
/-- a ring stands -/
def isR (M : Int → Int → Int) (G : GG) (td rg : Int) : Prop :=
  M 124 3 = rg ∧ gRg G rg ∧ pRg (M rg) rg ∧ (M rg 0 = M 24 0 ∧ M rg 1 = M 24 1 ∧ M rg 2 = M td 0 ∧ M rg 3 = M 24 2) ∧ wR M 24 (M 24 0) (M 24 1) (M 24 2) (M td 0) ∧ wR M (td + 1) (M 24 0) (M 24 1) (M 24 2) (M td 0) ∧ cTd M (M 24 0) (M 24 1) (M 24 2) (M td 0) td rg ∧ cGs M (M 24 0) (M 24 1) (M td 0) td rg ∧ cSe M (M 24 0) (M 24 1) (M 24 2) (M td 0) td rg ∧ cW M (M 24 0) (M 24 1) (M 24 2) 24 126 0 ∧
  (M 124 20 = M 36 1 ∧ 0 ≤ M 36 1 ∧ M 36 1 ≤ 12 ∧ ∀ i, 0 ≤ i → i < M 36 1 → wR M (M 37 i) (M 24 0) (M 24 1) (M 24 2) (M td 0) ∧ cW M (M 24 0) (M 24 1) (M 24 2) (M 37 i) 127 (248 * i)) ∧
  (M 124 21 = M 36 3 ∧ 0 ≤ M 36 3 ∧ M 36 3 ≤ 3 ∧ ∀ i, 0 ≤ i → i < M 36 3 → wR M (87 + 4 * i) (M 24 0) (M 24 1) (M 24 2) (M td 0) ∧ cW M (M 24 0) (M 24 1) (M 24 2) (87 + 4 * i) 128 (248 * i)) ∧ cFi M td
/-- all but trouble -/
def Inv0 (M : Int → Int → Int) (G : GG) (td r : Int) : Prop := cSh M G td r ∧ cSc M ∧ rSh M ∧ cTp M ∧ M 124 13 = M 0 15 ∧ (noR M td ∨ ∃ rg, isR M G td rg)
def Inv (M : Int → Int → Int) (G : GG) : Prop := cTr M ∧ ∃ td r, Inv0 M G td r
/-- a call of the class that changes nothing that lasts but trouble -/
def cQ (M M1 : Int → Int → Int) : Prop := (∀ a, (0 < a ∧ a < 28 ∨ 36 ≤ a ∧ a < 99 ∨ a = 115 ∨ a = 116 ∨ 124 ≤ a) → M1 a = M a) ∧ (∀ k, k ≠ 14 → M1 0 k = M 0 k) ∧ cSc M1
/-- one of the reference -/
def rQ (M M1 : Int → Int → Int) : Prop := (∀ a, (a < 124 ∨ 125 ≤ a ∧ a ≤ 128 ∨ 145 ≤ a) → M1 a = M a) ∧ (∀ k, k ≠ 0 → k ≠ 1 → k ≠ 2 → k ≠ 26 → k ≠ 29 → k ≠ 36 → M1 124 k = M 124 k) ∧ ∀ i, 0 ≤ M1 129 i ∧ M1 129 i < 6
theorem fitN_cg {M M1 : Int → Int → Int} {td : Int} (h : fitB M1 td = fitB M td) : ∀ n, fitN M1 td n = fitN M td n
  | 0 => rfl
  | n + 1 => by show fitN M1 td n + _ = fitN M td n + _; rw [fitN_cg h n, h]
section IV
variable {M M1 : Int → Int → Int} {G : GG} {td r rg : Int}
theorem cFi.cg (f : ∀ a, (0 < a ∧ a < 28 ∨ a = 115 ∨ a = 116) → M1 a = M a) (ht : td = 2 ∨ td = 13) (h : cFi M td) : cFi M1 td := by
  have hb : fitB M1 td = fitB M td := by
    funext x
    unfold fitB
    simp (disch := omega) only [f]
  unfold cFi at *
  simp (disch := omega) only [f, fitN_cg hb, hb]
  exact h
theorem isR.cg (f : ∀ a, (0 < a ∧ a < 28 ∨ 36 ≤ a ∧ a < 99 ∨ a = 115 ∨ a = 116 ∨ 125 ≤ a ∧ a ≤ 128 ∨ 146 ≤ a) → M1 a = M a) (f3 : M1 124 3 = M 124 3) (f20 : M1 124 20 = M 124 20) (f21 : M1 124 21 = M 124 21) (ht : td = 2 ∨ td = 13) (hr : rot M r) (h : isR M G td rg) : isR M1 G td rg := by
  obtain ⟨h1, h2, h3, h4, h5, h6, h7, h8, h9, h10, h11, h12, h13⟩ := h
  have hrg := h2.1
  have hro : ∀ i, 0 ≤ i → i < M 36 1 → 39 ≤ M 37 i ∧ M 37 i ≤ 83 := fun i i0 i1 => by have := hr.2.2 i i0 (by have := h11.2.2.1; omega); omega
  refine ⟨by rw [f3]; exact h1, h2, ?_, ?_, ?_, ?_, ?_, ?_, ?_, ?_, ?_, ?_, cFi.cg (fun a ha => f a (by omega)) ht h13⟩
  · simp (disch := omega) only [f]; exact h3
  · simp (disch := omega) only [f]; exact h4
  · obtain ⟨-, -, -, h5⟩ := h5
    refine ⟨rfl, rfl, rfl, ?_⟩
    simp (disch := omega) only [f]; exact h5
  · unfold wR at *; simp (disch := omega) only [f]; exact h6
  · unfold cTd at *; simp (disch := omega) only [f]; exact h7
  · unfold cGs at *; simp (disch := omega) only [f]; exact h8
  · unfold cSe at *; simp (disch := omega) only [f]; exact h9
  · unfold cW at *; simp (disch := omega) only [f]; exact h10
  · refine ⟨by rw [f20]; simp (disch := omega) only [f]; exact h11.1, by simp (disch := omega) only [f]; exact h11.2.1, by simp (disch := omega) only [f]; exact h11.2.2.1, fun i i0 i1 => ?_⟩
    simp (disch := omega) only [f] at i1
    have hb := hro i i0 i1
    have := h11.2.2.2 i i0 i1
    unfold wR cW at *
    simp (disch := omega) only [f]
    exact this
  · refine ⟨by rw [f21]; simp (disch := omega) only [f]; exact h12.1, by simp (disch := omega) only [f]; exact h12.2.1, by simp (disch := omega) only [f]; exact h12.2.2.1, fun i i0 i1 => ?_⟩
    simp (disch := omega) only [f] at i1
    have hx := h12.2.2.2 i i0 i1
    have := h12.2.2.1
    unfold wR cW at *
    simp (disch := omega) only [f]
    exact hx
theorem cSh.cg (f : ∀ a, (0 < a ∧ a < 28 ∨ 36 ≤ a ∧ a < 99 ∨ a = 115) → M1 a = M a) (f0 : ∀ k, k ≠ 14 → M1 0 k = M 0 k) (h : cSh M G td r) : cSh M1 G td r := by
  obtain ⟨h1, h2, h3, h4, h5, h6, h7, h8, h9, h10, h11, h12, h13, h14, h15⟩ := h
  refine ⟨h1, pr0.u h2 (fun k hk => f0 k (by omega)), h3, by rw [f0 2 (by omega)]; exact h4, by rw [f0 3 (by omega)]; exact h5, ?_, ?_, ?_, ?_, ?_, ?_, ?_, ?_, ?_, ?_⟩
  · unfold shR at *; simp (disch := omega) only [f]; exact h6
  · unfold shR at *; simp (disch := omega) only [f]; exact h7
  · unfold shW mW zoW at *; simp (disch := omega) only [f]; exact h8
  · unfold shW mW zoW at *; simp (disch := omega) only [f]; exact h9
  · unfold shW mW zoW at *; simp (disch := omega) only [f]; exact h10
  · intro w w0 w1 w2
    have := h11 w w0 w1 w2
    unfold shW mW zoW at *; simp (disch := omega) only [f]; exact this
  · simp (disch := omega) only [f]; exact h12
  · simp (disch := omega) only [f]; exact h13
  · unfold rot at *; simp (disch := omega) only [f]; exact h14
  · simp (disch := omega) only [f]; exact h15
theorem Inv0.cl (h : Inv0 M G td r) (hQ : cQ M M1) : Inv0 M1 G td r := by
  obtain ⟨h1, h2, h3, h4, h5, h6⟩ := h
  obtain ⟨f, f0, hs⟩ := hQ
  have ht : td = 2 ∨ td = 13 := h1.2.2.1
  have hr : rot M r := h1.2.2.2.2.2.2.2.2.2.2.2.2.2.1
  refine ⟨h1.cg (fun a ha => f a (by omega)) f0, hs, ?_, ?_, by rw [f 124 (by omega), f0 15 (by omega)]; exact h5, ?_⟩
  · unfold rSh at *; simp (disch := omega) only [f]; exact h3
  · unfold cTp at *; simp (disch := omega) only [f, f0]; exact h4
  · rcases h6 with h6 | ⟨rg, h6⟩
    · left
      unfold noR at *
      simp (disch := omega) only [f]
      exact h6
    · exact Or.inr ⟨rg, h6.cg (fun a ha => f a (by omega)) (by rw [f 124 (by omega)]) (by rw [f 124 (by omega)]) (by rw [f 124 (by omega)]) ht hr⟩
theorem Inv0.rf (h : Inv0 M G td r) (hQ : rQ M M1) : Inv0 M1 G td r := by
  obtain ⟨h1, h2, h3, h4, h5, h6⟩ := h
  obtain ⟨f, f0, hs⟩ := hQ
  have ht : td = 2 ∨ td = 13 := h1.2.2.1
  have hr : rot M r := h1.2.2.2.2.2.2.2.2.2.2.2.2.2.1
  refine ⟨h1.cg (fun a ha => f a (by omega)) (fun k _ => by rw [f 0 (by omega)]), ?_, ⟨pr124.u h3.1 (fun k hk => f0 k (by omega) (by omega) (by omega) (by omega) (by omega) (by omega)), hs⟩, ?_, ?_, ?_⟩
  · unfold cSc shW mW zoW chI at *; simp (disch := omega) only [f]; exact h2
  · unfold cTp at *; simp (disch := omega) only [f, f0]; exact h4
  · simp (disch := omega) only [f, f0]; exact h5
  · rcases h6 with h6 | ⟨rg, h6⟩
    · left
      unfold noR at *
      simp (disch := omega) only [f, f0]
      exact h6
    · exact Or.inr ⟨rg, h6.cg (fun a ha => f a (by omega)) (f0 3 (by omega) (by omega) (by omega) (by omega) (by omega) (by omega)) (f0 20 (by omega) (by omega) (by omega) (by omega) (by omega) (by omega)) (f0 21 (by omega) (by omega) (by omega) (by omega) (by omega) (by omega)) ht hr⟩
end IV
