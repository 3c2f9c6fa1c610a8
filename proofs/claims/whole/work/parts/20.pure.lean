/-! PHASE 2: pure rows: how a model is run -/
def Ok {α : Type} (o : Option α) (P : α → Prop) : Prop := ∃ a, o = some a ∧ P a
theorem Ok_some {α : Type} {a : α} {P : α → Prop} : Ok (some a) P ↔ P a := ⟨fun ⟨b, e, h⟩ => by cases e; exact h, fun h => ⟨a, rfl, h⟩⟩
theorem Ok.ret {α : Type} {a : α} {P : α → Prop} (h : P a) : Ok (some a) P := ⟨a, rfl, h⟩
theorem Ok.bind {α β : Type} {o : Option α} {Q : α → Prop} {f : α → Option β} {P : β → Prop} (h : Ok o Q) (k : ∀ a, Q a → Ok (f a) P) : Ok (o.bind f) P := by
  obtain ⟨a, e, q⟩ := h
  rw [e]
  exact k a q
theorem Ok.mono {α : Type} {o : Option α} {Q P : α → Prop} (h : Ok o Q) (k : ∀ a, Q a → P a) : Ok o P := by
  obtain ⟨a, e, q⟩ := h
  exact ⟨a, e, k a q⟩
theorem Ok.of {α : Type} {o : Option α} {a : α} {P : α → Prop} (h : o = some a) (k : P a) : Ok o P := ⟨a, h, k⟩
theorem Ok.ite {α : Type} {c : Prop} {d : Decidable c} {A B : Option α} {P : α → Prop} (h1 : c → Ok A P) (h2 : ¬ c → Ok B P) : Ok (@ite _ c d A B) P := by
  by_cases h : c
  · rw [if_pos h]; exact h1 h
  · rw [if_neg h]; exact h2 h
theorem Ok.bd {β : Type} {o : Option (Hp × Int)} {Q : Hp × Int → Prop} {f : Hp → Int → Option β} {P : β → Prop} (h : Ok o Q) (k : ∀ a, Q a → Ok (f a.1 a.2) P) : Ok (bd o f) P := Ok.bind h k
abbrev GG : Type := (Int → Nat) × (Int → Int) × Int
section PB
variable {β : Type} {M : Int → Int → Int} {G : GG} {t u : Nat} {a a2 k i i2 n v x y : Int} {f : Int → Option β} {fh : Hp → Option β}
/-- memory with one row put in another's place; a row with one number changed -/
def sr (M : Int → Int → Int) (a : Int) (f : Int → Int) : Int → Int → Int := fun a' => if a' = a then f else M a'
theorem sr_s (M : Int → Int → Int) (a : Int) (f : Int → Int) : sr M a f a = f := if_pos rfl
theorem sr_a {a' : Int} (M : Int → Int → Int) (f : Int → Int) (h : a' ≠ a) : sr M a f a' = M a' := if_neg h
theorem sr_sr (M : Int → Int → Int) (a : Int) (f g : Int → Int) : sr (sr M a f) a g = sr M a g := by funext a'; unfold sr; split <;> rfl
theorem sr_id (M : Int → Int → Int) (a : Int) : sr M a (M a) = M := by funext a'; unfold sr; split <;> rename_i h <;> first | rw [h] | rfl
def u1 (f : Int → Int) (k v : Int) : Int → Int := fun j => if j = k then v else f j
theorem u1_s (f : Int → Int) (k v : Int) : u1 f k v k = v := if_pos rfl
theorem u1_e {j : Int} (f : Int → Int) (v : Int) (h : j = k) : u1 f k v j = v := if_pos h
theorem u1_k {j : Int} (f : Int → Int) (v : Int) (h : j ≠ k) : u1 f k v j = f j := if_neg h
theorem u1_u1 (f : Int → Int) (k v v' : Int) : u1 (u1 f k v) k v' = u1 f k v' := by funext j; unfold u1; split <;> rfl
theorem sr_cm {b : Int} (M : Int → Int → Int) (f g : Int → Int) (h : a ≠ b) : sr (sr M a f) b g = sr (sr M b g) a f := by
  funext c; unfold sr; by_cases e1 : c = a <;> by_cases e2 : c = b <;> simp_all
theorem u1_at (f : Int → Int) (k v j : Int) : u1 f k v j = if j = k then v else f j := rfl
theorem up_sr : up (M, G) a k v = (sr M a (u1 (M a) k v), G) := by
  unfold up sr u1
  simp only [Prod.mk.injEq, and_true]
  funext a' k'
  by_cases h : a' = a
  · subst h; simp
  · simp [h]
theorem tk_ok {z : Option β} (e : G.1 a = t) : tk t (M, G) a z = z := if_pos e
theorem b_gf (e : G.1 a = t) : (gf t (M, G) a k).bind f = f (M a k) := by rw [show gf t (M, G) a k = some (M a k) from if_pos e]; rfl
theorem b_gr (e : G.1 a = t) (e2 : 0 ≤ M a k) : (gr t (M, G) a k).bind f = f (M a k) := by rw [show gr t (M, G) a k = some (M a k) from if_pos ⟨e, e2⟩]; rfl
theorem b_pf (e : G.1 a = t) : (pf t (M, G) a k v).bind fh = fh (sr M a (u1 (M a) k v), G) := by rw [show pf t (M, G) a k v = some (sr M a (u1 (M a) k v), G) from by rw [← up_sr]; exact if_pos e]; rfl
theorem b_pz (e : G.1 a = t) (e2 : v = 0 ∨ v = 1) : (pz t (M, G) a k v).bind fh = fh (sr M a (u1 (M a) k v), G) := by rw [show pz t (M, G) a k v = some (sr M a (u1 (M a) k v), G) from by rw [← up_sr]; exact if_pos ⟨e, by rcases e2 with rfl | rfl <;> decide⟩]; rfl
theorem b_rp {o : Option Hp} (e : 0 ≤ x) : rp x o fh = o.bind fh := if_pos e
theorem w32_id {x : Int} (h1 : -2147483648 ≤ x) (h2 : x ≤ 2147483647) : w32 x = x := w32_of h1 h2
theorem b_ald (e : G.1 a = t) (h0 : 0 ≤ i) (h1 : i < G.2.1 a) (h2 : i ≤ 2147483647) : (ald t (M, G) a i).bind f = f (M a i) := by
  have e1 : w32 i = i := w32_of (by omega) h2
  have : ald t (M, G) a i = some (M a i) := by unfold ald; rw [e1]; exact if_pos ⟨e, h0, h1⟩
  rw [this]; rfl
theorem b_aldR (e : G.1 a = t) (h0 : 0 ≤ i) (h1 : i < G.2.1 a) (h2 : i ≤ 2147483647) (h3 : 0 ≤ M a i) : (aldR t (M, G) a i).bind f = f (M a i) := by
  have e1 : w32 i = i := w32_of (by omega) h2
  have : aldR t (M, G) a i = some (M a i) := by unfold aldR; rw [e1]; exact if_pos ⟨e, h0, h1, h3⟩
  rw [this]; rfl
theorem b_ast (e : G.1 a = t) (h0 : 0 ≤ i) (h1 : i < G.2.1 a) (h2 : i ≤ 2147483647) : (ast t (M, G) a i v).bind fh = fh (sr M a (u1 (M a) i v), G) := by
  have e1 : w32 i = i := w32_of (by omega) h2
  have : ast t (M, G) a i v = some (sr M a (u1 (M a) i v), G) := by rw [← up_sr]; unfold ast; rw [e1]; exact if_pos ⟨e, h0, h1⟩
  rw [this]; rfl
theorem b_astR (e : G.1 a = t) (h0 : 0 ≤ i) (h1 : i < G.2.1 a) (h2 : i ≤ 2147483647) (h3 : G.1 v = u) : (astR t u (M, G) a i v).bind fh = fh (sr M a (u1 (M a) i v), G) := by
  have e1 : w32 i = i := w32_of (by omega) h2
  have : astR t u (M, G) a i v = some (sr M a (u1 (M a) i v), G) := by rw [← up_sr]; unfold astR; rw [e1]; exact if_pos ⟨e, h0, h1, h3⟩
  rw [this]; rfl
theorem b_alen (e : G.1 a = t) : (alen t (M, G) a).bind f = f (G.2.1 a) := by rw [show alen t (M, G) a = some (G.2.1 a) from if_pos e]; rfl
/-- a stretch of a row copied into another row -/
def cp1 (g f : Int → Int) (i i2 n : Int) : Int → Int := fun k' => if i2 ≤ k' ∧ k' < i2 + n then f (i + (k' - i2)) else g k'
theorem b_cpy (e : G.1 a = t) (e2 : G.1 a2 = t) (h0 : 0 ≤ i) (h1 : 0 ≤ i2) (h2 : 0 ≤ n) (h3 : i + n ≤ G.2.1 a) (h4 : i2 + n ≤ G.2.1 a2) (h5 : i ≤ 2147483647) (h6 : i2 ≤ 2147483647) (h7 : n ≤ 2147483647) : (cpy t (M, G) a i a2 i2 n).bind fh = fh (sr M a2 (cp1 (M a2) (M a) i i2 n), G) := by
  have e1 : w32 i = i := w32_of (by omega) h5
  have e3 : w32 i2 = i2 := w32_of (by omega) h6
  have e4 : w32 n = n := w32_of (by omega) h7
  have : cpy t (M, G) a i a2 i2 n = some (sr M a2 (cp1 (M a2) (M a) i i2 n), G) := by
    unfold cpy
    rw [e1, e3, e4, if_pos ⟨e, e2, h0, h1, h2, h3, h4⟩]
    simp only [Option.some.injEq, Prod.mk.injEq, and_true]
    funext a' k'
    unfold sr cp1
    by_cases q : a' = a2
    · subst q; simp
    · simp [q]
  rw [this]; rfl
/-- nothing but 0 beyond a row's end -/
def zO (n : Int) (f : Int → Int) : Prop := ∀ k, k < 0 ∨ n ≤ k → f k = 0
theorem cp1_all {f g : Int → Int} (hf : zO n f) (hg : zO n g) : cp1 g f 0 0 n = f := by
  funext j
  unfold cp1
  split
  · congr 1; omega
  · rw [hg j (by omega), hf j (by omega)]
theorem zO_u1 {f : Int → Int} (h : zO n f) (h0 : 0 ≤ k) (h1 : k < n) : zO n (u1 f k v) := fun j hj => by rw [u1_k f v (by omega)]; exact h j hj
theorem bd_some {γ : Type} (h : Hp) (v : Int) (f : Hp → Int → Option γ) : bd (some (h, v)) f = f h v := rfl
theorem b_idv (hx1 : 0 ≤ x) (hx2 : x ≤ 2147483647) (hy1 : 1 ≤ y) (hy2 : y ≤ 2147483647) : (idv x y).bind f = f (x / y) := by
  have e1 : w32 x = x := w32_of (by omega) hx2
  have e2 : w32 y = y := w32_of (by omega) hy2
  have : idv x y = some (x / y) := by unfold idv; rw [e1, e2, Int.tdiv_eq_ediv_of_nonneg hx1]; exact if_neg (by omega)
  rw [this]; rfl
theorem b_irm (hx1 : 0 ≤ x) (hx2 : x ≤ 2147483647) (hy1 : 1 ≤ y) (hy2 : y ≤ 2147483647) : (irm x y).bind f = f (x % y) := by
  have e1 : w32 x = x := w32_of (by omega) hx2
  have e2 : w32 y = y := w32_of (by omega) hy2
  have : irm x y = some (x % y) := by unfold irm; rw [e1, e2, Int.tmod_eq_emod_of_nonneg hx1]; exact if_neg (by omega)
  rw [this]; rfl
theorem zb1_ok {z : β} (e : v = 0 ∨ v = 1) : zb1 v z = some z := if_pos (by rcases e with rfl | rfl <;> decide)
end PB
theorem FU_big : 900000 ≤ FU := by decide
theorem exi_l {E T γ : Type} {z : E} (f : E → Option γ) (k : T → Option γ) : exi (Sum.inl z) f k = f z := rfl
theorem exi_r {E T γ : Type} {z : T} (f : E → Option γ) (k : T → Option γ) : exi (Sum.inr z) f k = k z := rfl
/-- what a turn of a loop leaves: a state, or an end -/
def lo {S T : Type} (I : S → Prop) (P : T → Prop) : S ⊕ T → Prop
  | .inl s => I s
  | .inr t => P t
/-- a loop that counts: n turns at most -/
theorem wh_cnt {S T : Type} {body : S → Option (S ⊕ T)} (I : Nat → S → Prop) (P : T → Prop) (n : Nat)
    (hs : ∀ i s, i < n → I i s → Ok (body s) (lo (I (i + 1)) P))
    (hf : ∀ s, I n s → Ok (body s) (lo (fun _ => False) P)) :
    ∀ (d i m : Nat) (s : S), i + d = n → d < m → I i s → Ok (wh body m s) P := by
  intro d
  induction d with
  | zero =>
    intro i m s hi hm hI
    have hi : i = n := by omega
    subst hi
    obtain ⟨m, rfl⟩ : ∃ q, m = q + 1 := ⟨m - 1, by omega⟩
    obtain ⟨z, e, hz⟩ := hf s hI
    unfold wh
    rw [e]
    cases z with
    | inl s' => exact absurd hz id
    | inr t => exact Ok.ret hz
  | succ d ih =>
    intro i m s hi hm hI
    obtain ⟨m, rfl⟩ : ∃ q, m = q + 1 := ⟨m - 1, by omega⟩
    obtain ⟨z, e, hz⟩ := hs i s (by omega) hI
    unfold wh
    rw [e]
    cases z with
    | inl s' => exact ih (i + 1) m s' (by omega) (by omega) hz
    | inr t => exact Ok.ret hz
theorem wh_for {S T : Type} {body : S → Option (S ⊕ T)} (I : Nat → S → Prop) (P : T → Prop) (n : Nat) (hn : n < 900000) {s : S} (h0 : I 0 s)
    (hs : ∀ i s, i < n → I i s → Ok (body s) (lo (I (i + 1)) P))
    (hf : ∀ s, I n s → Ok (body s) (lo (fun _ => False) P)) : Ok (wh body FU s) P :=
  wh_cnt I P n hs hf n 0 FU s (by omega) (Nat.lt_of_lt_of_le hn FU_big) h0
theorem Ok.eq {α : Type} {o : Option α} {v : α} (h : Ok o (fun r => r = v)) : o = some v := by
  obtain ⟨a, e, q⟩ := h
  rw [e, q]
/-- a loop whose states are known -/
theorem wh_st {S T : Type} {body : S → Option (S ⊕ T)} (st : Nat → S) (n : Nat) (hn : n < 900000) {s : S} (h0 : s = st 0) {t : T} (hs : ∀ i, i < n → body (st i) = some (.inl (st (i + 1)))) (hf : body (st n) = some (.inr t)) : wh body FU s = some t :=
  Ok.eq (wh_for (fun i s => s = st i) (fun r => r = t) n hn h0 (fun i s hi e => by subst e; exact Ok.of (hs i hi) rfl) (fun s e => by subst e; exact Ok.of hf rfl))
/-- a loop that ends by a number that falls -/
theorem wh_end {S T : Type} {body : S → Option (S ⊕ T)} (I : S → Prop) (μ : S → Nat) (P : T → Prop)
    (hs : ∀ s, I s → Ok (body s) (lo (fun s' => I s' ∧ μ s' < μ s) P)) : ∀ (m : Nat) (s : S), I s → μ s < m → Ok (wh body m s) P := by
  intro m
  induction m with
  | zero => intro s _ h; exact absurd h (Nat.not_lt_zero _)
  | succ m ih =>
    intro s hI hμ
    obtain ⟨z, e, hz⟩ := hs s hI
    unfold wh
    rw [e]
    cases z with
    | inl s' => have h2 : μ s' < μ s := hz.2; exact ih s' hz.1 (by omega)
    | inr t => exact Ok.ret hz


/-! the same as steps of a walk: the head alone -/
section KB
variable {α β : Type} {M M' : Int → Int → Int} {G : GG} {t u : Nat} {a a2 k i i2 n v x y : Int} {f : Int → Option β} {fh : Hp → Option β} {P : β → Prop} {z A B : Option β} {c c' : Prop} {d : Decidable c}
theorem k_tk (e : G.1 a = t) (h : Ok z P) : Ok (tk t (M, G) a z) P := by rw [tk_ok e]; exact h
theorem k_gf (e : G.1 a = t) (q : M a k = v) (h : Ok (f v) P) : Ok ((gf t (M, G) a k).bind f) P := by rw [b_gf e, q]; exact h
theorem k_gr (e : G.1 a = t) (q : M a k = v) (e2 : 0 ≤ v) (h : Ok (f v) P) : Ok ((gr t (M, G) a k).bind f) P := by rw [b_gr e (by rw [q]; exact e2), q]; exact h
theorem k_pf (e : G.1 a = t) (q : sr M a (u1 (M a) k v) = M') (h : Ok (fh (M', G)) P) : Ok ((pf t (M, G) a k v).bind fh) P := by rw [b_pf e, q]; exact h
theorem k_pz (e : G.1 a = t) (e2 : v = 0 ∨ v = 1) (q : sr M a (u1 (M a) k v) = M') (h : Ok (fh (M', G)) P) : Ok ((pz t (M, G) a k v).bind fh) P := by rw [b_pz e e2, q]; exact h
theorem k_rp {o : Option Hp} (e : 0 ≤ x) (h : Ok (o.bind fh) P) : Ok (rp x o fh) P := by rw [b_rp e]; exact h
theorem k_ald {n : Int} (e : G.1 a = t) (el : G.2.1 a = n) (h0 : 0 ≤ i) (h1 : i < n) (h2 : i ≤ 2147483647) (q : M a i = v) (h : Ok (f v) P) : Ok ((ald t (M, G) a i).bind f) P := by rw [b_ald e h0 (by rw [el]; exact h1) h2, q]; exact h
theorem k_aldR {n : Int} (e : G.1 a = t) (el : G.2.1 a = n) (h0 : 0 ≤ i) (h1 : i < n) (h2 : i ≤ 2147483647) (q : M a i = v) (h3 : 0 ≤ v) (h : Ok (f v) P) : Ok ((aldR t (M, G) a i).bind f) P := by rw [b_aldR e h0 (by rw [el]; exact h1) h2 (by rw [q]; exact h3), q]; exact h
theorem k_ast {n : Int} (e : G.1 a = t) (el : G.2.1 a = n) (h0 : 0 ≤ i) (h1 : i < n) (h2 : i ≤ 2147483647) (q : sr M a (u1 (M a) i v) = M') (h : Ok (fh (M', G)) P) : Ok ((ast t (M, G) a i v).bind fh) P := by rw [b_ast e h0 (by rw [el]; exact h1) h2, q]; exact h
theorem k_astR {n : Int} (e : G.1 a = t) (el : G.2.1 a = n) (h0 : 0 ≤ i) (h1 : i < n) (h2 : i ≤ 2147483647) (h3 : G.1 v = u) (q : sr M a (u1 (M a) i v) = M') (h : Ok (fh (M', G)) P) : Ok ((astR t u (M, G) a i v).bind fh) P := by rw [b_astR e h0 (by rw [el]; exact h1) h2 h3, q]; exact h
theorem k_alen (e : G.1 a = t) (q : G.2.1 a = n) (h : Ok (f n) P) : Ok ((alen t (M, G) a).bind f) P := by rw [b_alen e, q]; exact h
theorem k_cpy {l l2 : Int} (e : G.1 a = t) (e2 : G.1 a2 = t) (el : G.2.1 a = l) (el2 : G.2.1 a2 = l2) (h0 : 0 ≤ i) (h1 : 0 ≤ i2) (h2 : 0 ≤ n) (h3 : i + n ≤ l) (h4 : i2 + n ≤ l2) (h5 : i ≤ 2147483647) (h6 : i2 ≤ 2147483647) (h7 : n ≤ 2147483647) (q : sr M a2 (cp1 (M a2) (M a) i i2 n) = M') (h : Ok (fh (M', G)) P) : Ok ((cpy t (M, G) a i a2 i2 n).bind fh) P := by rw [b_cpy e e2 h0 h1 h2 (by rw [el]; exact h3) (by rw [el2]; exact h4) h5 h6 h7, q]; exact h
theorem k_idv (hx1 : 0 ≤ x) (hx2 : x ≤ 2147483647) (hy1 : 1 ≤ y) (hy2 : y ≤ 2147483647) (h : Ok (f (x / y)) P) : Ok ((idv x y).bind f) P := by rw [b_idv hx1 hx2 hy1 hy2]; exact h
theorem k_irm (hx1 : 0 ≤ x) (hx2 : x ≤ 2147483647) (hy1 : 1 ≤ y) (hy2 : y ≤ 2147483647) (h : Ok (f (x % y)) P) : Ok ((irm x y).bind f) P := by rw [b_irm hx1 hx2 hy1 hy2]; exact h
theorem k_ifT (hc : c) (h : Ok A P) : Ok (@ite _ c d A B) P := by rw [if_pos hc]; exact h
theorem k_ifF (hc : ¬ c) (h : Ok B P) : Ok (@ite _ c d A B) P := by rw [if_neg hc]; exact h
theorem k_if (hc : c ↔ c') (h1 : c' → Ok A P) (h2 : ¬ c' → Ok B P) : Ok (@ite _ c d A B) P := Ok.ite (fun q => h1 (hc.mp q)) (fun q => h2 (fun r => q (hc.mpr r)))
/-- a call whose answer is known -/
theorem k_eq {o : Option α} {r : α} {g : α → Option β} (e : o = some r) (h : Ok (g r) P) : Ok (o.bind g) P := by rw [e]; exact h
theorem k_bd {o : Option (Hp × Int)} {h' : Hp} {r : Int} {g : Hp → Int → Option β} (e : o = some (h', r)) (h : Ok (g h' r) P) : Ok (bd o g) P := by rw [e]; exact h
end KB
