/-! the constructors -/
/-- rows of numbers are all 0 -/
def Zs (h : Hp) : Prop := ∀ a, 1 ≤ h.2.1 a → h.2.1 a ≤ 4 → ∀ k, h.1 a k = 0
section ZS
variable {β : Type} {h : Hp} {t : Nat} {a k v n x : Int} {f : Hp → Option β} {g : Int → Option β} {r : β} {Q : Prop}
theorem Zs_up (hz : Zs h) (ht : ¬ (1 ≤ h.2.1 a ∧ h.2.1 a ≤ 4)) : Zs (up h a k v) := fun b h1 h2 j => by
  have h1 : 1 ≤ h.2.1 b := h1
  have h2 : h.2.1 b ≤ 4 := h2
  show (if b = a ∧ j = k then v else h.1 b j) = 0
  rw [if_neg]
  · exact hz b h1 h2 j
  · rintro ⟨rfl, -⟩; exact ht ⟨h1, h2⟩
theorem zs_tk {z : Option β} (e : tk t h a z = some r) (kk : z = some r → Q) : Q := kk (tk_inv e).2
theorem zs_pf (hz : Zs h) (ht : 10 ≤ t) (e : (pf t h a k v).bind f = some r) (kk : ∀ h', Zs h' → f h' = some r → Q) : Q := by
  unfold pf at e
  split at e
  · rename_i y
    exact kk _ (Zs_up hz (by rw [y]; omega)) e
  · cases e
theorem zs_pz (hz : Zs h) (ht : 10 ≤ t) (e : (pz t h a k v).bind f = some r) (kk : ∀ h', Zs h' → f h' = some r → Q) : Q := by
  unfold pz at e
  split at e
  · rename_i y
    exact kk _ (Zs_up hz (by rw [y.1]; omega)) e
  · cases e
theorem zs_rp {o : Option Hp} (e : rp x o f = some r) (kk : o.bind f = some r → Q) : Q := by
  unfold rp at e
  split at e
  · exact kk e
  · cases e
theorem zs_gr (e : (gr t h a k).bind g = some r) (kk : ∀ x, g x = some r → Q) : Q := by
  unfold gr at e
  split at e
  · exact kk _ e
  · cases e
theorem zs_astR {u : Nat} (hz : Zs h) (ht : 5 ≤ t) (e : (astR t u h a k v).bind f = some r) (kk : ∀ h', Zs h' → f h' = some r → Q) : Q := by
  unfold astR at e
  split at e
  · rename_i y
    exact kk _ (Zs_up hz (by rw [y.1]; omega)) e
  · cases e
theorem Zs_nw (hz : Zs h) : Zs (nw t n 0 h) := fun b h1 h2 j => by
  show (if b = h.2.2.2 then 0 else h.1 b j) = 0
  by_cases y : b = h.2.2.2
  · rw [if_pos y]
  · rw [if_neg y]
    have h1 : 1 ≤ (if b = h.2.2.2 then t else h.2.1 b) := h1
    have h2 : (if b = h.2.2.2 then t else h.2.1 b) ≤ 4 := h2
    rw [if_neg y] at h1 h2
    exact hz b h1 h2 j
theorem Zs_nw5 {d : Int} (ht : 5 ≤ t) (hz : Zs h) : Zs (nw t n d h) := fun b h1 h2 j => by
  have h1 : 1 ≤ (if b = h.2.2.2 then t else h.2.1 b) := h1
  have h2 : (if b = h.2.2.2 then t else h.2.1 b) ≤ 4 := h2
  show (if b = h.2.2.2 then d else h.1 b j) = 0
  by_cases y : b = h.2.2.2
  · rw [if_pos y] at h2; omega
  · rw [if_neg y] at h1 h2 ⊢
    exact hz b h1 h2 j
theorem Zs_nwo {ci : Nat} {d : Int → Int} (hz : Zs h) : Zs (nwo ci d h) := fun b h1 h2 j => by
  have h1 : 1 ≤ (if b = h.2.2.2 then 10 + ci else h.2.1 b) := h1
  have h2 : (if b = h.2.2.2 then 10 + ci else h.2.1 b) ≤ 4 := h2
  show (if b = h.2.2.2 then d j else h.1 b j) = 0
  by_cases y : b = h.2.2.2
  · rw [if_pos y] at h2; omega
  · rw [if_neg y] at h1 h2 ⊢
    exact hz b h1 h2 j
theorem zs_nw {f : Hp → Int → Option β} (hz : Zs h) (e : nb (nw t n 0 h) x f = some r) (kk : ∀ h', Zs h' → f h' x = some r → Q) : Q := kk _ (Zs_nw hz) e
theorem zs_nw5 {d : Int} {f : Hp → Int → Option β} (hz : Zs h) (ht : 5 ≤ t) (e : nb (nw t n d h) x f = some r) (kk : ∀ h', Zs h' → f h' x = some r → Q) : Q := kk _ (Zs_nw5 ht hz) e
theorem zs_nwo {ci : Nat} {d : Int → Int} {f : Hp → Int → Option β} (hz : Zs h) (e : nb (nwo ci d h) x f = some r) (kk : ∀ h', Zs h' → f h' x = some r → Q) : Q := kk _ (Zs_nwo hz) e
/-- a constructor's call -/
theorem zs_c {o : Option Hp} (ho : ∀ h', o = some h' → Zs h') (e : o.bind f = some r) (kk : ∀ h', Zs h' → f h' = some r → Q) : Q := by
  cases o with
  | none => cases e
  | some h' => exact kk h' (ho h' rfl) e
end ZS
theorem zi_X8_init {h r : Hp} {l0 : Int} (hz : Zs h) (hm : M_X8_init h l0 = some r) : Zs r := by
  unfold M_X8_init at hm
  replace hm := (tk_inv hm).2
  repeat (with_reducible first | refine zs_rp hm (fun hm => ?_) | refine zs_gr hm (fun x hm => ?_) | refine zs_pf hz (by decide) hm (fun h hz hm => ?_) | refine zs_pz hz (by decide) hm (fun h hz hm => ?_) | refine zs_nw hz hm (fun h hz hm => ?_) | refine zs_nw5 hz (by decide) hm (fun h hz hm => ?_) | refine zs_nwo hz hm (fun h hz hm => ?_) | refine zs_astR hz (by decide) hm (fun h hz hm => ?_))
  cases hm
  exact hz
theorem zi_X5_init {h r : Hp} {l0 : Int} (hz : Zs h) (hm : M_X5_init h l0 = some r) : Zs r := by
  unfold M_X5_init at hm
  replace hm := (tk_inv hm).2
  repeat (with_reducible first | refine zs_rp hm (fun hm => ?_) | refine zs_gr hm (fun x hm => ?_) | refine zs_pf hz (by decide) hm (fun h hz hm => ?_) | refine zs_pz hz (by decide) hm (fun h hz hm => ?_) | refine zs_nw hz hm (fun h hz hm => ?_) | refine zs_nw5 hz (by decide) hm (fun h hz hm => ?_) | refine zs_nwo hz hm (fun h hz hm => ?_) | refine zs_astR hz (by decide) hm (fun h hz hm => ?_) | refine zs_c (fun h' e => zi_X8_init hz e) hm (fun h hz hm => ?_))
  cases hm
  exact hz
theorem zi_X3_init {h r : Hp} {l0 : Int} (hz : Zs h) (hm : M_X3_init h l0 = some r) : Zs r := by
  unfold M_X3_init at hm
  replace hm := (tk_inv hm).2
  repeat (with_reducible first | refine zs_rp hm (fun hm => ?_) | refine zs_gr hm (fun x hm => ?_) | refine zs_pf hz (by decide) hm (fun h hz hm => ?_) | refine zs_pz hz (by decide) hm (fun h hz hm => ?_) | refine zs_nw hz hm (fun h hz hm => ?_) | refine zs_nw5 hz (by decide) hm (fun h hz hm => ?_) | refine zs_nwo hz hm (fun h hz hm => ?_) | refine zs_astR hz (by decide) hm (fun h hz hm => ?_) | refine zs_c (fun h' e => zi_X8_init hz e) hm (fun h hz hm => ?_))
  cases hm
  exact hz
theorem zi_X0_init {h r : Hp} {l0 l1 : Int} (hz : Zs h) (hm : M_X0_init h l0 l1 = some r) : Zs r := by
  unfold M_X0_init at hm
  replace hm := (tk_inv hm).2
  repeat (with_reducible first | refine zs_rp hm (fun hm => ?_) | refine zs_gr hm (fun x hm => ?_) | refine zs_pf hz (by decide) hm (fun h hz hm => ?_) | refine zs_pz hz (by decide) hm (fun h hz hm => ?_) | refine zs_nw hz hm (fun h hz hm => ?_) | refine zs_nw5 hz (by decide) hm (fun h hz hm => ?_) | refine zs_nwo hz hm (fun h hz hm => ?_) | refine zs_astR hz (by decide) hm (fun h hz hm => ?_))
  cases hm
  exact hz
theorem zi_X7_init {h r : Hp} {l0 l1 : Int} (hz : Zs h) (hm : M_X7_init h l0 l1 = some r) : Zs r := by
  unfold M_X7_init at hm
  replace hm := (tk_inv hm).2
  repeat (with_reducible first | refine zs_rp hm (fun hm => ?_) | refine zs_gr hm (fun x hm => ?_) | refine zs_pf hz (by decide) hm (fun h hz hm => ?_) | refine zs_pz hz (by decide) hm (fun h hz hm => ?_) | refine zs_nw hz hm (fun h hz hm => ?_) | refine zs_nw5 hz (by decide) hm (fun h hz hm => ?_) | refine zs_nwo hz hm (fun h hz hm => ?_) | refine zs_astR hz (by decide) hm (fun h hz hm => ?_))
  cases hm
  exact hz
theorem zi_X6_init {h r : Hp} {l0 l1 : Int} (hz : Zs h) (hm : M_X6_init h l0 l1 = some r) : Zs r := by
  unfold M_X6_init at hm
  replace hm := (tk_inv hm).2
  repeat (with_reducible first | refine zs_rp hm (fun hm => ?_) | refine zs_gr hm (fun x hm => ?_) | refine zs_pf hz (by decide) hm (fun h hz hm => ?_) | refine zs_pz hz (by decide) hm (fun h hz hm => ?_) | refine zs_nw hz hm (fun h hz hm => ?_) | refine zs_nw5 hz (by decide) hm (fun h hz hm => ?_) | refine zs_nwo hz hm (fun h hz hm => ?_) | refine zs_astR hz (by decide) hm (fun h hz hm => ?_) | refine zs_c (fun h' e => zi_X7_init hz e) hm (fun h hz hm => ?_))
  cases hm
  exact hz
theorem zi_X1_init {h r : Hp} {l0 l1 : Int} (hz : Zs h) (hm : M_X1_init h l0 l1 = some r) : Zs r := by
  unfold M_X1_init at hm
  replace hm := (tk_inv hm).2
  repeat (with_reducible first | refine zs_rp hm (fun hm => ?_) | refine zs_gr hm (fun x hm => ?_) | refine zs_pf hz (by decide) hm (fun h hz hm => ?_) | refine zs_pz hz (by decide) hm (fun h hz hm => ?_) | refine zs_nw hz hm (fun h hz hm => ?_) | refine zs_nw5 hz (by decide) hm (fun h hz hm => ?_) | refine zs_nwo hz hm (fun h hz hm => ?_) | refine zs_astR hz (by decide) hm (fun h hz hm => ?_))
  cases hm
  exact hz
theorem zi_X2_init {h r : Hp} {l0 : Int} (hz : Zs h) (hm : M_X2_init h l0 = some r) : Zs r := by
  unfold M_X2_init at hm
  replace hm := (tk_inv hm).2
  repeat (with_reducible first | refine zs_rp hm (fun hm => ?_) | refine zs_gr hm (fun x hm => ?_) | refine zs_pf hz (by decide) hm (fun h hz hm => ?_) | refine zs_pz hz (by decide) hm (fun h hz hm => ?_) | refine zs_nw hz hm (fun h hz hm => ?_) | refine zs_nw5 hz (by decide) hm (fun h hz hm => ?_) | refine zs_nwo hz hm (fun h hz hm => ?_) | refine zs_astR hz (by decide) hm (fun h hz hm => ?_))
  cases hm
  exact hz
theorem zi_X9_init {h r : Hp} {l0 : Int} (hz : Zs h) (hm : M_X9_init h l0 = some r) : Zs r := by
  unfold M_X9_init at hm
  replace hm := (tk_inv hm).2
  repeat (with_reducible first | refine zs_rp hm (fun hm => ?_) | refine zs_gr hm (fun x hm => ?_) | refine zs_pf hz (by decide) hm (fun h hz hm => ?_) | refine zs_pz hz (by decide) hm (fun h hz hm => ?_) | refine zs_nw hz hm (fun h hz hm => ?_) | refine zs_nw5 hz (by decide) hm (fun h hz hm => ?_) | refine zs_nwo hz hm (fun h hz hm => ?_) | refine zs_astR hz (by decide) hm (fun h hz hm => ?_) | refine zs_c (fun h' e => zi_X5_init hz e) hm (fun h hz hm => ?_) | refine zs_c (fun h' e => zi_X8_init hz e) hm (fun h hz hm => ?_) | refine zs_c (fun h' e => zi_X3_init hz e) hm (fun h hz hm => ?_) | refine zs_c (fun h' e => zi_X0_init hz e) hm (fun h hz hm => ?_) | refine zs_c (fun h' e => zi_X6_init hz e) hm (fun h hz hm => ?_) | refine zs_c (fun h' e => zi_X1_init hz e) hm (fun h hz hm => ?_) | refine zs_c (fun h' e => zi_X2_init hz e) hm (fun h hz hm => ?_))
  cases hm
  exact hz
theorem zi_X11_init {h r : Hp} {l0 : Int} (hz : Zs h) (hm : M_X11_init h l0 = some r) : Zs r := by
  unfold M_X11_init at hm
  replace hm := (tk_inv hm).2
  repeat (with_reducible first | refine zs_rp hm (fun hm => ?_) | refine zs_gr hm (fun x hm => ?_) | refine zs_pf hz (by decide) hm (fun h hz hm => ?_) | refine zs_pz hz (by decide) hm (fun h hz hm => ?_) | refine zs_nw hz hm (fun h hz hm => ?_) | refine zs_nw5 hz (by decide) hm (fun h hz hm => ?_) | refine zs_nwo hz hm (fun h hz hm => ?_) | refine zs_astR hz (by decide) hm (fun h hz hm => ?_))
  cases hm
  exact hz
/-- the memory at the law's start; behind the constructors -/
def h00 : Hp := (fun _ _ => 0, fun _ => 0, fun _ => 0, 0)
def hI1 : Option Hp := M_X9_init (nwo 9 (dflt 9) h00) 0
def hJ1 : Hp := match hI1 with
  | some h => h
  | none => h00
def hI2 : Option Hp := M_X11_init (nwo 11 (dflt 11) hJ1) 124
def hJ2 : Hp := match hI2 with
  | some h => h
  | none => h00
def hJ3 : Hp := nw 2 1 0 hJ2
set_option maxRecDepth 100000 in
theorem hI1_s : hI1.isSome = true := by decide +kernel
set_option maxRecDepth 100000 in
theorem hI2_s : hI2.isSome = true := by decide +kernel
theorem hI1_ok : M_X9_init (nwo 9 (dflt 9) h00) 0 = some hJ1 := by
  have h : hI1.isSome = true := hI1_s
  show hI1 = some hJ1
  unfold hJ1
  cases hc : hI1 with
  | none => rw [hc] at h; cases h
  | some q => rfl
theorem hI2_ok : M_X11_init (nwo 11 (dflt 11) hJ1) 124 = some hJ2 := by
  have h : hI2.isSome = true := hI2_s
  show hI2 = some hJ2
  unfold hJ2
  cases hc : hI2 with
  | none => rw [hc] at h; cases h
  | some q => rfl
theorem hJ3_z : Zs hJ3 := by
  have h0 : Zs h00 := fun _ _ _ _ => rfl
  have h1 : Zs hJ1 := zi_X9_init (Zs_nwo h0) hI1_ok
  have h2 : Zs hJ2 := zi_X11_init (Zs_nwo h1) hI2_ok
  exact Zs_nw h2
set_option maxRecDepth 100000 in
theorem hJ_x : hJ1.2.2.2 = 124 ∧ hJ2.2.2.2 = 145 ∧ hJ3.2.2.2 = 146 := by decide +kernel
set_option maxRecDepth 100000 in
theorem hJ3_k : ∀ a : Nat, a < 146 → hJ3.2.1 (a : Int) = kTb.getD a 0 ∧ hJ3.2.2.1 (a : Int) = lTb.getD a 0 := by decide +kernel
