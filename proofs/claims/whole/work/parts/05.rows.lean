section ZR2
variable {p : Program} {l : Launch} {e : Env} {R : Room} {s : State} {m : MethodId} {args : Array Value} {below : List Frame} {meth : Method} {c : Code} {H : Heap} {locs : List Loc} {cells slots : Nat} {Q : State → Prop} {cc : ByteArray} {pc nL : Nat} {ls : Array Slot} {rest : List Value} {own : String} {g : zGeo} {h : Hp} {β : Type} {r : β}
/-- a field's link for writing -/
def zPL (own : String) (idx ci k : Nat) (ty : FieldType) (name : String) : Prop := zFL own idx ci k ∧ ∃ fin : Bool, zFT ci k ty fin ∧ (fin = false ∨ (fin = true ∧ name = "<init>" ∧ own = (vwCl.getD ci ("", fun _ => ("", "", "", false), 0)).1 ∧ ∃ (C : String) (T : u_T) (N : Nat), vwCl[ci]? = some (C, T, N) ∧ Cond.fieldLink own idx (T k).1 (T k).2.1 (T k).2.2.1 ∈ TW))
theorem z_putI {idx ci k : Nat} {a x : Int} {name : String} {f : Hp → Option β} (C : zC p m c cc nL s args own g) (hnm : meth.name = name) (L : zPL own idx ci k .int name) (Hh : zH g s h H locs) (hdg : decode cc pc = .ok (.putfield idx, 3)) (hkd : kd ci k = 0) (hm : (pf (10 + ci) h a k x).bind f = some r)
    (kk : ∀ (h1 : Hp) (H1 : Heap) (locs1 : List Loc), zH g s h1 H1 locs1 → f h1 = some r → W p l e R s m args below meth c H1 locs1 cells slots Q (F0 m (pc + 3) ls rest)) : W p l e R s m args below meth c H locs cells slots Q (F0 m pc ls (qI x :: qR g a :: rest)) := by
  unfold pf at hm
  split at hm
  · rename_i ht
    obtain ⟨L1, fin, F, hf⟩ := L
    have hq : fv (kd ci k) g x = qI x := by rw [hkd]; rfl
    have := z_put0 (l := l) (e := e) (R := R) (below := below) (cells := cells) (slots := slots) (Q := Q) (ls := ls) (rest := rest) (pc := pc) (meth := meth) (x := x) C L1 F (by rw [hnm]; exact hf) Hh ht (by rw [hq]; rfl) (by rw [hq]; rfl) hdg (fun H1 locs1 hz => kk _ H1 locs1 hz hm)
    rw [hq] at this
    exact this
  · cases hm
theorem z_putJ {idx ci k : Nat} {a x : Int} {name : String} {f : Hp → Option β} (C : zC p m c cc nL s args own g) (hnm : meth.name = name) (L : zPL own idx ci k .long name) (Hh : zH g s h H locs) (hdg : decode cc pc = .ok (.putfield idx, 3)) (hkd : kd ci k = 1) (hm : (pf (10 + ci) h a k x).bind f = some r)
    (kk : ∀ (h1 : Hp) (H1 : Heap) (locs1 : List Loc), zH g s h1 H1 locs1 → f h1 = some r → W p l e R s m args below meth c H1 locs1 cells slots Q (F0 m (pc + 3) ls rest)) : W p l e R s m args below meth c H locs cells slots Q (F0 m pc ls (qJ x :: qR g a :: rest)) := by
  unfold pf at hm
  split at hm
  · rename_i ht
    obtain ⟨L1, fin, F, hf⟩ := L
    have hq : fv (kd ci k) g x = qJ x := by rw [hkd]; rfl
    have := z_put0 (l := l) (e := e) (R := R) (below := below) (cells := cells) (slots := slots) (Q := Q) (ls := ls) (rest := rest) (pc := pc) (meth := meth) (x := x) C L1 F (by rw [hnm]; exact hf) Hh ht (by rw [hq]; rfl) (by rw [hq]; rfl) hdg (fun H1 locs1 hz => kk _ H1 locs1 hz hm)
    rw [hq] at this
    exact this
  · cases hm
theorem z_putR {idx ci k : Nat} {a x : Int} {name : String} {ty : FieldType} {f : Hp → Option β} (C : zC p m c cc nL s args own g) (hnm : meth.name = name) (L : zPL own idx ci k ty name) (hty : ∀ q : Nat, narrow ty (.ref q) = .ref q ∧ fits ty (.ref q) = true) (Hh : zH g s h H locs) (hdg : decode cc pc = .ok (.putfield idx, 3)) (hkd : kd ci k = 2) (hx0 : 0 ≤ x) (hm : (pf (10 + ci) h a k x).bind f = some r)
    (kk : ∀ (h1 : Hp) (H1 : Heap) (locs1 : List Loc), zH g s h1 H1 locs1 → f h1 = some r → W p l e R s m args below meth c H1 locs1 cells slots Q (F0 m (pc + 3) ls rest)) : W p l e R s m args below meth c H locs cells slots Q (F0 m pc ls (qR g x :: qR g a :: rest)) := by
  unfold pf at hm
  split at hm
  · rename_i ht
    obtain ⟨L1, fin, F, hf⟩ := L
    have hq : fv (kd ci k) g x = qR g x := by rw [hkd]; exact qN_nn hx0
    have := z_put0 (l := l) (e := e) (R := R) (below := below) (cells := cells) (slots := slots) (Q := Q) (ls := ls) (rest := rest) (pc := pc) (meth := meth) (x := x) C L1 F (by rw [hnm]; exact hf) Hh ht (by rw [hq]; exact (hty _).1) (by rw [hq]; exact (hty _).2) hdg (fun H1 locs1 hz => kk _ H1 locs1 hz hm)
    rw [hq] at this
    exact this
  · cases hm
theorem bool_ofInt {x : Int} (h : w32 x = 0 ∨ w32 x = 1) : Int32.ofInt x = 0 ∨ Int32.ofInt x = 1 := by
  rcases h with h | h
  · left; exact Int32.toInt_inj.mp h
  · right; exact Int32.toInt_inj.mp h
theorem z_putZ {idx ci k : Nat} {a x : Int} {name : String} {f : Hp → Option β} (C : zC p m c cc nL s args own g) (hnm : meth.name = name) (L : zPL own idx ci k .boolean name) (Hh : zH g s h H locs) (hdg : decode cc pc = .ok (.putfield idx, 3)) (hkd : kd ci k = 0) (hm : (pz (10 + ci) h a k x).bind f = some r)
    (kk : ∀ (h1 : Hp) (H1 : Heap) (locs1 : List Loc), zH g s h1 H1 locs1 → f h1 = some r → W p l e R s m args below meth c H1 locs1 cells slots Q (F0 m (pc + 3) ls rest)) : W p l e R s m args below meth c H locs cells slots Q (F0 m pc ls (qI x :: qR g a :: rest)) := by
  unfold pz at hm
  split at hm
  · rename_i ht
    obtain ⟨L1, fin, F, hf⟩ := L
    have hq : fv (kd ci k) g x = qI x := by rw [hkd]; rfl
    have := z_put0 (l := l) (e := e) (R := R) (below := below) (cells := cells) (slots := slots) (Q := Q) (ls := ls) (rest := rest) (pc := pc) (meth := meth) (x := x) C L1 F (by rw [hnm]; exact hf) Hh ht.1 (by rw [hq]; rcases bool_ofInt ht.2 with h | h <;> (unfold qI; rw [h]; rfl)) (by rw [hq]; rcases bool_ofInt ht.2 with h | h <;> (unfold qI; rw [h]; rfl)) hdg (fun H1 locs1 hz => kk _ H1 locs1 hz hm)
    rw [hq] at this
    exact this
  · cases hm
/-! arrays -/
theorem z_iald {a i : Int} {f : Int → Option β} (C : zC p m c cc nL s args own g) (Hh : zH g s h H locs) (hdg : decode cc pc = .ok (.iaload, 1)) (hm : (ald 1 h a i).bind f = some r) (kk : ∀ x : Int, f x = some r → W p l e R s m args below meth c H locs cells slots Q (F0 m (pc + 1) ls (qI x :: rest))) : W p l e R s m args below meth c H locs cells slots Q (F0 m pc ls (qI i :: qR g a :: rest)) := by
  unfold ald at hm
  split at hm
  · rename_i ht
    obtain ⟨e0, e1, e2⟩ := z_arr Hh.1 ht.1 (by decide) (by decide)
    obtain ⟨i1, i2⟩ := zx_in ht.2.1 ht.2.2
    have hlt : (Int32.ofInt i).toNatClampNeg < (hL h a).toNat := Nat.not_le.mp fun q => i1 (Or.inr q)
    refine W.iald (v := qI (hM h a (w32 i))) C.1.1 C.1.2.1 e2 ((C.2.1.2 0 _ rfl).1 _ _) (fun q => by cases q) (by show ¬ (_ ∨ (arrV _ _ _).slots.size ≤ _); rw [arrV_size]; exact i1) (by rw [arrV_read _ _ hlt, i2]; rfl) rfl rfl hdg (kk _ hm)
  · cases hm
theorem z_lald {a i : Int} {f : Int → Option β} (C : zC p m c cc nL s args own g) (Hh : zH g s h H locs) (hdg : decode cc pc = .ok (.laload, 1)) (hm : (ald 2 h a i).bind f = some r) (kk : ∀ x : Int, f x = some r → W p l e R s m args below meth c H locs cells slots Q (F0 m (pc + 1) ls (qJ x :: rest))) : W p l e R s m args below meth c H locs cells slots Q (F0 m pc ls (qI i :: qR g a :: rest)) := by
  unfold ald at hm
  split at hm
  · rename_i ht
    obtain ⟨e0, e1, e2⟩ := z_arr Hh.1 ht.1 (by decide) (by decide)
    obtain ⟨i1, i2⟩ := zx_in ht.2.1 ht.2.2
    have hlt : (Int32.ofInt i).toNatClampNeg < (hL h a).toNat := Nat.not_le.mp fun q => i1 (Or.inr q)
    refine W.lald (v := qJ (hM h a (w32 i))) C.1.1 C.1.2.1 e2 ((C.2.1.2 1 _ rfl).1 _ _) (fun q => by cases q) (by show ¬ (_ ∨ (arrV _ _ _).slots.size ≤ _); rw [arrV_size]; exact i1) (by rw [arrV_read _ _ hlt, i2]; rfl) rfl rfl hdg (kk _ hm)
  · cases hm
theorem z_bald {a i : Int} {f : Int → Option β} (C : zC p m c cc nL s args own g) (Hh : zH g s h H locs) (hdg : decode cc pc = .ok (.baload, 1)) (hm : (ald 3 h a i).bind f = some r) (kk : ∀ x : Int, f x = some r → W p l e R s m args below meth c H locs cells slots Q (F0 m (pc + 1) ls (qI x :: rest))) : W p l e R s m args below meth c H locs cells slots Q (F0 m pc ls (qI i :: qR g a :: rest)) := by
  unfold ald at hm
  split at hm
  · rename_i ht
    obtain ⟨e0, e1, e2⟩ := z_arr Hh.1 ht.1 (by decide) (by decide)
    obtain ⟨i1, i2⟩ := zx_in ht.2.1 ht.2.2
    have hlt : (Int32.ofInt i).toNatClampNeg < (hL h a).toNat := Nat.not_le.mp fun q => i1 (Or.inr q)
    refine W.bald (v := qI (hM h a (w32 i))) C.1.1 C.1.2.1 e2 ((C.2.1.2 2 _ rfl).1 _ _) (fun q => by cases q) (by show ¬ (_ ∨ (arrV _ _ _).slots.size ≤ _); rw [arrV_size]; exact i1) (by rw [arrV_read _ _ hlt, i2]; rfl) rfl rfl hdg (kk _ hm)
  · cases hm
theorem z_zald {a i : Int} {f : Int → Option β} (C : zC p m c cc nL s args own g) (Hh : zH g s h H locs) (hdg : decode cc pc = .ok (.baload, 1)) (hm : (ald 4 h a i).bind f = some r) (kk : ∀ x : Int, f x = some r → W p l e R s m args below meth c H locs cells slots Q (F0 m (pc + 1) ls (qI x :: rest))) : W p l e R s m args below meth c H locs cells slots Q (F0 m pc ls (qI i :: qR g a :: rest)) := by
  unfold ald at hm
  split at hm
  · rename_i ht
    obtain ⟨e0, e1, e2⟩ := z_arr Hh.1 ht.1 (by decide) (by decide)
    obtain ⟨i1, i2⟩ := zx_in ht.2.1 ht.2.2
    have hlt : (Int32.ofInt i).toNatClampNeg < (hL h a).toNat := Nat.not_le.mp fun q => i1 (Or.inr q)
    refine W.zald (v := qI (hM h a (w32 i))) C.1.1 C.1.2.1 e2 ((C.2.1.2 3 _ rfl).1 _ _) (fun q => by cases q) (by show ¬ (_ ∨ (arrV _ _ _).slots.size ≤ _); rw [arrV_size]; exact i1) (by rw [arrV_read _ _ hlt, i2]; rfl) rfl rfl hdg (kk _ hm)
  · cases hm
theorem z_aald {a i : Int} {f : Int → Option β} (C : zC p m c cc nL s args own g) (Hh : zH g s h H locs) (hdg : decode cc pc = .ok (.aaload, 1)) (hm : (aldR 5 h a i).bind f = some r) (kk : ∀ x : Int, f x = some r → W p l e R s m args below meth c H locs cells slots Q (F0 m (pc + 1) ls (qR g x :: rest))) : W p l e R s m args below meth c H locs cells slots Q (F0 m pc ls (qI i :: qR g a :: rest)) := by
  unfold aldR at hm
  split at hm
  · rename_i ht
    obtain ⟨e0, e1, e2⟩ := z_arr Hh.1 ht.1 (by decide) (by decide)
    obtain ⟨i1, i2⟩ := zx_in ht.2.1 ht.2.2.1
    have hlt : (Int32.ofInt i).toNatClampNeg < (hL h a).toNat := Nat.not_le.mp fun q => i1 (Or.inr q)
    refine W.aald (v := qR g (hM h a (w32 i))) (ty := .object "NineMaps$World") C.1.1 C.1.2.1 e2 ((C.2.1.2 4 _ rfl).1 _ _) rfl (fun q => by cases q) (by show ¬ (_ ∨ (arrV _ _ _).slots.size ≤ _); rw [arrV_size]; exact i1) (by rw [arrV_read _ _ hlt, i2]; exact congrArg some (qN_nn ht.2.2.2)) rfl rfl hdg (kk _ hm)
  · cases hm
theorem z_alen {t : Nat} {a : Int} {f : Int → Option β} (C : zC p m c cc nL s args own g) (Hh : zH g s h H locs) (hdg : decode cc pc = .ok (.arraylength, 1)) (h1 : t = 1 ∨ t = 2 ∨ t = 3) (hm : (alen t h a).bind f = some r) (kk : ∀ x : Int, f x = some r → W p l e R s m args below meth c H locs cells slots Q (F0 m (pc + 1) ls (qI x :: rest))) : W p l e R s m args below meth c H locs cells slots Q (F0 m pc ls (qR g a :: rest)) := by
  unfold alen at hm
  split at hm
  · rename_i ht
    obtain ⟨e0, e1, e2⟩ := z_arr Hh.1 ht (by omega) (by omega)
    have hv : ((arrV (g.2.1 t) (hL h a).toNat (fun j => fv (akd t) g (hM h a j))).slots.size).toInt32 = Int32.ofInt (hL h a) := by
      rw [arrV_size]
      show Int32.ofNat _ = _
      rw [show hL h a = (((hL h a).toNat : Nat) : Int) by omega]
      exact (Int32.ofInt_eq_ofNat).symm
    have harr : ∃ ty, s.isArrayOf (arrV (g.2.1 t) (hL h a).toNat (fun j => fv (akd t) g (hM h a j))) ty := by
      rcases h1 with h1 | h1 | h1 <;> subst h1
      · exact ⟨_, (C.2.1.2 0 _ rfl).1 _ _⟩
      · exact ⟨_, (C.2.1.2 1 _ rfl).1 _ _⟩
      · exact ⟨_, (C.2.1.2 2 _ rfl).1 _ _⟩
    obtain ⟨ty, harr⟩ := harr
    exact W.alen C.1.1 C.1.2.1 e2 harr hv rfl rfl hdg (kk _ hm)
  · cases hm
theorem z_stored {t : Nat} {a i v : Int} {H1 : Heap} {x : Value} (Hh : zH g s h H locs) (ht : hT h a = t) (h0 : t ≠ 0) (h10 : t < 10) (hi0 : 0 ≤ w32 i) (hi1 : w32 i < hL h a) (hx : x = fv (akd t) g v) (e1 : H1[zb g + a.toNat]? = some ((arrV (g.2.1 t) (hL h a).toNat (fun j => fv (akd t) g (hM h a j))).setSlot (Int32.ofInt i).toNatClampNeg x)) (e2 : H1.size = H.size) (e3 : ∀ q, q ≠ zb g + a.toNat → H1[q]? = H[q]?) : zH g s (up h a (w32 i) v) H1 (locs ++ [⟨zb g + a.toNat, (Int32.ofInt i).toNatClampNeg⟩]) := by
  obtain ⟨i1, i2⟩ := zx_in hi0 hi1
  refine ⟨zHp_up Hh.1 (by omega) ?_ e2 e3, Hh.2.put e2 e3 (Nat.le_add_right _ _)⟩
  have hta : hT (up h a (w32 i) v) a = t := ht
  refine ⟨fun _ => ⟨(z_arr Hh.1 ht h0 h10).2.1, ?_⟩, fun hge => absurd hge (by omega)⟩
  rw [e1, arrV_store, hta, hx]
  show some (arrV _ _ _) = some (arrV _ _ _)
  congr 2
  funext j
  unfold updV
  by_cases hj : j = (Int32.ofInt i).toNatClampNeg
  · have : (j : Int) = w32 i := by rw [hj]; exact i2
    simp [up, hM, hj, i2]
  · have : ¬ ((j : Int) = w32 i) := by omega
    simp [up, hM, hj, this]
theorem z_iast {a i v : Int} {f : Hp → Option β} (C : zC p m c cc nL s args own g) (Hh : zH g s h H locs) (hdg : decode cc pc = .ok (.iastore, 1)) (hm : (ast 1 h a i v).bind f = some r) (kk : ∀ (h1 : Hp) (H1 : Heap) (locs1 : List Loc), zH g s h1 H1 locs1 → f h1 = some r → W p l e R s m args below meth c H1 locs1 cells slots Q (F0 m (pc + 1) ls rest)) : W p l e R s m args below meth c H locs cells slots Q (F0 m pc ls (qI v :: qI i :: qR g a :: rest)) := by
  unfold ast at hm
  split at hm
  · rename_i ht
    obtain ⟨e0, e1, e2⟩ := z_arr Hh.1 ht.1 (by decide) (by decide)
    obtain ⟨i1, i2⟩ := zx_in ht.2.1 ht.2.2
    refine W.iast C.1.1 C.1.2.1 e2 ((C.2.1.2 0 _ rfl).1 _ _) (fun q => by cases q) (by show ¬ (_ ∨ (arrV _ _ _).slots.size ≤ _); rw [arrV_size]; exact i1) rfl rfl hdg fun H1 f1 f2 f3 => ?_
    exact kk _ H1 _ (z_stored (v := v) Hh ht.1 (by decide) (by decide) ht.2.1 ht.2.2 rfl f1 f2 f3) hm
  · cases hm
theorem z_last {a i v : Int} {f : Hp → Option β} (C : zC p m c cc nL s args own g) (Hh : zH g s h H locs) (hdg : decode cc pc = .ok (.lastore, 1)) (hm : (ast 2 h a i v).bind f = some r) (kk : ∀ (h1 : Hp) (H1 : Heap) (locs1 : List Loc), zH g s h1 H1 locs1 → f h1 = some r → W p l e R s m args below meth c H1 locs1 cells slots Q (F0 m (pc + 1) ls rest)) : W p l e R s m args below meth c H locs cells slots Q (F0 m pc ls (qJ v :: qI i :: qR g a :: rest)) := by
  unfold ast at hm
  split at hm
  · rename_i ht
    obtain ⟨e0, e1, e2⟩ := z_arr Hh.1 ht.1 (by decide) (by decide)
    obtain ⟨i1, i2⟩ := zx_in ht.2.1 ht.2.2
    refine W.last C.1.1 C.1.2.1 e2 ((C.2.1.2 1 _ rfl).1 _ _) (fun q => by cases q) (by show ¬ (_ ∨ (arrV _ _ _).slots.size ≤ _); rw [arrV_size]; exact i1) rfl rfl hdg fun H1 f1 f2 f3 => ?_
    exact kk _ H1 _ (z_stored (v := v) Hh ht.1 (by decide) (by decide) ht.2.1 ht.2.2 rfl f1 f2 f3) hm
  · cases hm
/-- a byte written, as it is kept -/
def astB (h : Hp) (a i v : Int) : Option Hp := ast 3 h a i (i2b v)
def astZ (h : Hp) (a i v : Int) : Option Hp := ast 4 h a i (iand v 1)
theorem z_bast {a i v : Int} {f : Hp → Option β} (C : zC p m c cc nL s args own g) (Hh : zH g s h H locs) (hdg : decode cc pc = .ok (.bastore, 1)) (hm : (astB h a i v).bind f = some r) (kk : ∀ (h1 : Hp) (H1 : Heap) (locs1 : List Loc), zH g s h1 H1 locs1 → f h1 = some r → W p l e R s m args below meth c H1 locs1 cells slots Q (F0 m (pc + 1) ls rest)) : W p l e R s m args below meth c H locs cells slots Q (F0 m pc ls (qI v :: qI i :: qR g a :: rest)) := by
  unfold astB ast at hm
  split at hm
  · rename_i ht
    obtain ⟨e0, e1, e2⟩ := z_arr Hh.1 ht.1 (by decide) (by decide)
    obtain ⟨i1, i2⟩ := zx_in ht.2.1 ht.2.2
    refine W.bast C.1.1 C.1.2.1 e2 ((C.2.1.2 2 _ rfl).1 _ _) (fun q => by cases q) (by show ¬ (_ ∨ (arrV _ _ _).slots.size ≤ _); rw [arrV_size]; exact i1) rfl rfl hdg fun H1 f1 f2 f3 => ?_
    refine kk _ H1 _ (z_stored (v := i2b v) Hh ht.1 (by decide) (by decide) ht.2.1 ht.2.2 ?_ f1 f2 f3) hm
    show _ = qI (i2b v)
    unfold qI i2b
    rw [Int32.ofInt_toInt]
    try rfl
  · cases hm
theorem z_zast {a i v : Int} {f : Hp → Option β} (C : zC p m c cc nL s args own g) (Hh : zH g s h H locs) (hdg : decode cc pc = .ok (.bastore, 1)) (hm : (astZ h a i v).bind f = some r) (kk : ∀ (h1 : Hp) (H1 : Heap) (locs1 : List Loc), zH g s h1 H1 locs1 → f h1 = some r → W p l e R s m args below meth c H1 locs1 cells slots Q (F0 m (pc + 1) ls rest)) : W p l e R s m args below meth c H locs cells slots Q (F0 m pc ls (qI v :: qI i :: qR g a :: rest)) := by
  unfold astZ ast at hm
  split at hm
  · rename_i ht
    obtain ⟨e0, e1, e2⟩ := z_arr Hh.1 ht.1 (by decide) (by decide)
    obtain ⟨i1, i2⟩ := zx_in ht.2.1 ht.2.2
    refine W.zast C.1.1 C.1.2.1 e2 ((C.2.1.2 3 _ rfl).1 _ _) (fun q => by cases q) (by show ¬ (_ ∨ (arrV _ _ _).slots.size ≤ _); rw [arrV_size]; exact i1) rfl rfl hdg fun H1 f1 f2 f3 => ?_
    refine kk _ H1 _ (z_stored (v := iand v 1) Hh ht.1 (by decide) (by decide) ht.2.1 ht.2.2 ?_ f1 f2 f3) hm
    show _ = qI (iand v 1)
    unfold qI iand
    rw [Int32.ofInt_toInt]
    try rfl
  · cases hm
theorem z_aast {a i v : Int} {f : Hp → Option β} (C : zC p m c cc nL s args own g) (Hh : zH g s h H locs) (hdg : decode cc pc = .ok (.aastore, 1)) (hm : (astR 5 18 h a i v).bind f = some r) (kk : ∀ (h1 : Hp) (H1 : Heap) (locs1 : List Loc), zH g s h1 H1 locs1 → f h1 = some r → W p l e R s m args below meth c H1 locs1 cells slots Q (F0 m (pc + 1) ls rest)) : W p l e R s m args below meth c H locs cells slots Q (F0 m pc ls (qR g v :: qI i :: qR g a :: rest)) := by
  unfold astR at hm
  split at hm
  · rename_i ht
    obtain ⟨e0, e1, e2⟩ := z_arr Hh.1 ht.1 (by decide) (by decide)
    obtain ⟨i1, i2⟩ := zx_in ht.2.1 ht.2.2.1
    have hlt : (Int32.ofInt i).toNatClampNeg < (hL h a).toNat := Nat.not_le.mp fun q => i1 (Or.inr q)
    have h0 : ¬ Int32.ofInt i < 0 := fun q => i1 (Or.inl q)
    obtain ⟨v0, cellV, g1, g2, g3, -⟩ := z_obj (ci := 8) Hh.1 ht.2.2.2
    have hcls := (C.2.1.1 8 _ rfl).2
    obtain ⟨kA, comp, k1, k2, k3, -⟩ := (C.2.1.2 4 _ rfl).2
    have hcomp : comp = g.1.1 8 := Option.some.inj (k3.symm.trans hcls.1)
    subst hcomp
    obtain ⟨kC, hkC, -⟩ := hcls.2
    refine W.aast C.1.1 C.1.2.1 e2 (fun q h => by cases h) (fun h => by cases h) k1 k2 rfl hkC ⟨h0, by show _ < (arrV _ _ _).slots.size; rw [arrV_size]; exact hlt⟩ g1 (fun q h => by rw [g3] at h; cases h) (by rw [g2]; exact hkC) (by rw [g2]; exact va_assign hcls) rfl rfl hdg fun H1 f1 f2 f3 => ?_
    refine kk _ H1 _ (z_stored (v := v) Hh ht.1 (by decide) (by decide) ht.2.1 ht.2.2.1 ?_ f1 f2 f3) hm
    show _ = qN g v
    exact (qN_nn v0).symm
  · cases hm
end ZR2
