section ZR7
variable {p : Program} {l : Launch} {e : Env} {R : Room} {s : State} {m : MethodId} {args : Array Value} {below : List Frame} {meth : Method} {c : Code} {H : Heap} {locs : List Loc} {cells slots : Nat} {Q : State → Prop} {cc : ByteArray} {pc nL : Nat} {ls : Array Slot} {rest : List Value} {own : String} {g : zGeo} {h : Hp} {β : Type} {r : β}
/-- behind a call that changes the memory and answers -/
def bd {γ : Type} (o : Option (Hp × Int)) (f : Hp → Int → Option γ) : Option γ := o.bind (fun q => f q.1 q.2)
/-- where a loop ended: behind it, or out of the method -/
def exi {E T γ : Type} (z : E ⊕ T) (f : E → Option γ) (k : T → Option γ) : Option γ := match z with
  | .inl a => f a
  | .inr b => k b
def whk {S T γ : Type} (body : S → Option (S ⊕ T)) (n : Nat) (rest : T → Option γ) (z : S ⊕ T) : Option γ := match z with
  | .inl s2 => (wh body n s2).bind rest
  | .inr x => rest x
theorem wh_inv {S T γ : Type} {body : S → Option (S ⊕ T)} {n : Nat} {rest : T → Option γ} {r : γ} {s : S} (hm : (wh body (n + 1) s).bind rest = some r) : ∃ z, body s = some z ∧ whk body n rest z = some r := by
  unfold wh at hm
  cases hb : body s with
  | none => rw [hb] at hm; cases hm
  | some z =>
    rw [hb] at hm
    refine ⟨z, rfl, ?_⟩
    cases z with
    | inl s2 => exact hm
    | inr x => exact hm
def FU : Nat := 1000000
def imax (x y : Int) : Int := if w32 x < w32 y then y else x
def imin (x y : Int) : Int := if w32 y < w32 x then y else x
theorem z_sw {P : Prop} {x1 k : Int} {A B : Option β} (hm : (if x1 = k then A else B) = some r) (kt : x1 = k → A = some r → P) (kf : ¬ x1 = k → B = some r → P) : P := by
  by_cases q : x1 = k
  · rw [if_pos q] at hm; exact kt q hm
  · rw [if_neg q] at hm; exact kf q hm
theorem z_tin {x k off : Int} {dflt lo hi : Int} {offs : Array Int} {len tgt : Nat} (C : zC p m c cc nL s args own g) (hdg : decode cc pc = .ok (.tableswitch dflt lo hi offs, len)) (hk : w32 x = k) (h1 : lo ≤ k) (h2 : k ≤ hi) (ho : offs[(k - lo).toNat]? = some off) (ht : (pc : Int) + off = (tgt : Int)) (kk : W p l e R s m args below meth c H locs cells slots Q (F0 m tgt ls rest)) : W p l e R s m args below meth c H locs cells slots Q (F0 m pc ls (qI x :: rest)) := by
  have e1 : (Int32.ofInt x).toInt = k := hk
  exact lv_tableIn C.1.1 C.1.2.1 hdg (by rw [e1]; omega) (by rw [e1]; omega) (by rw [e1]; exact ho) ht kk
theorem z_tout {x : Int} {dflt lo hi : Int} {offs : Array Int} {len tgt : Nat} (C : zC p m c cc nL s args own g) (hdg : decode cc pc = .ok (.tableswitch dflt lo hi offs, len)) (hk : w32 x < lo ∨ hi < w32 x) (ht : (pc : Int) + dflt = (tgt : Int)) (kk : W p l e R s m args below meth c H locs cells slots Q (F0 m tgt ls rest)) : W p l e R s m args below meth c H locs cells slots Q (F0 m pc ls (qI x :: rest)) := lv_tableOut C.1.1 C.1.2.1 hdg hk ht kk
def zMM (own : String) (idx : Nat) (y : MethodName) (code : ByteArray) : Prop := Cond.methodLink own idx y ∈ TW ∧ Cond.static y ∈ TW ∧ Cond.initialized "java/lang/Math" ∈ TW ∧ Cond.code y code 2 (some .int) ∈ TW
theorem ofInt_ite {c : Prop} [Decidable c] (x y : Int) : Int32.ofInt (if c then x else y) = if c then Int32.ofInt x else Int32.ofInt y := by split <;> rfl
theorem z_mmax {idx : Nat} {x y : Int} (C : zC p m c cc nL s args own g) (L : zMM own idx Lib.Math.max.name Lib.Math.max.code) (hsize : ls.size = nL) (hfr : 1 ≤ R.frames) (hlo : (rest.map fun v => v.category).sum + 13 ≤ R.locals) (hc : cells ≤ R.cells) (hs : slots ≤ R.slots) (hdg : decode cc pc = .ok (.invokestatic idx, 3)) (kk : W p l e R s m args below meth c H locs cells slots Q (F0 m (pc + 3) ls (qI (imax x y) :: rest))) : W p l e R s m args below meth c H locs cells slots Q (F0 m pc ls (qI y :: qI x :: rest)) := by
  obtain ⟨⟨hx, hb, hml, hown, hts⟩, hu⟩ := C
  refine va_mmax hx hb (by rw [hml, hsize]) hown (hts _ L.1) (hts _ L.2.1) (hts _ L.2.2.1) (hts _ L.2.2.2) hfr hlo hc hs hdg ?_
  have e1 : (if Int32.ofInt x < Int32.ofInt y then Int32.ofInt y else Int32.ofInt x) = Int32.ofInt (imax x y) := by
    unfold imax
    rw [ofInt_ite]
    by_cases q : w32 x < w32 y
    · rw [if_pos q, if_pos ((w32_lt x y).mpr q)]
    · rw [if_neg q, if_neg (fun z => q ((w32_lt x y).mp z))]
  rw [e1]; exact kk
theorem z_mmin {idx : Nat} {x y : Int} (C : zC p m c cc nL s args own g) (L : zMM own idx Lib.Math.min.name Lib.Math.min.code) (hsize : ls.size = nL) (hfr : 1 ≤ R.frames) (hlo : (rest.map fun v => v.category).sum + 13 ≤ R.locals) (hc : cells ≤ R.cells) (hs : slots ≤ R.slots) (hdg : decode cc pc = .ok (.invokestatic idx, 3)) (kk : W p l e R s m args below meth c H locs cells slots Q (F0 m (pc + 3) ls (qI (imin x y) :: rest))) : W p l e R s m args below meth c H locs cells slots Q (F0 m pc ls (qI y :: qI x :: rest)) := by
  obtain ⟨⟨hx, hb, hml, hown, hts⟩, hu⟩ := C
  refine va_mmin hx hb (by rw [hml, hsize]) hown (hts _ L.1) (hts _ L.2.1) (hts _ L.2.2.1) (hts _ L.2.2.2) hfr hlo hc hs hdg ?_
  have e1 : (if Int32.ofInt y < Int32.ofInt x then Int32.ofInt y else Int32.ofInt x) = Int32.ofInt (imin x y) := by
    unfold imin
    rw [ofInt_ite]
    by_cases q : w32 y < w32 x
    · rw [if_pos q, if_pos ((w32_lt y x).mpr q)]
    · rw [if_neg q, if_neg (fun z => q ((w32_lt y x).mp z))]
  rw [e1]; exact kk
theorem z_cVI {idx ci n nL' fr lo mc ms : Nat} {y : MethodName} {cc' : ByteArray} {ret : Option FieldType} {a : Int} {vs st : List Value} {mr : Option (Hp × Int)} {f : Hp → Int → Option β} (C : zC p m c cc nL s args own g) (hM : ∀ q : Hp × Int, mr = some q → zM l y cc' nL' ret fr lo mc ms g h (qR g a :: vs) q.1 (some (qI q.2))) (L : Cond.methodLink own idx y ∈ TW) (Y : zMV y cc' nL' ret n ci) (ht : ∀ q, mr = some q → hT h a = 10 + ci) (hn : vs.length = n) (hsize : ls.size = nL) (Hh : zH g s h H locs) (hroom : fr + 1 ≤ R.frames ∧ 8 + (nL' + 11) + lo ≤ R.locals ∧ cells + mc ≤ R.cells ∧ slots + ms ≤ R.slots) (hcat : (rest.map fun v => v.category).sum ≤ 8) (hdg : decode cc pc = .ok (.invokevirtual idx, 3)) (hst : st = vs.reverse ++ qR g a :: rest) (hm : bd mr f = some r)
    (kk : ∀ (h1 : Hp) (x : Int) (H1 : Heap) (locs1 : List Loc), zH g s h1 H1 locs1 → f h1 x = some r → W p l e R s m args below meth c H1 locs1 (cells + mc) (slots + ms) Q (F0 m (pc + 3) ls (qI x :: rest))) : W p l e R s m args below meth c H locs cells slots Q (F0 m pc ls st) := by
  cases he : mr with
  | none => rw [he] at hm; cases hm
  | some q =>
    rw [he] at hm
    exact z_callV C (hM q he) L Y (ht q he) hn hsize Hh hroom hcat hdg hst (fun H1 locs1 hz => kk q.1 q.2 H1 locs1 hz hm)
theorem z_cVIr {idx ci n nL' fr lo mc ms : Nat} {y : MethodName} {cc' : ByteArray} {ret : Option FieldType} {a : Int} {vs st : List Value} {mr : Option Int} {f : Int → Option β} (C : zC p m c cc nL s args own g) (hM : ∀ q : Int, mr = some q → zM l y cc' nL' ret fr lo mc ms g h (qR g a :: vs) h (some (qI q))) (L : Cond.methodLink own idx y ∈ TW) (Y : zMV y cc' nL' ret n ci) (ht : ∀ q, mr = some q → hT h a = 10 + ci) (hn : vs.length = n) (hsize : ls.size = nL) (Hh : zH g s h H locs) (hroom : fr + 1 ≤ R.frames ∧ 8 + (nL' + 11) + lo ≤ R.locals ∧ cells + mc ≤ R.cells ∧ slots + ms ≤ R.slots) (hcat : (rest.map fun v => v.category).sum ≤ 8) (hdg : decode cc pc = .ok (.invokevirtual idx, 3)) (hst : st = vs.reverse ++ qR g a :: rest) (hm : mr.bind f = some r)
    (kk : ∀ (x : Int) (H1 : Heap) (locs1 : List Loc), zH g s h H1 locs1 → f x = some r → W p l e R s m args below meth c H1 locs1 (cells + mc) (slots + ms) Q (F0 m (pc + 3) ls (qI x :: rest))) : W p l e R s m args below meth c H locs cells slots Q (F0 m pc ls st) := by
  cases he : mr with
  | none => rw [he] at hm; cases hm
  | some q =>
    rw [he] at hm
    exact z_callV C (hM q he) L Y (ht q he) hn hsize Hh hroom hcat hdg hst (fun H1 locs1 hz => kk q H1 locs1 hz hm)
theorem z_cVJ {idx ci n nL' fr lo mc ms : Nat} {y : MethodName} {cc' : ByteArray} {ret : Option FieldType} {a : Int} {vs st : List Value} {mr : Option (Hp × Int)} {f : Hp → Int → Option β} (C : zC p m c cc nL s args own g) (hM : ∀ q : Hp × Int, mr = some q → zM l y cc' nL' ret fr lo mc ms g h (qR g a :: vs) q.1 (some (qJ q.2))) (L : Cond.methodLink own idx y ∈ TW) (Y : zMV y cc' nL' ret n ci) (ht : ∀ q, mr = some q → hT h a = 10 + ci) (hn : vs.length = n) (hsize : ls.size = nL) (Hh : zH g s h H locs) (hroom : fr + 1 ≤ R.frames ∧ 8 + (nL' + 11) + lo ≤ R.locals ∧ cells + mc ≤ R.cells ∧ slots + ms ≤ R.slots) (hcat : (rest.map fun v => v.category).sum ≤ 8) (hdg : decode cc pc = .ok (.invokevirtual idx, 3)) (hst : st = vs.reverse ++ qR g a :: rest) (hm : bd mr f = some r)
    (kk : ∀ (h1 : Hp) (x : Int) (H1 : Heap) (locs1 : List Loc), zH g s h1 H1 locs1 → f h1 x = some r → W p l e R s m args below meth c H1 locs1 (cells + mc) (slots + ms) Q (F0 m (pc + 3) ls (qJ x :: rest))) : W p l e R s m args below meth c H locs cells slots Q (F0 m pc ls st) := by
  cases he : mr with
  | none => rw [he] at hm; cases hm
  | some q =>
    rw [he] at hm
    exact z_callV C (hM q he) L Y (ht q he) hn hsize Hh hroom hcat hdg hst (fun H1 locs1 hz => kk q.1 q.2 H1 locs1 hz hm)
theorem z_cVJr {idx ci n nL' fr lo mc ms : Nat} {y : MethodName} {cc' : ByteArray} {ret : Option FieldType} {a : Int} {vs st : List Value} {mr : Option Int} {f : Int → Option β} (C : zC p m c cc nL s args own g) (hM : ∀ q : Int, mr = some q → zM l y cc' nL' ret fr lo mc ms g h (qR g a :: vs) h (some (qJ q))) (L : Cond.methodLink own idx y ∈ TW) (Y : zMV y cc' nL' ret n ci) (ht : ∀ q, mr = some q → hT h a = 10 + ci) (hn : vs.length = n) (hsize : ls.size = nL) (Hh : zH g s h H locs) (hroom : fr + 1 ≤ R.frames ∧ 8 + (nL' + 11) + lo ≤ R.locals ∧ cells + mc ≤ R.cells ∧ slots + ms ≤ R.slots) (hcat : (rest.map fun v => v.category).sum ≤ 8) (hdg : decode cc pc = .ok (.invokevirtual idx, 3)) (hst : st = vs.reverse ++ qR g a :: rest) (hm : mr.bind f = some r)
    (kk : ∀ (x : Int) (H1 : Heap) (locs1 : List Loc), zH g s h H1 locs1 → f x = some r → W p l e R s m args below meth c H1 locs1 (cells + mc) (slots + ms) Q (F0 m (pc + 3) ls (qJ x :: rest))) : W p l e R s m args below meth c H locs cells slots Q (F0 m pc ls st) := by
  cases he : mr with
  | none => rw [he] at hm; cases hm
  | some q =>
    rw [he] at hm
    exact z_callV C (hM q he) L Y (ht q he) hn hsize Hh hroom hcat hdg hst (fun H1 locs1 hz => kk q H1 locs1 hz hm)
theorem z_cVv {idx ci n nL' fr lo mc ms : Nat} {y : MethodName} {cc' : ByteArray} {ret : Option FieldType} {a : Int} {vs st : List Value} {mr : Option Hp} {f : Hp → Option β} (C : zC p m c cc nL s args own g) (hM : ∀ q : Hp, mr = some q → zM l y cc' nL' ret fr lo mc ms g h (qR g a :: vs) q none) (L : Cond.methodLink own idx y ∈ TW) (Y : zMV y cc' nL' ret n ci) (ht : ∀ q, mr = some q → hT h a = 10 + ci) (hn : vs.length = n) (hsize : ls.size = nL) (Hh : zH g s h H locs) (hroom : fr + 1 ≤ R.frames ∧ 8 + (nL' + 11) + lo ≤ R.locals ∧ cells + mc ≤ R.cells ∧ slots + ms ≤ R.slots) (hcat : (rest.map fun v => v.category).sum ≤ 8) (hdg : decode cc pc = .ok (.invokevirtual idx, 3)) (hst : st = vs.reverse ++ qR g a :: rest) (hm : mr.bind f = some r)
    (kk : ∀ (h1 : Hp) (H1 : Heap) (locs1 : List Loc), zH g s h1 H1 locs1 → f h1 = some r → W p l e R s m args below meth c H1 locs1 (cells + mc) (slots + ms) Q (F0 m (pc + 3) ls rest)) : W p l e R s m args below meth c H locs cells slots Q (F0 m pc ls st) := by
  cases he : mr with
  | none => rw [he] at hm; cases hm
  | some q =>
    rw [he] at hm
    exact z_callV C (hM q he) L Y (ht q he) hn hsize Hh hroom hcat hdg hst (fun H1 locs1 hz => kk q H1 locs1 hz hm)
theorem z_cVSr {idx ci n nL' fr lo mc ms : Nat} {y : MethodName} {cc' : ByteArray} {ret : Option FieldType} {a : Int} {vs st : List Value} {mr : Option Int} {f : Int → Option β} (C : zC p m c cc nL s args own g) (hM : ∀ q : Int, mr = some q → zM l y cc' nL' ret fr lo mc ms g h (qR g a :: vs) h (some (qS g q))) (L : Cond.methodLink own idx y ∈ TW) (Y : zMV y cc' nL' ret n ci) (ht : ∀ q, mr = some q → hT h a = 10 + ci) (hn : vs.length = n) (hsize : ls.size = nL) (Hh : zH g s h H locs) (hroom : fr + 1 ≤ R.frames ∧ 8 + (nL' + 11) + lo ≤ R.locals ∧ cells + mc ≤ R.cells ∧ slots + ms ≤ R.slots) (hcat : (rest.map fun v => v.category).sum ≤ 8) (hdg : decode cc pc = .ok (.invokevirtual idx, 3)) (hst : st = vs.reverse ++ qR g a :: rest) (hm : mr.bind f = some r)
    (kk : ∀ (x : Int) (H1 : Heap) (locs1 : List Loc), zH g s h H1 locs1 → f x = some r → W p l e R s m args below meth c H1 locs1 (cells + mc) (slots + ms) Q (F0 m (pc + 3) ls (qS g x :: rest))) : W p l e R s m args below meth c H locs cells slots Q (F0 m pc ls st) := by
  cases he : mr with
  | none => rw [he] at hm; cases hm
  | some q =>
    rw [he] at hm
    exact z_callV C (hM q he) L Y (ht q he) hn hsize Hh hroom hcat hdg hst (fun H1 locs1 hz => kk q H1 locs1 hz hm)
theorem z_cSI {idx n nL' fr lo mc ms : Nat} {y : MethodName} {cc' : ByteArray} {ret : Option FieldType} {vs st : List Value} {mr : Option (Hp × Int)} {f : Hp → Int → Option β} (C : zC p m c cc nL s args own g) (hM : ∀ q : Hp × Int, mr = some q → zM l y cc' nL' ret fr lo mc ms g h vs q.1 (some (qI q.2))) (L : Cond.methodLink own idx y ∈ TW) (Y : zMS y cc' nL' ret n) (hn : vs.length = n) (hsize : ls.size = nL) (Hh : zH g s h H locs) (hroom : fr + 1 ≤ R.frames ∧ 8 + (nL' + 11) + lo ≤ R.locals ∧ cells + mc ≤ R.cells ∧ slots + ms ≤ R.slots) (hcat : (rest.map fun v => v.category).sum ≤ 8) (hdg : decode cc pc = .ok (.invokestatic idx, 3)) (hst : st = vs.reverse ++ rest) (hm : bd mr f = some r)
    (kk : ∀ (h1 : Hp) (x : Int) (H1 : Heap) (locs1 : List Loc), zH g s h1 H1 locs1 → f h1 x = some r → W p l e R s m args below meth c H1 locs1 (cells + mc) (slots + ms) Q (F0 m (pc + 3) ls (qI x :: rest))) : W p l e R s m args below meth c H locs cells slots Q (F0 m pc ls st) := by
  cases he : mr with
  | none => rw [he] at hm; cases hm
  | some q =>
    rw [he] at hm
    exact z_callS C (hM q he) L Y hn hsize Hh hroom hcat hdg hst (fun H1 locs1 hz => kk q.1 q.2 H1 locs1 hz hm)
theorem z_cSIr {idx n nL' fr lo mc ms : Nat} {y : MethodName} {cc' : ByteArray} {ret : Option FieldType} {vs st : List Value} {mr : Option Int} {f : Int → Option β} (C : zC p m c cc nL s args own g) (hM : ∀ q : Int, mr = some q → zM l y cc' nL' ret fr lo mc ms g h vs h (some (qI q))) (L : Cond.methodLink own idx y ∈ TW) (Y : zMS y cc' nL' ret n) (hn : vs.length = n) (hsize : ls.size = nL) (Hh : zH g s h H locs) (hroom : fr + 1 ≤ R.frames ∧ 8 + (nL' + 11) + lo ≤ R.locals ∧ cells + mc ≤ R.cells ∧ slots + ms ≤ R.slots) (hcat : (rest.map fun v => v.category).sum ≤ 8) (hdg : decode cc pc = .ok (.invokestatic idx, 3)) (hst : st = vs.reverse ++ rest) (hm : mr.bind f = some r)
    (kk : ∀ (x : Int) (H1 : Heap) (locs1 : List Loc), zH g s h H1 locs1 → f x = some r → W p l e R s m args below meth c H1 locs1 (cells + mc) (slots + ms) Q (F0 m (pc + 3) ls (qI x :: rest))) : W p l e R s m args below meth c H locs cells slots Q (F0 m pc ls st) := by
  cases he : mr with
  | none => rw [he] at hm; cases hm
  | some q =>
    rw [he] at hm
    exact z_callS C (hM q he) L Y hn hsize Hh hroom hcat hdg hst (fun H1 locs1 hz => kk q H1 locs1 hz hm)
theorem z_cSJ {idx n nL' fr lo mc ms : Nat} {y : MethodName} {cc' : ByteArray} {ret : Option FieldType} {vs st : List Value} {mr : Option (Hp × Int)} {f : Hp → Int → Option β} (C : zC p m c cc nL s args own g) (hM : ∀ q : Hp × Int, mr = some q → zM l y cc' nL' ret fr lo mc ms g h vs q.1 (some (qJ q.2))) (L : Cond.methodLink own idx y ∈ TW) (Y : zMS y cc' nL' ret n) (hn : vs.length = n) (hsize : ls.size = nL) (Hh : zH g s h H locs) (hroom : fr + 1 ≤ R.frames ∧ 8 + (nL' + 11) + lo ≤ R.locals ∧ cells + mc ≤ R.cells ∧ slots + ms ≤ R.slots) (hcat : (rest.map fun v => v.category).sum ≤ 8) (hdg : decode cc pc = .ok (.invokestatic idx, 3)) (hst : st = vs.reverse ++ rest) (hm : bd mr f = some r)
    (kk : ∀ (h1 : Hp) (x : Int) (H1 : Heap) (locs1 : List Loc), zH g s h1 H1 locs1 → f h1 x = some r → W p l e R s m args below meth c H1 locs1 (cells + mc) (slots + ms) Q (F0 m (pc + 3) ls (qJ x :: rest))) : W p l e R s m args below meth c H locs cells slots Q (F0 m pc ls st) := by
  cases he : mr with
  | none => rw [he] at hm; cases hm
  | some q =>
    rw [he] at hm
    exact z_callS C (hM q he) L Y hn hsize Hh hroom hcat hdg hst (fun H1 locs1 hz => kk q.1 q.2 H1 locs1 hz hm)
theorem z_cSJr {idx n nL' fr lo mc ms : Nat} {y : MethodName} {cc' : ByteArray} {ret : Option FieldType} {vs st : List Value} {mr : Option Int} {f : Int → Option β} (C : zC p m c cc nL s args own g) (hM : ∀ q : Int, mr = some q → zM l y cc' nL' ret fr lo mc ms g h vs h (some (qJ q))) (L : Cond.methodLink own idx y ∈ TW) (Y : zMS y cc' nL' ret n) (hn : vs.length = n) (hsize : ls.size = nL) (Hh : zH g s h H locs) (hroom : fr + 1 ≤ R.frames ∧ 8 + (nL' + 11) + lo ≤ R.locals ∧ cells + mc ≤ R.cells ∧ slots + ms ≤ R.slots) (hcat : (rest.map fun v => v.category).sum ≤ 8) (hdg : decode cc pc = .ok (.invokestatic idx, 3)) (hst : st = vs.reverse ++ rest) (hm : mr.bind f = some r)
    (kk : ∀ (x : Int) (H1 : Heap) (locs1 : List Loc), zH g s h H1 locs1 → f x = some r → W p l e R s m args below meth c H1 locs1 (cells + mc) (slots + ms) Q (F0 m (pc + 3) ls (qJ x :: rest))) : W p l e R s m args below meth c H locs cells slots Q (F0 m pc ls st) := by
  cases he : mr with
  | none => rw [he] at hm; cases hm
  | some q =>
    rw [he] at hm
    exact z_callS C (hM q he) L Y hn hsize Hh hroom hcat hdg hst (fun H1 locs1 hz => kk q H1 locs1 hz hm)
theorem z_cSv {idx n nL' fr lo mc ms : Nat} {y : MethodName} {cc' : ByteArray} {ret : Option FieldType} {vs st : List Value} {mr : Option Hp} {f : Hp → Option β} (C : zC p m c cc nL s args own g) (hM : ∀ q : Hp, mr = some q → zM l y cc' nL' ret fr lo mc ms g h vs q none) (L : Cond.methodLink own idx y ∈ TW) (Y : zMS y cc' nL' ret n) (hn : vs.length = n) (hsize : ls.size = nL) (Hh : zH g s h H locs) (hroom : fr + 1 ≤ R.frames ∧ 8 + (nL' + 11) + lo ≤ R.locals ∧ cells + mc ≤ R.cells ∧ slots + ms ≤ R.slots) (hcat : (rest.map fun v => v.category).sum ≤ 8) (hdg : decode cc pc = .ok (.invokestatic idx, 3)) (hst : st = vs.reverse ++ rest) (hm : mr.bind f = some r)
    (kk : ∀ (h1 : Hp) (H1 : Heap) (locs1 : List Loc), zH g s h1 H1 locs1 → f h1 = some r → W p l e R s m args below meth c H1 locs1 (cells + mc) (slots + ms) Q (F0 m (pc + 3) ls rest)) : W p l e R s m args below meth c H locs cells slots Q (F0 m pc ls st) := by
  cases he : mr with
  | none => rw [he] at hm; cases hm
  | some q =>
    rw [he] at hm
    exact z_callS C (hM q he) L Y hn hsize Hh hroom hcat hdg hst (fun H1 locs1 hz => kk q H1 locs1 hz hm)
theorem z_cSSr {idx n nL' fr lo mc ms : Nat} {y : MethodName} {cc' : ByteArray} {ret : Option FieldType} {vs st : List Value} {mr : Option Int} {f : Int → Option β} (C : zC p m c cc nL s args own g) (hM : ∀ q : Int, mr = some q → zM l y cc' nL' ret fr lo mc ms g h vs h (some (qS g q))) (L : Cond.methodLink own idx y ∈ TW) (Y : zMS y cc' nL' ret n) (hn : vs.length = n) (hsize : ls.size = nL) (Hh : zH g s h H locs) (hroom : fr + 1 ≤ R.frames ∧ 8 + (nL' + 11) + lo ≤ R.locals ∧ cells + mc ≤ R.cells ∧ slots + ms ≤ R.slots) (hcat : (rest.map fun v => v.category).sum ≤ 8) (hdg : decode cc pc = .ok (.invokestatic idx, 3)) (hst : st = vs.reverse ++ rest) (hm : mr.bind f = some r)
    (kk : ∀ (x : Int) (H1 : Heap) (locs1 : List Loc), zH g s h H1 locs1 → f x = some r → W p l e R s m args below meth c H1 locs1 (cells + mc) (slots + ms) Q (F0 m (pc + 3) ls (qS g x :: rest))) : W p l e R s m args below meth c H locs cells slots Q (F0 m pc ls st) := by
  cases he : mr with
  | none => rw [he] at hm; cases hm
  | some q =>
    rw [he] at hm
    exact z_callS C (hM q he) L Y hn hsize Hh hroom hcat hdg hst (fun H1 locs1 hz => kk q H1 locs1 hz hm)
theorem z_cIv {idx n nL' fr lo mc ms : Nat} {y : MethodName} {cc' : ByteArray} {a : Int} {vs st : List Value} {mr : Option Hp} {f : Hp → Option β} (C : zC p m c cc nL s args own g) (hM : ∀ q : Hp, mr = some q → zM l y cc' nL' none fr lo mc ms g h (qR g a :: vs) q none) (L : zML own idx y) (Y : zMI y cc' nL' n) (hn : vs.length = n) (hsize : ls.size = nL) (Hh : zH g s h H locs) (hroom : fr + 1 ≤ R.frames ∧ 8 + (nL' + 11) + lo ≤ R.locals ∧ cells + mc ≤ R.cells ∧ slots + ms ≤ R.slots) (hcat : (rest.map fun v => v.category).sum ≤ 8) (hdg : decode cc pc = .ok (.invokespecial idx, 3)) (hst : st = vs.reverse ++ qR g a :: rest) (hm : mr.bind f = some r)
    (kk : ∀ (h1 : Hp) (H1 : Heap) (locs1 : List Loc), zH g s h1 H1 locs1 → f h1 = some r → W p l e R s m args below meth c H1 locs1 (cells + mc) (slots + ms) Q (F0 m (pc + 3) ls rest)) : W p l e R s m args below meth c H locs cells slots Q (F0 m pc ls st) := by
  cases he : mr with
  | none => rw [he] at hm; cases hm
  | some q =>
    rw [he] at hm
    exact z_callI C (hM q he) L Y hn hsize Hh hroom hcat hdg hst (fun H1 locs1 hz => kk q H1 locs1 hz hm)
end ZR7
