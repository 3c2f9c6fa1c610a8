section ZR8
variable {p : Program} {l : Launch} {e : Env} {R : Room} {s : State} {m : MethodId} {args : Array Value} {below : List Frame} {meth : Method} {c : Code} {H : Heap} {locs : List Loc} {cells slots : Nat} {Q : State → Prop} {cc : ByteArray} {pc nL : Nat} {ls : Array Slot} {rest : List Value} {own : String} {g : zGeo} {h : Hp} {β : Type} {r : β}
/-- a reference written: it is none of null -/
def rp {γ : Type} (x : Int) (o : Option Hp) (f : Hp → Option γ) : Option γ := if 0 ≤ x then o.bind f else none
theorem z_putRc {idx ci k : Nat} {a x : Int} {name : String} {ty : FieldType} {f : Hp → Option β} (C : zC p m c cc nL s args own g) (hnm : meth.name = name) (L : zPL own idx ci k ty name) (hty : ∀ q : Nat, narrow ty (.ref q) = .ref q ∧ fits ty (.ref q) = true) (Hh : zH g s h H locs) (hdg : decode cc pc = .ok (.putfield idx, 3)) (hkd : kd ci k = 2) (hm : rp x (pf (10 + ci) h a k x) f = some r)
    (kk : ∀ (h1 : Hp) (H1 : Heap) (locs1 : List Loc), zH g s h1 H1 locs1 → f h1 = some r → W p l e R s m args below meth c H1 locs1 cells slots Q (F0 m (pc + 3) ls rest)) : W p l e R s m args below meth c H locs cells slots Q (F0 m pc ls (qR g x :: qR g a :: rest)) := by
  unfold rp at hm
  split at hm
  · rename_i hx; exact z_putR C hnm L hty Hh hdg hkd hx hm kk
  · cases hm
/-- a new cell and its address -/
def nb {γ : Type} (h1 : Hp) (a : Int) (f : Hp → Int → Option γ) : Option γ := f h1 a
theorem z_newb {idx ci N : Nat} {f : Hp → Int → Option β} (C : zC p m c cc nL s args own g) (L : zNL own idx ci N) (Hh : zH g s h H locs) (hcells : cells + 1 ≤ R.cells) (hslots : slots + N ≤ R.slots) (hdg : decode cc pc = .ok (.new idx, 3)) (hm : nb (nwo ci (dflt ci) h) h.2.2.2 f = some r)
    (kk : ∀ (h1 : Hp) (x : Int) (H1 : Heap), zH g s h1 H1 locs → f h1 x = some r → W p l e R s m args below meth c H1 locs (cells + 1) (slots + N) Q (F0 m (pc + 3) ls (qR g x :: rest))) : W p l e R s m args below meth c H locs cells slots Q (F0 m pc ls rest) := z_new C L Hh hcells hslots hdg (fun H1 hz => kk _ _ H1 hz hm)
theorem z_newab {t : Nat} {n : Int} {atype : ArrayType} {f : Hp → Int → Option β} (C : zC p m c cc nL s args own g) (ht : (t = 1 ∧ atype = .int) ∨ (t = 2 ∧ atype = .long) ∨ (t = 3 ∧ atype = .byte) ∨ (t = 4 ∧ atype = .boolean)) (harr : Cond.arrayClass (newarray.typeOf atype) ∈ TW) (Hh : zH g s h H locs) (hn0 : 0 ≤ n) (hn1 : n ≤ 1000000) (hcells : cells + 1 ≤ R.cells) (hslots : slots + n.toNat ≤ R.slots) (hdg : decode cc pc = .ok (.newarray atype, 2)) (hm : nb (nw t n 0 h) h.2.2.2 f = some r)
    (kk : ∀ (h1 : Hp) (x : Int) (H1 : Heap), zH g s h1 H1 locs → f h1 x = some r → W p l e R s m args below meth c H1 locs (cells + 1) (slots + n.toNat) Q (F0 m (pc + 2) ls (qR g x :: rest))) : W p l e R s m args below meth c H locs cells slots Q (F0 m pc ls (qI n :: rest)) := z_newa (f := fun _ => (none : Option β)) C ht harr Hh hn0 hn1 hcells hslots hdg (fun H1 hz => kk _ _ H1 hz hm)
theorem z_anewb {n : Int} {idx : Nat} {f : Hp → Int → Option β} (C : zC p m c cc nL s args own g) (hl : Cond.classLink own idx "NineMaps$World" ∈ TW) (Hh : zH g s h H locs) (hn0 : 0 ≤ n) (hn1 : n ≤ 1000000) (hcells : cells + 1 ≤ R.cells) (hslots : slots + n.toNat ≤ R.slots) (hdg : decode cc pc = .ok (.anewarray idx, 3)) (hm : nb (nw 5 n (-1) h) h.2.2.2 f = some r)
    (kk : ∀ (h1 : Hp) (x : Int) (H1 : Heap), zH g s h1 H1 locs → f h1 x = some r → W p l e R s m args below meth c H1 locs (cells + 1) (slots + n.toNat) Q (F0 m (pc + 3) ls (qR g x :: rest))) : W p l e R s m args below meth c H locs cells slots Q (F0 m pc ls (qI n :: rest)) := z_anew C hl Hh hn0 hn1 hcells hslots hdg (fun H1 hz => kk _ _ H1 hz hm)
theorem zb1_inv {v : Int} {f : Unit → Option β} (hm : (zb1 v ()).bind f = some r) : (w32 v = 0 ∨ w32 v = 1) ∧ f () = some r := by
  unfold zb1 at hm
  split at hm
  · rename_i hb; exact ⟨hb, hm⟩
  · cases hm
theorem z_tdef {x : Int} {dflt lo hi : Int} {offs : Array Int} {len tgt : Nat} (C : zC p m c cc nL s args own g) (hdg : decode cc pc = .ok (.tableswitch dflt lo hi offs, len)) (hk : (w32 x < lo ∨ hi < w32 x) ∨ ∃ k : Int, w32 x = k ∧ lo ≤ k ∧ k ≤ hi ∧ offs[(k - lo).toNat]? = some dflt) (ht : (pc : Int) + dflt = (tgt : Int)) (kk : W p l e R s m args below meth c H locs cells slots Q (F0 m tgt ls rest)) : W p l e R s m args below meth c H locs cells slots Q (F0 m pc ls (qI x :: rest)) := by
  rcases hk with hk | ⟨k, q, h1, h2, ho⟩
  · exact z_tout C hdg hk ht kk
  · exact z_tin C hdg q h1 h2 ho ht kk
/-- the texts' own methods -/
def M_J0_length (i : Int) : Option Int := if 0 ≤ i ∧ i < 27 then some (slen i) else none
def M_J0_charAt (i k : Int) : Option Int := if (0 ≤ i ∧ i < 27) ∧ 0 ≤ w32 k ∧ w32 k < slen i then some (sch i (w32 k)) else none
end ZR8
