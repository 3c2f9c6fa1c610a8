section ZR3
variable {p : Program} {l : Launch} {e : Env} {R : Room} {s : State} {m : MethodId} {args : Array Value} {below : List Frame} {meth : Method} {c : Code} {H : Heap} {locs : List Loc} {cells slots : Nat} {Q : State → Prop} {cc : ByteArray} {pc nL : Nat} {ls : Array Slot} {rest : List Value} {own : String} {g : zGeo} {h : Hp} {β : Type} {r : β}
theorem z_S_new {H1 : Heap} (Hh : va_S (zA g) s.heap H locs) (hs : H1.size = H.size + 1) (oq : ∀ q : Nat, q < H.size → H1[q]? = H[q]?) : va_S (zA g) s.heap H1 locs :=
  ⟨Nat.le_trans Hh.1 (by omega), fun q h1 h2 => (oq q (Nat.lt_of_lt_of_le h1 Hh.1)).trans (Hh.2.1 q h1 h2), Hh.2.2⟩
theorem z_new_at {h' : Hp} {H1 : Heap} (Hz : zHp g h H) (hX' : hX h' = hX h + 1) (hT' : ∀ a : Int, a ≠ hX h → hT h' a = hT h a) (hL' : ∀ a : Int, a ≠ hX h → hL h' a = hL h a) (hM' : ∀ a k : Int, a ≠ hX h → hM h' a k = hM h a k) (hs : H1.size = H.size + 1) (oq : ∀ q : Nat, q < H.size → H1[q]? = H[q]?) (new : zAt g h' (hX h) H1) : zHp g h' H1 := by
  obtain ⟨z1, z2, z3⟩ := Hz
  refine ⟨by rw [hs, z1, hX']; omega, by omega, fun a ht => ?_⟩
  by_cases ea : a = hX h
  · subst ea
    exact ⟨z2, by omega, new⟩
  · rw [hT' a ea] at ht
    obtain ⟨p1, p2, p3⟩ := z3 a ht
    have ql : zb g + a.toNat < H.size := by omega
    refine ⟨p1, by omega, ?_⟩
    unfold zAt
    rw [hT' a ea, hL' a ea]
    refine ⟨fun hlt => ⟨(p3.1 hlt).1, ?_⟩, fun hge => ?_⟩
    · rw [oq _ ql, (p3.1 hlt).2]
      show some (arrV _ _ _) = some (arrV _ _ _)
      congr 2
      funext j
      rw [hM' a _ ea]
    · exact ((p3.2 hge).kept (oq _ ql)).to (fun j _ => by rw [hM' a _ ea])
theorem z_new_addr (Hz : zHp g h H) : Value.ref H.size = qR g (hX h) := by
  show Value.ref H.size = Value.ref (zb g + (hX h).toNat)
  rw [Hz.1]
/-- an object's defaults -/
def dflt (ci : Nat) (k : Int) : Int := if kd ci k.toNat = 2 then -1 else 0
def zNL (own : String) (idx ci N : Nat) : Prop := ∃ (C : String) (T : u_T) (ty : Nat → FieldType), vwCl[ci]? = some (C, T, N) ∧ N = nfd ci ∧ (∀ w ∈ u_ws C T N, w ∈ TW) ∧ (∀ k, k < N → parseFieldDescriptor (T k).2.2.1 = some (ty k)) ∧ Cond.classLink own idx C ∈ TW ∧ Cond.instantiable C N ∈ TW ∧ Cond.initialized C ∈ TW ∧ (∀ k : Nat, k < N → (kd ci k = 0 → defaultValue (ty k) = .int 0) ∧ (kd ci k = 1 → defaultValue (ty k) = .long 0) ∧ (kd ci k = 2 → defaultValue (ty k) = .null) ∧ kd ci k ≤ 2)
theorem z_new {idx ci N : Nat} (C : zC p m c cc nL s args own g) (L : zNL own idx ci N) (Hh : zH g s h H locs) (hcells : cells + 1 ≤ R.cells) (hslots : slots + N ≤ R.slots) (hdg : decode cc pc = .ok (.new idx, 3))
    (kk : ∀ (H1 : Heap), zH g s (nwo ci (dflt ci) h) H1 locs → W p l e R s m args below meth c H1 locs (cells + 1) (slots + N) Q (F0 m (pc + 3) ls (qR g (hX h) :: rest))) : W p l e R s m args below meth c H locs cells slots Q (F0 m pc ls rest) := by
  obtain ⟨Cn, T, ty, hc, hN, hin, hty, h1, h2, h3, hdef⟩ := L
  obtain ⟨⟨hx, hb, hml, hown, hts⟩, hK, -⟩ := C
  have hKn := hK.1 ci _ hc
  refine W.newcK hx hb hown (hts _ h1) (hts _ h2) (hts _ h3) rfl hdg hcells hslots hKn.2.1 rfl fun H1 kC hkC e1 z1 o1 => ?_
  have hcell := u_born ty hts hin hKn hkC e1 hty
  rw [show H.size = zb g + (hX h).toNat from Hh.1.1] at e1 hcell ⊢
  refine kk H1 ⟨z_new_at Hh.1 rfl (fun a ha => if_neg ha) (fun a ha => if_neg ha) (fun a k ha => if_neg ha) z1 o1 ?_, z_S_new Hh.2 z1 o1⟩
  have ht : hT (nwo ci (dflt ci) h) (hX h) = 10 + ci := if_pos rfl
  refine ⟨fun hlt => absurd hlt (by omega), fun _ => ?_⟩
  rw [ht, show 10 + ci - 10 = ci by omega, ← hN]
  refine hcell.to (fun k hk => ?_)
  have hv : hM (nwo ci (dflt ci) h) (hX h) k = dflt ci k := if_pos rfl
  rw [hv]
  obtain ⟨d0, d1, d2, dle⟩ := hdef k hk
  unfold dflt
  rw [Int.toNat_natCast]
  rcases (show kd ci k = 0 ∨ kd ci k = 1 ∨ kd ci k = 2 by omega) with q | q | q
  · rw [q, d0 q]; rfl
  · rw [q, d1 q]; rfl
  · rw [q, d2 q]; rfl
theorem z_newa {t : Nat} {n : Int} {atype : ArrayType} {f : Int → Option β} (C : zC p m c cc nL s args own g) (ht : (t = 1 ∧ atype = .int) ∨ (t = 2 ∧ atype = .long) ∨ (t = 3 ∧ atype = .byte) ∨ (t = 4 ∧ atype = .boolean)) (harr : Cond.arrayClass (newarray.typeOf atype) ∈ TW) (Hh : zH g s h H locs) (hn0 : 0 ≤ n) (hn1 : n ≤ 1000000) (hcells : cells + 1 ≤ R.cells) (hslots : slots + n.toNat ≤ R.slots) (hdg : decode cc pc = .ok (.newarray atype, 2))
    (kk : ∀ (H1 : Heap), zH g s (nw t n 0 h) H1 locs → W p l e R s m args below meth c H1 locs (cells + 1) (slots + n.toNat) Q (F0 m (pc + 2) ls (qR g (hX h) :: rest))) : W p l e R s m args below meth c H locs cells slots Q (F0 m pc ls (qI n :: rest)) := by
  obtain ⟨⟨hx, hb, hml, hown, hts⟩, hK, -⟩ := C
  have hw : (Int32.ofInt n).toInt = n := w32_of (by omega) (by omega)
  have hcl : (Int32.ofInt n).toNatClampNeg = n.toNat := by show (Int32.ofInt n).toInt.toNat = _; rw [hw]
  have hnn : ¬ Int32.ofInt n < 0 := by
    intro q
    have := Int32.lt_iff_toInt_lt.mp q
    rw [hw] at this
    simp at this
    omega
  refine va_newaK hx hb (hts _ harr) rfl hdg rfl hnn hcl ?_ hcells hslots rfl fun H1 cA e1 z1 o1 hAr hNm => ?_
  · rcases ht with ⟨-, rfl⟩ | ⟨-, rfl⟩ | ⟨-, rfl⟩ | ⟨-, rfl⟩ <;> simp [newarray.typeOf, componentBytes] <;> omega
  · rw [show H.size = zb g + (hX h).toNat from Hh.1.1] at e1 ⊢
    refine kk H1 ⟨z_new_at Hh.1 rfl (fun a ha => if_neg ha) (fun a ha => if_neg ha) (fun a k ha => if_neg ha) z1 o1 ?_, z_S_new Hh.2 z1 o1⟩
    have htt : hT (nw t n 0 h) (hX h) = t := if_pos rfl
    have hll : hL (nw t n 0 h) (hX h) = n := if_pos rfl
    have hmm : ∀ k, hM (nw t n 0 h) (hX h) k = 0 := fun k => if_pos rfl
    refine ⟨fun _ => ⟨by rw [hll]; exact hn0, ?_⟩, fun hge => absurd hge (by omega)⟩
    rw [htt, hll, e1]
    have hcA : cA = g.2.1 t ∧ ∀ j : Nat, defaultValue (newarray.typeOf atype) = fv (akd t) g 0 := by
      rcases ht with ⟨rfl, rfl⟩ | ⟨rfl, rfl⟩ | ⟨rfl, rfl⟩ | ⟨rfl, rfl⟩
      · exact ⟨Option.some.inj (hNm.symm.trans (hK.2 0 _ rfl).2), fun _ => rfl⟩
      · exact ⟨Option.some.inj (hNm.symm.trans (hK.2 1 _ rfl).2), fun _ => rfl⟩
      · exact ⟨Option.some.inj (hNm.symm.trans (hK.2 2 _ rfl).2), fun _ => rfl⟩
      · exact ⟨Option.some.inj (hNm.symm.trans (hK.2 3 _ rfl).2), fun _ => rfl⟩
    rw [hcA.1]
    congr 2
    funext j
    rw [hmm]
    exact hcA.2 j
theorem z_anew {n : Int} {idx : Nat} (C : zC p m c cc nL s args own g) (hl : Cond.classLink own idx "NineMaps$World" ∈ TW) (Hh : zH g s h H locs) (hn0 : 0 ≤ n) (hn1 : n ≤ 1000000) (hcells : cells + 1 ≤ R.cells) (hslots : slots + n.toNat ≤ R.slots) (hdg : decode cc pc = .ok (.anewarray idx, 3))
    (kk : ∀ (H1 : Heap), zH g s (nw 5 n (-1) h) H1 locs → W p l e R s m args below meth c H1 locs (cells + 1) (slots + n.toNat) Q (F0 m (pc + 3) ls (qR g (hX h) :: rest))) : W p l e R s m args below meth c H locs cells slots Q (F0 m pc ls (qI n :: rest)) := by
  obtain ⟨⟨hx, hb, hml, hown, hts⟩, hK, -, -, -, hAO, -⟩ := C
  have hw : (Int32.ofInt n).toInt = n := w32_of (by omega) (by omega)
  have hcl : (Int32.ofInt n).toNatClampNeg = n.toNat := by show (Int32.ofInt n).toInt.toNat = _; rw [hw]
  have hnn : ¬ Int32.ofInt n < 0 := by
    intro q
    have := Int32.lt_iff_toInt_lt.mp q
    rw [hw] at this
    simp at this
    omega
  refine W.anew hx hb hown (hts _ hl) hAO.use rfl hdg rfl hnn (by rw [hcl]; omega) hcells (by rw [hcl]; exact hslots) ?_
  intro cA kA comp q1 q2 q3 q4
  rw [hcl, z_new_addr Hh.1]
  have hcA : cA = g.2.1 5 := by
    obtain ⟨kA', comp', k1, k2, k3, k4⟩ := (hK.2 4 _ rfl).2
    exact Option.some.inj (q1.symm.trans k4)
  have hs : (H.push { cls := cA, slots := Array.replicate n.toNat .null, vm := .none }).size = H.size + 1 := by simp
  have oq : ∀ q : Nat, q < H.size → (H.push { cls := cA, slots := Array.replicate n.toNat .null, vm := .none })[q]? = H[q]? := fun q hq => by
    rw [Array.getElem?_push, if_neg (Nat.ne_of_lt hq)]
  refine kk _ ⟨z_new_at Hh.1 rfl (fun a ha => if_neg ha) (fun a ha => if_neg ha) (fun a k ha => if_neg ha) hs oq ?_, z_S_new Hh.2 hs oq⟩
  have htt : hT (nw 5 n (-1) h) (hX h) = 5 := if_pos rfl
  have hll : hL (nw 5 n (-1) h) (hX h) = n := if_pos rfl
  have hmm : ∀ k, hM (nw 5 n (-1) h) (hX h) k = -1 := fun k => if_pos rfl
  refine ⟨fun _ => ⟨by rw [hll]; exact hn0, ?_⟩, fun hge => absurd hge (by omega)⟩
  rw [htt, hll, show zb g + (hX h).toNat = H.size from Hh.1.1.symm, arrV_new, hcA]
  rw [Array.getElem?_push, if_pos rfl]
  congr 2
  funext j
  rw [hmm]
  rfl
theorem va_cpy_at {f k2 : Nat → Value} {sp dp n j : Nat} : va_cpy f k2 sp dp n j = if dp ≤ j ∧ j < dp + n then f (sp + (j - dp)) else k2 j := rfl
end ZR3
