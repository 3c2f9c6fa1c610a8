section ZR4
variable {p : Program} {l : Launch} {e : Env} {R : Room} {s : State} {m : MethodId} {args : Array Value} {below : List Frame} {meth : Method} {c : Code} {H : Heap} {locs : List Loc} {cells slots : Nat} {Q : State → Prop} {cc : ByteArray} {pc nL : Nat} {ls : Array Slot} {rest : List Value} {own : String} {g : zGeo} {h : Hp} {β : Type} {r : β}
theorem zx_nn {i : Int} (h0 : 0 ≤ w32 i) : ¬ Int32.ofInt i < 0 ∧ ((Int32.ofInt i).toNatClampNeg : Int) = w32 i ∧ (Int32.ofInt i).toInt = w32 i := by
  refine ⟨fun q => ?_, ?_, rfl⟩
  · have := Int32.lt_iff_toInt_lt.mp q
    have e : (Int32.ofInt i).toInt = w32 i := rfl
    rw [e] at this
    simp at this
    omega
  · show (((w32 i).toNat : Nat) : Int) = w32 i; omega
def zCP (own : String) (idx : Nat) : Prop := Cond.methodLink own idx arraycopyName ∈ TW ∧ Cond.native arraycopyName ∈ TW ∧ Cond.static arraycopyName ∈ TW ∧ Cond.initialized "java/lang/System" ∈ TW
theorem z_cpy {t idx : Nat} {a i a2 i2 n : Int} {f : Hp → Option β} (C : zC p m c cc nL s args own g) (L : zCP own idx) (ht12 : t = 1 ∨ t = 2) (hsize : ls.size = nL) (Hh : zH g s h H locs) (hdg : decode cc pc = .ok (.invokestatic idx, 3)) (hframes : 1 ≤ R.frames) (hlocals : (rest.map fun v => v.category).sum + (nativeFrameWords "java/lang/System" "arraycopy" 5 + 11) ≤ R.locals) (hm : (cpy t h a i a2 i2 n).bind f = some r)
    (kk : ∀ (h1 : Hp) (H1 : Heap) (locs1 : List Loc), zH g s h1 H1 locs1 → f h1 = some r → W p l e R s m args below meth c H1 locs1 cells slots Q (F0 m (pc + 3) ls rest)) : W p l e R s m args below meth c H locs cells slots Q (F0 m pc ls (qI n :: qI i2 :: qR g a2 :: qI i :: qR g a :: rest)) := by
  obtain ⟨⟨hx, hb, hml, hown, hts⟩, hK, -⟩ := C
  obtain ⟨l1, l2, l3, l4⟩ := L
  unfold cpy at hm
  split at hm
  · rename_i hc
    obtain ⟨c1, c2, c3, c4, c5, c6, c7⟩ := hc
    have c6 : w32 i + w32 n ≤ hL h a := c6
    have c7 : w32 i2 + w32 n ≤ hL h a2 := c7
    obtain ⟨a0, a1, ac⟩ := z_arr Hh.1 c1 (by omega) (by omega)
    obtain ⟨b0, b1, bc⟩ := z_arr Hh.1 c2 (by omega) (by omega)
    obtain ⟨n1, n2, n3⟩ := zx_nn c3
    obtain ⟨o1, o2, o3⟩ := zx_nn c4
    obtain ⟨q1, q2, q3⟩ := zx_nn c5
    obtain ⟨ty, hty, harr, href, hfits⟩ : ∃ ty : FieldType, ArrOfT s (g.2.1 t) ty ∧ True ∧ refKind ty = false ∧ ∀ x : Int, fits ty (fv (akd t) g x) = true := by
      rcases ht12 with rfl | rfl
      · exact ⟨_, (hK.2 0 _ rfl).1, trivial, rfl, fun _ => rfl⟩
      · exact ⟨_, (hK.2 1 _ rfl).1, trivial, rfl, fun _ => rfl⟩
    intro T hTe X
    obtain ⟨-, k0, hk0, cm0, hkk0⟩ := hty (hL h a).toNat (fun j => fv (akd t) g (hM h a j))
    obtain ⟨-, k1, hk1, cm1, hkk1⟩ := hty (hL h a2).toNat (fun j => fv (akd t) g (hM h a2 j))
    obtain ⟨vm', X', step⟩ := X.arraycopy hx hown (hts _ l1) (hts _ l2) (hts _ l3) (hts _ l4) (src := zb g + a.toNat) (dst := zb g + a2.toNat) (cs := arrV (g.2.1 t) (hL h a).toNat (fun j => fv (akd t) g (hM h a j))) (cd := arrV (g.2.1 t) (hL h a2).toNat (fun j => fv (akd t) g (hM h a2 j))) (srcPos := Int32.ofInt i) (destPos := Int32.ofInt i2) (n := Int32.ofInt n) (by rw [hTe]; exact ac) (by rw [hTe]; exact bc)
      (fun _ h => by cases h) (fun _ h => by cases h) (fun h => by cases h) (fun h => by cases h) hk0 hk1 hkk0 hkk1 (by simp [href]) n1 o1 q1
      (by rw [n3, q3]; show ¬ _ > ((arrV _ _ _).slots.size : Int); rw [arrV_size]; omega)
      (by rw [o3, q3]; show ¬ _ > ((arrV _ _ _).slots.size : Int); rw [arrV_size]; omega)
      (fun vm₁ _ i' hi => by
        have ee : (arrV (g.2.1 t) (hL h a).toNat (fun j => fv (akd t) g (hM h a j))).slots.getD ((Int32.ofInt i).toNatClampNeg + i') .null = fv (akd t) g (hM h a (((Int32.ofInt i).toNatClampNeg + i' : Nat) : Int)) := by
          rw [Array.getD_eq_getD_getElem?, arrV_read _ _ (by omega)]
          rfl
        refine ⟨?_, ?_⟩
        · rw [ee]
          exact hfits _
        · rw [ee]
          rcases ht12 with rfl | rfl <;> exact trivial)
      (g := F0 m pc ls (qI n :: qI i2 :: qR g a2 :: qI i :: qR g a :: rest)) rfl (by show ls.size = _; rw [hml, hsize]) (rest := rest) rfl (by rw [hb]; exact hdg) hframes (by show 2 * 0 + _ + _ ≤ _; omega)
    have e1 : copied (arrV (g.2.1 t) (hL h a).toNat (fun j => fv (akd t) g (hM h a j))) (arrV (g.2.1 t) (hL h a2).toNat (fun j => fv (akd t) g (hM h a2 j))) (Int32.ofInt i) (Int32.ofInt i2) (Int32.ofInt n) = arrV (g.2.1 t) (hL h a2).toNat (fun j => fv (akd t) g (va_cpy (fun j : Nat => hM h a j) (fun j : Nat => hM h a2 j) (Int32.ofInt i).toNatClampNeg (Int32.ofInt i2).toNatClampNeg (Int32.ofInt n).toNatClampNeg j)) := va_copied (fun z => fv (akd t) g z) _ _ _ _ (by omega)
    rw [e1] at X' step
    have hl : zb g + a2.toNat < H.size := (Array.getElem?_eq_some_iff.mp bc).1
    have key : zHp g (fun a' k' => if a' = a2 ∧ w32 i2 ≤ k' ∧ k' < w32 i2 + w32 n then h.1 a (w32 i + (k' - w32 i2)) else h.1 a' k', h.2) (H.setIfInBounds (zb g + a2.toNat) (arrV (g.2.1 t) (hL h a2).toNat (fun j => fv (akd t) g (va_cpy (fun j : Nat => hM h a j) (fun j : Nat => hM h a2 j) (Int32.ofInt i).toNatClampNeg (Int32.ofInt i2).toNatClampNeg (Int32.ofInt n).toNatClampNeg j)))) := by
      refine ⟨by rw [Array.size_setIfInBounds]; exact Hh.1.1, Hh.1.2.1, fun x hxt => ?_⟩
      obtain ⟨p1, p2, p3⟩ := Hh.1.2.2 x hxt
      refine ⟨p1, p2, ?_⟩
      by_cases ex : x = a2
      · subst ex
        have htt : hT h x = t := c2
        refine ⟨fun _ => ⟨b1, ?_⟩, fun hge => absurd (show 10 ≤ hT h x from hge) (by omega)⟩
        show (H.setIfInBounds (zb g + x.toNat) _)[zb g + x.toNat]? = some (arrV (g.2.1 (hT h x)) _ _)
        rw [htt]
        simp only [Array.getElem?_setIfInBounds, hl, if_true]
        congr 2
        funext j
        show fv (akd t) g _ = fv (akd t) g _
        congr 1
        show va_cpy _ _ _ _ _ _ = if x = x ∧ w32 i2 ≤ (j : Int) ∧ (j : Int) < w32 i2 + w32 n then h.1 a (w32 i + ((j : Int) - w32 i2)) else h.1 x (j : Int)
        unfold va_cpy
        by_cases hj : (Int32.ofInt i2).toNatClampNeg ≤ j ∧ j < (Int32.ofInt i2).toNatClampNeg + (Int32.ofInt n).toNatClampNeg
        · rw [if_pos hj, if_pos (show x = x ∧ w32 i2 ≤ (j : Int) ∧ (j : Int) < w32 i2 + w32 n from ⟨rfl, by omega, by omega⟩)]
          exact congrArg (h.1 a) (by omega)
        · rw [if_neg hj, if_neg (show ¬ (x = x ∧ w32 i2 ≤ (j : Int) ∧ (j : Int) < w32 i2 + w32 n) by omega)]
      · have ne : zb g + x.toNat ≠ zb g + a2.toNat := by omega
        have oq : (H.setIfInBounds (zb g + a2.toNat) (arrV (g.2.1 t) (hL h a2).toNat (fun j => fv (akd t) g (va_cpy (fun j : Nat => hM h a j) (fun j : Nat => hM h a2 j) (Int32.ofInt i).toNatClampNeg (Int32.ofInt i2).toNatClampNeg (Int32.ofInt n).toNatClampNeg j))))[zb g + x.toNat]? = H[zb g + x.toNat]? := by
          rw [Array.getElem?_setIfInBounds, if_neg (fun q => ne q.symm)]
        refine ⟨fun hlt => ⟨(p3.1 hlt).1, ?_⟩, fun hge => ?_⟩
        · rw [oq, (p3.1 hlt).2]
          show some (arrV _ _ _) = some (arrV _ _ _)
          congr 2
          funext j
          show fv _ g _ = fv _ g _
          congr 1
          show _ = if x = a2 ∧ _ then _ else _
          rw [if_neg (fun q => ex q.1)]
        · refine ((p3.2 hge).kept oq).to (fun j _ => ?_)
          show fv _ g _ = fv _ g _
          congr 1
          show _ = if x = a2 ∧ _ then _ else _
          rw [if_neg (fun q => ex q.1)]
    have hS : ∀ L : List Loc, (∀ q ∈ L, q.base = zb g + a2.toNat) → va_S (zA g) s.heap (H.setIfInBounds (zb g + a2.toNat) (arrV (g.2.1 t) (hL h a2).toNat (fun j => fv (akd t) g (va_cpy (fun j : Nat => hM h a j) (fun j : Nat => hM h a2 j) (Int32.ofInt i).toNatClampNeg (Int32.ofInt i2).toNatClampNeg (Int32.ofInt n).toNatClampNeg j)))) (locs ++ L) := by
      intro L hLb
      refine ⟨by rw [Array.size_setIfInBounds]; exact Hh.2.1, fun q g1 g2 => ?_, fun q hq => ?_⟩
      · rw [Array.getElem?_setIfInBounds, if_neg (fun e => g2 (by show zb g ≤ q; rw [← e]; exact Nat.le_add_right _ _))]
        exact Hh.2.2.1 q g1 g2
      · rcases List.mem_append.mp hq with h | h
        · exact Hh.2.2.2 q h
        · show zb g ≤ q.base
          rw [hLb q h]; exact Nat.le_add_right _ _
    obtain ⟨tt, a3, b3⟩ := kk _ _ _ ⟨key, hS _ (fun q hq => by obtain ⟨z, -, hz⟩ := List.mem_map.mp hq; rw [← hz])⟩ hm _ (by rw [← hTe]; rfl) X'
    exact ⟨tt, step tt a3, b3⟩
  · cases hm
end ZR4
