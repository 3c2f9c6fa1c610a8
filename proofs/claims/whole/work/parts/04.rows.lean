/-! rows of the machine over the model's memory -/
def zFL (own : String) (idx ci k : Nat) : Prop := ∃ (C : String) (T : u_T) (N : Nat), vwCl[ci]? = some (C, T, N) ∧ k < N ∧ N = nfd ci ∧ (∀ w ∈ u_ws C T N, w ∈ TW) ∧ (Cond.fieldLink own idx (T k).1 (T k).2.1 (T k).2.2.1 ∈ TW ∨ ∃ host, Cond.fieldLinkNest own idx (T k).1 (T k).2.1 (T k).2.2.1 host ∈ zNest)
/-- beside it: the types, the names, not final or final in its own class -/
def zFT (ci k : Nat) (ty : FieldType) (fin : Bool) : Prop := ∃ (C : String) (T : u_T) (N : Nat) (ty0 : Nat → FieldType), vwCl[ci]? = some (C, T, N) ∧ (∀ k, k < N → parseFieldDescriptor (T k).2.2.1 = some (ty0 k)) ∧ (∀ a, a < N → ∀ b, b < N → a ≠ b → (T a).2.1 ≠ (T b).2.1) ∧ (T k).2.2.2 = fin ∧ ty0 k = ty ∧ (T k).1 = C
theorem zHp_up {g : zGeo} {h : Hp} {H H1 : Heap} {a k v : Int} (hz : zHp g h H) (ht : hT h a ≠ 0) (new : zAt g (up h a k v) a H1) (hs : H1.size = H.size) (oq : ∀ q : Nat, q ≠ zb g + a.toNat → H1[q]? = H[q]?) : zHp g (up h a k v) H1 := by
  obtain ⟨h1, h2, h3⟩ := hz
  refine ⟨by rw [hs]; exact h1, h2, fun a' ht' => ?_⟩
  obtain ⟨p1, p2, p3⟩ := h3 a' ht'
  obtain ⟨r1, r2, r3⟩ := h3 a ht
  refine ⟨p1, p2, ?_⟩
  by_cases e : a' = a
  · rw [e]; exact new
  · have ne : zb g + a'.toNat ≠ zb g + a.toNat := by omega
    have hcont : ∀ j : Int, hM (up h a k v) a' j = hM h a' j := fun j => by simp [up, hM, e]
    refine ⟨fun hlt => ⟨(p3.1 hlt).1, ?_⟩, fun hge => ?_⟩
    · rw [oq _ ne, (p3.1 hlt).2]
      show some (arrV _ _ _) = some (arrV _ _ _)
      congr 2
      funext j
      rw [hcont]; rfl
    · have := (p3.2 hge).kept (oq _ ne)
      exact this.to (fun j _ => by rw [hcont]; rfl)
section ZR
variable {p : Program} {l : Launch} {e : Env} {R : Room} {s : State} {m : MethodId} {args : Array Value} {below : List Frame} {meth : Method} {c : Code} {H : Heap} {locs : List Loc} {cells slots : Nat} {Q : State → Prop} {cc : ByteArray} {pc nL : Nat} {ls : Array Slot} {rest : List Value} {own : String} {g : zGeo} {h : Hp} {β : Type} {r : β}
theorem z_obj {ci : Nat} {a : Int} (Hz : zHp g h H) (ht : hT h a = 10 + ci) : 0 ≤ a ∧ t_OB (zb g + a.toNat) (g.1.1 ci) (nfd ci) (g.1.2 ci) H (fun j => fv (kd ci j) g (hM h a j)) := by
  obtain ⟨h0, h1, hAt⟩ := Hz.2.2 a (by omega)
  have h2 := hAt.2 (by omega)
  rw [show hT h a - 10 = ci by omega] at h2
  exact ⟨h0, h2⟩
theorem z_arr {t : Nat} {a : Int} (Hz : zHp g h H) (ht : hT h a = t) (h0 : t ≠ 0) (h10 : t < 10) : 0 ≤ a ∧ 0 ≤ hL h a ∧ H[zb g + a.toNat]? = some (arrV (g.2.1 t) (hL h a).toNat (fun j => fv (akd t) g (hM h a j))) := by
  obtain ⟨h0, h1, hAt⟩ := Hz.2.2 a (by omega)
  have h2 := hAt.1 (by omega)
  rw [ht] at h2
  exact ⟨h0, h2⟩
theorem z_get0 {idx ci k : Nat} {a : Int} (C : zC p m c cc nL s args own g) (L : zFL own idx ci k) (Hz : zHp g h H) (ht : hT h a = 10 + ci) (hdg : decode cc pc = .ok (.getfield idx, 3)) (kk : W p l e R s m args below meth c H locs cells slots Q (F0 m (pc + 3) ls (fv (kd ci k) g (hM h a k) :: rest))) : W p l e R s m args below meth c H locs cells slots Q (F0 m pc ls (qR g a :: rest)) := by
  obtain ⟨⟨hx, hb, hml, hown, hts⟩, hK, hN, -⟩ := C
  obtain ⟨C, T, N, hc, hk, hNN, hin, hl⟩ := L
  obtain ⟨h0, cell, q1, q2, q3, q4⟩ := z_obj Hz ht
  obtain ⟨hS, hfc, kC, hkC, hkind⟩ := hK.1 ci _ hc
  obtain ⟨cf, kf, fi, f, hi, hsl⟩ := hS k hk
  have hst := (u_facts hfc hkC (u_lays hts hin hk) hi).1
  have hv : cell.slots[f.slot]? = some (fv (kd ci k) g (hM h a k)) := by rw [hsl, q4 k (by omega)]
  rcases hl with hl | ⟨host, hl⟩
  · exact W.getf hx hb hown (hts _ hl) hi hst q1 (by rw [q3]; exact fun h => by cases h) hv rfl rfl hdg kk
  · exact va_Wgetf hx hb hown (va_Nw.use rfl (hN _ hl)) hi hst q1 (by rw [q3]; exact fun h => by cases h) hv rfl rfl hdg kk
theorem z_getI {idx ci k : Nat} {a : Int} {f : Int → Option β} (C : zC p m c cc nL s args own g) (L : zFL own idx ci k) (Hh : zH g s h H locs) (hdg : decode cc pc = .ok (.getfield idx, 3)) (hkd : kd ci k = 0) (hm : (gf (10 + ci) h a k).bind f = some r) (kk : ∀ x : Int, f x = some r → W p l e R s m args below meth c H locs cells slots Q (F0 m (pc + 3) ls (qI x :: rest))) : W p l e R s m args below meth c H locs cells slots Q (F0 m pc ls (qR g a :: rest)) := by
  unfold gf at hm
  split at hm
  · rename_i ht
    refine z_get0 C L Hh.1 ht hdg ?_
    rw [hkd]
    exact kk _ hm
  · cases hm
theorem z_getJ {idx ci k : Nat} {a : Int} {f : Int → Option β} (C : zC p m c cc nL s args own g) (L : zFL own idx ci k) (Hh : zH g s h H locs) (hdg : decode cc pc = .ok (.getfield idx, 3)) (hkd : kd ci k = 1) (hm : (gf (10 + ci) h a k).bind f = some r) (kk : ∀ x : Int, f x = some r → W p l e R s m args below meth c H locs cells slots Q (F0 m (pc + 3) ls (qJ x :: rest))) : W p l e R s m args below meth c H locs cells slots Q (F0 m pc ls (qR g a :: rest)) := by
  unfold gf at hm
  split at hm
  · rename_i ht
    refine z_get0 C L Hh.1 ht hdg ?_
    rw [hkd]
    exact kk _ hm
  · cases hm
theorem qN_nn {a : Int} (h : 0 ≤ a) : qN g a = qR g a := if_neg (by omega)
theorem z_getR {idx ci k : Nat} {a : Int} {f : Int → Option β} (C : zC p m c cc nL s args own g) (L : zFL own idx ci k) (Hh : zH g s h H locs) (hdg : decode cc pc = .ok (.getfield idx, 3)) (hkd : kd ci k = 2) (hm : (gr (10 + ci) h a k).bind f = some r) (kk : ∀ x : Int, f x = some r → W p l e R s m args below meth c H locs cells slots Q (F0 m (pc + 3) ls (qR g x :: rest))) : W p l e R s m args below meth c H locs cells slots Q (F0 m pc ls (qR g a :: rest)) := by
  unfold gr at hm
  split at hm
  · rename_i ht
    refine z_get0 C L Hh.1 ht.1 hdg ?_
    rw [hkd]
    show W p l e R s m args below meth c H locs cells slots Q (F0 m (pc + 3) ls (qN g _ :: rest))
    rw [qN_nn ht.2]
    exact kk _ hm
  · cases hm
/-- a field that may be null, then the test -/
theorem z_getNull {idx ci k : Nat} {a : Int} {f : Int → Option β} {off : Int} {tgt : Nat} (C : zC p m c cc nL s args own g) (L : zFL own idx ci k) (Hh : zH g s h H locs) (hdg : decode cc pc = .ok (.getfield idx, 3)) (hkd : kd ci k = 2) (hd2 : decode cc (pc + 3) = .ok (.ifnull off, 3)) (ht : ((pc + 3 : Nat) : Int) + off = (tgt : Int)) (hm : (gf (10 + ci) h a k).bind f = some r)
    (kn : ∀ x : Int, x < 0 → f x = some r → W p l e R s m args below meth c H locs cells slots Q (F0 m tgt ls rest)) (ks : ∀ x : Int, ¬ x < 0 → f x = some r → W p l e R s m args below meth c H locs cells slots Q (F0 m (pc + 3 + 3) ls rest)) : W p l e R s m args below meth c H locs cells slots Q (F0 m pc ls (qR g a :: rest)) := by
  unfold gf at hm
  split at hm
  · rename_i hta
    refine z_get0 C L Hh.1 hta hdg ?_
    rw [hkd]
    show W p l e R s m args below meth c H locs cells slots Q (F0 m (pc + 3) ls (qN g _ :: rest))
    unfold qN
    split
    · rename_i hn
      exact lv_ifnullN C.1.1 C.1.2.1 hd2 ht (kn _ hn hm)
    · rename_i hn
      exact lv_ifnull C.1.1 C.1.2.1 hd2 (ks _ hn hm)
  · cases hm
theorem z_getNonnull {idx ci k : Nat} {a : Int} {f : Int → Option β} {off : Int} {tgt : Nat} (C : zC p m c cc nL s args own g) (L : zFL own idx ci k) (Hh : zH g s h H locs) (hdg : decode cc pc = .ok (.getfield idx, 3)) (hkd : kd ci k = 2) (hd2 : decode cc (pc + 3) = .ok (.ifnonnull off, 3)) (ht : ((pc + 3 : Nat) : Int) + off = (tgt : Int)) (hm : (gf (10 + ci) h a k).bind f = some r)
    (kn : ∀ x : Int, x < 0 → f x = some r → W p l e R s m args below meth c H locs cells slots Q (F0 m (pc + 3 + 3) ls rest)) (ks : ∀ x : Int, ¬ x < 0 → f x = some r → W p l e R s m args below meth c H locs cells slots Q (F0 m tgt ls rest)) : W p l e R s m args below meth c H locs cells slots Q (F0 m pc ls (qR g a :: rest)) := by
  unfold gf at hm
  split at hm
  · rename_i hta
    refine z_get0 C L Hh.1 hta hdg ?_
    rw [hkd]
    show W p l e R s m args below meth c H locs cells slots Q (F0 m (pc + 3) ls (qN g _ :: rest))
    unfold qN
    split
    · rename_i hn
      exact lv_ifnonnullN C.1.1 C.1.2.1 hd2 (kn _ hn hm)
    · rename_i hn
      exact lv_ifnonnull C.1.1 C.1.2.1 hd2 ht (ks _ hn hm)
  · cases hm
theorem z_put0 {idx ci k : Nat} {a x : Int} {ty : FieldType} {fin : Bool} (C : zC p m c cc nL s args own g) (L : zFL own idx ci k) (F : zFT ci k ty fin) (hf : fin = false ∨ (fin = true ∧ meth.name = "<init>" ∧ own = (vwCl.getD ci ("", fun _ => ("", "", "", false), 0)).1 ∧ ∃ (C : String) (T : u_T) (N : Nat), vwCl[ci]? = some (C, T, N) ∧ Cond.fieldLink own idx (T k).1 (T k).2.1 (T k).2.2.1 ∈ TW)) (Hh : zH g s h H locs) (ht : hT h a = 10 + ci) (hn : narrow ty (fv (kd ci k) g x) = fv (kd ci k) g x) (hfit : fits ty (fv (kd ci k) g x) = true) (hdg : decode cc pc = .ok (.putfield idx, 3))
    (kk : ∀ (H1 : Heap) (locs1 : List Loc), zH g s (up h a k x) H1 locs1 → W p l e R s m args below meth c H1 locs1 cells slots Q (F0 m (pc + 3) ls rest)) : W p l e R s m args below meth c H locs cells slots Q (F0 m pc ls (fv (kd ci k) g x :: qR g a :: rest)) := by
  obtain ⟨⟨hx, hb, hml, hown, hts⟩, hK, hNw, -⟩ := C
  obtain ⟨Cn, T, N, hc, hk, hNN, hin, hl⟩ := L
  obtain ⟨Cn', T', N', ty0, hc', hty, hnm, hfin, hty1, hdecl⟩ := F
  cases (Option.some.inj (hc.symm.trans hc'))
  have hap := va_apart (own := own) hts hin ty0 hty hnm hK hc
  obtain ⟨h0, cell, q1, q2, q3, q4⟩ := z_obj Hh.1 ht
  obtain ⟨hS, hfc, kC, hkC, hkind⟩ := hK.1 ci _ hc
  obtain ⟨cf, kf, fi, f, hi, hsl⟩ := hS k hk
  have hst := (u_facts hfc hkC (u_lays hts hin hk) hi).1
  have hd : parseFieldDescriptor (T k).2.2.1 = some ty := by rw [← hty1]; exact hty k hk
  have hlay := hts _ (hin _ (u_in_lay hk))
  have key : ∀ (H1 : Heap), H1[zb g + a.toNat]? = some (cell.setSlot (g.1.2 ci k) (fv (kd ci k) g x)) → H1.size = H.size → (∀ q, q ≠ zb g + a.toNat → H1[q]? = H[q]?) → W p l e R s m args below meth c H1 (locs ++ [⟨zb g + a.toNat, g.1.2 ci k⟩]) cells slots Q (F0 m (pc + 3) ls rest) := by
    intro H1 e1 e2 e3
    refine kk H1 _ ⟨zHp_up Hh.1 (by omega) ?_ e2 e3, Hh.2.put e2 e3 (Nat.le_add_right _ _)⟩
    have hta : hT (up h a k x) a = 10 + ci := ht
    refine ⟨fun hlt => absurd hlt (by omega), fun _ => ?_⟩
    rw [show hT (up h a k x) a - 10 = ci by omega]
    have hset := t_set q4 (fun x y hx hy => hap x y (by omega) (by omega)) (show k < nfd ci by omega) (fv (kd ci k) g x)
    refine t_OB.to (V := updV (fun j => fv (kd ci j) g (hM h a j)) k (fv (kd ci k) g x)) ⟨_, e1, q2, q3, hset⟩ (fun j _ => ?_)
    unfold updV
    by_cases hj : j = k
    · subst hj; simp [up, hM]
    · have : ¬ ((j : Int) = (k : Int)) := by omega
      simp [up, hM, hj, this]
  unfold u_lay at hlay
  rcases hf with hf | ⟨hf, hinit, howC, hlf⟩
  · subst hf
    rw [if_neg (by rw [hfin]; decide)] at hlay
    have h6 := u_store hfc hkC hkind hlay hi hd hn hfit
    rcases hl with hl | ⟨host, hl⟩
    · refine W.putK hx hb (f := f) ⟨hown, hts _ hl, ⟨_, _, _, hi⟩, hst⟩ (by rw [q2]; exact h6) q1 q3 (by rw [hsl]; exact k2_hasslot (q4 k (by omega))) rfl rfl hdg fun H' e1 e2 e3 => ?_
      rw [hsl] at e1 ⊢
      exact key H' e1 e2 e3
    · refine va_WputK hx hb (f := f) hown (va_Nw.use rfl (hNw _ hl)) hi hst (by rw [q2]; exact h6) q1 q3 (by rw [hsl]; exact k2_hasslot (q4 k (by omega))) rfl rfl hdg fun H' e1 e2 e3 => ?_
      rw [hsl] at e1 ⊢
      exact key H' e1 e2 e3
  · subst hf
    obtain ⟨C3, T3, N3, hc3, hl3⟩ := hlf
    cases (Option.some.inj (hc.symm.trans hc3))
    rw [if_pos hfin] at hlay
    have hCown : Cn = own := by
      rw [howC]
      simp [List.getD_eq_getElem?_getD, hc]
    have hcf : m.cls = cf := by
      obtain ⟨_, _, c', _, _, _, -, -, hf', -, -, -, hown2, -⟩ := Cond.laysFinal_spec hlay
      have e1 : c' = cf := by have := hi.symm.trans hf'; simp at this; exact this.1.symm
      rw [hdecl, hCown] at hown2
      rw [← e1]; exact Option.some.inj (hown.symm.trans hown2)
    have h6 := u_fits hfc hkC hkind (Or.inr hlay) hi hd hn hfit
    refine W.putFinK hx hb hown (hts _ hl3) hi hst hcf hinit (by rw [q2]; exact h6) q1 q3 (by rw [hsl]; exact k2_hasslot (q4 k (by omega))) rfl rfl hdg fun H' e1 e2 e3 => ?_
    rw [hsl] at e1 ⊢
    exact key H' e1 e2 e3
end ZR
