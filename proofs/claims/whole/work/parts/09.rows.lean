section ZR6
variable {p : Program} {l : Launch} {e : Env} {R : Room} {s : State} {m : MethodId} {args : Array Value} {below : List Frame} {meth : Method} {c : Code} {H : Heap} {locs : List Loc} {cells slots : Nat} {Q : State → Prop} {cc : ByteArray} {pc nL : Nat} {ls : Array Slot} {rest : List Value} {own : String} {g : zGeo} {h : Hp} {β : Type} {r : β}
theorem tk_inv {γ : Type} {t : Nat} {h : Hp} {a : Int} {x : Option γ} {q : γ} (hq : tk t h a x = some q) : h.2.1 a = t ∧ x = some q := by
  unfold tk at hq
  split at hq
  · rename_i ht; exact ⟨ht, hq⟩
  · cases hq
/-- a callee's words -/
def zMB (y : MethodName) (cc : ByteArray) (nL : Nat) (ret : Option FieldType) (n : Nat) : Prop := Cond.code y cc nL ret ∈ TW ∧ Cond.initialized y.cls ∈ TW ∧ y.cls ≠ "java/lang/invoke/MethodHandle" ∧ y.cls ≠ "java/lang/invoke/VarHandle" ∧ (parseMethodDescriptor y.desc).map (fun d => d.parameters.length) = some n
def zMV (y : MethodName) (cc : ByteArray) (nL : Nat) (ret : Option FieldType) (n ci : Nat) : Prop := zMB y cc nL ret n ∧ Cond.instanceMethod y ∈ TW ∧ Cond.selects y.cls y y ∈ TW ∧ ∃ (T : u_T) (N : Nat), vwCl[ci]? = some (y.cls, T, N)
def zMS (y : MethodName) (cc : ByteArray) (nL : Nat) (ret : Option FieldType) (n : Nat) : Prop := zMB y cc nL ret n ∧ Cond.static y ∈ TW
def zMI (y : MethodName) (cc : ByteArray) (nL : Nat) (n : Nat) : Prop := zMB y cc nL none n ∧ Cond.instanceMethod y ∈ TW ∧ y.name = "<init>"
theorem tw_ok {w : Cond} (h : w ∈ TW) : w ∈ TW ∧ ((w.onTables && w.keeps) = true ∨ ∃ ty, w = .arrayClass ty) := ⟨h, good_of_word (List.mem_filter.mp h).2⟩
theorem z_after {mc ms : Nat} {st0 : List Value} {a : Array Value} {h' : Hp} {o : Option Value} (hr : va_Run p l e R s m args below meth c H locs cells slots mc ms (F0 m pc ls st0) rest (zQc g h' o a) (zA g)) (Hh : zH g s h H locs)
    (kk : ∀ (H1 : Heap) (locs1 : List Loc), zH g s h' H1 locs1 → W p l e R s m args below meth c H1 locs1 (cells + mc) (slots + ms) Q (F0 m (pc + 3) ls (o.toList ++ rest))) : W p l e R s m args below meth c H locs cells slots Q (F0 m pc ls st0) := by
  intro T hTe X
  obtain ⟨v, st₀, t, T', L, h0, X', hLf, e1, e2, ⟨hv, hz, hs, hk⟩, st⟩ := hr T hTe X
  cases hv
  rw [h0] at hs hk
  obtain ⟨t2, a1, b1⟩ := kk T'.heap (locs ++ L) ⟨by rw [e1]; exact hz, Nat.le_trans Hh.2.1 (by rw [e1]; exact hs), fun q h1 h2 => by rw [e1, hk q (Nat.lt_of_lt_of_le h1 Hh.2.1) h2]; exact Hh.2.2.1 q h1 h2, fun q hq => by
      rcases List.mem_append.mp hq with h | h
      · exact Hh.2.2.2 q h
      · exact hLf q h⟩ T' rfl X'
  exact ⟨t2, st t2 a1, b1⟩
theorem z_blind {vs : List Value} : FrameBlind (va_Pc vs (fun U => zU g U ∧ zHp g h U.heap)) := fun a U f mk q => ⟨q.1, q.2.1.blind f mk a, q.2.2⟩
theorem z_pre {vs : List Value} (hu : zU g s) (Hh : zH g s h H locs) : ∀ U : State, U.heap = H → s.WarmedH U.vm → va_Pc vs (fun U => zU g U ∧ zHp g h U.heap) vs.toArray U := fun U hU hW => ⟨rfl, hu.go Hh.2 hU hW, by rw [hU]; exact Hh.1⟩
theorem z_callV {idx ci n nL' fr lo mc ms : Nat} {y : MethodName} {cc' : ByteArray} {ret : Option FieldType} {h' : Hp} {o : Option Value} {a : Int} {vs st : List Value} (C : zC p m c cc nL s args own g) (hM : zM l y cc' nL' ret fr lo mc ms g h (qR g a :: vs) h' o) (L : Cond.methodLink own idx y ∈ TW) (Y : zMV y cc' nL' ret n ci) (ht : hT h a = 10 + ci) (hn : vs.length = n) (hsize : ls.size = nL) (Hh : zH g s h H locs) (hroom : fr + 1 ≤ R.frames ∧ 8 + (nL' + 11) + lo ≤ R.locals ∧ cells + mc ≤ R.cells ∧ slots + ms ≤ R.slots) (hcat : (rest.map fun v => v.category).sum ≤ 8) (hdg : decode cc pc = .ok (.invokevirtual idx, 3)) (hst : st = vs.reverse ++ qR g a :: rest)
    (kk : ∀ (H1 : Heap) (locs1 : List Loc), zH g s h' H1 locs1 → W p l e R s m args below meth c H1 locs1 (cells + mc) (slots + ms) Q (F0 m (pc + 3) ls (o.toList ++ rest))) : W p l e R s m args below meth c H locs cells slots Q (F0 m pc ls st) := by
  obtain ⟨⟨y1, y2, y3, y4, y5⟩, y6, y7, T, N, hc⟩ := Y
  obtain ⟨F, hu⟩ := C
  have hts := F.2.2.2.2
  obtain ⟨h0, cell, q1, q2, q3, q4⟩ := z_obj Hh.1 ht
  obtain ⟨hS, hfc, -⟩ := hu.1.1 ci _ hc
  have hT : GoodIn TW (wsV own idx y.cls y (Cond.code y cc' nL' ret :: TW)) := by
    intro w hw
    unfold wsV at hw
    rcases List.mem_append.mp hw with hw | hw
    · simp only [List.mem_cons, List.not_mem_nil, or_false] at hw
      rcases hw with rfl | rfl | rfl | rfl
      · exact tw_ok L
      · exact tw_ok y6
      · exact tw_ok y7
      · exact tw_ok y2
    · exact tw_good y1 w hw
  refine z_after (va_runV (b := zb g + a.toNat) (As := vs) (rest := rest) F hM (cwV n hts hT rfl rfl rfl ⟨rfl, y3, y4, y5⟩ ⟨hroom.1, hroom.2.1⟩) ⟨z_blind, ⟨cell, q1, by rw [q3]; rfl, by rw [q2]; exact hfc⟩, z_pre hu Hh⟩ rfl hn hsize hst (lv_room hcat) hdg ⟨hroom.2.2.1, hroom.2.2.2⟩) Hh kk
theorem z_callS {idx n nL' fr lo mc ms : Nat} {y : MethodName} {cc' : ByteArray} {ret : Option FieldType} {h' : Hp} {o : Option Value} {vs st : List Value} (C : zC p m c cc nL s args own g) (hM : zM l y cc' nL' ret fr lo mc ms g h vs h' o) (L : Cond.methodLink own idx y ∈ TW) (Y : zMS y cc' nL' ret n) (hn : vs.length = n) (hsize : ls.size = nL) (Hh : zH g s h H locs) (hroom : fr + 1 ≤ R.frames ∧ 8 + (nL' + 11) + lo ≤ R.locals ∧ cells + mc ≤ R.cells ∧ slots + ms ≤ R.slots) (hcat : (rest.map fun v => v.category).sum ≤ 8) (hdg : decode cc pc = .ok (.invokestatic idx, 3)) (hst : st = vs.reverse ++ rest)
    (kk : ∀ (H1 : Heap) (locs1 : List Loc), zH g s h' H1 locs1 → W p l e R s m args below meth c H1 locs1 (cells + mc) (slots + ms) Q (F0 m (pc + 3) ls (o.toList ++ rest))) : W p l e R s m args below meth c H locs cells slots Q (F0 m pc ls st) := by
  obtain ⟨⟨y1, y2, y3, y4, y5⟩, y6⟩ := Y
  obtain ⟨F, hu⟩ := C
  have hts := F.2.2.2.2
  have hT : GoodIn TW (va_wsS own idx y (Cond.code y cc' nL' ret :: TW)) := by
    intro w hw
    unfold va_wsS at hw
    rcases List.mem_append.mp hw with hw | hw
    · simp only [List.mem_cons, List.not_mem_nil, or_false] at hw
      rcases hw with rfl | rfl | rfl
      · exact tw_ok L
      · exact tw_ok y6
      · exact tw_ok y2
    · exact tw_good y1 w hw
  exact z_after (va_runS (As := vs) (rest := rest) F hM (va_cwS n hts hT rfl rfl rfl ⟨y3, y4, y5⟩ ⟨hroom.1, hroom.2.1⟩) ⟨z_blind, z_pre hu Hh⟩ rfl hn hsize hst (lv_room hcat) hdg ⟨hroom.2.2.1, hroom.2.2.2⟩) Hh kk
def zML (own : String) (idx : Nat) (y : MethodName) : Prop := Cond.methodLink own idx y ∈ TW ∨ ∃ host, Cond.methodLinkNest own idx y host ∈ zNest
theorem z_callI {idx n nL' fr lo mc ms : Nat} {y : MethodName} {cc' : ByteArray} {h' : Hp} {a : Int} {vs st : List Value} (C : zC p m c cc nL s args own g) (hM : zM l y cc' nL' none fr lo mc ms g h (qR g a :: vs) h' none) (L : zML own idx y) (Y : zMI y cc' nL' n) (hn : vs.length = n) (hsize : ls.size = nL) (Hh : zH g s h H locs) (hroom : fr + 1 ≤ R.frames ∧ 8 + (nL' + 11) + lo ≤ R.locals ∧ cells + mc ≤ R.cells ∧ slots + ms ≤ R.slots) (hcat : (rest.map fun v => v.category).sum ≤ 8) (hdg : decode cc pc = .ok (.invokespecial idx, 3)) (hst : st = vs.reverse ++ qR g a :: rest)
    (kk : ∀ (H1 : Heap) (locs1 : List Loc), zH g s h' H1 locs1 → W p l e R s m args below meth c H1 locs1 (cells + mc) (slots + ms) Q (F0 m (pc + 3) ls rest)) : W p l e R s m args below meth c H locs cells slots Q (F0 m pc ls st) := by
  obtain ⟨⟨y1, y2, y3, y4, y5⟩, y6, y7⟩ := Y
  obtain ⟨F, hu⟩ := C
  have hts := F.2.2.2.2
  rcases L with L | ⟨host, L⟩
  · exact z_after (va_runI (b := zb g + a.toNat) (As := vs) (rest := rest) F hM (cwI n hts (tw_good y1) rfl rfl rfl (hts _ y2) (hts _ L) (hts _ y6) y7 ⟨y3, y4, y5⟩ ⟨hroom.1, hroom.2.1⟩) ⟨z_blind, z_pre hu Hh⟩ rfl hn hsize hst (lv_room hcat) hdg ⟨hroom.2.2.1, hroom.2.2.2⟩) Hh kk
  · exact z_after (va_runIN (b := zb g + a.toNat) (As := vs) (rest := rest) F hM ⟨va_cnB n hts (tw_good y1) rfl rfl rfl (hu.2.1 _ L) (hts _ y2) ⟨y3, y4, y5⟩ ⟨hroom.1, hroom.2.1⟩, y7, hts _ y6⟩ ⟨z_blind, z_pre hu Hh⟩ rfl hn hsize hst (lv_room hcat) hdg ⟨hroom.2.2.1, hroom.2.2.2⟩) Hh kk
theorem z_oinit {idx : Nat} {a : Int} (C : zC p m c cc nL s args own g) (L : Cond.methodLink own idx objectInit ∈ TW ∧ Cond.instanceMethod objectInit ∈ TW ∧ Cond.code objectInit ⟨#[0xb1]⟩ 1 none ∈ TW) (hsize : ls.size = nL) (hfr : 1 ≤ R.frames) (hlo : (rest.map fun v => v.category).sum + 12 ≤ R.locals) (hdg : decode cc pc = .ok (.invokespecial idx, 3)) (kk : W p l e R s m args below meth c H locs cells slots Q (F0 m (pc + 3) ls rest)) : W p l e R s m args below meth c H locs cells slots Q (F0 m pc ls (qR g a :: rest)) := by
  obtain ⟨⟨hx, hb, hml, hown, hts⟩, hu⟩ := C
  exact W.objInit hx hb hown (hts _ L.1) (hts _ L.2.1) (hts _ L.2.2) rfl (by show ls.size = _; rw [hml, hsize]) rfl hdg hfr (by show 2 * 0 + _ + _ ≤ _; omega) kk
/-! ends -/
theorem z_iret {r : Hp × Int} {v : Int} {mc ms : Nat} (C : zC p m c cc nL s args own g) (hr : meth.sig.returnType = some .int) (hlocks : meth.locks = false) (Hh : zH g s h H locs) (hdg : decode cc pc = .ok (.ireturn, 1)) (hm : some (h, v) = some r) : W p l e R s m args below meth c H locs mc ms (zQ below g r.1 (some (qI r.2)) args s mc ms) (F0 m pc ls [qI v]) := by
  cases hm
  exact W.iret (hlocks := hlocks) C.1.1 C.1.2.1 hr (fun t ht _ => ⟨rfl, by rw [ht]; exact Hh.1, Hh.2.F ht⟩) Hh.2.2.2 hdg
theorem z_iretR {r v : Int} {h0 : Hp} {mc ms : Nat} (C : zC p m c cc nL s args own g) (hr : meth.sig.returnType = some .int) (hlocks : meth.locks = false) (Hh : zH g s h H locs) (hdg : decode cc pc = .ok (.ireturn, 1)) (hm : some v = some r) : W p l e R s m args below meth c H locs mc ms (zQ below g h (some (qI r)) args s mc ms) (F0 m pc ls [qI v]) := by
  cases hm
  exact W.iret (hlocks := hlocks) C.1.1 C.1.2.1 hr (fun t ht _ => ⟨rfl, by rw [ht]; exact Hh.1, Hh.2.F ht⟩) Hh.2.2.2 hdg
theorem z_nb {v : Int} (h : w32 v = 0 ∨ w32 v = 1) : narrow .boolean (qI v) = qI v := by
  rcases bool_ofInt h with h | h <;> (unfold qI; rw [h]; rfl)
theorem z_zret {r : Hp × Int} {v : Int} {mc ms : Nat} (C : zC p m c cc nL s args own g) (hr : meth.sig.returnType = some .boolean) (hlocks : meth.locks = false) (Hh : zH g s h H locs) (hdg : decode cc pc = .ok (.ireturn, 1)) (hm : zb1 v (h, v) = some r) : W p l e R s m args below meth c H locs mc ms (zQ below g r.1 (some (qI r.2)) args s mc ms) (F0 m pc ls [qI v]) := by
  unfold zb1 at hm
  split at hm
  · rename_i hb
    cases hm
    exact W.zret (hlocks := hlocks) C.1.1 C.1.2.1 hr (z_nb hb) (fun t ht _ => ⟨rfl, by rw [ht]; exact Hh.1, Hh.2.F ht⟩) Hh.2.2.2 hdg
  · cases hm
theorem z_zretC {r : Hp × Int} {v : Int} {mc ms : Nat} (C : zC p m c cc nL s args own g) (hr : meth.sig.returnType = some .boolean) (hlocks : meth.locks = false) (Hh : zH g s h H locs) (hdg : decode cc pc = .ok (.ireturn, 1)) (hb : w32 v = 0 ∨ w32 v = 1) (hm : some (h, v) = some r) : W p l e R s m args below meth c H locs mc ms (zQ below g r.1 (some (qI r.2)) args s mc ms) (F0 m pc ls [qI v]) := by
  cases hm
  exact W.zret (hlocks := hlocks) C.1.1 C.1.2.1 hr (z_nb hb) (fun t ht _ => ⟨rfl, by rw [ht]; exact Hh.1, Hh.2.F ht⟩) Hh.2.2.2 hdg
theorem z_zretR {r v : Int} {mc ms : Nat} (C : zC p m c cc nL s args own g) (hr : meth.sig.returnType = some .boolean) (hlocks : meth.locks = false) (Hh : zH g s h H locs) (hdg : decode cc pc = .ok (.ireturn, 1)) (hm : zb1 v v = some r) : W p l e R s m args below meth c H locs mc ms (zQ below g h (some (qI r)) args s mc ms) (F0 m pc ls [qI v]) := by
  unfold zb1 at hm
  split at hm
  · rename_i hb
    cases hm
    exact W.zret (hlocks := hlocks) C.1.1 C.1.2.1 hr (z_nb hb) (fun t ht _ => ⟨rfl, by rw [ht]; exact Hh.1, Hh.2.F ht⟩) Hh.2.2.2 hdg
  · cases hm
theorem z_zretRC {r v : Int} {mc ms : Nat} (C : zC p m c cc nL s args own g) (hr : meth.sig.returnType = some .boolean) (hlocks : meth.locks = false) (Hh : zH g s h H locs) (hdg : decode cc pc = .ok (.ireturn, 1)) (hb : w32 v = 0 ∨ w32 v = 1) (hm : some v = some r) : W p l e R s m args below meth c H locs mc ms (zQ below g h (some (qI r)) args s mc ms) (F0 m pc ls [qI v]) := by
  cases hm
  exact W.zret (hlocks := hlocks) C.1.1 C.1.2.1 hr (z_nb hb) (fun t ht _ => ⟨rfl, by rw [ht]; exact Hh.1, Hh.2.F ht⟩) Hh.2.2.2 hdg
theorem z_lret {r : Hp × Int} {v : Int} {mc ms : Nat} (C : zC p m c cc nL s args own g) (hr : meth.sig.returnType = some .long) (hlocks : meth.locks = false) (Hh : zH g s h H locs) (hdg : decode cc pc = .ok (.lreturn, 1)) (hm : some (h, v) = some r) : W p l e R s m args below meth c H locs mc ms (zQ below g r.1 (some (qJ r.2)) args s mc ms) (F0 m pc ls [qJ v]) := by
  cases hm
  exact W.lret (hlocks := hlocks) C.1.1 C.1.2.1 hr (fun t ht _ => ⟨rfl, by rw [ht]; exact Hh.1, Hh.2.F ht⟩) Hh.2.2.2 hdg
theorem z_lretR {r v : Int} {mc ms : Nat} (C : zC p m c cc nL s args own g) (hr : meth.sig.returnType = some .long) (hlocks : meth.locks = false) (Hh : zH g s h H locs) (hdg : decode cc pc = .ok (.lreturn, 1)) (hm : some v = some r) : W p l e R s m args below meth c H locs mc ms (zQ below g h (some (qJ r)) args s mc ms) (F0 m pc ls [qJ v]) := by
  cases hm
  exact W.lret (hlocks := hlocks) C.1.1 C.1.2.1 hr (fun t ht _ => ⟨rfl, by rw [ht]; exact Hh.1, Hh.2.F ht⟩) Hh.2.2.2 hdg
theorem z_sretR {r : Int} {v : Int} {mc ms : Nat} {rn : String} (C : zC p m c cc nL s args own g) (hr : meth.sig.returnType = some (.object rn)) (hlocks : meth.locks = false) (Hh : zH g s h H locs) (hdg : decode cc pc = .ok (.areturn, 1)) (hm : some v = some r) : W p l e R s m args below meth c H locs mc ms (zQ below g h (some (qS g r)) args s mc ms) (F0 m pc ls [qS g v]) := by
  cases hm
  exact W.aret (hlocks := hlocks) C.1.1 C.1.2.1 hr (Or.inl ⟨_, rfl⟩) (Or.inr ⟨_, rfl⟩) (fun t ht _ => ⟨rfl, by rw [ht]; exact Hh.1, Hh.2.F ht⟩) Hh.2.2.2 hdg
theorem z_vret {r : Hp} {mc ms : Nat} (C : zC p m c cc nL s args own g) (hr : meth.sig.returnType = none) (hlocks : meth.locks = false) (Hh : zH g s h H locs) (hdg : decode cc pc = .ok (.return_, 1)) (hm : some h = some r) : W p l e R s m args below meth c H locs mc ms (zQ below g r none args s mc ms) (F0 m pc ls []) := by
  cases hm
  exact W.vret (hlocks := hlocks) C.1.1 C.1.2.1 hr (fun t ht _ => ⟨rfl, by rw [ht]; exact Hh.1, Hh.2.F ht⟩) Hh.2.2.2 hdg
end ZR6
