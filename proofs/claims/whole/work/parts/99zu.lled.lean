/-! the law's led: caught -/
/-- the memory behind the law's led -/
def lqH (h : Hp) (l2 : Int) : Unit ⊕ Int → Hp → Prop
  | .inl _, h' => ∃ x, hX h ≤ x ∧ h' = hGr h x
  | .inr v, h' => ast 2 h l2 0 (w32 v) = some h'
def zLC (g : zGeo) (h : Hp) (l2 : Int) (q : Unit ⊕ Int) : Array Value → State → Outcome → State → Prop := fun _ st oc t => oc = .returned (some (qI (rdT q))) ∧ (∃ h', lqH h l2 q h' ∧ zHp g h' t.heap) ∧ va_F (zA g) st t
set_option maxRecDepth 100000 in
theorem my_X9_led : zMV yX9_led cX9_led 4 (some .int) 1 9 := ⟨⟨by decide +kernel, by decide +kernel, by decide, by decide, by decide⟩, by decide +kernel, by decide +kernel, TX9, 17, rfl⟩
set_option maxRecDepth 100000 in
theorem lled_w : Cond.methodLink RL 7 yX9_led ∈ TW ∧ Cond.classLink RL 13 "java/util/NoSuchElementException" ∈ TW ∧ Cond.codeWith yL_led cL_led 4 (some .int) [(0, 9, 12, 13)] ∈ TW ∧ Cond.initialized RL ∈ TW ∧ Cond.methodLink RL 175 yL_led ∈ TW ∧ Cond.static yL_led ∈ TW := by decide +kernel
theorem zm_ofWH {l : Launch} {y : MethodName} {ws ws' : List Cond} {rm : Room} {Pc : Array Value → State → Prop} {Qc : Array Value → State → Outcome → State → Prop} {mc ms : Nat} {free : Addr → Prop} {cc : ByteArray} {maxL : Nat} {ret : Option FieldType} {hh : List (Nat × Nat × Nat × Nat)}
    (hy : plainName y.cls = true) (hw : ws = Cond.codeWith y cc maxL ret hh :: ws')
    (body : ∀ p e s m args below meth c s₁, BodyLoose p l y (headSpec ws rm) cc maxL ret e s m args below meth c s₁ → c.maxLocals = maxL → Pc args s →
      W p l e (headSpec ws rm).room s m args below meth c s.heap [] 0 0 (MQ below Qc args s mc ms free) (entryFrame m args maxL)) : Met l y ws rm Pc Qc mc ms free := by
  refine MetFree.of_bodyS (code := cc) (maxLocals := maxL) (ret := ret) hy ?_ ?_
  · intro args s m h hn
    obtain ⟨m9, meth, c, hn9, h1, h2, h3, h4, -, h5, h6, -⟩ := Cond.codeWith_spec (atoms_spec (ws := ws) h _ (by rw [hw]; exact List.mem_cons_self))
    cases hn.symm.trans hn9
    exact ⟨meth, c, h1, h2, h3, h4, h5, h6⟩
  · intro p e s m args below meth c s₁ B hml hP _
    have hh0 : s₁.heap = s.heap := by rw [B.state]; rfl
    obtain ⟨t, a1, o, b1, b2, b3⟩ := body p e s m args below meth c s₁ B hml hP s₁ hh0 (Stand.of_body B)
    exact ⟨t, o, a1, b1, b2, ⟨b3.1, b3.2⟩⟩
section LL
variable {p : Program} {l : Launch} {e : Env} {R : Room} {s : State} {m : MethodId} {args : Array Value} {below : List Frame} {meth : Method} {c : Code} {H : Heap} {locs : List Loc} {cells slots mc ms : Nat} {Q : State → Prop} {g : zGeo} {h : Hp} {q : Unit ⊕ Int} {pc : Nat} {ls : Array Slot} {st0 rest : List Value} {a : Array Value}
theorem zx_after (hr : vx_Run p l e R s m args below meth c H locs cells slots mc ms (F0 m pc ls st0) rest (zRC g h q a) (zXC g h q) (zA g)) (Hh : zH g s h H locs)
    (kk : ∀ (v : Int) (H1 : Heap) (locs1 : List Loc), q = .inr v → zH g s h H1 locs1 → W p l e R s m args below meth c H1 locs1 (cells + mc) (slots + ms) Q (F0 m (pc + 3) ls (qI v :: rest)))
    (kx : ∀ (x : Int) (H1 : Heap) (locs1 : List Loc) (q9 : Addr) (ce : Cell), q = .inl () → hX h ≤ x → zH g s (hGr h x) H1 locs1 → H1[q9]? = some ce → ce.vm = .none → s.vm.findClass "java/util/NoSuchElementException" = some ce.cls → vx_W p l e R s m args below meth c H1 locs1 (cells + mc) (slots + ms) Q (F0 m pc ls rest) q9) : W p l e R s m args below meth c H locs cells slots Q (F0 m pc ls st0) := by
  intro T hTe X
  have hgo : ∀ (st₀ t T' : State) (L : List Loc) (h' : Hp), st₀.heap = H → (∀ z ∈ L, zA g z.base) → T'.heap = t.heap → zHp g h' t.heap → va_F (zA g) st₀ t → zH g s h' T'.heap (locs ++ L) := by
    intro st₀ t T' L h' h0 hLf e1 hz hF
    obtain ⟨hs, hk⟩ := hF
    rw [h0] at hs hk
    exact ⟨by rw [e1]; exact hz, Nat.le_trans Hh.2.1 (by rw [e1]; exact hs), fun q h1 h2 => by rw [e1, hk q (Nat.lt_of_lt_of_le h1 Hh.2.1) h2]; exact Hh.2.2.1 q h1 h2, fun q hq => by
      rcases List.mem_append.mp hq with h | h
      · exact Hh.2.2.2 q h
      · exact hLf q h⟩
  rcases hr T hTe X with ⟨v, st₀, t, T', L, h0, X', hL, e1, e2, ⟨v1, hq, hv, hz, hF⟩, st⟩ | ⟨q9, st₀, t, T', L, E, ce, h0, X', hL, e1, e2, ⟨⟨hq, hE⟩, ⟨x, hx, hz⟩, hF⟩, hce, hcv, hcl, st⟩
  · cases hv
    obtain ⟨t2, a1, b1⟩ := kk v1 T'.heap (locs ++ L) hq (hgo st₀ t T' L h h0 hL e1 hz hF) T' rfl X'
    exact ⟨t2, st t2 a1, b1⟩
  · subst hE
    obtain ⟨t2, a1, b1⟩ := kx x T'.heap (locs ++ L) q9 ce hq hx (hgo st₀ t T' L _ h0 hL e1 hz hF) (by rw [e1]; exact hce) hcv hcl T' rfl X'
    exact ⟨t2, st.trans a1, b1⟩
theorem zx_pre {vs : List Value} (hu : zU g s) (hz : zZ g s) (Hh : zH g s h H locs) : ∀ U : State, U.heap = H → s.WarmedH U.vm → va_Pc vs (fun U => (zU g U ∧ zHp g h U.heap) ∧ zZ g U) vs.toArray U := fun U hU hW => ⟨rfl, ⟨hu.go Hh.2 hU hW, by rw [hU]; exact Hh.1⟩, hz.go Hh.2 hU hW⟩
theorem zx_blind {vs : List Value} : FrameBlind (va_Pc vs (fun U => (zU g U ∧ zHp g h U.heap) ∧ zZ g U)) := fun a U f mk q => ⟨q.1, ⟨q.2.1.1.blind f mk a, q.2.1.2⟩, q.2.2.blind f mk a⟩
set_option maxRecDepth 100000 in
set_option maxHeartbeats 4000000 in
theorem ct_L_led (l : Launch) (hst : l.stackTraces = false) (g : zGeo) (h h1 : Hp) (l0 l1 l2 : Int) (q : Unit ⊕ Int) (hm : M_X9_led h l0 l1 = some q) (hk : hT h l0 = 19) (ho : ∀ v, q = .inr v → ast 2 h l2 0 (w32 v) = some h1) : Met l yL_led (Cond.codeWith yL_led cL_led 4 (some .int) [(0, 9, 12, 13)] :: TW) { frames := 7, cells := 1, slots := 6, locals := 104 } (va_Pc [qR g l0, qI l1, qR g l2] (fun U => (zU g U ∧ zHp g h U.heap) ∧ zZ g U)) (zLC g h l2 q) 1 6 (zA g) := by
  refine zm_ofWH (cc := cL_led) (maxL := 4) (ret := some .int) (hh := [(0, 9, 12, 13)]) (by decide) rfl ?_
  intro p e s m args below meth c s₁ B hml hv
  obtain ⟨rfl, ⟨hu, hp⟩, hzz⟩ := hv
  have hts := atoms_spec (ws := Cond.codeWith yL_led cL_led 4 (some .int) [(0, 9, 12, 13)] :: TW) B.pre
  have htab := vx_table (x := yL_led) B (hts _ List.mem_cons_self)
  have hl := lv_entry ([qR g l0, qI l1, qR g l2]) (n := 4) (Nat.le_of_ble_eq_true rfl)
  rw [lg_entry_eq]
  have C : zC p m c cL_led 4 s ([qR g l0, qI l1, qR g l2] : List Value).toArray RL g := ⟨⟨B.exec, B.bytes, hml, findClass_of_methodNamed B.named, fun w hw => hts w (List.mem_cons_of_mem _ hw)⟩, hu⟩
  have hr := B.returns
  have hlocks := B.notSynchronized
  have Hh : zH g s h s.heap [] := ⟨hp, va_S.rf⟩
  generalize (lg_sl ([qR g l0, qI l1, qR g l2]) ++ List.replicate (4 - (lg_sl ([qR g l0, qI l1, qR g l2])).length) Slot.unset).toArray = ls at hl ⊢
  have hl : lv_has ls 4 [(0, qR g l0), (1, qI l1), (2, qR g l2)] := hl
  have hx := C.1.1
  have hb := C.1.2.1
  refine lv_aload_n hx hb dL_led_0 rfl (lv_at hl 2 rfl) ?_
  refine z_iconst C dL_led_1 ?_
  refine lv_aload_n hx hb dL_led_2 rfl (lv_at hl 0 rfl) ?_
  refine lv_iload_n hx hb dL_led_3 rfl (lv_at hl 1 rfl) ?_
  obtain ⟨⟨y1, y2, y3, y4, y5⟩, y6, y7, TT, NN, hcl⟩ := my_X9_led
  obtain ⟨hh0, cell, q1, q2, q3, q4⟩ := z_obj (ci := 9) Hh.1 hk
  obtain ⟨hS, hfc, -⟩ := hu.1.1 9 _ hcl
  have hT : GoodIn TW (wsV RL 7 RX9 yX9_led (Cond.code yX9_led cX9_led 4 (some .int) :: TW)) := by
    intro w hw
    unfold wsV at hw
    rcases List.mem_append.mp hw with hw | hw
    · simp only [List.mem_cons, List.not_mem_nil, or_false] at hw
      rcases hw with rfl | rfl | rfl | rfl
      · exact tw_ok lled_w.1
      · exact tw_ok y6
      · exact tw_ok y7
      · exact tw_ok y2
    · exact tw_good y1 w hw
  refine zx_after (g := g) (h := h) (q := q) (mc := 1) (ms := 6) (rest := [qI 0, qR g l2]) (vx_runV (b := zb g + l0.toNat) (As := [qI l1]) (rest := [qI 0, qR g l2]) C.1 (ct_X9_led l hst g h l0 l1 q hm) (cwV 1 C.1.2.2.2.2 hT rfl rfl rfl ⟨rfl, y3, y4, y5⟩ ⟨Nat.le_of_ble_eq_true rfl, Nat.le_of_ble_eq_true rfl⟩) ⟨zx_blind, ⟨cell, q1, by rw [q3]; rfl, by rw [q2]; exact hfc⟩, zx_pre hu hzz Hh⟩ rfl rfl hl.1 rfl (lv_room (Nat.le_of_ble_eq_true rfl)) dL_led_4 ⟨Nat.le_of_ble_eq_true rfl, Nat.le_of_ble_eq_true rfl⟩) Hh ?_ ?_
  · intro v H1 locs1 hq Hh
    refine z_i2l C dL_led_7 ?_
    have hm2 : (ast 2 h l2 0 (w32 v)).bind (fun h' => some h') = some h1 := by rw [ho v hq]; rfl
    refine z_last C Hh dL_led_8 hm2 (fun h2 H2 locs2 Hh2 he => ?_)
    have he : h2 = h1 := Option.some.inj he
    subst he
    refine lv_goto (tgt := 15) hx hb dL_led_9 (by decide) ?_
    refine z_iconst C dL_led_15 ?_
    exact W.iret (hlocks := hlocks) hx hb hr (fun t ht _ => ⟨by rw [hq]; rfl, ⟨h2, by rw [hq]; exact ho v hq, by rw [ht]; exact Hh2.1⟩, Hh2.2.F ht⟩) Hh2.2.2.2 dL_led_16
  · intro x H1 locs1 q9 ce hq hx9 Hh hce hcv hcl9
    refine vx_catch C.1.2.2.2.1 [] ⟨0, 9, 12, 13⟩ [] (by rw [htab]; rfl) (fun z hz => nomatch hz) (by decide) (by decide) (name := "java/util/NoSuchElementException") (E := "java/util/NoSuchElementException") (C.1.2.2.2.2 _ lled_w.2.1) (va_Nw.use (w := nseC) rfl (hzz.2.2 nseC (by decide))) hce hcv hcl9 ?_
    refine lv_astore_n (x := q9) (lv' := [(3, Value.ref q9), (0, qR g l0), (1, qI l1), (2, qR g l2)]) hx hb dL_led_12 rfl hl (by decide) rfl (fun ls hl => ?_)
    refine z_iconst C dL_led_13 ?_
    exact W.iret (hlocks := hlocks) hx hb hr (fun t ht _ => ⟨by rw [hq]; rfl, ⟨hGr h x, by rw [hq]; exact ⟨x, hx9, rfl⟩, by rw [ht]; exact Hh.1⟩, Hh.2.F ht⟩) Hh.2.2.2 dL_led_14
end LL
