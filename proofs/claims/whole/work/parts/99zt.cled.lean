/-! led in the bytecode: thrown and caught -/
def nseN : String := "java/util/NoSuchElementException"
def nseW : List Cond := vx_at0 RX9 324 "java/util/NoSuchElementException" ["java/lang/RuntimeException", "java/lang/Exception"]
set_option maxRecDepth 100000 in
def nseC : Cond := .castable "java/util/NoSuchElementException" "java/util/NoSuchElementException"
def nseB : List Cond := [nseC, .declares (Bundle.init0 "java/lang/RuntimeException"), .declares (Bundle.init0 "java/lang/Exception"), .declares (Bundle.init0 "java/lang/Throwable")]
set_option maxRecDepth 100000 in
theorem nseW_in : ∀ w ∈ nseW, w ∈ TW ∨ w ∈ nseB := by decide +kernel
theorem nseB_on : ∀ w ∈ nseB, w.onTables = true := by decide +kernel
set_option maxRecDepth 100000 in
theorem nse_w : Cond.classLink RX9 322 "java/util/NoSuchElementException" ∈ TW ∧ Cond.initialized "java/util/NoSuchElementException" ∈ TW ∧ Cond.methodLink RX9 319 yX9_isLed ∈ TW := by decide +kernel
set_option maxRecDepth 100000 in
theorem my_X9_isLed : zMV yX9_isLed cX9_isLed 3 (some .boolean) 1 9 := ⟨⟨by decide +kernel, by decide +kernel, by decide, by decide, by decide⟩, by decide +kernel, by decide +kernel, TX9, 17, rfl⟩
set_option maxRecDepth 100000 in
theorem nse_ot : ∀ w ∈ Cond.classLink RX9 322 "java/util/NoSuchElementException" :: Cond.initialized "java/util/NoSuchElementException" :: vx_at0 RX9 324 "java/util/NoSuchElementException" ["java/lang/RuntimeException", "java/lang/Exception"], vx_ot w = true := by decide +kernel
theorem nse_fit : Bundle.fit "java/util/NoSuchElementException" = true ∧ ∀ n ∈ ["java/lang/RuntimeException", "java/lang/Exception"], Bundle.fit n = true := by decide +kernel
/-- what a throw needs of the heap -/
def zZ (g : zGeo) (U : State) : Prop := vx_Zq Bundle.tN "UNASSIGNED_STACK" Bundle.steD (zA g) U U.heap ∧ vx_Zq Bundle.tN "SUPPRESSED_SENTINEL" Bundle.listD (zA g) U U.heap ∧ ∀ w ∈ nseB, va_Nw w U
def hGr (h : Hp) (x : Int) : Hp := (h.1, h.2.1, h.2.2.1, x)
def zXC (g : zGeo) (h : Hp) (q : Unit ⊕ Int) : String → State → State → Prop := fun E st t => (q = .inl () ∧ E = "java/util/NoSuchElementException") ∧ (∃ x, hX h ≤ x ∧ zHp g (hGr h x) t.heap) ∧ va_F (zA g) st t
def zRC (g : zGeo) (h : Hp) (q : Unit ⊕ Int) : Array Value → State → Outcome → State → Prop := fun _ st oc t => ∃ v, q = .inr v ∧ oc = .returned (some (qI v)) ∧ zHp g h t.heap ∧ va_F (zA g) st t
section CL
variable {p : Program} {l : Launch} {e : Env} {R : Room} {s : State} {m : MethodId} {args : Array Value} {below : List Frame} {meth : Method} {c : Code} {H : Heap} {locs : List Loc} {cells slots : Nat} {g : zGeo} {h : Hp}
theorem zHp.grow {H1 : Heap} (Hz : zHp g h H) (hs : H.size ≤ H1.size) (oq : ∀ q : Nat, q < H.size → H1[q]? = H[q]?) : zHp g (hGr h (hX h + ((H1.size - H.size : Nat) : Int))) H1 := by
  obtain ⟨z1, z2, z3⟩ := Hz
  refine ⟨by show H1.size = zb g + (hX h + ((H1.size - H.size : Nat) : Int)).toNat; omega, by show 0 ≤ hX h + _; omega, fun a ht => ?_⟩
  obtain ⟨p1, p2, p3⟩ := z3 a ht
  have ql : zb g + a.toNat < H.size := by omega
  refine ⟨p1, by show a < hX h + _; omega, ?_⟩
  refine ⟨fun hlt => ⟨(p3.1 hlt).1, ?_⟩, fun hge => ?_⟩
  · rw [oq _ ql, (p3.1 hlt).2]
    rfl
  · exact ((p3.2 hge).kept (oq _ ql))
set_option maxRecDepth 100000 in
set_option maxHeartbeats 4000000 in
theorem ct_X9_led (l : Launch) (hst : l.stackTraces = false) (g : zGeo) (h : Hp) (l0 l1 : Int) (q : Unit ⊕ Int) (hm : M_X9_led h l0 l1 = some q) : vx_Met l yX9_led (Cond.code yX9_led cX9_led 4 (some .int) :: TW) { frames := 6, cells := 1, slots := 6, locals := 81 } (va_Pc [qR g l0, qI l1] (fun U => (zU g U ∧ zHp g h U.heap) ∧ zZ g U)) (zRC g h q) (zXC g h q) 1 6 (zA g) := by
  refine vx_ofW (cc := cX9_led) (maxL := 4) (ret := some .int) (by decide) rfl ?_
  intro p e s m args below meth c s₁ B hml htb hv
  obtain ⟨rfl, ⟨hu, hp⟩, hzz⟩ := hv
  have hts := atoms_spec (ws := Cond.code yX9_led cX9_led 4 (some .int) :: TW) B.pre
  have hl := lv_entry ([qR g l0, qI l1]) (n := 4) (Nat.le_of_ble_eq_true rfl)
  rw [lg_entry_eq]
  have C : zC p m c cX9_led 4 s ([qR g l0, qI l1] : List Value).toArray RX9 g := ⟨⟨B.exec, B.bytes, hml, findClass_of_methodNamed B.named, fun w hw => hts w (List.mem_cons_of_mem _ hw)⟩, hu⟩
  have hr := B.returns
  have hlocks := B.notSynchronized
  have Hh : zH g s h s.heap [] := ⟨hp, va_S.rf⟩
  generalize (lg_sl ([qR g l0, qI l1]) ++ List.replicate (4 - (lg_sl ([qR g l0, qI l1])).length) Slot.unset).toArray = ls at hl ⊢
  have hl : lv_has ls 4 [(0, qR g l0), (1, qI l1)] := hl
  have hx := C.1.1
  have hb := C.1.2.1
  unfold M_X9_led at hm
  replace hm := (tk_inv hm).2
  have K39 : ∀ (H : Heap) (locs : List Loc) (ls : Array Slot), zH g s h H locs → lv_has ls 4 [] → q = .inl () → W p l e { frames := 6, cells := 1, slots := 6, locals := 81 } s m ([qR g l0, qI l1] : List Value).toArray below meth c H locs 0 0 (vx_MQ below (zRC g h q) (zXC g h q) ([qR g l0, qI l1] : List Value).toArray s 1 6 (zA g)) (F0 m 39 ls []) := by
    intro H locs ls Hh hl hq
    refine vx_throw0 (cc := cX9_led) hx hb hst (own := RX9) (cls := "java/util/NoSuchElementException") (names := ["java/lang/RuntimeException", "java/lang/Exception"]) (ik := 322) (ic := 324) (A := zA g) C.1.2.2.2.1 nse_fit.1 nse_fit.2 (C.1.2.2.2.2 _ nse_w.1) (C.1.2.2.2.2 _ nse_w.2.1) (fun w hw => by rcases nseW_in w hw with y | y; exact C.1.2.2.2.2 _ y; exact va_Nw.use (nseB_on w y) (hzz.2.2 w y)) nse_ot hzz.1 hzz.2.1 Hh.2 (by rw [hml]; exact hl.1) dX9_led_39 dX9_led_42 dX9_led_43 dX9_led_46 (fun x hx => (htb x hx).elim) (Nat.le_of_ble_eq_true rfl) (Nat.le_of_ble_eq_true rfl) (Nat.le_of_ble_eq_true rfl) (Nat.le_of_ble_eq_true rfl) hlocks ?_ Hh.2.2.2 (Nat.le_of_ble_eq_true rfl) (Nat.le_of_ble_eq_true rfl)
    intro t _ h1 h2
    refine ⟨⟨hq, rfl⟩, ⟨_, ?_, Hh.1.grow h1 h2⟩, Nat.le_trans Hh.2.1 h1, fun z z1 z2 => ?_⟩
    · omega
    · rw [h2 z (Nat.lt_of_lt_of_le z1 Hh.2.1)]; exact Hh.2.2.1 z z1 z2
  have KL : ∀ (n : Nat) (l2 l3 : Int) (H : Heap) (locs : List Loc) (ls : Array Slot), zH g s h H locs → lv_has ls 4 [(0, qR g l0), (1, qI l1), (2, qI l2), (3, qI l3)] → wh (S := (Int × Int)) (T := (Unit ⊕ Int)) (fun a => M_X9_led_b4 h l0 l1 a.1 a.2) n (l2, l3) = some q → W p l e { frames := 6, cells := 1, slots := 6, locals := 81 } s m ([qR g l0, qI l1] : List Value).toArray below meth c H locs 0 0 (vx_MQ below (zRC g h q) (zXC g h q) ([qR g l0, qI l1] : List Value).toArray s 1 6 (zA g)) (F0 m 4 ls []) := by
    intro n
    induction n with
    | zero => intro l2 l3 H locs ls Hh hl hm; cases hm
    | succ n ih =>
      intro l2 l3 H locs ls Hh hl hm
      unfold wh at hm
      cases hbz : M_X9_led_b4 h l0 l1 l2 l3 with
      | none => rw [hbz] at hm; cases hm
      | some z =>
        rw [hbz] at hm
        have hc := hm
        rw [Option.bind_some] at hc
        replace hm := hbz
        unfold M_X9_led_b4 at hm
        refine lv_iload_n hx hb dX9_led_4 rfl (lv_at hl 3 rfl) ?_
        refine lv_aload_n hx hb dX9_led_5 rfl (lv_at hl 0 rfl) ?_
        refine z_getR C fl_9_30 Hh dX9_led_6 rfl hm (fun x1 hm => ?_)
        refine z_getI C fl_9_130 Hh dX9_led_9 rfl hm (fun x2 hm => ?_)
        refine z_icmp_ge (tgt := 39) C dX9_led_12 (by decide) rfl rfl hm (fun _ hm => ?_) (fun _ hm => ?_)
        · cases hm
          exact K39 _ _ _ Hh (lv_sub hl [] rfl) (Option.some.inj hc).symm
        · refine lv_aload_n hx hb dX9_led_15 rfl (lv_at hl 0 rfl) ?_
          refine lv_iload_n hx hb dX9_led_16 rfl (lv_at hl 3 rfl) ?_
          refine z_cVIr (vs := [qI l3]) C (fun q hq => ct_X9_isLed l g h l0 l3 q hq) nse_w.2.2 my_X9_isLed (fun q hq => tg_X9_isLed hq) rfl hl.1 Hh ⟨Nat.le_of_ble_eq_true rfl, Nat.le_of_ble_eq_true rfl, Nat.le_of_ble_eq_true rfl, Nat.le_of_ble_eq_true rfl⟩ (Nat.le_of_ble_eq_true rfl) dX9_led_17 rfl hm (fun x3 H locs Hh hm => ?_)
          refine z_if_eq (tgt := 33) C dX9_led_20 (by decide) rfl hm (fun _ hm => ?_) (fun _ hm => ?_)
          · refine z_iinc (x := l3) (k := 3) (lv' := [(3, qI (l3 + 1)), (0, qR g l0), (1, qI l1), (2, qI l2)]) C dX9_led_33 hl rfl (by decide) rfl (fun ls hl => ?_)
            refine lv_goto (tgt := 4) hx hb dX9_led_36 (by decide) ?_
            cases hm
            exact ih l2 (l3 + 1) _ _ _ Hh (lv_sub hl [1, 2, 3, 0] rfl) hc
          · refine lv_iload_n hx hb dX9_led_23 rfl (lv_at hl 2 rfl) ?_
            refine lv_iload_n hx hb dX9_led_24 rfl (lv_at hl 1 rfl) ?_
            refine z_icmp_ne (tgt := 30) C dX9_led_25 (by decide) rfl rfl hm (fun _ hm => ?_) (fun _ hm => ?_)
            · refine z_iinc (x := l2) (k := 2) (lv' := [(2, qI (l2 + 1)), (0, qR g l0), (1, qI l1), (3, qI l3)]) C dX9_led_30 hl rfl (by decide) rfl (fun ls hl => ?_)
              refine z_iinc (x := l3) (k := 3) (lv' := [(3, qI (l3 + 1)), (2, qI (l2 + 1)), (0, qR g l0), (1, qI l1)]) C dX9_led_33 hl rfl (by decide) rfl (fun ls hl => ?_)
              refine lv_goto (tgt := 4) hx hb dX9_led_36 (by decide) ?_
              cases hm
              exact ih (l2 + 1) (l3 + 1) _ _ _ Hh (lv_sub hl [2, 3, 1, 0] rfl) hc
            · refine lv_iload_n hx hb dX9_led_28 rfl (lv_at hl 3 rfl) ?_
              cases hm
              have hq := (Option.some.inj hc).symm
              refine W.widen (k := 1) (n := 6) (by omega) (by omega) ?_
              refine vx_ret ?_
              exact W.iret (hlocks := hlocks) hx hb hr (fun t ht _ => ⟨l3, hq, rfl, by rw [ht]; exact Hh.1, Hh.2.F ht⟩) Hh.2.2.2 dX9_led_29
  refine z_iconst C dX9_led_0 ?_
  refine lv_istore_n (lv' := [(2, qI 0), (0, qR g l0), (1, qI l1)]) hx hb dX9_led_1 rfl hl (by decide) rfl (fun ls hl => ?_)
  refine z_iconst C dX9_led_2 ?_
  refine lv_istore_n (lv' := [(3, qI 0), (2, qI 0), (0, qR g l0), (1, qI l1)]) hx hb dX9_led_3 rfl hl (by decide) rfl (fun ls hl => ?_)
  exact KL FU 0 0 _ _ _ Hh (lv_sub hl [2, 3, 1, 0] rfl) hm
theorem nseB_warm {s U : State} (hW : s.WarmedH U.vm) : ∀ w ∈ nseB, va_Nw w s → va_Nw w U := by
  intro w hw hZ
  simp only [nseB, List.mem_cons, List.not_mem_nil, or_false] at hw
  rcases hw with rfl | rfl | rfl | rfl
  · exact va_Nw.warmC hW hZ
  · exact va_Nw.warmD hW hZ
  · exact va_Nw.warmD hW hZ
  · exact va_Nw.warmD hW hZ
theorem zZ.go {U : State} (hz : zZ g s) (hS : va_S (zA g) s.heap H locs) (hU : U.heap = H) (hW : s.WarmedH U.vm) : zZ g U := by
  refine ⟨?_, ?_, fun w hw => nseB_warm hW w hw (hz.2.2 w hw)⟩
  · rw [hU]; exact (hz.1.moved hW.alike).kept hS.2.1
  · rw [hU]; exact (hz.2.1.moved hW.alike).kept hS.2.1
theorem zZ.blind {U : State} (f : JFrame) (mk : MethodId) (a : Array Value) (hz : zZ g U) : zZ g (U.calling f mk a) := ⟨hz.1.moved (Vm.Alike.refl U.vm), hz.2.1.moved (Vm.Alike.refl U.vm), fun w hw => va_Nw.same (nseB_on w hw) (rfl : U.vm = (U.calling f mk a).vm) (hz.2.2 w hw)⟩
end CL
