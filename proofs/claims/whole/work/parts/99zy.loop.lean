/-! the law: led, the switch, the loop, the start -/
section LO
variable {p : Program} {l : Launch} {e : Env} {s : State} {m : MethodId} {below : List Frame} {meth : Method} {c : Code} {H : Heap} {locs : List Loc} {cells slots mc ms : Nat} {Q : State → Prop} {ls : Array Slot} {g : zGeo} {h : Hp} {M : Int → Int → Int} {G : GG} {b L : Nat} {xs : Nat → Int32} {i : Int} {q : Unit ⊕ Int} {pc : Nat} {st0 rest : List Value} {a : Array Value} {args : Array Value} {R : Room} {l2 : Int}
theorem zl_after (hr : va_Run p l e R s m args below meth c H locs cells slots mc ms (F0 m pc ls st0) rest (zLC g h l2 q a) (zA g)) (Hh : zH g s h H locs)
    (kk : ∀ (h' : Hp) (H1 : Heap) (locs1 : List Loc), lqH h l2 q h' → zH g s h' H1 locs1 → W p l e R s m args below meth c H1 locs1 (cells + mc) (slots + ms) Q (F0 m (pc + 3) ls (qI (rdT q) :: rest))) : W p l e R s m args below meth c H locs cells slots Q (F0 m pc ls st0) := by
  intro T hTe X
  obtain ⟨v, st₀, t, T', L, h0, X', hLf, e1, e2, ⟨hv, ⟨h', hq', hz⟩, hs, hk⟩, st⟩ := hr T hTe X
  cases hv
  rw [h0] at hs hk
  obtain ⟨t2, a1, b1⟩ := kk h' T'.heap (locs ++ L) hq' ⟨by rw [e1]; exact hz, Nat.le_trans Hh.2.1 (by rw [e1]; exact hs), fun q h1 h2 => by rw [e1, hk q (Nat.lt_of_lt_of_le h1 Hh.2.1) h2]; exact Hh.2.2.1 q h1 h2, fun q hq => by
      rcases List.mem_append.mp hq with h | h
      · exact Hh.2.2.2 q h
      · exact hLf q h⟩ T' rfl X'
  exact ⟨t2, st t2 a1, b1⟩
theorem lled_good : GoodIn TW (va_wsS RL 175 yL_led (Cond.codeWith yL_led cL_led 4 (some .int) [(0, 9, 12, 13)] :: TW)) := by
  intro w hw
  unfold va_wsS at hw
  rcases List.mem_append.mp hw with hw | hw
  · simp only [List.mem_cons, List.not_mem_nil, or_false] at hw
    rcases hw with rfl | rfl | rfl
    · exact tw_ok lled_w.2.2.2.2.1
    · exact tw_ok lled_w.2.2.2.2.2
    · exact tw_ok lled_w.2.2.2.1
  · rcases List.mem_cons.mp hw with y | y
    · rw [y]; exact tw_ok lled_w.2.2.1
    · exact tw_ok y
set_option maxRecDepth 100000 in
set_option maxHeartbeats 4000000 in
theorem lw_36 (hst : l.stackTraces = false) (S : lwS p m c s b g L xs i) (hI : Inv M G) (Hh : zH g s (M, G) H locs) (hl : lv_has ls 7 (lwL g b i)) (hc : cells + 12 ≤ 601024) (hs : slots + 400 ≤ 7293034) (kk : lwK p l e s m below meth c cells slots Q g b i) : W p l e room_1 s m #[Value.ref b] below meth c H locs cells slots Q (F0 m 1595 ls []) := by
  obtain ⟨q, eq, hqb, hq⟩ := q_led hI (sc_i32 xs (i + 1))
  have hG : gAll G := by obtain ⟨-, td, r, h0⟩ := hI; exact h0.1.1
  have C := S.1
  have hx := C.1.1
  have hb := C.1.2.1
  have k0 := gk_0 hG
  have k145 := gk_145 hG
  have l145 := gl_145 hG
  have ho : ast 2 (M, G) 145 0 (w32 (rdV q)) = some (sr M 145 (u1 (M 145) 0 (w32 (rdV q))), G) := by
    have := b_ast (t := 2) (M := M) (G := G) (a := 145) (i := 0) (v := w32 (rdV q)) (fh := fun h => some h) k145 (by omega) (by rw [l145]; omega) (by omega)
    cases hc9 : ast 2 (M, G) 145 0 (w32 (rdV q)) with
    | none => rw [hc9] at this; cases this
    | some z => rw [hc9] at this; exact this
  refine lv_aload_n hx hb dL_law_1595 rfl (lv_at hl 1 rfl) ?_
  refine zl_arg (k := 1) S hl Hh dL_law_1596 dL_law_1597 dL_law_1599 dL_law_1600 dL_law_1601 (by omega) (by omega) ?_
  refine lv_aload_n hx hb dL_law_1602 rfl (lv_at hl 3 rfl) ?_
  refine zl_after (g := g) (h := (M, G)) (q := q) (l2 := 145) (mc := 1) (ms := 6) (rest := []) (vx_runSW (hh := [(0, 9, 12, 13)]) (bytes := cL_led) (maxL := 4) (ret := some .int) (As := [qR g 0, qI (sc xs (i + 1)), qR g 145]) (rest := []) C.1 (ct_L_led l hst g (M, G) (sr M 145 (u1 (M 145) 0 (w32 (rdV q))), G) 0 (sc xs (i + 1)) 145 q eq k0 (fun v hv => by rw [hv] at ho ⊢; exact ho)) (vx_cwSW 3 C.1.2.2.2.2 lled_good rfl rfl rfl ⟨by decide, by decide, by decide⟩ ⟨Nat.le_of_ble_eq_true rfl, Nat.le_of_ble_eq_true rfl⟩) ⟨zx_blind, zx_pre C.2 S.2.1 Hh⟩ rfl rfl hl.1 rfl (lv_room (Nat.le_of_ble_eq_true rfl)) dL_law_1603 ⟨(by show _ ≤ 601024; omega), (by show _ ≤ 7293034; omega)⟩) Hh ?_
  intro h' H1 locs1 hq' Hh1
  have hM : ∃ M1 G1, h' = (M1, G1) ∧ cLd M G M1 G1 ∧ ∀ v, q = .inr v → M1 145 0 = w32 v := by
    cases q with
    | inl u =>
      obtain ⟨x, hx9, rfl⟩ := hq'
      exact ⟨M, (G.1, G.2.1, x), rfl, ⟨fun _ _ => rfl, rfl, rfl, hx9⟩, fun v hv => by cases hv⟩
    | inr v =>
      have e9 : ast 2 (M, G) 145 0 (w32 v) = some h' := hq'
      have ho9 : ast 2 (M, G) 145 0 (w32 v) = some (sr M 145 (u1 (M 145) 0 (w32 v)), G) := ho
      rw [ho9] at e9
      cases e9
      exact ⟨_, _, rfl, ⟨fun a ha => sr_a _ _ ha, rfl, rfl, Int.le_refl _⟩, fun v9 hv => by cases hv; rw [sr_s, u1_s]⟩
  obtain ⟨M1, G1, rfl, hld, hv145⟩ := hM
  obtain ⟨M2, e1, e2, e3, hI2⟩ := hq M1 G1 hld
  have hG1 : gAll G1 := by obtain ⟨-, td, r, h0⟩ := hI2; exact h0.1.1
  have k145' := gk_145 hG1
  have l145' := gl_145 hG1
  refine lv_istore (lv' := [(5, qI (rdT q)), (0, Value.ref b), (1, qR g 0), (2, qR g 124), (3, qR g 145), (4, qI i)]) hx hb dL_law_1606 hl (by decide) rfl (fun ls hl => ?_)
  have hl5 : lv_has ls 7 (lwL g b i) := lv_sub hl [1, 2, 3, 4, 5] rfl
  refine lv_aload_n hx hb dL_law_1608 rfl (lv_at hl 3 rfl) ?_
  refine zl_arg (k := 1) S hl5 Hh1 dL_law_1609 dL_law_1610 dL_law_1612 dL_law_1613 dL_law_1614 (by omega) (by omega) ?_
  refine z_callV (vs := [qI (sc xs (i + 1))]) C (ct_X11_led l g (M1, G1) 124 (sc xs (i + 1)) ((M2, G1), rdV q) e1) lw_ml.1 lm_X11_led (tg_X11_led e1) rfl hl.1 Hh1 ⟨Nat.le_of_ble_eq_true rfl, Nat.le_of_ble_eq_true rfl, (by show _ ≤ 601024; omega), (by show _ ≤ 7293034; omega)⟩ (Nat.le_of_ble_eq_true rfl) dL_law_1615 rfl (fun H2 locs2 Hh2 => ?_)
  refine lv_istore (lv' := [(6, qI (rdV q)), (5, qI (rdT q)), (0, Value.ref b), (1, qR g 0), (2, qR g 124), (3, qR g 145), (4, qI i)]) hx hb dL_law_1618 hl (by decide) rfl (fun ls hl => ?_)
  have hl5 : lv_has ls 7 (lwL g b i) := lv_sub hl [2, 3, 4, 5, 6] rfl
  refine lv_aload_n hx hb dL_law_1620 rfl (lv_at hl 4 rfl) ?_
  refine z_callV (vs := []) C (ct_X11_thrown l g (M2, G1) 124 (rdT q) e2) lw_ml.2.1 lm_X11_thrown (tg_X11_thrown e2) rfl hl.1 Hh2 ⟨Nat.le_of_ble_eq_true rfl, Nat.le_of_ble_eq_true rfl, (by show _ ≤ 601024; omega), (by show _ ≤ 7293034; omega)⟩ (Nat.le_of_ble_eq_true rfl) dL_law_1621 rfl (fun H3 locs3 Hh3 => ?_)
  refine lv_iload hx hb dL_law_1624 (lv_at hl 1 rfl) ?_
  refine lv_icmp_eq (tgt := 1631) hx hb dL_law_1626 (by decide) (fun _ => ?_) (fun c9 => absurd rfl c9)
  refine lv_iload hx hb dL_law_1631 (lv_at hl 1 rfl) ?_
  have hend : ∀ (n1 n2 : Nat), n1 ≤ cells + 12 → n2 ≤ slots + 400 → W p l e room_1 s m #[Value.ref b] below meth c H3 locs3 n1 n2 Q (F0 m 1648 ls []) := by
    intro n1 n2 hn1 hn2
    refine lv_goto (tgt := 1689) hx hb dL_law_1648 (by decide) ?_
    refine W.widen (k := cells + 12) (n := slots + 400) hn1 hn2 ?_
    exact kk M2 G1 _ _ _ hI2 Hh3 hl5
  refine lv_if_ne (tgt := 1648) hx hb dL_law_1633 (by decide) (fun _ => hend _ _ (by omega) (by omega)) (fun c9 => ?_)
  cases q with
  | inl u => exact absurd (show Int32.ofInt 1 = 0 from c9) (by decide)
  | inr v =>
    have hv : M2 145 0 = w32 v := by rw [e3]; exact hv145 v rfl
    refine lv_aload_n hx hb dL_law_1636 rfl (lv_at hl 5 rfl) ?_
    refine z_iconst C dL_law_1637 ?_
    have hm : (ald 2 (M2, G1) 145 0).bind (fun x => some x) = some (w32 v) := by
      rw [b_ald k145' (by omega) (by rw [l145']; omega) (by omega), hv]
    refine z_lald C Hh3 dL_law_1638 hm (fun x9 hx9 => ?_)
    have hx9 : x9 = w32 v := Option.some.inj hx9
    subst hx9
    refine lv_iload hx hb dL_law_1639 (lv_at hl 0 rfl) ?_
    refine z_i2l C dL_law_1641 ?_
    refine z_lcmp C dL_law_1642 ?_
    refine lv_if_eq (tgt := 1648) hx hb dL_law_1643 (by decide) (fun _ => hend _ _ (by omega) (by omega)) (fun c8 => absurd (lcmp_self (w32 v)) c8)
set_option maxRecDepth 100000 in
set_option maxHeartbeats 4000000 in
/-- one turn of the law's loop, behind its test -/
theorem lw_turn (hst : l.stackTraces = false) (S : lwS p m c s b g L xs i) (hI : Inv M G) (Hh : zH g s (M, G) H locs) (hl : lv_has ls 7 (lwL g b i)) (hc : cells + 12 ≤ 601024) (hs : slots + 400 ≤ 7293034) (kk : lwK p l e s m below meth c cells slots Q g b i) : W p l e room_1 s m #[Value.ref b] below meth c H locs cells slots Q (F0 m 33 ls []) := by
  obtain ⟨C, -, hX, hbl, hbA, hL, i0, iL⟩ := id S
  have hx := C.1.1
  have hb := C.1.2.1
  refine lv_aload_n hx hb dL_law_33 rfl (lv_at hl 0 rfl) ?_
  refine lv_iload hx hb dL_law_34 (lv_at hl 4 rfl) ?_
  refine z_sld C hX hbl hbA hL Hh dL_law_36 (by omega) (by omega) ?_
  refine z_bipush C dL_law_37 rfl ?_
  refine z_iand C dL_law_39 ?_
  generalize iand (sc xs i) 63 = v
  by_cases hv : 0 ≤ w32 v ∧ w32 v ≤ 38
  · have hd : w32 v = 0 ∨ w32 v = 1 ∨ w32 v = 2 ∨ w32 v = 3 ∨ w32 v = 4 ∨ w32 v = 5 ∨ w32 v = 6 ∨ w32 v = 7 ∨ w32 v = 8 ∨ w32 v = 9 ∨ w32 v = 10 ∨ w32 v = 11 ∨ w32 v = 12 ∨ w32 v = 13 ∨ w32 v = 14 ∨ w32 v = 15 ∨ w32 v = 16 ∨ w32 v = 17 ∨ w32 v = 18 ∨ w32 v = 19 ∨ w32 v = 20 ∨ w32 v = 21 ∨ w32 v = 22 ∨ w32 v = 23 ∨ w32 v = 24 ∨ w32 v = 25 ∨ w32 v = 26 ∨ w32 v = 27 ∨ w32 v = 28 ∨ w32 v = 29 ∨ w32 v = 30 ∨ w32 v = 31 ∨ w32 v = 32 ∨ w32 v = 33 ∨ w32 v = 34 ∨ w32 v = 35 ∨ w32 v = 36 ∨ w32 v = 37 ∨ w32 v = 38 := by omega
    rcases hd with y | y | y | y | y | y | y | y | y | y | y | y | y | y | y | y | y | y | y | y | y | y | y | y | y | y | y | y | y | y | y | y | y | y | y | y | y | y | y
    · exact z_tin (tgt := 212) C dL_law_40 y (by decide) (by decide) rfl (by decide) (lw_0 S hI Hh hl hc hs kk)
    · exact z_tin (tgt := 285) C dL_law_40 y (by decide) (by decide) rfl (by decide) (lw_1 S hI Hh hl hc hs kk)
    · exact z_tin (tgt := 310) C dL_law_40 y (by decide) (by decide) rfl (by decide) (lw_2 S hI Hh hl hc hs kk)
    · exact z_tin (tgt := 323) C dL_law_40 y (by decide) (by decide) rfl (by decide) (lw_3 S hI Hh hl hc hs kk)
    · exact z_tin (tgt := 336) C dL_law_40 y (by decide) (by decide) rfl (by decide) (lw_4 S hI Hh hl hc hs kk)
    · exact z_tin (tgt := 361) C dL_law_40 y (by decide) (by decide) rfl (by decide) (lw_5 S hI Hh hl hc hs kk)
    · exact z_tin (tgt := 398) C dL_law_40 y (by decide) (by decide) rfl (by decide) (lw_6 S hI Hh hl hc hs kk)
    · exact z_tin (tgt := 435) C dL_law_40 y (by decide) (by decide) rfl (by decide) (lw_7 S hI Hh hl hc hs kk)
    · exact z_tin (tgt := 472) C dL_law_40 y (by decide) (by decide) rfl (by decide) (lw_8 S hI Hh hl hc hs kk)
    · exact z_tin (tgt := 521) C dL_law_40 y (by decide) (by decide) rfl (by decide) (lw_9 S hI Hh hl hc hs kk)
    · exact z_tin (tgt := 570) C dL_law_40 y (by decide) (by decide) rfl (by decide) (lw_10 S hI Hh hl hc hs kk)
    · exact z_tin (tgt := 619) C dL_law_40 y (by decide) (by decide) rfl (by decide) (lw_11 S hI Hh hl hc hs kk)
    · exact z_tin (tgt := 656) C dL_law_40 y (by decide) (by decide) rfl (by decide) (lw_12 S hI Hh hl hc hs kk)
    · exact z_tin (tgt := 705) C dL_law_40 y (by decide) (by decide) rfl (by decide) (lw_13 S hI Hh hl hc hs kk)
    · exact z_tin (tgt := 754) C dL_law_40 y (by decide) (by decide) rfl (by decide) (lw_14 S hI Hh hl hc hs kk)
    · exact z_tin (tgt := 803) C dL_law_40 y (by decide) (by decide) rfl (by decide) (lw_15 S hI Hh hl hc hs kk)
    · exact z_tin (tgt := 869) C dL_law_40 y (by decide) (by decide) rfl (by decide) (lw_16 S hI Hh hl hc hs kk)
    · exact z_tin (tgt := 910) C dL_law_40 y (by decide) (by decide) rfl (by decide) (lw_17 S hI Hh hl hc hs kk)
    · exact z_tin (tgt := 959) C dL_law_40 y (by decide) (by decide) rfl (by decide) (lw_18 S hI Hh hl hc hs kk)
    · exact z_tin (tgt := 1008) C dL_law_40 y (by decide) (by decide) rfl (by decide) (lw_19 S hI Hh hl hc hs kk)
    · exact z_tin (tgt := 1033) C dL_law_40 y (by decide) (by decide) rfl (by decide) (lw_20 S hI Hh hl hc hs kk)
    · exact z_tin (tgt := 1058) C dL_law_40 y (by decide) (by decide) rfl (by decide) (lw_21 S hI Hh hl hc hs kk)
    · exact z_tin (tgt := 1145) C dL_law_40 y (by decide) (by decide) rfl (by decide) (lw_22 S hI Hh hl hc hs kk)
    · exact z_tin (tgt := 1246) C dL_law_40 y (by decide) (by decide) rfl (by decide) (lw_23 S hI Hh hl hc hs kk)
    · exact z_tin (tgt := 1295) C dL_law_40 y (by decide) (by decide) rfl (by decide) (lw_24 S hI Hh hl hc hs kk)
    · exact z_tin (tgt := 1308) C dL_law_40 y (by decide) (by decide) rfl (by decide) (lw_25 S hI Hh hl hc hs kk)
    · exact z_tin (tgt := 1321) C dL_law_40 y (by decide) (by decide) rfl (by decide) (lw_26 S hI Hh hl hc hs kk)
    · exact z_tin (tgt := 1358) C dL_law_40 y (by decide) (by decide) rfl (by decide) (lw_27 S hI Hh hl hc hs kk)
    · exact z_tin (tgt := 1383) C dL_law_40 y (by decide) (by decide) rfl (by decide) (lw_28 S hI Hh hl hc hs kk)
    · exact z_tin (tgt := 1408) C dL_law_40 y (by decide) (by decide) rfl (by decide) (lw_29 S hI Hh hl hc hs kk)
    · exact z_tin (tgt := 1457) C dL_law_40 y (by decide) (by decide) rfl (by decide) (lw_30 S hI Hh hl hc hs kk)
    · exact z_tin (tgt := 1482) C dL_law_40 y (by decide) (by decide) rfl (by decide) (lw_31 S hI Hh hl hc hs kk)
    · exact z_tin (tgt := 1519) C dL_law_40 y (by decide) (by decide) rfl (by decide) (lw_32 S hI Hh hl hc hs kk)
    · exact z_tin (tgt := 1544) C dL_law_40 y (by decide) (by decide) rfl (by decide) (lw_33 S hI Hh hl hc hs kk)
    · exact z_tin (tgt := 1557) C dL_law_40 y (by decide) (by decide) rfl (by decide) (lw_34 S hI Hh hl hc hs kk)
    · exact z_tin (tgt := 1570) C dL_law_40 y (by decide) (by decide) rfl (by decide) (lw_35 S hI Hh hl hc hs kk)
    · exact z_tin (tgt := 1595) C dL_law_40 y (by decide) (by decide) rfl (by decide) (lw_36 hst S hI Hh hl hc hs kk)
    · exact z_tin (tgt := 1651) C dL_law_40 y (by decide) (by decide) rfl (by decide) (lw_37 S hI Hh hl hc hs kk)
    · exact z_tin (tgt := 1676) C dL_law_40 y (by decide) (by decide) rfl (by decide) (lw_38 S hI Hh hl hc hs kk)
  · refine z_tout (tgt := 1689) C dL_law_40 (by omega) (by decide) ?_
    refine W.widen (k := cells + 12) (n := slots + 400) (by omega) (by omega) ?_
    exact kk M G _ _ _ hI Hh hl
set_option maxRecDepth 100000 in
set_option maxHeartbeats 4000000 in
/-- the law's loop -/
theorem lw_loop (hst : l.stackTraces = false) (C : zC p m c cL_law 7 s #[Value.ref b] RL g) (hr : meth.sig.returnType = ret) (hlocks : meth.locks = false) (hzz : zZ g s) (hX : va_X b L xs s s.heap) (hbl : b < s.heap.size) (hg : zb g = s.heap.size) (hL : L ≤ 4096) : ∀ (n k : Nat) (M : Int → Int → Int) (G : GG) (H : Heap) (locs : List Loc) (ls : Array Slot), k + n = 514 → 8 * k ≤ L + 8 → Inv M G → zH g s (M, G) H locs → lv_has ls 7 (lwL g b (8 * (k : Int))) → W p l e room_1 s m #[Value.ref b] below meth c H locs (146 + 12 * k) (107300 + 400 * k) (lw_Z below #[Value.ref b] s) (F0 m 23 ls []) := by
  have hbA : ¬ zA g b := by show ¬ zb g ≤ b; omega
  have hx := C.1.1
  have hb := C.1.2.1
  intro n
  induction n with
  | zero => intro k M G H locs ls hk hkL; omega
  | succ n ih =>
    intro k M G H locs ls hk hkL hI Hh hl
    refine lv_iload hx hb dL_law_23 (lv_at hl 4 rfl) ?_
    refine lv_aload_n hx hb dL_law_25 rfl (lv_at hl 0 rfl) ?_
    refine va_slen hx hb hX hbl hbA Hh.2 dL_law_26 ?_
    have eL : Value.int (Int32.ofNat L) = qI (L : Int) := by
      show Value.int (Int32.ofNat L) = Value.int (Int32.ofInt (L : Int))
      rw [Int32.ofInt_eq_ofNat]
    rw [eL]
    refine z_bipush C dL_law_27 rfl ?_
    refine z_isub C dL_law_29 ?_
    have hw1 : w32 (8 * (k : Int)) = 8 * (k : Int) := w32_of (by omega) (by omega)
    have hw2 : w32 ((L : Int) - 8) = (L : Int) - 8 := w32_of (by omega) (by omega)
    by_cases y : 8 * (k : Int) ≤ (L : Int) - 8
    · refine lv_icmp_gt (tgt := 1695) hx hb dL_law_30 (by decide) (fun c9 => ?_) (fun _ => ?_)
      · have := (w32_lt ((L : Int) - 8) (8 * (k : Int))).mp c9
        omega
      · refine lw_turn hst (i := 8 * (k : Int)) (xs := xs) (L := L) ⟨C, hzz, hX, hbl, hbA, hL, by omega, by omega⟩ hI Hh hl (by omega) (by omega) ?_
        intro M1 G1 H1 locs1 ls1 hI1 Hh1 hl1
        refine z_iinc (x := 8 * (k : Int)) (k := 4) (lv' := [(4, qI (8 * (k : Int) + 8)), (0, Value.ref b), (1, qR g 0), (2, qR g 124), (3, qR g 145)]) C dL_law_1689 hl1 rfl (by decide) rfl (fun ls hl => ?_)
        refine lv_goto (tgt := 23) hx hb dL_law_1692 (by decide) ?_
        have hh := ih (k + 1) M1 G1 H1 locs1 ls (by omega) (by omega) hI1 Hh1 (by
          have e8 : 8 * ((k + 1 : Nat) : Int) = 8 * (k : Int) + 8 := by omega
          unfold lwL
          rw [e8]
          exact lv_sub hl [1, 2, 3, 4, 0] rfl)
        exact hh
    · refine lv_icmp_gt (tgt := 1695) hx hb dL_law_30 (by decide) (fun _ => ?_) (fun c9 => ?_)
      · refine lv_iconst (v := 1) hx hb dL_law_1695 (by decide) ?_
        refine va_forget (fun q hq => by have := Hh.2.2.2 q hq; show s.heap.size ≤ q.base; rw [← hg]; exact this) ?_
        refine W.widen (k := 601024) (n := 7293034) (by omega) (by omega) ?_
        exact lw_ret hx hb hr hlocks dL_law_1696
      · exfalso
        exact c9 ((w32_lt ((L : Int) - 8) (8 * (k : Int))).mpr (by omega))
set_option maxRecDepth 100000 in
set_option maxHeartbeats 4000000 in
/-- the law, from its entry -/
theorem whole_start (l : Launch) (hst : l.stackTraces = false) (hL : L ≤ 4096) (C0 : lw_At p s m meth c b L xs) : W p l e room_1 s m #[Value.ref b] below meth c s.heap [] 0 0 (lw_Z below #[Value.ref b] s) (entryFrame m ([Value.ref b] : List Value).toArray 7) := by
  obtain ⟨g, hg, hu, hzz⟩ := zu_start C0
  obtain ⟨hx, hb, hr, hml, hown, hts, hXs, hbl, hlocks, hgv⟩ := C0
  have C : zC p m c cL_law 7 s #[Value.ref b] RL g := ⟨⟨hx, hb, hml, hown, fun w hw => hts w (List.mem_filter.mp hw).1⟩, hu⟩
  have Hh : zH g s h00 s.heap [] := ⟨⟨by rw [hg]; rfl, by decide, fun a ha => absurd rfl ha⟩, va_S.rf⟩
  have hl := lv_entry ([Value.ref b]) (n := 7) (Nat.le_of_ble_eq_true rfl)
  rw [lg_entry_eq]
  generalize (lg_sl ([Value.ref b]) ++ List.replicate (7 - (lg_sl ([Value.ref b])).length) Slot.unset).toArray = ls at hl ⊢
  have hl : lv_has ls 7 [(0, Value.ref b)] := hl
  have x1 := hJ_x.1
  have x2 := hJ_x.2.1
  refine z_new C ln_X9 Hh (Nat.le_of_ble_eq_true rfl) (Nat.le_of_ble_eq_true rfl) dL_law_0 (fun H1 Hh1 => ?_)
  refine lv_dup hx hb dL_law_3 rfl ?_
  refine z_callI (a := 0) (vs := []) (rest := [qR g 0]) C (ct_X9_init l g (nwo 9 (dflt 9) h00) 0 hJ1 hI1_ok) (Or.inl lw_ml.2.2.1) lm_X9_init rfl hl.1 Hh1 ⟨Nat.le_of_ble_eq_true rfl, Nat.le_of_ble_eq_true rfl, Nat.le_of_ble_eq_true rfl, Nat.le_of_ble_eq_true rfl⟩ (Nat.le_of_ble_eq_true rfl) dL_law_4 rfl (fun H2 locs2 Hh2 => ?_)
  refine lv_astore_n (x := zb g + (0 : Int).toNat) (lv' := [(1, qR g 0), (0, Value.ref b)]) hx hb dL_law_7 rfl hl (by decide) rfl (fun ls hl => ?_)
  refine z_new C ln_X11 Hh2 (Nat.le_of_ble_eq_true rfl) (Nat.le_of_ble_eq_true rfl) dL_law_8 (fun H3 Hh3 => ?_)
  rw [show hX hJ1 = 124 from x1]
  refine lv_dup hx hb dL_law_11 rfl ?_
  refine z_callI (a := 124) (vs := []) (rest := [qR g 124]) C (ct_X11_init l g (nwo 11 (dflt 11) hJ1) 124 hJ2 hI2_ok) (Or.inl lw_ml.2.2.2) lm_X11_init rfl hl.1 Hh3 ⟨Nat.le_of_ble_eq_true rfl, Nat.le_of_ble_eq_true rfl, Nat.le_of_ble_eq_true rfl, Nat.le_of_ble_eq_true rfl⟩ (Nat.le_of_ble_eq_true rfl) dL_law_12 rfl (fun H4 locs4 Hh4 => ?_)
  refine lv_astore_n (x := zb g + (124 : Int).toNat) (lv' := [(2, qR g 124), (1, qR g 0), (0, Value.ref b)]) hx hb dL_law_15 rfl hl (by decide) rfl (fun ls hl => ?_)
  refine z_iconst C dL_law_16 ?_
  refine z_newa (f := fun _ => (none : Option Int)) C (t := 2) (atype := .long) (by decide) tw_276 Hh4 (by decide) (by decide) (Nat.le_of_ble_eq_true rfl) (Nat.le_of_ble_eq_true rfl) dL_law_17 (fun H5 Hh5 => ?_)
  rw [show hX hJ2 = 145 from x2]
  refine lv_astore_n (x := zb g + (145 : Int).toNat) (lv' := [(3, qR g 145), (2, qR g 124), (1, qR g 0), (0, Value.ref b)]) hx hb dL_law_19 rfl hl (by decide) rfl (fun ls hl => ?_)
  refine z_iconst C dL_law_20 ?_
  refine lv_istore (lv' := [(4, qI 0), (3, qR g 145), (2, qR g 124), (1, qR g 0), (0, Value.ref b)]) hx hb dL_law_21 hl (by decide) rfl (fun ls hl => ?_)
  refine W.widen (k := 146 + 12 * 0) (n := 107300 + 400 * 0) (Nat.le_of_ble_eq_true rfl) (Nat.le_of_ble_eq_true rfl) ?_
  exact lw_loop hst C hr hlocks hzz hXs hbl hg hL 514 0 hJ3.1 hJ3.2 _ _ _ (by omega) (by omega) inv_start Hh5 (lv_sub hl [4, 3, 2, 1, 0] rfl)
end LO
