theorem tg_X9_trouble {h : Hp} {l0 : Int} {r : Int} (hm : M_X9_trouble h l0 = some r) : hT h l0 = 19 := (tk_inv hm).1
set_option maxRecDepth 100000 in
set_option maxHeartbeats 4000000 in
theorem ct_X9_trouble (l : Launch) (g : zGeo) (h : Hp) (l0 : Int) (r : Int) (hm : M_X9_trouble h l0 = some r) : zM l yX9_trouble cX9_trouble 1 (some .int) 0 0 0 0 g h [qR g l0] h (some (qI r)) := by
  refine z_meth (by decide) (Nat.le_of_ble_eq_true rfl) ?_
  intro p e s m args below meth c H ls C hr hlocks hnm Hh hl
  have C : zC p m c cX9_trouble 1 s args RX9 g := C
  have hnm : meth.name = "trouble" := hnm
  have hx := C.1.1
  have hb := C.1.2.1
  have hl : lv_has ls 1 [(0, qR g l0)] := hl
  unfold M_X9_trouble at hm
  replace hm := (tk_inv hm).2
  refine lv_aload_n hx hb dX9_trouble_0 rfl (lv_at hl 0 rfl) ?_
  refine z_getI C fl_9_85 Hh dX9_trouble_1 rfl hm (fun x1 hm => ?_)
  exact z_iretR (h0 := h) C hr hlocks Hh dX9_trouble_4 hm
theorem tg_X10_init {h : Hp} {l0 : Int} {r : Hp} (hm : M_X10_init h l0 = some r) : hT h l0 = 20 := (tk_inv hm).1
set_option maxRecDepth 100000 in
set_option maxHeartbeats 4000000 in
theorem ct_X10_init (l : Launch) (g : zGeo) (h0 : Hp) (l0 : Int) (r : Hp) (hm : M_X10_init h0 l0 = some r) : zM l yX10_init cX10_init 1 none 1 40 9 304 g h0 [qR g l0] r none := by
  refine z_meth (by decide) (Nat.le_of_ble_eq_true rfl) ?_
  intro p e s m args below meth c H ls C hr hlocks hnm Hh hl
  have C : zC p m c cX10_init 1 s args RX10 g := C
  have hnm : meth.name = "<init>" := hnm
  have hx := C.1.1
  have hb := C.1.2.1
  have hl : lv_has ls 1 [(0, qR g l0)] := hl
  unfold M_X10_init at hm
  replace hm := (tk_inv hm).2
  generalize h0 = h at Hh hm
  refine lv_aload_n hx hb dX10_init_0 rfl (lv_at hl 0 rfl) ?_
  refine z_oinit C ⟨tw_1460, tw_159, tw_160⟩ hl.1 (Nat.le_of_ble_eq_true rfl) (Nat.le_of_ble_eq_true rfl) dX10_init_1 ?_
  refine lv_aload_n hx hb dX10_init_4 rfl (lv_at hl 0 rfl) ?_
  refine z_sipush C dX10_init_5 rfl ?_
  refine z_newab C (t := 1) (atype := .int) (by decide) tw_222 Hh (by decide) (by decide) (Nat.le_of_ble_eq_true rfl) (Nat.le_of_ble_eq_true rfl) dX10_init_8 hm (fun h x1 H Hh hm => ?_)
  refine z_putRc C hnm pl_10_9_i (fun _ => ⟨rfl, rfl⟩) Hh dX10_init_10 rfl hm (fun h H locs Hh hm => ?_)
  refine lv_aload_n hx hb dX10_init_13 rfl (lv_at hl 0 rfl) ?_
  refine z_bipush C dX10_init_14 rfl ?_
  refine z_newab C (t := 1) (atype := .int) (by decide) tw_222 Hh (by decide) (by decide) (Nat.le_of_ble_eq_true rfl) (Nat.le_of_ble_eq_true rfl) dX10_init_16 hm (fun h x2 H Hh hm => ?_)
  refine z_putRc C hnm pl_10_15_i (fun _ => ⟨rfl, rfl⟩) Hh dX10_init_18 rfl hm (fun h H locs Hh hm => ?_)
  refine lv_aload_n hx hb dX10_init_21 rfl (lv_at hl 0 rfl) ?_
  refine z_bipush C dX10_init_22 rfl ?_
  refine z_newab C (t := 1) (atype := .int) (by decide) tw_222 Hh (by decide) (by decide) (Nat.le_of_ble_eq_true rfl) (Nat.le_of_ble_eq_true rfl) dX10_init_24 hm (fun h x3 H Hh hm => ?_)
  refine z_putRc C hnm pl_10_18_i (fun _ => ⟨rfl, rfl⟩) Hh dX10_init_26 rfl hm (fun h H locs Hh hm => ?_)
  refine lv_aload_n hx hb dX10_init_29 rfl (lv_at hl 0 rfl) ?_
  refine z_bipush C dX10_init_30 rfl ?_
  refine z_newab C (t := 1) (atype := .int) (by decide) tw_222 Hh (by decide) (by decide) (Nat.le_of_ble_eq_true rfl) (Nat.le_of_ble_eq_true rfl) dX10_init_32 hm (fun h x4 H Hh hm => ?_)
  refine z_putRc C hnm pl_10_21_i (fun _ => ⟨rfl, rfl⟩) Hh dX10_init_34 rfl hm (fun h H locs Hh hm => ?_)
  refine lv_aload_n hx hb dX10_init_37 rfl (lv_at hl 0 rfl) ?_
  refine z_bipush C dX10_init_38 rfl ?_
  refine z_newab C (t := 1) (atype := .int) (by decide) tw_222 Hh (by decide) (by decide) (Nat.le_of_ble_eq_true rfl) (Nat.le_of_ble_eq_true rfl) dX10_init_40 hm (fun h x5 H Hh hm => ?_)
  refine z_putRc C hnm pl_10_24_i (fun _ => ⟨rfl, rfl⟩) Hh dX10_init_42 rfl hm (fun h H locs Hh hm => ?_)
  refine lv_aload_n hx hb dX10_init_45 rfl (lv_at hl 0 rfl) ?_
  refine z_bipush C dX10_init_46 rfl ?_
  refine z_newab C (t := 1) (atype := .int) (by decide) tw_222 Hh (by decide) (by decide) (Nat.le_of_ble_eq_true rfl) (Nat.le_of_ble_eq_true rfl) dX10_init_48 hm (fun h x6 H Hh hm => ?_)
  refine z_putRc C hnm pl_10_27_i (fun _ => ⟨rfl, rfl⟩) Hh dX10_init_50 rfl hm (fun h H locs Hh hm => ?_)
  refine lv_aload_n hx hb dX10_init_53 rfl (lv_at hl 0 rfl) ?_
  refine z_bipush C dX10_init_54 rfl ?_
  refine z_newab C (t := 1) (atype := .int) (by decide) tw_222 Hh (by decide) (by decide) (Nat.le_of_ble_eq_true rfl) (Nat.le_of_ble_eq_true rfl) dX10_init_56 hm (fun h x7 H Hh hm => ?_)
  refine z_putRc C hnm pl_10_30_i (fun _ => ⟨rfl, rfl⟩) Hh dX10_init_58 rfl hm (fun h H locs Hh hm => ?_)
  refine lv_aload_n hx hb dX10_init_61 rfl (lv_at hl 0 rfl) ?_
  refine z_bipush C dX10_init_62 rfl ?_
  refine z_newab C (t := 1) (atype := .int) (by decide) tw_222 Hh (by decide) (by decide) (Nat.le_of_ble_eq_true rfl) (Nat.le_of_ble_eq_true rfl) dX10_init_64 hm (fun h x8 H Hh hm => ?_)
  refine z_putRc C hnm pl_10_33_i (fun _ => ⟨rfl, rfl⟩) Hh dX10_init_66 rfl hm (fun h H locs Hh hm => ?_)
  refine lv_aload_n hx hb dX10_init_69 rfl (lv_at hl 0 rfl) ?_
  refine z_bipush C dX10_init_70 rfl ?_
  refine z_newab C (t := 2) (atype := .long) (by decide) tw_276 Hh (by decide) (by decide) (Nat.le_of_ble_eq_true rfl) (Nat.le_of_ble_eq_true rfl) dX10_init_72 hm (fun h x9 H Hh hm => ?_)
  refine z_putRc C hnm pl_10_36_i (fun _ => ⟨rfl, rfl⟩) Hh dX10_init_74 rfl hm (fun h H locs Hh hm => ?_)
  refine W.widen (k := 9) (n := 304) (Nat.le_of_ble_eq_true rfl) (Nat.le_of_ble_eq_true rfl) ?_
  exact z_vret C hr hlocks Hh dX10_init_77 hm
theorem tg_X10_find {h : Hp} {l0 l1 : Int} {r : Int} (hm : M_X10_find h l0 l1 = some r) : hT h l0 = 20 := (tk_inv hm).1
set_option maxRecDepth 100000 in
set_option maxHeartbeats 4000000 in
theorem ct_X10_find (l : Launch) (g : zGeo) (h : Hp) (l0 l1 : Int) (r : Int) (hm : M_X10_find h l0 l1 = some r) : zM l yX10_find cX10_find 4 (some .int) 0 0 0 0 g h [qR g l0, qJ l1] h (some (qI r)) := by
  refine z_meth (by decide) (Nat.le_of_ble_eq_true rfl) ?_
  intro p e s m args below meth c H ls C hr hlocks hnm Hh hl
  have C : zC p m c cX10_find 4 s args RX10 g := C
  have hnm : meth.name = "find" := hnm
  have hx := C.1.1
  have hb := C.1.2.1
  have hl : lv_has ls 4 [(0, qR g l0), (1, qJ l1)] := hl
  unfold M_X10_find at hm
  replace hm := (tk_inv hm).2
  have K29 : ∀  (H : Heap) (locs : List Loc) (ls : Array Slot), zH g s h H locs → lv_has ls 4 [] → M_X10_find_p29 h = some r → W p l e { frames := 0, cells := 0, slots := 0, locals := 0 } s m args below meth c H locs 0 0 (zQ below g h (some (qI r)) args s 0 0) (F0 m 29 ls []) := by
    intro   H locs ls Hh hl hm
    unfold M_X10_find_p29 at hm
    refine z_iconst C dX10_find_29 ?_
    exact z_iretR (h0 := h) C hr hlocks Hh dX10_find_30 hm
  have KL2 : ∀ (n : Nat)  (l0 l1 l3 : Int) (H : Heap) (locs : List Loc) (ls : Array Slot), zH g s h H locs → lv_has ls 4 [(0, qR g l0), (1, qJ l1), (3, qI l3)] → M_X10_find_w2 n h l0 l1 l3 = some r → W p l e { frames := 0, cells := 0, slots := 0, locals := 0 } s m args below meth c H locs 0 0 (zQ below g h (some (qI r)) args s 0 0) (F0 m 2 ls []) := by
    intro n
    induction n with
    | zero => intro l0 l1 l3 H locs ls Hh hl hm; cases hm
    | succ n ih2 =>
      intro l0 l1 l3 H locs ls Hh hl hm
      obtain ⟨z2, hm, hc2⟩ := wh_inv hm
      have hm : M_X10_find_b2 h l0 l1 l3 = some z2 := hm
      unfold M_X10_find_b2 at hm
      refine lv_iload_n hx hb dX10_find_2 rfl (lv_at hl 2 rfl) ?_
      refine lv_aload_n hx hb dX10_find_3 rfl (lv_at hl 0 rfl) ?_
      refine z_getI C fl_10_40 Hh dX10_find_4 rfl hm (fun x1 hm => ?_)
      refine z_icmp_ge (tgt := 29) C dX10_find_7 (by decide) rfl rfl hm (fun _ hm => ?_) (fun _ hm => ?_)
      · cases hm
        exact K29  _ _ _ Hh (lv_sub hl [] rfl) hc2
      · refine lv_aload_n hx hb dX10_find_10 rfl (lv_at hl 0 rfl) ?_
        refine z_getR C fl_10_36 Hh dX10_find_11 rfl hm (fun x2 hm => ?_)
        refine lv_iload_n hx hb dX10_find_14 rfl (lv_at hl 2 rfl) ?_
        refine z_lald C Hh dX10_find_15 hm (fun x3 hm => ?_)
        refine lv_lload_n hx hb dX10_find_16 rfl (lv_at hl 1 rfl) ?_
        refine z_lcmp C dX10_find_17 ?_
        refine z_if_ne (tgt := 23) C dX10_find_18 (by decide) rfl hm (fun _ hm => ?_) (fun _ hm => ?_)
        · refine z_iinc (x := l3) (k := 2) (lv' := [(3, qI (l3 + 1)), (0, qR g l0), (1, qJ l1)]) C dX10_find_23 hl rfl (by decide) rfl (fun ls hl => ?_)
          refine lv_goto (tgt := 2) hx hb dX10_find_26 (by decide) ?_
          cases hm
          exact ih2 l0 l1 (l3 + 1) _ _ _ Hh (lv_sub hl [1, 2, 0] rfl) hc2
        · refine lv_iload_n hx hb dX10_find_21 rfl (lv_at hl 2 rfl) ?_
          cases hm
          have hm := hc2
          exact z_iretR (h0 := h) C hr hlocks Hh dX10_find_22 hm
  refine z_iconst C dX10_find_0 ?_
  refine lv_istore_n (lv' := [(3, qI 0), (0, qR g l0), (1, qJ l1)]) hx hb dX10_find_1 rfl hl (by decide) rfl (fun ls hl => ?_)
  exact KL2 FU l0 l1 0 _ _ _ Hh (lv_sub hl [1, 2, 0] rfl) hm
theorem tg_X10_all {h : Hp} {l0 : Int} {r : Int} (hm : M_X10_all h l0 = some r) : hT h l0 = 20 := (tk_inv hm).1
set_option maxRecDepth 100000 in
set_option maxHeartbeats 4000000 in
theorem ct_X10_all (l : Launch) (g : zGeo) (h : Hp) (l0 : Int) (r : Int) (hm : M_X10_all h l0 = some r) : zM l yX10_all cX10_all 1 (some .int) 0 0 0 0 g h [qR g l0] h (some (qI r)) := by
  refine z_meth (by decide) (Nat.le_of_ble_eq_true rfl) ?_
  intro p e s m args below meth c H ls C hr hlocks hnm Hh hl
  have C : zC p m c cX10_all 1 s args RX10 g := C
  have hnm : meth.name = "all" := hnm
  have hx := C.1.1
  have hb := C.1.2.1
  have hl : lv_has ls 1 [(0, qR g l0)] := hl
  unfold M_X10_all at hm
  replace hm := (tk_inv hm).2
  refine lv_aload_n hx hb dX10_all_0 rfl (lv_at hl 0 rfl) ?_
  refine z_getI C fl_10_44 Hh dX10_all_1 rfl hm (fun x1 hm => ?_)
  refine lv_aload_n hx hb dX10_all_4 rfl (lv_at hl 0 rfl) ?_
  refine z_getI C fl_10_47 Hh dX10_all_5 rfl hm (fun x2 hm => ?_)
  refine z_imul C dX10_all_8 ?_
  exact z_iretR (h0 := h) C hr hlocks Hh dX10_all_9 hm
theorem tg_X11_init {h : Hp} {l0 : Int} {r : Hp} (hm : M_X11_init h l0 = some r) : hT h l0 = 21 := (tk_inv hm).1
set_option maxRecDepth 100000 in
set_option maxHeartbeats 4000000 in
theorem ct_X11_init (l : Launch) (g : zGeo) (h0 : Hp) (l0 : Int) (r : Hp) (hm : M_X11_init h0 l0 = some r) : zM l yX11_init cX11_init 1 none 1 40 20 94921 g h0 [qR g l0] r none := by
  refine z_meth (by decide) (Nat.le_of_ble_eq_true rfl) ?_
  intro p e s m args below meth c H ls C hr hlocks hnm Hh hl
  have C : zC p m c cX11_init 1 s args RX11 g := C
  have hnm : meth.name = "<init>" := hnm
  have hx := C.1.1
  have hb := C.1.2.1
  have hl : lv_has ls 1 [(0, qR g l0)] := hl
  unfold M_X11_init at hm
  replace hm := (tk_inv hm).2
  generalize h0 = h at Hh hm
  refine lv_aload_n hx hb dX11_init_0 rfl (lv_at hl 0 rfl) ?_
  refine z_oinit C ⟨tw_1313, tw_159, tw_160⟩ hl.1 (Nat.le_of_ble_eq_true rfl) (Nat.le_of_ble_eq_true rfl) dX11_init_1 ?_
  refine lv_aload_n hx hb dX11_init_4 rfl (lv_at hl 0 rfl) ?_
  refine z_iconst C dX11_init_5 ?_
  refine z_putI C hnm pl_11_9_i Hh dX11_init_6 rfl hm (fun h H locs Hh hm => ?_)
  refine lv_aload_n hx hb dX11_init_9 rfl (lv_at hl 0 rfl) ?_
  refine z_sipush C dX11_init_10 rfl ?_
  refine z_newab C (t := 3) (atype := .byte) (by decide) tw_771 Hh (by decide) (by decide) (Nat.le_of_ble_eq_true rfl) (Nat.le_of_ble_eq_true rfl) dX11_init_13 hm (fun h x1 H Hh hm => ?_)
  refine z_putRc C hnm pl_11_13_i (fun _ => ⟨rfl, rfl⟩) Hh dX11_init_15 rfl hm (fun h H locs Hh hm => ?_)
  refine lv_aload_n hx hb dX11_init_18 rfl (lv_at hl 0 rfl) ?_
  refine z_sipush C dX11_init_19 rfl ?_
  refine z_newab C (t := 1) (atype := .int) (by decide) tw_222 Hh (by decide) (by decide) (Nat.le_of_ble_eq_true rfl) (Nat.le_of_ble_eq_true rfl) dX11_init_22 hm (fun h x2 H Hh hm => ?_)
  refine z_putRc C hnm pl_11_17_i (fun _ => ⟨rfl, rfl⟩) Hh dX11_init_24 rfl hm (fun h H locs Hh hm => ?_)
  refine lv_aload_n hx hb dX11_init_27 rfl (lv_at hl 0 rfl) ?_
  refine z_sipush C dX11_init_28 rfl ?_
  refine z_newab C (t := 1) (atype := .int) (by decide) tw_222 Hh (by decide) (by decide) (Nat.le_of_ble_eq_true rfl) (Nat.le_of_ble_eq_true rfl) dX11_init_31 hm (fun h x3 H Hh hm => ?_)
  refine z_putRc C hnm pl_11_21_i (fun _ => ⟨rfl, rfl⟩) Hh dX11_init_33 rfl hm (fun h H locs Hh hm => ?_)
  refine lv_aload_n hx hb dX11_init_36 rfl (lv_at hl 0 rfl) ?_
  refine z_sipush C dX11_init_37 rfl ?_
  refine z_newab C (t := 1) (atype := .int) (by decide) tw_222 Hh (by decide) (by decide) (Nat.le_of_ble_eq_true rfl) (Nat.le_of_ble_eq_true rfl) dX11_init_40 hm (fun h x4 H Hh hm => ?_)
  refine z_putRc C hnm pl_11_24_i (fun _ => ⟨rfl, rfl⟩) Hh dX11_init_42 rfl hm (fun h H locs Hh hm => ?_)
  refine lv_aload_n hx hb dX11_init_45 rfl (lv_at hl 0 rfl) ?_
  refine z_ldc (v := 86616) C dX11_init_46 tw_1314 rfl ?_
  refine z_newab C (t := 1) (atype := .int) (by decide) tw_222 Hh (by decide) (by decide) (Nat.le_of_ble_eq_true rfl) (Nat.le_of_ble_eq_true rfl) dX11_init_48 hm (fun h x5 H Hh hm => ?_)
  refine z_putRc C hnm pl_11_28_i (fun _ => ⟨rfl, rfl⟩) Hh dX11_init_50 rfl hm (fun h H locs Hh hm => ?_)
  refine lv_aload_n hx hb dX11_init_53 rfl (lv_at hl 0 rfl) ?_
  refine z_bipush C dX11_init_54 rfl ?_
  refine z_newab C (t := 1) (atype := .int) (by decide) tw_222 Hh (by decide) (by decide) (Nat.le_of_ble_eq_true rfl) (Nat.le_of_ble_eq_true rfl) dX11_init_56 hm (fun h x6 H Hh hm => ?_)
  refine z_putRc C hnm pl_11_31_i (fun _ => ⟨rfl, rfl⟩) Hh dX11_init_58 rfl hm (fun h H locs Hh hm => ?_)
  refine lv_aload_n hx hb dX11_init_61 rfl (lv_at hl 0 rfl) ?_
  refine z_bipush C dX11_init_62 rfl ?_
  refine z_newab C (t := 1) (atype := .int) (by decide) tw_222 Hh (by decide) (by decide) (Nat.le_of_ble_eq_true rfl) (Nat.le_of_ble_eq_true rfl) dX11_init_64 hm (fun h x7 H Hh hm => ?_)
  refine z_putRc C hnm pl_11_34_i (fun _ => ⟨rfl, rfl⟩) Hh dX11_init_66 rfl hm (fun h H locs Hh hm => ?_)
  refine lv_aload_n hx hb dX11_init_69 rfl (lv_at hl 0 rfl) ?_
  refine z_sipush C dX11_init_70 rfl ?_
  refine z_newab C (t := 1) (atype := .int) (by decide) tw_222 Hh (by decide) (by decide) (Nat.le_of_ble_eq_true rfl) (Nat.le_of_ble_eq_true rfl) dX11_init_73 hm (fun h x8 H Hh hm => ?_)
  refine z_putRc C hnm pl_11_37_i (fun _ => ⟨rfl, rfl⟩) Hh dX11_init_75 rfl hm (fun h H locs Hh hm => ?_)
  refine lv_aload_n hx hb dX11_init_78 rfl (lv_at hl 0 rfl) ?_
  refine z_bipush C dX11_init_79 rfl ?_
  refine z_newab C (t := 4) (atype := .boolean) (by decide) tw_442 Hh (by decide) (by decide) (Nat.le_of_ble_eq_true rfl) (Nat.le_of_ble_eq_true rfl) dX11_init_81 hm (fun h x9 H Hh hm => ?_)
  refine z_putRc C hnm pl_11_40_i (fun _ => ⟨rfl, rfl⟩) Hh dX11_init_83 rfl hm (fun h H locs Hh hm => ?_)
  refine lv_aload_n hx hb dX11_init_86 rfl (lv_at hl 0 rfl) ?_
  refine z_bipush C dX11_init_87 rfl ?_
  refine z_newab C (t := 1) (atype := .int) (by decide) tw_222 Hh (by decide) (by decide) (Nat.le_of_ble_eq_true rfl) (Nat.le_of_ble_eq_true rfl) dX11_init_89 hm (fun h x10 H Hh hm => ?_)
  refine z_putRc C hnm pl_11_44_i (fun _ => ⟨rfl, rfl⟩) Hh dX11_init_91 rfl hm (fun h H locs Hh hm => ?_)
  refine lv_aload_n hx hb dX11_init_94 rfl (lv_at hl 0 rfl) ?_
  refine z_sipush C dX11_init_95 rfl ?_
  refine z_newab C (t := 2) (atype := .long) (by decide) tw_276 Hh (by decide) (by decide) (Nat.le_of_ble_eq_true rfl) (Nat.le_of_ble_eq_true rfl) dX11_init_98 hm (fun h x11 H Hh hm => ?_)
  refine z_putRc C hnm pl_11_47_i (fun _ => ⟨rfl, rfl⟩) Hh dX11_init_100 rfl hm (fun h H locs Hh hm => ?_)
  refine lv_aload_n hx hb dX11_init_103 rfl (lv_at hl 0 rfl) ?_
  refine z_bipush C dX11_init_104 rfl ?_
  refine z_newab C (t := 1) (atype := .int) (by decide) tw_222 Hh (by decide) (by decide) (Nat.le_of_ble_eq_true rfl) (Nat.le_of_ble_eq_true rfl) dX11_init_106 hm (fun h x12 H Hh hm => ?_)
  refine z_putRc C hnm pl_11_51_i (fun _ => ⟨rfl, rfl⟩) Hh dX11_init_108 rfl hm (fun h H locs Hh hm => ?_)
  refine lv_aload_n hx hb dX11_init_111 rfl (lv_at hl 0 rfl) ?_
  refine z_iconst C dX11_init_112 ?_
  refine z_newab C (t := 1) (atype := .int) (by decide) tw_222 Hh (by decide) (by decide) (Nat.le_of_ble_eq_true rfl) (Nat.le_of_ble_eq_true rfl) dX11_init_113 hm (fun h x13 H Hh hm => ?_)
  refine z_putRc C hnm pl_11_54_i (fun _ => ⟨rfl, rfl⟩) Hh dX11_init_115 rfl hm (fun h H locs Hh hm => ?_)
  refine lv_aload_n hx hb dX11_init_118 rfl (lv_at hl 0 rfl) ?_
  refine z_iconst C dX11_init_119 ?_
  refine z_newab C (t := 1) (atype := .int) (by decide) tw_222 Hh (by decide) (by decide) (Nat.le_of_ble_eq_true rfl) (Nat.le_of_ble_eq_true rfl) dX11_init_120 hm (fun h x14 H Hh hm => ?_)
  refine z_putRc C hnm pl_11_57_i (fun _ => ⟨rfl, rfl⟩) Hh dX11_init_122 rfl hm (fun h H locs Hh hm => ?_)
  refine lv_aload_n hx hb dX11_init_125 rfl (lv_at hl 0 rfl) ?_
  refine z_sipush C dX11_init_126 rfl ?_
  refine z_newab C (t := 4) (atype := .boolean) (by decide) tw_442 Hh (by decide) (by decide) (Nat.le_of_ble_eq_true rfl) (Nat.le_of_ble_eq_true rfl) dX11_init_129 hm (fun h x15 H Hh hm => ?_)
  refine z_putRc C hnm pl_11_60_i (fun _ => ⟨rfl, rfl⟩) Hh dX11_init_131 rfl hm (fun h H locs Hh hm => ?_)
  refine lv_aload_n hx hb dX11_init_134 rfl (lv_at hl 0 rfl) ?_
  refine z_sipush C dX11_init_135 rfl ?_
  refine z_newab C (t := 4) (atype := .boolean) (by decide) tw_442 Hh (by decide) (by decide) (Nat.le_of_ble_eq_true rfl) (Nat.le_of_ble_eq_true rfl) dX11_init_138 hm (fun h x16 H Hh hm => ?_)
  refine z_putRc C hnm pl_11_63_i (fun _ => ⟨rfl, rfl⟩) Hh dX11_init_140 rfl hm (fun h H locs Hh hm => ?_)
  refine lv_aload_n hx hb dX11_init_143 rfl (lv_at hl 0 rfl) ?_
  refine z_bipush C dX11_init_144 rfl ?_
  refine z_newab C (t := 1) (atype := .int) (by decide) tw_222 Hh (by decide) (by decide) (Nat.le_of_ble_eq_true rfl) (Nat.le_of_ble_eq_true rfl) dX11_init_146 hm (fun h x17 H Hh hm => ?_)
  refine z_putRc C hnm pl_11_66_i (fun _ => ⟨rfl, rfl⟩) Hh dX11_init_148 rfl hm (fun h H locs Hh hm => ?_)
  refine lv_aload_n hx hb dX11_init_151 rfl (lv_at hl 0 rfl) ?_
  refine z_bipush C dX11_init_152 rfl ?_
  refine z_newab C (t := 1) (atype := .int) (by decide) tw_222 Hh (by decide) (by decide) (Nat.le_of_ble_eq_true rfl) (Nat.le_of_ble_eq_true rfl) dX11_init_154 hm (fun h x18 H Hh hm => ?_)
  refine z_putRc C hnm pl_11_69_i (fun _ => ⟨rfl, rfl⟩) Hh dX11_init_156 rfl hm (fun h H locs Hh hm => ?_)
  refine lv_aload_n hx hb dX11_init_159 rfl (lv_at hl 0 rfl) ?_
  refine z_bipush C dX11_init_160 rfl ?_
  refine z_newab C (t := 1) (atype := .int) (by decide) tw_222 Hh (by decide) (by decide) (Nat.le_of_ble_eq_true rfl) (Nat.le_of_ble_eq_true rfl) dX11_init_162 hm (fun h x19 H Hh hm => ?_)
  refine z_putRc C hnm pl_11_72_i (fun _ => ⟨rfl, rfl⟩) Hh dX11_init_164 rfl hm (fun h H locs Hh hm => ?_)
  refine lv_aload_n hx hb dX11_init_167 rfl (lv_at hl 0 rfl) ?_
  refine z_bipush C dX11_init_168 rfl ?_
  refine z_newab C (t := 1) (atype := .int) (by decide) tw_222 Hh (by decide) (by decide) (Nat.le_of_ble_eq_true rfl) (Nat.le_of_ble_eq_true rfl) dX11_init_170 hm (fun h x20 H Hh hm => ?_)
  refine z_putRc C hnm pl_11_75_i (fun _ => ⟨rfl, rfl⟩) Hh dX11_init_172 rfl hm (fun h H locs Hh hm => ?_)
  refine W.widen (k := 20) (n := 94921) (Nat.le_of_ble_eq_true rfl) (Nat.le_of_ble_eq_true rfl) ?_
  exact z_vret C hr hlocks Hh dX11_init_175 hm
theorem tg_X11_thrown {h : Hp} {l0 : Int} {r : Int} (hm : M_X11_thrown h l0 = some r) : hT h l0 = 21 := (tk_inv hm).1
set_option maxRecDepth 100000 in
set_option maxHeartbeats 4000000 in
theorem ct_X11_thrown (l : Launch) (g : zGeo) (h : Hp) (l0 : Int) (r : Int) (hm : M_X11_thrown h l0 = some r) : zM l yX11_thrown cX11_thrown 1 (some .int) 0 0 0 0 g h [qR g l0] h (some (qI r)) := by
  refine z_meth (by decide) (Nat.le_of_ble_eq_true rfl) ?_
  intro p e s m args below meth c H ls C hr hlocks hnm Hh hl
  have C : zC p m c cX11_thrown 1 s args RX11 g := C
  have hnm : meth.name = "thrown" := hnm
  have hx := C.1.1
  have hb := C.1.2.1
  have hl : lv_has ls 1 [(0, qR g l0)] := hl
  unfold M_X11_thrown at hm
  replace hm := (tk_inv hm).2
  refine lv_aload_n hx hb dX11_thrown_0 rfl (lv_at hl 0 rfl) ?_
  refine z_getI C fl_11_78 Hh dX11_thrown_1 rfl hm (fun x1 hm => ?_)
  exact z_iretR (h0 := h) C hr hlocks Hh dX11_thrown_4 hm
theorem tg_X11_refused {h : Hp} {l0 l1 : Int} {r : Hp × Int} (hm : M_X11_refused h l0 l1 = some r) : hT h l0 = 21 := (tk_inv hm).1
set_option maxRecDepth 100000 in
set_option maxHeartbeats 4000000 in
theorem ct_X11_refused (l : Launch) (g : zGeo) (h0 : Hp) (l0 l1 : Int) (r : Hp × Int) (hm : M_X11_refused h0 l0 l1 = some r) : zM l yX11_refused cX11_refused 2 (some .int) 0 0 0 0 g h0 [qR g l0, qI l1] r.1 (some (qI r.2)) := by
  refine z_meth (by decide) (Nat.le_of_ble_eq_true rfl) ?_
  intro p e s m args below meth c H ls C hr hlocks hnm Hh hl
  have C : zC p m c cX11_refused 2 s args RX11 g := C
  have hnm : meth.name = "refused" := hnm
  have hx := C.1.1
  have hb := C.1.2.1
  have hl : lv_has ls 2 [(0, qR g l0), (1, qI l1)] := hl
  unfold M_X11_refused at hm
  replace hm := (tk_inv hm).2
  generalize h0 = h at Hh hm
  refine lv_aload_n hx hb dX11_refused_0 rfl (lv_at hl 0 rfl) ?_
  refine lv_iload_n hx hb dX11_refused_1 rfl (lv_at hl 1 rfl) ?_
  refine z_putI C hnm pl_11_81 Hh dX11_refused_2 rfl hm (fun h H locs Hh hm => ?_)
  refine lv_aload_n hx hb dX11_refused_5 rfl (lv_at hl 0 rfl) ?_
  refine z_iconst C dX11_refused_6 ?_
  refine z_putI C hnm pl_11_9 Hh dX11_refused_7 rfl hm (fun h H locs Hh hm => ?_)
  refine z_iconst C dX11_refused_10 ?_
  exact z_iret C hr hlocks Hh dX11_refused_11 hm
theorem tg_X11_denied {h : Hp} {l0 l1 : Int} {r : Hp × Int} (hm : M_X11_denied h l0 l1 = some r) : hT h l0 = 21 := (tk_inv hm).1
set_option maxRecDepth 100000 in
set_option maxHeartbeats 4000000 in
theorem ct_X11_denied (l : Launch) (g : zGeo) (h0 : Hp) (l0 l1 : Int) (r : Hp × Int) (hm : M_X11_denied h0 l0 l1 = some r) : zM l yX11_denied cX11_denied 2 (some .boolean) 1 21 0 0 g h0 [qR g l0, qI l1] r.1 (some (qI r.2)) := by
  refine z_meth (by decide) (Nat.le_of_ble_eq_true rfl) ?_
  intro p e s m args below meth c H ls C hr hlocks hnm Hh hl
  have C : zC p m c cX11_denied 2 s args RX11 g := C
  have hnm : meth.name = "denied" := hnm
  have hx := C.1.1
  have hb := C.1.2.1
  have hl : lv_has ls 2 [(0, qR g l0), (1, qI l1)] := hl
  unfold M_X11_denied at hm
  replace hm := (tk_inv hm).2
  generalize h0 = h at Hh hm
  refine lv_aload_n hx hb dX11_denied_0 rfl (lv_at hl 0 rfl) ?_
  refine lv_iload_n hx hb dX11_denied_1 rfl (lv_at hl 1 rfl) ?_
  refine z_cVI (vs := [qI l1]) C (fun q hq => ct_X11_refused l g h l0 l1 q hq) tw_1451 my_X11_refused (fun q hq => tg_X11_refused hq) rfl hl.1 Hh ⟨Nat.le_of_ble_eq_true rfl, Nat.le_of_ble_eq_true rfl, Nat.le_of_ble_eq_true rfl, Nat.le_of_ble_eq_true rfl⟩ (Nat.le_of_ble_eq_true rfl) dX11_denied_2 rfl hm (fun h x1 H locs Hh hm => ?_)
  refine lv_pop hx hb dX11_denied_5 rfl ?_
  refine z_iconst C dX11_denied_6 ?_
  exact z_zretC C hr hlocks Hh dX11_denied_7 (by decide) hm
theorem tg_X11_good {h : Hp} {l0 l1 : Int} {r : Hp × Int} (hm : M_X11_good h l0 l1 = some r) : hT h l0 = 21 := (tk_inv hm).1
set_option maxRecDepth 100000 in
set_option maxHeartbeats 4000000 in
theorem ct_X11_good (l : Launch) (g : zGeo) (h0 : Hp) (l0 l1 : Int) (r : Hp × Int) (hm : M_X11_good h0 l0 l1 = some r) : zM l yX11_good cX11_good 2 (some .int) 0 0 0 0 g h0 [qR g l0, qI l1] r.1 (some (qI r.2)) := by
  refine z_meth (by decide) (Nat.le_of_ble_eq_true rfl) ?_
  intro p e s m args below meth c H ls C hr hlocks hnm Hh hl
  have C : zC p m c cX11_good 2 s args RX11 g := C
  have hnm : meth.name = "good" := hnm
  have hx := C.1.1
  have hb := C.1.2.1
  have hl : lv_has ls 2 [(0, qR g l0), (1, qI l1)] := hl
  unfold M_X11_good at hm
  replace hm := (tk_inv hm).2
  generalize h0 = h at Hh hm
  refine lv_aload_n hx hb dX11_good_0 rfl (lv_at hl 0 rfl) ?_
  refine z_iconst C dX11_good_1 ?_
  refine z_putI C hnm pl_11_81 Hh dX11_good_2 rfl hm (fun h H locs Hh hm => ?_)
  refine lv_aload_n hx hb dX11_good_5 rfl (lv_at hl 0 rfl) ?_
  refine z_iconst C dX11_good_6 ?_
  refine z_putI C hnm pl_11_9 Hh dX11_good_7 rfl hm (fun h H locs Hh hm => ?_)
  refine lv_iload_n hx hb dX11_good_10 rfl (lv_at hl 1 rfl) ?_
  exact z_iret C hr hlocks Hh dX11_good_11 hm
theorem tg_X11_granted {h : Hp} {l0 : Int} {r : Hp × Int} (hm : M_X11_granted h l0 = some r) : hT h l0 = 21 := (tk_inv hm).1
set_option maxRecDepth 100000 in
set_option maxHeartbeats 4000000 in
theorem ct_X11_granted (l : Launch) (g : zGeo) (h0 : Hp) (l0 : Int) (r : Hp × Int) (hm : M_X11_granted h0 l0 = some r) : zM l yX11_granted cX11_granted 1 (some .boolean) 1 21 0 0 g h0 [qR g l0] r.1 (some (qI r.2)) := by
  refine z_meth (by decide) (Nat.le_of_ble_eq_true rfl) ?_
  intro p e s m args below meth c H ls C hr hlocks hnm Hh hl
  have C : zC p m c cX11_granted 1 s args RX11 g := C
  have hnm : meth.name = "granted" := hnm
  have hx := C.1.1
  have hb := C.1.2.1
  have hl : lv_has ls 1 [(0, qR g l0)] := hl
  unfold M_X11_granted at hm
  replace hm := (tk_inv hm).2
  generalize h0 = h at Hh hm
  refine lv_aload_n hx hb dX11_granted_0 rfl (lv_at hl 0 rfl) ?_
  refine z_iconst C dX11_granted_1 ?_
  refine z_cVI (vs := [qI 0]) C (fun q hq => ct_X11_good l g h l0 0 q hq) tw_1670 my_X11_good (fun q hq => tg_X11_good hq) rfl hl.1 Hh ⟨Nat.le_of_ble_eq_true rfl, Nat.le_of_ble_eq_true rfl, Nat.le_of_ble_eq_true rfl, Nat.le_of_ble_eq_true rfl⟩ (Nat.le_of_ble_eq_true rfl) dX11_granted_2 rfl hm (fun h x1 H locs Hh hm => ?_)
  refine lv_pop hx hb dX11_granted_5 rfl ?_
  refine z_iconst C dX11_granted_6 ?_
  exact z_zretC C hr hlocks Hh dX11_granted_7 (by decide) hm
set_option maxRecDepth 100000 in
set_option maxHeartbeats 4000000 in
theorem ct_X11_in (l : Launch) (g : zGeo) (h : Hp) (l0 l1 l2 : Int) (r : Int) (hm : M_X11_in h l0 l1 l2 = some r) : zM l yX11_in cX11_in 3 (some .boolean) 0 0 0 0 g h [qI l0, qI l1, qI l2] h (some (qI r)) := by
  refine z_meth (by decide) (Nat.le_of_ble_eq_true rfl) ?_
  intro p e s m args below meth c H ls C hr hlocks hnm Hh hl
  have C : zC p m c cX11_in 3 s args RX11 g := C
  have hnm : meth.name = "in" := hnm
  have hx := C.1.1
  have hb := C.1.2.1
  have hl : lv_has ls 3 [(0, qI l0), (1, qI l1), (2, qI l2)] := hl
  unfold M_X11_in at hm
  refine lv_iload_n hx hb dX11_in_0 rfl (lv_at hl 0 rfl) ?_
  refine lv_iload_n hx hb dX11_in_1 rfl (lv_at hl 1 rfl) ?_
  refine z_icmp_lt (tgt := 14) C dX11_in_2 (by decide) rfl rfl hm (fun _ hm => ?_) (fun _ hm => ?_)
  · refine z_iconst C dX11_in_14 ?_
    exact z_zretRC C hr hlocks Hh dX11_in_15 (by decide) hm
  · refine lv_iload_n hx hb dX11_in_5 rfl (lv_at hl 0 rfl) ?_
    refine lv_iload_n hx hb dX11_in_6 rfl (lv_at hl 2 rfl) ?_
    refine z_icmp_gt (tgt := 14) C dX11_in_7 (by decide) rfl rfl hm (fun _ hm => ?_) (fun _ hm => ?_)
    · refine z_iconst C dX11_in_14 ?_
      exact z_zretRC C hr hlocks Hh dX11_in_15 (by decide) hm
    · refine z_iconst C dX11_in_10 ?_
      refine lv_goto (tgt := 15) hx hb dX11_in_11 (by decide) ?_
      exact z_zretRC C hr hlocks Hh dX11_in_15 (by decide) hm
set_option maxRecDepth 100000 in
set_option maxHeartbeats 4000000 in
theorem ct_X11_common (l : Launch) (g : zGeo) (h : Hp) (l0 l2 : Int) (r : Int) (hm : M_X11_common h l0 l2 = some r) : zM l yX11_common cX11_common 10 (some .long) 0 0 0 0 g h [qJ l0, qJ l2] h (some (qJ r)) := by
  refine z_meth (by decide) (Nat.le_of_ble_eq_true rfl) ?_
  intro p e s m args below meth c H ls C hr hlocks hnm Hh hl
  have C : zC p m c cX11_common 10 s args RX11 g := C
  have hnm : meth.name = "common" := hnm
  have hx := C.1.1
  have hb := C.1.2.1
  have hl : lv_has ls 10 [(0, qJ l0), (2, qJ l2)] := hl
  unfold M_X11_common at hm
  have K31 : ∀  (l4 : Int) (H : Heap) (locs : List Loc) (ls : Array Slot), zH g s h H locs → lv_has ls 10 [(4, qJ l4)] → M_X11_common_p31 h l4 = some r → W p l e { frames := 0, cells := 0, slots := 0, locals := 0 } s m args below meth c H locs 0 0 (zQ below g h (some (qJ r)) args s 0 0) (F0 m 31 ls []) := by
    intro l4  H locs ls Hh hl hm
    unfold M_X11_common_p31 at hm
    refine lv_lload hx hb dX11_common_31 (lv_at hl 0 rfl) ?_
    exact z_lretR C hr hlocks Hh dX11_common_33 hm
  have KL6 : ∀ (n : Nat)  (l4 l6 : Int) (H : Heap) (locs : List Loc) (ls : Array Slot), zH g s h H locs → lv_has ls 10 [(4, qJ l4), (6, qJ l6)] → M_X11_common_w6 n h l4 l6 = some r → W p l e { frames := 0, cells := 0, slots := 0, locals := 0 } s m args below meth c H locs 0 0 (zQ below g h (some (qJ r)) args s 0 0) (F0 m 6 ls []) := by
    intro n
    induction n with
    | zero => intro l4 l6 H locs ls Hh hl hm; cases hm
    | succ n ih6 =>
      intro l4 l6 H locs ls Hh hl hm
      obtain ⟨z6, hm, hc6⟩ := wh_inv hm
      have hm : M_X11_common_b6 h l4 l6 = some z6 := hm
      unfold M_X11_common_b6 at hm
      refine lv_lload hx hb dX11_common_6 (lv_at hl 1 rfl) ?_
      refine z_lconst (v := 0) C dX11_common_8 rfl ?_
      refine z_lcmp C dX11_common_9 ?_
      refine z_if_eq (tgt := 31) C dX11_common_10 (by decide) rfl hm (fun _ hm => ?_) (fun _ hm => ?_)
      · cases hm
        exact K31 l4 _ _ _ Hh (lv_sub hl [0] rfl) hc6
      · refine lv_lload hx hb dX11_common_13 (lv_at hl 0 rfl) ?_
        refine lv_lload hx hb dX11_common_15 (lv_at hl 1 rfl) ?_
        refine z_lrem C dX11_common_17 hm (fun x1 hm => ?_)
        refine lv_lstore (lv' := [(8, qJ x1), (4, qJ l4), (6, qJ l6)]) hx hb dX11_common_18 hl (by decide) rfl (fun ls hl => ?_)
        refine lv_lload hx hb dX11_common_20 (lv_at hl 2 rfl) ?_
        refine lv_lstore (lv' := [(4, qJ l6), (8, qJ x1), (6, qJ l6)]) hx hb dX11_common_22 hl (by decide) rfl (fun ls hl => ?_)
        refine lv_lload hx hb dX11_common_24 (lv_at hl 1 rfl) ?_
        refine lv_lstore (lv' := [(6, qJ x1), (4, qJ l6), (8, qJ x1)]) hx hb dX11_common_26 hl (by decide) rfl (fun ls hl => ?_)
        refine lv_goto (tgt := 6) hx hb dX11_common_28 (by decide) ?_
        cases hm
        exact ih6 l6 x1 _ _ _ Hh (lv_sub hl [1, 0] rfl) hc6
  refine lv_lload_n hx hb dX11_common_0 rfl (lv_at hl 0 rfl) ?_
  refine lv_lstore (lv' := [(4, qJ l0), (0, qJ l0), (2, qJ l2)]) hx hb dX11_common_1 hl (by decide) rfl (fun ls hl => ?_)
  refine lv_lload_n hx hb dX11_common_3 rfl (lv_at hl 2 rfl) ?_
  refine lv_lstore (lv' := [(6, qJ l2), (4, qJ l0), (0, qJ l0), (2, qJ l2)]) hx hb dX11_common_4 hl (by decide) rfl (fun ls hl => ?_)
  exact KL6 FU l0 l2 _ _ _ Hh (lv_sub hl [1, 0] rfl) hm
theorem tg_X11_fraction {h : Hp} {l0 l1 l3 l5 : Int} {r : Hp × Int} (hm : M_X11_fraction h l0 l1 l3 l5 = some r) : hT h l0 = 21 := (tk_inv hm).1
set_option maxRecDepth 100000 in
set_option maxHeartbeats 4000000 in
theorem ct_X11_fraction (l : Launch) (g : zGeo) (h0 : Hp) (l0 l1 l3 l5 : Int) (r : Hp × Int) (hm : M_X11_fraction h0 l0 l1 l3 l5 = some r) : zM l yX11_fraction cX11_fraction 6 (some .long) 1 29 0 0 g h0 [qR g l0, qJ l1, qJ l3, qI l5] r.1 (some (qJ r.2)) := by
  refine z_meth (by decide) (Nat.le_of_ble_eq_true rfl) ?_
  intro p e s m args below meth c H ls C hr hlocks hnm Hh hl
  have C : zC p m c cX11_fraction 6 s args RX11 g := C
  have hnm : meth.name = "fraction" := hnm
  have hx := C.1.1
  have hb := C.1.2.1
  have hl : lv_has ls 6 [(0, qR g l0), (1, qJ l1), (3, qJ l3), (5, qI l5)] := hl
  unfold M_X11_fraction at hm
  replace hm := (tk_inv hm).2
  generalize h0 = h at Hh hm
  refine lv_aload_n hx hb dX11_fraction_0 rfl (lv_at hl 0 rfl) ?_
  refine z_iconst C dX11_fraction_1 ?_
  refine z_cVI (vs := [qI 0]) C (fun q hq => ct_X11_good l g h l0 0 q hq) tw_1670 my_X11_good (fun q hq => tg_X11_good hq) rfl hl.1 Hh ⟨Nat.le_of_ble_eq_true rfl, Nat.le_of_ble_eq_true rfl, Nat.le_of_ble_eq_true rfl, Nat.le_of_ble_eq_true rfl⟩ (Nat.le_of_ble_eq_true rfl) dX11_fraction_2 rfl hm (fun h x1 H locs Hh hm => ?_)
  refine lv_pop hx hb dX11_fraction_5 rfl ?_
  refine lv_iload hx hb dX11_fraction_6 (lv_at hl 3 rfl) ?_
  refine z_if_eq (tgt := 15) C dX11_fraction_8 (by decide) rfl hm (fun _ hm => ?_) (fun _ hm => ?_)
  · refine lv_lload_n hx hb dX11_fraction_15 rfl (lv_at hl 1 rfl) ?_
    refine lv_lload_n hx hb dX11_fraction_16 rfl (lv_at hl 1 rfl) ?_
    refine lv_lload_n hx hb dX11_fraction_17 rfl (lv_at hl 2 rfl) ?_
    refine z_cSJr (vs := [qJ l1, qJ l3]) C (fun q hq => ct_X11_common l g h l1 l3 q hq) tw_1810 my_X11_common rfl hl.1 Hh ⟨Nat.le_of_ble_eq_true rfl, Nat.le_of_ble_eq_true rfl, Nat.le_of_ble_eq_true rfl, Nat.le_of_ble_eq_true rfl⟩ (Nat.le_of_ble_eq_true rfl) dX11_fraction_18 rfl hm (fun x2 H locs Hh hm => ?_)
    refine z_ldiv C dX11_fraction_21 hm (fun x3 hm => ?_)
    exact z_lret C hr hlocks Hh dX11_fraction_22 hm
  · refine lv_lload_n hx hb dX11_fraction_11 rfl (lv_at hl 2 rfl) ?_
    refine lv_goto (tgt := 16) hx hb dX11_fraction_12 (by decide) ?_
    refine lv_lload_n hx hb dX11_fraction_16 rfl (lv_at hl 1 rfl) ?_
    refine lv_lload_n hx hb dX11_fraction_17 rfl (lv_at hl 2 rfl) ?_
    refine z_cSJr (vs := [qJ l1, qJ l3]) C (fun q hq => ct_X11_common l g h l1 l3 q hq) tw_1810 my_X11_common rfl hl.1 Hh ⟨Nat.le_of_ble_eq_true rfl, Nat.le_of_ble_eq_true rfl, Nat.le_of_ble_eq_true rfl, Nat.le_of_ble_eq_true rfl⟩ (Nat.le_of_ble_eq_true rfl) dX11_fraction_18 rfl hm (fun x4 H locs Hh hm => ?_)
    refine z_ldiv C dX11_fraction_21 hm (fun x5 hm => ?_)
    exact z_lret C hr hlocks Hh dX11_fraction_22 hm
theorem tg_X11_byteAt {h : Hp} {l0 l1 : Int} {r : Int} (hm : M_X11_byteAt h l0 l1 = some r) : hT h l0 = 21 := (tk_inv hm).1
set_option maxRecDepth 100000 in
set_option maxHeartbeats 4000000 in
theorem ct_X11_byteAt (l : Launch) (g : zGeo) (h : Hp) (l0 l1 : Int) (r : Int) (hm : M_X11_byteAt h l0 l1 = some r) : zM l yX11_byteAt cX11_byteAt 2 (some .int) 0 0 0 0 g h [qR g l0, qI l1] h (some (qI r)) := by
  refine z_meth (by decide) (Nat.le_of_ble_eq_true rfl) ?_
  intro p e s m args below meth c H ls C hr hlocks hnm Hh hl
  have C : zC p m c cX11_byteAt 2 s args RX11 g := C
  have hnm : meth.name = "byteAt" := hnm
  have hx := C.1.1
  have hb := C.1.2.1
  have hl : lv_has ls 2 [(0, qR g l0), (1, qI l1)] := hl
  unfold M_X11_byteAt at hm
  replace hm := (tk_inv hm).2
  refine lv_iload_n hx hb dX11_byteAt_0 rfl (lv_at hl 1 rfl) ?_
  refine lv_aload_n hx hb dX11_byteAt_1 rfl (lv_at hl 0 rfl) ?_
  refine z_getI C fl_11_95 Hh dX11_byteAt_2 rfl hm (fun x1 hm => ?_)
  refine z_icmp_ge (tgt := 21) C dX11_byteAt_5 (by decide) rfl rfl hm (fun _ hm => ?_) (fun _ hm => ?_)
  · refine z_iconst C dX11_byteAt_21 ?_
    exact z_iretR (h0 := h) C hr hlocks Hh dX11_byteAt_22 hm
  · refine lv_aload_n hx hb dX11_byteAt_8 rfl (lv_at hl 0 rfl) ?_
    refine z_getR C fl_11_13 Hh dX11_byteAt_9 rfl hm (fun x2 hm => ?_)
    refine lv_iload_n hx hb dX11_byteAt_12 rfl (lv_at hl 1 rfl) ?_
    refine z_bald C Hh dX11_byteAt_13 hm (fun x3 hm => ?_)
    refine z_sipush C dX11_byteAt_14 rfl ?_
    refine z_iand C dX11_byteAt_17 ?_
    refine lv_goto (tgt := 22) hx hb dX11_byteAt_18 (by decide) ?_
    exact z_iretR (h0 := h) C hr hlocks Hh dX11_byteAt_22 hm
set_option maxRecDepth 100000 in
set_option maxHeartbeats 4000000 in
theorem ct_X11_isLetter (l : Launch) (g : zGeo) (h : Hp) (l0 : Int) (r : Int) (hm : M_X11_isLetter h l0 = some r) : zM l yX11_isLetter cX11_isLetter 1 (some .boolean) 0 0 0 0 g h [qI l0] h (some (qI r)) := by
  refine z_meth (by decide) (Nat.le_of_ble_eq_true rfl) ?_
  intro p e s m args below meth c H ls C hr hlocks hnm Hh hl
  have C : zC p m c cX11_isLetter 1 s args RX11 g := C
  have hnm : meth.name = "isLetter" := hnm
  have hx := C.1.1
  have hb := C.1.2.1
  have hl : lv_has ls 1 [(0, qI l0)] := hl
  unfold M_X11_isLetter at hm
  refine lv_iload_n hx hb dX11_isLetter_0 rfl (lv_at hl 0 rfl) ?_
  refine z_bipush C dX11_isLetter_1 rfl ?_
  refine z_icmp_lt (tgt := 16) C dX11_isLetter_3 (by decide) rfl lq_p97 hm (fun _ hm => ?_) (fun _ hm => ?_)
  · refine z_iconst C dX11_isLetter_16 ?_
    exact z_zretRC C hr hlocks Hh dX11_isLetter_17 (by decide) hm
  · refine lv_iload_n hx hb dX11_isLetter_6 rfl (lv_at hl 0 rfl) ?_
    refine z_bipush C dX11_isLetter_7 rfl ?_
    refine z_icmp_gt (tgt := 16) C dX11_isLetter_9 (by decide) rfl lq_p122 hm (fun _ hm => ?_) (fun _ hm => ?_)
    · refine z_iconst C dX11_isLetter_16 ?_
      exact z_zretRC C hr hlocks Hh dX11_isLetter_17 (by decide) hm
    · refine z_iconst C dX11_isLetter_12 ?_
      refine lv_goto (tgt := 17) hx hb dX11_isLetter_13 (by decide) ?_
      exact z_zretRC C hr hlocks Hh dX11_isLetter_17 (by decide) hm
set_option maxRecDepth 100000 in
set_option maxHeartbeats 4000000 in
theorem ct_X11_isDigit (l : Launch) (g : zGeo) (h : Hp) (l0 : Int) (r : Int) (hm : M_X11_isDigit h l0 = some r) : zM l yX11_isDigit cX11_isDigit 1 (some .boolean) 0 0 0 0 g h [qI l0] h (some (qI r)) := by
  refine z_meth (by decide) (Nat.le_of_ble_eq_true rfl) ?_
  intro p e s m args below meth c H ls C hr hlocks hnm Hh hl
  have C : zC p m c cX11_isDigit 1 s args RX11 g := C
  have hnm : meth.name = "isDigit" := hnm
  have hx := C.1.1
  have hb := C.1.2.1
  have hl : lv_has ls 1 [(0, qI l0)] := hl
  unfold M_X11_isDigit at hm
  refine lv_iload_n hx hb dX11_isDigit_0 rfl (lv_at hl 0 rfl) ?_
  refine z_bipush C dX11_isDigit_1 rfl ?_
  refine z_icmp_lt (tgt := 16) C dX11_isDigit_3 (by decide) rfl lq_p48 hm (fun _ hm => ?_) (fun _ hm => ?_)
  · refine z_iconst C dX11_isDigit_16 ?_
    exact z_zretRC C hr hlocks Hh dX11_isDigit_17 (by decide) hm
  · refine lv_iload_n hx hb dX11_isDigit_6 rfl (lv_at hl 0 rfl) ?_
    refine z_bipush C dX11_isDigit_7 rfl ?_
    refine z_icmp_gt (tgt := 16) C dX11_isDigit_9 (by decide) rfl lq_p57 hm (fun _ hm => ?_) (fun _ hm => ?_)
    · refine z_iconst C dX11_isDigit_16 ?_
      exact z_zretRC C hr hlocks Hh dX11_isDigit_17 (by decide) hm
    · refine z_iconst C dX11_isDigit_12 ?_
      refine lv_goto (tgt := 17) hx hb dX11_isDigit_13 (by decide) ?_
      exact z_zretRC C hr hlocks Hh dX11_isDigit_17 (by decide) hm
set_option maxRecDepth 100000 in
set_option maxHeartbeats 4000000 in
theorem ct_X11_wordOf (l : Launch) (g : zGeo) (h : Hp) (l0 : Int) (r : Int) (hm : M_X11_wordOf h l0 = some r) : zM l yX11_wordOf cX11_wordOf 4 (some .long) 5 150 0 0 g h [qS g l0] h (some (qJ r)) := by
  refine z_meth (by decide) (Nat.le_of_ble_eq_true rfl) ?_
  intro p e s m args below meth c H ls C hr hlocks hnm Hh hl
  have C : zC p m c cX11_wordOf 4 s args RX11 g := C
  have hnm : meth.name = "wordOf" := hnm
  have hx := C.1.1
  have hb := C.1.2.1
  have hl : lv_has ls 4 [(0, qS g l0)] := hl
  unfold M_X11_wordOf at hm
  have K36 : ∀  (l1 : Int) (H : Heap) (locs : List Loc) (ls : Array Slot), zH g s h H locs → lv_has ls 4 [(1, qJ l1)] → M_X11_wordOf_p36 h l1 = some r → W p l e { frames := 5, cells := 0, slots := 0, locals := 150 } s m args below meth c H locs 0 0 (zQ below g h (some (qJ r)) args s 0 0) (F0 m 36 ls []) := by
    intro l1  H locs ls Hh hl hm
    unfold M_X11_wordOf_p36 at hm
    refine lv_lload_n hx hb dX11_wordOf_36 rfl (lv_at hl 0 rfl) ?_
    exact z_lretR C hr hlocks Hh dX11_wordOf_37 hm
  have KL4 : ∀ (n : Nat)  (l0 l1 l3 : Int) (H : Heap) (locs : List Loc) (ls : Array Slot), zH g s h H locs → lv_has ls 4 [(0, qS g l0), (1, qJ l1), (3, qI l3)] → M_X11_wordOf_w4 n h l0 l1 l3 = some r → W p l e { frames := 5, cells := 0, slots := 0, locals := 150 } s m args below meth c H locs 0 0 (zQ below g h (some (qJ r)) args s 0 0) (F0 m 4 ls []) := by
    intro n
    induction n with
    | zero => intro l0 l1 l3 H locs ls Hh hl hm; cases hm
    | succ n ih4 =>
      intro l0 l1 l3 H locs ls Hh hl hm
      obtain ⟨z4, hm, hc4⟩ := wh_inv hm
      have hm : M_X11_wordOf_b4 h l0 l1 l3 = some z4 := hm
      unfold M_X11_wordOf_b4 at hm
      refine lv_iload_n hx hb dX11_wordOf_4 rfl (lv_at hl 2 rfl) ?_
      refine lv_aload_n hx hb dX11_wordOf_5 rfl (lv_at hl 0 rfl) ?_
      refine z_J0_length C tw_1553 hl.1 Hh ⟨Nat.le_of_ble_eq_true rfl, Nat.le_of_ble_eq_true rfl⟩ (Nat.le_of_ble_eq_true rfl) (Nat.le_of_ble_eq_true rfl) (Nat.le_of_ble_eq_true rfl) dX11_wordOf_6 hm (fun x1 H locs Hh hm => ?_)
      refine z_icmp_ge (tgt := 36) C dX11_wordOf_9 (by decide) rfl rfl hm (fun _ hm => ?_) (fun _ hm => ?_)
      · cases hm
        exact K36 l1 _ _ _ Hh (lv_sub hl [1] rfl) hc4
      · refine z_ldc2 (v := 32) C dX11_wordOf_12 tw_1533 rfl ?_
        refine lv_lload_n hx hb dX11_wordOf_15 rfl (lv_at hl 1 rfl) ?_
        refine z_lmul C dX11_wordOf_16 ?_
        refine lv_aload_n hx hb dX11_wordOf_17 rfl (lv_at hl 0 rfl) ?_
        refine lv_iload_n hx hb dX11_wordOf_18 rfl (lv_at hl 2 rfl) ?_
        refine z_J0_charAt C tw_1554 hl.1 Hh ⟨Nat.le_of_ble_eq_true rfl, Nat.le_of_ble_eq_true rfl⟩ (Nat.le_of_ble_eq_true rfl) (Nat.le_of_ble_eq_true rfl) (Nat.le_of_ble_eq_true rfl) dX11_wordOf_19 hm (fun x2 H locs Hh hm => ?_)
        refine z_bipush C dX11_wordOf_22 rfl ?_
        refine z_isub C dX11_wordOf_24 ?_
        refine z_iconst C dX11_wordOf_25 ?_
        refine z_iadd C dX11_wordOf_26 ?_
        refine z_i2l C dX11_wordOf_27 ?_
        refine z_ladd C dX11_wordOf_28 ?_
        refine lv_lstore_n (lv' := [(1, qJ ((32 * l1) + (w32 ((x2 - 97) + 1)))), (0, qS g l0), (3, qI l3)]) hx hb dX11_wordOf_29 rfl hl (by decide) rfl (fun ls hl => ?_)
        refine z_iinc (x := l3) (k := 2) (lv' := [(3, qI (l3 + 1)), (1, qJ ((32 * l1) + (w32 ((x2 - 97) + 1)))), (0, qS g l0)]) C dX11_wordOf_30 hl rfl (by decide) rfl (fun ls hl => ?_)
        refine lv_goto (tgt := 4) hx hb dX11_wordOf_33 (by decide) ?_
        cases hm
        exact ih4 l0 ((32 * l1) + (w32 ((x2 - 97) + 1))) (l3 + 1) _ _ _ Hh (lv_sub hl [2, 1, 0] rfl) hc4
  refine z_lconst (v := 0) C dX11_wordOf_0 rfl ?_
  refine lv_lstore_n (lv' := [(1, qJ 0), (0, qS g l0)]) hx hb dX11_wordOf_1 rfl hl (by decide) rfl (fun ls hl => ?_)
  refine z_iconst C dX11_wordOf_2 ?_
  refine lv_istore_n (lv' := [(3, qI 0), (1, qJ 0), (0, qS g l0)]) hx hb dX11_wordOf_3 rfl hl (by decide) rfl (fun ls hl => ?_)
  exact KL4 FU l0 0 0 _ _ _ Hh (lv_sub hl [2, 1, 0] rfl) hm
theorem tg_X11_goesOn {h : Hp} {l0 : Int} {r : Hp} (hm : M_X11_goesOn h l0 = some r) : hT h l0 = 21 := (tk_inv hm).1
set_option maxRecDepth 100000 in
set_option maxHeartbeats 4000000 in
theorem ct_X11_goesOn (l : Launch) (g : zGeo) (h0 : Hp) (l0 : Int) (r : Hp) (hm : M_X11_goesOn h0 l0 = some r) : zM l yX11_goesOn cX11_goesOn 3 none 1 21 0 0 g h0 [qR g l0] r none := by
  refine z_meth (by decide) (Nat.le_of_ble_eq_true rfl) ?_
  intro p e s m args below meth c H ls C hr hlocks hnm Hh hl
  have C : zC p m c cX11_goesOn 3 s args RX11 g := C
  have hnm : meth.name = "goesOn" := hnm
  have hx := C.1.1
  have hb := C.1.2.1
  have hl : lv_has ls 3 [(0, qR g l0)] := hl
  unfold M_X11_goesOn at hm
  replace hm := (tk_inv hm).2
  generalize h0 = h at Hh hm
  have K266 : ∀ (h : Hp) (l0 l1 : Int) (H : Heap) (locs : List Loc) (ls : Array Slot), zH g s h H locs → lv_has ls 3 [(0, qR g l0), (1, qI l1)] → M_X11_goesOn_p266 h l0 l1 = some r → W p l e { frames := 1, cells := 0, slots := 0, locals := 21 } s m args below meth c H locs 0 0 (zQ below g r none args s 0 0) (F0 m 266 ls []) := by
    intro h l0 l1  H locs ls Hh hl hm
    unfold M_X11_goesOn_p266 at hm
    refine lv_aload_n hx hb dX11_goesOn_266 rfl (lv_at hl 0 rfl) ?_
    refine z_iconst C dX11_goesOn_267 ?_
    refine z_putI C hnm pl_11_110 Hh dX11_goesOn_268 rfl hm (fun h H locs Hh hm => ?_)
    refine lv_aload_n hx hb dX11_goesOn_271 rfl (lv_at hl 0 rfl) ?_
    refine lv_iload_n hx hb dX11_goesOn_272 rfl (lv_at hl 1 rfl) ?_
    refine z_putI C hnm pl_11_122 Hh dX11_goesOn_273 rfl hm (fun h H locs Hh hm => ?_)
    refine lv_aload_n hx hb dX11_goesOn_276 rfl (lv_at hl 0 rfl) ?_
    refine lv_dup hx hb dX11_goesOn_277 rfl ?_
    refine z_getI C fl_11_113 Hh dX11_goesOn_278 rfl hm (fun x1 hm => ?_)
    refine z_iconst C dX11_goesOn_281 ?_
    refine z_iadd C dX11_goesOn_282 ?_
    refine z_putI C hnm pl_11_113 Hh dX11_goesOn_283 rfl hm (fun h H locs Hh hm => ?_)
    exact z_vret C hr hlocks Hh dX11_goesOn_286 hm
  have K241 : ∀ (h : Hp) (l0 l2 : Int) (H : Heap) (locs : List Loc) (ls : Array Slot), zH g s h H locs → lv_has ls 3 [(0, qR g l0), (2, qI l2)] → M_X11_goesOn_p241 h l0 l2 = some r → W p l e { frames := 1, cells := 0, slots := 0, locals := 21 } s m args below meth c H locs 0 0 (zQ below g r none args s 0 0) (F0 m 241 ls []) := by
    intro h l0 l2  H locs ls Hh hl hm
    unfold M_X11_goesOn_p241 at hm
    refine lv_iload_n hx hb dX11_goesOn_241 rfl (lv_at hl 1 rfl) ?_
    refine z_iconst C dX11_goesOn_242 ?_
    refine z_icmp_gt (tgt := 286) C dX11_goesOn_243 (by decide) rfl lq_p2 hm (fun _ hm => ?_) (fun _ hm => ?_)
    · exact z_vret C hr hlocks Hh dX11_goesOn_286 hm
    · refine lv_aload_n hx hb dX11_goesOn_246 rfl (lv_at hl 0 rfl) ?_
      refine z_iconst C dX11_goesOn_247 ?_
      refine z_putI C hnm pl_11_110 Hh dX11_goesOn_248 rfl hm (fun h H locs Hh hm => ?_)
      refine lv_goto (tgt := 286) hx hb dX11_goesOn_251 (by decide) ?_
      exact z_vret C hr hlocks Hh dX11_goesOn_286 hm
  have KL183 : ∀ (n : Nat) (h : Hp) (l0 l2 : Int) (H : Heap) (locs : List Loc) (ls : Array Slot), zH g s h H locs → lv_has ls 3 [(0, qR g l0), (2, qI l2)] → M_X11_goesOn_w183 n h l0 l2 = some r → W p l e { frames := 1, cells := 0, slots := 0, locals := 21 } s m args below meth c H locs 0 0 (zQ below g r none args s 0 0) (F0 m 183 ls []) := by
    intro n
    induction n with
    | zero => intro h l0 l2 H locs ls Hh hl hm; cases hm
    | succ n ih183 =>
      intro h l0 l2 H locs ls Hh hl hm
      obtain ⟨z183, hm, hc183⟩ := wh_inv hm
      have hm : M_X11_goesOn_b183 h l0 l2 = some z183 := hm
      have K225 : ∀ (h : Hp) (l2 : Int) (H : Heap) (locs : List Loc) (ls : Array Slot), zH g s h H locs → lv_has ls 3 [(0, qR g l0), (2, qI l2)] → M_X11_goesOn_p225 h l0 l2 = some z183 → W p l e { frames := 1, cells := 0, slots := 0, locals := 21 } s m args below meth c H locs 0 0 (zQ below g r none args s 0 0) (F0 m 225 ls []) := by
        intro h l2  H locs ls Hh hl hm
        unfold M_X11_goesOn_p225 at hm
        refine z_iinc (x := l2) (k := 1) (lv' := [(2, qI (l2 + 1)), (0, qR g l0)]) C dX11_goesOn_225 hl rfl (by decide) rfl (fun ls hl => ?_)
        refine lv_aload_n hx hb dX11_goesOn_228 rfl (lv_at hl 1 rfl) ?_
        refine lv_dup hx hb dX11_goesOn_229 rfl ?_
        refine z_getI C fl_11_113 Hh dX11_goesOn_230 rfl hm (fun x2 hm => ?_)
        refine z_iconst C dX11_goesOn_233 ?_
        refine z_iadd C dX11_goesOn_234 ?_
        refine z_putI C hnm pl_11_113 Hh dX11_goesOn_235 rfl hm (fun h H locs Hh hm => ?_)
        refine lv_goto (tgt := 183) hx hb dX11_goesOn_238 (by decide) ?_
        cases hm
        exact ih183 h l0 (l2 + 1) _ _ _ Hh (lv_sub hl [1, 0] rfl) hc183
      unfold M_X11_goesOn_b183 at hm
      refine lv_aload_n hx hb dX11_goesOn_183 rfl (lv_at hl 0 rfl) ?_
      refine lv_aload_n hx hb dX11_goesOn_184 rfl (lv_at hl 0 rfl) ?_
      refine z_getI C fl_11_113 Hh dX11_goesOn_185 rfl hm (fun x3 hm => ?_)
      refine z_cVIr (vs := [qI x3]) C (fun q hq => ct_X11_byteAt l g h l0 x3 q hq) tw_1526 my_X11_byteAt (fun q hq => tg_X11_byteAt hq) rfl hl.1 Hh ⟨Nat.le_of_ble_eq_true rfl, Nat.le_of_ble_eq_true rfl, Nat.le_of_ble_eq_true rfl, Nat.le_of_ble_eq_true rfl⟩ (Nat.le_of_ble_eq_true rfl) dX11_goesOn_188 rfl hm (fun x4 H locs Hh hm => ?_)
      refine z_cSIr (vs := [qI x4]) C (fun q hq => ct_X11_isDigit l g h x4 q hq) tw_1534 my_X11_isDigit rfl hl.1 Hh ⟨Nat.le_of_ble_eq_true rfl, Nat.le_of_ble_eq_true rfl, Nat.le_of_ble_eq_true rfl, Nat.le_of_ble_eq_true rfl⟩ (Nat.le_of_ble_eq_true rfl) dX11_goesOn_191 rfl hm (fun x5 H locs Hh hm => ?_)
      refine z_if_eq (tgt := 241) C dX11_goesOn_194 (by decide) rfl hm (fun _ hm => ?_) (fun _ hm => ?_)
      · cases hm
        exact K241 h l0 l2 _ _ _ Hh (lv_sub hl [0, 1] rfl) hc183
      · refine lv_iload_n hx hb dX11_goesOn_197 rfl (lv_at hl 1 rfl) ?_
        refine z_iconst C dX11_goesOn_198 ?_
        refine z_icmp_ge (tgt := 225) C dX11_goesOn_199 (by decide) rfl lq_p2 hm (fun _ hm => ?_) (fun _ hm => ?_)
        · exact K225 h l2 _ _ _ Hh (lv_sub hl [0, 1] rfl) hm
        · refine lv_aload_n hx hb dX11_goesOn_202 rfl (lv_at hl 0 rfl) ?_
          refine z_bipush C dX11_goesOn_203 rfl ?_
          refine lv_aload_n hx hb dX11_goesOn_205 rfl (lv_at hl 0 rfl) ?_
          refine z_getI C fl_11_139 Hh dX11_goesOn_206 rfl hm (fun x6 hm => ?_)
          refine z_imul C dX11_goesOn_209 ?_
          refine lv_aload_n hx hb dX11_goesOn_210 rfl (lv_at hl 0 rfl) ?_
          refine lv_aload_n hx hb dX11_goesOn_211 rfl (lv_at hl 0 rfl) ?_
          refine z_getI C fl_11_113 Hh dX11_goesOn_212 rfl hm (fun x7 hm => ?_)
          refine z_cVIr (vs := [qI x7]) C (fun q hq => ct_X11_byteAt l g h l0 x7 q hq) tw_1526 my_X11_byteAt (fun q hq => tg_X11_byteAt hq) rfl hl.1 Hh ⟨Nat.le_of_ble_eq_true rfl, Nat.le_of_ble_eq_true rfl, Nat.le_of_ble_eq_true rfl, Nat.le_of_ble_eq_true rfl⟩ (Nat.le_of_ble_eq_true rfl) dX11_goesOn_215 rfl hm (fun x8 H locs Hh hm => ?_)
          refine z_iadd C dX11_goesOn_218 ?_
          refine z_bipush C dX11_goesOn_219 rfl ?_
          refine z_isub C dX11_goesOn_221 ?_
          refine z_putI C hnm pl_11_139 Hh dX11_goesOn_222 rfl hm (fun h H locs Hh hm => ?_)
          exact K225 h l2 _ _ _ Hh (lv_sub hl [0, 1] rfl) hm
  have K152 : ∀ (h : Hp) (l0 l2 : Int) (H : Heap) (locs : List Loc) (ls : Array Slot), zH g s h H locs → lv_has ls 3 [(0, qR g l0), (2, qI l2)] → M_X11_goesOn_p152 h l0 l2 = some r → W p l e { frames := 1, cells := 0, slots := 0, locals := 21 } s m args below meth c H locs 0 0 (zQ below g r none args s 0 0) (F0 m 152 ls []) := by
    intro h l0 l2  H locs ls Hh hl hm
    unfold M_X11_goesOn_p152 at hm
    refine lv_aload_n hx hb dX11_goesOn_152 rfl (lv_at hl 0 rfl) ?_
    refine lv_iload_n hx hb dX11_goesOn_153 rfl (lv_at hl 1 rfl) ?_
    refine z_putI C hnm pl_11_133 Hh dX11_goesOn_154 rfl hm (fun h H locs Hh hm => ?_)
    refine lv_iload_n hx hb dX11_goesOn_157 rfl (lv_at hl 1 rfl) ?_
    refine z_bipush C dX11_goesOn_158 rfl ?_
    refine z_icmp_gt (tgt := 286) C dX11_goesOn_160 (by decide) rfl lq_p8 hm (fun _ hm => ?_) (fun _ hm => ?_)
    · exact z_vret C hr hlocks Hh dX11_goesOn_286 hm
    · refine lv_aload_n hx hb dX11_goesOn_163 rfl (lv_at hl 0 rfl) ?_
      refine z_iconst C dX11_goesOn_164 ?_
      refine z_putI C hnm pl_11_110 Hh dX11_goesOn_165 rfl hm (fun h H locs Hh hm => ?_)
      refine lv_goto (tgt := 286) hx hb dX11_goesOn_168 (by decide) ?_
      exact z_vret C hr hlocks Hh dX11_goesOn_286 hm
  have KL89 : ∀ (n : Nat) (h : Hp) (l0 l2 : Int) (H : Heap) (locs : List Loc) (ls : Array Slot), zH g s h H locs → lv_has ls 3 [(0, qR g l0), (2, qI l2)] → M_X11_goesOn_w89 n h l0 l2 = some r → W p l e { frames := 1, cells := 0, slots := 0, locals := 21 } s m args below meth c H locs 0 0 (zQ below g r none args s 0 0) (F0 m 89 ls []) := by
    intro n
    induction n with
    | zero => intro h l0 l2 H locs ls Hh hl hm; cases hm
    | succ n ih89 =>
      intro h l0 l2 H locs ls Hh hl hm
      obtain ⟨z89, hm, hc89⟩ := wh_inv hm
      have hm : M_X11_goesOn_b89 h l0 l2 = some z89 := hm
      have K136 : ∀ (h : Hp) (l2 : Int) (H : Heap) (locs : List Loc) (ls : Array Slot), zH g s h H locs → lv_has ls 3 [(0, qR g l0), (2, qI l2)] → M_X11_goesOn_p136 h l0 l2 = some z89 → W p l e { frames := 1, cells := 0, slots := 0, locals := 21 } s m args below meth c H locs 0 0 (zQ below g r none args s 0 0) (F0 m 136 ls []) := by
        intro h l2  H locs ls Hh hl hm
        unfold M_X11_goesOn_p136 at hm
        refine z_iinc (x := l2) (k := 1) (lv' := [(2, qI (l2 + 1)), (0, qR g l0)]) C dX11_goesOn_136 hl rfl (by decide) rfl (fun ls hl => ?_)
        refine lv_aload_n hx hb dX11_goesOn_139 rfl (lv_at hl 1 rfl) ?_
        refine lv_dup hx hb dX11_goesOn_140 rfl ?_
        refine z_getI C fl_11_113 Hh dX11_goesOn_141 rfl hm (fun x9 hm => ?_)
        refine z_iconst C dX11_goesOn_144 ?_
        refine z_iadd C dX11_goesOn_145 ?_
        refine z_putI C hnm pl_11_113 Hh dX11_goesOn_146 rfl hm (fun h H locs Hh hm => ?_)
        refine lv_goto (tgt := 89) hx hb dX11_goesOn_149 (by decide) ?_
        cases hm
        exact ih89 h l0 (l2 + 1) _ _ _ Hh (lv_sub hl [1, 0] rfl) hc89
      unfold M_X11_goesOn_b89 at hm
      refine lv_aload_n hx hb dX11_goesOn_89 rfl (lv_at hl 0 rfl) ?_
      refine lv_aload_n hx hb dX11_goesOn_90 rfl (lv_at hl 0 rfl) ?_
      refine z_getI C fl_11_113 Hh dX11_goesOn_91 rfl hm (fun x10 hm => ?_)
      refine z_cVIr (vs := [qI x10]) C (fun q hq => ct_X11_byteAt l g h l0 x10 q hq) tw_1526 my_X11_byteAt (fun q hq => tg_X11_byteAt hq) rfl hl.1 Hh ⟨Nat.le_of_ble_eq_true rfl, Nat.le_of_ble_eq_true rfl, Nat.le_of_ble_eq_true rfl, Nat.le_of_ble_eq_true rfl⟩ (Nat.le_of_ble_eq_true rfl) dX11_goesOn_94 rfl hm (fun x11 H locs Hh hm => ?_)
      refine z_cSIr (vs := [qI x11]) C (fun q hq => ct_X11_isLetter l g h x11 q hq) tw_1530 my_X11_isLetter rfl hl.1 Hh ⟨Nat.le_of_ble_eq_true rfl, Nat.le_of_ble_eq_true rfl, Nat.le_of_ble_eq_true rfl, Nat.le_of_ble_eq_true rfl⟩ (Nat.le_of_ble_eq_true rfl) dX11_goesOn_97 rfl hm (fun x12 H locs Hh hm => ?_)
      refine z_if_eq (tgt := 152) C dX11_goesOn_100 (by decide) rfl hm (fun _ hm => ?_) (fun _ hm => ?_)
      · cases hm
        exact K152 h l0 l2 _ _ _ Hh (lv_sub hl [0, 1] rfl) hc89
      · refine lv_iload_n hx hb dX11_goesOn_103 rfl (lv_at hl 1 rfl) ?_
        refine z_bipush C dX11_goesOn_104 rfl ?_
        refine z_icmp_ge (tgt := 136) C dX11_goesOn_106 (by decide) rfl lq_p8 hm (fun _ hm => ?_) (fun _ hm => ?_)
        · exact K136 h l2 _ _ _ Hh (lv_sub hl [0, 1] rfl) hm
        · refine lv_aload_n hx hb dX11_goesOn_109 rfl (lv_at hl 0 rfl) ?_
          refine z_ldc2 (v := 32) C dX11_goesOn_110 tw_1533 rfl ?_
          refine lv_aload_n hx hb dX11_goesOn_113 rfl (lv_at hl 0 rfl) ?_
          refine z_getJ C fl_11_129 Hh dX11_goesOn_114 rfl hm (fun x13 hm => ?_)
          refine z_lmul C dX11_goesOn_117 ?_
          refine lv_aload_n hx hb dX11_goesOn_118 rfl (lv_at hl 0 rfl) ?_
          refine lv_aload_n hx hb dX11_goesOn_119 rfl (lv_at hl 0 rfl) ?_
          refine z_getI C fl_11_113 Hh dX11_goesOn_120 rfl hm (fun x14 hm => ?_)
          refine z_cVIr (vs := [qI x14]) C (fun q hq => ct_X11_byteAt l g h l0 x14 q hq) tw_1526 my_X11_byteAt (fun q hq => tg_X11_byteAt hq) rfl hl.1 Hh ⟨Nat.le_of_ble_eq_true rfl, Nat.le_of_ble_eq_true rfl, Nat.le_of_ble_eq_true rfl, Nat.le_of_ble_eq_true rfl⟩ (Nat.le_of_ble_eq_true rfl) dX11_goesOn_123 rfl hm (fun x15 H locs Hh hm => ?_)
          refine z_bipush C dX11_goesOn_126 rfl ?_
          refine z_isub C dX11_goesOn_128 ?_
          refine z_iconst C dX11_goesOn_129 ?_
          refine z_iadd C dX11_goesOn_130 ?_
          refine z_i2l C dX11_goesOn_131 ?_
          refine z_ladd C dX11_goesOn_132 ?_
          refine z_putJ C hnm pl_11_129 Hh dX11_goesOn_133 rfl hm (fun h H locs Hh hm => ?_)
          exact K136 h l2 _ _ _ Hh (lv_sub hl [0, 1] rfl) hm
  have K35 : ∀ (h : Hp) (l0 : Int) (H : Heap) (locs : List Loc) (ls : Array Slot), zH g s h H locs → lv_has ls 3 [(0, qR g l0)] → M_X11_goesOn_p35 h l0 = some r → W p l e { frames := 1, cells := 0, slots := 0, locals := 21 } s m args below meth c H locs 0 0 (zQ below g r none args s 0 0) (F0 m 35 ls []) := by
    intro h l0  H locs ls Hh hl hm
    unfold M_X11_goesOn_p35 at hm
    refine lv_aload_n hx hb dX11_goesOn_35 rfl (lv_at hl 0 rfl) ?_
    refine lv_aload_n hx hb dX11_goesOn_36 rfl (lv_at hl 0 rfl) ?_
    refine z_getI C fl_11_113 Hh dX11_goesOn_37 rfl hm (fun x16 hm => ?_)
    refine z_putI C hnm pl_11_119 Hh dX11_goesOn_40 rfl hm (fun h H locs Hh hm => ?_)
    refine lv_aload_n hx hb dX11_goesOn_43 rfl (lv_at hl 0 rfl) ?_
    refine z_iconst C dX11_goesOn_44 ?_
    refine z_putI C hnm pl_11_110 Hh dX11_goesOn_45 rfl hm (fun h H locs Hh hm => ?_)
    refine lv_aload_n hx hb dX11_goesOn_48 rfl (lv_at hl 0 rfl) ?_
    refine z_iconst C dX11_goesOn_49 ?_
    refine z_putI C hnm pl_11_122 Hh dX11_goesOn_50 rfl hm (fun h H locs Hh hm => ?_)
    refine lv_aload_n hx hb dX11_goesOn_53 rfl (lv_at hl 0 rfl) ?_
    refine lv_aload_n hx hb dX11_goesOn_54 rfl (lv_at hl 0 rfl) ?_
    refine z_getI C fl_11_113 Hh dX11_goesOn_55 rfl hm (fun x17 hm => ?_)
    refine z_cVIr (vs := [qI x17]) C (fun q hq => ct_X11_byteAt l g h l0 x17 q hq) tw_1526 my_X11_byteAt (fun q hq => tg_X11_byteAt hq) rfl hl.1 Hh ⟨Nat.le_of_ble_eq_true rfl, Nat.le_of_ble_eq_true rfl, Nat.le_of_ble_eq_true rfl, Nat.le_of_ble_eq_true rfl⟩ (Nat.le_of_ble_eq_true rfl) dX11_goesOn_58 rfl hm (fun x18 H locs Hh hm => ?_)
    refine lv_istore_n (lv' := [(1, qI x18), (0, qR g l0)]) hx hb dX11_goesOn_61 rfl hl (by decide) rfl (fun ls hl => ?_)
    refine z_iconst C dX11_goesOn_62 ?_
    refine lv_istore_n (lv' := [(2, qI 0), (1, qI x18), (0, qR g l0)]) hx hb dX11_goesOn_63 rfl hl (by decide) rfl (fun ls hl => ?_)
    refine lv_iload_n hx hb dX11_goesOn_64 rfl (lv_at hl 1 rfl) ?_
    refine z_iconst C dX11_goesOn_65 ?_
    refine z_icmp_ne (tgt := 77) C dX11_goesOn_66 (by decide) rfl lq_m1 hm (fun _ hm => ?_) (fun _ hm => ?_)
    · refine lv_iload_n hx hb dX11_goesOn_77 rfl (lv_at hl 1 rfl) ?_
      refine z_cSIr (vs := [qI x18]) C (fun q hq => ct_X11_isLetter l g h x18 q hq) tw_1530 my_X11_isLetter rfl hl.1 Hh ⟨Nat.le_of_ble_eq_true rfl, Nat.le_of_ble_eq_true rfl, Nat.le_of_ble_eq_true rfl, Nat.le_of_ble_eq_true rfl⟩ (Nat.le_of_ble_eq_true rfl) dX11_goesOn_78 rfl hm (fun x19 H locs Hh hm => ?_)
      refine z_if_eq (tgt := 171) C dX11_goesOn_81 (by decide) rfl hm (fun _ hm => ?_) (fun _ hm => ?_)
      · refine lv_iload_n hx hb dX11_goesOn_171 rfl (lv_at hl 1 rfl) ?_
        refine z_cSIr (vs := [qI x18]) C (fun q hq => ct_X11_isDigit l g h x18 q hq) tw_1534 my_X11_isDigit rfl hl.1 Hh ⟨Nat.le_of_ble_eq_true rfl, Nat.le_of_ble_eq_true rfl, Nat.le_of_ble_eq_true rfl, Nat.le_of_ble_eq_true rfl⟩ (Nat.le_of_ble_eq_true rfl) dX11_goesOn_172 rfl hm (fun x20 H locs Hh hm => ?_)
        refine z_if_eq (tgt := 254) C dX11_goesOn_175 (by decide) rfl hm (fun _ hm => ?_) (fun _ hm => ?_)
        · refine lv_iload_n hx hb dX11_goesOn_254 rfl (lv_at hl 1 rfl) ?_
          refine z_bipush C dX11_goesOn_255 rfl ?_
          refine z_icmp_eq (tgt := 266) C dX11_goesOn_257 (by decide) rfl lq_p59 hm (fun _ hm => ?_) (fun _ hm => ?_)
          · exact K266 h l0 x18 _ _ _ Hh (lv_sub hl [2, 1] rfl) hm
          · refine lv_iload_n hx hb dX11_goesOn_260 rfl (lv_at hl 1 rfl) ?_
            refine z_bipush C dX11_goesOn_261 rfl ?_
            refine z_icmp_ne (tgt := 286) C dX11_goesOn_263 (by decide) rfl lq_p44 hm (fun _ hm => ?_) (fun _ hm => ?_)
            · exact z_vret C hr hlocks Hh dX11_goesOn_286 hm
            · exact K266 h l0 x18 _ _ _ Hh (lv_sub hl [2, 1] rfl) hm
        · refine lv_aload_n hx hb dX11_goesOn_178 rfl (lv_at hl 2 rfl) ?_
          refine z_iconst C dX11_goesOn_179 ?_
          refine z_putI C hnm pl_11_139 Hh dX11_goesOn_180 rfl hm (fun h H locs Hh hm => ?_)
          exact KL183 FU h l0 0 _ _ _ Hh (lv_sub hl [2, 0] rfl) hm
      · refine lv_aload_n hx hb dX11_goesOn_84 rfl (lv_at hl 2 rfl) ?_
        refine z_lconst (v := 0) C dX11_goesOn_85 rfl ?_
        refine z_putJ C hnm pl_11_129 Hh dX11_goesOn_86 rfl hm (fun h H locs Hh hm => ?_)
        exact KL89 FU h l0 0 _ _ _ Hh (lv_sub hl [2, 0] rfl) hm
    · refine lv_aload_n hx hb dX11_goesOn_69 rfl (lv_at hl 2 rfl) ?_
      refine z_iconst C dX11_goesOn_70 ?_
      refine z_putI C hnm pl_11_110 Hh dX11_goesOn_71 rfl hm (fun h H locs Hh hm => ?_)
      refine lv_goto (tgt := 286) hx hb dX11_goesOn_74 (by decide) ?_
      exact z_vret C hr hlocks Hh dX11_goesOn_286 hm
  have KL9 : ∀ (n : Nat) (h : Hp) (l0 : Int) (H : Heap) (locs : List Loc) (ls : Array Slot), zH g s h H locs → lv_has ls 3 [(0, qR g l0)] → M_X11_goesOn_w9 n h l0 = some r → W p l e { frames := 1, cells := 0, slots := 0, locals := 21 } s m args below meth c H locs 0 0 (zQ below g r none args s 0 0) (F0 m 9 ls []) := by
    intro n
    induction n with
    | zero => intro h l0 H locs ls Hh hl hm; cases hm
    | succ n ih9 =>
      intro h l0 H locs ls Hh hl hm
      obtain ⟨z9, hm, hc9⟩ := wh_inv hm
      have hm : M_X11_goesOn_b9 h l0 = some z9 := hm
      unfold M_X11_goesOn_b9 at hm
      refine lv_aload_n hx hb dX11_goesOn_9 rfl (lv_at hl 0 rfl) ?_
      refine lv_aload_n hx hb dX11_goesOn_10 rfl (lv_at hl 0 rfl) ?_
      refine z_getI C fl_11_113 Hh dX11_goesOn_11 rfl hm (fun x21 hm => ?_)
      refine z_cVIr (vs := [qI x21]) C (fun q hq => ct_X11_byteAt l g h l0 x21 q hq) tw_1526 my_X11_byteAt (fun q hq => tg_X11_byteAt hq) rfl hl.1 Hh ⟨Nat.le_of_ble_eq_true rfl, Nat.le_of_ble_eq_true rfl, Nat.le_of_ble_eq_true rfl, Nat.le_of_ble_eq_true rfl⟩ (Nat.le_of_ble_eq_true rfl) dX11_goesOn_14 rfl hm (fun x22 H locs Hh hm => ?_)
      refine z_bipush C dX11_goesOn_17 rfl ?_
      refine z_icmp_ne (tgt := 35) C dX11_goesOn_19 (by decide) rfl lq_p32 hm (fun _ hm => ?_) (fun _ hm => ?_)
      · cases hm
        exact K35 h l0 _ _ _ Hh (lv_sub hl [0] rfl) hc9
      · refine lv_aload_n hx hb dX11_goesOn_22 rfl (lv_at hl 0 rfl) ?_
        refine lv_dup hx hb dX11_goesOn_23 rfl ?_
        refine z_getI C fl_11_113 Hh dX11_goesOn_24 rfl hm (fun x23 hm => ?_)
        refine z_iconst C dX11_goesOn_27 ?_
        refine z_iadd C dX11_goesOn_28 ?_
        refine z_putI C hnm pl_11_113 Hh dX11_goesOn_29 rfl hm (fun h H locs Hh hm => ?_)
        refine lv_goto (tgt := 9) hx hb dX11_goesOn_32 (by decide) ?_
        cases hm
        exact ih9 h l0 _ _ _ Hh (lv_sub hl [0] rfl) hc9
  refine lv_aload_n hx hb dX11_goesOn_0 rfl (lv_at hl 0 rfl) ?_
  refine z_getI C fl_11_110 Hh dX11_goesOn_1 rfl hm (fun x24 hm => ?_)
  refine z_iconst C dX11_goesOn_4 ?_
  refine z_icmp_ne (tgt := 9) C dX11_goesOn_5 (by decide) rfl lq_p5 hm (fun _ hm => ?_) (fun _ hm => ?_)
  · exact KL9 FU h l0 _ _ _ Hh (lv_sub hl [0] rfl) hm
  · exact z_vret C hr hlocks Hh dX11_goesOn_8 hm
theorem tg_X11_flaw {h : Hp} {l0 l1 : Int} {r : Hp} (hm : M_X11_flaw h l0 l1 = some r) : hT h l0 = 21 := (tk_inv hm).1
set_option maxRecDepth 100000 in
set_option maxHeartbeats 4000000 in
theorem ct_X11_flaw (l : Launch) (g : zGeo) (h0 : Hp) (l0 l1 : Int) (r : Hp) (hm : M_X11_flaw h0 l0 l1 = some r) : zM l yX11_flaw cX11_flaw 2 none 0 0 0 0 g h0 [qR g l0, qI l1] r none := by
  refine z_meth (by decide) (Nat.le_of_ble_eq_true rfl) ?_
  intro p e s m args below meth c H ls C hr hlocks hnm Hh hl
  have C : zC p m c cX11_flaw 2 s args RX11 g := C
  have hnm : meth.name = "flaw" := hnm
  have hx := C.1.1
  have hb := C.1.2.1
  have hl : lv_has ls 2 [(0, qR g l0), (1, qI l1)] := hl
  unfold M_X11_flaw at hm
  replace hm := (tk_inv hm).2
  generalize h0 = h at Hh hm
  refine lv_aload_n hx hb dX11_flaw_0 rfl (lv_at hl 0 rfl) ?_
  refine z_getI C fl_11_110 Hh dX11_flaw_1 rfl hm (fun x1 hm => ?_)
  refine z_iconst C dX11_flaw_4 ?_
  refine z_icmp_ne (tgt := 9) C dX11_flaw_5 (by decide) rfl lq_p5 hm (fun _ hm => ?_) (fun _ hm => ?_)
  · refine lv_aload_n hx hb dX11_flaw_9 rfl (lv_at hl 0 rfl) ?_
    refine lv_iload_n hx hb dX11_flaw_10 rfl (lv_at hl 1 rfl) ?_
    refine z_putI C hnm pl_11_142 Hh dX11_flaw_11 rfl hm (fun h H locs Hh hm => ?_)
    refine lv_aload_n hx hb dX11_flaw_14 rfl (lv_at hl 0 rfl) ?_
    refine lv_aload_n hx hb dX11_flaw_15 rfl (lv_at hl 0 rfl) ?_
    refine z_getI C fl_11_119 Hh dX11_flaw_16 rfl hm (fun x2 hm => ?_)
    refine z_putI C hnm pl_11_145 Hh dX11_flaw_19 rfl hm (fun h H locs Hh hm => ?_)
    refine lv_aload_n hx hb dX11_flaw_22 rfl (lv_at hl 0 rfl) ?_
    refine z_iconst C dX11_flaw_23 ?_
    refine z_putI C hnm pl_11_110 Hh dX11_flaw_24 rfl hm (fun h H locs Hh hm => ?_)
    exact z_vret C hr hlocks Hh dX11_flaw_27 hm
  · exact z_vret C hr hlocks Hh dX11_flaw_8 hm
theorem tg_X11_isWord {h : Hp} {l0 l1 : Int} {r : Int} (hm : M_X11_isWord h l0 l1 = some r) : hT h l0 = 21 := (tk_inv hm).1
set_option maxRecDepth 100000 in
set_option maxHeartbeats 4000000 in
theorem ct_X11_isWord (l : Launch) (g : zGeo) (h : Hp) (l0 l1 : Int) (r : Int) (hm : M_X11_isWord h l0 l1 = some r) : zM l yX11_isWord cX11_isWord 2 (some .boolean) 6 173 0 0 g h [qR g l0, qS g l1] h (some (qI r)) := by
  refine z_meth (by decide) (Nat.le_of_ble_eq_true rfl) ?_
  intro p e s m args below meth c H ls C hr hlocks hnm Hh hl
  have C : zC p m c cX11_isWord 2 s args RX11 g := C
  have hnm : meth.name = "isWord" := hnm
  have hx := C.1.1
  have hb := C.1.2.1
  have hl : lv_has ls 2 [(0, qR g l0), (1, qS g l1)] := hl
  unfold M_X11_isWord at hm
  replace hm := (tk_inv hm).2
  refine lv_aload_n hx hb dX11_isWord_0 rfl (lv_at hl 0 rfl) ?_
  refine z_getI C fl_11_110 Hh dX11_isWord_1 rfl hm (fun x1 hm => ?_)
  refine z_iconst C dX11_isWord_4 ?_
  refine z_icmp_ne (tgt := 24) C dX11_isWord_5 (by decide) rfl lq_p2 hm (fun _ hm => ?_) (fun _ hm => ?_)
  · refine z_iconst C dX11_isWord_24 ?_
    exact z_zretRC C hr hlocks Hh dX11_isWord_25 (by decide) hm
  · refine lv_aload_n hx hb dX11_isWord_8 rfl (lv_at hl 0 rfl) ?_
    refine z_getJ C fl_11_129 Hh dX11_isWord_9 rfl hm (fun x2 hm => ?_)
    refine lv_aload_n hx hb dX11_isWord_12 rfl (lv_at hl 1 rfl) ?_
    refine z_cSJr (vs := [qS g l1]) C (fun q hq => ct_X11_wordOf l g h l1 q hq) tw_1550 my_X11_wordOf rfl hl.1 Hh ⟨Nat.le_of_ble_eq_true rfl, Nat.le_of_ble_eq_true rfl, Nat.le_of_ble_eq_true rfl, Nat.le_of_ble_eq_true rfl⟩ (Nat.le_of_ble_eq_true rfl) dX11_isWord_13 rfl hm (fun x3 H locs Hh hm => ?_)
    refine z_lcmp C dX11_isWord_16 ?_
    refine z_if_ne (tgt := 24) C dX11_isWord_17 (by decide) rfl hm (fun _ hm => ?_) (fun _ hm => ?_)
    · refine z_iconst C dX11_isWord_24 ?_
      exact z_zretRC C hr hlocks Hh dX11_isWord_25 (by decide) hm
    · refine z_iconst C dX11_isWord_20 ?_
      refine lv_goto (tgt := 25) hx hb dX11_isWord_21 (by decide) ?_
      exact z_zretRC C hr hlocks Hh dX11_isWord_25 (by decide) hm
theorem tg_X11_isSign {h : Hp} {l0 l1 : Int} {r : Int} (hm : M_X11_isSign h l0 l1 = some r) : hT h l0 = 21 := (tk_inv hm).1
set_option maxRecDepth 100000 in
set_option maxHeartbeats 4000000 in
theorem ct_X11_isSign (l : Launch) (g : zGeo) (h : Hp) (l0 l1 : Int) (r : Int) (hm : M_X11_isSign h l0 l1 = some r) : zM l yX11_isSign cX11_isSign 2 (some .boolean) 0 0 0 0 g h [qR g l0, qI l1] h (some (qI r)) := by
  refine z_meth (by decide) (Nat.le_of_ble_eq_true rfl) ?_
  intro p e s m args below meth c H ls C hr hlocks hnm Hh hl
  have C : zC p m c cX11_isSign 2 s args RX11 g := C
  have hnm : meth.name = "isSign" := hnm
  have hx := C.1.1
  have hb := C.1.2.1
  have hl : lv_has ls 2 [(0, qR g l0), (1, qI l1)] := hl
  unfold M_X11_isSign at hm
  replace hm := (tk_inv hm).2
  refine lv_aload_n hx hb dX11_isSign_0 rfl (lv_at hl 0 rfl) ?_
  refine z_getI C fl_11_110 Hh dX11_isSign_1 rfl hm (fun x1 hm => ?_)
  refine z_iconst C dX11_isSign_4 ?_
  refine z_icmp_ne (tgt := 20) C dX11_isSign_5 (by decide) rfl lq_p4 hm (fun _ hm => ?_) (fun _ hm => ?_)
  · refine z_iconst C dX11_isSign_20 ?_
    exact z_zretRC C hr hlocks Hh dX11_isSign_21 (by decide) hm
  · refine lv_aload_n hx hb dX11_isSign_8 rfl (lv_at hl 0 rfl) ?_
    refine z_getI C fl_11_122 Hh dX11_isSign_9 rfl hm (fun x2 hm => ?_)
    refine lv_iload_n hx hb dX11_isSign_12 rfl (lv_at hl 1 rfl) ?_
    refine z_icmp_ne (tgt := 20) C dX11_isSign_13 (by decide) rfl rfl hm (fun _ hm => ?_) (fun _ hm => ?_)
    · refine z_iconst C dX11_isSign_20 ?_
      exact z_zretRC C hr hlocks Hh dX11_isSign_21 (by decide) hm
    · refine z_iconst C dX11_isSign_16 ?_
      refine lv_goto (tgt := 21) hx hb dX11_isSign_17 (by decide) ?_
      exact z_zretRC C hr hlocks Hh dX11_isSign_21 (by decide) hm
theorem tg_X11_eatsSign {h : Hp} {l0 l1 : Int} {r : Hp × Int} (hm : M_X11_eatsSign h l0 l1 = some r) : hT h l0 = 21 := (tk_inv hm).1
set_option maxRecDepth 100000 in
set_option maxHeartbeats 4000000 in
theorem ct_X11_eatsSign (l : Launch) (g : zGeo) (h0 : Hp) (l0 l1 : Int) (r : Hp × Int) (hm : M_X11_eatsSign h0 l0 l1 = some r) : zM l yX11_eatsSign cX11_eatsSign 3 (some .boolean) 2 43 0 0 g h0 [qR g l0, qI l1] r.1 (some (qI r.2)) := by
  refine z_meth (by decide) (Nat.le_of_ble_eq_true rfl) ?_
  intro p e s m args below meth c H ls C hr hlocks hnm Hh hl
  have C : zC p m c cX11_eatsSign 3 s args RX11 g := C
  have hnm : meth.name = "eatsSign" := hnm
  have hx := C.1.1
  have hb := C.1.2.1
  have hl : lv_has ls 3 [(0, qR g l0), (1, qI l1)] := hl
  unfold M_X11_eatsSign at hm
  replace hm := (tk_inv hm).2
  generalize h0 = h at Hh hm
  refine lv_aload_n hx hb dX11_eatsSign_0 rfl (lv_at hl 0 rfl) ?_
  refine lv_iload_n hx hb dX11_eatsSign_1 rfl (lv_at hl 1 rfl) ?_
  refine z_cVIr (vs := [qI l1]) C (fun q hq => ct_X11_isSign l g h l0 l1 q hq) tw_1606 my_X11_isSign (fun q hq => tg_X11_isSign hq) rfl hl.1 Hh ⟨Nat.le_of_ble_eq_true rfl, Nat.le_of_ble_eq_true rfl, Nat.le_of_ble_eq_true rfl, Nat.le_of_ble_eq_true rfl⟩ (Nat.le_of_ble_eq_true rfl) dX11_eatsSign_2 rfl hm (fun x1 H locs Hh hm => ?_)
  refine lv_istore_n (lv' := [(2, qI x1), (0, qR g l0), (1, qI l1)]) hx hb dX11_eatsSign_5 rfl hl (by decide) rfl (fun ls hl => ?_)
  refine lv_iload_n hx hb dX11_eatsSign_6 rfl (lv_at hl 0 rfl) ?_
  refine z_if_eq (tgt := 14) C dX11_eatsSign_7 (by decide) rfl hm (fun _ hm => ?_) (fun _ hm => ?_)
  · refine lv_iload_n hx hb dX11_eatsSign_14 rfl (lv_at hl 0 rfl) ?_
    obtain ⟨hz, hm⟩ := zb1_inv hm
    exact z_zretC C hr hlocks Hh dX11_eatsSign_15 hz hm
  · refine lv_aload_n hx hb dX11_eatsSign_10 rfl (lv_at hl 1 rfl) ?_
    refine z_cVv (vs := []) C (fun q hq => ct_X11_goesOn l g h l0 q hq) tw_1522 my_X11_goesOn (fun q hq => tg_X11_goesOn hq) rfl hl.1 Hh ⟨Nat.le_of_ble_eq_true rfl, Nat.le_of_ble_eq_true rfl, Nat.le_of_ble_eq_true rfl, Nat.le_of_ble_eq_true rfl⟩ (Nat.le_of_ble_eq_true rfl) dX11_eatsSign_11 rfl hm (fun h H locs Hh hm => ?_)
    refine lv_iload_n hx hb dX11_eatsSign_14 rfl (lv_at hl 0 rfl) ?_
    obtain ⟨hz, hm⟩ := zb1_inv hm
    exact z_zretC C hr hlocks Hh dX11_eatsSign_15 hz hm
theorem tg_X11_needs {h : Hp} {l0 l1 : Int} {r : Hp} (hm : M_X11_needs h l0 l1 = some r) : hT h l0 = 21 := (tk_inv hm).1
set_option maxRecDepth 100000 in
set_option maxHeartbeats 4000000 in
theorem ct_X11_needs (l : Launch) (g : zGeo) (h0 : Hp) (l0 l1 : Int) (r : Hp) (hm : M_X11_needs h0 l0 l1 = some r) : zM l yX11_needs cX11_needs 2 none 7 194 0 0 g h0 [qR g l0, qS g l1] r none := by
  refine z_meth (by decide) (Nat.le_of_ble_eq_true rfl) ?_
  intro p e s m args below meth c H ls C hr hlocks hnm Hh hl
  have C : zC p m c cX11_needs 2 s args RX11 g := C
  have hnm : meth.name = "needs" := hnm
  have hx := C.1.1
  have hb := C.1.2.1
  have hl : lv_has ls 2 [(0, qR g l0), (1, qS g l1)] := hl
  unfold M_X11_needs at hm
  replace hm := (tk_inv hm).2
  generalize h0 = h at Hh hm
  refine lv_aload_n hx hb dX11_needs_0 rfl (lv_at hl 0 rfl) ?_
  refine lv_aload_n hx hb dX11_needs_1 rfl (lv_at hl 1 rfl) ?_
  refine z_cVIr (vs := [qS g l1]) C (fun q hq => ct_X11_isWord l g h l0 l1 q hq) tw_1546 my_X11_isWord (fun q hq => tg_X11_isWord hq) rfl hl.1 Hh ⟨Nat.le_of_ble_eq_true rfl, Nat.le_of_ble_eq_true rfl, Nat.le_of_ble_eq_true rfl, Nat.le_of_ble_eq_true rfl⟩ (Nat.le_of_ble_eq_true rfl) dX11_needs_2 rfl hm (fun x1 H locs Hh hm => ?_)
  refine z_if_ne (tgt := 13) C dX11_needs_5 (by decide) rfl hm (fun _ hm => ?_) (fun _ hm => ?_)
  · refine lv_aload_n hx hb dX11_needs_13 rfl (lv_at hl 0 rfl) ?_
    refine z_cVv (vs := []) C (fun q hq => ct_X11_goesOn l g h l0 q hq) tw_1522 my_X11_goesOn (fun q hq => tg_X11_goesOn hq) rfl hl.1 Hh ⟨Nat.le_of_ble_eq_true rfl, Nat.le_of_ble_eq_true rfl, Nat.le_of_ble_eq_true rfl, Nat.le_of_ble_eq_true rfl⟩ (Nat.le_of_ble_eq_true rfl) dX11_needs_14 rfl hm (fun h H locs Hh hm => ?_)
    exact z_vret C hr hlocks Hh dX11_needs_17 hm
  · refine lv_aload_n hx hb dX11_needs_8 rfl (lv_at hl 0 rfl) ?_
    refine z_iconst C dX11_needs_9 ?_
    refine z_cVv (vs := [qI 1]) C (fun q hq => ct_X11_flaw l g h l0 1 q hq) tw_1559 my_X11_flaw (fun q hq => tg_X11_flaw hq) rfl hl.1 Hh ⟨Nat.le_of_ble_eq_true rfl, Nat.le_of_ble_eq_true rfl, Nat.le_of_ble_eq_true rfl, Nat.le_of_ble_eq_true rfl⟩ (Nat.le_of_ble_eq_true rfl) dX11_needs_10 rfl hm (fun h H locs Hh hm => ?_)
    refine lv_aload_n hx hb dX11_needs_13 rfl (lv_at hl 0 rfl) ?_
    refine z_cVv (vs := []) C (fun q hq => ct_X11_goesOn l g h l0 q hq) tw_1522 my_X11_goesOn (fun q hq => tg_X11_goesOn hq) rfl hl.1 Hh ⟨Nat.le_of_ble_eq_true rfl, Nat.le_of_ble_eq_true rfl, Nat.le_of_ble_eq_true rfl, Nat.le_of_ble_eq_true rfl⟩ (Nat.le_of_ble_eq_true rfl) dX11_needs_14 rfl hm (fun h H locs Hh hm => ?_)
    exact z_vret C hr hlocks Hh dX11_needs_17 hm
theorem tg_X11_readWhole {h : Hp} {l0 l1 l2 : Int} {r : Hp × Int} (hm : M_X11_readWhole h l0 l1 l2 = some r) : hT h l0 = 21 := (tk_inv hm).1
set_option maxRecDepth 100000 in
set_option maxHeartbeats 4000000 in
theorem ct_X11_readWhole (l : Launch) (g : zGeo) (h0 : Hp) (l0 l1 l2 : Int) (r : Hp × Int) (hm : M_X11_readWhole h0 l0 l1 l2 = some r) : zM l yX11_readWhole cX11_readWhole 4 (some .int) 2 43 0 0 g h0 [qR g l0, qI l1, qI l2] r.1 (some (qI r.2)) := by
  refine z_meth (by decide) (Nat.le_of_ble_eq_true rfl) ?_
  intro p e s m args below meth c H ls C hr hlocks hnm Hh hl
  have C : zC p m c cX11_readWhole 4 s args RX11 g := C
  have hnm : meth.name = "readWhole" := hnm
  have hx := C.1.1
  have hb := C.1.2.1
  have hl : lv_has ls 4 [(0, qR g l0), (1, qI l1), (2, qI l2)] := hl
  unfold M_X11_readWhole at hm
  replace hm := (tk_inv hm).2
  generalize h0 = h at Hh hm
  have K33 : ∀ (h : Hp) (l0 l1 : Int) (H : Heap) (locs : List Loc) (ls : Array Slot), zH g s h H locs → lv_has ls 4 [(0, qR g l0), (1, qI l1)] → M_X11_readWhole_p33 h l0 l1 = some r → W p l e { frames := 2, cells := 0, slots := 0, locals := 43 } s m args below meth c H locs 0 0 (zQ below g r.1 (some (qI r.2)) args s 0 0) (F0 m 33 ls []) := by
    intro h l0 l1  H locs ls Hh hl hm
    unfold M_X11_readWhole_p33 at hm
    refine lv_aload_n hx hb dX11_readWhole_33 rfl (lv_at hl 0 rfl) ?_
    refine z_getI C fl_11_110 Hh dX11_readWhole_34 rfl hm (fun x1 hm => ?_)
    refine z_iconst C dX11_readWhole_37 ?_
    refine z_icmp_ne (tgt := 45) C dX11_readWhole_38 (by decide) rfl lq_p5 hm (fun _ hm => ?_) (fun _ hm => ?_)
    · refine lv_aload_n hx hb dX11_readWhole_45 rfl (lv_at hl 0 rfl) ?_
      refine z_getI C fl_11_139 Hh dX11_readWhole_46 rfl hm (fun x2 hm => ?_)
      refine lv_istore_n (lv' := [(3, qI x2), (0, qR g l0), (1, qI l1)]) hx hb dX11_readWhole_49 rfl hl (by decide) rfl (fun ls hl => ?_)
      refine lv_aload_n hx hb dX11_readWhole_50 rfl (lv_at hl 1 rfl) ?_
      refine z_cVv (vs := []) C (fun q hq => ct_X11_goesOn l g h l0 q hq) tw_1522 my_X11_goesOn (fun q hq => tg_X11_goesOn hq) rfl hl.1 Hh ⟨Nat.le_of_ble_eq_true rfl, Nat.le_of_ble_eq_true rfl, Nat.le_of_ble_eq_true rfl, Nat.le_of_ble_eq_true rfl⟩ (Nat.le_of_ble_eq_true rfl) dX11_readWhole_51 rfl hm (fun h H locs Hh hm => ?_)
      refine lv_iload_n hx hb dX11_readWhole_54 rfl (lv_at hl 0 rfl) ?_
      exact z_iret C hr hlocks Hh dX11_readWhole_55 hm
    · refine lv_iload_n hx hb dX11_readWhole_41 rfl (lv_at hl 1 rfl) ?_
      refine lv_goto (tgt := 49) hx hb dX11_readWhole_42 (by decide) ?_
      refine lv_istore_n (lv' := [(3, qI l1), (0, qR g l0), (1, qI l1)]) hx hb dX11_readWhole_49 rfl hl (by decide) rfl (fun ls hl => ?_)
      refine lv_aload_n hx hb dX11_readWhole_50 rfl (lv_at hl 1 rfl) ?_
      refine z_cVv (vs := []) C (fun q hq => ct_X11_goesOn l g h l0 q hq) tw_1522 my_X11_goesOn (fun q hq => tg_X11_goesOn hq) rfl hl.1 Hh ⟨Nat.le_of_ble_eq_true rfl, Nat.le_of_ble_eq_true rfl, Nat.le_of_ble_eq_true rfl, Nat.le_of_ble_eq_true rfl⟩ (Nat.le_of_ble_eq_true rfl) dX11_readWhole_51 rfl hm (fun h H locs Hh hm => ?_)
      refine lv_iload_n hx hb dX11_readWhole_54 rfl (lv_at hl 0 rfl) ?_
      exact z_iret C hr hlocks Hh dX11_readWhole_55 hm
  refine lv_aload_n hx hb dX11_readWhole_0 rfl (lv_at hl 0 rfl) ?_
  refine z_getI C fl_11_110 Hh dX11_readWhole_1 rfl hm (fun x3 hm => ?_)
  refine z_iconst C dX11_readWhole_4 ?_
  refine z_icmp_eq (tgt := 16) C dX11_readWhole_5 (by decide) rfl lq_p3 hm (fun _ hm => ?_) (fun _ hm => ?_)
  · refine lv_aload_n hx hb dX11_readWhole_16 rfl (lv_at hl 0 rfl) ?_
    refine z_getI C fl_11_139 Hh dX11_readWhole_17 rfl hm (fun x4 hm => ?_)
    refine lv_iload_n hx hb dX11_readWhole_20 rfl (lv_at hl 1 rfl) ?_
    refine lv_iload_n hx hb dX11_readWhole_21 rfl (lv_at hl 2 rfl) ?_
    refine z_cSIr (vs := [qI x4, qI l1, qI l2]) C (fun q hq => ct_X11_in l g h x4 l1 l2 q hq) tw_1576 my_X11_in rfl hl.1 Hh ⟨Nat.le_of_ble_eq_true rfl, Nat.le_of_ble_eq_true rfl, Nat.le_of_ble_eq_true rfl, Nat.le_of_ble_eq_true rfl⟩ (Nat.le_of_ble_eq_true rfl) dX11_readWhole_22 rfl hm (fun x5 H locs Hh hm => ?_)
    refine z_if_ne (tgt := 33) C dX11_readWhole_25 (by decide) rfl hm (fun _ hm => ?_) (fun _ hm => ?_)
    · exact K33 h l0 l1 _ _ _ Hh (lv_sub hl [0, 1] rfl) hm
    · refine lv_aload_n hx hb dX11_readWhole_28 rfl (lv_at hl 0 rfl) ?_
      refine z_iconst C dX11_readWhole_29 ?_
      refine z_cVv (vs := [qI 4]) C (fun q hq => ct_X11_flaw l g h l0 4 q hq) tw_1559 my_X11_flaw (fun q hq => tg_X11_flaw hq) rfl hl.1 Hh ⟨Nat.le_of_ble_eq_true rfl, Nat.le_of_ble_eq_true rfl, Nat.le_of_ble_eq_true rfl, Nat.le_of_ble_eq_true rfl⟩ (Nat.le_of_ble_eq_true rfl) dX11_readWhole_30 rfl hm (fun h H locs Hh hm => ?_)
      exact K33 h l0 l1 _ _ _ Hh (lv_sub hl [0, 1] rfl) hm
  · refine lv_aload_n hx hb dX11_readWhole_8 rfl (lv_at hl 0 rfl) ?_
    refine z_iconst C dX11_readWhole_9 ?_
    refine z_cVv (vs := [qI 1]) C (fun q hq => ct_X11_flaw l g h l0 1 q hq) tw_1559 my_X11_flaw (fun q hq => tg_X11_flaw hq) rfl hl.1 Hh ⟨Nat.le_of_ble_eq_true rfl, Nat.le_of_ble_eq_true rfl, Nat.le_of_ble_eq_true rfl, Nat.le_of_ble_eq_true rfl⟩ (Nat.le_of_ble_eq_true rfl) dX11_readWhole_10 rfl hm (fun h H locs Hh hm => ?_)
    refine lv_goto (tgt := 33) hx hb dX11_readWhole_13 (by decide) ?_
    exact K33 h l0 l1 _ _ _ Hh (lv_sub hl [0, 1] rfl) hm
theorem tg_X11_readPart {h : Hp} {l0 l1 l2 l3 : Int} {r : Hp × Int} (hm : M_X11_readPart h l0 l1 l2 l3 = some r) : hT h l0 = 21 := (tk_inv hm).1
set_option maxRecDepth 100000 in
set_option maxHeartbeats 4000000 in
theorem ct_X11_readPart (l : Launch) (g : zGeo) (h0 : Hp) (l0 l1 l2 l3 : Int) (r : Hp × Int) (hm : M_X11_readPart h0 l0 l1 l2 l3 = some r) : zM l yX11_readPart cX11_readPart 4 (some .int) 8 215 0 0 g h0 [qR g l0, qS g l1, qI l2, qI l3] r.1 (some (qI r.2)) := by
  refine z_meth (by decide) (Nat.le_of_ble_eq_true rfl) ?_
  intro p e s m args below meth c H ls C hr hlocks hnm Hh hl
  have C : zC p m c cX11_readPart 4 s args RX11 g := C
  have hnm : meth.name = "readPart" := hnm
  have hx := C.1.1
  have hb := C.1.2.1
  have hl : lv_has ls 4 [(0, qR g l0), (1, qS g l1), (2, qI l2), (3, qI l3)] := hl
  unfold M_X11_readPart at hm
  replace hm := (tk_inv hm).2
  generalize h0 = h at Hh hm
  refine lv_aload_n hx hb dX11_readPart_0 rfl (lv_at hl 0 rfl) ?_
  refine lv_aload_n hx hb dX11_readPart_1 rfl (lv_at hl 1 rfl) ?_
  refine z_cVv (vs := [qS g l1]) C (fun q hq => ct_X11_needs l g h l0 l1 q hq) tw_1568 my_X11_needs (fun q hq => tg_X11_needs hq) rfl hl.1 Hh ⟨Nat.le_of_ble_eq_true rfl, Nat.le_of_ble_eq_true rfl, Nat.le_of_ble_eq_true rfl, Nat.le_of_ble_eq_true rfl⟩ (Nat.le_of_ble_eq_true rfl) dX11_readPart_2 rfl hm (fun h H locs Hh hm => ?_)
  refine lv_aload_n hx hb dX11_readPart_5 rfl (lv_at hl 0 rfl) ?_
  refine lv_iload_n hx hb dX11_readPart_6 rfl (lv_at hl 2 rfl) ?_
  refine lv_iload_n hx hb dX11_readPart_7 rfl (lv_at hl 3 rfl) ?_
  refine z_cVI (vs := [qI l2, qI l3]) C (fun q hq => ct_X11_readWhole l g h l0 l2 l3 q hq) tw_1572 my_X11_readWhole (fun q hq => tg_X11_readWhole hq) rfl hl.1 Hh ⟨Nat.le_of_ble_eq_true rfl, Nat.le_of_ble_eq_true rfl, Nat.le_of_ble_eq_true rfl, Nat.le_of_ble_eq_true rfl⟩ (Nat.le_of_ble_eq_true rfl) dX11_readPart_8 rfl hm (fun h x1 H locs Hh hm => ?_)
  exact z_iret C hr hlocks Hh dX11_readPart_11 hm
theorem tg_X11_isName {h : Hp} {l0 : Int} {r : Int} (hm : M_X11_isName h l0 = some r) : hT h l0 = 21 := (tk_inv hm).1
set_option maxRecDepth 100000 in
set_option maxHeartbeats 4000000 in
theorem ct_X11_isName (l : Launch) (g : zGeo) (h : Hp) (l0 : Int) (r : Int) (hm : M_X11_isName h l0 = some r) : zM l yX11_isName cX11_isName 1 (some .boolean) 7 194 0 0 g h [qR g l0] h (some (qI r)) := by
  refine z_meth (by decide) (Nat.le_of_ble_eq_true rfl) ?_
  intro p e s m args below meth c H ls C hr hlocks hnm Hh hl
  have C : zC p m c cX11_isName 1 s args RX11 g := C
  have hnm : meth.name = "isName" := hnm
  have hx := C.1.1
  have hb := C.1.2.1
  have hl : lv_has ls 1 [(0, qR g l0)] := hl
  unfold M_X11_isName at hm
  replace hm := (tk_inv hm).2
  refine lv_aload_n hx hb dX11_isName_0 rfl (lv_at hl 0 rfl) ?_
  refine z_getI C fl_11_110 Hh dX11_isName_1 rfl hm (fun x1 hm => ?_)
  refine z_iconst C dX11_isName_4 ?_
  refine z_icmp_ne (tgt := 35) C dX11_isName_5 (by decide) rfl lq_p2 hm (fun _ hm => ?_) (fun _ hm => ?_)
  · refine z_iconst C dX11_isName_35 ?_
    exact z_zretRC C hr hlocks Hh dX11_isName_36 (by decide) hm
  · refine lv_aload_n hx hb dX11_isName_8 rfl (lv_at hl 0 rfl) ?_
    refine z_ldcS (i := 0) (tx := "ring") C dX11_isName_9 (by decide) ?_
    refine z_cVIr (vs := [qS g 0]) C (fun q hq => ct_X11_isWord l g h l0 0 q hq) tw_1546 my_X11_isWord (fun q hq => tg_X11_isWord hq) rfl hl.1 Hh ⟨Nat.le_of_ble_eq_true rfl, Nat.le_of_ble_eq_true rfl, Nat.le_of_ble_eq_true rfl, Nat.le_of_ble_eq_true rfl⟩ (Nat.le_of_ble_eq_true rfl) dX11_isName_11 rfl hm (fun x2 H locs Hh hm => ?_)
    refine z_if_ne (tgt := 35) C dX11_isName_14 (by decide) rfl hm (fun _ hm => ?_) (fun _ hm => ?_)
    · refine z_iconst C dX11_isName_35 ?_
      exact z_zretRC C hr hlocks Hh dX11_isName_36 (by decide) hm
    · refine lv_aload_n hx hb dX11_isName_17 rfl (lv_at hl 0 rfl) ?_
      refine z_ldcS (i := 1) (tx := "town") C dX11_isName_18 (by decide) ?_
      refine z_cVIr (vs := [qS g 1]) C (fun q hq => ct_X11_isWord l g h l0 1 q hq) tw_1546 my_X11_isWord (fun q hq => tg_X11_isWord hq) rfl hl.1 Hh ⟨Nat.le_of_ble_eq_true rfl, Nat.le_of_ble_eq_true rfl, Nat.le_of_ble_eq_true rfl, Nat.le_of_ble_eq_true rfl⟩ (Nat.le_of_ble_eq_true rfl) dX11_isName_20 rfl hm (fun x3 H locs Hh hm => ?_)
      refine z_if_ne (tgt := 35) C dX11_isName_23 (by decide) rfl hm (fun _ hm => ?_) (fun _ hm => ?_)
      · refine z_iconst C dX11_isName_35 ?_
        exact z_zretRC C hr hlocks Hh dX11_isName_36 (by decide) hm
      · refine lv_aload_n hx hb dX11_isName_26 rfl (lv_at hl 0 rfl) ?_
        refine z_ldcS (i := 2) (tx := "copies") C dX11_isName_27 (by decide) ?_
        refine z_cVIr (vs := [qS g 2]) C (fun q hq => ct_X11_isWord l g h l0 2 q hq) tw_1546 my_X11_isWord (fun q hq => tg_X11_isWord hq) rfl hl.1 Hh ⟨Nat.le_of_ble_eq_true rfl, Nat.le_of_ble_eq_true rfl, Nat.le_of_ble_eq_true rfl, Nat.le_of_ble_eq_true rfl⟩ (Nat.le_of_ble_eq_true rfl) dX11_isName_29 rfl hm (fun x4 H locs Hh hm => ?_)
        refine z_if_eq (tgt := 37) C dX11_isName_32 (by decide) rfl hm (fun _ hm => ?_) (fun _ hm => ?_)
        · refine lv_aload_n hx hb dX11_isName_37 rfl (lv_at hl 0 rfl) ?_
          refine z_ldcS (i := 3) (tx := "guess") C dX11_isName_38 (by decide) ?_
          refine z_cVIr (vs := [qS g 3]) C (fun q hq => ct_X11_isWord l g h l0 3 q hq) tw_1546 my_X11_isWord (fun q hq => tg_X11_isWord hq) rfl hl.1 Hh ⟨Nat.le_of_ble_eq_true rfl, Nat.le_of_ble_eq_true rfl, Nat.le_of_ble_eq_true rfl, Nat.le_of_ble_eq_true rfl⟩ (Nat.le_of_ble_eq_true rfl) dX11_isName_40 rfl hm (fun x5 H locs Hh hm => ?_)
          refine z_if_ne (tgt := 68) C dX11_isName_43 (by decide) rfl hm (fun _ hm => ?_) (fun _ hm => ?_)
          · refine z_iconst C dX11_isName_68 ?_
            exact z_zretRC C hr hlocks Hh dX11_isName_69 (by decide) hm
          · refine lv_aload_n hx hb dX11_isName_46 rfl (lv_at hl 0 rfl) ?_
            refine z_ldcS (i := 4) (tx := "seen") C dX11_isName_47 (by decide) ?_
            refine z_cVIr (vs := [qS g 4]) C (fun q hq => ct_X11_isWord l g h l0 4 q hq) tw_1546 my_X11_isWord (fun q hq => tg_X11_isWord hq) rfl hl.1 Hh ⟨Nat.le_of_ble_eq_true rfl, Nat.le_of_ble_eq_true rfl, Nat.le_of_ble_eq_true rfl, Nat.le_of_ble_eq_true rfl⟩ (Nat.le_of_ble_eq_true rfl) dX11_isName_49 rfl hm (fun x6 H locs Hh hm => ?_)
            refine z_if_ne (tgt := 68) C dX11_isName_52 (by decide) rfl hm (fun _ hm => ?_) (fun _ hm => ?_)
            · refine z_iconst C dX11_isName_68 ?_
              exact z_zretRC C hr hlocks Hh dX11_isName_69 (by decide) hm
            · refine lv_aload_n hx hb dX11_isName_55 rfl (lv_at hl 0 rfl) ?_
              refine z_ldcS (i := 8) (tx := "by") C dX11_isName_56 (by decide) ?_
              refine z_cVIr (vs := [qS g 8]) C (fun q hq => ct_X11_isWord l g h l0 8 q hq) tw_1546 my_X11_isWord (fun q hq => tg_X11_isWord hq) rfl hl.1 Hh ⟨Nat.le_of_ble_eq_true rfl, Nat.le_of_ble_eq_true rfl, Nat.le_of_ble_eq_true rfl, Nat.le_of_ble_eq_true rfl⟩ (Nat.le_of_ble_eq_true rfl) dX11_isName_58 rfl hm (fun x7 H locs Hh hm => ?_)
              refine z_if_ne (tgt := 68) C dX11_isName_61 (by decide) rfl hm (fun _ hm => ?_) (fun _ hm => ?_)
              · refine z_iconst C dX11_isName_68 ?_
                exact z_zretRC C hr hlocks Hh dX11_isName_69 (by decide) hm
              · refine z_iconst C dX11_isName_64 ?_
                refine lv_goto (tgt := 69) hx hb dX11_isName_65 (by decide) ?_
                exact z_zretRC C hr hlocks Hh dX11_isName_69 (by decide) hm
        · refine z_iconst C dX11_isName_35 ?_
          exact z_zretRC C hr hlocks Hh dX11_isName_36 (by decide) hm
theorem tg_X11_begins {h : Hp} {l0 l1 l2 : Int} {r : Hp} (hm : M_X11_begins h l0 l1 l2 = some r) : hT h l0 = 21 := (tk_inv hm).1
set_option maxRecDepth 100000 in
set_option maxHeartbeats 4000000 in
theorem ct_X11_begins (l : Launch) (g : zGeo) (h0 : Hp) (l0 l1 l2 : Int) (r : Hp) (hm : M_X11_begins h0 l0 l1 l2 = some r) : zM l yX11_begins cX11_begins 3 none 2 43 0 0 g h0 [qR g l0, qI l1, qI l2] r none := by
  refine z_meth (by decide) (Nat.le_of_ble_eq_true rfl) ?_
  intro p e s m args below meth c H ls C hr hlocks hnm Hh hl
  have C : zC p m c cX11_begins 3 s args RX11 g := C
  have hnm : meth.name = "begins" := hnm
  have hx := C.1.1
  have hb := C.1.2.1
  have hl : lv_has ls 3 [(0, qR g l0), (1, qI l1), (2, qI l2)] := hl
  unfold M_X11_begins at hm
  replace hm := (tk_inv hm).2
  generalize h0 = h at Hh hm
  have K10 : ∀ (h : Hp) (l0 : Int) (H : Heap) (locs : List Loc) (ls : Array Slot), zH g s h H locs → lv_has ls 3 [(0, qR g l0)] → M_X11_begins_p10 h l0 = some r → W p l e { frames := 2, cells := 0, slots := 0, locals := 43 } s m args below meth c H locs 0 0 (zQ below g r none args s 0 0) (F0 m 10 ls []) := by
    intro h l0  H locs ls Hh hl hm
    unfold M_X11_begins_p10 at hm
    refine lv_aload_n hx hb dX11_begins_10 rfl (lv_at hl 0 rfl) ?_
    refine z_getR C fl_11_190 Hh dX11_begins_11 rfl hm (fun x1 hm => ?_)
    refine z_getI C fl_11_194 Hh dX11_begins_14 rfl hm (fun x2 hm => ?_)
    refine z_if_ne (tgt := 26) C dX11_begins_17 (by decide) rfl hm (fun _ hm => ?_) (fun _ hm => ?_)
    · refine lv_aload_n hx hb dX11_begins_26 rfl (lv_at hl 0 rfl) ?_
      refine z_cVv (vs := []) C (fun q hq => ct_X11_goesOn l g h l0 q hq) tw_1522 my_X11_goesOn (fun q hq => tg_X11_goesOn hq) rfl hl.1 Hh ⟨Nat.le_of_ble_eq_true rfl, Nat.le_of_ble_eq_true rfl, Nat.le_of_ble_eq_true rfl, Nat.le_of_ble_eq_true rfl⟩ (Nat.le_of_ble_eq_true rfl) dX11_begins_27 rfl hm (fun h H locs Hh hm => ?_)
      exact z_vret C hr hlocks Hh dX11_begins_30 hm
    · refine lv_aload_n hx hb dX11_begins_20 rfl (lv_at hl 0 rfl) ?_
      refine z_bipush C dX11_begins_21 rfl ?_
      refine z_cVv (vs := [qI 6]) C (fun q hq => ct_X11_flaw l g h l0 6 q hq) tw_1559 my_X11_flaw (fun q hq => tg_X11_flaw hq) rfl hl.1 Hh ⟨Nat.le_of_ble_eq_true rfl, Nat.le_of_ble_eq_true rfl, Nat.le_of_ble_eq_true rfl, Nat.le_of_ble_eq_true rfl⟩ (Nat.le_of_ble_eq_true rfl) dX11_begins_23 rfl hm (fun h H locs Hh hm => ?_)
      refine lv_aload_n hx hb dX11_begins_26 rfl (lv_at hl 0 rfl) ?_
      refine z_cVv (vs := []) C (fun q hq => ct_X11_goesOn l g h l0 q hq) tw_1522 my_X11_goesOn (fun q hq => tg_X11_goesOn hq) rfl hl.1 Hh ⟨Nat.le_of_ble_eq_true rfl, Nat.le_of_ble_eq_true rfl, Nat.le_of_ble_eq_true rfl, Nat.le_of_ble_eq_true rfl⟩ (Nat.le_of_ble_eq_true rfl) dX11_begins_27 rfl hm (fun h H locs Hh hm => ?_)
      exact z_vret C hr hlocks Hh dX11_begins_30 hm
  refine lv_iload_n hx hb dX11_begins_0 rfl (lv_at hl 1 rfl) ?_
  refine lv_iload_n hx hb dX11_begins_1 rfl (lv_at hl 2 rfl) ?_
  refine z_icmp_ne (tgt := 10) C dX11_begins_2 (by decide) rfl rfl hm (fun _ hm => ?_) (fun _ hm => ?_)
  · exact K10 h l0 _ _ _ Hh (lv_sub hl [0] rfl) hm
  · refine lv_aload_n hx hb dX11_begins_5 rfl (lv_at hl 0 rfl) ?_
    refine z_iconst C dX11_begins_6 ?_
    refine z_cVv (vs := [qI 5]) C (fun q hq => ct_X11_flaw l g h l0 5 q hq) tw_1559 my_X11_flaw (fun q hq => tg_X11_flaw hq) rfl hl.1 Hh ⟨Nat.le_of_ble_eq_true rfl, Nat.le_of_ble_eq_true rfl, Nat.le_of_ble_eq_true rfl, Nat.le_of_ble_eq_true rfl⟩ (Nat.le_of_ble_eq_true rfl) dX11_begins_7 rfl hm (fun h H locs Hh hm => ?_)
    exact K10 h l0 _ _ _ Hh (lv_sub hl [0] rfl) hm
theorem tg_X11_knownTown {h : Hp} {l0 : Int} {r : Hp × Int} (hm : M_X11_knownTown h l0 = some r) : hT h l0 = 21 := (tk_inv hm).1
set_option maxRecDepth 100000 in
set_option maxHeartbeats 4000000 in
theorem ct_X11_knownTown (l : Launch) (g : zGeo) (h0 : Hp) (l0 : Int) (r : Hp × Int) (hm : M_X11_knownTown h0 l0 = some r) : zM l yX11_knownTown cX11_knownTown 2 (some .int) 8 214 0 0 g h0 [qR g l0] r.1 (some (qI r.2)) := by
  refine z_meth (by decide) (Nat.le_of_ble_eq_true rfl) ?_
  intro p e s m args below meth c H ls C hr hlocks hnm Hh hl
  have C : zC p m c cX11_knownTown 2 s args RX11 g := C
  have hnm : meth.name = "knownTown" := hnm
  have hx := C.1.1
  have hb := C.1.2.1
  have hl : lv_has ls 2 [(0, qR g l0)] := hl
  unfold M_X11_knownTown at hm
  replace hm := (tk_inv hm).2
  generalize h0 = h at Hh hm
  have K34 : ∀ (h : Hp) (l0 l1 : Int) (H : Heap) (locs : List Loc) (ls : Array Slot), zH g s h H locs → lv_has ls 2 [(0, qR g l0), (1, qI l1)] → M_X11_knownTown_p34 h l0 l1 = some r → W p l e { frames := 8, cells := 0, slots := 0, locals := 214 } s m args below meth c H locs 0 0 (zQ below g r.1 (some (qI r.2)) args s 0 0) (F0 m 34 ls []) := by
    intro h l0 l1  H locs ls Hh hl hm
    unfold M_X11_knownTown_p34 at hm
    refine lv_aload_n hx hb dX11_knownTown_34 rfl (lv_at hl 0 rfl) ?_
    refine z_getI C fl_11_110 Hh dX11_knownTown_35 rfl hm (fun x1 hm => ?_)
    refine z_iconst C dX11_knownTown_38 ?_
    refine z_icmp_ne (tgt := 46) C dX11_knownTown_39 (by decide) rfl lq_p5 hm (fun _ hm => ?_) (fun _ hm => ?_)
    · refine lv_iload_n hx hb dX11_knownTown_46 rfl (lv_at hl 1 rfl) ?_
      exact z_iret C hr hlocks Hh dX11_knownTown_47 hm
    · refine z_iconst C dX11_knownTown_42 ?_
      refine lv_goto (tgt := 47) hx hb dX11_knownTown_43 (by decide) ?_
      exact z_iret C hr hlocks Hh dX11_knownTown_47 hm
  have K12 : ∀ (h : Hp) (l0 : Int) (H : Heap) (locs : List Loc) (ls : Array Slot), zH g s h H locs → lv_has ls 2 [(0, qR g l0)] → M_X11_knownTown_p12 h l0 = some r → W p l e { frames := 8, cells := 0, slots := 0, locals := 214 } s m args below meth c H locs 0 0 (zQ below g r.1 (some (qI r.2)) args s 0 0) (F0 m 12 ls []) := by
    intro h l0  H locs ls Hh hl hm
    unfold M_X11_knownTown_p12 at hm
    refine lv_aload_n hx hb dX11_knownTown_12 rfl (lv_at hl 0 rfl) ?_
    refine z_getR C fl_11_190 Hh dX11_knownTown_13 rfl hm (fun x2 hm => ?_)
    refine lv_aload_n hx hb dX11_knownTown_16 rfl (lv_at hl 0 rfl) ?_
    refine z_getJ C fl_11_129 Hh dX11_knownTown_17 rfl hm (fun x3 hm => ?_)
    refine z_cVIr (vs := [qJ x3]) C (fun q hq => ct_X10_find l g h x2 x3 q hq) tw_1598 my_X10_find (fun q hq => tg_X10_find hq) rfl hl.1 Hh ⟨Nat.le_of_ble_eq_true rfl, Nat.le_of_ble_eq_true rfl, Nat.le_of_ble_eq_true rfl, Nat.le_of_ble_eq_true rfl⟩ (Nat.le_of_ble_eq_true rfl) dX11_knownTown_20 rfl hm (fun x4 H locs Hh hm => ?_)
    refine lv_istore_n (lv' := [(1, qI x4), (0, qR g l0)]) hx hb dX11_knownTown_23 rfl hl (by decide) rfl (fun ls hl => ?_)
    refine lv_iload_n hx hb dX11_knownTown_24 rfl (lv_at hl 0 rfl) ?_
    refine z_iconst C dX11_knownTown_25 ?_
    refine z_icmp_ne (tgt := 34) C dX11_knownTown_26 (by decide) rfl lq_m1 hm (fun _ hm => ?_) (fun _ hm => ?_)
    · exact K34 h l0 x4 _ _ _ Hh (lv_sub hl [1, 0] rfl) hm
    · refine lv_aload_n hx hb dX11_knownTown_29 rfl (lv_at hl 1 rfl) ?_
      refine z_iconst C dX11_knownTown_30 ?_
      refine z_cVv (vs := [qI 2]) C (fun q hq => ct_X11_flaw l g h l0 2 q hq) tw_1559 my_X11_flaw (fun q hq => tg_X11_flaw hq) rfl hl.1 Hh ⟨Nat.le_of_ble_eq_true rfl, Nat.le_of_ble_eq_true rfl, Nat.le_of_ble_eq_true rfl, Nat.le_of_ble_eq_true rfl⟩ (Nat.le_of_ble_eq_true rfl) dX11_knownTown_31 rfl hm (fun h H locs Hh hm => ?_)
      exact K34 h l0 x4 _ _ _ Hh (lv_sub hl [1, 0] rfl) hm
  refine lv_aload_n hx hb dX11_knownTown_0 rfl (lv_at hl 0 rfl) ?_
  refine z_cVIr (vs := []) C (fun q hq => ct_X11_isName l g h l0 q hq) tw_1590 my_X11_isName (fun q hq => tg_X11_isName hq) rfl hl.1 Hh ⟨Nat.le_of_ble_eq_true rfl, Nat.le_of_ble_eq_true rfl, Nat.le_of_ble_eq_true rfl, Nat.le_of_ble_eq_true rfl⟩ (Nat.le_of_ble_eq_true rfl) dX11_knownTown_1 rfl hm (fun x5 H locs Hh hm => ?_)
  refine z_if_ne (tgt := 12) C dX11_knownTown_4 (by decide) rfl hm (fun _ hm => ?_) (fun _ hm => ?_)
  · exact K12 h l0 _ _ _ Hh (lv_sub hl [0] rfl) hm
  · refine lv_aload_n hx hb dX11_knownTown_7 rfl (lv_at hl 0 rfl) ?_
    refine z_iconst C dX11_knownTown_8 ?_
    refine z_cVv (vs := [qI 1]) C (fun q hq => ct_X11_flaw l g h l0 1 q hq) tw_1559 my_X11_flaw (fun q hq => tg_X11_flaw hq) rfl hl.1 Hh ⟨Nat.le_of_ble_eq_true rfl, Nat.le_of_ble_eq_true rfl, Nat.le_of_ble_eq_true rfl, Nat.le_of_ble_eq_true rfl⟩ (Nat.le_of_ble_eq_true rfl) dX11_knownTown_9 rfl hm (fun h H locs Hh hm => ?_)
    exact K12 h l0 _ _ _ Hh (lv_sub hl [0] rfl) hm
theorem tg_X11_readTown {h : Hp} {l0 : Int} {r : Hp × Int} (hm : M_X11_readTown h l0 = some r) : hT h l0 = 21 := (tk_inv hm).1
set_option maxRecDepth 100000 in
set_option maxHeartbeats 4000000 in
theorem ct_X11_readTown (l : Launch) (g : zGeo) (h0 : Hp) (l0 : Int) (r : Hp × Int) (hm : M_X11_readTown h0 l0 = some r) : zM l yX11_readTown cX11_readTown 2 (some .int) 9 235 0 0 g h0 [qR g l0] r.1 (some (qI r.2)) := by
  refine z_meth (by decide) (Nat.le_of_ble_eq_true rfl) ?_
  intro p e s m args below meth c H ls C hr hlocks hnm Hh hl
  have C : zC p m c cX11_readTown 2 s args RX11 g := C
  have hnm : meth.name = "readTown" := hnm
  have hx := C.1.1
  have hb := C.1.2.1
  have hl : lv_has ls 2 [(0, qR g l0)] := hl
  unfold M_X11_readTown at hm
  replace hm := (tk_inv hm).2
  generalize h0 = h at Hh hm
  refine lv_aload_n hx hb dX11_readTown_0 rfl (lv_at hl 0 rfl) ?_
  refine z_cVI (vs := []) C (fun q hq => ct_X11_knownTown l g h l0 q hq) tw_1627 my_X11_knownTown (fun q hq => tg_X11_knownTown hq) rfl hl.1 Hh ⟨Nat.le_of_ble_eq_true rfl, Nat.le_of_ble_eq_true rfl, Nat.le_of_ble_eq_true rfl, Nat.le_of_ble_eq_true rfl⟩ (Nat.le_of_ble_eq_true rfl) dX11_readTown_1 rfl hm (fun h x1 H locs Hh hm => ?_)
  refine lv_istore_n (lv' := [(1, qI x1), (0, qR g l0)]) hx hb dX11_readTown_4 rfl hl (by decide) rfl (fun ls hl => ?_)
  refine lv_aload_n hx hb dX11_readTown_5 rfl (lv_at hl 1 rfl) ?_
  refine z_cVv (vs := []) C (fun q hq => ct_X11_goesOn l g h l0 q hq) tw_1522 my_X11_goesOn (fun q hq => tg_X11_goesOn hq) rfl hl.1 Hh ⟨Nat.le_of_ble_eq_true rfl, Nat.le_of_ble_eq_true rfl, Nat.le_of_ble_eq_true rfl, Nat.le_of_ble_eq_true rfl⟩ (Nat.le_of_ble_eq_true rfl) dX11_readTown_6 rfl hm (fun h H locs Hh hm => ?_)
  refine lv_iload_n hx hb dX11_readTown_9 rfl (lv_at hl 0 rfl) ?_
  exact z_iret C hr hlocks Hh dX11_readTown_10 hm
theorem tg_X11_markAt {h : Hp} {l0 l1 : Int} {r : Int} (hm : M_X11_markAt h l0 l1 = some r) : hT h l0 = 21 := (tk_inv hm).1
set_option maxRecDepth 100000 in
set_option maxHeartbeats 4000000 in
theorem ct_X11_markAt (l : Launch) (g : zGeo) (h : Hp) (l0 l1 : Int) (r : Int) (hm : M_X11_markAt h l0 l1 = some r) : zM l yX11_markAt cX11_markAt 2 (some .int) 0 0 0 0 g h [qR g l0, qI l1] h (some (qI r)) := by
  refine z_meth (by decide) (Nat.le_of_ble_eq_true rfl) ?_
  intro p e s m args below meth c H ls C hr hlocks hnm Hh hl
  have C : zC p m c cX11_markAt 2 s args RX11 g := C
  have hnm : meth.name = "markAt" := hnm
  have hx := C.1.1
  have hb := C.1.2.1
  have hl : lv_has ls 2 [(0, qR g l0), (1, qI l1)] := hl
  unfold M_X11_markAt at hm
  replace hm := (tk_inv hm).2
  refine lv_aload_n hx hb dX11_markAt_0 rfl (lv_at hl 0 rfl) ?_
  refine z_getJ C fl_11_129 Hh dX11_markAt_1 rfl hm (fun x1 hm => ?_)
  refine z_iconst C dX11_markAt_4 ?_
  refine lv_aload_n hx hb dX11_markAt_5 rfl (lv_at hl 0 rfl) ?_
  refine z_getI C fl_11_133 Hh dX11_markAt_6 rfl hm (fun x2 hm => ?_)
  refine z_iconst C dX11_markAt_9 ?_
  refine z_isub C dX11_markAt_10 ?_
  refine lv_iload_n hx hb dX11_markAt_11 rfl (lv_at hl 1 rfl) ?_
  refine z_isub C dX11_markAt_12 ?_
  refine z_imul C dX11_markAt_13 ?_
  refine z_lshr C dX11_markAt_14 ?_
  refine z_ldc2 (v := 31) C dX11_markAt_15 tw_1618 rfl ?_
  refine z_land C dX11_markAt_18 ?_
  refine z_l2i C dX11_markAt_19 ?_
  refine z_iconst C dX11_markAt_20 ?_
  refine z_isub C dX11_markAt_21 ?_
  exact z_iretR (h0 := h) C hr hlocks Hh dX11_markAt_22 hm
