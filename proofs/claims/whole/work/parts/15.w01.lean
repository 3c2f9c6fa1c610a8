theorem tg_X0_init {h : Hp} {l0 l1 : Int} {r : Hp} (hm : M_X0_init h l0 l1 = some r) : hT h l0 = 10 := (tk_inv hm).1
set_option maxRecDepth 100000 in
set_option maxHeartbeats 4000000 in
theorem ct_X0_init (l : Launch) (g : zGeo) (h0 : Hp) (l0 l1 : Int) (r : Hp) (hm : M_X0_init h0 l0 l1 = some r) : zM l yX0_init cX0_init 2 none 1 40 6 4636 g h0 [qR g l0, qR g l1] r none := by
  refine z_meth (by decide) (Nat.le_of_ble_eq_true rfl) ?_
  intro p e s m args below meth c H ls C hr hlocks hnm Hh hl
  have C : zC p m c cX0_init 2 s args RX0 g := C
  have hnm : meth.name = "<init>" := hnm
  have hx := C.1.1
  have hb := C.1.2.1
  have hl : lv_has ls 2 [(0, qR g l0), (1, qR g l1)] := hl
  unfold M_X0_init at hm
  replace hm := (tk_inv hm).2
  generalize h0 = h at Hh hm
  refine lv_aload_n hx hb dX0_init_0 rfl (lv_at hl 0 rfl) ?_
  refine z_oinit C ⟨tw_309, tw_159, tw_160⟩ hl.1 (Nat.le_of_ble_eq_true rfl) (Nat.le_of_ble_eq_true rfl) dX0_init_1 ?_
  refine lv_aload_n hx hb dX0_init_4 rfl (lv_at hl 0 rfl) ?_
  refine z_iconst C dX0_init_5 ?_
  refine z_putI C hnm pl_0_9_i Hh dX0_init_6 rfl hm (fun h H locs Hh hm => ?_)
  refine lv_aload_n hx hb dX0_init_9 rfl (lv_at hl 0 rfl) ?_
  refine z_iconst C dX0_init_10 ?_
  refine z_putI C hnm pl_0_15_i Hh dX0_init_11 rfl hm (fun h H locs Hh hm => ?_)
  refine lv_aload_n hx hb dX0_init_14 rfl (lv_at hl 0 rfl) ?_
  refine z_bipush C dX0_init_15 rfl ?_
  refine z_newab C (t := 1) (atype := .int) (by decide) tw_222 Hh (by decide) (by decide) (Nat.le_of_ble_eq_true rfl) (Nat.le_of_ble_eq_true rfl) dX0_init_17 hm (fun h x1 H Hh hm => ?_)
  refine z_putRc C hnm pl_0_18_i (fun _ => ⟨rfl, rfl⟩) Hh dX0_init_19 rfl hm (fun h H locs Hh hm => ?_)
  refine lv_aload_n hx hb dX0_init_22 rfl (lv_at hl 0 rfl) ?_
  refine z_bipush C dX0_init_23 rfl ?_
  refine z_newab C (t := 1) (atype := .int) (by decide) tw_222 Hh (by decide) (by decide) (Nat.le_of_ble_eq_true rfl) (Nat.le_of_ble_eq_true rfl) dX0_init_25 hm (fun h x2 H Hh hm => ?_)
  refine z_putRc C hnm pl_0_22_i (fun _ => ⟨rfl, rfl⟩) Hh dX0_init_27 rfl hm (fun h H locs Hh hm => ?_)
  refine lv_aload_n hx hb dX0_init_30 rfl (lv_at hl 0 rfl) ?_
  refine z_sipush C dX0_init_31 rfl ?_
  refine z_newab C (t := 1) (atype := .int) (by decide) tw_222 Hh (by decide) (by decide) (Nat.le_of_ble_eq_true rfl) (Nat.le_of_ble_eq_true rfl) dX0_init_34 hm (fun h x3 H Hh hm => ?_)
  refine z_putRc C hnm pl_0_25_i (fun _ => ⟨rfl, rfl⟩) Hh dX0_init_36 rfl hm (fun h H locs Hh hm => ?_)
  refine lv_aload_n hx hb dX0_init_39 rfl (lv_at hl 0 rfl) ?_
  refine z_sipush C dX0_init_40 rfl ?_
  refine z_newab C (t := 1) (atype := .int) (by decide) tw_222 Hh (by decide) (by decide) (Nat.le_of_ble_eq_true rfl) (Nat.le_of_ble_eq_true rfl) dX0_init_43 hm (fun h x4 H Hh hm => ?_)
  refine z_putRc C hnm pl_0_28_i (fun _ => ⟨rfl, rfl⟩) Hh dX0_init_45 rfl hm (fun h H locs Hh hm => ?_)
  refine lv_aload_n hx hb dX0_init_48 rfl (lv_at hl 0 rfl) ?_
  refine z_bipush C dX0_init_49 rfl ?_
  refine z_newab C (t := 1) (atype := .int) (by decide) tw_222 Hh (by decide) (by decide) (Nat.le_of_ble_eq_true rfl) (Nat.le_of_ble_eq_true rfl) dX0_init_51 hm (fun h x5 H Hh hm => ?_)
  refine z_putRc C hnm pl_0_31_i (fun _ => ⟨rfl, rfl⟩) Hh dX0_init_53 rfl hm (fun h H locs Hh hm => ?_)
  refine lv_aload_n hx hb dX0_init_56 rfl (lv_at hl 0 rfl) ?_
  refine z_bipush C dX0_init_57 rfl ?_
  refine z_newab C (t := 2) (atype := .long) (by decide) tw_276 Hh (by decide) (by decide) (Nat.le_of_ble_eq_true rfl) (Nat.le_of_ble_eq_true rfl) dX0_init_59 hm (fun h x6 H Hh hm => ?_)
  refine z_putRc C hnm pl_0_34_i (fun _ => ⟨rfl, rfl⟩) Hh dX0_init_61 rfl hm (fun h H locs Hh hm => ?_)
  refine lv_aload_n hx hb dX0_init_64 rfl (lv_at hl 0 rfl) ?_
  refine lv_aload_n hx hb dX0_init_65 rfl (lv_at hl 1 rfl) ?_
  refine z_putRc C hnm pl_0_38_i (fun _ => ⟨rfl, rfl⟩) Hh dX0_init_66 rfl hm (fun h H locs Hh hm => ?_)
  refine W.widen (k := 6) (n := 4636) (Nat.le_of_ble_eq_true rfl) (Nat.le_of_ble_eq_true rfl) ?_
  exact z_vret C hr hlocks Hh dX0_init_69 hm
theorem tg_X8_sneezes {h : Hp} {l0 : Int} {r : Int} (hm : M_X8_sneezes h l0 = some r) : hT h l0 = 18 := (tk_inv hm).1
set_option maxRecDepth 100000 in
set_option maxHeartbeats 4000000 in
theorem ct_X8_sneezes (l : Launch) (g : zGeo) (h : Hp) (l0 : Int) (r : Int) (hm : M_X8_sneezes h l0 = some r) : zM l yX8_sneezes cX8_sneezes 2 (some .boolean) 0 0 0 0 g h [qR g l0] h (some (qI r)) := by
  refine z_meth (by decide) (Nat.le_of_ble_eq_true rfl) ?_
  intro p e s m args below meth c H ls C hr hlocks hnm Hh hl
  have C : zC p m c cX8_sneezes 2 s args RX8 g := C
  have hnm : meth.name = "sneezes" := hnm
  have hx := C.1.1
  have hb := C.1.2.1
  have hl : lv_has ls 2 [(0, qR g l0)] := hl
  unfold M_X8_sneezes at hm
  replace hm := (tk_inv hm).2
  have K31 : ∀  (H : Heap) (locs : List Loc) (ls : Array Slot), zH g s h H locs → lv_has ls 2 [] → M_X8_sneezes_p31 h = some r → W p l e { frames := 0, cells := 0, slots := 0, locals := 0 } s m args below meth c H locs 0 0 (zQ below g h (some (qI r)) args s 0 0) (F0 m 31 ls []) := by
    intro   H locs ls Hh hl hm
    unfold M_X8_sneezes_p31 at hm
    refine z_iconst C dX8_sneezes_31 ?_
    exact z_zretRC C hr hlocks Hh dX8_sneezes_32 (by decide) hm
  have KL2 : ∀ (n : Nat)  (l0 l1 : Int) (H : Heap) (locs : List Loc) (ls : Array Slot), zH g s h H locs → lv_has ls 2 [(0, qR g l0), (1, qI l1)] → M_X8_sneezes_w2 n h l0 l1 = some r → W p l e { frames := 0, cells := 0, slots := 0, locals := 0 } s m args below meth c H locs 0 0 (zQ below g h (some (qI r)) args s 0 0) (F0 m 2 ls []) := by
    intro n
    induction n with
    | zero => intro l0 l1 H locs ls Hh hl hm; cases hm
    | succ n ih2 =>
      intro l0 l1 H locs ls Hh hl hm
      obtain ⟨z2, hm, hc2⟩ := wh_inv hm
      have hm : M_X8_sneezes_b2 h l0 l1 = some z2 := hm
      unfold M_X8_sneezes_b2 at hm
      refine lv_iload_n hx hb dX8_sneezes_2 rfl (lv_at hl 1 rfl) ?_
      refine lv_aload_n hx hb dX8_sneezes_3 rfl (lv_at hl 0 rfl) ?_
      refine z_getI C fl_8_18 Hh dX8_sneezes_4 rfl hm (fun x1 hm => ?_)
      refine z_icmp_ge (tgt := 31) C dX8_sneezes_7 (by decide) rfl rfl hm (fun _ hm => ?_) (fun _ hm => ?_)
      · cases hm
        exact K31  _ _ _ Hh (lv_sub hl [] rfl) hc2
      · refine lv_aload_n hx hb dX8_sneezes_10 rfl (lv_at hl 0 rfl) ?_
        refine z_getR C fl_8_28 Hh dX8_sneezes_11 rfl hm (fun x2 hm => ?_)
        refine z_iconst C dX8_sneezes_14 ?_
        refine lv_iload_n hx hb dX8_sneezes_15 rfl (lv_at hl 1 rfl) ?_
        refine z_imul C dX8_sneezes_16 ?_
        refine z_iald C Hh dX8_sneezes_17 hm (fun x3 hm => ?_)
        refine z_bipush C dX8_sneezes_18 rfl ?_
        refine z_icmp_ne (tgt := 25) C dX8_sneezes_20 (by decide) rfl lq_p9 hm (fun _ hm => ?_) (fun _ hm => ?_)
        · refine z_iinc (x := l1) (k := 1) (lv' := [(1, qI (l1 + 1)), (0, qR g l0)]) C dX8_sneezes_25 hl rfl (by decide) rfl (fun ls hl => ?_)
          refine lv_goto (tgt := 2) hx hb dX8_sneezes_28 (by decide) ?_
          cases hm
          exact ih2 l0 (l1 + 1) _ _ _ Hh (lv_sub hl [1, 0] rfl) hc2
        · refine z_iconst C dX8_sneezes_23 ?_
          cases hm
          have hm := hc2
          exact z_zretRC C hr hlocks Hh dX8_sneezes_24 (by decide) hm
  refine z_iconst C dX8_sneezes_0 ?_
  refine lv_istore_n (lv' := [(1, qI 0), (0, qR g l0)]) hx hb dX8_sneezes_1 rfl hl (by decide) rfl (fun ls hl => ?_)
  exact KL2 FU l0 0 _ _ _ Hh (lv_sub hl [1, 0] rfl) hm
set_option maxRecDepth 100000 in
set_option maxHeartbeats 4000000 in
theorem ct_X8_nextSeed (l : Launch) (g : zGeo) (h : Hp) (l0 : Int) (r : Int) (hm : M_X8_nextSeed h l0 = some r) : zM l yX8_nextSeed cX8_nextSeed 1 (some .int) 0 0 0 0 g h [qI l0] h (some (qI r)) := by
  refine z_meth (by decide) (Nat.le_of_ble_eq_true rfl) ?_
  intro p e s m args below meth c H ls C hr hlocks hnm Hh hl
  have C : zC p m c cX8_nextSeed 1 s args RX8 g := C
  have hnm : meth.name = "nextSeed" := hnm
  have hx := C.1.1
  have hb := C.1.2.1
  have hl : lv_has ls 1 [(0, qI l0)] := hl
  unfold M_X8_nextSeed at hm
  refine z_bipush C dX8_nextSeed_0 rfl ?_
  refine lv_iload_n hx hb dX8_nextSeed_2 rfl (lv_at hl 0 rfl) ?_
  refine z_imul C dX8_nextSeed_3 ?_
  refine z_bipush C dX8_nextSeed_4 rfl ?_
  refine z_iadd C dX8_nextSeed_6 ?_
  refine z_ldc (v := 65537) C dX8_nextSeed_7 tw_837 rfl ?_
  refine z_irem C dX8_nextSeed_9 hm (fun x1 hm => ?_)
  exact z_iretR (h0 := h) C hr hlocks Hh dX8_nextSeed_10 hm
theorem tg_X8_drawnPlace {h : Hp} {l0 l1 : Int} {r : Int} (hm : M_X8_drawnPlace h l0 l1 = some r) : hT h l0 = 18 := (tk_inv hm).1
set_option maxRecDepth 100000 in
set_option maxHeartbeats 4000000 in
theorem ct_X8_drawnPlace (l : Launch) (g : zGeo) (h : Hp) (l0 l1 : Int) (r : Int) (hm : M_X8_drawnPlace h l0 l1 = some r) : zM l yX8_drawnPlace cX8_drawnPlace 3 (some .int) 0 0 0 0 g h [qR g l0, qI l1] h (some (qI r)) := by
  refine z_meth (by decide) (Nat.le_of_ble_eq_true rfl) ?_
  intro p e s m args below meth c H ls C hr hlocks hnm Hh hl
  have C : zC p m c cX8_drawnPlace 3 s args RX8 g := C
  have hnm : meth.name = "drawnPlace" := hnm
  have hx := C.1.1
  have hb := C.1.2.1
  have hl : lv_has ls 3 [(0, qR g l0), (1, qI l1)] := hl
  unfold M_X8_drawnPlace at hm
  replace hm := (tk_inv hm).2
  refine lv_aload_n hx hb dX8_drawnPlace_0 rfl (lv_at hl 0 rfl) ?_
  refine z_getI C fl_8_9 Hh dX8_drawnPlace_1 rfl hm (fun x1 hm => ?_)
  refine z_if_le (tgt := 14) C dX8_drawnPlace_4 (by decide) rfl hm (fun _ hm => ?_) (fun _ hm => ?_)
  · refine z_iconst C dX8_drawnPlace_14 ?_
    exact z_iretR (h0 := h) C hr hlocks Hh dX8_drawnPlace_15 hm
  · refine lv_aload_n hx hb dX8_drawnPlace_7 rfl (lv_at hl 0 rfl) ?_
    refine z_getI C fl_8_15 Hh dX8_drawnPlace_8 rfl hm (fun x2 hm => ?_)
    refine z_if_gt (tgt := 16) C dX8_drawnPlace_11 (by decide) rfl hm (fun _ hm => ?_) (fun _ hm => ?_)
    · refine lv_iload_n hx hb dX8_drawnPlace_16 rfl (lv_at hl 1 rfl) ?_
      refine lv_aload_n hx hb dX8_drawnPlace_17 rfl (lv_at hl 0 rfl) ?_
      refine z_getI C fl_8_9 Hh dX8_drawnPlace_18 rfl hm (fun x3 hm => ?_)
      refine lv_aload_n hx hb dX8_drawnPlace_21 rfl (lv_at hl 0 rfl) ?_
      refine z_getI C fl_8_15 Hh dX8_drawnPlace_22 rfl hm (fun x4 hm => ?_)
      refine z_imul C dX8_drawnPlace_25 ?_
      refine z_irem C dX8_drawnPlace_26 hm (fun x5 hm => ?_)
      refine lv_istore_n (lv' := [(2, qI x5), (0, qR g l0), (1, qI l1)]) hx hb dX8_drawnPlace_27 rfl hl (by decide) rfl (fun ls hl => ?_)
      refine z_bipush C dX8_drawnPlace_28 rfl ?_
      refine lv_iload_n hx hb dX8_drawnPlace_30 rfl (lv_at hl 0 rfl) ?_
      refine lv_aload_n hx hb dX8_drawnPlace_31 rfl (lv_at hl 1 rfl) ?_
      refine z_getI C fl_8_9 Hh dX8_drawnPlace_32 rfl hm (fun x6 hm => ?_)
      refine z_idiv C dX8_drawnPlace_35 hm (fun x7 hm => ?_)
      refine z_imul C dX8_drawnPlace_36 ?_
      refine lv_iload_n hx hb dX8_drawnPlace_37 rfl (lv_at hl 0 rfl) ?_
      refine lv_aload_n hx hb dX8_drawnPlace_38 rfl (lv_at hl 1 rfl) ?_
      refine z_getI C fl_8_9 Hh dX8_drawnPlace_39 rfl hm (fun x8 hm => ?_)
      refine z_irem C dX8_drawnPlace_42 hm (fun x9 hm => ?_)
      refine z_iadd C dX8_drawnPlace_43 ?_
      exact z_iretR (h0 := h) C hr hlocks Hh dX8_drawnPlace_44 hm
    · refine z_iconst C dX8_drawnPlace_14 ?_
      exact z_iretR (h0 := h) C hr hlocks Hh dX8_drawnPlace_15 hm
theorem tg_X0_drawAll {h : Hp} {l0 : Int} {r : Hp} (hm : M_X0_drawAll h l0 = some r) : hT h l0 = 10 := (tk_inv hm).1
set_option maxRecDepth 100000 in
set_option maxHeartbeats 4000000 in
theorem ct_X0_drawAll (l : Launch) (g : zGeo) (h0 : Hp) (l0 : Int) (r : Hp) (hm : M_X0_drawAll h0 l0 = some r) : zM l yX0_drawAll cX0_drawAll 4 none 1 22 0 0 g h0 [qR g l0] r none := by
  refine z_meth (by decide) (Nat.le_of_ble_eq_true rfl) ?_
  intro p e s m args below meth c H ls C hr hlocks hnm Hh hl
  have C : zC p m c cX0_drawAll 4 s args RX0 g := C
  have hnm : meth.name = "drawAll" := hnm
  have hx := C.1.1
  have hb := C.1.2.1
  have hl : lv_has ls 4 [(0, qR g l0)] := hl
  unfold M_X0_drawAll at hm
  replace hm := (tk_inv hm).2
  generalize h0 = h at Hh hm
  have K96 : ∀ (h : Hp) (H : Heap) (locs : List Loc) (ls : Array Slot), zH g s h H locs → lv_has ls 4 [] → M_X0_drawAll_p96 h = some r → W p l e { frames := 1, cells := 0, slots := 0, locals := 22 } s m args below meth c H locs 0 0 (zQ below g r none args s 0 0) (F0 m 96 ls []) := by
    intro h  H locs ls Hh hl hm
    unfold M_X0_drawAll_p96 at hm
    exact z_vret C hr hlocks Hh dX0_drawAll_96 hm
  have KL10 : ∀ (n : Nat) (h : Hp) (l0 l1 l2 : Int) (H : Heap) (locs : List Loc) (ls : Array Slot), zH g s h H locs → lv_has ls 4 [(0, qR g l0), (1, qI l1), (2, qI l2)] → M_X0_drawAll_w10 n h l0 l1 l2 = some r → W p l e { frames := 1, cells := 0, slots := 0, locals := 22 } s m args below meth c H locs 0 0 (zQ below g r none args s 0 0) (F0 m 10 ls []) := by
    intro n
    induction n with
    | zero => intro h l0 l1 l2 H locs ls Hh hl hm; cases hm
    | succ n ih10 =>
      intro h l0 l1 l2 H locs ls Hh hl hm
      obtain ⟨z10, hm, hc10⟩ := wh_inv hm
      have hm : M_X0_drawAll_b10 h l0 l1 l2 = some z10 := hm
      have K90 : ∀ (h : Hp) (l1 l2 : Int) (H : Heap) (locs : List Loc) (ls : Array Slot), zH g s h H locs → lv_has ls 4 [(0, qR g l0), (1, qI l1), (2, qI l2)] → M_X0_drawAll_p90 h l0 l1 l2 = some z10 → W p l e { frames := 1, cells := 0, slots := 0, locals := 22 } s m args below meth c H locs 0 0 (zQ below g r none args s 0 0) (F0 m 90 ls []) := by
        intro h l1 l2  H locs ls Hh hl hm
        unfold M_X0_drawAll_p90 at hm
        refine z_iinc (x := l2) (k := 2) (lv' := [(2, qI (l2 + 1)), (0, qR g l0), (1, qI l1)]) C dX0_drawAll_90 hl rfl (by decide) rfl (fun ls hl => ?_)
        refine lv_goto (tgt := 10) hx hb dX0_drawAll_93 (by decide) ?_
        cases hm
        exact ih10 h l0 l1 (l2 + 1) _ _ _ Hh (lv_sub hl [1, 2, 0] rfl) hc10
      have KL20 : ∀ (n : Nat) (h : Hp) (l1 l2 l3 : Int) (H : Heap) (locs : List Loc) (ls : Array Slot), zH g s h H locs → lv_has ls 4 [(0, qR g l0), (1, qI l1), (2, qI l2), (3, qI l3)] → M_X0_drawAll_w20 n h l0 l1 l2 l3 = some z10 → W p l e { frames := 1, cells := 0, slots := 0, locals := 22 } s m args below meth c H locs 0 0 (zQ below g r none args s 0 0) (F0 m 20 ls []) := by
        intro n
        induction n with
        | zero => intro h l1 l2 l3 H locs ls Hh hl hm; cases hm
        | succ n ih20 =>
          intro h l1 l2 l3 H locs ls Hh hl hm
          obtain ⟨z20, hm, hc20⟩ := wh_inv hm
          have hm : M_X0_drawAll_b20 h l0 l2 l1 l3 = some z20 := hm
          have K84 : ∀ (h : Hp) (l1 l3 : Int) (H : Heap) (locs : List Loc) (ls : Array Slot), zH g s h H locs → lv_has ls 4 [(0, qR g l0), (1, qI l1), (2, qI l2), (3, qI l3)] → M_X0_drawAll_p84 h l0 l1 l2 l3 = some z20 → W p l e { frames := 1, cells := 0, slots := 0, locals := 22 } s m args below meth c H locs 0 0 (zQ below g r none args s 0 0) (F0 m 84 ls []) := by
            intro h l1 l3  H locs ls Hh hl hm
            unfold M_X0_drawAll_p84 at hm
            refine z_iinc (x := l3) (k := 3) (lv' := [(3, qI (l3 + 1)), (0, qR g l0), (1, qI l1), (2, qI l2)]) C dX0_drawAll_84 hl rfl (by decide) rfl (fun ls hl => ?_)
            refine lv_goto (tgt := 20) hx hb dX0_drawAll_87 (by decide) ?_
            cases hm
            exact ih20 h l1 l2 (l3 + 1) _ _ _ Hh (lv_sub hl [1, 2, 3, 0] rfl) hc20
          unfold M_X0_drawAll_b20 at hm
          refine lv_iload_n hx hb dX0_drawAll_20 rfl (lv_at hl 3 rfl) ?_
          refine lv_aload_n hx hb dX0_drawAll_21 rfl (lv_at hl 0 rfl) ?_
          refine z_getR C fl_0_38 Hh dX0_drawAll_22 rfl hm (fun x1 hm => ?_)
          refine z_getI C fl_0_91 Hh dX0_drawAll_25 rfl hm (fun x2 hm => ?_)
          refine z_icmp_ge (tgt := 90) C dX0_drawAll_28 (by decide) rfl rfl hm (fun _ hm => ?_) (fun _ hm => ?_)
          · cases hm
            exact K90 h l1 l2 _ _ _ Hh (lv_sub hl [0, 1, 2] rfl) hc20
          · refine lv_aload_n hx hb dX0_drawAll_31 rfl (lv_at hl 0 rfl) ?_
            refine z_getR C fl_0_38 Hh dX0_drawAll_32 rfl hm (fun x3 hm => ?_)
            refine z_getR C fl_0_93 Hh dX0_drawAll_35 rfl hm (fun x4 hm => ?_)
            refine z_iconst C dX0_drawAll_38 ?_
            refine lv_iload_n hx hb dX0_drawAll_39 rfl (lv_at hl 3 rfl) ?_
            refine z_imul C dX0_drawAll_40 ?_
            refine z_iald C Hh dX0_drawAll_41 hm (fun x5 hm => ?_)
            refine z_bipush C dX0_drawAll_42 rfl ?_
            refine z_icmp_ne (tgt := 84) C dX0_drawAll_44 (by decide) rfl lq_p9 hm (fun _ hm => ?_) (fun _ hm => ?_)
            · exact K84 h l1 l3 _ _ _ Hh (lv_sub hl [0, 1, 2, 3] rfl) hm
            · refine lv_iload_n hx hb dX0_drawAll_47 rfl (lv_at hl 1 rfl) ?_
              refine z_cSIr (vs := [qI l1]) C (fun q hq => ct_X8_nextSeed l g h l1 q hq) tw_834 my_X8_nextSeed rfl hl.1 Hh ⟨Nat.le_of_ble_eq_true rfl, Nat.le_of_ble_eq_true rfl, Nat.le_of_ble_eq_true rfl, Nat.le_of_ble_eq_true rfl⟩ (Nat.le_of_ble_eq_true rfl) dX0_drawAll_48 rfl hm (fun x6 H locs Hh hm => ?_)
              refine lv_istore_n (lv' := [(1, qI x6), (0, qR g l0), (2, qI l2), (3, qI l3)]) hx hb dX0_drawAll_51 rfl hl (by decide) rfl (fun ls hl => ?_)
              refine lv_iload_n hx hb dX0_drawAll_52 rfl (lv_at hl 2 rfl) ?_
              refine lv_aload_n hx hb dX0_drawAll_53 rfl (lv_at hl 1 rfl) ?_
              refine z_getI C fl_0_15 Hh dX0_drawAll_54 rfl hm (fun x7 hm => ?_)
              refine z_icmp_le (tgt := 84) C dX0_drawAll_57 (by decide) rfl rfl hm (fun _ hm => ?_) (fun _ hm => ?_)
              · exact K84 h x6 l3 _ _ _ Hh (lv_sub hl [1, 0, 2, 3] rfl) hm
              · refine lv_aload_n hx hb dX0_drawAll_60 rfl (lv_at hl 1 rfl) ?_
                refine z_getR C fl_0_18 Hh dX0_drawAll_61 rfl hm (fun x8 hm => ?_)
                refine lv_iload_n hx hb dX0_drawAll_64 rfl (lv_at hl 2 rfl) ?_
                refine z_iald C Hh dX0_drawAll_65 hm (fun x9 hm => ?_)
                refine lv_iload_n hx hb dX0_drawAll_66 rfl (lv_at hl 3 rfl) ?_
                refine z_icmp_ne (tgt := 84) C dX0_drawAll_67 (by decide) rfl rfl hm (fun _ hm => ?_) (fun _ hm => ?_)
                · exact K84 h x6 l3 _ _ _ Hh (lv_sub hl [1, 0, 2, 3] rfl) hm
                · refine lv_aload_n hx hb dX0_drawAll_70 rfl (lv_at hl 1 rfl) ?_
                  refine z_getR C fl_0_22 Hh dX0_drawAll_71 rfl hm (fun x10 hm => ?_)
                  refine lv_iload_n hx hb dX0_drawAll_74 rfl (lv_at hl 2 rfl) ?_
                  refine lv_aload_n hx hb dX0_drawAll_75 rfl (lv_at hl 1 rfl) ?_
                  refine z_getR C fl_0_38 Hh dX0_drawAll_76 rfl hm (fun x11 hm => ?_)
                  refine lv_iload_n hx hb dX0_drawAll_79 rfl (lv_at hl 0 rfl) ?_
                  refine z_cVIr (vs := [qI x6]) C (fun q hq => ct_X8_drawnPlace l g h x11 x6 q hq) tw_838 my_X8_drawnPlace (fun q hq => tg_X8_drawnPlace hq) rfl hl.1 Hh ⟨Nat.le_of_ble_eq_true rfl, Nat.le_of_ble_eq_true rfl, Nat.le_of_ble_eq_true rfl, Nat.le_of_ble_eq_true rfl⟩ (Nat.le_of_ble_eq_true rfl) dX0_drawAll_80 rfl hm (fun x12 H locs Hh hm => ?_)
                  refine z_iast C Hh dX0_drawAll_83 hm (fun h H locs Hh hm => ?_)
                  exact K84 h x6 l3 _ _ _ Hh (lv_sub hl [1, 0, 2, 3] rfl) hm
      unfold M_X0_drawAll_b10 at hm
      refine lv_iload_n hx hb dX0_drawAll_10 rfl (lv_at hl 2 rfl) ?_
      refine lv_aload_n hx hb dX0_drawAll_11 rfl (lv_at hl 0 rfl) ?_
      refine z_getI C fl_0_9 Hh dX0_drawAll_12 rfl hm (fun x13 hm => ?_)
      refine z_icmp_gt (tgt := 96) C dX0_drawAll_15 (by decide) rfl rfl hm (fun _ hm => ?_) (fun _ hm => ?_)
      · cases hm
        exact K96 h _ _ _ Hh (lv_sub hl [] rfl) hc10
      · refine z_iconst C dX0_drawAll_18 ?_
        refine lv_istore_n (lv' := [(3, qI 0), (0, qR g l0), (1, qI l1), (2, qI l2)]) hx hb dX0_drawAll_19 rfl hl (by decide) rfl (fun ls hl => ?_)
        exact KL20 FU h l1 l2 0 _ _ _ Hh (lv_sub hl [1, 2, 3, 0] rfl) hm
  refine lv_aload_n hx hb dX0_drawAll_0 rfl (lv_at hl 0 rfl) ?_
  refine z_getR C fl_0_38 Hh dX0_drawAll_1 rfl hm (fun x14 hm => ?_)
  refine z_getI C fl_0_88 Hh dX0_drawAll_4 rfl hm (fun x15 hm => ?_)
  refine lv_istore_n (lv' := [(1, qI x15), (0, qR g l0)]) hx hb dX0_drawAll_7 rfl hl (by decide) rfl (fun ls hl => ?_)
  refine z_iconst C dX0_drawAll_8 ?_
  refine lv_istore_n (lv' := [(2, qI 1), (1, qI x15), (0, qR g l0)]) hx hb dX0_drawAll_9 rfl hl (by decide) rfl (fun ls hl => ?_)
  exact KL10 FU h l0 x15 1 _ _ _ Hh (lv_sub hl [2, 1, 0] rfl) hm
theorem tg_X0_lay {h : Hp} {l0 l1 l2 l3 : Int} {r : Hp} (hm : M_X0_lay h l0 l1 l2 l3 = some r) : hT h l0 = 10 := (tk_inv hm).1
set_option maxRecDepth 100000 in
set_option maxHeartbeats 4000000 in
theorem ct_X0_lay (l : Launch) (g : zGeo) (h0 : Hp) (l0 l1 l2 l3 : Int) (r : Hp) (hm : M_X0_lay h0 l0 l1 l2 l3 = some r) : zM l yX0_lay cX0_lay 5 none 2 45 0 0 g h0 [qR g l0, qR g l1, qI l2, qI l3] r none := by
  refine z_meth (by decide) (Nat.le_of_ble_eq_true rfl) ?_
  intro p e s m args below meth c H ls C hr hlocks hnm Hh hl
  have C : zC p m c cX0_lay 5 s args RX0 g := C
  have hnm : meth.name = "lay" := hnm
  have hx := C.1.1
  have hb := C.1.2.1
  have hl : lv_has ls 5 [(0, qR g l0), (1, qR g l1), (2, qI l2), (3, qI l3)] := hl
  unfold M_X0_lay at hm
  replace hm := (tk_inv hm).2
  generalize h0 = h at Hh hm
  have K138 : ∀ (h : Hp) (l0 l1 : Int) (H : Heap) (locs : List Loc) (ls : Array Slot), zH g s h H locs → lv_has ls 5 [(0, qR g l0), (1, qR g l1)] → M_X0_lay_p138 h l0 l1 = some r → W p l e { frames := 2, cells := 0, slots := 0, locals := 45 } s m args below meth c H locs 0 0 (zQ below g r none args s 0 0) (F0 m 138 ls []) := by
    intro h l0 l1  H locs ls Hh hl hm
    unfold M_X0_lay_p138 at hm
    refine lv_aload_n hx hb dX0_lay_138 rfl (lv_at hl 1 rfl) ?_
    refine z_cVIr (vs := []) C (fun q hq => ct_X8_sneezes l g h l1 q hq) tw_826 my_X8_sneezes (fun q hq => tg_X8_sneezes hq) rfl hl.1 Hh ⟨Nat.le_of_ble_eq_true rfl, Nat.le_of_ble_eq_true rfl, Nat.le_of_ble_eq_true rfl, Nat.le_of_ble_eq_true rfl⟩ (Nat.le_of_ble_eq_true rfl) dX0_lay_139 rfl hm (fun x1 H locs Hh hm => ?_)
    refine z_if_eq (tgt := 149) C dX0_lay_142 (by decide) rfl hm (fun _ hm => ?_) (fun _ hm => ?_)
    · exact z_vret C hr hlocks Hh dX0_lay_149 hm
    · refine lv_aload_n hx hb dX0_lay_145 rfl (lv_at hl 0 rfl) ?_
      refine z_cVv (vs := []) C (fun q hq => ct_X0_drawAll l g h l0 q hq) tw_830 my_X0_drawAll (fun q hq => tg_X0_drawAll hq) rfl hl.1 Hh ⟨Nat.le_of_ble_eq_true rfl, Nat.le_of_ble_eq_true rfl, Nat.le_of_ble_eq_true rfl, Nat.le_of_ble_eq_true rfl⟩ (Nat.le_of_ble_eq_true rfl) dX0_lay_146 rfl hm (fun h H locs Hh hm => ?_)
      exact z_vret C hr hlocks Hh dX0_lay_149 hm
  have KL63 : ∀ (n : Nat) (h : Hp) (l0 l1 l4 : Int) (H : Heap) (locs : List Loc) (ls : Array Slot), zH g s h H locs → lv_has ls 5 [(0, qR g l0), (1, qR g l1), (4, qI l4)] → M_X0_lay_w63 n h l0 l1 l4 = some r → W p l e { frames := 2, cells := 0, slots := 0, locals := 45 } s m args below meth c H locs 0 0 (zQ below g r none args s 0 0) (F0 m 63 ls []) := by
    intro n
    induction n with
    | zero => intro h l0 l1 l4 H locs ls Hh hl hm; cases hm
    | succ n ih63 =>
      intro h l0 l1 l4 H locs ls Hh hl hm
      obtain ⟨z63, hm, hc63⟩ := wh_inv hm
      have hm : M_X0_lay_b63 h l0 l1 l4 = some z63 := hm
      unfold M_X0_lay_b63 at hm
      refine lv_iload hx hb dX0_lay_63 (lv_at hl 2 rfl) ?_
      refine z_if_le (tgt := 138) C dX0_lay_65 (by decide) rfl hm (fun _ hm => ?_) (fun _ hm => ?_)
      · cases hm
        exact K138 h l0 l1 _ _ _ Hh (lv_sub hl [0, 1] rfl) hc63
      · refine lv_aload_n hx hb dX0_lay_68 rfl (lv_at hl 1 rfl) ?_
        refine z_getR C fl_0_78 Hh dX0_lay_69 rfl hm (fun x2 hm => ?_)
        refine lv_aload_n hx hb dX0_lay_72 rfl (lv_at hl 0 rfl) ?_
        refine z_getR C fl_0_18 Hh dX0_lay_73 rfl hm (fun x3 hm => ?_)
        refine lv_iload hx hb dX0_lay_76 (lv_at hl 2 rfl) ?_
        refine z_iald C Hh dX0_lay_78 hm (fun x4 hm => ?_)
        refine z_iald C Hh dX0_lay_79 hm (fun x5 hm => ?_)
        refine z_if_lt (tgt := 138) C dX0_lay_80 (by decide) rfl hm (fun _ hm => ?_) (fun _ hm => ?_)
        · cases hm
          exact K138 h l0 l1 _ _ _ Hh (lv_sub hl [0, 1] rfl) hc63
        · refine lv_aload_n hx hb dX0_lay_83 rfl (lv_at hl 0 rfl) ?_
          refine lv_iload hx hb dX0_lay_84 (lv_at hl 2 rfl) ?_
          refine z_iconst C dX0_lay_86 ?_
          refine z_isub C dX0_lay_87 ?_
          refine z_putI C hnm pl_0_15 Hh dX0_lay_88 rfl hm (fun h H locs Hh hm => ?_)
          refine lv_aload_n hx hb dX0_lay_91 rfl (lv_at hl 0 rfl) ?_
          refine z_getR C fl_0_18 Hh dX0_lay_92 rfl hm (fun x6 hm => ?_)
          refine lv_aload_n hx hb dX0_lay_95 rfl (lv_at hl 0 rfl) ?_
          refine z_getI C fl_0_15 Hh dX0_lay_96 rfl hm (fun x7 hm => ?_)
          refine lv_aload_n hx hb dX0_lay_99 rfl (lv_at hl 1 rfl) ?_
          refine z_getR C fl_0_78 Hh dX0_lay_100 rfl hm (fun x8 hm => ?_)
          refine lv_aload_n hx hb dX0_lay_103 rfl (lv_at hl 0 rfl) ?_
          refine z_getR C fl_0_18 Hh dX0_lay_104 rfl hm (fun x9 hm => ?_)
          refine lv_iload hx hb dX0_lay_107 (lv_at hl 2 rfl) ?_
          refine z_iald C Hh dX0_lay_109 hm (fun x10 hm => ?_)
          refine z_iald C Hh dX0_lay_110 hm (fun x11 hm => ?_)
          refine z_iast C Hh dX0_lay_111 hm (fun h H locs Hh hm => ?_)
          refine lv_aload_n hx hb dX0_lay_112 rfl (lv_at hl 0 rfl) ?_
          refine z_getR C fl_0_31 Hh dX0_lay_113 rfl hm (fun x12 hm => ?_)
          refine lv_aload_n hx hb dX0_lay_116 rfl (lv_at hl 0 rfl) ?_
          refine z_getI C fl_0_15 Hh dX0_lay_117 rfl hm (fun x13 hm => ?_)
          refine z_iconst C dX0_lay_120 ?_
          refine z_iast C Hh dX0_lay_121 hm (fun h H locs Hh hm => ?_)
          refine lv_aload_n hx hb dX0_lay_122 rfl (lv_at hl 0 rfl) ?_
          refine z_getR C fl_0_34 Hh dX0_lay_123 rfl hm (fun x14 hm => ?_)
          refine lv_aload_n hx hb dX0_lay_126 rfl (lv_at hl 0 rfl) ?_
          refine z_getI C fl_0_15 Hh dX0_lay_127 rfl hm (fun x15 hm => ?_)
          refine z_lconst (v := 0) C dX0_lay_130 rfl ?_
          refine z_last C Hh dX0_lay_131 hm (fun h H locs Hh hm => ?_)
          refine z_iinc (x := l4) (k := 2) (lv' := [(4, qI (l4 + (-1))), (0, qR g l0), (1, qR g l1)]) C dX0_lay_132 hl rfl (by decide) rfl (fun ls hl => ?_)
          refine lv_goto (tgt := 63) hx hb dX0_lay_135 (by decide) ?_
          cases hm
          exact ih63 h l0 l1 (l4 + (-1)) _ _ _ Hh (lv_sub hl [1, 2, 0] rfl) hc63
  refine lv_aload_n hx hb dX0_lay_0 rfl (lv_at hl 0 rfl) ?_
  refine lv_aload_n hx hb dX0_lay_1 rfl (lv_at hl 1 rfl) ?_
  refine z_putRc C hnm pl_0_38 (fun _ => ⟨rfl, rfl⟩) Hh dX0_lay_2 rfl hm (fun h H locs Hh hm => ?_)
  refine lv_aload_n hx hb dX0_lay_5 rfl (lv_at hl 0 rfl) ?_
  refine z_iconst C dX0_lay_6 ?_
  refine lv_iload_n hx hb dX0_lay_7 rfl (lv_at hl 3 rfl) ?_
  refine z_bipush C dX0_lay_8 rfl ?_
  refine z_mmin C mm_0_69 hl.1 (Nat.le_of_ble_eq_true rfl) (Nat.le_of_ble_eq_true rfl) (Nat.le_of_ble_eq_true rfl) (Nat.le_of_ble_eq_true rfl) dX0_lay_10 ?_
  refine z_mmax C mm_0_75 hl.1 (Nat.le_of_ble_eq_true rfl) (Nat.le_of_ble_eq_true rfl) (Nat.le_of_ble_eq_true rfl) (Nat.le_of_ble_eq_true rfl) dX0_lay_13 ?_
  refine z_putI C hnm pl_0_9 Hh dX0_lay_16 rfl hm (fun h H locs Hh hm => ?_)
  refine lv_aload_n hx hb dX0_lay_19 rfl (lv_at hl 0 rfl) ?_
  refine lv_aload_n hx hb dX0_lay_20 rfl (lv_at hl 0 rfl) ?_
  refine z_getI C fl_0_9 Hh dX0_lay_21 rfl hm (fun x16 hm => ?_)
  refine z_putI C hnm pl_0_15 Hh dX0_lay_24 rfl hm (fun h H locs Hh hm => ?_)
  refine lv_aload_n hx hb dX0_lay_27 rfl (lv_at hl 0 rfl) ?_
  refine z_getR C fl_0_18 Hh dX0_lay_28 rfl hm (fun x17 hm => ?_)
  refine lv_aload_n hx hb dX0_lay_31 rfl (lv_at hl 0 rfl) ?_
  refine z_getI C fl_0_9 Hh dX0_lay_32 rfl hm (fun x18 hm => ?_)
  refine lv_iload_n hx hb dX0_lay_35 rfl (lv_at hl 2 rfl) ?_
  refine z_iast C Hh dX0_lay_36 hm (fun h H locs Hh hm => ?_)
  refine lv_aload_n hx hb dX0_lay_37 rfl (lv_at hl 0 rfl) ?_
  refine z_getR C fl_0_31 Hh dX0_lay_38 rfl hm (fun x19 hm => ?_)
  refine lv_aload_n hx hb dX0_lay_41 rfl (lv_at hl 0 rfl) ?_
  refine z_getI C fl_0_9 Hh dX0_lay_42 rfl hm (fun x20 hm => ?_)
  refine z_iconst C dX0_lay_45 ?_
  refine z_iast C Hh dX0_lay_46 hm (fun h H locs Hh hm => ?_)
  refine lv_aload_n hx hb dX0_lay_47 rfl (lv_at hl 0 rfl) ?_
  refine z_getR C fl_0_34 Hh dX0_lay_48 rfl hm (fun x21 hm => ?_)
  refine lv_aload_n hx hb dX0_lay_51 rfl (lv_at hl 0 rfl) ?_
  refine z_getI C fl_0_9 Hh dX0_lay_52 rfl hm (fun x22 hm => ?_)
  refine z_lconst (v := 0) C dX0_lay_55 rfl ?_
  refine z_last C Hh dX0_lay_56 hm (fun h H locs Hh hm => ?_)
  refine lv_aload_n hx hb dX0_lay_57 rfl (lv_at hl 0 rfl) ?_
  refine z_getI C fl_0_9 Hh dX0_lay_58 rfl hm (fun x23 hm => ?_)
  refine lv_istore (lv' := [(4, qI x23), (0, qR g l0), (1, qR g l1), (2, qI l2), (3, qI l3)]) hx hb dX0_lay_61 hl (by decide) rfl (fun ls hl => ?_)
  exact KL63 FU h l0 l1 x23 _ _ _ Hh (lv_sub hl [1, 2, 0] rfl) hm
theorem tg_X0_want {h : Hp} {l0 l1 l2 : Int} {r : Hp} (hm : M_X0_want h l0 l1 l2 = some r) : hT h l0 = 10 := (tk_inv hm).1
set_option maxRecDepth 100000 in
set_option maxHeartbeats 4000000 in
theorem ct_X0_want (l : Launch) (g : zGeo) (h0 : Hp) (l0 l1 l2 : Int) (r : Hp) (hm : M_X0_want h0 l0 l1 l2 = some r) : zM l yX0_want cX0_want 5 none 0 0 0 0 g h0 [qR g l0, qI l1, qI l2] r none := by
  refine z_meth (by decide) (Nat.le_of_ble_eq_true rfl) ?_
  intro p e s m args below meth c H ls C hr hlocks hnm Hh hl
  have C : zC p m c cX0_want 5 s args RX0 g := C
  have hnm : meth.name = "want" := hnm
  have hx := C.1.1
  have hb := C.1.2.1
  have hl : lv_has ls 5 [(0, qR g l0), (1, qI l1), (2, qI l2)] := hl
  unfold M_X0_want at hm
  replace hm := (tk_inv hm).2
  generalize h0 = h at Hh hm
  refine z_lconst (v := 1) C dX0_want_0 rfl ?_
  refine lv_iload_n hx hb dX0_want_1 rfl (lv_at hl 2 rfl) ?_
  refine z_lshl C dX0_want_2 ?_
  refine lv_lstore_n (lv' := [(3, qJ (lshl 1 l2)), (0, qR g l0), (1, qI l1), (2, qI l2)]) hx hb dX0_want_3 rfl hl (by decide) rfl (fun ls hl => ?_)
  refine lv_aload_n hx hb dX0_want_4 rfl (lv_at hl 1 rfl) ?_
  refine z_getR C fl_0_34 Hh dX0_want_5 rfl hm (fun x1 hm => ?_)
  refine lv_iload_n hx hb dX0_want_8 rfl (lv_at hl 2 rfl) ?_
  refine z_lald C Hh dX0_want_9 hm (fun x2 hm => ?_)
  refine lv_lload_n hx hb dX0_want_10 rfl (lv_at hl 0 rfl) ?_
  refine z_land C dX0_want_11 ?_
  refine z_lconst (v := 0) C dX0_want_12 rfl ?_
  refine z_lcmp C dX0_want_13 ?_
  refine z_if_ne (tgt := 54) C dX0_want_14 (by decide) rfl hm (fun _ hm => ?_) (fun _ hm => ?_)
  · exact z_vret C hr hlocks Hh dX0_want_54 hm
  · refine lv_aload_n hx hb dX0_want_17 rfl (lv_at hl 1 rfl) ?_
    refine z_getR C fl_0_34 Hh dX0_want_18 rfl hm (fun x3 hm => ?_)
    refine lv_iload_n hx hb dX0_want_21 rfl (lv_at hl 2 rfl) ?_
    refine lv_dup2_11 hx hb dX0_want_22 rfl rfl ?_
    refine z_lald C Hh dX0_want_23 hm (fun x4 hm => ?_)
    refine lv_lload_n hx hb dX0_want_24 rfl (lv_at hl 0 rfl) ?_
    refine z_lor C dX0_want_25 ?_
    refine z_last C Hh dX0_want_26 hm (fun h H locs Hh hm => ?_)
    refine lv_aload_n hx hb dX0_want_27 rfl (lv_at hl 1 rfl) ?_
    refine z_getR C fl_0_28 Hh dX0_want_28 rfl hm (fun x5 hm => ?_)
    refine z_bipush C dX0_want_31 rfl ?_
    refine lv_iload_n hx hb dX0_want_33 rfl (lv_at hl 2 rfl) ?_
    refine z_imul C dX0_want_34 ?_
    refine lv_aload_n hx hb dX0_want_35 rfl (lv_at hl 1 rfl) ?_
    refine z_getR C fl_0_31 Hh dX0_want_36 rfl hm (fun x6 hm => ?_)
    refine lv_iload_n hx hb dX0_want_39 rfl (lv_at hl 2 rfl) ?_
    refine z_iald C Hh dX0_want_40 hm (fun x7 hm => ?_)
    refine z_iadd C dX0_want_41 ?_
    refine lv_iload_n hx hb dX0_want_42 rfl (lv_at hl 3 rfl) ?_
    refine z_iast C Hh dX0_want_43 hm (fun h H locs Hh hm => ?_)
    refine lv_aload_n hx hb dX0_want_44 rfl (lv_at hl 1 rfl) ?_
    refine z_getR C fl_0_31 Hh dX0_want_45 rfl hm (fun x8 hm => ?_)
    refine lv_iload_n hx hb dX0_want_48 rfl (lv_at hl 2 rfl) ?_
    refine lv_dup2_11 hx hb dX0_want_49 rfl rfl ?_
    refine z_iald C Hh dX0_want_50 hm (fun x9 hm => ?_)
    refine z_iconst C dX0_want_51 ?_
    refine z_iadd C dX0_want_52 ?_
    refine z_iast C Hh dX0_want_53 hm (fun h H locs Hh hm => ?_)
    exact z_vret C hr hlocks Hh dX0_want_54 hm
theorem tg_X8_shiftSource {h : Hp} {l0 l1 l2 : Int} {r : Int} (hm : M_X8_shiftSource h l0 l1 l2 = some r) : hT h l0 = 18 := (tk_inv hm).1
set_option maxRecDepth 100000 in
set_option maxHeartbeats 4000000 in
theorem ct_X8_shiftSource (l : Launch) (g : zGeo) (h : Hp) (l0 l1 l2 : Int) (r : Int) (hm : M_X8_shiftSource h l0 l1 l2 = some r) : zM l yX8_shiftSource cX8_shiftSource 3 (some .int) 0 0 0 0 g h [qR g l0, qI l1, qI l2] h (some (qI r)) := by
  refine z_meth (by decide) (Nat.le_of_ble_eq_true rfl) ?_
  intro p e s m args below meth c H ls C hr hlocks hnm Hh hl
  have C : zC p m c cX8_shiftSource 3 s args RX8 g := C
  have hnm : meth.name = "shiftSource" := hnm
  have hx := C.1.1
  have hb := C.1.2.1
  have hl : lv_has ls 3 [(0, qR g l0), (1, qI l1), (2, qI l2)] := hl
  unfold M_X8_shiftSource at hm
  replace hm := (tk_inv hm).2
  refine lv_aload_n hx hb dX8_shiftSource_0 rfl (lv_at hl 0 rfl) ?_
  refine z_getI C fl_8_9 Hh dX8_shiftSource_1 rfl hm (fun x1 hm => ?_)
  refine z_if_le (tgt := 14) C dX8_shiftSource_4 (by decide) rfl hm (fun _ hm => ?_) (fun _ hm => ?_)
  · refine z_iconst C dX8_shiftSource_14 ?_
    exact z_iretR (h0 := h) C hr hlocks Hh dX8_shiftSource_15 hm
  · refine lv_aload_n hx hb dX8_shiftSource_7 rfl (lv_at hl 0 rfl) ?_
    refine z_getI C fl_8_15 Hh dX8_shiftSource_8 rfl hm (fun x2 hm => ?_)
    refine z_if_gt (tgt := 16) C dX8_shiftSource_11 (by decide) rfl hm (fun _ hm => ?_) (fun _ hm => ?_)
    · refine z_bipush C dX8_shiftSource_16 rfl ?_
      refine lv_iload_n hx hb dX8_shiftSource_18 rfl (lv_at hl 2 rfl) ?_
      refine z_bipush C dX8_shiftSource_19 rfl ?_
      refine lv_aload_n hx hb dX8_shiftSource_21 rfl (lv_at hl 0 rfl) ?_
      refine z_getI C fl_8_15 Hh dX8_shiftSource_22 rfl hm (fun x3 hm => ?_)
      refine z_imul C dX8_shiftSource_25 ?_
      refine z_iadd C dX8_shiftSource_26 ?_
      refine lv_aload_n hx hb dX8_shiftSource_27 rfl (lv_at hl 0 rfl) ?_
      refine z_getI C fl_8_15 Hh dX8_shiftSource_28 rfl hm (fun x4 hm => ?_)
      refine z_irem C dX8_shiftSource_31 hm (fun x5 hm => ?_)
      refine z_imul C dX8_shiftSource_32 ?_
      refine lv_iload_n hx hb dX8_shiftSource_33 rfl (lv_at hl 1 rfl) ?_
      refine z_bipush C dX8_shiftSource_34 rfl ?_
      refine lv_aload_n hx hb dX8_shiftSource_36 rfl (lv_at hl 0 rfl) ?_
      refine z_getI C fl_8_9 Hh dX8_shiftSource_37 rfl hm (fun x6 hm => ?_)
      refine z_imul C dX8_shiftSource_40 ?_
      refine z_iadd C dX8_shiftSource_41 ?_
      refine lv_aload_n hx hb dX8_shiftSource_42 rfl (lv_at hl 0 rfl) ?_
      refine z_getI C fl_8_9 Hh dX8_shiftSource_43 rfl hm (fun x7 hm => ?_)
      refine z_irem C dX8_shiftSource_46 hm (fun x8 hm => ?_)
      refine z_iadd C dX8_shiftSource_47 ?_
      exact z_iretR (h0 := h) C hr hlocks Hh dX8_shiftSource_48 hm
    · refine z_iconst C dX8_shiftSource_14 ?_
      exact z_iretR (h0 := h) C hr hlocks Hh dX8_shiftSource_15 hm
theorem tg_X8_stainSource {h : Hp} {l0 l1 l2 l3 l4 : Int} {r : Int} (hm : M_X8_stainSource h l0 l1 l2 l3 l4 = some r) : hT h l0 = 18 := (tk_inv hm).1
set_option maxRecDepth 100000 in
set_option maxHeartbeats 4000000 in
theorem ct_X8_stainSource (l : Launch) (g : zGeo) (h : Hp) (l0 l1 l2 l3 l4 : Int) (r : Int) (hm : M_X8_stainSource h l0 l1 l2 l3 l4 = some r) : zM l yX8_stainSource cX8_stainSource 8 (some .int) 0 0 0 0 g h [qR g l0, qR g l1, qI l2, qI l3, qI l4] h (some (qI r)) := by
  refine z_meth (by decide) (Nat.le_of_ble_eq_true rfl) ?_
  intro p e s m args below meth c H ls C hr hlocks hnm Hh hl
  have C : zC p m c cX8_stainSource 8 s args RX8 g := C
  have hnm : meth.name = "stainSource" := hnm
  have hx := C.1.1
  have hb := C.1.2.1
  have hl : lv_has ls 8 [(0, qR g l0), (1, qR g l1), (2, qI l2), (3, qI l3), (4, qI l4)] := hl
  unfold M_X8_stainSource at hm
  replace hm := (tk_inv hm).2
  have K96 : ∀  (l0 l1 l3 l4 l6 l7 : Int) (H : Heap) (locs : List Loc) (ls : Array Slot), zH g s h H locs → lv_has ls 8 [(0, qR g l0), (1, qR g l1), (3, qI l3), (4, qI l4), (6, qI l6), (7, qI l7)] → M_X8_stainSource_p96 h l0 l1 l3 l4 l6 l7 = some r → W p l e { frames := 0, cells := 0, slots := 0, locals := 0 } s m args below meth c H locs 0 0 (zQ below g h (some (qI r)) args s 0 0) (F0 m 96 ls []) := by
    intro l0 l1 l3 l4 l6 l7  H locs ls Hh hl hm
    unfold M_X8_stainSource_p96 at hm
    refine lv_iload hx hb dX8_stainSource_96 (lv_at hl 4 rfl) ?_
    refine lv_aload_n hx hb dX8_stainSource_98 rfl (lv_at hl 0 rfl) ?_
    refine z_getI C fl_8_15 Hh dX8_stainSource_99 rfl hm (fun x1 hm => ?_)
    refine z_iconst C dX8_stainSource_102 ?_
    refine z_isub C dX8_stainSource_103 ?_
    refine z_icmp_ge (tgt := 126) C dX8_stainSource_104 (by decide) rfl rfl hm (fun _ hm => ?_) (fun _ hm => ?_)
    · refine lv_iload_n hx hb dX8_stainSource_126 rfl (lv_at hl 2 rfl) ?_
      exact z_iretR (h0 := h) C hr hlocks Hh dX8_stainSource_127 hm
    · refine lv_aload_n hx hb dX8_stainSource_107 rfl (lv_at hl 1 rfl) ?_
      refine lv_iload hx hb dX8_stainSource_108 (lv_at hl 5 rfl) ?_
      refine z_bipush C dX8_stainSource_110 rfl ?_
      refine z_iadd C dX8_stainSource_112 ?_
      refine z_iald C Hh dX8_stainSource_113 hm (fun x2 hm => ?_)
      refine lv_iload hx hb dX8_stainSource_114 (lv_at hl 3 rfl) ?_
      refine z_icmp_ne (tgt := 126) C dX8_stainSource_116 (by decide) rfl rfl hm (fun _ hm => ?_) (fun _ hm => ?_)
      · refine lv_iload_n hx hb dX8_stainSource_126 rfl (lv_at hl 2 rfl) ?_
        exact z_iretR (h0 := h) C hr hlocks Hh dX8_stainSource_127 hm
      · refine lv_iload_n hx hb dX8_stainSource_119 rfl (lv_at hl 2 rfl) ?_
        refine z_bipush C dX8_stainSource_120 rfl ?_
        refine z_iadd C dX8_stainSource_122 ?_
        refine lv_goto (tgt := 127) hx hb dX8_stainSource_123 (by decide) ?_
        exact z_iretR (h0 := h) C hr hlocks Hh dX8_stainSource_127 hm
  have K74 : ∀  (l0 l1 l3 l4 l6 l7 : Int) (H : Heap) (locs : List Loc) (ls : Array Slot), zH g s h H locs → lv_has ls 8 [(0, qR g l0), (1, qR g l1), (3, qI l3), (4, qI l4), (6, qI l6), (7, qI l7)] → M_X8_stainSource_p74 h l0 l1 l3 l4 l6 l7 = some r → W p l e { frames := 0, cells := 0, slots := 0, locals := 0 } s m args below meth c H locs 0 0 (zQ below g h (some (qI r)) args s 0 0) (F0 m 74 ls []) := by
    intro l0 l1 l3 l4 l6 l7  H locs ls Hh hl hm
    unfold M_X8_stainSource_p74 at hm
    refine lv_iload hx hb dX8_stainSource_74 (lv_at hl 4 rfl) ?_
    refine z_if_le (tgt := 96) C dX8_stainSource_76 (by decide) rfl hm (fun _ hm => ?_) (fun _ hm => ?_)
    · exact K96 l0 l1 l3 l4 l6 l7 _ _ _ Hh (lv_sub hl [0, 1, 2, 3, 4, 5] rfl) hm
    · refine lv_aload_n hx hb dX8_stainSource_79 rfl (lv_at hl 1 rfl) ?_
      refine lv_iload hx hb dX8_stainSource_80 (lv_at hl 5 rfl) ?_
      refine z_bipush C dX8_stainSource_82 rfl ?_
      refine z_isub C dX8_stainSource_84 ?_
      refine z_iald C Hh dX8_stainSource_85 hm (fun x3 hm => ?_)
      refine lv_iload hx hb dX8_stainSource_86 (lv_at hl 3 rfl) ?_
      refine z_icmp_ne (tgt := 96) C dX8_stainSource_88 (by decide) rfl rfl hm (fun _ hm => ?_) (fun _ hm => ?_)
      · exact K96 l0 l1 l3 l4 l6 l7 _ _ _ Hh (lv_sub hl [0, 1, 2, 3, 4, 5] rfl) hm
      · refine lv_iload_n hx hb dX8_stainSource_91 rfl (lv_at hl 2 rfl) ?_
        refine z_bipush C dX8_stainSource_92 rfl ?_
        refine z_isub C dX8_stainSource_94 ?_
        exact z_iretR (h0 := h) C hr hlocks Hh dX8_stainSource_95 hm
  have K48 : ∀  (l0 l1 l3 l4 l5 l6 l7 : Int) (H : Heap) (locs : List Loc) (ls : Array Slot), zH g s h H locs → lv_has ls 8 [(0, qR g l0), (1, qR g l1), (3, qI l3), (4, qI l4), (5, qI l5), (6, qI l6), (7, qI l7)] → M_X8_stainSource_p48 h l0 l1 l3 l4 l5 l6 l7 = some r → W p l e { frames := 0, cells := 0, slots := 0, locals := 0 } s m args below meth c H locs 0 0 (zQ below g h (some (qI r)) args s 0 0) (F0 m 48 ls []) := by
    intro l0 l1 l3 l4 l5 l6 l7  H locs ls Hh hl hm
    unfold M_X8_stainSource_p48 at hm
    refine lv_iload hx hb dX8_stainSource_48 (lv_at hl 4 rfl) ?_
    refine lv_aload_n hx hb dX8_stainSource_50 rfl (lv_at hl 0 rfl) ?_
    refine z_getI C fl_8_9 Hh dX8_stainSource_51 rfl hm (fun x4 hm => ?_)
    refine z_iconst C dX8_stainSource_54 ?_
    refine z_isub C dX8_stainSource_55 ?_
    refine z_icmp_ge (tgt := 74) C dX8_stainSource_56 (by decide) rfl rfl hm (fun _ hm => ?_) (fun _ hm => ?_)
    · exact K74 l0 l1 l3 l4 l6 l7 _ _ _ Hh (lv_sub hl [0, 1, 2, 3, 5, 6] rfl) hm
    · refine lv_aload_n hx hb dX8_stainSource_59 rfl (lv_at hl 1 rfl) ?_
      refine lv_iload hx hb dX8_stainSource_60 (lv_at hl 6 rfl) ?_
      refine z_iconst C dX8_stainSource_62 ?_
      refine z_iadd C dX8_stainSource_63 ?_
      refine z_iald C Hh dX8_stainSource_64 hm (fun x5 hm => ?_)
      refine lv_iload hx hb dX8_stainSource_65 (lv_at hl 3 rfl) ?_
      refine z_icmp_ne (tgt := 74) C dX8_stainSource_67 (by decide) rfl rfl hm (fun _ hm => ?_) (fun _ hm => ?_)
      · exact K74 l0 l1 l3 l4 l6 l7 _ _ _ Hh (lv_sub hl [0, 1, 2, 3, 5, 6] rfl) hm
      · refine lv_iload_n hx hb dX8_stainSource_70 rfl (lv_at hl 2 rfl) ?_
        refine z_iconst C dX8_stainSource_71 ?_
        refine z_iadd C dX8_stainSource_72 ?_
        exact z_iretR (h0 := h) C hr hlocks Hh dX8_stainSource_73 hm
  refine lv_iload_n hx hb dX8_stainSource_0 rfl (lv_at hl 3 rfl) ?_
  refine z_bipush C dX8_stainSource_1 rfl ?_
  refine z_irem C dX8_stainSource_3 hm (fun x6 hm => ?_)
  refine lv_istore (lv' := [(5, qI x6), (0, qR g l0), (1, qR g l1), (2, qI l2), (3, qI l3), (4, qI l4)]) hx hb dX8_stainSource_4 hl (by decide) rfl (fun ls hl => ?_)
  refine lv_iload_n hx hb dX8_stainSource_6 rfl (lv_at hl 4 rfl) ?_
  refine z_bipush C dX8_stainSource_7 rfl ?_
  refine z_idiv C dX8_stainSource_9 hm (fun x7 hm => ?_)
  refine lv_istore (lv' := [(6, qI x7), (5, qI x6), (0, qR g l0), (1, qR g l1), (2, qI l2), (3, qI l3), (4, qI l4)]) hx hb dX8_stainSource_10 hl (by decide) rfl (fun ls hl => ?_)
  refine lv_iload_n hx hb dX8_stainSource_12 rfl (lv_at hl 4 rfl) ?_
  refine lv_iload_n hx hb dX8_stainSource_13 rfl (lv_at hl 5 rfl) ?_
  refine z_iadd C dX8_stainSource_14 ?_
  refine lv_istore (lv' := [(7, qI (l2 + l3)), (6, qI x7), (5, qI x6), (0, qR g l0), (1, qR g l1), (2, qI l2), (3, qI l3), (4, qI l4)]) hx hb dX8_stainSource_15 hl (by decide) rfl (fun ls hl => ?_)
  refine lv_aload_n hx hb dX8_stainSource_17 rfl (lv_at hl 4 rfl) ?_
  refine lv_iload hx hb dX8_stainSource_18 (lv_at hl 0 rfl) ?_
  refine z_iald C Hh dX8_stainSource_20 hm (fun x8 hm => ?_)
  refine lv_iload hx hb dX8_stainSource_21 (lv_at hl 7 rfl) ?_
  refine z_icmp_ne (tgt := 28) C dX8_stainSource_23 (by decide) rfl rfl hm (fun _ hm => ?_) (fun _ hm => ?_)
  · refine lv_iload hx hb dX8_stainSource_28 (lv_at hl 2 rfl) ?_
    refine z_if_le (tgt := 48) C dX8_stainSource_30 (by decide) rfl hm (fun _ hm => ?_) (fun _ hm => ?_)
    · exact K48 l0 l1 l3 l4 x6 x7 (l2 + l3) _ _ _ Hh (lv_sub hl [3, 4, 6, 7, 2, 1, 0] rfl) hm
    · refine lv_aload_n hx hb dX8_stainSource_33 rfl (lv_at hl 4 rfl) ?_
      refine lv_iload hx hb dX8_stainSource_34 (lv_at hl 0 rfl) ?_
      refine z_iconst C dX8_stainSource_36 ?_
      refine z_isub C dX8_stainSource_37 ?_
      refine z_iald C Hh dX8_stainSource_38 hm (fun x9 hm => ?_)
      refine lv_iload hx hb dX8_stainSource_39 (lv_at hl 7 rfl) ?_
      refine z_icmp_ne (tgt := 48) C dX8_stainSource_41 (by decide) rfl rfl hm (fun _ hm => ?_) (fun _ hm => ?_)
      · exact K48 l0 l1 l3 l4 x6 x7 (l2 + l3) _ _ _ Hh (lv_sub hl [3, 4, 6, 7, 2, 1, 0] rfl) hm
      · refine lv_iload_n hx hb dX8_stainSource_44 rfl (lv_at hl 6 rfl) ?_
        refine z_iconst C dX8_stainSource_45 ?_
        refine z_isub C dX8_stainSource_46 ?_
        exact z_iretR (h0 := h) C hr hlocks Hh dX8_stainSource_47 hm
  · refine lv_iload_n hx hb dX8_stainSource_26 rfl (lv_at hl 6 rfl) ?_
    exact z_iretR (h0 := h) C hr hlocks Hh dX8_stainSource_27 hm
theorem tg_X8_source {h : Hp} {l0 l1 l2 l3 l4 l5 : Int} {r : Int} (hm : M_X8_source h l0 l1 l2 l3 l4 l5 = some r) : hT h l0 = 18 := (tk_inv hm).1
set_option maxRecDepth 100000 in
set_option maxHeartbeats 4000000 in
theorem ct_X8_source (l : Launch) (g : zGeo) (h : Hp) (l0 l1 l2 l3 l4 l5 : Int) (r : Int) (hm : M_X8_source h l0 l1 l2 l3 l4 l5 = some r) : zM l yX8_source cX8_source 11 (some .int) 1 27 0 0 g h [qR g l0, qI l1, qR g l2, qI l3, qI l4, qI l5] h (some (qI r)) := by
  refine z_meth (by decide) (Nat.le_of_ble_eq_true rfl) ?_
  intro p e s m args below meth c H ls C hr hlocks hnm Hh hl
  have C : zC p m c cX8_source 11 s args RX8 g := C
  have hnm : meth.name = "source" := hnm
  have hx := C.1.1
  have hb := C.1.2.1
  have hl : lv_has ls 11 [(0, qR g l0), (1, qI l1), (2, qR g l2), (3, qI l3), (4, qI l4), (5, qI l5)] := hl
  unfold M_X8_source at hm
  replace hm := (tk_inv hm).2
  refine lv_iload hx hb dX8_source_0 (lv_at hl 4 rfl) ?_
  refine z_bipush C dX8_source_2 rfl ?_
  refine z_irem C dX8_source_4 hm (fun x1 hm => ?_)
  refine lv_istore (lv' := [(6, qI x1), (0, qR g l0), (1, qI l1), (2, qR g l2), (3, qI l3), (4, qI l4), (5, qI l5)]) hx hb dX8_source_5 hl (by decide) rfl (fun ls hl => ?_)
  refine lv_iload hx hb dX8_source_7 (lv_at hl 5 rfl) ?_
  refine z_bipush C dX8_source_9 rfl ?_
  refine z_idiv C dX8_source_11 hm (fun x2 hm => ?_)
  refine lv_istore (lv' := [(7, qI x2), (6, qI x1), (0, qR g l0), (1, qI l1), (2, qR g l2), (3, qI l3), (4, qI l4), (5, qI l5)]) hx hb dX8_source_12 hl (by decide) rfl (fun ls hl => ?_)
  refine lv_aload_n hx hb dX8_source_14 rfl (lv_at hl 2 rfl) ?_
  refine z_getR C fl_8_28 Hh dX8_source_15 rfl hm (fun x3 hm => ?_)
  refine z_iconst C dX8_source_18 ?_
  refine lv_iload_n hx hb dX8_source_19 rfl (lv_at hl 3 rfl) ?_
  refine z_imul C dX8_source_20 ?_
  refine z_iconst C dX8_source_21 ?_
  refine z_iadd C dX8_source_22 ?_
  refine z_iald C Hh dX8_source_23 hm (fun x4 hm => ?_)
  refine lv_istore (lv' := [(8, qI x4), (7, qI x2), (6, qI x1), (0, qR g l0), (1, qI l1), (2, qR g l2), (3, qI l3), (4, qI l4), (5, qI l5)]) hx hb dX8_source_24 hl (by decide) rfl (fun ls hl => ?_)
  refine lv_aload_n hx hb dX8_source_26 rfl (lv_at hl 3 rfl) ?_
  refine z_getR C fl_8_28 Hh dX8_source_27 rfl hm (fun x5 hm => ?_)
  refine z_iconst C dX8_source_30 ?_
  refine lv_iload_n hx hb dX8_source_31 rfl (lv_at hl 4 rfl) ?_
  refine z_imul C dX8_source_32 ?_
  refine z_iconst C dX8_source_33 ?_
  refine z_iadd C dX8_source_34 ?_
  refine z_iald C Hh dX8_source_35 hm (fun x6 hm => ?_)
  refine lv_istore (lv' := [(9, qI x6), (8, qI x4), (7, qI x2), (6, qI x1), (0, qR g l0), (1, qI l1), (2, qR g l2), (3, qI l3), (4, qI l4), (5, qI l5)]) hx hb dX8_source_36 hl (by decide) rfl (fun ls hl => ?_)
  refine lv_aload_n hx hb dX8_source_38 rfl (lv_at hl 4 rfl) ?_
  refine z_getR C fl_8_28 Hh dX8_source_39 rfl hm (fun x7 hm => ?_)
  refine z_iconst C dX8_source_42 ?_
  refine lv_iload_n hx hb dX8_source_43 rfl (lv_at hl 5 rfl) ?_
  refine z_imul C dX8_source_44 ?_
  refine z_iald C Hh dX8_source_45 hm (fun x8 hm => ?_)
  refine z_sw hm (fun q hm => ?_) (fun q0 hm => ?_)
  · refine z_tin (tgt := 96) (off := 50) C dX8_source_46 q (by decide) (by decide) rfl (by decide) ?_
    refine lv_iload hx hb dX8_source_96 (lv_at hl 3 rfl) ?_
    refine lv_iload hx hb dX8_source_98 (lv_at hl 0 rfl) ?_
    refine z_icmp_ne (tgt := 122) C dX8_source_100 (by decide) rfl rfl hm (fun _ hm => ?_) (fun _ hm => ?_)
    · refine lv_iload hx hb dX8_source_122 (lv_at hl 8 rfl) ?_
      exact z_iretR (h0 := h) C hr hlocks Hh dX8_source_124 hm
    · refine lv_iload hx hb dX8_source_103 (lv_at hl 2 rfl) ?_
      refine lv_aload_n hx hb dX8_source_105 rfl (lv_at hl 4 rfl) ?_
      refine z_getR C fl_8_28 Hh dX8_source_106 rfl hm (fun x9 hm => ?_)
      refine z_iconst C dX8_source_109 ?_
      refine lv_iload_n hx hb dX8_source_110 rfl (lv_at hl 5 rfl) ?_
      refine z_imul C dX8_source_111 ?_
      refine z_iconst C dX8_source_112 ?_
      refine z_iadd C dX8_source_113 ?_
      refine z_iald C Hh dX8_source_114 hm (fun x10 hm => ?_)
      refine z_icmp_ne (tgt := 122) C dX8_source_115 (by decide) rfl rfl hm (fun _ hm => ?_) (fun _ hm => ?_)
      · refine lv_iload hx hb dX8_source_122 (lv_at hl 8 rfl) ?_
        exact z_iretR (h0 := h) C hr hlocks Hh dX8_source_124 hm
      · refine z_iconst C dX8_source_118 ?_
        refine lv_goto (tgt := 124) hx hb dX8_source_119 (by decide) ?_
        exact z_iretR (h0 := h) C hr hlocks Hh dX8_source_124 hm
  refine z_sw hm (fun q hm => ?_) (fun q1 hm => ?_)
  · refine z_tin (tgt := 125) (off := 79) C dX8_source_46 q (by decide) (by decide) rfl (by decide) ?_
    refine z_iconst C dX8_source_125 ?_
    refine lv_iload hx hb dX8_source_126 (lv_at hl 1 rfl) ?_
    refine z_imul C dX8_source_128 ?_
    refine z_iconst C dX8_source_129 ?_
    refine z_isub C dX8_source_130 ?_
    refine lv_iload hx hb dX8_source_131 (lv_at hl 3 rfl) ?_
    refine z_isub C dX8_source_133 ?_
    refine lv_istore (lv' := [(10, qI (((2 * x4) - 1) - x1)), (9, qI x6), (8, qI x4), (7, qI x2), (6, qI x1), (0, qR g l0), (1, qI l1), (2, qR g l2), (3, qI l3), (4, qI l4), (5, qI l5)]) hx hb dX8_source_134 hl (by decide) rfl (fun ls hl => ?_)
    refine lv_iload hx hb dX8_source_136 (lv_at hl 4 rfl) ?_
    refine lv_iload hx hb dX8_source_138 (lv_at hl 2 rfl) ?_
    refine z_icmp_ge (tgt := 148) C dX8_source_140 (by decide) rfl rfl hm (fun _ hm => ?_) (fun _ hm => ?_)
    · refine z_bipush C dX8_source_148 rfl ?_
      refine lv_iload hx hb dX8_source_150 (lv_at hl 3 rfl) ?_
      refine z_imul C dX8_source_152 ?_
      refine lv_iload hx hb dX8_source_153 (lv_at hl 0 rfl) ?_
      refine z_if_le (tgt := 163) C dX8_source_155 (by decide) rfl hm (fun _ hm => ?_) (fun _ hm => ?_)
      · refine z_iconst C dX8_source_163 ?_
        refine z_iadd C dX8_source_164 ?_
        exact z_iretR (h0 := h) C hr hlocks Hh dX8_source_165 hm
      · refine lv_iload hx hb dX8_source_158 (lv_at hl 0 rfl) ?_
        refine lv_goto (tgt := 164) hx hb dX8_source_160 (by decide) ?_
        refine z_iadd C dX8_source_164 ?_
        exact z_iretR (h0 := h) C hr hlocks Hh dX8_source_165 hm
    · refine lv_iload hx hb dX8_source_143 (lv_at hl 9 rfl) ?_
      refine lv_goto (tgt := 165) hx hb dX8_source_145 (by decide) ?_
      exact z_iretR (h0 := h) C hr hlocks Hh dX8_source_165 hm
  refine z_sw hm (fun q hm => ?_) (fun q2 hm => ?_)
  · refine z_tin (tgt := 166) (off := 120) C dX8_source_46 q (by decide) (by decide) rfl (by decide) ?_
    refine lv_aload_n hx hb dX8_source_166 rfl (lv_at hl 4 rfl) ?_
    refine lv_iload hx hb dX8_source_167 (lv_at hl 3 rfl) ?_
    refine lv_iload hx hb dX8_source_169 (lv_at hl 1 rfl) ?_
    refine z_isub C dX8_source_171 ?_
    refine lv_iload hx hb dX8_source_172 (lv_at hl 2 rfl) ?_
    refine lv_iload hx hb dX8_source_174 (lv_at hl 0 rfl) ?_
    refine z_isub C dX8_source_176 ?_
    refine z_cVIr (vs := [qI (x1 - x4), qI (x2 - x6)]) C (fun q hq => ct_X8_shiftSource l g h l0 (x1 - x4) (x2 - x6) q hq) tw_858 my_X8_shiftSource (fun q hq => tg_X8_shiftSource hq) rfl hl.1 Hh ⟨Nat.le_of_ble_eq_true rfl, Nat.le_of_ble_eq_true rfl, Nat.le_of_ble_eq_true rfl, Nat.le_of_ble_eq_true rfl⟩ (Nat.le_of_ble_eq_true rfl) dX8_source_177 rfl hm (fun x11 H locs Hh hm => ?_)
    exact z_iretR (h0 := h) C hr hlocks Hh dX8_source_180 hm
  refine z_sw hm (fun q hm => ?_) (fun q3 hm => ?_)
  · refine z_tin (tgt := 181) (off := 135) C dX8_source_46 q (by decide) (by decide) rfl (by decide) ?_
    refine z_bipush C dX8_source_181 rfl ?_
    refine lv_aload_n hx hb dX8_source_183 rfl (lv_at hl 4 rfl) ?_
    refine z_getI C fl_8_15 Hh dX8_source_184 rfl hm (fun x12 hm => ?_)
    refine z_iconst C dX8_source_187 ?_
    refine z_isub C dX8_source_188 ?_
    refine lv_iload hx hb dX8_source_189 (lv_at hl 2 rfl) ?_
    refine z_isub C dX8_source_191 ?_
    refine z_imul C dX8_source_192 ?_
    refine lv_aload_n hx hb dX8_source_193 rfl (lv_at hl 4 rfl) ?_
    refine z_getI C fl_8_9 Hh dX8_source_194 rfl hm (fun x13 hm => ?_)
    refine z_iadd C dX8_source_197 ?_
    refine z_iconst C dX8_source_198 ?_
    refine z_isub C dX8_source_199 ?_
    refine lv_iload hx hb dX8_source_200 (lv_at hl 3 rfl) ?_
    refine z_isub C dX8_source_202 ?_
    exact z_iretR (h0 := h) C hr hlocks Hh dX8_source_203 hm
  refine z_sw hm (fun q hm => ?_) (fun q4 hm => ?_)
  · refine z_tin (tgt := 204) (off := 158) C dX8_source_46 q (by decide) (by decide) rfl (by decide) ?_
    refine lv_aload_n hx hb dX8_source_204 rfl (lv_at hl 4 rfl) ?_
    refine lv_aload_n hx hb dX8_source_205 rfl (lv_at hl 6 rfl) ?_
    refine lv_iload_n hx hb dX8_source_206 rfl (lv_at hl 7 rfl) ?_
    refine lv_iload hx hb dX8_source_207 (lv_at hl 8 rfl) ?_
    refine lv_iload hx hb dX8_source_209 (lv_at hl 1 rfl) ?_
    refine z_cVIr (vs := [qR g l2, qI l3, qI l4, qI x4]) C (fun q hq => ct_X8_stainSource l g h l0 l2 l3 l4 x4 q hq) tw_862 my_X8_stainSource (fun q hq => tg_X8_stainSource hq) rfl hl.1 Hh ⟨Nat.le_of_ble_eq_true rfl, Nat.le_of_ble_eq_true rfl, Nat.le_of_ble_eq_true rfl, Nat.le_of_ble_eq_true rfl⟩ (Nat.le_of_ble_eq_true rfl) dX8_source_211 rfl hm (fun x14 H locs Hh hm => ?_)
    exact z_iretR (h0 := h) C hr hlocks Hh dX8_source_214 hm
  refine z_sw hm (fun q hm => ?_) (fun q5 hm => ?_)
  · refine z_tin (tgt := 215) (off := 169) C dX8_source_46 q (by decide) (by decide) rfl (by decide) ?_
    refine lv_aload_n hx hb dX8_source_215 rfl (lv_at hl 6 rfl) ?_
    refine lv_iload_n hx hb dX8_source_216 rfl (lv_at hl 7 rfl) ?_
    refine lv_iload hx hb dX8_source_217 (lv_at hl 8 rfl) ?_
    refine z_iadd C dX8_source_219 ?_
    refine z_iald C Hh dX8_source_220 hm (fun x15 hm => ?_)
    refine lv_iload hx hb dX8_source_221 (lv_at hl 1 rfl) ?_
    refine z_icmp_ne (tgt := 230) C dX8_source_223 (by decide) rfl rfl hm (fun _ hm => ?_) (fun _ hm => ?_)
    · refine lv_iload hx hb dX8_source_230 (lv_at hl 8 rfl) ?_
      exact z_iretR (h0 := h) C hr hlocks Hh dX8_source_232 hm
    · refine z_iconst C dX8_source_226 ?_
      refine lv_goto (tgt := 232) hx hb dX8_source_227 (by decide) ?_
      exact z_iretR (h0 := h) C hr hlocks Hh dX8_source_232 hm
  refine z_sw hm (fun q hm => ?_) (fun q6 hm => ?_)
  · refine z_tin (tgt := 233) (off := 187) C dX8_source_46 q (by decide) (by decide) rfl (by decide) ?_
    refine z_bipush C dX8_source_233 rfl ?_
    refine lv_iload hx hb dX8_source_235 (lv_at hl 2 rfl) ?_
    refine lv_iload hx hb dX8_source_237 (lv_at hl 1 rfl) ?_
    refine z_imul C dX8_source_239 ?_
    refine z_bipush C dX8_source_240 rfl ?_
    refine z_idiv C dX8_source_242 hm (fun x16 hm => ?_)
    refine z_imul C dX8_source_243 ?_
    refine lv_iload hx hb dX8_source_244 (lv_at hl 3 rfl) ?_
    refine lv_iload hx hb dX8_source_246 (lv_at hl 1 rfl) ?_
    refine z_imul C dX8_source_248 ?_
    refine z_bipush C dX8_source_249 rfl ?_
    refine z_idiv C dX8_source_251 hm (fun x17 hm => ?_)
    refine z_iadd C dX8_source_252 ?_
    exact z_iretR (h0 := h) C hr hlocks Hh dX8_source_253 hm
  refine z_sw hm (fun q hm => ?_) (fun q7 hm => ?_)
  · refine z_tin (tgt := 254) (off := 208) C dX8_source_46 q (by decide) (by decide) rfl (by decide) ?_
    refine lv_iload hx hb dX8_source_254 (lv_at hl 8 rfl) ?_
    refine lv_iload hx hb dX8_source_256 (lv_at hl 9 rfl) ?_
    refine z_icmp_ne (tgt := 265) C dX8_source_258 (by decide) rfl rfl hm (fun _ hm => ?_) (fun _ hm => ?_)
    · refine lv_iload hx hb dX8_source_265 (lv_at hl 8 rfl) ?_
      exact z_iretR (h0 := h) C hr hlocks Hh dX8_source_267 hm
    · refine z_iconst C dX8_source_261 ?_
      refine lv_goto (tgt := 267) hx hb dX8_source_262 (by decide) ?_
      exact z_iretR (h0 := h) C hr hlocks Hh dX8_source_267 hm
  have hdf : (w32 x8 < 1 ∨ 9 < w32 x8) ∨ ∃ k : Int, w32 x8 = k ∧ 1 ≤ k ∧ k ≤ 9 ∧ (#[50, 79, 120, 135, 222, 158, 169, 187, 208] : Array Int)[(k - 1).toNat]? = some 222 := by
    have q : (w32 x8 < 1 ∨ 9 < w32 x8) ∨ w32 x8 = 5 := by omega
    rcases q with q | q
    · exact Or.inl q
    · exact Or.inr ⟨_, q, by decide, by decide, rfl⟩
  refine z_tdef (tgt := 268) C dX8_source_46 hdf (by decide) ?_
  refine lv_iload hx hb dX8_source_268 (lv_at hl 8 rfl) ?_
  exact z_iretR (h0 := h) C hr hlocks Hh dX8_source_270 hm
theorem tg_X0_source {h : Hp} {l0 l1 l2 : Int} {r : Int} (hm : M_X0_source h l0 l1 l2 = some r) : hT h l0 = 10 := (tk_inv hm).1
set_option maxRecDepth 100000 in
set_option maxHeartbeats 4000000 in
theorem ct_X0_source (l : Launch) (g : zGeo) (h : Hp) (l0 l1 l2 : Int) (r : Int) (hm : M_X0_source h l0 l1 l2 = some r) : zM l yX0_source cX0_source 4 (some .int) 2 57 0 0 g h [qR g l0, qI l1, qI l2] h (some (qI r)) := by
  refine z_meth (by decide) (Nat.le_of_ble_eq_true rfl) ?_
  intro p e s m args below meth c H ls C hr hlocks hnm Hh hl
  have C : zC p m c cX0_source 4 s args RX0 g := C
  have hnm : meth.name = "source" := hnm
  have hx := C.1.1
  have hb := C.1.2.1
  have hl : lv_has ls 4 [(0, qR g l0), (1, qI l1), (2, qI l2)] := hl
  unfold M_X0_source at hm
  replace hm := (tk_inv hm).2
  refine lv_aload_n hx hb dX0_source_0 rfl (lv_at hl 0 rfl) ?_
  refine z_getR C fl_0_38 Hh dX0_source_1 rfl hm (fun x1 hm => ?_)
  refine z_getR C fl_0_93 Hh dX0_source_4 rfl hm (fun x2 hm => ?_)
  refine z_iconst C dX0_source_7 ?_
  refine lv_aload_n hx hb dX0_source_8 rfl (lv_at hl 0 rfl) ?_
  refine z_getR C fl_0_18 Hh dX0_source_9 rfl hm (fun x3 hm => ?_)
  refine lv_iload_n hx hb dX0_source_12 rfl (lv_at hl 1 rfl) ?_
  refine z_iald C Hh dX0_source_13 hm (fun x4 hm => ?_)
  refine z_imul C dX0_source_14 ?_
  refine z_iald C Hh dX0_source_15 hm (fun x5 hm => ?_)
  refine lv_istore_n (lv' := [(3, qI x5), (0, qR g l0), (1, qI l1), (2, qI l2)]) hx hb dX0_source_16 rfl hl (by decide) rfl (fun ls hl => ?_)
  refine lv_iload_n hx hb dX0_source_17 rfl (lv_at hl 0 rfl) ?_
  refine z_bipush C dX0_source_18 rfl ?_
  refine z_icmp_eq (tgt := 29) C dX0_source_20 (by decide) rfl lq_p7 hm (fun _ hm => ?_) (fun _ hm => ?_)
  · refine lv_iload_n hx hb dX0_source_29 rfl (lv_at hl 3 rfl) ?_
    exact z_iretR (h0 := h) C hr hlocks Hh dX0_source_30 hm
  · refine lv_iload_n hx hb dX0_source_23 rfl (lv_at hl 0 rfl) ?_
    refine z_bipush C dX0_source_24 rfl ?_
    refine z_icmp_ne (tgt := 31) C dX0_source_26 (by decide) rfl lq_p6 hm (fun _ hm => ?_) (fun _ hm => ?_)
    · refine lv_aload_n hx hb dX0_source_31 rfl (lv_at hl 1 rfl) ?_
      refine z_getR C fl_0_38 Hh dX0_source_32 rfl hm (fun x6 hm => ?_)
      refine lv_aload_n hx hb dX0_source_35 rfl (lv_at hl 1 rfl) ?_
      refine z_getR C fl_0_18 Hh dX0_source_36 rfl hm (fun x7 hm => ?_)
      refine lv_iload_n hx hb dX0_source_39 rfl (lv_at hl 2 rfl) ?_
      refine z_iald C Hh dX0_source_40 hm (fun x8 hm => ?_)
      refine lv_aload_n hx hb dX0_source_41 rfl (lv_at hl 1 rfl) ?_
      refine z_getR C fl_0_25 Hh dX0_source_42 rfl hm (fun x9 hm => ?_)
      refine z_iconst C dX0_source_45 ?_
      refine lv_iload_n hx hb dX0_source_46 rfl (lv_at hl 3 rfl) ?_
      refine lv_aload_n hx hb dX0_source_47 rfl (lv_at hl 1 rfl) ?_
      refine z_getR C fl_0_22 Hh dX0_source_48 rfl hm (fun x10 hm => ?_)
      refine lv_iload_n hx hb dX0_source_51 rfl (lv_at hl 2 rfl) ?_
      refine z_iald C Hh dX0_source_52 hm (fun x11 hm => ?_)
      refine z_cVIr (vs := [qI x8, qR g x9, qI 0, qI l2, qI x11]) C (fun q hq => ct_X8_source l g h x6 x8 x9 0 l2 x11 q hq) tw_854 my_X8_source (fun q hq => tg_X8_source hq) rfl hl.1 Hh ⟨Nat.le_of_ble_eq_true rfl, Nat.le_of_ble_eq_true rfl, Nat.le_of_ble_eq_true rfl, Nat.le_of_ble_eq_true rfl⟩ (Nat.le_of_ble_eq_true rfl) dX0_source_53 rfl hm (fun x12 H locs Hh hm => ?_)
      exact z_iretR (h0 := h) C hr hlocks Hh dX0_source_56 hm
    · refine lv_iload_n hx hb dX0_source_29 rfl (lv_at hl 3 rfl) ?_
      exact z_iretR (h0 := h) C hr hlocks Hh dX0_source_30 hm
theorem tg_X8_beside {h : Hp} {l0 l1 l2 : Int} {r : Int} (hm : M_X8_beside h l0 l1 l2 = some r) : hT h l0 = 18 := (tk_inv hm).1
set_option maxRecDepth 100000 in
set_option maxHeartbeats 4000000 in
theorem ct_X8_beside (l : Launch) (g : zGeo) (h : Hp) (l0 l1 l2 : Int) (r : Int) (hm : M_X8_beside h l0 l1 l2 = some r) : zM l yX8_beside cX8_beside 5 (some .int) 0 0 0 0 g h [qR g l0, qI l1, qI l2] h (some (qI r)) := by
  refine z_meth (by decide) (Nat.le_of_ble_eq_true rfl) ?_
  intro p e s m args below meth c H ls C hr hlocks hnm Hh hl
  have C : zC p m c cX8_beside 5 s args RX8 g := C
  have hnm : meth.name = "beside" := hnm
  have hx := C.1.1
  have hb := C.1.2.1
  have hl : lv_has ls 5 [(0, qR g l0), (1, qI l1), (2, qI l2)] := hl
  unfold M_X8_beside at hm
  replace hm := (tk_inv hm).2
  refine lv_iload_n hx hb dX8_beside_0 rfl (lv_at hl 1 rfl) ?_
  refine z_bipush C dX8_beside_1 rfl ?_
  refine z_irem C dX8_beside_3 hm (fun x1 hm => ?_)
  refine lv_istore_n (lv' := [(3, qI x1), (0, qR g l0), (1, qI l1), (2, qI l2)]) hx hb dX8_beside_4 rfl hl (by decide) rfl (fun ls hl => ?_)
  refine lv_iload_n hx hb dX8_beside_5 rfl (lv_at hl 2 rfl) ?_
  refine z_bipush C dX8_beside_6 rfl ?_
  refine z_idiv C dX8_beside_8 hm (fun x2 hm => ?_)
  refine lv_istore (lv' := [(4, qI x2), (3, qI x1), (0, qR g l0), (1, qI l1), (2, qI l2)]) hx hb dX8_beside_9 hl (by decide) rfl (fun ls hl => ?_)
  refine lv_iload_n hx hb dX8_beside_11 rfl (lv_at hl 4 rfl) ?_
  refine z_sw hm (fun q hm => ?_) (fun q0 hm => ?_)
  · refine z_tin (tgt := 40) (off := 28) C dX8_beside_12 q (by decide) (by decide) rfl (by decide) ?_
    refine lv_iload_n hx hb dX8_beside_40 rfl (lv_at hl 1 rfl) ?_
    refine z_if_le (tgt := 50) C dX8_beside_41 (by decide) rfl hm (fun _ hm => ?_) (fun _ hm => ?_)
    · refine z_iconst C dX8_beside_50 ?_
      exact z_iretR (h0 := h) C hr hlocks Hh dX8_beside_51 hm
    · refine lv_iload_n hx hb dX8_beside_44 rfl (lv_at hl 3 rfl) ?_
      refine z_iconst C dX8_beside_45 ?_
      refine z_isub C dX8_beside_46 ?_
      refine lv_goto (tgt := 51) hx hb dX8_beside_47 (by decide) ?_
      exact z_iretR (h0 := h) C hr hlocks Hh dX8_beside_51 hm
  refine z_sw hm (fun q hm => ?_) (fun q1 hm => ?_)
  · refine z_tin (tgt := 52) (off := 40) C dX8_beside_12 q (by decide) (by decide) rfl (by decide) ?_
    refine lv_iload_n hx hb dX8_beside_52 rfl (lv_at hl 1 rfl) ?_
    refine lv_aload_n hx hb dX8_beside_53 rfl (lv_at hl 2 rfl) ?_
    refine z_getI C fl_8_9 Hh dX8_beside_54 rfl hm (fun x3 hm => ?_)
    refine z_iconst C dX8_beside_57 ?_
    refine z_isub C dX8_beside_58 ?_
    refine z_icmp_ge (tgt := 68) C dX8_beside_59 (by decide) rfl rfl hm (fun _ hm => ?_) (fun _ hm => ?_)
    · refine z_iconst C dX8_beside_68 ?_
      exact z_iretR (h0 := h) C hr hlocks Hh dX8_beside_69 hm
    · refine lv_iload_n hx hb dX8_beside_62 rfl (lv_at hl 3 rfl) ?_
      refine z_iconst C dX8_beside_63 ?_
      refine z_iadd C dX8_beside_64 ?_
      refine lv_goto (tgt := 69) hx hb dX8_beside_65 (by decide) ?_
      exact z_iretR (h0 := h) C hr hlocks Hh dX8_beside_69 hm
  refine z_sw hm (fun q hm => ?_) (fun q2 hm => ?_)
  · refine z_tin (tgt := 70) (off := 58) C dX8_beside_12 q (by decide) (by decide) rfl (by decide) ?_
    refine lv_iload hx hb dX8_beside_70 (lv_at hl 0 rfl) ?_
    refine z_if_le (tgt := 82) C dX8_beside_72 (by decide) rfl hm (fun _ hm => ?_) (fun _ hm => ?_)
    · refine z_iconst C dX8_beside_82 ?_
      exact z_iretR (h0 := h) C hr hlocks Hh dX8_beside_83 hm
    · refine lv_iload_n hx hb dX8_beside_75 rfl (lv_at hl 3 rfl) ?_
      refine z_bipush C dX8_beside_76 rfl ?_
      refine z_isub C dX8_beside_78 ?_
      refine lv_goto (tgt := 83) hx hb dX8_beside_79 (by decide) ?_
      exact z_iretR (h0 := h) C hr hlocks Hh dX8_beside_83 hm
  refine z_tout (tgt := 84) C dX8_beside_12 (by omega) (by decide) ?_
  refine lv_iload hx hb dX8_beside_84 (lv_at hl 0 rfl) ?_
  refine lv_aload_n hx hb dX8_beside_86 rfl (lv_at hl 2 rfl) ?_
  refine z_getI C fl_8_15 Hh dX8_beside_87 rfl hm (fun x4 hm => ?_)
  refine z_iconst C dX8_beside_90 ?_
  refine z_isub C dX8_beside_91 ?_
  refine z_icmp_ge (tgt := 102) C dX8_beside_92 (by decide) rfl rfl hm (fun _ hm => ?_) (fun _ hm => ?_)
  · refine z_iconst C dX8_beside_102 ?_
    exact z_iretR (h0 := h) C hr hlocks Hh dX8_beside_103 hm
  · refine lv_iload_n hx hb dX8_beside_95 rfl (lv_at hl 3 rfl) ?_
    refine z_bipush C dX8_beside_96 rfl ?_
    refine z_iadd C dX8_beside_98 ?_
    refine lv_goto (tgt := 103) hx hb dX8_beside_99 (by decide) ?_
    exact z_iretR (h0 := h) C hr hlocks Hh dX8_beside_103 hm
theorem tg_X0_wantAround {h : Hp} {l0 l1 l2 : Int} {r : Hp} (hm : M_X0_wantAround h l0 l1 l2 = some r) : hT h l0 = 10 := (tk_inv hm).1
set_option maxRecDepth 100000 in
set_option maxHeartbeats 4000000 in
theorem ct_X0_wantAround (l : Launch) (g : zGeo) (h0 : Hp) (l0 l1 l2 : Int) (r : Hp) (hm : M_X0_wantAround h0 l0 l1 l2 = some r) : zM l yX0_wantAround cX0_wantAround 5 none 1 24 0 0 g h0 [qR g l0, qI l1, qI l2] r none := by
  refine z_meth (by decide) (Nat.le_of_ble_eq_true rfl) ?_
  intro p e s m args below meth c H ls C hr hlocks hnm Hh hl
  have C : zC p m c cX0_wantAround 5 s args RX0 g := C
  have hnm : meth.name = "wantAround" := hnm
  have hx := C.1.1
  have hb := C.1.2.1
  have hl : lv_has ls 5 [(0, qR g l0), (1, qI l1), (2, qI l2)] := hl
  unfold M_X0_wantAround at hm
  replace hm := (tk_inv hm).2
  generalize h0 = h at Hh hm
  have K37 : ∀ (h : Hp) (H : Heap) (locs : List Loc) (ls : Array Slot), zH g s h H locs → lv_has ls 5 [] → M_X0_wantAround_p37 h = some r → W p l e { frames := 1, cells := 0, slots := 0, locals := 24 } s m args below meth c H locs 0 0 (zQ below g r none args s 0 0) (F0 m 37 ls []) := by
    intro h  H locs ls Hh hl hm
    unfold M_X0_wantAround_p37 at hm
    exact z_vret C hr hlocks Hh dX0_wantAround_37 hm
  have KL2 : ∀ (n : Nat) (h : Hp) (l0 l1 l2 l3 : Int) (H : Heap) (locs : List Loc) (ls : Array Slot), zH g s h H locs → lv_has ls 5 [(0, qR g l0), (1, qI l1), (2, qI l2), (3, qI l3)] → M_X0_wantAround_w2 n h l0 l1 l2 l3 = some r → W p l e { frames := 1, cells := 0, slots := 0, locals := 24 } s m args below meth c H locs 0 0 (zQ below g r none args s 0 0) (F0 m 2 ls []) := by
    intro n
    induction n with
    | zero => intro h l0 l1 l2 l3 H locs ls Hh hl hm; cases hm
    | succ n ih2 =>
      intro h l0 l1 l2 l3 H locs ls Hh hl hm
      obtain ⟨z2, hm, hc2⟩ := wh_inv hm
      have hm : M_X0_wantAround_b2 h l0 l1 l2 l3 = some z2 := hm
      have K31 : ∀ (h : Hp) (l3 : Int) (H : Heap) (locs : List Loc) (ls : Array Slot), zH g s h H locs → lv_has ls 5 [(0, qR g l0), (1, qI l1), (2, qI l2), (3, qI l3)] → M_X0_wantAround_p31 h l0 l1 l2 l3 = some z2 → W p l e { frames := 1, cells := 0, slots := 0, locals := 24 } s m args below meth c H locs 0 0 (zQ below g r none args s 0 0) (F0 m 31 ls []) := by
        intro h l3  H locs ls Hh hl hm
        unfold M_X0_wantAround_p31 at hm
        refine z_iinc (x := l3) (k := 3) (lv' := [(3, qI (l3 + 1)), (0, qR g l0), (1, qI l1), (2, qI l2)]) C dX0_wantAround_31 hl rfl (by decide) rfl (fun ls hl => ?_)
        refine lv_goto (tgt := 2) hx hb dX0_wantAround_34 (by decide) ?_
        cases hm
        exact ih2 h l0 l1 l2 (l3 + 1) _ _ _ Hh (lv_sub hl [1, 2, 3, 0] rfl) hc2
      unfold M_X0_wantAround_b2 at hm
      refine lv_iload_n hx hb dX0_wantAround_2 rfl (lv_at hl 3 rfl) ?_
      refine z_iconst C dX0_wantAround_3 ?_
      refine z_icmp_ge (tgt := 37) C dX0_wantAround_4 (by decide) rfl lq_p4 hm (fun _ hm => ?_) (fun _ hm => ?_)
      · cases hm
        exact K37 h _ _ _ Hh (lv_sub hl [] rfl) hc2
      · refine lv_aload_n hx hb dX0_wantAround_7 rfl (lv_at hl 0 rfl) ?_
        refine z_getR C fl_0_38 Hh dX0_wantAround_8 rfl hm (fun x1 hm => ?_)
        refine lv_iload_n hx hb dX0_wantAround_11 rfl (lv_at hl 2 rfl) ?_
        refine lv_iload_n hx hb dX0_wantAround_12 rfl (lv_at hl 3 rfl) ?_
        refine z_cVIr (vs := [qI l2, qI l3]) C (fun q hq => ct_X8_beside l g h x1 l2 l3 q hq) tw_870 my_X8_beside (fun q hq => tg_X8_beside hq) rfl hl.1 Hh ⟨Nat.le_of_ble_eq_true rfl, Nat.le_of_ble_eq_true rfl, Nat.le_of_ble_eq_true rfl, Nat.le_of_ble_eq_true rfl⟩ (Nat.le_of_ble_eq_true rfl) dX0_wantAround_13 rfl hm (fun x2 H locs Hh hm => ?_)
        refine lv_istore (lv' := [(4, qI x2), (0, qR g l0), (1, qI l1), (2, qI l2), (3, qI l3)]) hx hb dX0_wantAround_16 hl (by decide) rfl (fun ls hl => ?_)
        refine lv_iload hx hb dX0_wantAround_18 (lv_at hl 0 rfl) ?_
        refine z_iconst C dX0_wantAround_20 ?_
        refine z_icmp_eq (tgt := 31) C dX0_wantAround_21 (by decide) rfl lq_m1 hm (fun _ hm => ?_) (fun _ hm => ?_)
        · exact K31 h l3 _ _ _ Hh (lv_sub hl [1, 2, 3, 4] rfl) hm
        · refine lv_aload_n hx hb dX0_wantAround_24 rfl (lv_at hl 1 rfl) ?_
          refine lv_iload_n hx hb dX0_wantAround_25 rfl (lv_at hl 2 rfl) ?_
          refine lv_iload hx hb dX0_wantAround_26 (lv_at hl 0 rfl) ?_
          refine z_cVv (vs := [qI l1, qI x2]) C (fun q hq => ct_X0_want l g h l0 l1 x2 q hq) tw_842 my_X0_want (fun q hq => tg_X0_want hq) rfl hl.1 Hh ⟨Nat.le_of_ble_eq_true rfl, Nat.le_of_ble_eq_true rfl, Nat.le_of_ble_eq_true rfl, Nat.le_of_ble_eq_true rfl⟩ (Nat.le_of_ble_eq_true rfl) dX0_wantAround_28 rfl hm (fun h H locs Hh hm => ?_)
          exact K31 h l3 _ _ _ Hh (lv_sub hl [1, 2, 3, 4] rfl) hm
  refine z_iconst C dX0_wantAround_0 ?_
  refine lv_istore_n (lv' := [(3, qI 0), (0, qR g l0), (1, qI l1), (2, qI l2)]) hx hb dX0_wantAround_1 rfl hl (by decide) rfl (fun ls hl => ?_)
  exact KL2 FU h l0 l1 l2 0 _ _ _ Hh (lv_sub hl [1, 2, 3, 0] rfl) hm
theorem tg_X0_prepare {h : Hp} {l0 : Int} {r : Hp} (hm : M_X0_prepare h l0 = some r) : hT h l0 = 10 := (tk_inv hm).1
set_option maxRecDepth 100000 in
set_option maxHeartbeats 4000000 in
theorem ct_X0_prepare (l : Launch) (g : zGeo) (h0 : Hp) (l0 : Int) (r : Hp) (hm : M_X0_prepare h0 l0 = some r) : zM l yX0_prepare cX0_prepare 6 none 3 80 0 0 g h0 [qR g l0] r none := by
  refine z_meth (by decide) (Nat.le_of_ble_eq_true rfl) ?_
  intro p e s m args below meth c H ls C hr hlocks hnm Hh hl
  have C : zC p m c cX0_prepare 6 s args RX0 g := C
  have hnm : meth.name = "prepare" := hnm
  have hx := C.1.1
  have hb := C.1.2.1
  have hl : lv_has ls 6 [(0, qR g l0)] := hl
  unfold M_X0_prepare at hm
  replace hm := (tk_inv hm).2
  generalize h0 = h at Hh hm
  have K114 : ∀ (h : Hp) (l0 : Int) (H : Heap) (locs : List Loc) (ls : Array Slot), zH g s h H locs → lv_has ls 6 [(0, qR g l0)] → M_X0_prepare_p114 h l0 = some r → W p l e { frames := 3, cells := 0, slots := 0, locals := 80 } s m args below meth c H locs 0 0 (zQ below g r none args s 0 0) (F0 m 114 ls []) := by
    intro h l0  H locs ls Hh hl hm
    unfold M_X0_prepare_p114 at hm
    refine lv_aload_n hx hb dX0_prepare_114 rfl (lv_at hl 0 rfl) ?_
    refine z_getR C fl_0_38 Hh dX0_prepare_115 rfl hm (fun x1 hm => ?_)
    refine z_getR C fl_0_108 Hh dX0_prepare_118 rfl hm (fun x2 hm => ?_)
    refine z_bipush C dX0_prepare_121 rfl ?_
    refine lv_aload_n hx hb dX0_prepare_123 rfl (lv_at hl 0 rfl) ?_
    refine z_getR C fl_0_18 Hh dX0_prepare_124 rfl hm (fun x3 hm => ?_)
    refine lv_aload_n hx hb dX0_prepare_127 rfl (lv_at hl 0 rfl) ?_
    refine z_getI C fl_0_15 Hh dX0_prepare_128 rfl hm (fun x4 hm => ?_)
    refine z_iald C Hh dX0_prepare_131 hm (fun x5 hm => ?_)
    refine z_imul C dX0_prepare_132 ?_
    refine lv_aload_n hx hb dX0_prepare_133 rfl (lv_at hl 0 rfl) ?_
    refine z_getR C fl_0_25 Hh dX0_prepare_134 rfl hm (fun x6 hm => ?_)
    refine z_bipush C dX0_prepare_137 rfl ?_
    refine lv_aload_n hx hb dX0_prepare_139 rfl (lv_at hl 0 rfl) ?_
    refine z_getI C fl_0_15 Hh dX0_prepare_140 rfl hm (fun x7 hm => ?_)
    refine z_imul C dX0_prepare_143 ?_
    refine z_bipush C dX0_prepare_144 rfl ?_
    refine z_cpy (t := 1) C cp_0_63 (by decide) hl.1 Hh dX0_prepare_146 (Nat.le_of_ble_eq_true rfl) (Nat.le_of_ble_eq_true rfl) hm (fun h H locs Hh hm => ?_)
    exact z_vret C hr hlocks Hh dX0_prepare_149 hm
  have KL5 : ∀ (n : Nat) (h : Hp) (l0 l1 : Int) (H : Heap) (locs : List Loc) (ls : Array Slot), zH g s h H locs → lv_has ls 6 [(0, qR g l0), (1, qI l1)] → M_X0_prepare_w5 n h l0 l1 = some r → W p l e { frames := 3, cells := 0, slots := 0, locals := 80 } s m args below meth c H locs 0 0 (zQ below g r none args s 0 0) (F0 m 5 ls []) := by
    intro n
    induction n with
    | zero => intro h l0 l1 H locs ls Hh hl hm; cases hm
    | succ n ih5 =>
      intro h l0 l1 H locs ls Hh hl hm
      obtain ⟨z5, hm, hc5⟩ := wh_inv hm
      have hm : M_X0_prepare_b5 h l0 l1 = some z5 := hm
      have K108 : ∀ (h : Hp) (l1 : Int) (H : Heap) (locs : List Loc) (ls : Array Slot), zH g s h H locs → lv_has ls 6 [(0, qR g l0), (1, qI l1)] → M_X0_prepare_p108 h l0 l1 = some z5 → W p l e { frames := 3, cells := 0, slots := 0, locals := 80 } s m args below meth c H locs 0 0 (zQ below g r none args s 0 0) (F0 m 108 ls []) := by
        intro h l1  H locs ls Hh hl hm
        unfold M_X0_prepare_p108 at hm
        refine z_iinc (x := l1) (k := 1) (lv' := [(1, qI (l1 + (-1))), (0, qR g l0)]) C dX0_prepare_108 hl rfl (by decide) rfl (fun ls hl => ?_)
        refine lv_goto (tgt := 5) hx hb dX0_prepare_111 (by decide) ?_
        cases hm
        exact ih5 h l0 (l1 + (-1)) _ _ _ Hh (lv_sub hl [1, 0] rfl) hc5
      have KL42 : ∀ (n : Nat) (h : Hp) (l1 l2 l3 : Int) (H : Heap) (locs : List Loc) (ls : Array Slot), zH g s h H locs → lv_has ls 6 [(0, qR g l0), (1, qI l1), (2, qI l2), (3, qI l3)] → M_X0_prepare_w42 n h l0 l1 l2 l3 = some z5 → W p l e { frames := 3, cells := 0, slots := 0, locals := 80 } s m args below meth c H locs 0 0 (zQ below g r none args s 0 0) (F0 m 42 ls []) := by
        intro n
        induction n with
        | zero => intro h l1 l2 l3 H locs ls Hh hl hm; cases hm
        | succ n ih42 =>
          intro h l1 l2 l3 H locs ls Hh hl hm
          obtain ⟨z42, hm, hc42⟩ := wh_inv hm
          have hm : M_X0_prepare_b42 h l0 l1 l2 l3 = some z42 := hm
          have K102 : ∀ (h : Hp) (l3 : Int) (H : Heap) (locs : List Loc) (ls : Array Slot), zH g s h H locs → lv_has ls 6 [(0, qR g l0), (1, qI l1), (2, qI l2), (3, qI l3)] → M_X0_prepare_p102 h l0 l1 l2 l3 = some z42 → W p l e { frames := 3, cells := 0, slots := 0, locals := 80 } s m args below meth c H locs 0 0 (zQ below g r none args s 0 0) (F0 m 102 ls []) := by
            intro h l3  H locs ls Hh hl hm
            unfold M_X0_prepare_p102 at hm
            refine z_iinc (x := l3) (k := 3) (lv' := [(3, qI (l3 + 1)), (0, qR g l0), (1, qI l1), (2, qI l2)]) C dX0_prepare_102 hl rfl (by decide) rfl (fun ls hl => ?_)
            refine lv_goto (tgt := 42) hx hb dX0_prepare_105 (by decide) ?_
            cases hm
            exact ih42 h l1 l2 (l3 + 1) _ _ _ Hh (lv_sub hl [1, 2, 3, 0] rfl) hc42
          have K89 : ∀ (h : Hp) (l3 l4 : Int) (H : Heap) (locs : List Loc) (ls : Array Slot), zH g s h H locs → lv_has ls 6 [(0, qR g l0), (1, qI l1), (2, qI l2), (3, qI l3), (4, qI l4)] → M_X0_prepare_p89 h l0 l1 l2 l3 l4 = some z42 → W p l e { frames := 3, cells := 0, slots := 0, locals := 80 } s m args below meth c H locs 0 0 (zQ below g r none args s 0 0) (F0 m 89 ls []) := by
            intro h l3 l4  H locs ls Hh hl hm
            unfold M_X0_prepare_p89 at hm
            refine lv_iload_n hx hb dX0_prepare_89 rfl (lv_at hl 2 rfl) ?_
            refine z_if_eq (tgt := 102) C dX0_prepare_90 (by decide) rfl hm (fun _ hm => ?_) (fun _ hm => ?_)
            · exact K102 h l3 _ _ _ Hh (lv_sub hl [0, 1, 2, 3] rfl) hm
            · refine lv_aload_n hx hb dX0_prepare_93 rfl (lv_at hl 0 rfl) ?_
              refine lv_iload_n hx hb dX0_prepare_94 rfl (lv_at hl 1 rfl) ?_
              refine z_iconst C dX0_prepare_95 ?_
              refine z_isub C dX0_prepare_96 ?_
              refine lv_iload hx hb dX0_prepare_97 (lv_at hl 4 rfl) ?_
              refine z_cVv (vs := [qI (l1 - 1), qI l4]) C (fun q hq => ct_X0_wantAround l g h l0 (l1 - 1) l4 q hq) tw_866 my_X0_wantAround (fun q hq => tg_X0_wantAround hq) rfl hl.1 Hh ⟨Nat.le_of_ble_eq_true rfl, Nat.le_of_ble_eq_true rfl, Nat.le_of_ble_eq_true rfl, Nat.le_of_ble_eq_true rfl⟩ (Nat.le_of_ble_eq_true rfl) dX0_prepare_99 rfl hm (fun h H locs Hh hm => ?_)
              exact K102 h l3 _ _ _ Hh (lv_sub hl [0, 1, 2, 3] rfl) hm
          unfold M_X0_prepare_b42 at hm
          refine lv_iload_n hx hb dX0_prepare_42 rfl (lv_at hl 3 rfl) ?_
          refine lv_aload_n hx hb dX0_prepare_43 rfl (lv_at hl 0 rfl) ?_
          refine z_getR C fl_0_31 Hh dX0_prepare_44 rfl hm (fun x8 hm => ?_)
          refine lv_iload_n hx hb dX0_prepare_47 rfl (lv_at hl 1 rfl) ?_
          refine z_iald C Hh dX0_prepare_48 hm (fun x9 hm => ?_)
          refine z_icmp_ge (tgt := 108) C dX0_prepare_49 (by decide) rfl rfl hm (fun _ hm => ?_) (fun _ hm => ?_)
          · cases hm
            exact K108 h l1 _ _ _ Hh (lv_sub hl [0, 1] rfl) hc42
          · refine lv_aload_n hx hb dX0_prepare_52 rfl (lv_at hl 0 rfl) ?_
            refine z_getR C fl_0_28 Hh dX0_prepare_53 rfl hm (fun x10 hm => ?_)
            refine z_bipush C dX0_prepare_56 rfl ?_
            refine lv_iload_n hx hb dX0_prepare_58 rfl (lv_at hl 1 rfl) ?_
            refine z_imul C dX0_prepare_59 ?_
            refine lv_iload_n hx hb dX0_prepare_60 rfl (lv_at hl 3 rfl) ?_
            refine z_iadd C dX0_prepare_61 ?_
            refine z_iald C Hh dX0_prepare_62 hm (fun x11 hm => ?_)
            refine lv_istore (lv' := [(4, qI x11), (0, qR g l0), (1, qI l1), (2, qI l2), (3, qI l3)]) hx hb dX0_prepare_63 hl (by decide) rfl (fun ls hl => ?_)
            refine lv_aload_n hx hb dX0_prepare_65 rfl (lv_at hl 1 rfl) ?_
            refine lv_iload_n hx hb dX0_prepare_66 rfl (lv_at hl 2 rfl) ?_
            refine lv_iload hx hb dX0_prepare_67 (lv_at hl 0 rfl) ?_
            refine z_cVIr (vs := [qI l1, qI x11]) C (fun q hq => ct_X0_source l g h l0 l1 x11 q hq) tw_850 my_X0_source (fun q hq => tg_X0_source hq) rfl hl.1 Hh ⟨Nat.le_of_ble_eq_true rfl, Nat.le_of_ble_eq_true rfl, Nat.le_of_ble_eq_true rfl, Nat.le_of_ble_eq_true rfl⟩ (Nat.le_of_ble_eq_true rfl) dX0_prepare_69 rfl hm (fun x12 H locs Hh hm => ?_)
            refine lv_istore (lv' := [(5, qI x12), (4, qI x11), (0, qR g l0), (1, qI l1), (2, qI l2), (3, qI l3)]) hx hb dX0_prepare_72 hl (by decide) rfl (fun ls hl => ?_)
            refine lv_iload hx hb dX0_prepare_74 (lv_at hl 0 rfl) ?_
            refine z_iconst C dX0_prepare_76 ?_
            refine z_icmp_eq (tgt := 89) C dX0_prepare_77 (by decide) rfl lq_m1 hm (fun _ hm => ?_) (fun _ hm => ?_)
            · exact K89 h l3 x11 _ _ _ Hh (lv_sub hl [2, 3, 4, 5, 1] rfl) hm
            · refine lv_aload_n hx hb dX0_prepare_80 rfl (lv_at hl 2 rfl) ?_
              refine lv_iload_n hx hb dX0_prepare_81 rfl (lv_at hl 3 rfl) ?_
              refine z_iconst C dX0_prepare_82 ?_
              refine z_isub C dX0_prepare_83 ?_
              refine lv_iload hx hb dX0_prepare_84 (lv_at hl 0 rfl) ?_
              refine z_cVv (vs := [qI (l1 - 1), qI x12]) C (fun q hq => ct_X0_want l g h l0 (l1 - 1) x12 q hq) tw_842 my_X0_want (fun q hq => tg_X0_want hq) rfl hl.1 Hh ⟨Nat.le_of_ble_eq_true rfl, Nat.le_of_ble_eq_true rfl, Nat.le_of_ble_eq_true rfl, Nat.le_of_ble_eq_true rfl⟩ (Nat.le_of_ble_eq_true rfl) dX0_prepare_86 rfl hm (fun h H locs Hh hm => ?_)
              exact K89 h l3 x11 _ _ _ Hh (lv_sub hl [2, 3, 4, 5, 1] rfl) hm
      have K39 : ∀ (h : Hp) (l1 : Int) (s0 : Int) (H : Heap) (locs : List Loc) (ls : Array Slot), zH g s h H locs → lv_has ls 6 [(0, qR g l0), (1, qI l1)] → M_X0_prepare_p39 h l0 l1 s0 = some z5 → W p l e { frames := 3, cells := 0, slots := 0, locals := 80 } s m args below meth c H locs 0 0 (zQ below g r none args s 0 0) (F0 m 39 ls [qI s0]) := by
        intro h l1 s0 H locs ls Hh hl hm
        unfold M_X0_prepare_p39 at hm
        refine lv_istore_n (lv' := [(2, qI s0), (0, qR g l0), (1, qI l1)]) hx hb dX0_prepare_39 rfl hl (by decide) rfl (fun ls hl => ?_)
        refine z_iconst C dX0_prepare_40 ?_
        refine lv_istore_n (lv' := [(3, qI 0), (2, qI s0), (0, qR g l0), (1, qI l1)]) hx hb dX0_prepare_41 rfl hl (by decide) rfl (fun ls hl => ?_)
        exact KL42 FU h l1 s0 0 _ _ _ Hh (lv_sub hl [2, 3, 1, 0] rfl) hm
      unfold M_X0_prepare_b5 at hm
      refine lv_iload_n hx hb dX0_prepare_5 rfl (lv_at hl 1 rfl) ?_
      refine lv_aload_n hx hb dX0_prepare_6 rfl (lv_at hl 0 rfl) ?_
      refine z_getI C fl_0_15 Hh dX0_prepare_7 rfl hm (fun x13 hm => ?_)
      refine z_icmp_le (tgt := 114) C dX0_prepare_10 (by decide) rfl rfl hm (fun _ hm => ?_) (fun _ hm => ?_)
      · cases hm
        exact K114 h l0 _ _ _ Hh (lv_sub hl [0] rfl) hc5
      · refine lv_aload_n hx hb dX0_prepare_13 rfl (lv_at hl 0 rfl) ?_
        refine z_getR C fl_0_38 Hh dX0_prepare_14 rfl hm (fun x14 hm => ?_)
        refine z_getR C fl_0_93 Hh dX0_prepare_17 rfl hm (fun x15 hm => ?_)
        refine z_iconst C dX0_prepare_20 ?_
        refine lv_aload_n hx hb dX0_prepare_21 rfl (lv_at hl 0 rfl) ?_
        refine z_getR C fl_0_18 Hh dX0_prepare_22 rfl hm (fun x16 hm => ?_)
        refine lv_iload_n hx hb dX0_prepare_25 rfl (lv_at hl 1 rfl) ?_
        refine z_iald C Hh dX0_prepare_26 hm (fun x17 hm => ?_)
        refine z_imul C dX0_prepare_27 ?_
        refine z_iald C Hh dX0_prepare_28 hm (fun x18 hm => ?_)
        refine z_bipush C dX0_prepare_29 rfl ?_
        refine z_icmp_ne (tgt := 38) C dX0_prepare_31 (by decide) rfl lq_p6 hm (fun _ hm => ?_) (fun _ hm => ?_)
        · refine z_iconst C dX0_prepare_38 ?_
          exact K39 h l1 0 _ _ _ Hh (lv_sub hl [0, 1] rfl) hm
        · refine z_iconst C dX0_prepare_34 ?_
          refine lv_goto (tgt := 39) hx hb dX0_prepare_35 (by decide) ?_
          exact K39 h l1 1 _ _ _ Hh (lv_sub hl [0, 1] rfl) hm
  refine lv_aload_n hx hb dX0_prepare_0 rfl (lv_at hl 0 rfl) ?_
  refine z_getI C fl_0_9 Hh dX0_prepare_1 rfl hm (fun x19 hm => ?_)
  refine lv_istore_n (lv' := [(1, qI x19), (0, qR g l0)]) hx hb dX0_prepare_4 rfl hl (by decide) rfl (fun ls hl => ?_)
  exact KL5 FU h l0 x19 _ _ _ Hh (lv_sub hl [1, 0] rfl) hm
theorem tg_X8_markFor {h : Hp} {l0 l1 l2 l3 l4 l5 : Int} {r : Int} (hm : M_X8_markFor h l0 l1 l2 l3 l4 l5 = some r) : hT h l0 = 18 := (tk_inv hm).1
set_option maxRecDepth 100000 in
set_option maxHeartbeats 4000000 in
theorem ct_X8_markFor (l : Launch) (g : zGeo) (h : Hp) (l0 l1 l2 l3 l4 l5 : Int) (r : Int) (hm : M_X8_markFor h l0 l1 l2 l3 l4 l5 = some r) : zM l yX8_markFor cX8_markFor 11 (some .int) 2 57 0 0 g h [qR g l0, qI l1, qR g l2, qI l3, qI l4, qI l5] h (some (qI r)) := by
  refine z_meth (by decide) (Nat.le_of_ble_eq_true rfl) ?_
  intro p e s m args below meth c H ls C hr hlocks hnm Hh hl
  have C : zC p m c cX8_markFor 11 s args RX8 g := C
  have hnm : meth.name = "markFor" := hnm
  have hx := C.1.1
  have hb := C.1.2.1
  have hl : lv_has ls 11 [(0, qR g l0), (1, qI l1), (2, qR g l2), (3, qI l3), (4, qI l4), (5, qI l5)] := hl
  unfold M_X8_markFor at hm
  replace hm := (tk_inv hm).2
  refine lv_aload_n hx hb dX8_markFor_0 rfl (lv_at hl 0 rfl) ?_
  refine lv_iload_n hx hb dX8_markFor_1 rfl (lv_at hl 1 rfl) ?_
  refine lv_aload_n hx hb dX8_markFor_2 rfl (lv_at hl 2 rfl) ?_
  refine lv_iload_n hx hb dX8_markFor_3 rfl (lv_at hl 3 rfl) ?_
  refine lv_iload hx hb dX8_markFor_4 (lv_at hl 4 rfl) ?_
  refine lv_iload hx hb dX8_markFor_6 (lv_at hl 5 rfl) ?_
  refine z_cVIr (vs := [qI l1, qR g l2, qI l3, qI l4, qI l5]) C (fun q hq => ct_X8_source l g h l0 l1 l2 l3 l4 l5 q hq) tw_883 my_X8_source (fun q hq => tg_X8_source hq) rfl hl.1 Hh ⟨Nat.le_of_ble_eq_true rfl, Nat.le_of_ble_eq_true rfl, Nat.le_of_ble_eq_true rfl, Nat.le_of_ble_eq_true rfl⟩ (Nat.le_of_ble_eq_true rfl) dX8_markFor_8 rfl hm (fun x1 H locs Hh hm => ?_)
  refine lv_istore (lv' := [(6, qI x1), (0, qR g l0), (1, qI l1), (2, qR g l2), (3, qI l3), (4, qI l4), (5, qI l5)]) hx hb dX8_markFor_11 hl (by decide) rfl (fun ls hl => ?_)
  refine lv_aload_n hx hb dX8_markFor_13 rfl (lv_at hl 1 rfl) ?_
  refine z_getR C fl_8_28 Hh dX8_markFor_14 rfl hm (fun x2 hm => ?_)
  refine z_iconst C dX8_markFor_17 ?_
  refine lv_iload_n hx hb dX8_markFor_18 rfl (lv_at hl 2 rfl) ?_
  refine z_imul C dX8_markFor_19 ?_
  refine z_iald C Hh dX8_markFor_20 hm (fun x3 hm => ?_)
  refine lv_istore (lv' := [(7, qI x3), (6, qI x1), (0, qR g l0), (1, qI l1), (2, qR g l2), (3, qI l3), (4, qI l4), (5, qI l5)]) hx hb dX8_markFor_21 hl (by decide) rfl (fun ls hl => ?_)
  refine lv_aload_n hx hb dX8_markFor_23 rfl (lv_at hl 2 rfl) ?_
  refine z_getR C fl_8_28 Hh dX8_markFor_24 rfl hm (fun x4 hm => ?_)
  refine z_iconst C dX8_markFor_27 ?_
  refine lv_iload_n hx hb dX8_markFor_28 rfl (lv_at hl 3 rfl) ?_
  refine z_imul C dX8_markFor_29 ?_
  refine z_iconst C dX8_markFor_30 ?_
  refine z_iadd C dX8_markFor_31 ?_
  refine z_iald C Hh dX8_markFor_32 hm (fun x5 hm => ?_)
  refine lv_istore (lv' := [(8, qI x5), (7, qI x3), (6, qI x1), (0, qR g l0), (1, qI l1), (2, qR g l2), (3, qI l3), (4, qI l4), (5, qI l5)]) hx hb dX8_markFor_33 hl (by decide) rfl (fun ls hl => ?_)
  refine lv_iload hx hb dX8_markFor_35 (lv_at hl 2 rfl) ?_
  refine z_iconst C dX8_markFor_37 ?_
  refine z_icmp_ne (tgt := 55) C dX8_markFor_38 (by decide) rfl lq_m1 hm (fun _ hm => ?_) (fun _ hm => ?_)
  · refine lv_aload_n hx hb dX8_markFor_55 rfl (lv_at hl 5 rfl) ?_
    refine lv_iload_n hx hb dX8_markFor_56 rfl (lv_at hl 6 rfl) ?_
    refine lv_iload hx hb dX8_markFor_57 (lv_at hl 2 rfl) ?_
    refine z_iadd C dX8_markFor_59 ?_
    refine z_iald C Hh dX8_markFor_60 hm (fun x6 hm => ?_)
    refine lv_istore (lv' := [(9, qI x6), (8, qI x5), (7, qI x3), (6, qI x1), (0, qR g l0), (1, qI l1), (2, qR g l2), (3, qI l3), (4, qI l4), (5, qI l5)]) hx hb dX8_markFor_61 hl (by decide) rfl (fun ls hl => ?_)
    refine lv_iload hx hb dX8_markFor_63 (lv_at hl 2 rfl) ?_
    refine z_iconst C dX8_markFor_65 ?_
    refine z_icmp_ne (tgt := 108) C dX8_markFor_66 (by decide) rfl lq_p5 hm (fun _ hm => ?_) (fun _ hm => ?_)
    · refine lv_iload hx hb dX8_markFor_108 (lv_at hl 0 rfl) ?_
      exact z_iretR (h0 := h) C hr hlocks Hh dX8_markFor_110 hm
    · refine lv_aload_n hx hb dX8_markFor_69 rfl (lv_at hl 4 rfl) ?_
      refine z_getR C fl_8_28 Hh dX8_markFor_70 rfl hm (fun x7 hm => ?_)
      refine z_iconst C dX8_markFor_73 ?_
      refine lv_iload_n hx hb dX8_markFor_74 rfl (lv_at hl 5 rfl) ?_
      refine z_imul C dX8_markFor_75 ?_
      refine z_iconst C dX8_markFor_76 ?_
      refine z_iadd C dX8_markFor_77 ?_
      refine z_iald C Hh dX8_markFor_78 hm (fun x8 hm => ?_)
      refine lv_istore (lv' := [(10, qI x8), (9, qI x6), (8, qI x5), (7, qI x3), (6, qI x1), (0, qR g l0), (1, qI l1), (2, qR g l2), (3, qI l3), (4, qI l4), (5, qI l5)]) hx hb dX8_markFor_79 hl (by decide) rfl (fun ls hl => ?_)
      refine lv_iload hx hb dX8_markFor_81 (lv_at hl 1 rfl) ?_
      refine lv_iload hx hb dX8_markFor_83 (lv_at hl 2 rfl) ?_
      refine z_icmp_ne (tgt := 93) C dX8_markFor_85 (by decide) rfl rfl hm (fun _ hm => ?_) (fun _ hm => ?_)
      · refine lv_iload hx hb dX8_markFor_93 (lv_at hl 1 rfl) ?_
        refine lv_iload hx hb dX8_markFor_95 (lv_at hl 0 rfl) ?_
        refine z_icmp_ne (tgt := 105) C dX8_markFor_97 (by decide) rfl rfl hm (fun _ hm => ?_) (fun _ hm => ?_)
        · refine lv_iload hx hb dX8_markFor_105 (lv_at hl 1 rfl) ?_
          exact z_iretR (h0 := h) C hr hlocks Hh dX8_markFor_107 hm
        · refine lv_iload hx hb dX8_markFor_100 (lv_at hl 2 rfl) ?_
          refine lv_goto (tgt := 107) hx hb dX8_markFor_102 (by decide) ?_
          exact z_iretR (h0 := h) C hr hlocks Hh dX8_markFor_107 hm
      · refine lv_iload hx hb dX8_markFor_88 (lv_at hl 0 rfl) ?_
        refine lv_goto (tgt := 107) hx hb dX8_markFor_90 (by decide) ?_
        exact z_iretR (h0 := h) C hr hlocks Hh dX8_markFor_107 hm
  · refine lv_iload hx hb dX8_markFor_41 (lv_at hl 1 rfl) ?_
    refine z_bipush C dX8_markFor_43 rfl ?_
    refine z_icmp_ne (tgt := 52) C dX8_markFor_45 (by decide) rfl lq_p7 hm (fun _ hm => ?_) (fun _ hm => ?_)
    · refine lv_iload hx hb dX8_markFor_52 (lv_at hl 0 rfl) ?_
      exact z_iretR (h0 := h) C hr hlocks Hh dX8_markFor_54 hm
    · refine z_iconst C dX8_markFor_48 ?_
      refine lv_goto (tgt := 54) hx hb dX8_markFor_49 (by decide) ?_
      exact z_iretR (h0 := h) C hr hlocks Hh dX8_markFor_54 hm
theorem tg_X0_build {h : Hp} {l0 l1 : Int} {r : Hp × Int} (hm : M_X0_build h l0 l1 = some r) : hT h l0 = 10 := (tk_inv hm).1
set_option maxRecDepth 100000 in
set_option maxHeartbeats 4000000 in
theorem ct_X0_build (l : Launch) (g : zGeo) (h0 : Hp) (l0 l1 : Int) (r : Hp × Int) (hm : M_X0_build h0 l0 l1 = some r) : zM l yX0_build cX0_build 7 (some .int) 3 87 0 0 g h0 [qR g l0, qI l1] r.1 (some (qI r.2)) := by
  refine z_meth (by decide) (Nat.le_of_ble_eq_true rfl) ?_
  intro p e s m args below meth c H ls C hr hlocks hnm Hh hl
  have C : zC p m c cX0_build 7 s args RX0 g := C
  have hnm : meth.name = "build" := hnm
  have hx := C.1.1
  have hb := C.1.2.1
  have hl : lv_has ls 7 [(0, qR g l0), (1, qI l1)] := hl
  unfold M_X0_build at hm
  replace hm := (tk_inv hm).2
  generalize h0 = h at Hh hm
  have K99 : ∀ (h : Hp) (l0 l1 : Int) (H : Heap) (locs : List Loc) (ls : Array Slot), zH g s h H locs → lv_has ls 7 [(0, qR g l0), (1, qI l1)] → M_X0_build_p99 h l0 l1 = some r → W p l e { frames := 3, cells := 0, slots := 0, locals := 87 } s m args below meth c H locs 0 0 (zQ below g r.1 (some (qI r.2)) args s 0 0) (F0 m 99 ls []) := by
    intro h l0 l1  H locs ls Hh hl hm
    unfold M_X0_build_p99 at hm
    refine lv_aload_n hx hb dX0_build_99 rfl (lv_at hl 0 rfl) ?_
    refine z_getR C fl_0_25 Hh dX0_build_100 rfl hm (fun x1 hm => ?_)
    refine z_bipush C dX0_build_103 rfl ?_
    refine lv_aload_n hx hb dX0_build_105 rfl (lv_at hl 0 rfl) ?_
    refine z_getI C fl_0_9 Hh dX0_build_106 rfl hm (fun x2 hm => ?_)
    refine z_imul C dX0_build_109 ?_
    refine lv_iload_n hx hb dX0_build_110 rfl (lv_at hl 1 rfl) ?_
    refine z_iadd C dX0_build_111 ?_
    refine z_iald C Hh dX0_build_112 hm (fun x3 hm => ?_)
    exact z_iret C hr hlocks Hh dX0_build_113 hm
  have KL7 : ∀ (n : Nat) (h : Hp) (l0 l1 l2 : Int) (H : Heap) (locs : List Loc) (ls : Array Slot), zH g s h H locs → lv_has ls 7 [(0, qR g l0), (1, qI l1), (2, qI l2)] → M_X0_build_w7 n h l0 l1 l2 = some r → W p l e { frames := 3, cells := 0, slots := 0, locals := 87 } s m args below meth c H locs 0 0 (zQ below g r.1 (some (qI r.2)) args s 0 0) (F0 m 7 ls []) := by
    intro n
    induction n with
    | zero => intro h l0 l1 l2 H locs ls Hh hl hm; cases hm
    | succ n ih7 =>
      intro h l0 l1 l2 H locs ls Hh hl hm
      obtain ⟨z7, hm, hc7⟩ := wh_inv hm
      have hm : M_X0_build_b7 h l0 l1 l2 = some z7 := hm
      have K93 : ∀ (h : Hp) (l2 : Int) (H : Heap) (locs : List Loc) (ls : Array Slot), zH g s h H locs → lv_has ls 7 [(0, qR g l0), (1, qI l1), (2, qI l2)] → M_X0_build_p93 h l0 l1 l2 = some z7 → W p l e { frames := 3, cells := 0, slots := 0, locals := 87 } s m args below meth c H locs 0 0 (zQ below g r.1 (some (qI r.2)) args s 0 0) (F0 m 93 ls []) := by
        intro h l2  H locs ls Hh hl hm
        unfold M_X0_build_p93 at hm
        refine z_iinc (x := l2) (k := 2) (lv' := [(2, qI (l2 + 1)), (0, qR g l0), (1, qI l1)]) C dX0_build_93 hl rfl (by decide) rfl (fun ls hl => ?_)
        refine lv_goto (tgt := 7) hx hb dX0_build_96 (by decide) ?_
        cases hm
        exact ih7 h l0 l1 (l2 + 1) _ _ _ Hh (lv_sub hl [1, 2, 0] rfl) hc7
      have KL29 : ∀ (n : Nat) (h : Hp) (l2 l3 l4 l5 : Int) (H : Heap) (locs : List Loc) (ls : Array Slot), zH g s h H locs → lv_has ls 7 [(0, qR g l0), (1, qI l1), (2, qI l2), (3, qI l3), (4, qI l4), (5, qI l5)] → M_X0_build_w29 n h l0 l1 l2 l3 l4 l5 = some z7 → W p l e { frames := 3, cells := 0, slots := 0, locals := 87 } s m args below meth c H locs 0 0 (zQ below g r.1 (some (qI r.2)) args s 0 0) (F0 m 29 ls []) := by
        intro n
        induction n with
        | zero => intro h l2 l3 l4 l5 H locs ls Hh hl hm; cases hm
        | succ n ih29 =>
          intro h l2 l3 l4 l5 H locs ls Hh hl hm
          obtain ⟨z29, hm, hc29⟩ := wh_inv hm
          have hm : M_X0_build_b29 h l0 l1 l2 l3 l4 l5 = some z29 := hm
          unfold M_X0_build_b29 at hm
          refine lv_iload hx hb dX0_build_29 (lv_at hl 5 rfl) ?_
          refine lv_aload_n hx hb dX0_build_31 rfl (lv_at hl 0 rfl) ?_
          refine z_getR C fl_0_31 Hh dX0_build_32 rfl hm (fun x4 hm => ?_)
          refine lv_iload_n hx hb dX0_build_35 rfl (lv_at hl 2 rfl) ?_
          refine z_iald C Hh dX0_build_36 hm (fun x5 hm => ?_)
          refine z_icmp_ge (tgt := 93) C dX0_build_37 (by decide) rfl rfl hm (fun _ hm => ?_) (fun _ hm => ?_)
          · cases hm
            exact K93 h l2 _ _ _ Hh (lv_sub hl [0, 1, 2] rfl) hc29
          · refine lv_aload_n hx hb dX0_build_40 rfl (lv_at hl 0 rfl) ?_
            refine z_getR C fl_0_28 Hh dX0_build_41 rfl hm (fun x6 hm => ?_)
            refine lv_iload_n hx hb dX0_build_44 rfl (lv_at hl 3 rfl) ?_
            refine lv_iload hx hb dX0_build_45 (lv_at hl 5 rfl) ?_
            refine z_iadd C dX0_build_47 ?_
            refine z_iald C Hh dX0_build_48 hm (fun x7 hm => ?_)
            refine lv_istore (lv' := [(6, qI x7), (0, qR g l0), (1, qI l1), (2, qI l2), (3, qI l3), (4, qI l4), (5, qI l5)]) hx hb dX0_build_49 hl (by decide) rfl (fun ls hl => ?_)
            refine lv_aload_n hx hb dX0_build_51 rfl (lv_at hl 1 rfl) ?_
            refine z_getR C fl_0_25 Hh dX0_build_52 rfl hm (fun x8 hm => ?_)
            refine lv_iload_n hx hb dX0_build_55 rfl (lv_at hl 4 rfl) ?_
            refine lv_iload hx hb dX0_build_56 (lv_at hl 0 rfl) ?_
            refine z_iadd C dX0_build_58 ?_
            refine lv_aload_n hx hb dX0_build_59 rfl (lv_at hl 1 rfl) ?_
            refine z_getR C fl_0_38 Hh dX0_build_60 rfl hm (fun x9 hm => ?_)
            refine lv_aload_n hx hb dX0_build_63 rfl (lv_at hl 1 rfl) ?_
            refine z_getR C fl_0_18 Hh dX0_build_64 rfl hm (fun x10 hm => ?_)
            refine lv_iload_n hx hb dX0_build_67 rfl (lv_at hl 3 rfl) ?_
            refine z_iald C Hh dX0_build_68 hm (fun x11 hm => ?_)
            refine lv_aload_n hx hb dX0_build_69 rfl (lv_at hl 1 rfl) ?_
            refine z_getR C fl_0_25 Hh dX0_build_70 rfl hm (fun x12 hm => ?_)
            refine lv_iload hx hb dX0_build_73 (lv_at hl 5 rfl) ?_
            refine lv_iload hx hb dX0_build_75 (lv_at hl 0 rfl) ?_
            refine lv_aload_n hx hb dX0_build_77 rfl (lv_at hl 1 rfl) ?_
            refine z_getR C fl_0_22 Hh dX0_build_78 rfl hm (fun x13 hm => ?_)
            refine lv_iload_n hx hb dX0_build_81 rfl (lv_at hl 3 rfl) ?_
            refine z_iald C Hh dX0_build_82 hm (fun x14 hm => ?_)
            refine z_cVIr (vs := [qI x11, qR g x12, qI l4, qI x7, qI x14]) C (fun q hq => ct_X8_markFor l g h x9 x11 x12 l4 x7 x14 q hq) tw_879 my_X8_markFor (fun q hq => tg_X8_markFor hq) rfl hl.1 Hh ⟨Nat.le_of_ble_eq_true rfl, Nat.le_of_ble_eq_true rfl, Nat.le_of_ble_eq_true rfl, Nat.le_of_ble_eq_true rfl⟩ (Nat.le_of_ble_eq_true rfl) dX0_build_83 rfl hm (fun x15 H locs Hh hm => ?_)
            refine z_iast C Hh dX0_build_86 hm (fun h H locs Hh hm => ?_)
            refine z_iinc (x := l5) (k := 6) (lv' := [(5, qI (l5 + 1)), (6, qI x7), (0, qR g l0), (1, qI l1), (2, qI l2), (3, qI l3), (4, qI l4)]) C dX0_build_87 hl rfl (by decide) rfl (fun ls hl => ?_)
            refine lv_goto (tgt := 29) hx hb dX0_build_90 (by decide) ?_
            cases hm
            exact ih29 h l2 l3 l4 (l5 + 1) _ _ _ Hh (lv_sub hl [2, 3, 4, 5, 6, 0] rfl) hc29
      unfold M_X0_build_b7 at hm
      refine lv_iload_n hx hb dX0_build_7 rfl (lv_at hl 2 rfl) ?_
      refine lv_aload_n hx hb dX0_build_8 rfl (lv_at hl 0 rfl) ?_
      refine z_getI C fl_0_9 Hh dX0_build_9 rfl hm (fun x16 hm => ?_)
      refine z_icmp_gt (tgt := 99) C dX0_build_12 (by decide) rfl rfl hm (fun _ hm => ?_) (fun _ hm => ?_)
      · cases hm
        exact K99 h l0 l1 _ _ _ Hh (lv_sub hl [0, 1] rfl) hc7
      · refine z_bipush C dX0_build_15 rfl ?_
        refine lv_iload_n hx hb dX0_build_17 rfl (lv_at hl 2 rfl) ?_
        refine z_imul C dX0_build_18 ?_
        refine lv_istore_n (lv' := [(3, qI (36 * l2)), (0, qR g l0), (1, qI l1), (2, qI l2)]) hx hb dX0_build_19 rfl hl (by decide) rfl (fun ls hl => ?_)
        refine lv_iload_n hx hb dX0_build_20 rfl (lv_at hl 0 rfl) ?_
        refine z_bipush C dX0_build_21 rfl ?_
        refine z_isub C dX0_build_23 ?_
        refine lv_istore (lv' := [(4, qI ((36 * l2) - 36)), (3, qI (36 * l2)), (0, qR g l0), (1, qI l1), (2, qI l2)]) hx hb dX0_build_24 hl (by decide) rfl (fun ls hl => ?_)
        refine z_iconst C dX0_build_26 ?_
        refine lv_istore (lv' := [(5, qI 0), (4, qI ((36 * l2) - 36)), (3, qI (36 * l2)), (0, qR g l0), (1, qI l1), (2, qI l2)]) hx hb dX0_build_27 hl (by decide) rfl (fun ls hl => ?_)
        exact KL29 FU h l2 (36 * l2) ((36 * l2) - 36) 0 _ _ _ Hh (lv_sub hl [3, 4, 5, 2, 1, 0] rfl) hm
  refine lv_aload_n hx hb dX0_build_0 rfl (lv_at hl 0 rfl) ?_
  refine z_getI C fl_0_15 Hh dX0_build_1 rfl hm (fun x17 hm => ?_)
  refine z_iconst C dX0_build_4 ?_
  refine z_iadd C dX0_build_5 ?_
  refine lv_istore_n (lv' := [(2, qI (x17 + 1)), (0, qR g l0), (1, qI l1)]) hx hb dX0_build_6 rfl hl (by decide) rfl (fun ls hl => ?_)
  exact KL7 FU h l0 l1 (x17 + 1) _ _ _ Hh (lv_sub hl [1, 2, 0] rfl) hm
