theorem tg_X9_loop {h : Hp} {l0 l1 : Int} {r : Hp × Int} (hm : M_X9_loop h l0 l1 = some r) : hT h l0 = 19 := (tk_inv hm).1
set_option maxRecDepth 100000 in
set_option maxHeartbeats 4000000 in
theorem ct_X9_loop (l : Launch) (g : zGeo) (h0 : Hp) (l0 l1 : Int) (r : Hp × Int) (hm : M_X9_loop h0 l0 l1 = some r) : zM l yX9_loop cX9_loop 4 (some .int) 1 21 0 0 g h0 [qR g l0, qI l1] r.1 (some (qI r.2)) := by
  refine z_meth (by decide) (Nat.le_of_ble_eq_true rfl) ?_
  intro p e s m args below meth c H ls C hr hlocks hnm Hh hl
  have C : zC p m c cX9_loop 4 s args RX9 g := C
  have hnm : meth.name = "loop" := hnm
  have hx := C.1.1
  have hb := C.1.2.1
  have hl : lv_has ls 4 [(0, qR g l0), (1, qI l1)] := hl
  unfold M_X9_loop at hm
  replace hm := (tk_inv hm).2
  generalize h0 = h at Hh hm
  have K63 : ∀ (h : Hp) (l0 : Int) (H : Heap) (locs : List Loc) (ls : Array Slot), zH g s h H locs → lv_has ls 4 [(0, qR g l0)] → M_X9_loop_p63 h l0 = some r → W p l e { frames := 1, cells := 0, slots := 0, locals := 21 } s m args below meth c H locs 0 0 (zQ below g r.1 (some (qI r.2)) args s 0 0) (F0 m 63 ls []) := by
    intro h l0  H locs ls Hh hl hm
    unfold M_X9_loop_p63 at hm
    refine lv_aload_n hx hb dX9_loop_63 rfl (lv_at hl 0 rfl) ?_
    refine z_iconst C dX9_loop_64 ?_
    refine z_cVI (vs := [qI 0]) C (fun q hq => ct_X9_answered l g h l0 0 q hq) tw_767 my_X9_answered (fun q hq => tg_X9_answered hq) rfl hl.1 Hh ⟨Nat.le_of_ble_eq_true rfl, Nat.le_of_ble_eq_true rfl, Nat.le_of_ble_eq_true rfl, Nat.le_of_ble_eq_true rfl⟩ (Nat.le_of_ble_eq_true rfl) dX9_loop_65 rfl hm (fun h x1 H locs Hh hm => ?_)
    exact z_iret C hr hlocks Hh dX9_loop_68 hm
  have KL26 : ∀ (n : Nat) (h : Hp) (l0 l1 l2 l3 : Int) (H : Heap) (locs : List Loc) (ls : Array Slot), zH g s h H locs → lv_has ls 4 [(0, qR g l0), (1, qI l1), (2, qI l2), (3, qI l3)] → M_X9_loop_w26 n h l0 l1 l2 l3 = some r → W p l e { frames := 1, cells := 0, slots := 0, locals := 21 } s m args below meth c H locs 0 0 (zQ below g r.1 (some (qI r.2)) args s 0 0) (F0 m 26 ls []) := by
    intro n
    induction n with
    | zero => intro h l0 l1 l2 l3 H locs ls Hh hl hm; cases hm
    | succ n ih26 =>
      intro h l0 l1 l2 l3 H locs ls Hh hl hm
      obtain ⟨z26, hm, hc26⟩ := wh_inv hm
      have hm : M_X9_loop_b26 h l0 l1 l2 l3 = some z26 := hm
      unfold M_X9_loop_b26 at hm
      refine lv_iload_n hx hb dX9_loop_26 rfl (lv_at hl 3 rfl) ?_
      refine z_bipush C dX9_loop_27 rfl ?_
      refine z_icmp_gt (tgt := 63) C dX9_loop_29 (by decide) rfl lq_p6 hm (fun _ hm => ?_) (fun _ hm => ?_)
      · cases hm
        exact K63 h l0 _ _ _ Hh (lv_sub hl [0] rfl) hc26
      · refine lv_iload_n hx hb dX9_loop_32 rfl (lv_at hl 2 rfl) ?_
        refine z_if_lt (tgt := 63) C dX9_loop_33 (by decide) rfl hm (fun _ hm => ?_) (fun _ hm => ?_)
        · cases hm
          exact K63 h l0 _ _ _ Hh (lv_sub hl [0] rfl) hc26
        · refine lv_iload_n hx hb dX9_loop_36 rfl (lv_at hl 2 rfl) ?_
          refine lv_iload_n hx hb dX9_loop_37 rfl (lv_at hl 1 rfl) ?_
          refine z_icmp_ne (tgt := 47) C dX9_loop_38 (by decide) rfl rfl hm (fun _ hm => ?_) (fun _ hm => ?_)
          · refine lv_aload_n hx hb dX9_loop_47 rfl (lv_at hl 0 rfl) ?_
            refine z_getR C fl_9_30 Hh dX9_loop_48 rfl hm (fun x2 hm => ?_)
            refine z_getR C fl_9_140 Hh dX9_loop_51 rfl hm (fun x3 hm => ?_)
            refine lv_iload_n hx hb dX9_loop_54 rfl (lv_at hl 2 rfl) ?_
            refine z_iald C Hh dX9_loop_55 hm (fun x4 hm => ?_)
            refine lv_istore_n (lv' := [(2, qI x4), (0, qR g l0), (1, qI l1), (3, qI l3)]) hx hb dX9_loop_56 rfl hl (by decide) rfl (fun ls hl => ?_)
            refine z_iinc (x := l3) (k := 3) (lv' := [(3, qI (l3 + 1)), (2, qI x4), (0, qR g l0), (1, qI l1)]) C dX9_loop_57 hl rfl (by decide) rfl (fun ls hl => ?_)
            refine lv_goto (tgt := 26) hx hb dX9_loop_60 (by decide) ?_
            cases hm
            exact ih26 h l0 l1 x4 (l3 + 1) _ _ _ Hh (lv_sub hl [2, 3, 1, 0] rfl) hc26
          · refine lv_aload_n hx hb dX9_loop_41 rfl (lv_at hl 0 rfl) ?_
            refine lv_iload_n hx hb dX9_loop_42 rfl (lv_at hl 3 rfl) ?_
            refine z_cVI (vs := [qI l3]) C (fun q hq => ct_X9_answered l g h l0 l3 q hq) tw_767 my_X9_answered (fun q hq => tg_X9_answered hq) rfl hl.1 Hh ⟨Nat.le_of_ble_eq_true rfl, Nat.le_of_ble_eq_true rfl, Nat.le_of_ble_eq_true rfl, Nat.le_of_ble_eq_true rfl⟩ (Nat.le_of_ble_eq_true rfl) dX9_loop_43 rfl hm (fun h x5 H locs Hh hm => ?_)
            cases hm
            have hm := hc26
            exact z_iret C hr hlocks Hh dX9_loop_46 hm
  refine lv_aload_n hx hb dX9_loop_0 rfl (lv_at hl 0 rfl) ?_
  refine lv_iload_n hx hb dX9_loop_1 rfl (lv_at hl 1 rfl) ?_
  refine z_cVIr (vs := [qI l1]) C (fun q hq => ct_X9_isTown l g h l0 l1 q hq) tw_784 my_X9_isTown (fun q hq => tg_X9_isTown hq) rfl hl.1 Hh ⟨Nat.le_of_ble_eq_true rfl, Nat.le_of_ble_eq_true rfl, Nat.le_of_ble_eq_true rfl, Nat.le_of_ble_eq_true rfl⟩ (Nat.le_of_ble_eq_true rfl) dX9_loop_2 rfl hm (fun x6 H locs Hh hm => ?_)
  refine z_if_ne (tgt := 14) C dX9_loop_5 (by decide) rfl hm (fun _ hm => ?_) (fun _ hm => ?_)
  · refine lv_aload_n hx hb dX9_loop_14 rfl (lv_at hl 0 rfl) ?_
    refine z_getR C fl_9_30 Hh dX9_loop_15 rfl hm (fun x7 hm => ?_)
    refine z_getR C fl_9_140 Hh dX9_loop_18 rfl hm (fun x8 hm => ?_)
    refine lv_iload_n hx hb dX9_loop_21 rfl (lv_at hl 1 rfl) ?_
    refine z_iald C Hh dX9_loop_22 hm (fun x9 hm => ?_)
    refine lv_istore_n (lv' := [(2, qI x9), (0, qR g l0), (1, qI l1)]) hx hb dX9_loop_23 rfl hl (by decide) rfl (fun ls hl => ?_)
    refine z_iconst C dX9_loop_24 ?_
    refine lv_istore_n (lv' := [(3, qI 1), (2, qI x9), (0, qR g l0), (1, qI l1)]) hx hb dX9_loop_25 rfl hl (by decide) rfl (fun ls hl => ?_)
    exact KL26 FU h l0 l1 x9 1 _ _ _ Hh (lv_sub hl [2, 3, 1, 0] rfl) hm
  · refine lv_aload_n hx hb dX9_loop_8 rfl (lv_at hl 0 rfl) ?_
    refine z_iconst C dX9_loop_9 ?_
    refine z_cVI (vs := [qI 1]) C (fun q hq => ct_X9_refused l g h l0 1 q hq) tw_507 my_X9_refused (fun q hq => tg_X9_refused hq) rfl hl.1 Hh ⟨Nat.le_of_ble_eq_true rfl, Nat.le_of_ble_eq_true rfl, Nat.le_of_ble_eq_true rfl, Nat.le_of_ble_eq_true rfl⟩ (Nat.le_of_ble_eq_true rfl) dX9_loop_10 rfl hm (fun h x10 H locs Hh hm => ?_)
    exact z_iret C hr hlocks Hh dX9_loop_13 hm
theorem tg_X9_depth {h : Hp} {l0 l1 : Int} {r : Hp × Int} (hm : M_X9_depth h l0 l1 = some r) : hT h l0 = 19 := (tk_inv hm).1
set_option maxRecDepth 100000 in
set_option maxHeartbeats 4000000 in
theorem ct_X9_depth (l : Launch) (g : zGeo) (h0 : Hp) (l0 l1 : Int) (r : Hp × Int) (hm : M_X9_depth h0 l0 l1 = some r) : zM l yX9_depth cX9_depth 4 (some .int) 1 21 0 0 g h0 [qR g l0, qI l1] r.1 (some (qI r.2)) := by
  refine z_meth (by decide) (Nat.le_of_ble_eq_true rfl) ?_
  intro p e s m args below meth c H ls C hr hlocks hnm Hh hl
  have C : zC p m c cX9_depth 4 s args RX9 g := C
  have hnm : meth.name = "depth" := hnm
  have hx := C.1.1
  have hb := C.1.2.1
  have hl : lv_has ls 4 [(0, qR g l0), (1, qI l1)] := hl
  unfold M_X9_depth at hm
  replace hm := (tk_inv hm).2
  generalize h0 = h at Hh hm
  have K58 : ∀ (h : Hp) (l0 : Int) (H : Heap) (locs : List Loc) (ls : Array Slot), zH g s h H locs → lv_has ls 4 [(0, qR g l0)] → M_X9_depth_p58 h l0 = some r → W p l e { frames := 1, cells := 0, slots := 0, locals := 21 } s m args below meth c H locs 0 0 (zQ below g r.1 (some (qI r.2)) args s 0 0) (F0 m 58 ls []) := by
    intro h l0  H locs ls Hh hl hm
    unfold M_X9_depth_p58 at hm
    refine lv_aload_n hx hb dX9_depth_58 rfl (lv_at hl 0 rfl) ?_
    refine z_bipush C dX9_depth_59 rfl ?_
    refine z_cVI (vs := [qI (-2)]) C (fun q hq => ct_X9_answered l g h l0 (-2) q hq) tw_767 my_X9_answered (fun q hq => tg_X9_answered hq) rfl hl.1 Hh ⟨Nat.le_of_ble_eq_true rfl, Nat.le_of_ble_eq_true rfl, Nat.le_of_ble_eq_true rfl, Nat.le_of_ble_eq_true rfl⟩ (Nat.le_of_ble_eq_true rfl) dX9_depth_61 rfl hm (fun h x1 H locs Hh hm => ?_)
    exact z_iret C hr hlocks Hh dX9_depth_64 hm
  have KL18 : ∀ (n : Nat) (h : Hp) (l0 l2 l3 : Int) (H : Heap) (locs : List Loc) (ls : Array Slot), zH g s h H locs → lv_has ls 4 [(0, qR g l0), (2, qI l2), (3, qI l3)] → M_X9_depth_w18 n h l0 l2 l3 = some r → W p l e { frames := 1, cells := 0, slots := 0, locals := 21 } s m args below meth c H locs 0 0 (zQ below g r.1 (some (qI r.2)) args s 0 0) (F0 m 18 ls []) := by
    intro n
    induction n with
    | zero => intro h l0 l2 l3 H locs ls Hh hl hm; cases hm
    | succ n ih18 =>
      intro h l0 l2 l3 H locs ls Hh hl hm
      obtain ⟨z18, hm, hc18⟩ := wh_inv hm
      have hm : M_X9_depth_b18 h l0 l2 l3 = some z18 := hm
      unfold M_X9_depth_b18 at hm
      refine lv_iload_n hx hb dX9_depth_18 rfl (lv_at hl 2 rfl) ?_
      refine z_bipush C dX9_depth_19 rfl ?_
      refine z_icmp_ge (tgt := 58) C dX9_depth_21 (by decide) rfl lq_p6 hm (fun _ hm => ?_) (fun _ hm => ?_)
      · cases hm
        exact K58 h l0 _ _ _ Hh (lv_sub hl [0] rfl) hc18
      · refine lv_aload_n hx hb dX9_depth_24 rfl (lv_at hl 0 rfl) ?_
        refine z_getR C fl_9_30 Hh dX9_depth_25 rfl hm (fun x2 hm => ?_)
        refine z_getR C fl_9_140 Hh dX9_depth_28 rfl hm (fun x3 hm => ?_)
        refine lv_iload_n hx hb dX9_depth_31 rfl (lv_at hl 1 rfl) ?_
        refine z_iald C Hh dX9_depth_32 hm (fun x4 hm => ?_)
        refine z_if_ge (tgt := 42) C dX9_depth_33 (by decide) rfl hm (fun _ hm => ?_) (fun _ hm => ?_)
        · refine lv_aload_n hx hb dX9_depth_42 rfl (lv_at hl 0 rfl) ?_
          refine z_getR C fl_9_30 Hh dX9_depth_43 rfl hm (fun x5 hm => ?_)
          refine z_getR C fl_9_140 Hh dX9_depth_46 rfl hm (fun x6 hm => ?_)
          refine lv_iload_n hx hb dX9_depth_49 rfl (lv_at hl 1 rfl) ?_
          refine z_iald C Hh dX9_depth_50 hm (fun x7 hm => ?_)
          refine lv_istore_n (lv' := [(2, qI x7), (0, qR g l0), (3, qI l3)]) hx hb dX9_depth_51 rfl hl (by decide) rfl (fun ls hl => ?_)
          refine z_iinc (x := l3) (k := 2) (lv' := [(3, qI (l3 + 1)), (2, qI x7), (0, qR g l0)]) C dX9_depth_52 hl rfl (by decide) rfl (fun ls hl => ?_)
          refine lv_goto (tgt := 18) hx hb dX9_depth_55 (by decide) ?_
          cases hm
          exact ih18 h l0 x7 (l3 + 1) _ _ _ Hh (lv_sub hl [2, 1, 0] rfl) hc18
        · refine lv_aload_n hx hb dX9_depth_36 rfl (lv_at hl 0 rfl) ?_
          refine lv_iload_n hx hb dX9_depth_37 rfl (lv_at hl 2 rfl) ?_
          refine z_cVI (vs := [qI l3]) C (fun q hq => ct_X9_answered l g h l0 l3 q hq) tw_767 my_X9_answered (fun q hq => tg_X9_answered hq) rfl hl.1 Hh ⟨Nat.le_of_ble_eq_true rfl, Nat.le_of_ble_eq_true rfl, Nat.le_of_ble_eq_true rfl, Nat.le_of_ble_eq_true rfl⟩ (Nat.le_of_ble_eq_true rfl) dX9_depth_38 rfl hm (fun h x8 H locs Hh hm => ?_)
          cases hm
          have hm := hc18
          exact z_iret C hr hlocks Hh dX9_depth_41 hm
  refine lv_aload_n hx hb dX9_depth_0 rfl (lv_at hl 0 rfl) ?_
  refine lv_iload_n hx hb dX9_depth_1 rfl (lv_at hl 1 rfl) ?_
  refine z_cVIr (vs := [qI l1]) C (fun q hq => ct_X9_isTown l g h l0 l1 q hq) tw_784 my_X9_isTown (fun q hq => tg_X9_isTown hq) rfl hl.1 Hh ⟨Nat.le_of_ble_eq_true rfl, Nat.le_of_ble_eq_true rfl, Nat.le_of_ble_eq_true rfl, Nat.le_of_ble_eq_true rfl⟩ (Nat.le_of_ble_eq_true rfl) dX9_depth_2 rfl hm (fun x9 H locs Hh hm => ?_)
  refine z_if_ne (tgt := 14) C dX9_depth_5 (by decide) rfl hm (fun _ hm => ?_) (fun _ hm => ?_)
  · refine lv_iload_n hx hb dX9_depth_14 rfl (lv_at hl 1 rfl) ?_
    refine lv_istore_n (lv' := [(2, qI l1), (0, qR g l0), (1, qI l1)]) hx hb dX9_depth_15 rfl hl (by decide) rfl (fun ls hl => ?_)
    refine z_iconst C dX9_depth_16 ?_
    refine lv_istore_n (lv' := [(3, qI 0), (2, qI l1), (0, qR g l0), (1, qI l1)]) hx hb dX9_depth_17 rfl hl (by decide) rfl (fun ls hl => ?_)
    exact KL18 FU h l0 l1 0 _ _ _ Hh (lv_sub hl [2, 1, 0] rfl) hm
  · refine lv_aload_n hx hb dX9_depth_8 rfl (lv_at hl 0 rfl) ?_
    refine z_iconst C dX9_depth_9 ?_
    refine z_cVI (vs := [qI 1]) C (fun q hq => ct_X9_refused l g h l0 1 q hq) tw_507 my_X9_refused (fun q hq => tg_X9_refused hq) rfl hl.1 Hh ⟨Nat.le_of_ble_eq_true rfl, Nat.le_of_ble_eq_true rfl, Nat.le_of_ble_eq_true rfl, Nat.le_of_ble_eq_true rfl⟩ (Nat.le_of_ble_eq_true rfl) dX9_depth_10 rfl hm (fun h x10 H locs Hh hm => ?_)
    exact z_iret C hr hlocks Hh dX9_depth_13 hm
theorem tg_X9_strokeRefusal {h : Hp} {l0 l1 l2 l3 l4 l5 l6 : Int} {r : Int} (hm : M_X9_strokeRefusal h l0 l1 l2 l3 l4 l5 l6 = some r) : hT h l0 = 19 := (tk_inv hm).1
set_option maxRecDepth 100000 in
set_option maxHeartbeats 4000000 in
theorem ct_X9_strokeRefusal (l : Launch) (g : zGeo) (h : Hp) (l0 l1 l2 l3 l4 l5 l6 : Int) (r : Int) (hm : M_X9_strokeRefusal h l0 l1 l2 l3 l4 l5 l6 = some r) : zM l yX9_strokeRefusal cX9_strokeRefusal 7 (some .int) 1 21 0 0 g h [qR g l0, qI l1, qI l2, qI l3, qI l4, qI l5, qI l6] h (some (qI r)) := by
  refine z_meth (by decide) (Nat.le_of_ble_eq_true rfl) ?_
  intro p e s m args below meth c H ls C hr hlocks hnm Hh hl
  have C : zC p m c cX9_strokeRefusal 7 s args RX9 g := C
  have hnm : meth.name = "strokeRefusal" := hnm
  have hx := C.1.1
  have hb := C.1.2.1
  have hl : lv_has ls 7 [(0, qR g l0), (1, qI l1), (2, qI l2), (3, qI l3), (4, qI l4), (5, qI l5), (6, qI l6)] := hl
  unfold M_X9_strokeRefusal at hm
  replace hm := (tk_inv hm).2
  refine lv_aload_n hx hb dX9_strokeRefusal_0 rfl (lv_at hl 0 rfl) ?_
  refine lv_iload_n hx hb dX9_strokeRefusal_1 rfl (lv_at hl 1 rfl) ?_
  refine z_cVIr (vs := [qI l1]) C (fun q hq => ct_X9_isTown l g h l0 l1 q hq) tw_784 my_X9_isTown (fun q hq => tg_X9_isTown hq) rfl hl.1 Hh ⟨Nat.le_of_ble_eq_true rfl, Nat.le_of_ble_eq_true rfl, Nat.le_of_ble_eq_true rfl, Nat.le_of_ble_eq_true rfl⟩ (Nat.le_of_ble_eq_true rfl) dX9_strokeRefusal_2 rfl hm (fun x1 H locs Hh hm => ?_)
  refine z_if_eq (tgt := 42) C dX9_strokeRefusal_5 (by decide) rfl hm (fun _ hm => ?_) (fun _ hm => ?_)
  · refine z_iconst C dX9_strokeRefusal_42 ?_
    exact z_iretR (h0 := h) C hr hlocks Hh dX9_strokeRefusal_43 hm
  · refine lv_aload_n hx hb dX9_strokeRefusal_8 rfl (lv_at hl 0 rfl) ?_
    refine lv_iload_n hx hb dX9_strokeRefusal_9 rfl (lv_at hl 2 rfl) ?_
    refine z_cVIr (vs := [qI l2]) C (fun q hq => ct_X9_isMark l g h l0 l2 q hq) tw_888 my_X9_isMark (fun q hq => tg_X9_isMark hq) rfl hl.1 Hh ⟨Nat.le_of_ble_eq_true rfl, Nat.le_of_ble_eq_true rfl, Nat.le_of_ble_eq_true rfl, Nat.le_of_ble_eq_true rfl⟩ (Nat.le_of_ble_eq_true rfl) dX9_strokeRefusal_10 rfl hm (fun x2 H locs Hh hm => ?_)
    refine z_if_eq (tgt := 42) C dX9_strokeRefusal_13 (by decide) rfl hm (fun _ hm => ?_) (fun _ hm => ?_)
    · refine z_iconst C dX9_strokeRefusal_42 ?_
      exact z_iretR (h0 := h) C hr hlocks Hh dX9_strokeRefusal_43 hm
    · refine lv_aload_n hx hb dX9_strokeRefusal_16 rfl (lv_at hl 0 rfl) ?_
      refine lv_iload_n hx hb dX9_strokeRefusal_17 rfl (lv_at hl 3 rfl) ?_
      refine z_cVIr (vs := [qI l3]) C (fun q hq => ct_X9_isTown l g h l0 l3 q hq) tw_784 my_X9_isTown (fun q hq => tg_X9_isTown hq) rfl hl.1 Hh ⟨Nat.le_of_ble_eq_true rfl, Nat.le_of_ble_eq_true rfl, Nat.le_of_ble_eq_true rfl, Nat.le_of_ble_eq_true rfl⟩ (Nat.le_of_ble_eq_true rfl) dX9_strokeRefusal_18 rfl hm (fun x3 H locs Hh hm => ?_)
      refine z_if_eq (tgt := 42) C dX9_strokeRefusal_21 (by decide) rfl hm (fun _ hm => ?_) (fun _ hm => ?_)
      · refine z_iconst C dX9_strokeRefusal_42 ?_
        exact z_iretR (h0 := h) C hr hlocks Hh dX9_strokeRefusal_43 hm
      · refine lv_aload_n hx hb dX9_strokeRefusal_24 rfl (lv_at hl 0 rfl) ?_
        refine lv_iload hx hb dX9_strokeRefusal_25 (lv_at hl 4 rfl) ?_
        refine z_cVIr (vs := [qI l4]) C (fun q hq => ct_X9_isPlace l g h l0 l4 q hq) tw_796 my_X9_isPlace (fun q hq => tg_X9_isPlace hq) rfl hl.1 Hh ⟨Nat.le_of_ble_eq_true rfl, Nat.le_of_ble_eq_true rfl, Nat.le_of_ble_eq_true rfl, Nat.le_of_ble_eq_true rfl⟩ (Nat.le_of_ble_eq_true rfl) dX9_strokeRefusal_27 rfl hm (fun x4 H locs Hh hm => ?_)
        refine z_if_eq (tgt := 42) C dX9_strokeRefusal_30 (by decide) rfl hm (fun _ hm => ?_) (fun _ hm => ?_)
        · refine z_iconst C dX9_strokeRefusal_42 ?_
          exact z_iretR (h0 := h) C hr hlocks Hh dX9_strokeRefusal_43 hm
        · refine lv_aload_n hx hb dX9_strokeRefusal_33 rfl (lv_at hl 0 rfl) ?_
          refine lv_iload hx hb dX9_strokeRefusal_34 (lv_at hl 5 rfl) ?_
          refine z_cVIr (vs := [qI l5]) C (fun q hq => ct_X9_isMark l g h l0 l5 q hq) tw_888 my_X9_isMark (fun q hq => tg_X9_isMark hq) rfl hl.1 Hh ⟨Nat.le_of_ble_eq_true rfl, Nat.le_of_ble_eq_true rfl, Nat.le_of_ble_eq_true rfl, Nat.le_of_ble_eq_true rfl⟩ (Nat.le_of_ble_eq_true rfl) dX9_strokeRefusal_36 rfl hm (fun x5 H locs Hh hm => ?_)
          refine z_if_ne (tgt := 44) C dX9_strokeRefusal_39 (by decide) rfl hm (fun _ hm => ?_) (fun _ hm => ?_)
          · refine lv_iload hx hb dX9_strokeRefusal_44 (lv_at hl 6 rfl) ?_
            refine z_bipush C dX9_strokeRefusal_46 rfl ?_
            refine z_cSIr (vs := [qI l6, qI 12]) C (fun q hq => ct_X9_isBehind l g h l6 12 q hq) tw_811 my_X9_isBehind rfl hl.1 Hh ⟨Nat.le_of_ble_eq_true rfl, Nat.le_of_ble_eq_true rfl, Nat.le_of_ble_eq_true rfl, Nat.le_of_ble_eq_true rfl⟩ (Nat.le_of_ble_eq_true rfl) dX9_strokeRefusal_48 rfl hm (fun x6 H locs Hh hm => ?_)
            refine z_if_eq (tgt := 58) C dX9_strokeRefusal_51 (by decide) rfl hm (fun _ hm => ?_) (fun _ hm => ?_)
            · refine z_iconst C dX9_strokeRefusal_58 ?_
              exact z_iretR (h0 := h) C hr hlocks Hh dX9_strokeRefusal_59 hm
            · refine z_iconst C dX9_strokeRefusal_54 ?_
              refine lv_goto (tgt := 59) hx hb dX9_strokeRefusal_55 (by decide) ?_
              exact z_iretR (h0 := h) C hr hlocks Hh dX9_strokeRefusal_59 hm
          · refine z_iconst C dX9_strokeRefusal_42 ?_
            exact z_iretR (h0 := h) C hr hlocks Hh dX9_strokeRefusal_43 hm
theorem tg_X9_strokes {h : Hp} {l0 l1 l2 l3 l4 l5 l6 : Int} {r : Hp × Int} (hm : M_X9_strokes h l0 l1 l2 l3 l4 l5 l6 = some r) : hT h l0 = 19 := (tk_inv hm).1
set_option maxRecDepth 100000 in
set_option maxHeartbeats 4000000 in
theorem ct_X9_strokes (l : Launch) (g : zGeo) (h0 : Hp) (l0 l1 l2 l3 l4 l5 l6 : Int) (r : Hp × Int) (hm : M_X9_strokes h0 l0 l1 l2 l3 l4 l5 l6 = some r) : zM l yX9_strokes cX9_strokes 8 (some .int) 7 187 0 0 g h0 [qR g l0, qI l1, qI l2, qI l3, qI l4, qI l5, qI l6] r.1 (some (qI r.2)) := by
  refine z_meth (by decide) (Nat.le_of_ble_eq_true rfl) ?_
  intro p e s m args below meth c H ls C hr hlocks hnm Hh hl
  have C : zC p m c cX9_strokes 8 s args RX9 g := C
  have hnm : meth.name = "strokes" := hnm
  have hx := C.1.1
  have hb := C.1.2.1
  have hl : lv_has ls 8 [(0, qR g l0), (1, qI l1), (2, qI l2), (3, qI l3), (4, qI l4), (5, qI l5), (6, qI l6)] := hl
  unfold M_X9_strokes at hm
  replace hm := (tk_inv hm).2
  generalize h0 = h at Hh hm
  refine lv_aload_n hx hb dX9_strokes_0 rfl (lv_at hl 0 rfl) ?_
  refine lv_iload_n hx hb dX9_strokes_1 rfl (lv_at hl 1 rfl) ?_
  refine lv_iload_n hx hb dX9_strokes_2 rfl (lv_at hl 2 rfl) ?_
  refine lv_iload_n hx hb dX9_strokes_3 rfl (lv_at hl 3 rfl) ?_
  refine lv_iload hx hb dX9_strokes_4 (lv_at hl 4 rfl) ?_
  refine lv_iload hx hb dX9_strokes_6 (lv_at hl 5 rfl) ?_
  refine lv_iload hx hb dX9_strokes_8 (lv_at hl 6 rfl) ?_
  refine z_cVIr (vs := [qI l1, qI l2, qI l3, qI l4, qI l5, qI l6]) C (fun q hq => ct_X9_strokeRefusal l g h l0 l1 l2 l3 l4 l5 l6 q hq) tw_1012 my_X9_strokeRefusal (fun q hq => tg_X9_strokeRefusal hq) rfl hl.1 Hh ⟨Nat.le_of_ble_eq_true rfl, Nat.le_of_ble_eq_true rfl, Nat.le_of_ble_eq_true rfl, Nat.le_of_ble_eq_true rfl⟩ (Nat.le_of_ble_eq_true rfl) dX9_strokes_10 rfl hm (fun x1 H locs Hh hm => ?_)
  refine lv_istore (lv' := [(7, qI x1), (0, qR g l0), (1, qI l1), (2, qI l2), (3, qI l3), (4, qI l4), (5, qI l5), (6, qI l6)]) hx hb dX9_strokes_13 hl (by decide) rfl (fun ls hl => ?_)
  refine lv_iload hx hb dX9_strokes_15 (lv_at hl 0 rfl) ?_
  refine z_if_eq (tgt := 27) C dX9_strokes_17 (by decide) rfl hm (fun _ hm => ?_) (fun _ hm => ?_)
  · refine lv_aload_n hx hb dX9_strokes_27 rfl (lv_at hl 1 rfl) ?_
    refine lv_aload_n hx hb dX9_strokes_28 rfl (lv_at hl 1 rfl) ?_
    refine z_getR C fl_9_61 Hh dX9_strokes_29 rfl hm (fun x2 hm => ?_)
    refine lv_aload_n hx hb dX9_strokes_32 rfl (lv_at hl 1 rfl) ?_
    refine z_getR C fl_9_30 Hh dX9_strokes_33 rfl hm (fun x3 hm => ?_)
    refine lv_iload_n hx hb dX9_strokes_36 rfl (lv_at hl 2 rfl) ?_
    refine lv_iload_n hx hb dX9_strokes_37 rfl (lv_at hl 3 rfl) ?_
    refine lv_iload_n hx hb dX9_strokes_38 rfl (lv_at hl 4 rfl) ?_
    refine lv_iload hx hb dX9_strokes_39 (lv_at hl 5 rfl) ?_
    refine z_cSIr (vs := [qI l4]) C (fun q hq => ct_X9_inner l g h l4 q hq) tw_800 my_X9_inner rfl hl.1 Hh ⟨Nat.le_of_ble_eq_true rfl, Nat.le_of_ble_eq_true rfl, Nat.le_of_ble_eq_true rfl, Nat.le_of_ble_eq_true rfl⟩ (Nat.le_of_ble_eq_true rfl) dX9_strokes_41 rfl hm (fun x4 H locs Hh hm => ?_)
    refine lv_iload hx hb dX9_strokes_44 (lv_at hl 6 rfl) ?_
    refine lv_iload hx hb dX9_strokes_46 (lv_at hl 7 rfl) ?_
    refine z_cVI (vs := [qR g x3, qI l1, qI l2, qI l3, qI x4, qI l5, qI l6]) C (fun q hq => ct_X6_fewest l g h x2 x3 l1 l2 l3 x4 l5 l6 q hq) tw_1016 my_X6_fewest (fun q hq => tg_X6_fewest hq) rfl hl.1 Hh ⟨Nat.le_of_ble_eq_true rfl, Nat.le_of_ble_eq_true rfl, Nat.le_of_ble_eq_true rfl, Nat.le_of_ble_eq_true rfl⟩ (Nat.le_of_ble_eq_true rfl) dX9_strokes_48 rfl hm (fun h x5 H locs Hh hm => ?_)
    refine z_cVI (vs := [qI x5]) C (fun q hq => ct_X9_answered l g h l0 x5 q hq) tw_767 my_X9_answered (fun q hq => tg_X9_answered hq) rfl hl.1 Hh ⟨Nat.le_of_ble_eq_true rfl, Nat.le_of_ble_eq_true rfl, Nat.le_of_ble_eq_true rfl, Nat.le_of_ble_eq_true rfl⟩ (Nat.le_of_ble_eq_true rfl) dX9_strokes_51 rfl hm (fun h x6 H locs Hh hm => ?_)
    exact z_iret C hr hlocks Hh dX9_strokes_54 hm
  · refine lv_aload_n hx hb dX9_strokes_20 rfl (lv_at hl 1 rfl) ?_
    refine lv_iload hx hb dX9_strokes_21 (lv_at hl 0 rfl) ?_
    refine z_cVI (vs := [qI x1]) C (fun q hq => ct_X9_refused l g h l0 x1 q hq) tw_507 my_X9_refused (fun q hq => tg_X9_refused hq) rfl hl.1 Hh ⟨Nat.le_of_ble_eq_true rfl, Nat.le_of_ble_eq_true rfl, Nat.le_of_ble_eq_true rfl, Nat.le_of_ble_eq_true rfl⟩ (Nat.le_of_ble_eq_true rfl) dX9_strokes_23 rfl hm (fun h x7 H locs Hh hm => ?_)
    exact z_iret C hr hlocks Hh dX9_strokes_26 hm
theorem tg_X9_strokeAt {h : Hp} {l0 l1 l2 l3 l4 l5 l6 l7 : Int} {r : Hp × Int} (hm : M_X9_strokeAt h l0 l1 l2 l3 l4 l5 l6 l7 = some r) : hT h l0 = 19 := (tk_inv hm).1
set_option maxRecDepth 100000 in
set_option maxHeartbeats 4000000 in
theorem ct_X9_strokeAt (l : Launch) (g : zGeo) (h0 : Hp) (l0 l1 l2 l3 l4 l5 l6 l7 : Int) (r : Hp × Int) (hm : M_X9_strokeAt h0 l0 l1 l2 l3 l4 l5 l6 l7 = some r) : zM l yX9_strokeAt cX9_strokeAt 10 (some .int) 7 187 0 0 g h0 [qR g l0, qI l1, qI l2, qI l3, qI l4, qI l5, qI l6, qI l7] r.1 (some (qI r.2)) := by
  refine z_meth (by decide) (Nat.le_of_ble_eq_true rfl) ?_
  intro p e s m args below meth c H ls C hr hlocks hnm Hh hl
  have C : zC p m c cX9_strokeAt 10 s args RX9 g := C
  have hnm : meth.name = "strokeAt" := hnm
  have hx := C.1.1
  have hb := C.1.2.1
  have hl : lv_has ls 10 [(0, qR g l0), (1, qI l1), (2, qI l2), (3, qI l3), (4, qI l4), (5, qI l5), (6, qI l6), (7, qI l7)] := hl
  unfold M_X9_strokeAt at hm
  replace hm := (tk_inv hm).2
  generalize h0 = h at Hh hm
  refine lv_aload_n hx hb dX9_strokeAt_0 rfl (lv_at hl 0 rfl) ?_
  refine lv_iload_n hx hb dX9_strokeAt_1 rfl (lv_at hl 1 rfl) ?_
  refine lv_iload_n hx hb dX9_strokeAt_2 rfl (lv_at hl 2 rfl) ?_
  refine lv_iload_n hx hb dX9_strokeAt_3 rfl (lv_at hl 3 rfl) ?_
  refine lv_iload hx hb dX9_strokeAt_4 (lv_at hl 4 rfl) ?_
  refine lv_iload hx hb dX9_strokeAt_6 (lv_at hl 5 rfl) ?_
  refine lv_iload hx hb dX9_strokeAt_8 (lv_at hl 6 rfl) ?_
  refine z_cVIr (vs := [qI l1, qI l2, qI l3, qI l4, qI l5, qI l6]) C (fun q hq => ct_X9_strokeRefusal l g h l0 l1 l2 l3 l4 l5 l6 q hq) tw_1012 my_X9_strokeRefusal (fun q hq => tg_X9_strokeRefusal hq) rfl hl.1 Hh ⟨Nat.le_of_ble_eq_true rfl, Nat.le_of_ble_eq_true rfl, Nat.le_of_ble_eq_true rfl, Nat.le_of_ble_eq_true rfl⟩ (Nat.le_of_ble_eq_true rfl) dX9_strokeAt_10 rfl hm (fun x1 H locs Hh hm => ?_)
  refine lv_istore (lv' := [(8, qI x1), (0, qR g l0), (1, qI l1), (2, qI l2), (3, qI l3), (4, qI l4), (5, qI l5), (6, qI l6), (7, qI l7)]) hx hb dX9_strokeAt_13 hl (by decide) rfl (fun ls hl => ?_)
  refine lv_iload hx hb dX9_strokeAt_15 (lv_at hl 0 rfl) ?_
  refine z_if_eq (tgt := 27) C dX9_strokeAt_17 (by decide) rfl hm (fun _ hm => ?_) (fun _ hm => ?_)
  · refine lv_aload_n hx hb dX9_strokeAt_27 rfl (lv_at hl 1 rfl) ?_
    refine z_getR C fl_9_61 Hh dX9_strokeAt_28 rfl hm (fun x2 hm => ?_)
    refine lv_aload_n hx hb dX9_strokeAt_31 rfl (lv_at hl 1 rfl) ?_
    refine z_getR C fl_9_30 Hh dX9_strokeAt_32 rfl hm (fun x3 hm => ?_)
    refine lv_iload_n hx hb dX9_strokeAt_35 rfl (lv_at hl 2 rfl) ?_
    refine lv_iload_n hx hb dX9_strokeAt_36 rfl (lv_at hl 3 rfl) ?_
    refine lv_iload_n hx hb dX9_strokeAt_37 rfl (lv_at hl 4 rfl) ?_
    refine lv_iload hx hb dX9_strokeAt_38 (lv_at hl 5 rfl) ?_
    refine z_cSIr (vs := [qI l4]) C (fun q hq => ct_X9_inner l g h l4 q hq) tw_800 my_X9_inner rfl hl.1 Hh ⟨Nat.le_of_ble_eq_true rfl, Nat.le_of_ble_eq_true rfl, Nat.le_of_ble_eq_true rfl, Nat.le_of_ble_eq_true rfl⟩ (Nat.le_of_ble_eq_true rfl) dX9_strokeAt_40 rfl hm (fun x4 H locs Hh hm => ?_)
    refine lv_iload hx hb dX9_strokeAt_43 (lv_at hl 6 rfl) ?_
    refine lv_iload hx hb dX9_strokeAt_45 (lv_at hl 7 rfl) ?_
    refine z_cVI (vs := [qR g x3, qI l1, qI l2, qI l3, qI x4, qI l5, qI l6]) C (fun q hq => ct_X6_fewest l g h x2 x3 l1 l2 l3 x4 l5 l6 q hq) tw_1016 my_X6_fewest (fun q hq => tg_X6_fewest hq) rfl hl.1 Hh ⟨Nat.le_of_ble_eq_true rfl, Nat.le_of_ble_eq_true rfl, Nat.le_of_ble_eq_true rfl, Nat.le_of_ble_eq_true rfl⟩ (Nat.le_of_ble_eq_true rfl) dX9_strokeAt_47 rfl hm (fun h x5 H locs Hh hm => ?_)
    refine lv_istore (lv' := [(9, qI x5), (8, qI x1), (0, qR g l0), (1, qI l1), (2, qI l2), (3, qI l3), (4, qI l4), (5, qI l5), (6, qI l6), (7, qI l7)]) hx hb dX9_strokeAt_50 hl (by decide) rfl (fun ls hl => ?_)
    refine lv_iload hx hb dX9_strokeAt_52 (lv_at hl 9 rfl) ?_
    refine z_if_lt (tgt := 64) C dX9_strokeAt_54 (by decide) rfl hm (fun _ hm => ?_) (fun _ hm => ?_)
    · refine lv_aload_n hx hb dX9_strokeAt_64 rfl (lv_at hl 2 rfl) ?_
      refine z_iconst C dX9_strokeAt_65 ?_
      refine z_cVI (vs := [qI 1]) C (fun q hq => ct_X9_refused l g h l0 1 q hq) tw_507 my_X9_refused (fun q hq => tg_X9_refused hq) rfl hl.1 Hh ⟨Nat.le_of_ble_eq_true rfl, Nat.le_of_ble_eq_true rfl, Nat.le_of_ble_eq_true rfl, Nat.le_of_ble_eq_true rfl⟩ (Nat.le_of_ble_eq_true rfl) dX9_strokeAt_66 rfl hm (fun h x6 H locs Hh hm => ?_)
      exact z_iret C hr hlocks Hh dX9_strokeAt_69 hm
    · refine lv_iload hx hb dX9_strokeAt_57 (lv_at hl 9 rfl) ?_
      refine lv_iload hx hb dX9_strokeAt_59 (lv_at hl 0 rfl) ?_
      refine z_icmp_lt (tgt := 70) C dX9_strokeAt_61 (by decide) rfl rfl hm (fun _ hm => ?_) (fun _ hm => ?_)
      · refine lv_aload_n hx hb dX9_strokeAt_70 rfl (lv_at hl 2 rfl) ?_
        refine lv_aload_n hx hb dX9_strokeAt_71 rfl (lv_at hl 2 rfl) ?_
        refine z_getR C fl_9_61 Hh dX9_strokeAt_72 rfl hm (fun x7 hm => ?_)
        refine z_getR C fl_9_241 Hh dX9_strokeAt_75 rfl hm (fun x8 hm => ?_)
        refine lv_iload hx hb dX9_strokeAt_78 (lv_at hl 9 rfl) ?_
        refine z_iald C Hh dX9_strokeAt_80 hm (fun x9 hm => ?_)
        refine z_cSIr (vs := [qI x9]) C (fun q hq => ct_X9_outer l g h x9 q hq) tw_992 my_X9_outer rfl hl.1 Hh ⟨Nat.le_of_ble_eq_true rfl, Nat.le_of_ble_eq_true rfl, Nat.le_of_ble_eq_true rfl, Nat.le_of_ble_eq_true rfl⟩ (Nat.le_of_ble_eq_true rfl) dX9_strokeAt_81 rfl hm (fun x10 H locs Hh hm => ?_)
        refine z_cVI (vs := [qI x10]) C (fun q hq => ct_X9_answered l g h l0 x10 q hq) tw_767 my_X9_answered (fun q hq => tg_X9_answered hq) rfl hl.1 Hh ⟨Nat.le_of_ble_eq_true rfl, Nat.le_of_ble_eq_true rfl, Nat.le_of_ble_eq_true rfl, Nat.le_of_ble_eq_true rfl⟩ (Nat.le_of_ble_eq_true rfl) dX9_strokeAt_84 rfl hm (fun h x11 H locs Hh hm => ?_)
        exact z_iret C hr hlocks Hh dX9_strokeAt_87 hm
      · refine lv_aload_n hx hb dX9_strokeAt_64 rfl (lv_at hl 2 rfl) ?_
        refine z_iconst C dX9_strokeAt_65 ?_
        refine z_cVI (vs := [qI 1]) C (fun q hq => ct_X9_refused l g h l0 1 q hq) tw_507 my_X9_refused (fun q hq => tg_X9_refused hq) rfl hl.1 Hh ⟨Nat.le_of_ble_eq_true rfl, Nat.le_of_ble_eq_true rfl, Nat.le_of_ble_eq_true rfl, Nat.le_of_ble_eq_true rfl⟩ (Nat.le_of_ble_eq_true rfl) dX9_strokeAt_66 rfl hm (fun h x12 H locs Hh hm => ?_)
        exact z_iret C hr hlocks Hh dX9_strokeAt_69 hm
  · refine lv_aload_n hx hb dX9_strokeAt_20 rfl (lv_at hl 1 rfl) ?_
    refine lv_iload hx hb dX9_strokeAt_21 (lv_at hl 0 rfl) ?_
    refine z_cVI (vs := [qI x1]) C (fun q hq => ct_X9_refused l g h l0 x1 q hq) tw_507 my_X9_refused (fun q hq => tg_X9_refused hq) rfl hl.1 Hh ⟨Nat.le_of_ble_eq_true rfl, Nat.le_of_ble_eq_true rfl, Nat.le_of_ble_eq_true rfl, Nat.le_of_ble_eq_true rfl⟩ (Nat.le_of_ble_eq_true rfl) dX9_strokeAt_23 rfl hm (fun h x13 H locs Hh hm => ?_)
    exact z_iret C hr hlocks Hh dX9_strokeAt_26 hm
theorem tg_X9_ink {h : Hp} {l0 l1 l2 l3 : Int} {r : Hp × Int} (hm : M_X9_ink h l0 l1 l2 l3 = some r) : hT h l0 = 19 := (tk_inv hm).1
set_option maxRecDepth 100000 in
set_option maxHeartbeats 4000000 in
theorem ct_X9_ink (l : Launch) (g : zGeo) (h0 : Hp) (l0 l1 l2 l3 : Int) (r : Hp × Int) (hm : M_X9_ink h0 l0 l1 l2 l3 = some r) : zM l yX9_ink cX9_ink 4 (some .int) 3 93 0 0 g h0 [qR g l0, qI l1, qI l2, qI l3] r.1 (some (qI r.2)) := by
  refine z_meth (by decide) (Nat.le_of_ble_eq_true rfl) ?_
  intro p e s m args below meth c H ls C hr hlocks hnm Hh hl
  have C : zC p m c cX9_ink 4 s args RX9 g := C
  have hnm : meth.name = "ink" := hnm
  have hx := C.1.1
  have hb := C.1.2.1
  have hl : lv_has ls 4 [(0, qR g l0), (1, qI l1), (2, qI l2), (3, qI l3)] := hl
  unfold M_X9_ink at hm
  replace hm := (tk_inv hm).2
  generalize h0 = h at Hh hm
  refine lv_aload_n hx hb dX9_ink_0 rfl (lv_at hl 0 rfl) ?_
  refine lv_iload_n hx hb dX9_ink_1 rfl (lv_at hl 1 rfl) ?_
  refine z_cVIr (vs := [qI l1]) C (fun q hq => ct_X9_isTown l g h l0 l1 q hq) tw_784 my_X9_isTown (fun q hq => tg_X9_isTown hq) rfl hl.1 Hh ⟨Nat.le_of_ble_eq_true rfl, Nat.le_of_ble_eq_true rfl, Nat.le_of_ble_eq_true rfl, Nat.le_of_ble_eq_true rfl⟩ (Nat.le_of_ble_eq_true rfl) dX9_ink_2 rfl hm (fun x1 H locs Hh hm => ?_)
  refine z_if_eq (tgt := 24) C dX9_ink_5 (by decide) rfl hm (fun _ hm => ?_) (fun _ hm => ?_)
  · refine lv_aload_n hx hb dX9_ink_24 rfl (lv_at hl 0 rfl) ?_
    refine z_iconst C dX9_ink_25 ?_
    refine z_cVI (vs := [qI 1]) C (fun q hq => ct_X9_refused l g h l0 1 q hq) tw_507 my_X9_refused (fun q hq => tg_X9_refused hq) rfl hl.1 Hh ⟨Nat.le_of_ble_eq_true rfl, Nat.le_of_ble_eq_true rfl, Nat.le_of_ble_eq_true rfl, Nat.le_of_ble_eq_true rfl⟩ (Nat.le_of_ble_eq_true rfl) dX9_ink_26 rfl hm (fun h x2 H locs Hh hm => ?_)
    exact z_iret C hr hlocks Hh dX9_ink_29 hm
  · refine lv_aload_n hx hb dX9_ink_8 rfl (lv_at hl 0 rfl) ?_
    refine lv_iload_n hx hb dX9_ink_9 rfl (lv_at hl 2 rfl) ?_
    refine z_cVIr (vs := [qI l2]) C (fun q hq => ct_X9_isPlace l g h l0 l2 q hq) tw_796 my_X9_isPlace (fun q hq => tg_X9_isPlace hq) rfl hl.1 Hh ⟨Nat.le_of_ble_eq_true rfl, Nat.le_of_ble_eq_true rfl, Nat.le_of_ble_eq_true rfl, Nat.le_of_ble_eq_true rfl⟩ (Nat.le_of_ble_eq_true rfl) dX9_ink_10 rfl hm (fun x3 H locs Hh hm => ?_)
    refine z_if_eq (tgt := 24) C dX9_ink_13 (by decide) rfl hm (fun _ hm => ?_) (fun _ hm => ?_)
    · refine lv_aload_n hx hb dX9_ink_24 rfl (lv_at hl 0 rfl) ?_
      refine z_iconst C dX9_ink_25 ?_
      refine z_cVI (vs := [qI 1]) C (fun q hq => ct_X9_refused l g h l0 1 q hq) tw_507 my_X9_refused (fun q hq => tg_X9_refused hq) rfl hl.1 Hh ⟨Nat.le_of_ble_eq_true rfl, Nat.le_of_ble_eq_true rfl, Nat.le_of_ble_eq_true rfl, Nat.le_of_ble_eq_true rfl⟩ (Nat.le_of_ble_eq_true rfl) dX9_ink_26 rfl hm (fun h x4 H locs Hh hm => ?_)
      exact z_iret C hr hlocks Hh dX9_ink_29 hm
    · refine lv_aload_n hx hb dX9_ink_16 rfl (lv_at hl 0 rfl) ?_
      refine lv_iload_n hx hb dX9_ink_17 rfl (lv_at hl 3 rfl) ?_
      refine z_cVIr (vs := [qI l3]) C (fun q hq => ct_X9_isMark l g h l0 l3 q hq) tw_888 my_X9_isMark (fun q hq => tg_X9_isMark hq) rfl hl.1 Hh ⟨Nat.le_of_ble_eq_true rfl, Nat.le_of_ble_eq_true rfl, Nat.le_of_ble_eq_true rfl, Nat.le_of_ble_eq_true rfl⟩ (Nat.le_of_ble_eq_true rfl) dX9_ink_18 rfl hm (fun x5 H locs Hh hm => ?_)
      refine z_if_ne (tgt := 30) C dX9_ink_21 (by decide) rfl hm (fun _ hm => ?_) (fun _ hm => ?_)
      · refine lv_aload_n hx hb dX9_ink_30 rfl (lv_at hl 0 rfl) ?_
        refine z_getR C fl_9_30 Hh dX9_ink_31 rfl hm (fun x6 hm => ?_)
        refine z_getR C fl_9_149 Hh dX9_ink_34 rfl hm (fun x7 hm => ?_)
        refine z_bipush C dX9_ink_37 rfl ?_
        refine lv_iload_n hx hb dX9_ink_39 rfl (lv_at hl 1 rfl) ?_
        refine z_imul C dX9_ink_40 ?_
        refine lv_aload_n hx hb dX9_ink_41 rfl (lv_at hl 0 rfl) ?_
        refine z_getR C fl_9_75 Hh dX9_ink_42 rfl hm (fun x8 hm => ?_)
        refine z_getR C fl_9_173 Hh dX9_ink_45 rfl hm (fun x9 hm => ?_)
        refine z_iconst C dX9_ink_48 ?_
        refine z_bipush C dX9_ink_49 rfl ?_
        refine z_cpy (t := 1) C cp_9_244 (by decide) hl.1 Hh dX9_ink_51 (Nat.le_of_ble_eq_true rfl) (Nat.le_of_ble_eq_true rfl) hm (fun h H locs Hh hm => ?_)
        refine lv_aload_n hx hb dX9_ink_54 rfl (lv_at hl 0 rfl) ?_
        refine lv_aload_n hx hb dX9_ink_55 rfl (lv_at hl 0 rfl) ?_
        refine z_getR C fl_9_75 Hh dX9_ink_56 rfl hm (fun x10 hm => ?_)
        refine lv_aload_n hx hb dX9_ink_59 rfl (lv_at hl 0 rfl) ?_
        refine z_getR C fl_9_30 Hh dX9_ink_60 rfl hm (fun x11 hm => ?_)
        refine lv_iload_n hx hb dX9_ink_63 rfl (lv_at hl 2 rfl) ?_
        refine z_cSIr (vs := [qI l2]) C (fun q hq => ct_X9_inner l g h l2 q hq) tw_800 my_X9_inner rfl hl.1 Hh ⟨Nat.le_of_ble_eq_true rfl, Nat.le_of_ble_eq_true rfl, Nat.le_of_ble_eq_true rfl, Nat.le_of_ble_eq_true rfl⟩ (Nat.le_of_ble_eq_true rfl) dX9_ink_64 rfl hm (fun x12 H locs Hh hm => ?_)
        refine lv_iload_n hx hb dX9_ink_67 rfl (lv_at hl 3 rfl) ?_
        refine z_cVI (vs := [qR g x11, qI x12, qI l3]) C (fun q hq => ct_X2_leastInk l g h x10 x11 x12 l3 q hq) tw_1096 my_X2_leastInk (fun q hq => tg_X2_leastInk hq) rfl hl.1 Hh ⟨Nat.le_of_ble_eq_true rfl, Nat.le_of_ble_eq_true rfl, Nat.le_of_ble_eq_true rfl, Nat.le_of_ble_eq_true rfl⟩ (Nat.le_of_ble_eq_true rfl) dX9_ink_68 rfl hm (fun h x13 H locs Hh hm => ?_)
        refine z_cVI (vs := [qI x13]) C (fun q hq => ct_X9_answered l g h l0 x13 q hq) tw_767 my_X9_answered (fun q hq => tg_X9_answered hq) rfl hl.1 Hh ⟨Nat.le_of_ble_eq_true rfl, Nat.le_of_ble_eq_true rfl, Nat.le_of_ble_eq_true rfl, Nat.le_of_ble_eq_true rfl⟩ (Nat.le_of_ble_eq_true rfl) dX9_ink_71 rfl hm (fun h x14 H locs Hh hm => ?_)
        exact z_iret C hr hlocks Hh dX9_ink_74 hm
      · refine lv_aload_n hx hb dX9_ink_24 rfl (lv_at hl 0 rfl) ?_
        refine z_iconst C dX9_ink_25 ?_
        refine z_cVI (vs := [qI 1]) C (fun q hq => ct_X9_refused l g h l0 1 q hq) tw_507 my_X9_refused (fun q hq => tg_X9_refused hq) rfl hl.1 Hh ⟨Nat.le_of_ble_eq_true rfl, Nat.le_of_ble_eq_true rfl, Nat.le_of_ble_eq_true rfl, Nat.le_of_ble_eq_true rfl⟩ (Nat.le_of_ble_eq_true rfl) dX9_ink_26 rfl hm (fun h x15 H locs Hh hm => ?_)
        exact z_iret C hr hlocks Hh dX9_ink_29 hm
theorem tg_X9_judge {h : Hp} {l0 : Int} {r : Hp × Int} (hm : M_X9_judge h l0 = some r) : hT h l0 = 19 := (tk_inv hm).1
set_option maxRecDepth 100000 in
set_option maxHeartbeats 4000000 in
theorem ct_X9_judge (l : Launch) (g : zGeo) (h0 : Hp) (l0 : Int) (r : Hp × Int) (hm : M_X9_judge h0 l0 = some r) : zM l yX9_judge cX9_judge 1 (some .int) 6 161 0 0 g h0 [qR g l0] r.1 (some (qI r.2)) := by
  refine z_meth (by decide) (Nat.le_of_ble_eq_true rfl) ?_
  intro p e s m args below meth c H ls C hr hlocks hnm Hh hl
  have C : zC p m c cX9_judge 1 s args RX9 g := C
  have hnm : meth.name = "judge" := hnm
  have hx := C.1.1
  have hb := C.1.2.1
  have hl : lv_has ls 1 [(0, qR g l0)] := hl
  unfold M_X9_judge at hm
  replace hm := (tk_inv hm).2
  generalize h0 = h at Hh hm
  refine lv_aload_n hx hb dX9_judge_0 rfl (lv_at hl 0 rfl) ?_
  refine z_getR C fl_9_30 Hh dX9_judge_1 rfl hm (fun x1 hm => ?_)
  refine z_getI C fl_9_130 Hh dX9_judge_4 rfl hm (fun x2 hm => ?_)
  refine z_if_ne (tgt := 16) C dX9_judge_7 (by decide) rfl hm (fun _ hm => ?_) (fun _ hm => ?_)
  · refine lv_aload_n hx hb dX9_judge_16 rfl (lv_at hl 0 rfl) ?_
    refine lv_aload_n hx hb dX9_judge_17 rfl (lv_at hl 0 rfl) ?_
    refine z_getR C fl_9_68 Hh dX9_judge_18 rfl hm (fun x3 hm => ?_)
    refine lv_aload_n hx hb dX9_judge_21 rfl (lv_at hl 0 rfl) ?_
    refine z_getR C fl_9_20 Hh dX9_judge_22 rfl hm (fun x4 hm => ?_)
    refine lv_aload_n hx hb dX9_judge_25 rfl (lv_at hl 0 rfl) ?_
    refine z_getR C fl_9_20 Hh dX9_judge_26 rfl hm (fun x5 hm => ?_)
    refine z_getR C fl_9_117 Hh dX9_judge_29 rfl hm (fun x6 hm => ?_)
    refine z_cVI (vs := [qR g x4, qR g x6]) C (fun q hq => ct_X1_firstNotSo l g h x3 x4 x6 q hq) tw_1114 my_X1_firstNotSo (fun q hq => tg_X1_firstNotSo hq) rfl hl.1 Hh ⟨Nat.le_of_ble_eq_true rfl, Nat.le_of_ble_eq_true rfl, Nat.le_of_ble_eq_true rfl, Nat.le_of_ble_eq_true rfl⟩ (Nat.le_of_ble_eq_true rfl) dX9_judge_32 rfl hm (fun h x7 H locs Hh hm => ?_)
    refine z_cVI (vs := [qI x7]) C (fun q hq => ct_X9_answered l g h l0 x7 q hq) tw_767 my_X9_answered (fun q hq => tg_X9_answered hq) rfl hl.1 Hh ⟨Nat.le_of_ble_eq_true rfl, Nat.le_of_ble_eq_true rfl, Nat.le_of_ble_eq_true rfl, Nat.le_of_ble_eq_true rfl⟩ (Nat.le_of_ble_eq_true rfl) dX9_judge_35 rfl hm (fun h x8 H locs Hh hm => ?_)
    exact z_iret C hr hlocks Hh dX9_judge_38 hm
  · refine lv_aload_n hx hb dX9_judge_10 rfl (lv_at hl 0 rfl) ?_
    refine z_iconst C dX9_judge_11 ?_
    refine z_cVI (vs := [qI 1]) C (fun q hq => ct_X9_refused l g h l0 1 q hq) tw_507 my_X9_refused (fun q hq => tg_X9_refused hq) rfl hl.1 Hh ⟨Nat.le_of_ble_eq_true rfl, Nat.le_of_ble_eq_true rfl, Nat.le_of_ble_eq_true rfl, Nat.le_of_ble_eq_true rfl⟩ (Nat.le_of_ble_eq_true rfl) dX9_judge_12 rfl hm (fun h x9 H locs Hh hm => ?_)
    exact z_iret C hr hlocks Hh dX9_judge_15 hm
theorem tg_X9_fitRefusal {h : Hp} {l0 : Int} {r : Int} (hm : M_X9_fitRefusal h l0 = some r) : hT h l0 = 19 := (tk_inv hm).1
set_option maxRecDepth 100000 in
set_option maxHeartbeats 4000000 in
theorem ct_X9_fitRefusal (l : Launch) (g : zGeo) (h : Hp) (l0 : Int) (r : Int) (hm : M_X9_fitRefusal h l0 = some r) : zM l yX9_fitRefusal cX9_fitRefusal 1 (some .int) 3 64 0 0 g h [qR g l0] h (some (qI r)) := by
  refine z_meth (by decide) (Nat.le_of_ble_eq_true rfl) ?_
  intro p e s m args below meth c H ls C hr hlocks hnm Hh hl
  have C : zC p m c cX9_fitRefusal 1 s args RX9 g := C
  have hnm : meth.name = "fitRefusal" := hnm
  have hx := C.1.1
  have hb := C.1.2.1
  have hl : lv_has ls 1 [(0, qR g l0)] := hl
  unfold M_X9_fitRefusal at hm
  replace hm := (tk_inv hm).2
  refine lv_aload_n hx hb dX9_fitRefusal_0 rfl (lv_at hl 0 rfl) ?_
  refine z_getR C fl_9_30 Hh dX9_fitRefusal_1 rfl hm (fun x1 hm => ?_)
  refine z_getI C fl_9_130 Hh dX9_fitRefusal_4 rfl hm (fun x2 hm => ?_)
  refine z_if_ne (tgt := 12) C dX9_fitRefusal_7 (by decide) rfl hm (fun _ hm => ?_) (fun _ hm => ?_)
  · refine lv_aload_n hx hb dX9_fitRefusal_12 rfl (lv_at hl 0 rfl) ?_
    refine z_getR C fl_9_20 Hh dX9_fitRefusal_13 rfl hm (fun x3 hm => ?_)
    refine z_cVIr (vs := []) C (fun q hq => ct_X5_unknownCount l g h x3 q hq) tw_1127 my_X5_unknownCount (fun q hq => tg_X5_unknownCount hq) rfl hl.1 Hh ⟨Nat.le_of_ble_eq_true rfl, Nat.le_of_ble_eq_true rfl, Nat.le_of_ble_eq_true rfl, Nat.le_of_ble_eq_true rfl⟩ (Nat.le_of_ble_eq_true rfl) dX9_fitRefusal_16 rfl hm (fun x4 H locs Hh hm => ?_)
    refine z_if_eq (tgt := 32) C dX9_fitRefusal_19 (by decide) rfl hm (fun _ hm => ?_) (fun _ hm => ?_)
    · refine z_bipush C dX9_fitRefusal_32 rfl ?_
      refine lv_goto (tgt := 38) hx hb dX9_fitRefusal_34 (by decide) ?_
      exact z_iretR (h0 := h) C hr hlocks Hh dX9_fitRefusal_38 hm
    · refine lv_aload_n hx hb dX9_fitRefusal_22 rfl (lv_at hl 0 rfl) ?_
      refine z_getR C fl_9_20 Hh dX9_fitRefusal_23 rfl hm (fun x5 hm => ?_)
      refine z_getI C fl_9_283 Hh dX9_fitRefusal_26 rfl hm (fun x6 hm => ?_)
      refine z_if_ne (tgt := 37) C dX9_fitRefusal_29 (by decide) rfl hm (fun _ hm => ?_) (fun _ hm => ?_)
      · refine z_iconst C dX9_fitRefusal_37 ?_
        exact z_iretR (h0 := h) C hr hlocks Hh dX9_fitRefusal_38 hm
      · refine z_bipush C dX9_fitRefusal_32 rfl ?_
        refine lv_goto (tgt := 38) hx hb dX9_fitRefusal_34 (by decide) ?_
        exact z_iretR (h0 := h) C hr hlocks Hh dX9_fitRefusal_38 hm
  · refine z_iconst C dX9_fitRefusal_10 ?_
    exact z_iretR (h0 := h) C hr hlocks Hh dX9_fitRefusal_11 hm
theorem tg_X9_fits {h : Hp} {l0 : Int} {r : Hp × Int} (hm : M_X9_fits h l0 = some r) : hT h l0 = 19 := (tk_inv hm).1
set_option maxRecDepth 100000 in
set_option maxHeartbeats 4000000 in
theorem ct_X9_fits (l : Launch) (g : zGeo) (h0 : Hp) (l0 : Int) (r : Hp × Int) (hm : M_X9_fits h0 l0 = some r) : zM l yX9_fits cX9_fits 2 (some .int) 7 185 0 0 g h0 [qR g l0] r.1 (some (qI r.2)) := by
  refine z_meth (by decide) (Nat.le_of_ble_eq_true rfl) ?_
  intro p e s m args below meth c H ls C hr hlocks hnm Hh hl
  have C : zC p m c cX9_fits 2 s args RX9 g := C
  have hnm : meth.name = "fits" := hnm
  have hx := C.1.1
  have hb := C.1.2.1
  have hl : lv_has ls 2 [(0, qR g l0)] := hl
  unfold M_X9_fits at hm
  replace hm := (tk_inv hm).2
  generalize h0 = h at Hh hm
  refine lv_aload_n hx hb dX9_fits_0 rfl (lv_at hl 0 rfl) ?_
  refine z_cVIr (vs := []) C (fun q hq => ct_X9_fitRefusal l g h l0 q hq) tw_1123 my_X9_fitRefusal (fun q hq => tg_X9_fitRefusal hq) rfl hl.1 Hh ⟨Nat.le_of_ble_eq_true rfl, Nat.le_of_ble_eq_true rfl, Nat.le_of_ble_eq_true rfl, Nat.le_of_ble_eq_true rfl⟩ (Nat.le_of_ble_eq_true rfl) dX9_fits_1 rfl hm (fun x1 H locs Hh hm => ?_)
  refine lv_istore_n (lv' := [(1, qI x1), (0, qR g l0)]) hx hb dX9_fits_4 rfl hl (by decide) rfl (fun ls hl => ?_)
  refine lv_iload_n hx hb dX9_fits_5 rfl (lv_at hl 0 rfl) ?_
  refine z_if_eq (tgt := 15) C dX9_fits_6 (by decide) rfl hm (fun _ hm => ?_) (fun _ hm => ?_)
  · refine lv_aload_n hx hb dX9_fits_15 rfl (lv_at hl 1 rfl) ?_
    refine z_getR C fl_9_68 Hh dX9_fits_16 rfl hm (fun x2 hm => ?_)
    refine lv_aload_n hx hb dX9_fits_19 rfl (lv_at hl 1 rfl) ?_
    refine z_getR C fl_9_20 Hh dX9_fits_20 rfl hm (fun x3 hm => ?_)
    refine lv_aload_n hx hb dX9_fits_23 rfl (lv_at hl 1 rfl) ?_
    refine z_getR C fl_9_34 Hh dX9_fits_24 rfl hm (fun x4 hm => ?_)
    refine z_cVv (vs := [qR g x3, qR g x4]) C (fun q hq => ct_X1_find l g h x2 x3 x4 q hq) tw_1128 my_X1_find (fun q hq => tg_X1_find hq) rfl hl.1 Hh ⟨Nat.le_of_ble_eq_true rfl, Nat.le_of_ble_eq_true rfl, Nat.le_of_ble_eq_true rfl, Nat.le_of_ble_eq_true rfl⟩ (Nat.le_of_ble_eq_true rfl) dX9_fits_27 rfl hm (fun h H locs Hh hm => ?_)
    refine lv_aload_n hx hb dX9_fits_30 rfl (lv_at hl 1 rfl) ?_
    refine lv_aload_n hx hb dX9_fits_31 rfl (lv_at hl 1 rfl) ?_
    refine z_getR C fl_9_68 Hh dX9_fits_32 rfl hm (fun x5 hm => ?_)
    refine z_getI C fl_9_265 Hh dX9_fits_35 rfl hm (fun x6 hm => ?_)
    refine z_cVI (vs := [qI x6]) C (fun q hq => ct_X9_answered l g h l0 x6 q hq) tw_767 my_X9_answered (fun q hq => tg_X9_answered hq) rfl hl.1 Hh ⟨Nat.le_of_ble_eq_true rfl, Nat.le_of_ble_eq_true rfl, Nat.le_of_ble_eq_true rfl, Nat.le_of_ble_eq_true rfl⟩ (Nat.le_of_ble_eq_true rfl) dX9_fits_38 rfl hm (fun h x7 H locs Hh hm => ?_)
    exact z_iret C hr hlocks Hh dX9_fits_41 hm
  · refine lv_aload_n hx hb dX9_fits_9 rfl (lv_at hl 1 rfl) ?_
    refine lv_iload_n hx hb dX9_fits_10 rfl (lv_at hl 0 rfl) ?_
    refine z_cVI (vs := [qI x1]) C (fun q hq => ct_X9_refused l g h l0 x1 q hq) tw_507 my_X9_refused (fun q hq => tg_X9_refused hq) rfl hl.1 Hh ⟨Nat.le_of_ble_eq_true rfl, Nat.le_of_ble_eq_true rfl, Nat.le_of_ble_eq_true rfl, Nat.le_of_ble_eq_true rfl⟩ (Nat.le_of_ble_eq_true rfl) dX9_fits_11 rfl hm (fun h x8 H locs Hh hm => ?_)
    exact z_iret C hr hlocks Hh dX9_fits_14 hm
theorem tg_X9_fit {h : Hp} {l0 l1 l2 : Int} {r : Hp × Int} (hm : M_X9_fit h l0 l1 l2 = some r) : hT h l0 = 19 := (tk_inv hm).1
set_option maxRecDepth 100000 in
set_option maxHeartbeats 4000000 in
theorem ct_X9_fit (l : Launch) (g : zGeo) (h0 : Hp) (l0 l1 l2 : Int) (r : Hp × Int) (hm : M_X9_fit h0 l0 l1 l2 = some r) : zM l yX9_fit cX9_fit 5 (some .int) 7 185 0 0 g h0 [qR g l0, qI l1, qI l2] r.1 (some (qI r.2)) := by
  refine z_meth (by decide) (Nat.le_of_ble_eq_true rfl) ?_
  intro p e s m args below meth c H ls C hr hlocks hnm Hh hl
  have C : zC p m c cX9_fit 5 s args RX9 g := C
  have hnm : meth.name = "fit" := hnm
  have hx := C.1.1
  have hb := C.1.2.1
  have hl : lv_has ls 5 [(0, qR g l0), (1, qI l1), (2, qI l2)] := hl
  unfold M_X9_fit at hm
  replace hm := (tk_inv hm).2
  generalize h0 = h at Hh hm
  have K50 : ∀ (h : Hp) (l0 l1 : Int) (s0 : Int) (H : Heap) (locs : List Loc) (ls : Array Slot), zH g s h H locs → lv_has ls 5 [(0, qR g l0), (1, qI l1)] → M_X9_fit_p50 h l0 l1 s0 = some r → W p l e { frames := 7, cells := 0, slots := 0, locals := 185 } s m args below meth c H locs 0 0 (zQ below g r.1 (some (qI r.2)) args s 0 0) (F0 m 50 ls [qI s0]) := by
    intro h l0 l1 s0 H locs ls Hh hl hm
    unfold M_X9_fit_p50 at hm
    refine lv_istore (lv' := [(4, qI s0), (0, qR g l0), (1, qI l1)]) hx hb dX9_fit_50 hl (by decide) rfl (fun ls hl => ?_)
    refine lv_iload hx hb dX9_fit_52 (lv_at hl 0 rfl) ?_
    refine z_iconst C dX9_fit_54 ?_
    refine z_icmp_eq (tgt := 73) C dX9_fit_55 (by decide) rfl lq_m1 hm (fun _ hm => ?_) (fun _ hm => ?_)
    · refine lv_aload_n hx hb dX9_fit_73 rfl (lv_at hl 1 rfl) ?_
      refine z_iconst C dX9_fit_74 ?_
      refine z_cVI (vs := [qI 1]) C (fun q hq => ct_X9_refused l g h l0 1 q hq) tw_507 my_X9_refused (fun q hq => tg_X9_refused hq) rfl hl.1 Hh ⟨Nat.le_of_ble_eq_true rfl, Nat.le_of_ble_eq_true rfl, Nat.le_of_ble_eq_true rfl, Nat.le_of_ble_eq_true rfl⟩ (Nat.le_of_ble_eq_true rfl) dX9_fit_75 rfl hm (fun h x1 H locs Hh hm => ?_)
      exact z_iret C hr hlocks Hh dX9_fit_78 hm
    · refine lv_iload_n hx hb dX9_fit_58 rfl (lv_at hl 2 rfl) ?_
      refine z_if_lt (tgt := 73) C dX9_fit_59 (by decide) rfl hm (fun _ hm => ?_) (fun _ hm => ?_)
      · refine lv_aload_n hx hb dX9_fit_73 rfl (lv_at hl 1 rfl) ?_
        refine z_iconst C dX9_fit_74 ?_
        refine z_cVI (vs := [qI 1]) C (fun q hq => ct_X9_refused l g h l0 1 q hq) tw_507 my_X9_refused (fun q hq => tg_X9_refused hq) rfl hl.1 Hh ⟨Nat.le_of_ble_eq_true rfl, Nat.le_of_ble_eq_true rfl, Nat.le_of_ble_eq_true rfl, Nat.le_of_ble_eq_true rfl⟩ (Nat.le_of_ble_eq_true rfl) dX9_fit_75 rfl hm (fun h x2 H locs Hh hm => ?_)
        exact z_iret C hr hlocks Hh dX9_fit_78 hm
      · refine lv_iload_n hx hb dX9_fit_62 rfl (lv_at hl 2 rfl) ?_
        refine lv_aload_n hx hb dX9_fit_63 rfl (lv_at hl 1 rfl) ?_
        refine z_getR C fl_9_68 Hh dX9_fit_64 rfl hm (fun x3 hm => ?_)
        refine z_getI C fl_9_265 Hh dX9_fit_67 rfl hm (fun x4 hm => ?_)
        refine z_icmp_lt (tgt := 79) C dX9_fit_70 (by decide) rfl rfl hm (fun _ hm => ?_) (fun _ hm => ?_)
        · refine lv_aload_n hx hb dX9_fit_79 rfl (lv_at hl 1 rfl) ?_
          refine lv_aload_n hx hb dX9_fit_80 rfl (lv_at hl 1 rfl) ?_
          refine z_getR C fl_9_68 Hh dX9_fit_81 rfl hm (fun x5 hm => ?_)
          refine lv_aload_n hx hb dX9_fit_84 rfl (lv_at hl 1 rfl) ?_
          refine z_getR C fl_9_20 Hh dX9_fit_85 rfl hm (fun x6 hm => ?_)
          refine lv_aload_n hx hb dX9_fit_88 rfl (lv_at hl 1 rfl) ?_
          refine z_getR C fl_9_68 Hh dX9_fit_89 rfl hm (fun x7 hm => ?_)
          refine z_getR C fl_9_269 Hh dX9_fit_92 rfl hm (fun x8 hm => ?_)
          refine lv_iload_n hx hb dX9_fit_95 rfl (lv_at hl 2 rfl) ?_
          refine z_iald C Hh dX9_fit_96 hm (fun x9 hm => ?_)
          refine lv_iload hx hb dX9_fit_97 (lv_at hl 0 rfl) ?_
          refine z_cVIr (vs := [qR g x6, qI x9, qI s0]) C (fun q hq => ct_X1_guessIn l g h x5 x6 x9 s0 q hq) tw_1156 my_X1_guessIn (fun q hq => tg_X1_guessIn hq) rfl hl.1 Hh ⟨Nat.le_of_ble_eq_true rfl, Nat.le_of_ble_eq_true rfl, Nat.le_of_ble_eq_true rfl, Nat.le_of_ble_eq_true rfl⟩ (Nat.le_of_ble_eq_true rfl) dX9_fit_99 rfl hm (fun x10 H locs Hh hm => ?_)
          refine z_cVI (vs := [qI x10]) C (fun q hq => ct_X9_answered l g h l0 x10 q hq) tw_767 my_X9_answered (fun q hq => tg_X9_answered hq) rfl hl.1 Hh ⟨Nat.le_of_ble_eq_true rfl, Nat.le_of_ble_eq_true rfl, Nat.le_of_ble_eq_true rfl, Nat.le_of_ble_eq_true rfl⟩ (Nat.le_of_ble_eq_true rfl) dX9_fit_102 rfl hm (fun h x11 H locs Hh hm => ?_)
          exact z_iret C hr hlocks Hh dX9_fit_105 hm
        · refine lv_aload_n hx hb dX9_fit_73 rfl (lv_at hl 1 rfl) ?_
          refine z_iconst C dX9_fit_74 ?_
          refine z_cVI (vs := [qI 1]) C (fun q hq => ct_X9_refused l g h l0 1 q hq) tw_507 my_X9_refused (fun q hq => tg_X9_refused hq) rfl hl.1 Hh ⟨Nat.le_of_ble_eq_true rfl, Nat.le_of_ble_eq_true rfl, Nat.le_of_ble_eq_true rfl, Nat.le_of_ble_eq_true rfl⟩ (Nat.le_of_ble_eq_true rfl) dX9_fit_75 rfl hm (fun h x12 H locs Hh hm => ?_)
          exact z_iret C hr hlocks Hh dX9_fit_78 hm
  refine lv_aload_n hx hb dX9_fit_0 rfl (lv_at hl 0 rfl) ?_
  refine z_cVIr (vs := []) C (fun q hq => ct_X9_fitRefusal l g h l0 q hq) tw_1123 my_X9_fitRefusal (fun q hq => tg_X9_fitRefusal hq) rfl hl.1 Hh ⟨Nat.le_of_ble_eq_true rfl, Nat.le_of_ble_eq_true rfl, Nat.le_of_ble_eq_true rfl, Nat.le_of_ble_eq_true rfl⟩ (Nat.le_of_ble_eq_true rfl) dX9_fit_1 rfl hm (fun x13 H locs Hh hm => ?_)
  refine lv_istore_n (lv' := [(3, qI x13), (0, qR g l0), (1, qI l1), (2, qI l2)]) hx hb dX9_fit_4 rfl hl (by decide) rfl (fun ls hl => ?_)
  refine lv_iload_n hx hb dX9_fit_5 rfl (lv_at hl 0 rfl) ?_
  refine z_if_eq (tgt := 15) C dX9_fit_6 (by decide) rfl hm (fun _ hm => ?_) (fun _ hm => ?_)
  · refine lv_aload_n hx hb dX9_fit_15 rfl (lv_at hl 1 rfl) ?_
    refine z_getR C fl_9_68 Hh dX9_fit_16 rfl hm (fun x14 hm => ?_)
    refine lv_aload_n hx hb dX9_fit_19 rfl (lv_at hl 1 rfl) ?_
    refine z_getR C fl_9_20 Hh dX9_fit_20 rfl hm (fun x15 hm => ?_)
    refine lv_aload_n hx hb dX9_fit_23 rfl (lv_at hl 1 rfl) ?_
    refine z_getR C fl_9_34 Hh dX9_fit_24 rfl hm (fun x16 hm => ?_)
    refine z_cVv (vs := [qR g x15, qR g x16]) C (fun q hq => ct_X1_find l g h x14 x15 x16 q hq) tw_1128 my_X1_find (fun q hq => tg_X1_find hq) rfl hl.1 Hh ⟨Nat.le_of_ble_eq_true rfl, Nat.le_of_ble_eq_true rfl, Nat.le_of_ble_eq_true rfl, Nat.le_of_ble_eq_true rfl⟩ (Nat.le_of_ble_eq_true rfl) dX9_fit_27 rfl hm (fun h H locs Hh hm => ?_)
    refine lv_aload_n hx hb dX9_fit_30 rfl (lv_at hl 1 rfl) ?_
    refine lv_iload_n hx hb dX9_fit_31 rfl (lv_at hl 3 rfl) ?_
    refine z_cVIr (vs := [qI l2]) C (fun q hq => ct_X9_isTown l g h l0 l2 q hq) tw_784 my_X9_isTown (fun q hq => tg_X9_isTown hq) rfl hl.1 Hh ⟨Nat.le_of_ble_eq_true rfl, Nat.le_of_ble_eq_true rfl, Nat.le_of_ble_eq_true rfl, Nat.le_of_ble_eq_true rfl⟩ (Nat.le_of_ble_eq_true rfl) dX9_fit_32 rfl hm (fun x17 H locs Hh hm => ?_)
    refine z_if_eq (tgt := 49) C dX9_fit_35 (by decide) rfl hm (fun _ hm => ?_) (fun _ hm => ?_)
    · refine z_iconst C dX9_fit_49 ?_
      exact K50 h l0 l1 (-1) _ _ _ Hh (lv_sub hl [1, 2] rfl) hm
    · refine lv_aload_n hx hb dX9_fit_38 rfl (lv_at hl 1 rfl) ?_
      refine z_getR C fl_9_20 Hh dX9_fit_39 rfl hm (fun x18 hm => ?_)
      refine lv_iload_n hx hb dX9_fit_42 rfl (lv_at hl 3 rfl) ?_
      refine z_cVIr (vs := [qI l2]) C (fun q hq => ct_X5_unknownNumber l g h x18 l2 q hq) tw_1152 my_X5_unknownNumber (fun q hq => tg_X5_unknownNumber hq) rfl hl.1 Hh ⟨Nat.le_of_ble_eq_true rfl, Nat.le_of_ble_eq_true rfl, Nat.le_of_ble_eq_true rfl, Nat.le_of_ble_eq_true rfl⟩ (Nat.le_of_ble_eq_true rfl) dX9_fit_43 rfl hm (fun x19 H locs Hh hm => ?_)
      refine lv_goto (tgt := 50) hx hb dX9_fit_46 (by decide) ?_
      exact K50 h l0 l1 x19 _ _ _ Hh (lv_sub hl [1, 2] rfl) hm
  · refine lv_aload_n hx hb dX9_fit_9 rfl (lv_at hl 1 rfl) ?_
    refine lv_iload_n hx hb dX9_fit_10 rfl (lv_at hl 0 rfl) ?_
    refine z_cVI (vs := [qI x13]) C (fun q hq => ct_X9_refused l g h l0 x13 q hq) tw_507 my_X9_refused (fun q hq => tg_X9_refused hq) rfl hl.1 Hh ⟨Nat.le_of_ble_eq_true rfl, Nat.le_of_ble_eq_true rfl, Nat.le_of_ble_eq_true rfl, Nat.le_of_ble_eq_true rfl⟩ (Nat.le_of_ble_eq_true rfl) dX9_fit_11 rfl hm (fun h x20 H locs Hh hm => ?_)
    exact z_iret C hr hlocks Hh dX9_fit_14 hm
theorem tg_X9_surely {h : Hp} {l0 l1 : Int} {r : Hp × Int} (hm : M_X9_surely h l0 l1 = some r) : hT h l0 = 19 := (tk_inv hm).1
set_option maxRecDepth 100000 in
set_option maxHeartbeats 4000000 in
theorem ct_X9_surely (l : Launch) (g : zGeo) (h0 : Hp) (l0 l1 : Int) (r : Hp × Int) (hm : M_X9_surely h0 l0 l1 = some r) : zM l yX9_surely cX9_surely 4 (some .int) 7 185 0 0 g h0 [qR g l0, qI l1] r.1 (some (qI r.2)) := by
  refine z_meth (by decide) (Nat.le_of_ble_eq_true rfl) ?_
  intro p e s m args below meth c H ls C hr hlocks hnm Hh hl
  have C : zC p m c cX9_surely 4 s args RX9 g := C
  have hnm : meth.name = "surely" := hnm
  have hx := C.1.1
  have hb := C.1.2.1
  have hl : lv_has ls 4 [(0, qR g l0), (1, qI l1)] := hl
  unfold M_X9_surely at hm
  replace hm := (tk_inv hm).2
  generalize h0 = h at Hh hm
  have K35 : ∀ (h : Hp) (l0 : Int) (s0 : Int) (H : Heap) (locs : List Loc) (ls : Array Slot), zH g s h H locs → lv_has ls 4 [(0, qR g l0)] → M_X9_surely_p35 h l0 s0 = some r → W p l e { frames := 7, cells := 0, slots := 0, locals := 185 } s m args below meth c H locs 0 0 (zQ below g r.1 (some (qI r.2)) args s 0 0) (F0 m 35 ls [qI s0]) := by
    intro h l0 s0 H locs ls Hh hl hm
    unfold M_X9_surely_p35 at hm
    refine lv_istore_n (lv' := [(3, qI s0), (0, qR g l0)]) hx hb dX9_surely_35 rfl hl (by decide) rfl (fun ls hl => ?_)
    refine lv_iload_n hx hb dX9_surely_36 rfl (lv_at hl 0 rfl) ?_
    refine z_iconst C dX9_surely_37 ?_
    refine z_icmp_ne (tgt := 47) C dX9_surely_38 (by decide) rfl lq_m1 hm (fun _ hm => ?_) (fun _ hm => ?_)
    · refine lv_aload_n hx hb dX9_surely_47 rfl (lv_at hl 1 rfl) ?_
      refine z_getR C fl_9_68 Hh dX9_surely_48 rfl hm (fun x1 hm => ?_)
      refine lv_aload_n hx hb dX9_surely_51 rfl (lv_at hl 1 rfl) ?_
      refine z_getR C fl_9_20 Hh dX9_surely_52 rfl hm (fun x2 hm => ?_)
      refine lv_aload_n hx hb dX9_surely_55 rfl (lv_at hl 1 rfl) ?_
      refine z_getR C fl_9_34 Hh dX9_surely_56 rfl hm (fun x3 hm => ?_)
      refine z_cVv (vs := [qR g x2, qR g x3]) C (fun q hq => ct_X1_find l g h x1 x2 x3 q hq) tw_1128 my_X1_find (fun q hq => tg_X1_find hq) rfl hl.1 Hh ⟨Nat.le_of_ble_eq_true rfl, Nat.le_of_ble_eq_true rfl, Nat.le_of_ble_eq_true rfl, Nat.le_of_ble_eq_true rfl⟩ (Nat.le_of_ble_eq_true rfl) dX9_surely_59 rfl hm (fun h H locs Hh hm => ?_)
      refine lv_aload_n hx hb dX9_surely_62 rfl (lv_at hl 1 rfl) ?_
      refine lv_aload_n hx hb dX9_surely_63 rfl (lv_at hl 1 rfl) ?_
      refine z_getR C fl_9_68 Hh dX9_surely_64 rfl hm (fun x4 hm => ?_)
      refine lv_aload_n hx hb dX9_surely_67 rfl (lv_at hl 1 rfl) ?_
      refine z_getR C fl_9_20 Hh dX9_surely_68 rfl hm (fun x5 hm => ?_)
      refine lv_iload_n hx hb dX9_surely_71 rfl (lv_at hl 0 rfl) ?_
      refine z_cVIr (vs := [qR g x5, qI s0]) C (fun q hq => ct_X1_sureGuess l g h x4 x5 s0 q hq) tw_1161 my_X1_sureGuess (fun q hq => tg_X1_sureGuess hq) rfl hl.1 Hh ⟨Nat.le_of_ble_eq_true rfl, Nat.le_of_ble_eq_true rfl, Nat.le_of_ble_eq_true rfl, Nat.le_of_ble_eq_true rfl⟩ (Nat.le_of_ble_eq_true rfl) dX9_surely_72 rfl hm (fun x6 H locs Hh hm => ?_)
      refine z_cVI (vs := [qI x6]) C (fun q hq => ct_X9_answered l g h l0 x6 q hq) tw_767 my_X9_answered (fun q hq => tg_X9_answered hq) rfl hl.1 Hh ⟨Nat.le_of_ble_eq_true rfl, Nat.le_of_ble_eq_true rfl, Nat.le_of_ble_eq_true rfl, Nat.le_of_ble_eq_true rfl⟩ (Nat.le_of_ble_eq_true rfl) dX9_surely_75 rfl hm (fun h x7 H locs Hh hm => ?_)
      exact z_iret C hr hlocks Hh dX9_surely_78 hm
    · refine lv_aload_n hx hb dX9_surely_41 rfl (lv_at hl 1 rfl) ?_
      refine z_iconst C dX9_surely_42 ?_
      refine z_cVI (vs := [qI 1]) C (fun q hq => ct_X9_refused l g h l0 1 q hq) tw_507 my_X9_refused (fun q hq => tg_X9_refused hq) rfl hl.1 Hh ⟨Nat.le_of_ble_eq_true rfl, Nat.le_of_ble_eq_true rfl, Nat.le_of_ble_eq_true rfl, Nat.le_of_ble_eq_true rfl⟩ (Nat.le_of_ble_eq_true rfl) dX9_surely_43 rfl hm (fun h x8 H locs Hh hm => ?_)
      exact z_iret C hr hlocks Hh dX9_surely_46 hm
  refine lv_aload_n hx hb dX9_surely_0 rfl (lv_at hl 0 rfl) ?_
  refine z_cVIr (vs := []) C (fun q hq => ct_X9_fitRefusal l g h l0 q hq) tw_1123 my_X9_fitRefusal (fun q hq => tg_X9_fitRefusal hq) rfl hl.1 Hh ⟨Nat.le_of_ble_eq_true rfl, Nat.le_of_ble_eq_true rfl, Nat.le_of_ble_eq_true rfl, Nat.le_of_ble_eq_true rfl⟩ (Nat.le_of_ble_eq_true rfl) dX9_surely_1 rfl hm (fun x9 H locs Hh hm => ?_)
  refine lv_istore_n (lv' := [(2, qI x9), (0, qR g l0), (1, qI l1)]) hx hb dX9_surely_4 rfl hl (by decide) rfl (fun ls hl => ?_)
  refine lv_iload_n hx hb dX9_surely_5 rfl (lv_at hl 0 rfl) ?_
  refine z_if_eq (tgt := 15) C dX9_surely_6 (by decide) rfl hm (fun _ hm => ?_) (fun _ hm => ?_)
  · refine lv_aload_n hx hb dX9_surely_15 rfl (lv_at hl 1 rfl) ?_
    refine lv_iload_n hx hb dX9_surely_16 rfl (lv_at hl 2 rfl) ?_
    refine z_cVIr (vs := [qI l1]) C (fun q hq => ct_X9_isTown l g h l0 l1 q hq) tw_784 my_X9_isTown (fun q hq => tg_X9_isTown hq) rfl hl.1 Hh ⟨Nat.le_of_ble_eq_true rfl, Nat.le_of_ble_eq_true rfl, Nat.le_of_ble_eq_true rfl, Nat.le_of_ble_eq_true rfl⟩ (Nat.le_of_ble_eq_true rfl) dX9_surely_17 rfl hm (fun x10 H locs Hh hm => ?_)
    refine z_if_eq (tgt := 34) C dX9_surely_20 (by decide) rfl hm (fun _ hm => ?_) (fun _ hm => ?_)
    · refine z_iconst C dX9_surely_34 ?_
      exact K35 h l0 (-1) _ _ _ Hh (lv_sub hl [1] rfl) hm
    · refine lv_aload_n hx hb dX9_surely_23 rfl (lv_at hl 1 rfl) ?_
      refine z_getR C fl_9_20 Hh dX9_surely_24 rfl hm (fun x11 hm => ?_)
      refine lv_iload_n hx hb dX9_surely_27 rfl (lv_at hl 2 rfl) ?_
      refine z_cVIr (vs := [qI l1]) C (fun q hq => ct_X5_unknownNumber l g h x11 l1 q hq) tw_1152 my_X5_unknownNumber (fun q hq => tg_X5_unknownNumber hq) rfl hl.1 Hh ⟨Nat.le_of_ble_eq_true rfl, Nat.le_of_ble_eq_true rfl, Nat.le_of_ble_eq_true rfl, Nat.le_of_ble_eq_true rfl⟩ (Nat.le_of_ble_eq_true rfl) dX9_surely_28 rfl hm (fun x12 H locs Hh hm => ?_)
      refine lv_goto (tgt := 35) hx hb dX9_surely_31 (by decide) ?_
      exact K35 h l0 x12 _ _ _ Hh (lv_sub hl [1] rfl) hm
  · refine lv_aload_n hx hb dX9_surely_9 rfl (lv_at hl 1 rfl) ?_
    refine lv_iload_n hx hb dX9_surely_10 rfl (lv_at hl 0 rfl) ?_
    refine z_cVI (vs := [qI x9]) C (fun q hq => ct_X9_refused l g h l0 x9 q hq) tw_507 my_X9_refused (fun q hq => tg_X9_refused hq) rfl hl.1 Hh ⟨Nat.le_of_ble_eq_true rfl, Nat.le_of_ble_eq_true rfl, Nat.le_of_ble_eq_true rfl, Nat.le_of_ble_eq_true rfl⟩ (Nat.le_of_ble_eq_true rfl) dX9_surely_11 rfl hm (fun h x13 H locs Hh hm => ?_)
    exact z_iret C hr hlocks Hh dX9_surely_14 hm
theorem tg_X9_rounds {h : Hp} {l0 l1 : Int} {r : Hp × Int} (hm : M_X9_rounds h l0 l1 = some r) : hT h l0 = 19 := (tk_inv hm).1
set_option maxRecDepth 100000 in
set_option maxHeartbeats 4000000 in
theorem ct_X9_rounds (l : Launch) (g : zGeo) (h0 : Hp) (l0 l1 : Int) (r : Hp × Int) (hm : M_X9_rounds h0 l0 l1 = some r) : zM l yX9_rounds cX9_rounds 3 (some .int) 5 137 0 0 g h0 [qR g l0, qI l1] r.1 (some (qI r.2)) := by
  refine z_meth (by decide) (Nat.le_of_ble_eq_true rfl) ?_
  intro p e s m args below meth c H ls C hr hlocks hnm Hh hl
  have C : zC p m c cX9_rounds 3 s args RX9 g := C
  have hnm : meth.name = "rounds" := hnm
  have hx := C.1.1
  have hb := C.1.2.1
  have hl : lv_has ls 3 [(0, qR g l0), (1, qI l1)] := hl
  unfold M_X9_rounds at hm
  replace hm := (tk_inv hm).2
  generalize h0 = h at Hh hm
  have K68 : ∀ (h : Hp) (l0 l1 : Int) (H : Heap) (locs : List Loc) (ls : Array Slot), zH g s h H locs → lv_has ls 3 [(0, qR g l0), (1, qI l1)] → M_X9_rounds_p68 h l0 l1 = some r → W p l e { frames := 5, cells := 0, slots := 0, locals := 137 } s m args below meth c H locs 0 0 (zQ below g r.1 (some (qI r.2)) args s 0 0) (F0 m 68 ls []) := by
    intro h l0 l1  H locs ls Hh hl hm
    unfold M_X9_rounds_p68 at hm
    refine lv_aload_n hx hb dX9_rounds_68 rfl (lv_at hl 0 rfl) ?_
    refine z_getR C fl_9_30 Hh dX9_rounds_69 rfl hm (fun x1 hm => ?_)
    refine lv_dup hx hb dX9_rounds_72 rfl ?_
    refine z_getI C fl_9_289 Hh dX9_rounds_73 rfl hm (fun x2 hm => ?_)
    refine lv_iload_n hx hb dX9_rounds_76 rfl (lv_at hl 1 rfl) ?_
    refine z_iadd C dX9_rounds_77 ?_
    refine z_putI C hnm pl_9_289 Hh dX9_rounds_78 rfl hm (fun h H locs Hh hm => ?_)
    refine lv_aload_n hx hb dX9_rounds_81 rfl (lv_at hl 0 rfl) ?_
    refine lv_aload_n hx hb dX9_rounds_82 rfl (lv_at hl 0 rfl) ?_
    refine z_getR C fl_9_30 Hh dX9_rounds_83 rfl hm (fun x3 hm => ?_)
    refine z_getI C fl_9_289 Hh dX9_rounds_86 rfl hm (fun x4 hm => ?_)
    refine z_cVI (vs := [qI x4]) C (fun q hq => ct_X9_answered l g h l0 x4 q hq) tw_767 my_X9_answered (fun q hq => tg_X9_answered hq) rfl hl.1 Hh ⟨Nat.le_of_ble_eq_true rfl, Nat.le_of_ble_eq_true rfl, Nat.le_of_ble_eq_true rfl, Nat.le_of_ble_eq_true rfl⟩ (Nat.le_of_ble_eq_true rfl) dX9_rounds_89 rfl hm (fun h x5 H locs Hh hm => ?_)
    exact z_iret C hr hlocks Hh dX9_rounds_92 hm
  have KL46 : ∀ (n : Nat) (h : Hp) (l0 l1 l2 : Int) (H : Heap) (locs : List Loc) (ls : Array Slot), zH g s h H locs → lv_has ls 3 [(0, qR g l0), (1, qI l1), (2, qI l2)] → M_X9_rounds_w46 n h l0 l1 l2 = some r → W p l e { frames := 5, cells := 0, slots := 0, locals := 137 } s m args below meth c H locs 0 0 (zQ below g r.1 (some (qI r.2)) args s 0 0) (F0 m 46 ls []) := by
    intro n
    induction n with
    | zero => intro h l0 l1 l2 H locs ls Hh hl hm; cases hm
    | succ n ih46 =>
      intro h l0 l1 l2 H locs ls Hh hl hm
      obtain ⟨z46, hm, hc46⟩ := wh_inv hm
      have hm : M_X9_rounds_b46 h l0 l1 l2 = some z46 := hm
      unfold M_X9_rounds_b46 at hm
      refine lv_iload_n hx hb dX9_rounds_46 rfl (lv_at hl 2 rfl) ?_
      refine lv_iload_n hx hb dX9_rounds_47 rfl (lv_at hl 1 rfl) ?_
      refine z_icmp_ge (tgt := 68) C dX9_rounds_48 (by decide) rfl rfl hm (fun _ hm => ?_) (fun _ hm => ?_)
      · cases hm
        exact K68 h l0 l1 _ _ _ Hh (lv_sub hl [0, 1] rfl) hc46
      · refine lv_aload_n hx hb dX9_rounds_51 rfl (lv_at hl 0 rfl) ?_
        refine z_getR C fl_9_30 Hh dX9_rounds_52 rfl hm (fun x6 hm => ?_)
        refine lv_aload_n hx hb dX9_rounds_55 rfl (lv_at hl 0 rfl) ?_
        refine z_getR C fl_9_82 Hh dX9_rounds_56 rfl hm (fun x7 hm => ?_)
        refine z_cVv (vs := [qR g x7]) C (fun q hq => ct_X8_goOn l g h x6 x7 q hq) tw_921 my_X8_goOn (fun q hq => tg_X8_goOn hq) rfl hl.1 Hh ⟨Nat.le_of_ble_eq_true rfl, Nat.le_of_ble_eq_true rfl, Nat.le_of_ble_eq_true rfl, Nat.le_of_ble_eq_true rfl⟩ (Nat.le_of_ble_eq_true rfl) dX9_rounds_59 rfl hm (fun h H locs Hh hm => ?_)
        refine z_iinc (x := l2) (k := 2) (lv' := [(2, qI (l2 + 1)), (0, qR g l0), (1, qI l1)]) C dX9_rounds_62 hl rfl (by decide) rfl (fun ls hl => ?_)
        refine lv_goto (tgt := 46) hx hb dX9_rounds_65 (by decide) ?_
        cases hm
        exact ih46 h l0 l1 (l2 + 1) _ _ _ Hh (lv_sub hl [1, 2, 0] rfl) hc46
  refine lv_aload_n hx hb dX9_rounds_0 rfl (lv_at hl 0 rfl) ?_
  refine z_getR C fl_9_30 Hh dX9_rounds_1 rfl hm (fun x8 hm => ?_)
  refine z_getI C fl_9_130 Hh dX9_rounds_4 rfl hm (fun x9 hm => ?_)
  refine z_if_ne (tgt := 16) C dX9_rounds_7 (by decide) rfl hm (fun _ hm => ?_) (fun _ hm => ?_)
  · refine lv_iload_n hx hb dX9_rounds_16 rfl (lv_at hl 1 rfl) ?_
    refine z_iconst C dX9_rounds_17 ?_
    refine z_icmp_lt (tgt := 27) C dX9_rounds_18 (by decide) rfl lq_p1 hm (fun _ hm => ?_) (fun _ hm => ?_)
    · refine lv_aload_n hx hb dX9_rounds_27 rfl (lv_at hl 0 rfl) ?_
      refine z_iconst C dX9_rounds_28 ?_
      refine z_cVI (vs := [qI 2]) C (fun q hq => ct_X9_refused l g h l0 2 q hq) tw_507 my_X9_refused (fun q hq => tg_X9_refused hq) rfl hl.1 Hh ⟨Nat.le_of_ble_eq_true rfl, Nat.le_of_ble_eq_true rfl, Nat.le_of_ble_eq_true rfl, Nat.le_of_ble_eq_true rfl⟩ (Nat.le_of_ble_eq_true rfl) dX9_rounds_29 rfl hm (fun h x10 H locs Hh hm => ?_)
      exact z_iret C hr hlocks Hh dX9_rounds_32 hm
    · refine lv_iload_n hx hb dX9_rounds_21 rfl (lv_at hl 1 rfl) ?_
      refine z_bipush C dX9_rounds_22 rfl ?_
      refine z_icmp_le (tgt := 33) C dX9_rounds_24 (by decide) rfl lq_p60 hm (fun _ hm => ?_) (fun _ hm => ?_)
      · refine lv_aload_n hx hb dX9_rounds_33 rfl (lv_at hl 0 rfl) ?_
        refine z_getR C fl_9_43 Hh dX9_rounds_34 rfl hm (fun x11 hm => ?_)
        refine lv_aload_n hx hb dX9_rounds_37 rfl (lv_at hl 0 rfl) ?_
        refine z_getR C fl_9_30 Hh dX9_rounds_38 rfl hm (fun x12 hm => ?_)
        refine z_cVv (vs := [qR g x12]) C (fun q hq => ct_X3_remember l g h x11 x12 q hq) tw_1169 my_X3_remember (fun q hq => tg_X3_remember hq) rfl hl.1 Hh ⟨Nat.le_of_ble_eq_true rfl, Nat.le_of_ble_eq_true rfl, Nat.le_of_ble_eq_true rfl, Nat.le_of_ble_eq_true rfl⟩ (Nat.le_of_ble_eq_true rfl) dX9_rounds_41 rfl hm (fun h H locs Hh hm => ?_)
        refine z_iconst C dX9_rounds_44 ?_
        refine lv_istore_n (lv' := [(2, qI 0), (0, qR g l0), (1, qI l1)]) hx hb dX9_rounds_45 rfl hl (by decide) rfl (fun ls hl => ?_)
        exact KL46 FU h l0 l1 0 _ _ _ Hh (lv_sub hl [1, 2, 0] rfl) hm
      · refine lv_aload_n hx hb dX9_rounds_27 rfl (lv_at hl 0 rfl) ?_
        refine z_iconst C dX9_rounds_28 ?_
        refine z_cVI (vs := [qI 2]) C (fun q hq => ct_X9_refused l g h l0 2 q hq) tw_507 my_X9_refused (fun q hq => tg_X9_refused hq) rfl hl.1 Hh ⟨Nat.le_of_ble_eq_true rfl, Nat.le_of_ble_eq_true rfl, Nat.le_of_ble_eq_true rfl, Nat.le_of_ble_eq_true rfl⟩ (Nat.le_of_ble_eq_true rfl) dX9_rounds_29 rfl hm (fun h x13 H locs Hh hm => ?_)
        exact z_iret C hr hlocks Hh dX9_rounds_32 hm
  · refine lv_aload_n hx hb dX9_rounds_10 rfl (lv_at hl 0 rfl) ?_
    refine z_iconst C dX9_rounds_11 ?_
    refine z_cVI (vs := [qI 1]) C (fun q hq => ct_X9_refused l g h l0 1 q hq) tw_507 my_X9_refused (fun q hq => tg_X9_refused hq) rfl hl.1 Hh ⟨Nat.le_of_ble_eq_true rfl, Nat.le_of_ble_eq_true rfl, Nat.le_of_ble_eq_true rfl, Nat.le_of_ble_eq_true rfl⟩ (Nat.le_of_ble_eq_true rfl) dX9_rounds_12 rfl hm (fun h x14 H locs Hh hm => ?_)
    exact z_iret C hr hlocks Hh dX9_rounds_15 hm
theorem tg_X9_denied {h : Hp} {l0 l1 : Int} {r : Hp × Int} (hm : M_X9_denied h l0 l1 = some r) : hT h l0 = 19 := (tk_inv hm).1
set_option maxRecDepth 100000 in
set_option maxHeartbeats 4000000 in
theorem ct_X9_denied (l : Launch) (g : zGeo) (h0 : Hp) (l0 l1 : Int) (r : Hp × Int) (hm : M_X9_denied h0 l0 l1 = some r) : zM l yX9_denied cX9_denied 2 (some .boolean) 0 0 0 0 g h0 [qR g l0, qI l1] r.1 (some (qI r.2)) := by
  refine z_meth (by decide) (Nat.le_of_ble_eq_true rfl) ?_
  intro p e s m args below meth c H ls C hr hlocks hnm Hh hl
  have C : zC p m c cX9_denied 2 s args RX9 g := C
  have hnm : meth.name = "denied" := hnm
  have hx := C.1.1
  have hb := C.1.2.1
  have hl : lv_has ls 2 [(0, qR g l0), (1, qI l1)] := hl
  unfold M_X9_denied at hm
  replace hm := (tk_inv hm).2
  generalize h0 = h at Hh hm
  refine lv_aload_n hx hb dX9_denied_0 rfl (lv_at hl 0 rfl) ?_
  refine lv_iload_n hx hb dX9_denied_1 rfl (lv_at hl 1 rfl) ?_
  refine z_putI C hnm pl_9_85 Hh dX9_denied_2 rfl hm (fun h H locs Hh hm => ?_)
  refine z_iconst C dX9_denied_5 ?_
  exact z_zretC C hr hlocks Hh dX9_denied_6 (by decide) hm
theorem tg_X9_granted {h : Hp} {l0 : Int} {r : Hp × Int} (hm : M_X9_granted h l0 = some r) : hT h l0 = 19 := (tk_inv hm).1
set_option maxRecDepth 100000 in
set_option maxHeartbeats 4000000 in
theorem ct_X9_granted (l : Launch) (g : zGeo) (h0 : Hp) (l0 : Int) (r : Hp × Int) (hm : M_X9_granted h0 l0 = some r) : zM l yX9_granted cX9_granted 1 (some .boolean) 0 0 0 0 g h0 [qR g l0] r.1 (some (qI r.2)) := by
  refine z_meth (by decide) (Nat.le_of_ble_eq_true rfl) ?_
  intro p e s m args below meth c H ls C hr hlocks hnm Hh hl
  have C : zC p m c cX9_granted 1 s args RX9 g := C
  have hnm : meth.name = "granted" := hnm
  have hx := C.1.1
  have hb := C.1.2.1
  have hl : lv_has ls 1 [(0, qR g l0)] := hl
  unfold M_X9_granted at hm
  replace hm := (tk_inv hm).2
  generalize h0 = h at Hh hm
  refine lv_aload_n hx hb dX9_granted_0 rfl (lv_at hl 0 rfl) ?_
  refine z_iconst C dX9_granted_1 ?_
  refine z_putI C hnm pl_9_85 Hh dX9_granted_2 rfl hm (fun h H locs Hh hm => ?_)
  refine z_iconst C dX9_granted_5 ?_
  exact z_zretC C hr hlocks Hh dX9_granted_6 (by decide) hm
theorem tg_X9_draw {h : Hp} {l0 l1 l2 l3 : Int} {r : Hp × Int} (hm : M_X9_draw h l0 l1 l2 l3 = some r) : hT h l0 = 19 := (tk_inv hm).1
set_option maxRecDepth 100000 in
set_option maxHeartbeats 4000000 in
theorem ct_X9_draw (l : Launch) (g : zGeo) (h0 : Hp) (l0 l1 l2 l3 : Int) (r : Hp × Int) (hm : M_X9_draw h0 l0 l1 l2 l3 = some r) : zM l yX9_draw cX9_draw 5 (some .boolean) 3 102 0 0 g h0 [qR g l0, qI l1, qI l2, qI l3] r.1 (some (qI r.2)) := by
  refine z_meth (by decide) (Nat.le_of_ble_eq_true rfl) ?_
  intro p e s m args below meth c H ls C hr hlocks hnm Hh hl
  have C : zC p m c cX9_draw 5 s args RX9 g := C
  have hnm : meth.name = "draw" := hnm
  have hx := C.1.1
  have hb := C.1.2.1
  have hl : lv_has ls 5 [(0, qR g l0), (1, qI l1), (2, qI l2), (3, qI l3)] := hl
  unfold M_X9_draw at hm
  replace hm := (tk_inv hm).2
  generalize h0 = h at Hh hm
  refine lv_aload_n hx hb dX9_draw_0 rfl (lv_at hl 0 rfl) ?_
  refine lv_iload_n hx hb dX9_draw_1 rfl (lv_at hl 1 rfl) ?_
  refine z_cVIr (vs := [qI l1]) C (fun q hq => ct_X9_isTown l g h l0 l1 q hq) tw_784 my_X9_isTown (fun q hq => tg_X9_isTown hq) rfl hl.1 Hh ⟨Nat.le_of_ble_eq_true rfl, Nat.le_of_ble_eq_true rfl, Nat.le_of_ble_eq_true rfl, Nat.le_of_ble_eq_true rfl⟩ (Nat.le_of_ble_eq_true rfl) dX9_draw_2 rfl hm (fun x1 H locs Hh hm => ?_)
  refine z_if_eq (tgt := 24) C dX9_draw_5 (by decide) rfl hm (fun _ hm => ?_) (fun _ hm => ?_)
  · refine lv_aload_n hx hb dX9_draw_24 rfl (lv_at hl 0 rfl) ?_
    refine z_iconst C dX9_draw_25 ?_
    refine z_cVI (vs := [qI 1]) C (fun q hq => ct_X9_denied l g h l0 1 q hq) tw_1182 my_X9_denied (fun q hq => tg_X9_denied hq) rfl hl.1 Hh ⟨Nat.le_of_ble_eq_true rfl, Nat.le_of_ble_eq_true rfl, Nat.le_of_ble_eq_true rfl, Nat.le_of_ble_eq_true rfl⟩ (Nat.le_of_ble_eq_true rfl) dX9_draw_26 rfl hm (fun h x2 H locs Hh hm => ?_)
    obtain ⟨hz, hm⟩ := zb1_inv hm
    exact z_zretC C hr hlocks Hh dX9_draw_29 hz hm
  · refine lv_aload_n hx hb dX9_draw_8 rfl (lv_at hl 0 rfl) ?_
    refine lv_iload_n hx hb dX9_draw_9 rfl (lv_at hl 2 rfl) ?_
    refine z_cVIr (vs := [qI l2]) C (fun q hq => ct_X9_isPlace l g h l0 l2 q hq) tw_796 my_X9_isPlace (fun q hq => tg_X9_isPlace hq) rfl hl.1 Hh ⟨Nat.le_of_ble_eq_true rfl, Nat.le_of_ble_eq_true rfl, Nat.le_of_ble_eq_true rfl, Nat.le_of_ble_eq_true rfl⟩ (Nat.le_of_ble_eq_true rfl) dX9_draw_10 rfl hm (fun x4 H locs Hh hm => ?_)
    refine z_if_eq (tgt := 24) C dX9_draw_13 (by decide) rfl hm (fun _ hm => ?_) (fun _ hm => ?_)
    · refine lv_aload_n hx hb dX9_draw_24 rfl (lv_at hl 0 rfl) ?_
      refine z_iconst C dX9_draw_25 ?_
      refine z_cVI (vs := [qI 1]) C (fun q hq => ct_X9_denied l g h l0 1 q hq) tw_1182 my_X9_denied (fun q hq => tg_X9_denied hq) rfl hl.1 Hh ⟨Nat.le_of_ble_eq_true rfl, Nat.le_of_ble_eq_true rfl, Nat.le_of_ble_eq_true rfl, Nat.le_of_ble_eq_true rfl⟩ (Nat.le_of_ble_eq_true rfl) dX9_draw_26 rfl hm (fun h x5 H locs Hh hm => ?_)
      obtain ⟨hz, hm⟩ := zb1_inv hm
      exact z_zretC C hr hlocks Hh dX9_draw_29 hz hm
    · refine lv_aload_n hx hb dX9_draw_16 rfl (lv_at hl 0 rfl) ?_
      refine lv_iload_n hx hb dX9_draw_17 rfl (lv_at hl 3 rfl) ?_
      refine z_cVIr (vs := [qI l3]) C (fun q hq => ct_X9_isMark l g h l0 l3 q hq) tw_888 my_X9_isMark (fun q hq => tg_X9_isMark hq) rfl hl.1 Hh ⟨Nat.le_of_ble_eq_true rfl, Nat.le_of_ble_eq_true rfl, Nat.le_of_ble_eq_true rfl, Nat.le_of_ble_eq_true rfl⟩ (Nat.le_of_ble_eq_true rfl) dX9_draw_18 rfl hm (fun x7 H locs Hh hm => ?_)
      refine z_if_ne (tgt := 30) C dX9_draw_21 (by decide) rfl hm (fun _ hm => ?_) (fun _ hm => ?_)
      · refine z_bipush C dX9_draw_30 rfl ?_
        refine lv_iload_n hx hb dX9_draw_32 rfl (lv_at hl 1 rfl) ?_
        refine z_imul C dX9_draw_33 ?_
        refine lv_iload_n hx hb dX9_draw_34 rfl (lv_at hl 2 rfl) ?_
        refine z_cSIr (vs := [qI l2]) C (fun q hq => ct_X9_inner l g h l2 q hq) tw_800 my_X9_inner rfl hl.1 Hh ⟨Nat.le_of_ble_eq_true rfl, Nat.le_of_ble_eq_true rfl, Nat.le_of_ble_eq_true rfl, Nat.le_of_ble_eq_true rfl⟩ (Nat.le_of_ble_eq_true rfl) dX9_draw_35 rfl hm (fun x8 H locs Hh hm => ?_)
        refine z_iadd C dX9_draw_38 ?_
        refine lv_istore (lv' := [(4, qI ((36 * l1) + x8)), (0, qR g l0), (1, qI l1), (2, qI l2), (3, qI l3)]) hx hb dX9_draw_39 hl (by decide) rfl (fun ls hl => ?_)
        refine lv_aload_n hx hb dX9_draw_41 rfl (lv_at hl 1 rfl) ?_
        refine z_getR C fl_9_30 Hh dX9_draw_42 rfl hm (fun x9 hm => ?_)
        refine z_getR C fl_9_149 Hh dX9_draw_45 rfl hm (fun x10 hm => ?_)
        refine lv_iload hx hb dX9_draw_48 (lv_at hl 0 rfl) ?_
        refine z_iald C Hh dX9_draw_50 hm (fun x11 hm => ?_)
        refine lv_iload_n hx hb dX9_draw_51 rfl (lv_at hl 4 rfl) ?_
        refine z_icmp_ne (tgt := 61) C dX9_draw_52 (by decide) rfl rfl hm (fun _ hm => ?_) (fun _ hm => ?_)
        · refine lv_aload_n hx hb dX9_draw_61 rfl (lv_at hl 1 rfl) ?_
          refine z_getR C fl_9_43 Hh dX9_draw_62 rfl hm (fun x12 hm => ?_)
          refine lv_aload_n hx hb dX9_draw_65 rfl (lv_at hl 1 rfl) ?_
          refine z_getR C fl_9_30 Hh dX9_draw_66 rfl hm (fun x13 hm => ?_)
          refine z_cVv (vs := [qR g x13]) C (fun q hq => ct_X3_remember l g h x12 x13 q hq) tw_1169 my_X3_remember (fun q hq => tg_X3_remember hq) rfl hl.1 Hh ⟨Nat.le_of_ble_eq_true rfl, Nat.le_of_ble_eq_true rfl, Nat.le_of_ble_eq_true rfl, Nat.le_of_ble_eq_true rfl⟩ (Nat.le_of_ble_eq_true rfl) dX9_draw_69 rfl hm (fun h H locs Hh hm => ?_)
          refine lv_aload_n hx hb dX9_draw_72 rfl (lv_at hl 1 rfl) ?_
          refine z_getR C fl_9_30 Hh dX9_draw_73 rfl hm (fun x14 hm => ?_)
          refine z_getR C fl_9_149 Hh dX9_draw_76 rfl hm (fun x15 hm => ?_)
          refine lv_iload hx hb dX9_draw_79 (lv_at hl 0 rfl) ?_
          refine lv_iload_n hx hb dX9_draw_81 rfl (lv_at hl 4 rfl) ?_
          refine z_iast C Hh dX9_draw_82 hm (fun h H locs Hh hm => ?_)
          refine lv_aload_n hx hb dX9_draw_83 rfl (lv_at hl 1 rfl) ?_
          refine z_cVI (vs := []) C (fun q hq => ct_X9_granted l g h l0 q hq) tw_1186 my_X9_granted (fun q hq => tg_X9_granted hq) rfl hl.1 Hh ⟨Nat.le_of_ble_eq_true rfl, Nat.le_of_ble_eq_true rfl, Nat.le_of_ble_eq_true rfl, Nat.le_of_ble_eq_true rfl⟩ (Nat.le_of_ble_eq_true rfl) dX9_draw_84 rfl hm (fun h x16 H locs Hh hm => ?_)
          obtain ⟨hz, hm⟩ := zb1_inv hm
          exact z_zretC C hr hlocks Hh dX9_draw_87 hz hm
        · refine lv_aload_n hx hb dX9_draw_55 rfl (lv_at hl 1 rfl) ?_
          refine z_iconst C dX9_draw_56 ?_
          refine z_cVI (vs := [qI 5]) C (fun q hq => ct_X9_denied l g h l0 5 q hq) tw_1182 my_X9_denied (fun q hq => tg_X9_denied hq) rfl hl.1 Hh ⟨Nat.le_of_ble_eq_true rfl, Nat.le_of_ble_eq_true rfl, Nat.le_of_ble_eq_true rfl, Nat.le_of_ble_eq_true rfl⟩ (Nat.le_of_ble_eq_true rfl) dX9_draw_57 rfl hm (fun h x18 H locs Hh hm => ?_)
          obtain ⟨hz, hm⟩ := zb1_inv hm
          exact z_zretC C hr hlocks Hh dX9_draw_60 hz hm
      · refine lv_aload_n hx hb dX9_draw_24 rfl (lv_at hl 0 rfl) ?_
        refine z_iconst C dX9_draw_25 ?_
        refine z_cVI (vs := [qI 1]) C (fun q hq => ct_X9_denied l g h l0 1 q hq) tw_1182 my_X9_denied (fun q hq => tg_X9_denied hq) rfl hl.1 Hh ⟨Nat.le_of_ble_eq_true rfl, Nat.le_of_ble_eq_true rfl, Nat.le_of_ble_eq_true rfl, Nat.le_of_ble_eq_true rfl⟩ (Nat.le_of_ble_eq_true rfl) dX9_draw_26 rfl hm (fun h x20 H locs Hh hm => ?_)
        obtain ⟨hz, hm⟩ := zb1_inv hm
        exact z_zretC C hr hlocks Hh dX9_draw_29 hz hm
theorem tg_X9_mend {h : Hp} {l0 l1 : Int} {r : Hp × Int} (hm : M_X9_mend h l0 l1 = some r) : hT h l0 = 19 := (tk_inv hm).1
set_option maxRecDepth 100000 in
set_option maxHeartbeats 4000000 in
theorem ct_X9_mend (l : Launch) (g : zGeo) (h0 : Hp) (l0 l1 : Int) (r : Hp × Int) (hm : M_X9_mend h0 l0 l1 = some r) : zM l yX9_mend cX9_mend 2 (some .boolean) 3 102 0 0 g h0 [qR g l0, qI l1] r.1 (some (qI r.2)) := by
  refine z_meth (by decide) (Nat.le_of_ble_eq_true rfl) ?_
  intro p e s m args below meth c H ls C hr hlocks hnm Hh hl
  have C : zC p m c cX9_mend 2 s args RX9 g := C
  have hnm : meth.name = "mend" := hnm
  have hx := C.1.1
  have hb := C.1.2.1
  have hl : lv_has ls 2 [(0, qR g l0), (1, qI l1)] := hl
  unfold M_X9_mend at hm
  replace hm := (tk_inv hm).2
  generalize h0 = h at Hh hm
  refine lv_aload_n hx hb dX9_mend_0 rfl (lv_at hl 0 rfl) ?_
  refine lv_iload_n hx hb dX9_mend_1 rfl (lv_at hl 1 rfl) ?_
  refine z_cVIr (vs := [qI l1]) C (fun q hq => ct_X9_isTown l g h l0 l1 q hq) tw_784 my_X9_isTown (fun q hq => tg_X9_isTown hq) rfl hl.1 Hh ⟨Nat.le_of_ble_eq_true rfl, Nat.le_of_ble_eq_true rfl, Nat.le_of_ble_eq_true rfl, Nat.le_of_ble_eq_true rfl⟩ (Nat.le_of_ble_eq_true rfl) dX9_mend_2 rfl hm (fun x1 H locs Hh hm => ?_)
  refine z_if_ne (tgt := 14) C dX9_mend_5 (by decide) rfl hm (fun _ hm => ?_) (fun _ hm => ?_)
  · refine lv_aload_n hx hb dX9_mend_14 rfl (lv_at hl 0 rfl) ?_
    refine z_getR C fl_9_30 Hh dX9_mend_15 rfl hm (fun x2 hm => ?_)
    refine z_getR C fl_9_143 Hh dX9_mend_18 rfl hm (fun x3 hm => ?_)
    refine z_iconst C dX9_mend_21 ?_
    refine lv_iload_n hx hb dX9_mend_22 rfl (lv_at hl 1 rfl) ?_
    refine z_imul C dX9_mend_23 ?_
    refine z_iald C Hh dX9_mend_24 hm (fun x4 hm => ?_)
    refine z_if_ne (tgt := 34) C dX9_mend_25 (by decide) rfl hm (fun _ hm => ?_) (fun _ hm => ?_)
    · refine lv_aload_n hx hb dX9_mend_34 rfl (lv_at hl 0 rfl) ?_
      refine z_getR C fl_9_43 Hh dX9_mend_35 rfl hm (fun x5 hm => ?_)
      refine lv_aload_n hx hb dX9_mend_38 rfl (lv_at hl 0 rfl) ?_
      refine z_getR C fl_9_30 Hh dX9_mend_39 rfl hm (fun x6 hm => ?_)
      refine z_cVv (vs := [qR g x6]) C (fun q hq => ct_X3_remember l g h x5 x6 q hq) tw_1169 my_X3_remember (fun q hq => tg_X3_remember hq) rfl hl.1 Hh ⟨Nat.le_of_ble_eq_true rfl, Nat.le_of_ble_eq_true rfl, Nat.le_of_ble_eq_true rfl, Nat.le_of_ble_eq_true rfl⟩ (Nat.le_of_ble_eq_true rfl) dX9_mend_42 rfl hm (fun h H locs Hh hm => ?_)
      refine lv_aload_n hx hb dX9_mend_45 rfl (lv_at hl 0 rfl) ?_
      refine z_getR C fl_9_30 Hh dX9_mend_46 rfl hm (fun x7 hm => ?_)
      refine lv_iload_n hx hb dX9_mend_49 rfl (lv_at hl 1 rfl) ?_
      refine z_cVv (vs := [qI l1]) C (fun q hq => ct_X8_makeTrue l g h x7 l1 q hq) tw_999 my_X8_makeTrue (fun q hq => tg_X8_makeTrue hq) rfl hl.1 Hh ⟨Nat.le_of_ble_eq_true rfl, Nat.le_of_ble_eq_true rfl, Nat.le_of_ble_eq_true rfl, Nat.le_of_ble_eq_true rfl⟩ (Nat.le_of_ble_eq_true rfl) dX9_mend_50 rfl hm (fun h H locs Hh hm => ?_)
      refine lv_aload_n hx hb dX9_mend_53 rfl (lv_at hl 0 rfl) ?_
      refine z_cVI (vs := []) C (fun q hq => ct_X9_granted l g h l0 q hq) tw_1186 my_X9_granted (fun q hq => tg_X9_granted hq) rfl hl.1 Hh ⟨Nat.le_of_ble_eq_true rfl, Nat.le_of_ble_eq_true rfl, Nat.le_of_ble_eq_true rfl, Nat.le_of_ble_eq_true rfl⟩ (Nat.le_of_ble_eq_true rfl) dX9_mend_54 rfl hm (fun h x8 H locs Hh hm => ?_)
      obtain ⟨hz, hm⟩ := zb1_inv hm
      exact z_zretC C hr hlocks Hh dX9_mend_57 hz hm
    · refine lv_aload_n hx hb dX9_mend_28 rfl (lv_at hl 0 rfl) ?_
      refine z_iconst C dX9_mend_29 ?_
      refine z_cVI (vs := [qI 5]) C (fun q hq => ct_X9_denied l g h l0 5 q hq) tw_1182 my_X9_denied (fun q hq => tg_X9_denied hq) rfl hl.1 Hh ⟨Nat.le_of_ble_eq_true rfl, Nat.le_of_ble_eq_true rfl, Nat.le_of_ble_eq_true rfl, Nat.le_of_ble_eq_true rfl⟩ (Nat.le_of_ble_eq_true rfl) dX9_mend_30 rfl hm (fun h x10 H locs Hh hm => ?_)
      obtain ⟨hz, hm⟩ := zb1_inv hm
      exact z_zretC C hr hlocks Hh dX9_mend_33 hz hm
  · refine lv_aload_n hx hb dX9_mend_8 rfl (lv_at hl 0 rfl) ?_
    refine z_iconst C dX9_mend_9 ?_
    refine z_cVI (vs := [qI 1]) C (fun q hq => ct_X9_denied l g h l0 1 q hq) tw_1182 my_X9_denied (fun q hq => tg_X9_denied hq) rfl hl.1 Hh ⟨Nat.le_of_ble_eq_true rfl, Nat.le_of_ble_eq_true rfl, Nat.le_of_ble_eq_true rfl, Nat.le_of_ble_eq_true rfl⟩ (Nat.le_of_ble_eq_true rfl) dX9_mend_10 rfl hm (fun h x12 H locs Hh hm => ?_)
    obtain ⟨hz, hm⟩ := zb1_inv hm
    exact z_zretC C hr hlocks Hh dX9_mend_13 hz hm
theorem tg_X9_copy {h : Hp} {l0 l1 l2 : Int} {r : Hp × Int} (hm : M_X9_copy h l0 l1 l2 = some r) : hT h l0 = 19 := (tk_inv hm).1
set_option maxRecDepth 100000 in
set_option maxHeartbeats 4000000 in
theorem ct_X9_copy (l : Launch) (g : zGeo) (h0 : Hp) (l0 l1 l2 : Int) (r : Hp × Int) (hm : M_X9_copy h0 l0 l1 l2 = some r) : zM l yX9_copy cX9_copy 3 (some .boolean) 3 102 0 0 g h0 [qR g l0, qI l1, qI l2] r.1 (some (qI r.2)) := by
  refine z_meth (by decide) (Nat.le_of_ble_eq_true rfl) ?_
  intro p e s m args below meth c H ls C hr hlocks hnm Hh hl
  have C : zC p m c cX9_copy 3 s args RX9 g := C
  have hnm : meth.name = "copy" := hnm
  have hx := C.1.1
  have hb := C.1.2.1
  have hl : lv_has ls 3 [(0, qR g l0), (1, qI l1), (2, qI l2)] := hl
  unfold M_X9_copy at hm
  replace hm := (tk_inv hm).2
  generalize h0 = h at Hh hm
  refine lv_aload_n hx hb dX9_copy_0 rfl (lv_at hl 0 rfl) ?_
  refine lv_iload_n hx hb dX9_copy_1 rfl (lv_at hl 1 rfl) ?_
  refine z_cVIr (vs := [qI l1]) C (fun q hq => ct_X9_isTown l g h l0 l1 q hq) tw_784 my_X9_isTown (fun q hq => tg_X9_isTown hq) rfl hl.1 Hh ⟨Nat.le_of_ble_eq_true rfl, Nat.le_of_ble_eq_true rfl, Nat.le_of_ble_eq_true rfl, Nat.le_of_ble_eq_true rfl⟩ (Nat.le_of_ble_eq_true rfl) dX9_copy_2 rfl hm (fun x1 H locs Hh hm => ?_)
  refine z_if_eq (tgt := 16) C dX9_copy_5 (by decide) rfl hm (fun _ hm => ?_) (fun _ hm => ?_)
  · refine lv_aload_n hx hb dX9_copy_16 rfl (lv_at hl 0 rfl) ?_
    refine z_iconst C dX9_copy_17 ?_
    refine z_cVI (vs := [qI 1]) C (fun q hq => ct_X9_denied l g h l0 1 q hq) tw_1182 my_X9_denied (fun q hq => tg_X9_denied hq) rfl hl.1 Hh ⟨Nat.le_of_ble_eq_true rfl, Nat.le_of_ble_eq_true rfl, Nat.le_of_ble_eq_true rfl, Nat.le_of_ble_eq_true rfl⟩ (Nat.le_of_ble_eq_true rfl) dX9_copy_18 rfl hm (fun h x2 H locs Hh hm => ?_)
    obtain ⟨hz, hm⟩ := zb1_inv hm
    exact z_zretC C hr hlocks Hh dX9_copy_21 hz hm
  · refine lv_aload_n hx hb dX9_copy_8 rfl (lv_at hl 0 rfl) ?_
    refine lv_iload_n hx hb dX9_copy_9 rfl (lv_at hl 2 rfl) ?_
    refine z_cVIr (vs := [qI l2]) C (fun q hq => ct_X9_isTown l g h l0 l2 q hq) tw_784 my_X9_isTown (fun q hq => tg_X9_isTown hq) rfl hl.1 Hh ⟨Nat.le_of_ble_eq_true rfl, Nat.le_of_ble_eq_true rfl, Nat.le_of_ble_eq_true rfl, Nat.le_of_ble_eq_true rfl⟩ (Nat.le_of_ble_eq_true rfl) dX9_copy_10 rfl hm (fun x4 H locs Hh hm => ?_)
    refine z_if_ne (tgt := 22) C dX9_copy_13 (by decide) rfl hm (fun _ hm => ?_) (fun _ hm => ?_)
    · refine lv_aload_n hx hb dX9_copy_22 rfl (lv_at hl 0 rfl) ?_
      refine z_getR C fl_9_30 Hh dX9_copy_23 rfl hm (fun x5 hm => ?_)
      refine z_getR C fl_9_140 Hh dX9_copy_26 rfl hm (fun x6 hm => ?_)
      refine lv_iload_n hx hb dX9_copy_29 rfl (lv_at hl 1 rfl) ?_
      refine z_iald C Hh dX9_copy_30 hm (fun x7 hm => ?_)
      refine lv_iload_n hx hb dX9_copy_31 rfl (lv_at hl 2 rfl) ?_
      refine z_icmp_ne (tgt := 41) C dX9_copy_32 (by decide) rfl rfl hm (fun _ hm => ?_) (fun _ hm => ?_)
      · refine lv_aload_n hx hb dX9_copy_41 rfl (lv_at hl 0 rfl) ?_
        refine z_getR C fl_9_43 Hh dX9_copy_42 rfl hm (fun x8 hm => ?_)
        refine lv_aload_n hx hb dX9_copy_45 rfl (lv_at hl 0 rfl) ?_
        refine z_getR C fl_9_30 Hh dX9_copy_46 rfl hm (fun x9 hm => ?_)
        refine z_cVv (vs := [qR g x9]) C (fun q hq => ct_X3_remember l g h x8 x9 q hq) tw_1169 my_X3_remember (fun q hq => tg_X3_remember hq) rfl hl.1 Hh ⟨Nat.le_of_ble_eq_true rfl, Nat.le_of_ble_eq_true rfl, Nat.le_of_ble_eq_true rfl, Nat.le_of_ble_eq_true rfl⟩ (Nat.le_of_ble_eq_true rfl) dX9_copy_49 rfl hm (fun h H locs Hh hm => ?_)
        refine lv_aload_n hx hb dX9_copy_52 rfl (lv_at hl 0 rfl) ?_
        refine z_getR C fl_9_30 Hh dX9_copy_53 rfl hm (fun x10 hm => ?_)
        refine z_getR C fl_9_140 Hh dX9_copy_56 rfl hm (fun x11 hm => ?_)
        refine lv_iload_n hx hb dX9_copy_59 rfl (lv_at hl 1 rfl) ?_
        refine lv_iload_n hx hb dX9_copy_60 rfl (lv_at hl 2 rfl) ?_
        refine z_iast C Hh dX9_copy_61 hm (fun h H locs Hh hm => ?_)
        refine lv_aload_n hx hb dX9_copy_62 rfl (lv_at hl 0 rfl) ?_
        refine z_cVI (vs := []) C (fun q hq => ct_X9_granted l g h l0 q hq) tw_1186 my_X9_granted (fun q hq => tg_X9_granted hq) rfl hl.1 Hh ⟨Nat.le_of_ble_eq_true rfl, Nat.le_of_ble_eq_true rfl, Nat.le_of_ble_eq_true rfl, Nat.le_of_ble_eq_true rfl⟩ (Nat.le_of_ble_eq_true rfl) dX9_copy_63 rfl hm (fun h x12 H locs Hh hm => ?_)
        obtain ⟨hz, hm⟩ := zb1_inv hm
        exact z_zretC C hr hlocks Hh dX9_copy_66 hz hm
      · refine lv_aload_n hx hb dX9_copy_35 rfl (lv_at hl 0 rfl) ?_
        refine z_iconst C dX9_copy_36 ?_
        refine z_cVI (vs := [qI 5]) C (fun q hq => ct_X9_denied l g h l0 5 q hq) tw_1182 my_X9_denied (fun q hq => tg_X9_denied hq) rfl hl.1 Hh ⟨Nat.le_of_ble_eq_true rfl, Nat.le_of_ble_eq_true rfl, Nat.le_of_ble_eq_true rfl, Nat.le_of_ble_eq_true rfl⟩ (Nat.le_of_ble_eq_true rfl) dX9_copy_37 rfl hm (fun h x14 H locs Hh hm => ?_)
        obtain ⟨hz, hm⟩ := zb1_inv hm
        exact z_zretC C hr hlocks Hh dX9_copy_40 hz hm
    · refine lv_aload_n hx hb dX9_copy_16 rfl (lv_at hl 0 rfl) ?_
      refine z_iconst C dX9_copy_17 ?_
      refine z_cVI (vs := [qI 1]) C (fun q hq => ct_X9_denied l g h l0 1 q hq) tw_1182 my_X9_denied (fun q hq => tg_X9_denied hq) rfl hl.1 Hh ⟨Nat.le_of_ble_eq_true rfl, Nat.le_of_ble_eq_true rfl, Nat.le_of_ble_eq_true rfl, Nat.le_of_ble_eq_true rfl⟩ (Nat.le_of_ble_eq_true rfl) dX9_copy_18 rfl hm (fun h x16 H locs Hh hm => ?_)
      obtain ⟨hz, hm⟩ := zb1_inv hm
      exact z_zretC C hr hlocks Hh dX9_copy_21 hz hm
theorem tg_X9_seed {h : Hp} {l0 l1 : Int} {r : Hp × Int} (hm : M_X9_seed h l0 l1 = some r) : hT h l0 = 19 := (tk_inv hm).1
set_option maxRecDepth 100000 in
set_option maxHeartbeats 4000000 in
theorem ct_X9_seed (l : Launch) (g : zGeo) (h0 : Hp) (l0 l1 : Int) (r : Hp × Int) (hm : M_X9_seed h0 l0 l1 = some r) : zM l yX9_seed cX9_seed 2 (some .boolean) 1 21 0 0 g h0 [qR g l0, qI l1] r.1 (some (qI r.2)) := by
  refine z_meth (by decide) (Nat.le_of_ble_eq_true rfl) ?_
  intro p e s m args below meth c H ls C hr hlocks hnm Hh hl
  have C : zC p m c cX9_seed 2 s args RX9 g := C
  have hnm : meth.name = "seed" := hnm
  have hx := C.1.1
  have hb := C.1.2.1
  have hl : lv_has ls 2 [(0, qR g l0), (1, qI l1)] := hl
  unfold M_X9_seed at hm
  replace hm := (tk_inv hm).2
  generalize h0 = h at Hh hm
  refine lv_aload_n hx hb dX9_seed_0 rfl (lv_at hl 0 rfl) ?_
  refine z_getR C fl_9_30 Hh dX9_seed_1 rfl hm (fun x1 hm => ?_)
  refine z_getI C fl_9_130 Hh dX9_seed_4 rfl hm (fun x2 hm => ?_)
  refine z_if_ne (tgt := 16) C dX9_seed_7 (by decide) rfl hm (fun _ hm => ?_) (fun _ hm => ?_)
  · refine lv_iload_n hx hb dX9_seed_16 rfl (lv_at hl 1 rfl) ?_
    refine z_if_lt (tgt := 27) C dX9_seed_17 (by decide) rfl hm (fun _ hm => ?_) (fun _ hm => ?_)
    · refine lv_aload_n hx hb dX9_seed_27 rfl (lv_at hl 0 rfl) ?_
      refine z_iconst C dX9_seed_28 ?_
      refine z_cVI (vs := [qI 2]) C (fun q hq => ct_X9_denied l g h l0 2 q hq) tw_1182 my_X9_denied (fun q hq => tg_X9_denied hq) rfl hl.1 Hh ⟨Nat.le_of_ble_eq_true rfl, Nat.le_of_ble_eq_true rfl, Nat.le_of_ble_eq_true rfl, Nat.le_of_ble_eq_true rfl⟩ (Nat.le_of_ble_eq_true rfl) dX9_seed_29 rfl hm (fun h x3 H locs Hh hm => ?_)
      obtain ⟨hz, hm⟩ := zb1_inv hm
      exact z_zretC C hr hlocks Hh dX9_seed_32 hz hm
    · refine lv_iload_n hx hb dX9_seed_20 rfl (lv_at hl 1 rfl) ?_
      refine z_ldcw (v := 65537) C dX9_seed_21 tw_1202 rfl ?_
      refine z_icmp_lt (tgt := 33) C dX9_seed_24 (by decide) rfl lq_p65537 hm (fun _ hm => ?_) (fun _ hm => ?_)
      · refine lv_aload_n hx hb dX9_seed_33 rfl (lv_at hl 0 rfl) ?_
        refine z_getR C fl_9_30 Hh dX9_seed_34 rfl hm (fun x5 hm => ?_)
        refine lv_iload_n hx hb dX9_seed_37 rfl (lv_at hl 1 rfl) ?_
        refine z_putI C hnm pl_9_299 Hh dX9_seed_38 rfl hm (fun h H locs Hh hm => ?_)
        refine lv_aload_n hx hb dX9_seed_41 rfl (lv_at hl 0 rfl) ?_
        refine z_cVI (vs := []) C (fun q hq => ct_X9_granted l g h l0 q hq) tw_1186 my_X9_granted (fun q hq => tg_X9_granted hq) rfl hl.1 Hh ⟨Nat.le_of_ble_eq_true rfl, Nat.le_of_ble_eq_true rfl, Nat.le_of_ble_eq_true rfl, Nat.le_of_ble_eq_true rfl⟩ (Nat.le_of_ble_eq_true rfl) dX9_seed_42 rfl hm (fun h x6 H locs Hh hm => ?_)
        obtain ⟨hz, hm⟩ := zb1_inv hm
        exact z_zretC C hr hlocks Hh dX9_seed_45 hz hm
      · refine lv_aload_n hx hb dX9_seed_27 rfl (lv_at hl 0 rfl) ?_
        refine z_iconst C dX9_seed_28 ?_
        refine z_cVI (vs := [qI 2]) C (fun q hq => ct_X9_denied l g h l0 2 q hq) tw_1182 my_X9_denied (fun q hq => tg_X9_denied hq) rfl hl.1 Hh ⟨Nat.le_of_ble_eq_true rfl, Nat.le_of_ble_eq_true rfl, Nat.le_of_ble_eq_true rfl, Nat.le_of_ble_eq_true rfl⟩ (Nat.le_of_ble_eq_true rfl) dX9_seed_29 rfl hm (fun h x8 H locs Hh hm => ?_)
        obtain ⟨hz, hm⟩ := zb1_inv hm
        exact z_zretC C hr hlocks Hh dX9_seed_32 hz hm
  · refine lv_aload_n hx hb dX9_seed_10 rfl (lv_at hl 0 rfl) ?_
    refine z_iconst C dX9_seed_11 ?_
    refine z_cVI (vs := [qI 1]) C (fun q hq => ct_X9_denied l g h l0 1 q hq) tw_1182 my_X9_denied (fun q hq => tg_X9_denied hq) rfl hl.1 Hh ⟨Nat.le_of_ble_eq_true rfl, Nat.le_of_ble_eq_true rfl, Nat.le_of_ble_eq_true rfl, Nat.le_of_ble_eq_true rfl⟩ (Nat.le_of_ble_eq_true rfl) dX9_seed_12 rfl hm (fun h x10 H locs Hh hm => ?_)
    obtain ⟨hz, hm⟩ := zb1_inv hm
    exact z_zretC C hr hlocks Hh dX9_seed_15 hz hm
theorem tg_X9_undo {h : Hp} {l0 : Int} {r : Hp × Int} (hm : M_X9_undo h l0 = some r) : hT h l0 = 19 := (tk_inv hm).1
set_option maxRecDepth 100000 in
set_option maxHeartbeats 4000000 in
theorem ct_X9_undo (l : Launch) (g : zGeo) (h0 : Hp) (l0 : Int) (r : Hp × Int) (hm : M_X9_undo h0 l0 = some r) : zM l yX9_undo cX9_undo 1 (some .boolean) 3 102 0 0 g h0 [qR g l0] r.1 (some (qI r.2)) := by
  refine z_meth (by decide) (Nat.le_of_ble_eq_true rfl) ?_
  intro p e s m args below meth c H ls C hr hlocks hnm Hh hl
  have C : zC p m c cX9_undo 1 s args RX9 g := C
  have hnm : meth.name = "undo" := hnm
  have hx := C.1.1
  have hb := C.1.2.1
  have hl : lv_has ls 1 [(0, qR g l0)] := hl
  unfold M_X9_undo at hm
  replace hm := (tk_inv hm).2
  generalize h0 = h at Hh hm
  refine lv_aload_n hx hb dX9_undo_0 rfl (lv_at hl 0 rfl) ?_
  refine z_getR C fl_9_43 Hh dX9_undo_1 rfl hm (fun x1 hm => ?_)
  refine z_getI C fl_9_302 Hh dX9_undo_4 rfl hm (fun x2 hm => ?_)
  refine z_if_ne (tgt := 17) C dX9_undo_7 (by decide) rfl hm (fun _ hm => ?_) (fun _ hm => ?_)
  · refine lv_aload_n hx hb dX9_undo_17 rfl (lv_at hl 0 rfl) ?_
    refine z_getR C fl_9_43 Hh dX9_undo_18 rfl hm (fun x3 hm => ?_)
    refine lv_aload_n hx hb dX9_undo_21 rfl (lv_at hl 0 rfl) ?_
    refine z_getR C fl_9_30 Hh dX9_undo_22 rfl hm (fun x4 hm => ?_)
    refine z_cVv (vs := [qR g x4]) C (fun q hq => ct_X3_recall l g h x3 x4 q hq) tw_1207 my_X3_recall (fun q hq => tg_X3_recall hq) rfl hl.1 Hh ⟨Nat.le_of_ble_eq_true rfl, Nat.le_of_ble_eq_true rfl, Nat.le_of_ble_eq_true rfl, Nat.le_of_ble_eq_true rfl⟩ (Nat.le_of_ble_eq_true rfl) dX9_undo_25 rfl hm (fun h H locs Hh hm => ?_)
    refine lv_aload_n hx hb dX9_undo_28 rfl (lv_at hl 0 rfl) ?_
    refine z_cVI (vs := []) C (fun q hq => ct_X9_granted l g h l0 q hq) tw_1186 my_X9_granted (fun q hq => tg_X9_granted hq) rfl hl.1 Hh ⟨Nat.le_of_ble_eq_true rfl, Nat.le_of_ble_eq_true rfl, Nat.le_of_ble_eq_true rfl, Nat.le_of_ble_eq_true rfl⟩ (Nat.le_of_ble_eq_true rfl) dX9_undo_29 rfl hm (fun h x5 H locs Hh hm => ?_)
    obtain ⟨hz, hm⟩ := zb1_inv hm
    exact z_zretC C hr hlocks Hh dX9_undo_32 hz hm
  · refine lv_aload_n hx hb dX9_undo_10 rfl (lv_at hl 0 rfl) ?_
    refine z_bipush C dX9_undo_11 rfl ?_
    refine z_cVI (vs := [qI 6]) C (fun q hq => ct_X9_denied l g h l0 6 q hq) tw_1182 my_X9_denied (fun q hq => tg_X9_denied hq) rfl hl.1 Hh ⟨Nat.le_of_ble_eq_true rfl, Nat.le_of_ble_eq_true rfl, Nat.le_of_ble_eq_true rfl, Nat.le_of_ble_eq_true rfl⟩ (Nat.le_of_ble_eq_true rfl) dX9_undo_13 rfl hm (fun h x7 H locs Hh hm => ?_)
    obtain ⟨hz, hm⟩ := zb1_inv hm
    exact z_zretC C hr hlocks Hh dX9_undo_16 hz hm
theorem tg_X9_keep {h : Hp} {l0 : Int} {r : Hp × Int} (hm : M_X9_keep h l0 = some r) : hT h l0 = 19 := (tk_inv hm).1
set_option maxRecDepth 100000 in
set_option maxHeartbeats 4000000 in
theorem ct_X9_keep (l : Launch) (g : zGeo) (h0 : Hp) (l0 : Int) (r : Hp × Int) (hm : M_X9_keep h0 l0 = some r) : zM l yX9_keep cX9_keep 1 (some .int) 3 102 0 0 g h0 [qR g l0] r.1 (some (qI r.2)) := by
  refine z_meth (by decide) (Nat.le_of_ble_eq_true rfl) ?_
  intro p e s m args below meth c H ls C hr hlocks hnm Hh hl
  have C : zC p m c cX9_keep 1 s args RX9 g := C
  have hnm : meth.name = "keep" := hnm
  have hx := C.1.1
  have hb := C.1.2.1
  have hl : lv_has ls 1 [(0, qR g l0)] := hl
  unfold M_X9_keep at hm
  replace hm := (tk_inv hm).2
  generalize h0 = h at Hh hm
  refine lv_aload_n hx hb dX9_keep_0 rfl (lv_at hl 0 rfl) ?_
  refine z_getR C fl_9_30 Hh dX9_keep_1 rfl hm (fun x1 hm => ?_)
  refine z_getI C fl_9_130 Hh dX9_keep_4 rfl hm (fun x2 hm => ?_)
  refine z_if_ne (tgt := 16) C dX9_keep_7 (by decide) rfl hm (fun _ hm => ?_) (fun _ hm => ?_)
  · refine lv_aload_n hx hb dX9_keep_16 rfl (lv_at hl 0 rfl) ?_
    refine z_getR C fl_9_43 Hh dX9_keep_17 rfl hm (fun x3 hm => ?_)
    refine z_getI C fl_9_308 Hh dX9_keep_20 rfl hm (fun x4 hm => ?_)
    refine z_iconst C dX9_keep_23 ?_
    refine z_icmp_lt (tgt := 33) C dX9_keep_24 (by decide) rfl lq_p3 hm (fun _ hm => ?_) (fun _ hm => ?_)
    · refine lv_aload_n hx hb dX9_keep_33 rfl (lv_at hl 0 rfl) ?_
      refine lv_aload_n hx hb dX9_keep_34 rfl (lv_at hl 0 rfl) ?_
      refine z_getR C fl_9_43 Hh dX9_keep_35 rfl hm (fun x5 hm => ?_)
      refine lv_aload_n hx hb dX9_keep_38 rfl (lv_at hl 0 rfl) ?_
      refine z_getR C fl_9_30 Hh dX9_keep_39 rfl hm (fun x6 hm => ?_)
      refine z_cVI (vs := [qR g x6]) C (fun q hq => ct_X3_hold l g h x5 x6 q hq) tw_1215 my_X3_hold (fun q hq => tg_X3_hold hq) rfl hl.1 Hh ⟨Nat.le_of_ble_eq_true rfl, Nat.le_of_ble_eq_true rfl, Nat.le_of_ble_eq_true rfl, Nat.le_of_ble_eq_true rfl⟩ (Nat.le_of_ble_eq_true rfl) dX9_keep_42 rfl hm (fun h x7 H locs Hh hm => ?_)
      refine z_cVI (vs := [qI x7]) C (fun q hq => ct_X9_answered l g h l0 x7 q hq) tw_767 my_X9_answered (fun q hq => tg_X9_answered hq) rfl hl.1 Hh ⟨Nat.le_of_ble_eq_true rfl, Nat.le_of_ble_eq_true rfl, Nat.le_of_ble_eq_true rfl, Nat.le_of_ble_eq_true rfl⟩ (Nat.le_of_ble_eq_true rfl) dX9_keep_45 rfl hm (fun h x8 H locs Hh hm => ?_)
      exact z_iret C hr hlocks Hh dX9_keep_48 hm
    · refine lv_aload_n hx hb dX9_keep_27 rfl (lv_at hl 0 rfl) ?_
      refine z_iconst C dX9_keep_28 ?_
      refine z_cVI (vs := [qI 3]) C (fun q hq => ct_X9_refused l g h l0 3 q hq) tw_507 my_X9_refused (fun q hq => tg_X9_refused hq) rfl hl.1 Hh ⟨Nat.le_of_ble_eq_true rfl, Nat.le_of_ble_eq_true rfl, Nat.le_of_ble_eq_true rfl, Nat.le_of_ble_eq_true rfl⟩ (Nat.le_of_ble_eq_true rfl) dX9_keep_29 rfl hm (fun h x9 H locs Hh hm => ?_)
      exact z_iret C hr hlocks Hh dX9_keep_32 hm
  · refine lv_aload_n hx hb dX9_keep_10 rfl (lv_at hl 0 rfl) ?_
    refine z_iconst C dX9_keep_11 ?_
    refine z_cVI (vs := [qI 1]) C (fun q hq => ct_X9_refused l g h l0 1 q hq) tw_507 my_X9_refused (fun q hq => tg_X9_refused hq) rfl hl.1 Hh ⟨Nat.le_of_ble_eq_true rfl, Nat.le_of_ble_eq_true rfl, Nat.le_of_ble_eq_true rfl, Nat.le_of_ble_eq_true rfl⟩ (Nat.le_of_ble_eq_true rfl) dX9_keep_12 rfl hm (fun h x10 H locs Hh hm => ?_)
    exact z_iret C hr hlocks Hh dX9_keep_15 hm
theorem tg_X9_back {h : Hp} {l0 l1 : Int} {r : Hp × Int} (hm : M_X9_back h l0 l1 = some r) : hT h l0 = 19 := (tk_inv hm).1
set_option maxRecDepth 100000 in
set_option maxHeartbeats 4000000 in
theorem ct_X9_back (l : Launch) (g : zGeo) (h0 : Hp) (l0 l1 : Int) (r : Hp × Int) (hm : M_X9_back h0 l0 l1 = some r) : zM l yX9_back cX9_back 2 (some .boolean) 2 81 0 0 g h0 [qR g l0, qI l1] r.1 (some (qI r.2)) := by
  refine z_meth (by decide) (Nat.le_of_ble_eq_true rfl) ?_
  intro p e s m args below meth c H ls C hr hlocks hnm Hh hl
  have C : zC p m c cX9_back 2 s args RX9 g := C
  have hnm : meth.name = "back" := hnm
  have hx := C.1.1
  have hb := C.1.2.1
  have hl : lv_has ls 2 [(0, qR g l0), (1, qI l1)] := hl
  unfold M_X9_back at hm
  replace hm := (tk_inv hm).2
  generalize h0 = h at Hh hm
  refine lv_iload_n hx hb dX9_back_0 rfl (lv_at hl 1 rfl) ?_
  refine z_if_lt (tgt := 15) C dX9_back_1 (by decide) rfl hm (fun _ hm => ?_) (fun _ hm => ?_)
  · refine lv_aload_n hx hb dX9_back_15 rfl (lv_at hl 0 rfl) ?_
    refine z_iconst C dX9_back_16 ?_
    refine z_cVI (vs := [qI 1]) C (fun q hq => ct_X9_denied l g h l0 1 q hq) tw_1182 my_X9_denied (fun q hq => tg_X9_denied hq) rfl hl.1 Hh ⟨Nat.le_of_ble_eq_true rfl, Nat.le_of_ble_eq_true rfl, Nat.le_of_ble_eq_true rfl, Nat.le_of_ble_eq_true rfl⟩ (Nat.le_of_ble_eq_true rfl) dX9_back_17 rfl hm (fun h x1 H locs Hh hm => ?_)
    obtain ⟨hz, hm⟩ := zb1_inv hm
    exact z_zretC C hr hlocks Hh dX9_back_20 hz hm
  · refine lv_iload_n hx hb dX9_back_4 rfl (lv_at hl 1 rfl) ?_
    refine lv_aload_n hx hb dX9_back_5 rfl (lv_at hl 0 rfl) ?_
    refine z_getR C fl_9_43 Hh dX9_back_6 rfl hm (fun x3 hm => ?_)
    refine z_getI C fl_9_308 Hh dX9_back_9 rfl hm (fun x4 hm => ?_)
    refine z_icmp_lt (tgt := 21) C dX9_back_12 (by decide) rfl rfl hm (fun _ hm => ?_) (fun _ hm => ?_)
    · refine lv_aload_n hx hb dX9_back_21 rfl (lv_at hl 0 rfl) ?_
      refine z_getR C fl_9_30 Hh dX9_back_22 rfl hm (fun x5 hm => ?_)
      refine lv_aload_n hx hb dX9_back_25 rfl (lv_at hl 0 rfl) ?_
      refine z_getR C fl_9_43 Hh dX9_back_26 rfl hm (fun x6 hm => ?_)
      refine z_getR C fl_9_315 Hh dX9_back_29 rfl hm (fun x7 hm => ?_)
      refine lv_iload_n hx hb dX9_back_32 rfl (lv_at hl 1 rfl) ?_
      refine z_aald C Hh dX9_back_33 hm (fun x8 hm => ?_)
      refine z_cVv (vs := [qR g x8]) C (fun q hq => ct_X8_become l g h x5 x8 q hq) tw_756 my_X8_become (fun q hq => tg_X8_become hq) rfl hl.1 Hh ⟨Nat.le_of_ble_eq_true rfl, Nat.le_of_ble_eq_true rfl, Nat.le_of_ble_eq_true rfl, Nat.le_of_ble_eq_true rfl⟩ (Nat.le_of_ble_eq_true rfl) dX9_back_34 rfl hm (fun h H locs Hh hm => ?_)
      refine lv_aload_n hx hb dX9_back_37 rfl (lv_at hl 0 rfl) ?_
      refine z_getR C fl_9_43 Hh dX9_back_38 rfl hm (fun x9 hm => ?_)
      refine z_iconst C dX9_back_41 ?_
      refine z_putI C hnm pl_9_302 Hh dX9_back_42 rfl hm (fun h H locs Hh hm => ?_)
      refine lv_aload_n hx hb dX9_back_45 rfl (lv_at hl 0 rfl) ?_
      refine z_cVI (vs := []) C (fun q hq => ct_X9_granted l g h l0 q hq) tw_1186 my_X9_granted (fun q hq => tg_X9_granted hq) rfl hl.1 Hh ⟨Nat.le_of_ble_eq_true rfl, Nat.le_of_ble_eq_true rfl, Nat.le_of_ble_eq_true rfl, Nat.le_of_ble_eq_true rfl⟩ (Nat.le_of_ble_eq_true rfl) dX9_back_46 rfl hm (fun h x10 H locs Hh hm => ?_)
      obtain ⟨hz, hm⟩ := zb1_inv hm
      exact z_zretC C hr hlocks Hh dX9_back_49 hz hm
    · refine lv_aload_n hx hb dX9_back_15 rfl (lv_at hl 0 rfl) ?_
      refine z_iconst C dX9_back_16 ?_
      refine z_cVI (vs := [qI 1]) C (fun q hq => ct_X9_denied l g h l0 1 q hq) tw_1182 my_X9_denied (fun q hq => tg_X9_denied hq) rfl hl.1 Hh ⟨Nat.le_of_ble_eq_true rfl, Nat.le_of_ble_eq_true rfl, Nat.le_of_ble_eq_true rfl, Nat.le_of_ble_eq_true rfl⟩ (Nat.le_of_ble_eq_true rfl) dX9_back_17 rfl hm (fun h x12 H locs Hh hm => ?_)
      obtain ⟨hz, hm⟩ := zb1_inv hm
      exact z_zretC C hr hlocks Hh dX9_back_20 hz hm
theorem tg_X9_isLed {h : Hp} {l0 l1 : Int} {r : Int} (hm : M_X9_isLed h l0 l1 = some r) : hT h l0 = 19 := (tk_inv hm).1
set_option maxRecDepth 100000 in
set_option maxHeartbeats 4000000 in
theorem ct_X9_isLed (l : Launch) (g : zGeo) (h : Hp) (l0 l1 : Int) (r : Int) (hm : M_X9_isLed h l0 l1 = some r) : zM l yX9_isLed cX9_isLed 3 (some .boolean) 0 0 0 0 g h [qR g l0, qI l1] h (some (qI r)) := by
  refine z_meth (by decide) (Nat.le_of_ble_eq_true rfl) ?_
  intro p e s m args below meth c H ls C hr hlocks hnm Hh hl
  have C : zC p m c cX9_isLed 3 s args RX9 g := C
  have hnm : meth.name = "isLed" := hnm
  have hx := C.1.1
  have hb := C.1.2.1
  have hl : lv_has ls 3 [(0, qR g l0), (1, qI l1)] := hl
  unfold M_X9_isLed at hm
  replace hm := (tk_inv hm).2
  have K47 : ∀  (H : Heap) (locs : List Loc) (ls : Array Slot), zH g s h H locs → lv_has ls 3 [] → M_X9_isLed_p47 h = some r → W p l e { frames := 0, cells := 0, slots := 0, locals := 0 } s m args below meth c H locs 0 0 (zQ below g h (some (qI r)) args s 0 0) (F0 m 47 ls []) := by
    intro   H locs ls Hh hl hm
    unfold M_X9_isLed_p47 at hm
    refine z_iconst C dX9_isLed_47 ?_
    exact z_zretRC C hr hlocks Hh dX9_isLed_48 (by decide) hm
  have KL5 : ∀ (n : Nat)  (l0 l1 l2 : Int) (H : Heap) (locs : List Loc) (ls : Array Slot), zH g s h H locs → lv_has ls 3 [(0, qR g l0), (1, qI l1), (2, qI l2)] → M_X9_isLed_w5 n h l0 l1 l2 = some r → W p l e { frames := 0, cells := 0, slots := 0, locals := 0 } s m args below meth c H locs 0 0 (zQ below g h (some (qI r)) args s 0 0) (F0 m 5 ls []) := by
    intro n
    induction n with
    | zero => intro l0 l1 l2 H locs ls Hh hl hm; cases hm
    | succ n ih5 =>
      intro l0 l1 l2 H locs ls Hh hl hm
      obtain ⟨z5, hm, hc5⟩ := wh_inv hm
      have hm : M_X9_isLed_b5 h l0 l1 l2 = some z5 := hm
      unfold M_X9_isLed_b5 at hm
      refine lv_iload_n hx hb dX9_isLed_5 rfl (lv_at hl 2 rfl) ?_
      refine z_bipush C dX9_isLed_6 rfl ?_
      refine lv_iload_n hx hb dX9_isLed_8 rfl (lv_at hl 1 rfl) ?_
      refine z_iconst C dX9_isLed_9 ?_
      refine z_iadd C dX9_isLed_10 ?_
      refine z_imul C dX9_isLed_11 ?_
      refine z_icmp_ge (tgt := 47) C dX9_isLed_12 (by decide) rfl rfl hm (fun _ hm => ?_) (fun _ hm => ?_)
      · cases hm
        exact K47  _ _ _ Hh (lv_sub hl [] rfl) hc5
      · refine lv_aload_n hx hb dX9_isLed_15 rfl (lv_at hl 0 rfl) ?_
        refine z_getR C fl_9_30 Hh dX9_isLed_16 rfl hm (fun x1 hm => ?_)
        refine z_getR C fl_9_149 Hh dX9_isLed_19 rfl hm (fun x2 hm => ?_)
        refine lv_iload_n hx hb dX9_isLed_22 rfl (lv_at hl 2 rfl) ?_
        refine z_iald C Hh dX9_isLed_23 hm (fun x3 hm => ?_)
        refine lv_aload_n hx hb dX9_isLed_24 rfl (lv_at hl 0 rfl) ?_
        refine z_getR C fl_9_20 Hh dX9_isLed_25 rfl hm (fun x4 hm => ?_)
        refine z_getR C fl_9_117 Hh dX9_isLed_28 rfl hm (fun x5 hm => ?_)
        refine z_getR C fl_9_149 Hh dX9_isLed_31 rfl hm (fun x6 hm => ?_)
        refine lv_iload_n hx hb dX9_isLed_34 rfl (lv_at hl 2 rfl) ?_
        refine z_iald C Hh dX9_isLed_35 hm (fun x7 hm => ?_)
        refine z_icmp_eq (tgt := 41) C dX9_isLed_36 (by decide) rfl rfl hm (fun _ hm => ?_) (fun _ hm => ?_)
        · refine z_iinc (x := l2) (k := 2) (lv' := [(2, qI (l2 + 1)), (0, qR g l0), (1, qI l1)]) C dX9_isLed_41 hl rfl (by decide) rfl (fun ls hl => ?_)
          refine lv_goto (tgt := 5) hx hb dX9_isLed_44 (by decide) ?_
          cases hm
          exact ih5 l0 l1 (l2 + 1) _ _ _ Hh (lv_sub hl [1, 2, 0] rfl) hc5
        · refine z_iconst C dX9_isLed_39 ?_
          cases hm
          have hm := hc5
          exact z_zretRC C hr hlocks Hh dX9_isLed_40 (by decide) hm
  refine z_bipush C dX9_isLed_0 rfl ?_
  refine lv_iload_n hx hb dX9_isLed_2 rfl (lv_at hl 1 rfl) ?_
  refine z_imul C dX9_isLed_3 ?_
  refine lv_istore_n (lv' := [(2, qI (36 * l1)), (0, qR g l0), (1, qI l1)]) hx hb dX9_isLed_4 rfl hl (by decide) rfl (fun ls hl => ?_)
  exact KL5 FU l0 l1 (36 * l1) _ _ _ Hh (lv_sub hl [1, 2, 0] rfl) hm
theorem tg_X9_size {h : Hp} {l0 l1 : Int} {r : Int} (hm : M_X9_size h l0 l1 = some r) : hT h l0 = 19 := (tk_inv hm).1
set_option maxRecDepth 100000 in
set_option maxHeartbeats 4000000 in
theorem ct_X9_size (l : Launch) (g : zGeo) (h : Hp) (l0 l1 : Int) (r : Int) (hm : M_X9_size h l0 l1 = some r) : zM l yX9_size cX9_size 2 (some .int) 1 22 0 0 g h [qR g l0, qI l1] h (some (qI r)) := by
  refine z_meth (by decide) (Nat.le_of_ble_eq_true rfl) ?_
  intro p e s m args below meth c H ls C hr hlocks hnm Hh hl
  have C : zC p m c cX9_size 2 s args RX9 g := C
  have hnm : meth.name = "size" := hnm
  have hx := C.1.1
  have hb := C.1.2.1
  have hl : lv_has ls 2 [(0, qR g l0), (1, qI l1)] := hl
  unfold M_X9_size at hm
  replace hm := (tk_inv hm).2
  refine lv_iload_n hx hb dX9_size_0 rfl (lv_at hl 1 rfl) ?_
  refine z_sw hm (fun q hm => ?_) (fun q0 hm => ?_)
  · refine z_tin (tgt := 64) (off := 63) C dX9_size_1 q (by decide) (by decide) rfl (by decide) ?_
    refine lv_aload_n hx hb dX9_size_64 rfl (lv_at hl 0 rfl) ?_
    refine z_getR C fl_9_30 Hh dX9_size_65 rfl hm (fun x1 hm => ?_)
    refine z_getI C fl_9_325 Hh dX9_size_68 rfl hm (fun x2 hm => ?_)
    exact z_iretR (h0 := h) C hr hlocks Hh dX9_size_71 hm
  refine z_sw hm (fun q hm => ?_) (fun q1 hm => ?_)
  · refine z_tin (tgt := 72) (off := 71) C dX9_size_1 q (by decide) (by decide) rfl (by decide) ?_
    refine lv_aload_n hx hb dX9_size_72 rfl (lv_at hl 0 rfl) ?_
    refine z_getR C fl_9_30 Hh dX9_size_73 rfl hm (fun x3 hm => ?_)
    refine z_getI C fl_9_328 Hh dX9_size_76 rfl hm (fun x4 hm => ?_)
    exact z_iretR (h0 := h) C hr hlocks Hh dX9_size_79 hm
  refine z_sw hm (fun q hm => ?_) (fun q2 hm => ?_)
  · refine z_tin (tgt := 80) (off := 79) C dX9_size_1 q (by decide) (by decide) rfl (by decide) ?_
    refine lv_aload_n hx hb dX9_size_80 rfl (lv_at hl 0 rfl) ?_
    refine z_getR C fl_9_20 Hh dX9_size_81 rfl hm (fun x5 hm => ?_)
    refine z_getI C fl_9_331 Hh dX9_size_84 rfl hm (fun x6 hm => ?_)
    exact z_iretR (h0 := h) C hr hlocks Hh dX9_size_87 hm
  refine z_sw hm (fun q hm => ?_) (fun q3 hm => ?_)
  · refine z_tin (tgt := 88) (off := 87) C dX9_size_1 q (by decide) (by decide) rfl (by decide) ?_
    refine lv_aload_n hx hb dX9_size_88 rfl (lv_at hl 0 rfl) ?_
    refine z_getR C fl_9_30 Hh dX9_size_89 rfl hm (fun x7 hm => ?_)
    refine z_getI C fl_9_130 Hh dX9_size_92 rfl hm (fun x8 hm => ?_)
    exact z_iretR (h0 := h) C hr hlocks Hh dX9_size_95 hm
  refine z_sw hm (fun q hm => ?_) (fun q4 hm => ?_)
  · refine z_tin (tgt := 96) (off := 95) C dX9_size_1 q (by decide) (by decide) rfl (by decide) ?_
    refine lv_aload_n hx hb dX9_size_96 rfl (lv_at hl 0 rfl) ?_
    refine z_getR C fl_9_30 Hh dX9_size_97 rfl hm (fun x9 hm => ?_)
    refine z_cVIr (vs := []) C (fun q hq => ct_X8_copyingTowns l g h x9 q hq) tw_1227 my_X8_copyingTowns (fun q hq => tg_X8_copyingTowns hq) rfl hl.1 Hh ⟨Nat.le_of_ble_eq_true rfl, Nat.le_of_ble_eq_true rfl, Nat.le_of_ble_eq_true rfl, Nat.le_of_ble_eq_true rfl⟩ (Nat.le_of_ble_eq_true rfl) dX9_size_100 rfl hm (fun x10 H locs Hh hm => ?_)
    exact z_iretR (h0 := h) C hr hlocks Hh dX9_size_103 hm
  refine z_sw hm (fun q hm => ?_) (fun q5 hm => ?_)
  · refine z_tin (tgt := 104) (off := 103) C dX9_size_1 q (by decide) (by decide) rfl (by decide) ?_
    refine lv_aload_n hx hb dX9_size_104 rfl (lv_at hl 0 rfl) ?_
    refine z_getR C fl_9_20 Hh dX9_size_105 rfl hm (fun x11 hm => ?_)
    refine z_getI C fl_9_283 Hh dX9_size_108 rfl hm (fun x12 hm => ?_)
    exact z_iretR (h0 := h) C hr hlocks Hh dX9_size_111 hm
  refine z_sw hm (fun q hm => ?_) (fun q6 hm => ?_)
  · refine z_tin (tgt := 112) (off := 111) C dX9_size_1 q (by decide) (by decide) rfl (by decide) ?_
    refine lv_aload_n hx hb dX9_size_112 rfl (lv_at hl 0 rfl) ?_
    refine z_getR C fl_9_20 Hh dX9_size_113 rfl hm (fun x13 hm => ?_)
    refine z_getI C fl_9_337 Hh dX9_size_116 rfl hm (fun x14 hm => ?_)
    exact z_iretR (h0 := h) C hr hlocks Hh dX9_size_119 hm
  refine z_sw hm (fun q hm => ?_) (fun q7 hm => ?_)
  · refine z_tin (tgt := 120) (off := 119) C dX9_size_1 q (by decide) (by decide) rfl (by decide) ?_
    refine lv_aload_n hx hb dX9_size_120 rfl (lv_at hl 0 rfl) ?_
    refine z_getR C fl_9_30 Hh dX9_size_121 rfl hm (fun x15 hm => ?_)
    refine z_getI C fl_9_289 Hh dX9_size_124 rfl hm (fun x16 hm => ?_)
    exact z_iretR (h0 := h) C hr hlocks Hh dX9_size_127 hm
  refine z_sw hm (fun q hm => ?_) (fun q8 hm => ?_)
  · refine z_tin (tgt := 128) (off := 127) C dX9_size_1 q (by decide) (by decide) rfl (by decide) ?_
    refine lv_aload_n hx hb dX9_size_128 rfl (lv_at hl 0 rfl) ?_
    refine z_getR C fl_9_30 Hh dX9_size_129 rfl hm (fun x17 hm => ?_)
    refine z_getI C fl_9_299 Hh dX9_size_132 rfl hm (fun x18 hm => ?_)
    exact z_iretR (h0 := h) C hr hlocks Hh dX9_size_135 hm
  refine z_sw hm (fun q hm => ?_) (fun q9 hm => ?_)
  · refine z_tin (tgt := 136) (off := 135) C dX9_size_1 q (by decide) (by decide) rfl (by decide) ?_
    refine lv_aload_n hx hb dX9_size_136 rfl (lv_at hl 0 rfl) ?_
    refine z_getR C fl_9_43 Hh dX9_size_137 rfl hm (fun x19 hm => ?_)
    refine z_getI C fl_9_302 Hh dX9_size_140 rfl hm (fun x20 hm => ?_)
    exact z_iretR (h0 := h) C hr hlocks Hh dX9_size_143 hm
  refine z_sw hm (fun q hm => ?_) (fun q10 hm => ?_)
  · refine z_tin (tgt := 144) (off := 143) C dX9_size_1 q (by decide) (by decide) rfl (by decide) ?_
    refine lv_aload_n hx hb dX9_size_144 rfl (lv_at hl 0 rfl) ?_
    refine z_getR C fl_9_43 Hh dX9_size_145 rfl hm (fun x21 hm => ?_)
    refine z_getI C fl_9_308 Hh dX9_size_148 rfl hm (fun x22 hm => ?_)
    exact z_iretR (h0 := h) C hr hlocks Hh dX9_size_151 hm
  refine z_sw hm (fun q hm => ?_) (fun q11 hm => ?_)
  · refine z_tin (tgt := 152) (off := 151) C dX9_size_1 q (by decide) (by decide) rfl (by decide) ?_
    refine lv_aload_n hx hb dX9_size_152 rfl (lv_at hl 0 rfl) ?_
    refine z_getI C fl_9_13 Hh dX9_size_153 rfl hm (fun x23 hm => ?_)
    exact z_iretR (h0 := h) C hr hlocks Hh dX9_size_156 hm
  refine z_tout (tgt := 157) C dX9_size_1 (by omega) (by decide) ?_
  refine z_iconst C dX9_size_157 ?_
  exact z_iretR (h0 := h) C hr hlocks Hh dX9_size_158 hm
