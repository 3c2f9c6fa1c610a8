theorem tg_X9_first {h : Hp} {l0 l1 l2 : Int} {r : Hp × Int} (hm : M_X9_first h l0 l1 l2 = some r) : hT h l0 = 19 := (tk_inv hm).1
set_option maxRecDepth 100000 in
set_option maxHeartbeats 4000000 in
theorem ct_X9_first (l : Launch) (g : zGeo) (h0 : Hp) (l0 l1 l2 : Int) (r : Hp × Int) (hm : M_X9_first h0 l0 l1 l2 = some r) : zM l yX9_first cX9_first 3 (some .int) 1 21 0 0 g h0 [qR g l0, qI l1, qI l2] r.1 (some (qI r.2)) := by
  refine z_meth (by decide) (Nat.le_of_ble_eq_true rfl) ?_
  intro p e s m args below meth c H ls C hr hlocks hnm Hh hl
  have C : zC p m c cX9_first 3 s args RX9 g := C
  have hnm : meth.name = "first" := hnm
  have hx := C.1.1
  have hb := C.1.2.1
  have hl : lv_has ls 3 [(0, qR g l0), (1, qI l1), (2, qI l2)] := hl
  unfold M_X9_first at hm
  replace hm := (tk_inv hm).2
  generalize h0 = h at Hh hm
  refine lv_aload_n hx hb dX9_first_0 rfl (lv_at hl 0 rfl) ?_
  refine lv_iload_n hx hb dX9_first_1 rfl (lv_at hl 1 rfl) ?_
  refine z_cVIr (vs := [qI l1]) C (fun q hq => ct_X9_isTown l g h l0 l1 q hq) tw_784 my_X9_isTown (fun q hq => tg_X9_isTown hq) rfl hl.1 Hh ⟨Nat.le_of_ble_eq_true rfl, Nat.le_of_ble_eq_true rfl, Nat.le_of_ble_eq_true rfl, Nat.le_of_ble_eq_true rfl⟩ (Nat.le_of_ble_eq_true rfl) dX9_first_2 rfl hm (fun x1 H locs Hh hm => ?_)
  refine z_if_eq (tgt := 16) C dX9_first_5 (by decide) rfl hm (fun _ hm => ?_) (fun _ hm => ?_)
  · refine lv_aload_n hx hb dX9_first_16 rfl (lv_at hl 0 rfl) ?_
    refine z_iconst C dX9_first_17 ?_
    refine z_cVI (vs := [qI 1]) C (fun q hq => ct_X9_refused l g h l0 1 q hq) tw_507 my_X9_refused (fun q hq => tg_X9_refused hq) rfl hl.1 Hh ⟨Nat.le_of_ble_eq_true rfl, Nat.le_of_ble_eq_true rfl, Nat.le_of_ble_eq_true rfl, Nat.le_of_ble_eq_true rfl⟩ (Nat.le_of_ble_eq_true rfl) dX9_first_18 rfl hm (fun h x2 H locs Hh hm => ?_)
    exact z_iret C hr hlocks Hh dX9_first_21 hm
  · refine lv_aload_n hx hb dX9_first_8 rfl (lv_at hl 0 rfl) ?_
    refine lv_iload_n hx hb dX9_first_9 rfl (lv_at hl 2 rfl) ?_
    refine z_cVIr (vs := [qI l2]) C (fun q hq => ct_X9_isPlace l g h l0 l2 q hq) tw_796 my_X9_isPlace (fun q hq => tg_X9_isPlace hq) rfl hl.1 Hh ⟨Nat.le_of_ble_eq_true rfl, Nat.le_of_ble_eq_true rfl, Nat.le_of_ble_eq_true rfl, Nat.le_of_ble_eq_true rfl⟩ (Nat.le_of_ble_eq_true rfl) dX9_first_10 rfl hm (fun x3 H locs Hh hm => ?_)
    refine z_if_ne (tgt := 22) C dX9_first_13 (by decide) rfl hm (fun _ hm => ?_) (fun _ hm => ?_)
    · refine lv_aload_n hx hb dX9_first_22 rfl (lv_at hl 0 rfl) ?_
      refine lv_aload_n hx hb dX9_first_23 rfl (lv_at hl 0 rfl) ?_
      refine z_getR C fl_9_20 Hh dX9_first_24 rfl hm (fun x4 hm => ?_)
      refine z_getR C fl_9_117 Hh dX9_first_27 rfl hm (fun x5 hm => ?_)
      refine z_getR C fl_9_149 Hh dX9_first_30 rfl hm (fun x6 hm => ?_)
      refine z_bipush C dX9_first_33 rfl ?_
      refine lv_iload_n hx hb dX9_first_35 rfl (lv_at hl 1 rfl) ?_
      refine z_imul C dX9_first_36 ?_
      refine lv_iload_n hx hb dX9_first_37 rfl (lv_at hl 2 rfl) ?_
      refine z_cSIr (vs := [qI l2]) C (fun q hq => ct_X9_inner l g h l2 q hq) tw_800 my_X9_inner rfl hl.1 Hh ⟨Nat.le_of_ble_eq_true rfl, Nat.le_of_ble_eq_true rfl, Nat.le_of_ble_eq_true rfl, Nat.le_of_ble_eq_true rfl⟩ (Nat.le_of_ble_eq_true rfl) dX9_first_38 rfl hm (fun x7 H locs Hh hm => ?_)
      refine z_iadd C dX9_first_41 ?_
      refine z_iald C Hh dX9_first_42 hm (fun x8 hm => ?_)
      refine z_cVI (vs := [qI x8]) C (fun q hq => ct_X9_answered l g h l0 x8 q hq) tw_767 my_X9_answered (fun q hq => tg_X9_answered hq) rfl hl.1 Hh ⟨Nat.le_of_ble_eq_true rfl, Nat.le_of_ble_eq_true rfl, Nat.le_of_ble_eq_true rfl, Nat.le_of_ble_eq_true rfl⟩ (Nat.le_of_ble_eq_true rfl) dX9_first_43 rfl hm (fun h x9 H locs Hh hm => ?_)
      exact z_iret C hr hlocks Hh dX9_first_46 hm
    · refine lv_aload_n hx hb dX9_first_16 rfl (lv_at hl 0 rfl) ?_
      refine z_iconst C dX9_first_17 ?_
      refine z_cVI (vs := [qI 1]) C (fun q hq => ct_X9_refused l g h l0 1 q hq) tw_507 my_X9_refused (fun q hq => tg_X9_refused hq) rfl hl.1 Hh ⟨Nat.le_of_ble_eq_true rfl, Nat.le_of_ble_eq_true rfl, Nat.le_of_ble_eq_true rfl, Nat.le_of_ble_eq_true rfl⟩ (Nat.le_of_ble_eq_true rfl) dX9_first_18 rfl hm (fun h x10 H locs Hh hm => ?_)
      exact z_iret C hr hlocks Hh dX9_first_21 hm
set_option maxRecDepth 100000 in
set_option maxHeartbeats 4000000 in
theorem ct_X9_isBehind (l : Launch) (g : zGeo) (h : Hp) (l0 l1 : Int) (r : Int) (hm : M_X9_isBehind h l0 l1 = some r) : zM l yX9_isBehind cX9_isBehind 2 (some .boolean) 0 0 0 0 g h [qI l0, qI l1] h (some (qI r)) := by
  refine z_meth (by decide) (Nat.le_of_ble_eq_true rfl) ?_
  intro p e s m args below meth c H ls C hr hlocks hnm Hh hl
  have C : zC p m c cX9_isBehind 2 s args RX9 g := C
  have hnm : meth.name = "isBehind" := hnm
  have hx := C.1.1
  have hb := C.1.2.1
  have hl : lv_has ls 2 [(0, qI l0), (1, qI l1)] := hl
  unfold M_X9_isBehind at hm
  refine lv_iload_n hx hb dX9_isBehind_0 rfl (lv_at hl 0 rfl) ?_
  refine z_if_lt (tgt := 13) C dX9_isBehind_1 (by decide) rfl hm (fun _ hm => ?_) (fun _ hm => ?_)
  · refine z_iconst C dX9_isBehind_13 ?_
    exact z_zretRC C hr hlocks Hh dX9_isBehind_14 (by decide) hm
  · refine lv_iload_n hx hb dX9_isBehind_4 rfl (lv_at hl 0 rfl) ?_
    refine lv_iload_n hx hb dX9_isBehind_5 rfl (lv_at hl 1 rfl) ?_
    refine z_icmp_gt (tgt := 13) C dX9_isBehind_6 (by decide) rfl rfl hm (fun _ hm => ?_) (fun _ hm => ?_)
    · refine z_iconst C dX9_isBehind_13 ?_
      exact z_zretRC C hr hlocks Hh dX9_isBehind_14 (by decide) hm
    · refine z_iconst C dX9_isBehind_9 ?_
      refine lv_goto (tgt := 14) hx hb dX9_isBehind_10 (by decide) ?_
      exact z_zretRC C hr hlocks Hh dX9_isBehind_14 (by decide) hm
theorem tg_X9_after {h : Hp} {l0 l1 l2 l3 : Int} {r : Hp × Int} (hm : M_X9_after h l0 l1 l2 l3 = some r) : hT h l0 = 19 := (tk_inv hm).1
set_option maxRecDepth 100000 in
set_option maxHeartbeats 4000000 in
theorem ct_X9_after (l : Launch) (g : zGeo) (h0 : Hp) (l0 l1 l2 l3 : Int) (r : Hp × Int) (hm : M_X9_after h0 l0 l1 l2 l3 = some r) : zM l yX9_after cX9_after 4 (some .int) 5 137 0 0 g h0 [qR g l0, qI l1, qI l2, qI l3] r.1 (some (qI r.2)) := by
  refine z_meth (by decide) (Nat.le_of_ble_eq_true rfl) ?_
  intro p e s m args below meth c H ls C hr hlocks hnm Hh hl
  have C : zC p m c cX9_after 4 s args RX9 g := C
  have hnm : meth.name = "after" := hnm
  have hx := C.1.1
  have hb := C.1.2.1
  have hl : lv_has ls 4 [(0, qR g l0), (1, qI l1), (2, qI l2), (3, qI l3)] := hl
  unfold M_X9_after at hm
  replace hm := (tk_inv hm).2
  generalize h0 = h at Hh hm
  refine lv_aload_n hx hb dX9_after_0 rfl (lv_at hl 0 rfl) ?_
  refine lv_iload_n hx hb dX9_after_1 rfl (lv_at hl 1 rfl) ?_
  refine z_cVIr (vs := [qI l1]) C (fun q hq => ct_X9_isTown l g h l0 l1 q hq) tw_784 my_X9_isTown (fun q hq => tg_X9_isTown hq) rfl hl.1 Hh ⟨Nat.le_of_ble_eq_true rfl, Nat.le_of_ble_eq_true rfl, Nat.le_of_ble_eq_true rfl, Nat.le_of_ble_eq_true rfl⟩ (Nat.le_of_ble_eq_true rfl) dX9_after_2 rfl hm (fun x1 H locs Hh hm => ?_)
  refine z_if_eq (tgt := 16) C dX9_after_5 (by decide) rfl hm (fun _ hm => ?_) (fun _ hm => ?_)
  · refine lv_aload_n hx hb dX9_after_16 rfl (lv_at hl 0 rfl) ?_
    refine z_iconst C dX9_after_17 ?_
    refine z_cVI (vs := [qI 1]) C (fun q hq => ct_X9_refused l g h l0 1 q hq) tw_507 my_X9_refused (fun q hq => tg_X9_refused hq) rfl hl.1 Hh ⟨Nat.le_of_ble_eq_true rfl, Nat.le_of_ble_eq_true rfl, Nat.le_of_ble_eq_true rfl, Nat.le_of_ble_eq_true rfl⟩ (Nat.le_of_ble_eq_true rfl) dX9_after_18 rfl hm (fun h x2 H locs Hh hm => ?_)
    exact z_iret C hr hlocks Hh dX9_after_21 hm
  · refine lv_aload_n hx hb dX9_after_8 rfl (lv_at hl 0 rfl) ?_
    refine lv_iload_n hx hb dX9_after_9 rfl (lv_at hl 2 rfl) ?_
    refine z_cVIr (vs := [qI l2]) C (fun q hq => ct_X9_isPlace l g h l0 l2 q hq) tw_796 my_X9_isPlace (fun q hq => tg_X9_isPlace hq) rfl hl.1 Hh ⟨Nat.le_of_ble_eq_true rfl, Nat.le_of_ble_eq_true rfl, Nat.le_of_ble_eq_true rfl, Nat.le_of_ble_eq_true rfl⟩ (Nat.le_of_ble_eq_true rfl) dX9_after_10 rfl hm (fun x3 H locs Hh hm => ?_)
    refine z_if_ne (tgt := 22) C dX9_after_13 (by decide) rfl hm (fun _ hm => ?_) (fun _ hm => ?_)
    · refine lv_iload_n hx hb dX9_after_22 rfl (lv_at hl 3 rfl) ?_
      refine z_bipush C dX9_after_23 rfl ?_
      refine z_cSIr (vs := [qI l3, qI 60]) C (fun q hq => ct_X9_isBehind l g h l3 60 q hq) tw_811 my_X9_isBehind rfl hl.1 Hh ⟨Nat.le_of_ble_eq_true rfl, Nat.le_of_ble_eq_true rfl, Nat.le_of_ble_eq_true rfl, Nat.le_of_ble_eq_true rfl⟩ (Nat.le_of_ble_eq_true rfl) dX9_after_25 rfl hm (fun x4 H locs Hh hm => ?_)
      refine z_if_ne (tgt := 37) C dX9_after_28 (by decide) rfl hm (fun _ hm => ?_) (fun _ hm => ?_)
      · refine lv_aload_n hx hb dX9_after_37 rfl (lv_at hl 0 rfl) ?_
        refine lv_aload_n hx hb dX9_after_38 rfl (lv_at hl 0 rfl) ?_
        refine z_getR C fl_9_52 Hh dX9_after_39 rfl hm (fun x5 hm => ?_)
        refine lv_aload_n hx hb dX9_after_42 rfl (lv_at hl 0 rfl) ?_
        refine z_getR C fl_9_30 Hh dX9_after_43 rfl hm (fun x6 hm => ?_)
        refine lv_iload_n hx hb dX9_after_46 rfl (lv_at hl 1 rfl) ?_
        refine lv_iload_n hx hb dX9_after_47 rfl (lv_at hl 2 rfl) ?_
        refine z_cSIr (vs := [qI l2]) C (fun q hq => ct_X9_inner l g h l2 q hq) tw_800 my_X9_inner rfl hl.1 Hh ⟨Nat.le_of_ble_eq_true rfl, Nat.le_of_ble_eq_true rfl, Nat.le_of_ble_eq_true rfl, Nat.le_of_ble_eq_true rfl⟩ (Nat.le_of_ble_eq_true rfl) dX9_after_48 rfl hm (fun x7 H locs Hh hm => ?_)
        refine lv_iload_n hx hb dX9_after_51 rfl (lv_at hl 3 rfl) ?_
        refine z_cVI (vs := [qR g x6, qI l1, qI x7, qI l3]) C (fun q hq => ct_X0_markBehind l g h x5 x6 l1 x7 l3 q hq) tw_814 my_X0_markBehind (fun q hq => tg_X0_markBehind hq) rfl hl.1 Hh ⟨Nat.le_of_ble_eq_true rfl, Nat.le_of_ble_eq_true rfl, Nat.le_of_ble_eq_true rfl, Nat.le_of_ble_eq_true rfl⟩ (Nat.le_of_ble_eq_true rfl) dX9_after_52 rfl hm (fun h x8 H locs Hh hm => ?_)
        refine z_cVI (vs := [qI x8]) C (fun q hq => ct_X9_answered l g h l0 x8 q hq) tw_767 my_X9_answered (fun q hq => tg_X9_answered hq) rfl hl.1 Hh ⟨Nat.le_of_ble_eq_true rfl, Nat.le_of_ble_eq_true rfl, Nat.le_of_ble_eq_true rfl, Nat.le_of_ble_eq_true rfl⟩ (Nat.le_of_ble_eq_true rfl) dX9_after_55 rfl hm (fun h x9 H locs Hh hm => ?_)
        exact z_iret C hr hlocks Hh dX9_after_58 hm
      · refine lv_aload_n hx hb dX9_after_31 rfl (lv_at hl 0 rfl) ?_
        refine z_iconst C dX9_after_32 ?_
        refine z_cVI (vs := [qI 2]) C (fun q hq => ct_X9_refused l g h l0 2 q hq) tw_507 my_X9_refused (fun q hq => tg_X9_refused hq) rfl hl.1 Hh ⟨Nat.le_of_ble_eq_true rfl, Nat.le_of_ble_eq_true rfl, Nat.le_of_ble_eq_true rfl, Nat.le_of_ble_eq_true rfl⟩ (Nat.le_of_ble_eq_true rfl) dX9_after_33 rfl hm (fun h x10 H locs Hh hm => ?_)
        exact z_iret C hr hlocks Hh dX9_after_36 hm
    · refine lv_aload_n hx hb dX9_after_16 rfl (lv_at hl 0 rfl) ?_
      refine z_iconst C dX9_after_17 ?_
      refine z_cVI (vs := [qI 1]) C (fun q hq => ct_X9_refused l g h l0 1 q hq) tw_507 my_X9_refused (fun q hq => tg_X9_refused hq) rfl hl.1 Hh ⟨Nat.le_of_ble_eq_true rfl, Nat.le_of_ble_eq_true rfl, Nat.le_of_ble_eq_true rfl, Nat.le_of_ble_eq_true rfl⟩ (Nat.le_of_ble_eq_true rfl) dX9_after_18 rfl hm (fun h x11 H locs Hh hm => ?_)
      exact z_iret C hr hlocks Hh dX9_after_21 hm
theorem tg_X9_isMark {h : Hp} {l0 l1 : Int} {r : Int} (hm : M_X9_isMark h l0 l1 = some r) : hT h l0 = 19 := (tk_inv hm).1
set_option maxRecDepth 100000 in
set_option maxHeartbeats 4000000 in
theorem ct_X9_isMark (l : Launch) (g : zGeo) (h : Hp) (l0 l1 : Int) (r : Int) (hm : M_X9_isMark h l0 l1 = some r) : zM l yX9_isMark cX9_isMark 2 (some .boolean) 0 0 0 0 g h [qR g l0, qI l1] h (some (qI r)) := by
  refine z_meth (by decide) (Nat.le_of_ble_eq_true rfl) ?_
  intro p e s m args below meth c H ls C hr hlocks hnm Hh hl
  have C : zC p m c cX9_isMark 2 s args RX9 g := C
  have hnm : meth.name = "isMark" := hnm
  have hx := C.1.1
  have hb := C.1.2.1
  have hl : lv_has ls 2 [(0, qR g l0), (1, qI l1)] := hl
  unfold M_X9_isMark at hm
  replace hm := (tk_inv hm).2
  refine lv_iload_n hx hb dX9_isMark_0 rfl (lv_at hl 1 rfl) ?_
  refine z_if_lt (tgt := 19) C dX9_isMark_1 (by decide) rfl hm (fun _ hm => ?_) (fun _ hm => ?_)
  · refine z_iconst C dX9_isMark_19 ?_
    exact z_zretRC C hr hlocks Hh dX9_isMark_20 (by decide) hm
  · refine lv_iload_n hx hb dX9_isMark_4 rfl (lv_at hl 1 rfl) ?_
    refine lv_aload_n hx hb dX9_isMark_5 rfl (lv_at hl 0 rfl) ?_
    refine z_getR C fl_9_20 Hh dX9_isMark_6 rfl hm (fun x1 hm => ?_)
    refine z_getI C fl_9_331 Hh dX9_isMark_9 rfl hm (fun x2 hm => ?_)
    refine z_icmp_ge (tgt := 19) C dX9_isMark_12 (by decide) rfl rfl hm (fun _ hm => ?_) (fun _ hm => ?_)
    · refine z_iconst C dX9_isMark_19 ?_
      exact z_zretRC C hr hlocks Hh dX9_isMark_20 (by decide) hm
    · refine z_iconst C dX9_isMark_15 ?_
      refine lv_goto (tgt := 20) hx hb dX9_isMark_16 (by decide) ?_
      exact z_zretRC C hr hlocks Hh dX9_isMark_20 (by decide) hm
theorem tg_X9_many {h : Hp} {l0 l1 l2 l3 : Int} {r : Hp × Int} (hm : M_X9_many h l0 l1 l2 l3 = some r) : hT h l0 = 19 := (tk_inv hm).1
set_option maxRecDepth 100000 in
set_option maxHeartbeats 4000000 in
theorem ct_X9_many (l : Launch) (g : zGeo) (h0 : Hp) (l0 l1 l2 l3 : Int) (r : Hp × Int) (hm : M_X9_many h0 l0 l1 l2 l3 = some r) : zM l yX9_many cX9_many 6 (some .int) 5 138 0 0 g h0 [qR g l0, qI l1, qI l2, qI l3] r.1 (some (qI r.2)) := by
  refine z_meth (by decide) (Nat.le_of_ble_eq_true rfl) ?_
  intro p e s m args below meth c H ls C hr hlocks hnm Hh hl
  have C : zC p m c cX9_many 6 s args RX9 g := C
  have hnm : meth.name = "many" := hnm
  have hx := C.1.1
  have hb := C.1.2.1
  have hl : lv_has ls 6 [(0, qR g l0), (1, qI l1), (2, qI l2), (3, qI l3)] := hl
  unfold M_X9_many at hm
  replace hm := (tk_inv hm).2
  generalize h0 = h at Hh hm
  have K99 : ∀ (h : Hp) (l0 l4 : Int) (H : Heap) (locs : List Loc) (ls : Array Slot), zH g s h H locs → lv_has ls 6 [(0, qR g l0), (4, qI l4)] → M_X9_many_p99 h l0 l4 = some r → W p l e { frames := 5, cells := 0, slots := 0, locals := 138 } s m args below meth c H locs 0 0 (zQ below g r.1 (some (qI r.2)) args s 0 0) (F0 m 99 ls []) := by
    intro h l0 l4  H locs ls Hh hl hm
    unfold M_X9_many_p99 at hm
    refine lv_aload_n hx hb dX9_many_99 rfl (lv_at hl 0 rfl) ?_
    refine lv_iload hx hb dX9_many_100 (lv_at hl 1 rfl) ?_
    refine z_cVI (vs := [qI l4]) C (fun q hq => ct_X9_answered l g h l0 l4 q hq) tw_767 my_X9_answered (fun q hq => tg_X9_answered hq) rfl hl.1 Hh ⟨Nat.le_of_ble_eq_true rfl, Nat.le_of_ble_eq_true rfl, Nat.le_of_ble_eq_true rfl, Nat.le_of_ble_eq_true rfl⟩ (Nat.le_of_ble_eq_true rfl) dX9_many_102 rfl hm (fun h x1 H locs Hh hm => ?_)
    exact z_iret C hr hlocks Hh dX9_many_105 hm
  have KL60 : ∀ (n : Nat) (h : Hp) (l0 l2 l4 l5 : Int) (H : Heap) (locs : List Loc) (ls : Array Slot), zH g s h H locs → lv_has ls 6 [(0, qR g l0), (2, qI l2), (4, qI l4), (5, qI l5)] → M_X9_many_w60 n h l0 l2 l4 l5 = some r → W p l e { frames := 5, cells := 0, slots := 0, locals := 138 } s m args below meth c H locs 0 0 (zQ below g r.1 (some (qI r.2)) args s 0 0) (F0 m 60 ls []) := by
    intro n
    induction n with
    | zero => intro h l0 l2 l4 l5 H locs ls Hh hl hm; cases hm
    | succ n ih60 =>
      intro h l0 l2 l4 l5 H locs ls Hh hl hm
      obtain ⟨z60, hm, hc60⟩ := wh_inv hm
      have hm : M_X9_many_b60 h l0 l2 l4 l5 = some z60 := hm
      have K93 : ∀  (l4 l5 : Int) (H : Heap) (locs : List Loc) (ls : Array Slot), zH g s h H locs → lv_has ls 6 [(0, qR g l0), (2, qI l2), (4, qI l4), (5, qI l5)] → M_X9_many_p93 h l0 l2 l4 l5 = some z60 → W p l e { frames := 5, cells := 0, slots := 0, locals := 138 } s m args below meth c H locs 0 0 (zQ below g r.1 (some (qI r.2)) args s 0 0) (F0 m 93 ls []) := by
        intro l4 l5  H locs ls Hh hl hm
        unfold M_X9_many_p93 at hm
        refine z_iinc (x := l5) (k := 3) (lv' := [(5, qI (l5 + 1)), (0, qR g l0), (2, qI l2), (4, qI l4)]) C dX9_many_93 hl rfl (by decide) rfl (fun ls hl => ?_)
        refine lv_goto (tgt := 60) hx hb dX9_many_96 (by decide) ?_
        cases hm
        exact ih60 h l0 l2 l4 (l5 + 1) _ _ _ Hh (lv_sub hl [1, 2, 3, 0] rfl) hc60
      unfold M_X9_many_b60 at hm
      refine lv_iload hx hb dX9_many_60 (lv_at hl 3 rfl) ?_
      refine z_bipush C dX9_many_62 rfl ?_
      refine z_icmp_ge (tgt := 99) C dX9_many_64 (by decide) rfl lq_p36 hm (fun _ hm => ?_) (fun _ hm => ?_)
      · cases hm
        exact K99 h l0 l4 _ _ _ Hh (lv_sub hl [0, 2] rfl) hc60
      · refine lv_aload_n hx hb dX9_many_67 rfl (lv_at hl 0 rfl) ?_
        refine z_getR C fl_9_30 Hh dX9_many_68 rfl hm (fun x2 hm => ?_)
        refine lv_iload hx hb dX9_many_71 (lv_at hl 3 rfl) ?_
        refine z_cVIr (vs := [qI l5]) C (fun q hq => ct_X8_holds l g h x2 l5 q hq) tw_900 my_X8_holds (fun q hq => tg_X8_holds hq) rfl hl.1 Hh ⟨Nat.le_of_ble_eq_true rfl, Nat.le_of_ble_eq_true rfl, Nat.le_of_ble_eq_true rfl, Nat.le_of_ble_eq_true rfl⟩ (Nat.le_of_ble_eq_true rfl) dX9_many_73 rfl hm (fun x3 H locs Hh hm => ?_)
        refine z_if_eq (tgt := 93) C dX9_many_76 (by decide) rfl hm (fun _ hm => ?_) (fun _ hm => ?_)
        · exact K93 l4 l5 _ _ _ Hh (lv_sub hl [0, 1, 2, 3] rfl) hm
        · refine lv_aload_n hx hb dX9_many_79 rfl (lv_at hl 0 rfl) ?_
          refine z_getR C fl_9_79 Hh dX9_many_80 rfl hm (fun x4 hm => ?_)
          refine lv_iload hx hb dX9_many_83 (lv_at hl 3 rfl) ?_
          refine z_iald C Hh dX9_many_85 hm (fun x5 hm => ?_)
          refine lv_iload_n hx hb dX9_many_86 rfl (lv_at hl 1 rfl) ?_
          refine z_icmp_ne (tgt := 93) C dX9_many_87 (by decide) rfl rfl hm (fun _ hm => ?_) (fun _ hm => ?_)
          · exact K93 l4 l5 _ _ _ Hh (lv_sub hl [0, 1, 2, 3] rfl) hm
          · refine z_iinc (x := l4) (k := 2) (lv' := [(4, qI (l4 + 1)), (0, qR g l0), (2, qI l2), (5, qI l5)]) C dX9_many_90 hl rfl (by decide) rfl (fun ls hl => ?_)
            exact K93 (l4 + 1) l5 _ _ _ Hh (lv_sub hl [1, 2, 0, 3] rfl) hm
  refine lv_aload_n hx hb dX9_many_0 rfl (lv_at hl 0 rfl) ?_
  refine lv_iload_n hx hb dX9_many_1 rfl (lv_at hl 1 rfl) ?_
  refine z_cVIr (vs := [qI l1]) C (fun q hq => ct_X9_isTown l g h l0 l1 q hq) tw_784 my_X9_isTown (fun q hq => tg_X9_isTown hq) rfl hl.1 Hh ⟨Nat.le_of_ble_eq_true rfl, Nat.le_of_ble_eq_true rfl, Nat.le_of_ble_eq_true rfl, Nat.le_of_ble_eq_true rfl⟩ (Nat.le_of_ble_eq_true rfl) dX9_many_2 rfl hm (fun x6 H locs Hh hm => ?_)
  refine z_if_eq (tgt := 16) C dX9_many_5 (by decide) rfl hm (fun _ hm => ?_) (fun _ hm => ?_)
  · refine lv_aload_n hx hb dX9_many_16 rfl (lv_at hl 0 rfl) ?_
    refine z_iconst C dX9_many_17 ?_
    refine z_cVI (vs := [qI 1]) C (fun q hq => ct_X9_refused l g h l0 1 q hq) tw_507 my_X9_refused (fun q hq => tg_X9_refused hq) rfl hl.1 Hh ⟨Nat.le_of_ble_eq_true rfl, Nat.le_of_ble_eq_true rfl, Nat.le_of_ble_eq_true rfl, Nat.le_of_ble_eq_true rfl⟩ (Nat.le_of_ble_eq_true rfl) dX9_many_18 rfl hm (fun h x7 H locs Hh hm => ?_)
    exact z_iret C hr hlocks Hh dX9_many_21 hm
  · refine lv_aload_n hx hb dX9_many_8 rfl (lv_at hl 0 rfl) ?_
    refine lv_iload_n hx hb dX9_many_9 rfl (lv_at hl 2 rfl) ?_
    refine z_cVIr (vs := [qI l2]) C (fun q hq => ct_X9_isMark l g h l0 l2 q hq) tw_888 my_X9_isMark (fun q hq => tg_X9_isMark hq) rfl hl.1 Hh ⟨Nat.le_of_ble_eq_true rfl, Nat.le_of_ble_eq_true rfl, Nat.le_of_ble_eq_true rfl, Nat.le_of_ble_eq_true rfl⟩ (Nat.le_of_ble_eq_true rfl) dX9_many_10 rfl hm (fun x8 H locs Hh hm => ?_)
    refine z_if_ne (tgt := 22) C dX9_many_13 (by decide) rfl hm (fun _ hm => ?_) (fun _ hm => ?_)
    · refine lv_iload_n hx hb dX9_many_22 rfl (lv_at hl 3 rfl) ?_
      refine z_bipush C dX9_many_23 rfl ?_
      refine z_cSIr (vs := [qI l3, qI 60]) C (fun q hq => ct_X9_isBehind l g h l3 60 q hq) tw_811 my_X9_isBehind rfl hl.1 Hh ⟨Nat.le_of_ble_eq_true rfl, Nat.le_of_ble_eq_true rfl, Nat.le_of_ble_eq_true rfl, Nat.le_of_ble_eq_true rfl⟩ (Nat.le_of_ble_eq_true rfl) dX9_many_25 rfl hm (fun x9 H locs Hh hm => ?_)
      refine z_if_ne (tgt := 37) C dX9_many_28 (by decide) rfl hm (fun _ hm => ?_) (fun _ hm => ?_)
      · refine lv_aload_n hx hb dX9_many_37 rfl (lv_at hl 0 rfl) ?_
        refine z_getR C fl_9_52 Hh dX9_many_38 rfl hm (fun x10 hm => ?_)
        refine lv_aload_n hx hb dX9_many_41 rfl (lv_at hl 0 rfl) ?_
        refine z_getR C fl_9_30 Hh dX9_many_42 rfl hm (fun x11 hm => ?_)
        refine lv_iload_n hx hb dX9_many_45 rfl (lv_at hl 1 rfl) ?_
        refine lv_iload_n hx hb dX9_many_46 rfl (lv_at hl 3 rfl) ?_
        refine lv_aload_n hx hb dX9_many_47 rfl (lv_at hl 0 rfl) ?_
        refine z_getR C fl_9_79 Hh dX9_many_48 rfl hm (fun x12 hm => ?_)
        refine z_cVv (vs := [qR g x11, qI l1, qI l3, qR g x12]) C (fun q hq => ct_X0_mapBehind l g h x10 x11 l1 l3 x12 q hq) tw_892 my_X0_mapBehind (fun q hq => tg_X0_mapBehind hq) rfl hl.1 Hh ⟨Nat.le_of_ble_eq_true rfl, Nat.le_of_ble_eq_true rfl, Nat.le_of_ble_eq_true rfl, Nat.le_of_ble_eq_true rfl⟩ (Nat.le_of_ble_eq_true rfl) dX9_many_51 rfl hm (fun h H locs Hh hm => ?_)
        refine z_iconst C dX9_many_54 ?_
        refine lv_istore (lv' := [(4, qI 0), (0, qR g l0), (1, qI l1), (2, qI l2), (3, qI l3)]) hx hb dX9_many_55 hl (by decide) rfl (fun ls hl => ?_)
        refine z_iconst C dX9_many_57 ?_
        refine lv_istore (lv' := [(5, qI 0), (4, qI 0), (0, qR g l0), (1, qI l1), (2, qI l2), (3, qI l3)]) hx hb dX9_many_58 hl (by decide) rfl (fun ls hl => ?_)
        exact KL60 FU h l0 l2 0 0 _ _ _ Hh (lv_sub hl [2, 4, 1, 0] rfl) hm
      · refine lv_aload_n hx hb dX9_many_31 rfl (lv_at hl 0 rfl) ?_
        refine z_iconst C dX9_many_32 ?_
        refine z_cVI (vs := [qI 2]) C (fun q hq => ct_X9_refused l g h l0 2 q hq) tw_507 my_X9_refused (fun q hq => tg_X9_refused hq) rfl hl.1 Hh ⟨Nat.le_of_ble_eq_true rfl, Nat.le_of_ble_eq_true rfl, Nat.le_of_ble_eq_true rfl, Nat.le_of_ble_eq_true rfl⟩ (Nat.le_of_ble_eq_true rfl) dX9_many_33 rfl hm (fun h x13 H locs Hh hm => ?_)
        exact z_iret C hr hlocks Hh dX9_many_36 hm
    · refine lv_aload_n hx hb dX9_many_16 rfl (lv_at hl 0 rfl) ?_
      refine z_iconst C dX9_many_17 ?_
      refine z_cVI (vs := [qI 1]) C (fun q hq => ct_X9_refused l g h l0 1 q hq) tw_507 my_X9_refused (fun q hq => tg_X9_refused hq) rfl hl.1 Hh ⟨Nat.le_of_ble_eq_true rfl, Nat.le_of_ble_eq_true rfl, Nat.le_of_ble_eq_true rfl, Nat.le_of_ble_eq_true rfl⟩ (Nat.le_of_ble_eq_true rfl) dX9_many_18 rfl hm (fun h x14 H locs Hh hm => ?_)
      exact z_iret C hr hlocks Hh dX9_many_21 hm
theorem tg_X9_likeOnes {h : Hp} {l0 l1 l2 : Int} {r : Int} (hm : M_X9_likeOnes h l0 l1 l2 = some r) : hT h l0 = 19 := (tk_inv hm).1
set_option maxRecDepth 100000 in
set_option maxHeartbeats 4000000 in
theorem ct_X9_likeOnes (l : Launch) (g : zGeo) (h : Hp) (l0 l1 l2 : Int) (r : Int) (hm : M_X9_likeOnes h l0 l1 l2 = some r) : zM l yX9_likeOnes cX9_likeOnes 5 (some .int) 1 21 0 0 g h [qR g l0, qR g l1, qI l2] h (some (qI r)) := by
  refine z_meth (by decide) (Nat.le_of_ble_eq_true rfl) ?_
  intro p e s m args below meth c H ls C hr hlocks hnm Hh hl
  have C : zC p m c cX9_likeOnes 5 s args RX9 g := C
  have hnm : meth.name = "likeOnes" := hnm
  have hx := C.1.1
  have hb := C.1.2.1
  have hl : lv_has ls 5 [(0, qR g l0), (1, qR g l1), (2, qI l2)] := hl
  unfold M_X9_likeOnes at hm
  replace hm := (tk_inv hm).2
  have K49 : ∀  (l3 : Int) (H : Heap) (locs : List Loc) (ls : Array Slot), zH g s h H locs → lv_has ls 5 [(3, qI l3)] → M_X9_likeOnes_p49 h l3 = some r → W p l e { frames := 1, cells := 0, slots := 0, locals := 21 } s m args below meth c H locs 0 0 (zQ below g h (some (qI r)) args s 0 0) (F0 m 49 ls []) := by
    intro l3  H locs ls Hh hl hm
    unfold M_X9_likeOnes_p49 at hm
    refine lv_iload_n hx hb dX9_likeOnes_49 rfl (lv_at hl 0 rfl) ?_
    exact z_iretR (h0 := h) C hr hlocks Hh dX9_likeOnes_50 hm
  have KL5 : ∀ (n : Nat)  (l0 l1 l2 l3 l4 : Int) (H : Heap) (locs : List Loc) (ls : Array Slot), zH g s h H locs → lv_has ls 5 [(0, qR g l0), (1, qR g l1), (2, qI l2), (3, qI l3), (4, qI l4)] → M_X9_likeOnes_w5 n h l0 l1 l2 l3 l4 = some r → W p l e { frames := 1, cells := 0, slots := 0, locals := 21 } s m args below meth c H locs 0 0 (zQ below g h (some (qI r)) args s 0 0) (F0 m 5 ls []) := by
    intro n
    induction n with
    | zero => intro l0 l1 l2 l3 l4 H locs ls Hh hl hm; cases hm
    | succ n ih5 =>
      intro l0 l1 l2 l3 l4 H locs ls Hh hl hm
      obtain ⟨z5, hm, hc5⟩ := wh_inv hm
      have hm : M_X9_likeOnes_b5 h l0 l1 l2 l3 l4 = some z5 := hm
      have K43 : ∀  (l3 l4 : Int) (H : Heap) (locs : List Loc) (ls : Array Slot), zH g s h H locs → lv_has ls 5 [(0, qR g l0), (1, qR g l1), (2, qI l2), (3, qI l3), (4, qI l4)] → M_X9_likeOnes_p43 h l0 l1 l2 l3 l4 = some z5 → W p l e { frames := 1, cells := 0, slots := 0, locals := 21 } s m args below meth c H locs 0 0 (zQ below g h (some (qI r)) args s 0 0) (F0 m 43 ls []) := by
        intro l3 l4  H locs ls Hh hl hm
        unfold M_X9_likeOnes_p43 at hm
        refine z_iinc (x := l4) (k := 4) (lv' := [(4, qI (l4 + 1)), (0, qR g l0), (1, qR g l1), (2, qI l2), (3, qI l3)]) C dX9_likeOnes_43 hl rfl (by decide) rfl (fun ls hl => ?_)
        refine lv_goto (tgt := 5) hx hb dX9_likeOnes_46 (by decide) ?_
        cases hm
        exact ih5 l0 l1 l2 l3 (l4 + 1) _ _ _ Hh (lv_sub hl [1, 2, 3, 4, 0] rfl) hc5
      unfold M_X9_likeOnes_b5 at hm
      refine lv_iload hx hb dX9_likeOnes_5 (lv_at hl 4 rfl) ?_
      refine z_bipush C dX9_likeOnes_7 rfl ?_
      refine z_icmp_ge (tgt := 49) C dX9_likeOnes_9 (by decide) rfl lq_p36 hm (fun _ hm => ?_) (fun _ hm => ?_)
      · cases hm
        exact K49 l3 _ _ _ Hh (lv_sub hl [3] rfl) hc5
      · refine lv_aload_n hx hb dX9_likeOnes_12 rfl (lv_at hl 0 rfl) ?_
        refine z_getR C fl_9_30 Hh dX9_likeOnes_13 rfl hm (fun x1 hm => ?_)
        refine lv_iload hx hb dX9_likeOnes_16 (lv_at hl 4 rfl) ?_
        refine z_cVIr (vs := [qI l4]) C (fun q hq => ct_X8_holds l g h x1 l4 q hq) tw_900 my_X8_holds (fun q hq => tg_X8_holds hq) rfl hl.1 Hh ⟨Nat.le_of_ble_eq_true rfl, Nat.le_of_ble_eq_true rfl, Nat.le_of_ble_eq_true rfl, Nat.le_of_ble_eq_true rfl⟩ (Nat.le_of_ble_eq_true rfl) dX9_likeOnes_18 rfl hm (fun x2 H locs Hh hm => ?_)
        refine z_if_eq (tgt := 43) C dX9_likeOnes_21 (by decide) rfl hm (fun _ hm => ?_) (fun _ hm => ?_)
        · exact K43 l3 l4 _ _ _ Hh (lv_sub hl [0, 1, 2, 3, 4] rfl) hm
        · refine lv_aload_n hx hb dX9_likeOnes_24 rfl (lv_at hl 0 rfl) ?_
          refine z_getR C fl_9_79 Hh dX9_likeOnes_25 rfl hm (fun x3 hm => ?_)
          refine lv_iload hx hb dX9_likeOnes_28 (lv_at hl 4 rfl) ?_
          refine z_iald C Hh dX9_likeOnes_30 hm (fun x4 hm => ?_)
          refine lv_aload_n hx hb dX9_likeOnes_31 rfl (lv_at hl 1 rfl) ?_
          refine lv_iload_n hx hb dX9_likeOnes_32 rfl (lv_at hl 2 rfl) ?_
          refine lv_iload hx hb dX9_likeOnes_33 (lv_at hl 4 rfl) ?_
          refine z_iadd C dX9_likeOnes_35 ?_
          refine z_iald C Hh dX9_likeOnes_36 hm (fun x5 hm => ?_)
          refine z_icmp_ne (tgt := 43) C dX9_likeOnes_37 (by decide) rfl rfl hm (fun _ hm => ?_) (fun _ hm => ?_)
          · exact K43 l3 l4 _ _ _ Hh (lv_sub hl [0, 1, 2, 3, 4] rfl) hm
          · refine z_iinc (x := l3) (k := 3) (lv' := [(3, qI (l3 + 1)), (0, qR g l0), (1, qR g l1), (2, qI l2), (4, qI l4)]) C dX9_likeOnes_40 hl rfl (by decide) rfl (fun ls hl => ?_)
            exact K43 (l3 + 1) l4 _ _ _ Hh (lv_sub hl [1, 2, 3, 0, 4] rfl) hm
  refine z_iconst C dX9_likeOnes_0 ?_
  refine lv_istore_n (lv' := [(3, qI 0), (0, qR g l0), (1, qR g l1), (2, qI l2)]) hx hb dX9_likeOnes_1 rfl hl (by decide) rfl (fun ls hl => ?_)
  refine z_iconst C dX9_likeOnes_2 ?_
  refine lv_istore (lv' := [(4, qI 0), (3, qI 0), (0, qR g l0), (1, qR g l1), (2, qI l2)]) hx hb dX9_likeOnes_3 hl (by decide) rfl (fun ls hl => ?_)
  exact KL5 FU l0 l1 l2 0 0 _ _ _ Hh (lv_sub hl [2, 3, 4, 1, 0] rfl) hm
theorem tg_X9_unlike {h : Hp} {l0 l1 l2 l3 : Int} {r : Hp × Int} (hm : M_X9_unlike h l0 l1 l2 l3 = some r) : hT h l0 = 19 := (tk_inv hm).1
set_option maxRecDepth 100000 in
set_option maxHeartbeats 4000000 in
theorem ct_X9_unlike (l : Launch) (g : zGeo) (h0 : Hp) (l0 l1 l2 l3 : Int) (r : Hp × Int) (hm : M_X9_unlike h0 l0 l1 l2 l3 = some r) : zM l yX9_unlike cX9_unlike 4 (some .int) 5 138 0 0 g h0 [qR g l0, qI l1, qI l2, qI l3] r.1 (some (qI r.2)) := by
  refine z_meth (by decide) (Nat.le_of_ble_eq_true rfl) ?_
  intro p e s m args below meth c H ls C hr hlocks hnm Hh hl
  have C : zC p m c cX9_unlike 4 s args RX9 g := C
  have hnm : meth.name = "unlike" := hnm
  have hx := C.1.1
  have hb := C.1.2.1
  have hl : lv_has ls 4 [(0, qR g l0), (1, qI l1), (2, qI l2), (3, qI l3)] := hl
  unfold M_X9_unlike at hm
  replace hm := (tk_inv hm).2
  generalize h0 = h at Hh hm
  refine lv_aload_n hx hb dX9_unlike_0 rfl (lv_at hl 0 rfl) ?_
  refine lv_iload_n hx hb dX9_unlike_1 rfl (lv_at hl 1 rfl) ?_
  refine z_cVIr (vs := [qI l1]) C (fun q hq => ct_X9_isTown l g h l0 l1 q hq) tw_784 my_X9_isTown (fun q hq => tg_X9_isTown hq) rfl hl.1 Hh ⟨Nat.le_of_ble_eq_true rfl, Nat.le_of_ble_eq_true rfl, Nat.le_of_ble_eq_true rfl, Nat.le_of_ble_eq_true rfl⟩ (Nat.le_of_ble_eq_true rfl) dX9_unlike_2 rfl hm (fun x1 H locs Hh hm => ?_)
  refine z_if_eq (tgt := 16) C dX9_unlike_5 (by decide) rfl hm (fun _ hm => ?_) (fun _ hm => ?_)
  · refine lv_aload_n hx hb dX9_unlike_16 rfl (lv_at hl 0 rfl) ?_
    refine z_iconst C dX9_unlike_17 ?_
    refine z_cVI (vs := [qI 1]) C (fun q hq => ct_X9_refused l g h l0 1 q hq) tw_507 my_X9_refused (fun q hq => tg_X9_refused hq) rfl hl.1 Hh ⟨Nat.le_of_ble_eq_true rfl, Nat.le_of_ble_eq_true rfl, Nat.le_of_ble_eq_true rfl, Nat.le_of_ble_eq_true rfl⟩ (Nat.le_of_ble_eq_true rfl) dX9_unlike_18 rfl hm (fun h x2 H locs Hh hm => ?_)
    exact z_iret C hr hlocks Hh dX9_unlike_21 hm
  · refine lv_aload_n hx hb dX9_unlike_8 rfl (lv_at hl 0 rfl) ?_
    refine lv_iload_n hx hb dX9_unlike_9 rfl (lv_at hl 2 rfl) ?_
    refine z_cVIr (vs := [qI l2]) C (fun q hq => ct_X9_isTown l g h l0 l2 q hq) tw_784 my_X9_isTown (fun q hq => tg_X9_isTown hq) rfl hl.1 Hh ⟨Nat.le_of_ble_eq_true rfl, Nat.le_of_ble_eq_true rfl, Nat.le_of_ble_eq_true rfl, Nat.le_of_ble_eq_true rfl⟩ (Nat.le_of_ble_eq_true rfl) dX9_unlike_10 rfl hm (fun x3 H locs Hh hm => ?_)
    refine z_if_ne (tgt := 22) C dX9_unlike_13 (by decide) rfl hm (fun _ hm => ?_) (fun _ hm => ?_)
    · refine lv_iload_n hx hb dX9_unlike_22 rfl (lv_at hl 3 rfl) ?_
      refine z_bipush C dX9_unlike_23 rfl ?_
      refine z_cSIr (vs := [qI l3, qI 60]) C (fun q hq => ct_X9_isBehind l g h l3 60 q hq) tw_811 my_X9_isBehind rfl hl.1 Hh ⟨Nat.le_of_ble_eq_true rfl, Nat.le_of_ble_eq_true rfl, Nat.le_of_ble_eq_true rfl, Nat.le_of_ble_eq_true rfl⟩ (Nat.le_of_ble_eq_true rfl) dX9_unlike_25 rfl hm (fun x4 H locs Hh hm => ?_)
      refine z_if_ne (tgt := 37) C dX9_unlike_28 (by decide) rfl hm (fun _ hm => ?_) (fun _ hm => ?_)
      · refine lv_aload_n hx hb dX9_unlike_37 rfl (lv_at hl 0 rfl) ?_
        refine z_getR C fl_9_52 Hh dX9_unlike_38 rfl hm (fun x5 hm => ?_)
        refine lv_aload_n hx hb dX9_unlike_41 rfl (lv_at hl 0 rfl) ?_
        refine z_getR C fl_9_30 Hh dX9_unlike_42 rfl hm (fun x6 hm => ?_)
        refine lv_iload_n hx hb dX9_unlike_45 rfl (lv_at hl 1 rfl) ?_
        refine lv_iload_n hx hb dX9_unlike_46 rfl (lv_at hl 3 rfl) ?_
        refine lv_aload_n hx hb dX9_unlike_47 rfl (lv_at hl 0 rfl) ?_
        refine z_getR C fl_9_79 Hh dX9_unlike_48 rfl hm (fun x7 hm => ?_)
        refine z_cVv (vs := [qR g x6, qI l1, qI l3, qR g x7]) C (fun q hq => ct_X0_mapBehind l g h x5 x6 l1 l3 x7 q hq) tw_892 my_X0_mapBehind (fun q hq => tg_X0_mapBehind hq) rfl hl.1 Hh ⟨Nat.le_of_ble_eq_true rfl, Nat.le_of_ble_eq_true rfl, Nat.le_of_ble_eq_true rfl, Nat.le_of_ble_eq_true rfl⟩ (Nat.le_of_ble_eq_true rfl) dX9_unlike_51 rfl hm (fun h H locs Hh hm => ?_)
        refine lv_aload_n hx hb dX9_unlike_54 rfl (lv_at hl 0 rfl) ?_
        refine z_getR C fl_9_52 Hh dX9_unlike_55 rfl hm (fun x8 hm => ?_)
        refine lv_aload_n hx hb dX9_unlike_58 rfl (lv_at hl 0 rfl) ?_
        refine z_getR C fl_9_30 Hh dX9_unlike_59 rfl hm (fun x9 hm => ?_)
        refine lv_iload_n hx hb dX9_unlike_62 rfl (lv_at hl 2 rfl) ?_
        refine lv_iload_n hx hb dX9_unlike_63 rfl (lv_at hl 3 rfl) ?_
        refine lv_aload_n hx hb dX9_unlike_64 rfl (lv_at hl 0 rfl) ?_
        refine z_getR C fl_9_75 Hh dX9_unlike_65 rfl hm (fun x10 hm => ?_)
        refine z_getR C fl_9_173 Hh dX9_unlike_68 rfl hm (fun x11 hm => ?_)
        refine z_cVv (vs := [qR g x9, qI l2, qI l3, qR g x11]) C (fun q hq => ct_X0_mapBehind l g h x8 x9 l2 l3 x11 q hq) tw_892 my_X0_mapBehind (fun q hq => tg_X0_mapBehind hq) rfl hl.1 Hh ⟨Nat.le_of_ble_eq_true rfl, Nat.le_of_ble_eq_true rfl, Nat.le_of_ble_eq_true rfl, Nat.le_of_ble_eq_true rfl⟩ (Nat.le_of_ble_eq_true rfl) dX9_unlike_71 rfl hm (fun h H locs Hh hm => ?_)
        refine lv_aload_n hx hb dX9_unlike_74 rfl (lv_at hl 0 rfl) ?_
        refine lv_aload_n hx hb dX9_unlike_75 rfl (lv_at hl 0 rfl) ?_
        refine z_getR C fl_9_30 Hh dX9_unlike_76 rfl hm (fun x12 hm => ?_)
        refine z_cVIr (vs := []) C (fun q hq => ct_X8_places l g h x12 q hq) tw_905 my_X8_places (fun q hq => tg_X8_places hq) rfl hl.1 Hh ⟨Nat.le_of_ble_eq_true rfl, Nat.le_of_ble_eq_true rfl, Nat.le_of_ble_eq_true rfl, Nat.le_of_ble_eq_true rfl⟩ (Nat.le_of_ble_eq_true rfl) dX9_unlike_79 rfl hm (fun x13 H locs Hh hm => ?_)
        refine lv_aload_n hx hb dX9_unlike_82 rfl (lv_at hl 0 rfl) ?_
        refine lv_aload_n hx hb dX9_unlike_83 rfl (lv_at hl 0 rfl) ?_
        refine z_getR C fl_9_75 Hh dX9_unlike_84 rfl hm (fun x14 hm => ?_)
        refine z_getR C fl_9_173 Hh dX9_unlike_87 rfl hm (fun x15 hm => ?_)
        refine z_iconst C dX9_unlike_90 ?_
        refine z_cVIr (vs := [qR g x15, qI 0]) C (fun q hq => ct_X9_likeOnes l g h l0 x15 0 q hq) tw_909 my_X9_likeOnes (fun q hq => tg_X9_likeOnes hq) rfl hl.1 Hh ⟨Nat.le_of_ble_eq_true rfl, Nat.le_of_ble_eq_true rfl, Nat.le_of_ble_eq_true rfl, Nat.le_of_ble_eq_true rfl⟩ (Nat.le_of_ble_eq_true rfl) dX9_unlike_91 rfl hm (fun x16 H locs Hh hm => ?_)
        refine z_isub C dX9_unlike_94 ?_
        refine z_cVI (vs := [qI (x13 - x16)]) C (fun q hq => ct_X9_answered l g h l0 (x13 - x16) q hq) tw_767 my_X9_answered (fun q hq => tg_X9_answered hq) rfl hl.1 Hh ⟨Nat.le_of_ble_eq_true rfl, Nat.le_of_ble_eq_true rfl, Nat.le_of_ble_eq_true rfl, Nat.le_of_ble_eq_true rfl⟩ (Nat.le_of_ble_eq_true rfl) dX9_unlike_95 rfl hm (fun h x17 H locs Hh hm => ?_)
        exact z_iret C hr hlocks Hh dX9_unlike_98 hm
      · refine lv_aload_n hx hb dX9_unlike_31 rfl (lv_at hl 0 rfl) ?_
        refine z_iconst C dX9_unlike_32 ?_
        refine z_cVI (vs := [qI 2]) C (fun q hq => ct_X9_refused l g h l0 2 q hq) tw_507 my_X9_refused (fun q hq => tg_X9_refused hq) rfl hl.1 Hh ⟨Nat.le_of_ble_eq_true rfl, Nat.le_of_ble_eq_true rfl, Nat.le_of_ble_eq_true rfl, Nat.le_of_ble_eq_true rfl⟩ (Nat.le_of_ble_eq_true rfl) dX9_unlike_33 rfl hm (fun h x18 H locs Hh hm => ?_)
        exact z_iret C hr hlocks Hh dX9_unlike_36 hm
    · refine lv_aload_n hx hb dX9_unlike_16 rfl (lv_at hl 0 rfl) ?_
      refine z_iconst C dX9_unlike_17 ?_
      refine z_cVI (vs := [qI 1]) C (fun q hq => ct_X9_refused l g h l0 1 q hq) tw_507 my_X9_refused (fun q hq => tg_X9_refused hq) rfl hl.1 Hh ⟨Nat.le_of_ble_eq_true rfl, Nat.le_of_ble_eq_true rfl, Nat.le_of_ble_eq_true rfl, Nat.le_of_ble_eq_true rfl⟩ (Nat.le_of_ble_eq_true rfl) dX9_unlike_18 rfl hm (fun h x19 H locs Hh hm => ?_)
      exact z_iret C hr hlocks Hh dX9_unlike_21 hm
theorem tg_X9_trueOnes {h : Hp} {l0 l1 l2 : Int} {r : Hp × Int} (hm : M_X9_trueOnes h l0 l1 l2 = some r) : hT h l0 = 19 := (tk_inv hm).1
set_option maxRecDepth 100000 in
set_option maxHeartbeats 4000000 in
theorem ct_X9_trueOnes (l : Launch) (g : zGeo) (h0 : Hp) (l0 l1 l2 : Int) (r : Hp × Int) (hm : M_X9_trueOnes h0 l0 l1 l2 = some r) : zM l yX9_trueOnes cX9_trueOnes 3 (some .int) 5 138 0 0 g h0 [qR g l0, qI l1, qI l2] r.1 (some (qI r.2)) := by
  refine z_meth (by decide) (Nat.le_of_ble_eq_true rfl) ?_
  intro p e s m args below meth c H ls C hr hlocks hnm Hh hl
  have C : zC p m c cX9_trueOnes 3 s args RX9 g := C
  have hnm : meth.name = "trueOnes" := hnm
  have hx := C.1.1
  have hb := C.1.2.1
  have hl : lv_has ls 3 [(0, qR g l0), (1, qI l1), (2, qI l2)] := hl
  unfold M_X9_trueOnes at hm
  replace hm := (tk_inv hm).2
  generalize h0 = h at Hh hm
  refine lv_aload_n hx hb dX9_trueOnes_0 rfl (lv_at hl 0 rfl) ?_
  refine lv_iload_n hx hb dX9_trueOnes_1 rfl (lv_at hl 1 rfl) ?_
  refine z_cVIr (vs := [qI l1]) C (fun q hq => ct_X9_isTown l g h l0 l1 q hq) tw_784 my_X9_isTown (fun q hq => tg_X9_isTown hq) rfl hl.1 Hh ⟨Nat.le_of_ble_eq_true rfl, Nat.le_of_ble_eq_true rfl, Nat.le_of_ble_eq_true rfl, Nat.le_of_ble_eq_true rfl⟩ (Nat.le_of_ble_eq_true rfl) dX9_trueOnes_2 rfl hm (fun x1 H locs Hh hm => ?_)
  refine z_if_ne (tgt := 14) C dX9_trueOnes_5 (by decide) rfl hm (fun _ hm => ?_) (fun _ hm => ?_)
  · refine lv_iload_n hx hb dX9_trueOnes_14 rfl (lv_at hl 2 rfl) ?_
    refine z_bipush C dX9_trueOnes_15 rfl ?_
    refine z_cSIr (vs := [qI l2, qI 60]) C (fun q hq => ct_X9_isBehind l g h l2 60 q hq) tw_811 my_X9_isBehind rfl hl.1 Hh ⟨Nat.le_of_ble_eq_true rfl, Nat.le_of_ble_eq_true rfl, Nat.le_of_ble_eq_true rfl, Nat.le_of_ble_eq_true rfl⟩ (Nat.le_of_ble_eq_true rfl) dX9_trueOnes_17 rfl hm (fun x2 H locs Hh hm => ?_)
    refine z_if_ne (tgt := 29) C dX9_trueOnes_20 (by decide) rfl hm (fun _ hm => ?_) (fun _ hm => ?_)
    · refine lv_aload_n hx hb dX9_trueOnes_29 rfl (lv_at hl 0 rfl) ?_
      refine z_getR C fl_9_52 Hh dX9_trueOnes_30 rfl hm (fun x3 hm => ?_)
      refine lv_aload_n hx hb dX9_trueOnes_33 rfl (lv_at hl 0 rfl) ?_
      refine z_getR C fl_9_30 Hh dX9_trueOnes_34 rfl hm (fun x4 hm => ?_)
      refine lv_iload_n hx hb dX9_trueOnes_37 rfl (lv_at hl 1 rfl) ?_
      refine lv_iload_n hx hb dX9_trueOnes_38 rfl (lv_at hl 2 rfl) ?_
      refine lv_aload_n hx hb dX9_trueOnes_39 rfl (lv_at hl 0 rfl) ?_
      refine z_getR C fl_9_79 Hh dX9_trueOnes_40 rfl hm (fun x5 hm => ?_)
      refine z_cVv (vs := [qR g x4, qI l1, qI l2, qR g x5]) C (fun q hq => ct_X0_mapBehind l g h x3 x4 l1 l2 x5 q hq) tw_892 my_X0_mapBehind (fun q hq => tg_X0_mapBehind hq) rfl hl.1 Hh ⟨Nat.le_of_ble_eq_true rfl, Nat.le_of_ble_eq_true rfl, Nat.le_of_ble_eq_true rfl, Nat.le_of_ble_eq_true rfl⟩ (Nat.le_of_ble_eq_true rfl) dX9_trueOnes_43 rfl hm (fun h H locs Hh hm => ?_)
      refine lv_aload_n hx hb dX9_trueOnes_46 rfl (lv_at hl 0 rfl) ?_
      refine lv_aload_n hx hb dX9_trueOnes_47 rfl (lv_at hl 0 rfl) ?_
      refine lv_aload_n hx hb dX9_trueOnes_48 rfl (lv_at hl 0 rfl) ?_
      refine z_getR C fl_9_20 Hh dX9_trueOnes_49 rfl hm (fun x6 hm => ?_)
      refine z_getR C fl_9_117 Hh dX9_trueOnes_52 rfl hm (fun x7 hm => ?_)
      refine z_getR C fl_9_149 Hh dX9_trueOnes_55 rfl hm (fun x8 hm => ?_)
      refine z_bipush C dX9_trueOnes_58 rfl ?_
      refine lv_iload_n hx hb dX9_trueOnes_60 rfl (lv_at hl 1 rfl) ?_
      refine z_imul C dX9_trueOnes_61 ?_
      refine z_cVIr (vs := [qR g x8, qI (36 * l1)]) C (fun q hq => ct_X9_likeOnes l g h l0 x8 (36 * l1) q hq) tw_909 my_X9_likeOnes (fun q hq => tg_X9_likeOnes hq) rfl hl.1 Hh ⟨Nat.le_of_ble_eq_true rfl, Nat.le_of_ble_eq_true rfl, Nat.le_of_ble_eq_true rfl, Nat.le_of_ble_eq_true rfl⟩ (Nat.le_of_ble_eq_true rfl) dX9_trueOnes_62 rfl hm (fun x9 H locs Hh hm => ?_)
      refine z_cVI (vs := [qI x9]) C (fun q hq => ct_X9_answered l g h l0 x9 q hq) tw_767 my_X9_answered (fun q hq => tg_X9_answered hq) rfl hl.1 Hh ⟨Nat.le_of_ble_eq_true rfl, Nat.le_of_ble_eq_true rfl, Nat.le_of_ble_eq_true rfl, Nat.le_of_ble_eq_true rfl⟩ (Nat.le_of_ble_eq_true rfl) dX9_trueOnes_65 rfl hm (fun h x10 H locs Hh hm => ?_)
      exact z_iret C hr hlocks Hh dX9_trueOnes_68 hm
    · refine lv_aload_n hx hb dX9_trueOnes_23 rfl (lv_at hl 0 rfl) ?_
      refine z_iconst C dX9_trueOnes_24 ?_
      refine z_cVI (vs := [qI 2]) C (fun q hq => ct_X9_refused l g h l0 2 q hq) tw_507 my_X9_refused (fun q hq => tg_X9_refused hq) rfl hl.1 Hh ⟨Nat.le_of_ble_eq_true rfl, Nat.le_of_ble_eq_true rfl, Nat.le_of_ble_eq_true rfl, Nat.le_of_ble_eq_true rfl⟩ (Nat.le_of_ble_eq_true rfl) dX9_trueOnes_25 rfl hm (fun h x11 H locs Hh hm => ?_)
      exact z_iret C hr hlocks Hh dX9_trueOnes_28 hm
  · refine lv_aload_n hx hb dX9_trueOnes_8 rfl (lv_at hl 0 rfl) ?_
    refine z_iconst C dX9_trueOnes_9 ?_
    refine z_cVI (vs := [qI 1]) C (fun q hq => ct_X9_refused l g h l0 1 q hq) tw_507 my_X9_refused (fun q hq => tg_X9_refused hq) rfl hl.1 Hh ⟨Nat.le_of_ble_eq_true rfl, Nat.le_of_ble_eq_true rfl, Nat.le_of_ble_eq_true rfl, Nat.le_of_ble_eq_true rfl⟩ (Nat.le_of_ble_eq_true rfl) dX9_trueOnes_10 rfl hm (fun h x12 H locs Hh hm => ?_)
    exact z_iret C hr hlocks Hh dX9_trueOnes_13 hm
theorem tg_X9_when {h : Hp} {l0 l1 l2 l3 : Int} {r : Hp × Int} (hm : M_X9_when h l0 l1 l2 l3 = some r) : hT h l0 = 19 := (tk_inv hm).1
set_option maxRecDepth 100000 in
set_option maxHeartbeats 4000000 in
theorem ct_X9_when (l : Launch) (g : zGeo) (h0 : Hp) (l0 l1 l2 l3 : Int) (r : Hp × Int) (hm : M_X9_when h0 l0 l1 l2 l3 = some r) : zM l yX9_when cX9_when 6 (some .int) 5 137 0 0 g h0 [qR g l0, qI l1, qI l2, qI l3] r.1 (some (qI r.2)) := by
  refine z_meth (by decide) (Nat.le_of_ble_eq_true rfl) ?_
  intro p e s m args below meth c H ls C hr hlocks hnm Hh hl
  have C : zC p m c cX9_when 6 s args RX9 g := C
  have hnm : meth.name = "when" := hnm
  have hx := C.1.1
  have hb := C.1.2.1
  have hl : lv_has ls 6 [(0, qR g l0), (1, qI l1), (2, qI l2), (3, qI l3)] := hl
  unfold M_X9_when at hm
  replace hm := (tk_inv hm).2
  generalize h0 = h at Hh hm
  have K100 : ∀ (h : Hp) (l0 : Int) (H : Heap) (locs : List Loc) (ls : Array Slot), zH g s h H locs → lv_has ls 6 [(0, qR g l0)] → M_X9_when_p100 h l0 = some r → W p l e { frames := 5, cells := 0, slots := 0, locals := 137 } s m args below meth c H locs 0 0 (zQ below g r.1 (some (qI r.2)) args s 0 0) (F0 m 100 ls []) := by
    intro h l0  H locs ls Hh hl hm
    unfold M_X9_when_p100 at hm
    refine lv_aload_n hx hb dX9_when_100 rfl (lv_at hl 0 rfl) ?_
    refine z_bipush C dX9_when_101 rfl ?_
    refine z_cVI (vs := [qI (-2)]) C (fun q hq => ct_X9_answered l g h l0 (-2) q hq) tw_767 my_X9_answered (fun q hq => tg_X9_answered hq) rfl hl.1 Hh ⟨Nat.le_of_ble_eq_true rfl, Nat.le_of_ble_eq_true rfl, Nat.le_of_ble_eq_true rfl, Nat.le_of_ble_eq_true rfl⟩ (Nat.le_of_ble_eq_true rfl) dX9_when_103 rfl hm (fun h x1 H locs Hh hm => ?_)
    exact z_iret C hr hlocks Hh dX9_when_106 hm
  have KL55 : ∀ (n : Nat) (h : Hp) (l0 l3 l4 l5 : Int) (H : Heap) (locs : List Loc) (ls : Array Slot), zH g s h H locs → lv_has ls 6 [(0, qR g l0), (3, qI l3), (4, qI l4), (5, qI l5)] → M_X9_when_w55 n h l0 l3 l4 l5 = some r → W p l e { frames := 5, cells := 0, slots := 0, locals := 137 } s m args below meth c H locs 0 0 (zQ below g r.1 (some (qI r.2)) args s 0 0) (F0 m 55 ls []) := by
    intro n
    induction n with
    | zero => intro h l0 l3 l4 l5 H locs ls Hh hl hm; cases hm
    | succ n ih55 =>
      intro h l0 l3 l4 l5 H locs ls Hh hl hm
      obtain ⟨z55, hm, hc55⟩ := wh_inv hm
      have hm : M_X9_when_b55 h l0 l3 l4 l5 = some z55 := hm
      unfold M_X9_when_b55 at hm
      refine lv_iload hx hb dX9_when_55 (lv_at hl 3 rfl) ?_
      refine z_bipush C dX9_when_57 rfl ?_
      refine z_icmp_gt (tgt := 100) C dX9_when_59 (by decide) rfl lq_p60 hm (fun _ hm => ?_) (fun _ hm => ?_)
      · cases hm
        exact K100 h l0 _ _ _ Hh (lv_sub hl [0] rfl) hc55
      · refine lv_aload_n hx hb dX9_when_62 rfl (lv_at hl 0 rfl) ?_
        refine z_getR C fl_9_34 Hh dX9_when_63 rfl hm (fun x2 hm => ?_)
        refine z_getR C fl_9_149 Hh dX9_when_66 rfl hm (fun x3 hm => ?_)
        refine lv_iload hx hb dX9_when_69 (lv_at hl 2 rfl) ?_
        refine z_iald C Hh dX9_when_71 hm (fun x4 hm => ?_)
        refine lv_iload_n hx hb dX9_when_72 rfl (lv_at hl 1 rfl) ?_
        refine z_icmp_ne (tgt := 83) C dX9_when_73 (by decide) rfl rfl hm (fun _ hm => ?_) (fun _ hm => ?_)
        · refine lv_aload_n hx hb dX9_when_83 rfl (lv_at hl 0 rfl) ?_
          refine z_getR C fl_9_34 Hh dX9_when_84 rfl hm (fun x5 hm => ?_)
          refine lv_aload_n hx hb dX9_when_87 rfl (lv_at hl 0 rfl) ?_
          refine z_getR C fl_9_82 Hh dX9_when_88 rfl hm (fun x6 hm => ?_)
          refine z_cVv (vs := [qR g x6]) C (fun q hq => ct_X8_goOn l g h x5 x6 q hq) tw_921 my_X8_goOn (fun q hq => tg_X8_goOn hq) rfl hl.1 Hh ⟨Nat.le_of_ble_eq_true rfl, Nat.le_of_ble_eq_true rfl, Nat.le_of_ble_eq_true rfl, Nat.le_of_ble_eq_true rfl⟩ (Nat.le_of_ble_eq_true rfl) dX9_when_91 rfl hm (fun h H locs Hh hm => ?_)
          refine z_iinc (x := l5) (k := 3) (lv' := [(5, qI (l5 + 1)), (0, qR g l0), (3, qI l3), (4, qI l4)]) C dX9_when_94 hl rfl (by decide) rfl (fun ls hl => ?_)
          refine lv_goto (tgt := 55) hx hb dX9_when_97 (by decide) ?_
          cases hm
          exact ih55 h l0 l3 l4 (l5 + 1) _ _ _ Hh (lv_sub hl [1, 2, 3, 0] rfl) hc55
        · refine lv_aload_n hx hb dX9_when_76 rfl (lv_at hl 0 rfl) ?_
          refine lv_iload hx hb dX9_when_77 (lv_at hl 3 rfl) ?_
          refine z_cVI (vs := [qI l5]) C (fun q hq => ct_X9_answered l g h l0 l5 q hq) tw_767 my_X9_answered (fun q hq => tg_X9_answered hq) rfl hl.1 Hh ⟨Nat.le_of_ble_eq_true rfl, Nat.le_of_ble_eq_true rfl, Nat.le_of_ble_eq_true rfl, Nat.le_of_ble_eq_true rfl⟩ (Nat.le_of_ble_eq_true rfl) dX9_when_79 rfl hm (fun h x7 H locs Hh hm => ?_)
          cases hm
          have hm := hc55
          exact z_iret C hr hlocks Hh dX9_when_82 hm
  refine lv_aload_n hx hb dX9_when_0 rfl (lv_at hl 0 rfl) ?_
  refine lv_iload_n hx hb dX9_when_1 rfl (lv_at hl 1 rfl) ?_
  refine z_cVIr (vs := [qI l1]) C (fun q hq => ct_X9_isTown l g h l0 l1 q hq) tw_784 my_X9_isTown (fun q hq => tg_X9_isTown hq) rfl hl.1 Hh ⟨Nat.le_of_ble_eq_true rfl, Nat.le_of_ble_eq_true rfl, Nat.le_of_ble_eq_true rfl, Nat.le_of_ble_eq_true rfl⟩ (Nat.le_of_ble_eq_true rfl) dX9_when_2 rfl hm (fun x8 H locs Hh hm => ?_)
  refine z_if_eq (tgt := 24) C dX9_when_5 (by decide) rfl hm (fun _ hm => ?_) (fun _ hm => ?_)
  · refine lv_aload_n hx hb dX9_when_24 rfl (lv_at hl 0 rfl) ?_
    refine z_iconst C dX9_when_25 ?_
    refine z_cVI (vs := [qI 1]) C (fun q hq => ct_X9_refused l g h l0 1 q hq) tw_507 my_X9_refused (fun q hq => tg_X9_refused hq) rfl hl.1 Hh ⟨Nat.le_of_ble_eq_true rfl, Nat.le_of_ble_eq_true rfl, Nat.le_of_ble_eq_true rfl, Nat.le_of_ble_eq_true rfl⟩ (Nat.le_of_ble_eq_true rfl) dX9_when_26 rfl hm (fun h x9 H locs Hh hm => ?_)
    exact z_iret C hr hlocks Hh dX9_when_29 hm
  · refine lv_aload_n hx hb dX9_when_8 rfl (lv_at hl 0 rfl) ?_
    refine lv_iload_n hx hb dX9_when_9 rfl (lv_at hl 2 rfl) ?_
    refine z_cVIr (vs := [qI l2]) C (fun q hq => ct_X9_isPlace l g h l0 l2 q hq) tw_796 my_X9_isPlace (fun q hq => tg_X9_isPlace hq) rfl hl.1 Hh ⟨Nat.le_of_ble_eq_true rfl, Nat.le_of_ble_eq_true rfl, Nat.le_of_ble_eq_true rfl, Nat.le_of_ble_eq_true rfl⟩ (Nat.le_of_ble_eq_true rfl) dX9_when_10 rfl hm (fun x10 H locs Hh hm => ?_)
    refine z_if_eq (tgt := 24) C dX9_when_13 (by decide) rfl hm (fun _ hm => ?_) (fun _ hm => ?_)
    · refine lv_aload_n hx hb dX9_when_24 rfl (lv_at hl 0 rfl) ?_
      refine z_iconst C dX9_when_25 ?_
      refine z_cVI (vs := [qI 1]) C (fun q hq => ct_X9_refused l g h l0 1 q hq) tw_507 my_X9_refused (fun q hq => tg_X9_refused hq) rfl hl.1 Hh ⟨Nat.le_of_ble_eq_true rfl, Nat.le_of_ble_eq_true rfl, Nat.le_of_ble_eq_true rfl, Nat.le_of_ble_eq_true rfl⟩ (Nat.le_of_ble_eq_true rfl) dX9_when_26 rfl hm (fun h x11 H locs Hh hm => ?_)
      exact z_iret C hr hlocks Hh dX9_when_29 hm
    · refine lv_aload_n hx hb dX9_when_16 rfl (lv_at hl 0 rfl) ?_
      refine lv_iload_n hx hb dX9_when_17 rfl (lv_at hl 3 rfl) ?_
      refine z_cVIr (vs := [qI l3]) C (fun q hq => ct_X9_isMark l g h l0 l3 q hq) tw_888 my_X9_isMark (fun q hq => tg_X9_isMark hq) rfl hl.1 Hh ⟨Nat.le_of_ble_eq_true rfl, Nat.le_of_ble_eq_true rfl, Nat.le_of_ble_eq_true rfl, Nat.le_of_ble_eq_true rfl⟩ (Nat.le_of_ble_eq_true rfl) dX9_when_18 rfl hm (fun x12 H locs Hh hm => ?_)
      refine z_if_ne (tgt := 30) C dX9_when_21 (by decide) rfl hm (fun _ hm => ?_) (fun _ hm => ?_)
      · refine lv_aload_n hx hb dX9_when_30 rfl (lv_at hl 0 rfl) ?_
        refine z_getR C fl_9_34 Hh dX9_when_31 rfl hm (fun x13 hm => ?_)
        refine lv_aload_n hx hb dX9_when_34 rfl (lv_at hl 0 rfl) ?_
        refine z_getR C fl_9_30 Hh dX9_when_35 rfl hm (fun x14 hm => ?_)
        refine z_cVv (vs := [qR g x14]) C (fun q hq => ct_X8_become l g h x13 x14 q hq) tw_756 my_X8_become (fun q hq => tg_X8_become hq) rfl hl.1 Hh ⟨Nat.le_of_ble_eq_true rfl, Nat.le_of_ble_eq_true rfl, Nat.le_of_ble_eq_true rfl, Nat.le_of_ble_eq_true rfl⟩ (Nat.le_of_ble_eq_true rfl) dX9_when_38 rfl hm (fun h H locs Hh hm => ?_)
        refine z_bipush C dX9_when_41 rfl ?_
        refine lv_iload_n hx hb dX9_when_43 rfl (lv_at hl 1 rfl) ?_
        refine z_imul C dX9_when_44 ?_
        refine lv_iload_n hx hb dX9_when_45 rfl (lv_at hl 2 rfl) ?_
        refine z_cSIr (vs := [qI l2]) C (fun q hq => ct_X9_inner l g h l2 q hq) tw_800 my_X9_inner rfl hl.1 Hh ⟨Nat.le_of_ble_eq_true rfl, Nat.le_of_ble_eq_true rfl, Nat.le_of_ble_eq_true rfl, Nat.le_of_ble_eq_true rfl⟩ (Nat.le_of_ble_eq_true rfl) dX9_when_46 rfl hm (fun x15 H locs Hh hm => ?_)
        refine z_iadd C dX9_when_49 ?_
        refine lv_istore (lv' := [(4, qI ((36 * l1) + x15)), (0, qR g l0), (1, qI l1), (2, qI l2), (3, qI l3)]) hx hb dX9_when_50 hl (by decide) rfl (fun ls hl => ?_)
        refine z_iconst C dX9_when_52 ?_
        refine lv_istore (lv' := [(5, qI 0), (4, qI ((36 * l1) + x15)), (0, qR g l0), (1, qI l1), (2, qI l2), (3, qI l3)]) hx hb dX9_when_53 hl (by decide) rfl (fun ls hl => ?_)
        exact KL55 FU h l0 l3 ((36 * l1) + x15) 0 _ _ _ Hh (lv_sub hl [2, 5, 1, 0] rfl) hm
      · refine lv_aload_n hx hb dX9_when_24 rfl (lv_at hl 0 rfl) ?_
        refine z_iconst C dX9_when_25 ?_
        refine z_cVI (vs := [qI 1]) C (fun q hq => ct_X9_refused l g h l0 1 q hq) tw_507 my_X9_refused (fun q hq => tg_X9_refused hq) rfl hl.1 Hh ⟨Nat.le_of_ble_eq_true rfl, Nat.le_of_ble_eq_true rfl, Nat.le_of_ble_eq_true rfl, Nat.le_of_ble_eq_true rfl⟩ (Nat.le_of_ble_eq_true rfl) dX9_when_26 rfl hm (fun h x16 H locs Hh hm => ?_)
        exact z_iret C hr hlocks Hh dX9_when_29 hm
theorem tg_X9_surveyBehind {h : Hp} {l0 l1 l2 l3 : Int} {r : Hp} (hm : M_X9_surveyBehind h l0 l1 l2 l3 = some r) : hT h l0 = 19 := (tk_inv hm).1
set_option maxRecDepth 100000 in
set_option maxHeartbeats 4000000 in
theorem ct_X9_surveyBehind (l : Launch) (g : zGeo) (h0 : Hp) (l0 l1 l2 l3 : Int) (r : Hp) (hm : M_X9_surveyBehind h0 l0 l1 l2 l3 = some r) : zM l yX9_surveyBehind cX9_surveyBehind 4 none 5 138 0 0 g h0 [qR g l0, qI l1, qI l2, qI l3] r none := by
  refine z_meth (by decide) (Nat.le_of_ble_eq_true rfl) ?_
  intro p e s m args below meth c H ls C hr hlocks hnm Hh hl
  have C : zC p m c cX9_surveyBehind 4 s args RX9 g := C
  have hnm : meth.name = "surveyBehind" := hnm
  have hx := C.1.1
  have hb := C.1.2.1
  have hl : lv_has ls 4 [(0, qR g l0), (1, qI l1), (2, qI l2), (3, qI l3)] := hl
  unfold M_X9_surveyBehind at hm
  replace hm := (tk_inv hm).2
  generalize h0 = h at Hh hm
  refine lv_aload_n hx hb dX9_surveyBehind_0 rfl (lv_at hl 0 rfl) ?_
  refine z_getR C fl_9_52 Hh dX9_surveyBehind_1 rfl hm (fun x1 hm => ?_)
  refine lv_aload_n hx hb dX9_surveyBehind_4 rfl (lv_at hl 0 rfl) ?_
  refine z_getR C fl_9_30 Hh dX9_surveyBehind_5 rfl hm (fun x2 hm => ?_)
  refine lv_iload_n hx hb dX9_surveyBehind_8 rfl (lv_at hl 1 rfl) ?_
  refine lv_iload_n hx hb dX9_surveyBehind_9 rfl (lv_at hl 3 rfl) ?_
  refine lv_aload_n hx hb dX9_surveyBehind_10 rfl (lv_at hl 0 rfl) ?_
  refine z_getR C fl_9_75 Hh dX9_surveyBehind_11 rfl hm (fun x3 hm => ?_)
  refine z_getR C fl_9_173 Hh dX9_surveyBehind_14 rfl hm (fun x4 hm => ?_)
  refine z_cVv (vs := [qR g x2, qI l1, qI l3, qR g x4]) C (fun q hq => ct_X0_mapBehind l g h x1 x2 l1 l3 x4 q hq) tw_892 my_X0_mapBehind (fun q hq => tg_X0_mapBehind hq) rfl hl.1 Hh ⟨Nat.le_of_ble_eq_true rfl, Nat.le_of_ble_eq_true rfl, Nat.le_of_ble_eq_true rfl, Nat.le_of_ble_eq_true rfl⟩ (Nat.le_of_ble_eq_true rfl) dX9_surveyBehind_17 rfl hm (fun h H locs Hh hm => ?_)
  refine lv_aload_n hx hb dX9_surveyBehind_20 rfl (lv_at hl 0 rfl) ?_
  refine z_getR C fl_9_75 Hh dX9_surveyBehind_21 rfl hm (fun x5 hm => ?_)
  refine lv_aload_n hx hb dX9_surveyBehind_24 rfl (lv_at hl 0 rfl) ?_
  refine z_getR C fl_9_30 Hh dX9_surveyBehind_25 rfl hm (fun x6 hm => ?_)
  refine lv_iload_n hx hb dX9_surveyBehind_28 rfl (lv_at hl 2 rfl) ?_
  refine z_cVv (vs := [qR g x6, qI l2]) C (fun q hq => ct_X2_survey l g h x5 x6 l2 q hq) tw_940 my_X2_survey (fun q hq => tg_X2_survey hq) rfl hl.1 Hh ⟨Nat.le_of_ble_eq_true rfl, Nat.le_of_ble_eq_true rfl, Nat.le_of_ble_eq_true rfl, Nat.le_of_ble_eq_true rfl⟩ (Nat.le_of_ble_eq_true rfl) dX9_surveyBehind_29 rfl hm (fun h H locs Hh hm => ?_)
  exact z_vret C hr hlocks Hh dX9_surveyBehind_32 hm
theorem tg_X9_areas {h : Hp} {l0 l1 l2 l3 : Int} {r : Hp × Int} (hm : M_X9_areas h l0 l1 l2 l3 = some r) : hT h l0 = 19 := (tk_inv hm).1
set_option maxRecDepth 100000 in
set_option maxHeartbeats 4000000 in
theorem ct_X9_areas (l : Launch) (g : zGeo) (h0 : Hp) (l0 l1 l2 l3 : Int) (r : Hp × Int) (hm : M_X9_areas h0 l0 l1 l2 l3 = some r) : zM l yX9_areas cX9_areas 4 (some .int) 6 161 0 0 g h0 [qR g l0, qI l1, qI l2, qI l3] r.1 (some (qI r.2)) := by
  refine z_meth (by decide) (Nat.le_of_ble_eq_true rfl) ?_
  intro p e s m args below meth c H ls C hr hlocks hnm Hh hl
  have C : zC p m c cX9_areas 4 s args RX9 g := C
  have hnm : meth.name = "areas" := hnm
  have hx := C.1.1
  have hb := C.1.2.1
  have hl : lv_has ls 4 [(0, qR g l0), (1, qI l1), (2, qI l2), (3, qI l3)] := hl
  unfold M_X9_areas at hm
  replace hm := (tk_inv hm).2
  generalize h0 = h at Hh hm
  refine lv_aload_n hx hb dX9_areas_0 rfl (lv_at hl 0 rfl) ?_
  refine lv_iload_n hx hb dX9_areas_1 rfl (lv_at hl 1 rfl) ?_
  refine z_cVIr (vs := [qI l1]) C (fun q hq => ct_X9_isTown l g h l0 l1 q hq) tw_784 my_X9_isTown (fun q hq => tg_X9_isTown hq) rfl hl.1 Hh ⟨Nat.le_of_ble_eq_true rfl, Nat.le_of_ble_eq_true rfl, Nat.le_of_ble_eq_true rfl, Nat.le_of_ble_eq_true rfl⟩ (Nat.le_of_ble_eq_true rfl) dX9_areas_2 rfl hm (fun x1 H locs Hh hm => ?_)
  refine z_if_eq (tgt := 16) C dX9_areas_5 (by decide) rfl hm (fun _ hm => ?_) (fun _ hm => ?_)
  · refine lv_aload_n hx hb dX9_areas_16 rfl (lv_at hl 0 rfl) ?_
    refine z_iconst C dX9_areas_17 ?_
    refine z_cVI (vs := [qI 1]) C (fun q hq => ct_X9_refused l g h l0 1 q hq) tw_507 my_X9_refused (fun q hq => tg_X9_refused hq) rfl hl.1 Hh ⟨Nat.le_of_ble_eq_true rfl, Nat.le_of_ble_eq_true rfl, Nat.le_of_ble_eq_true rfl, Nat.le_of_ble_eq_true rfl⟩ (Nat.le_of_ble_eq_true rfl) dX9_areas_18 rfl hm (fun h x2 H locs Hh hm => ?_)
    exact z_iret C hr hlocks Hh dX9_areas_21 hm
  · refine lv_aload_n hx hb dX9_areas_8 rfl (lv_at hl 0 rfl) ?_
    refine lv_iload_n hx hb dX9_areas_9 rfl (lv_at hl 2 rfl) ?_
    refine z_cVIr (vs := [qI l2]) C (fun q hq => ct_X9_isMark l g h l0 l2 q hq) tw_888 my_X9_isMark (fun q hq => tg_X9_isMark hq) rfl hl.1 Hh ⟨Nat.le_of_ble_eq_true rfl, Nat.le_of_ble_eq_true rfl, Nat.le_of_ble_eq_true rfl, Nat.le_of_ble_eq_true rfl⟩ (Nat.le_of_ble_eq_true rfl) dX9_areas_10 rfl hm (fun x3 H locs Hh hm => ?_)
    refine z_if_ne (tgt := 22) C dX9_areas_13 (by decide) rfl hm (fun _ hm => ?_) (fun _ hm => ?_)
    · refine lv_iload_n hx hb dX9_areas_22 rfl (lv_at hl 3 rfl) ?_
      refine z_bipush C dX9_areas_23 rfl ?_
      refine z_cSIr (vs := [qI l3, qI 60]) C (fun q hq => ct_X9_isBehind l g h l3 60 q hq) tw_811 my_X9_isBehind rfl hl.1 Hh ⟨Nat.le_of_ble_eq_true rfl, Nat.le_of_ble_eq_true rfl, Nat.le_of_ble_eq_true rfl, Nat.le_of_ble_eq_true rfl⟩ (Nat.le_of_ble_eq_true rfl) dX9_areas_25 rfl hm (fun x4 H locs Hh hm => ?_)
      refine z_if_ne (tgt := 37) C dX9_areas_28 (by decide) rfl hm (fun _ hm => ?_) (fun _ hm => ?_)
      · refine lv_aload_n hx hb dX9_areas_37 rfl (lv_at hl 0 rfl) ?_
        refine lv_iload_n hx hb dX9_areas_38 rfl (lv_at hl 1 rfl) ?_
        refine lv_iload_n hx hb dX9_areas_39 rfl (lv_at hl 2 rfl) ?_
        refine lv_iload_n hx hb dX9_areas_40 rfl (lv_at hl 3 rfl) ?_
        refine z_cVv (vs := [qI l1, qI l2, qI l3]) C (fun q hq => ct_X9_surveyBehind l g h l0 l1 l2 l3 q hq) tw_936 my_X9_surveyBehind (fun q hq => tg_X9_surveyBehind hq) rfl hl.1 Hh ⟨Nat.le_of_ble_eq_true rfl, Nat.le_of_ble_eq_true rfl, Nat.le_of_ble_eq_true rfl, Nat.le_of_ble_eq_true rfl⟩ (Nat.le_of_ble_eq_true rfl) dX9_areas_41 rfl hm (fun h H locs Hh hm => ?_)
        refine lv_aload_n hx hb dX9_areas_44 rfl (lv_at hl 0 rfl) ?_
        refine lv_aload_n hx hb dX9_areas_45 rfl (lv_at hl 0 rfl) ?_
        refine z_getR C fl_9_75 Hh dX9_areas_46 rfl hm (fun x5 hm => ?_)
        refine z_getI C fl_9_192 Hh dX9_areas_49 rfl hm (fun x6 hm => ?_)
        refine z_cVI (vs := [qI x6]) C (fun q hq => ct_X9_answered l g h l0 x6 q hq) tw_767 my_X9_answered (fun q hq => tg_X9_answered hq) rfl hl.1 Hh ⟨Nat.le_of_ble_eq_true rfl, Nat.le_of_ble_eq_true rfl, Nat.le_of_ble_eq_true rfl, Nat.le_of_ble_eq_true rfl⟩ (Nat.le_of_ble_eq_true rfl) dX9_areas_52 rfl hm (fun h x7 H locs Hh hm => ?_)
        exact z_iret C hr hlocks Hh dX9_areas_55 hm
      · refine lv_aload_n hx hb dX9_areas_31 rfl (lv_at hl 0 rfl) ?_
        refine z_iconst C dX9_areas_32 ?_
        refine z_cVI (vs := [qI 2]) C (fun q hq => ct_X9_refused l g h l0 2 q hq) tw_507 my_X9_refused (fun q hq => tg_X9_refused hq) rfl hl.1 Hh ⟨Nat.le_of_ble_eq_true rfl, Nat.le_of_ble_eq_true rfl, Nat.le_of_ble_eq_true rfl, Nat.le_of_ble_eq_true rfl⟩ (Nat.le_of_ble_eq_true rfl) dX9_areas_33 rfl hm (fun h x8 H locs Hh hm => ?_)
        exact z_iret C hr hlocks Hh dX9_areas_36 hm
    · refine lv_aload_n hx hb dX9_areas_16 rfl (lv_at hl 0 rfl) ?_
      refine z_iconst C dX9_areas_17 ?_
      refine z_cVI (vs := [qI 1]) C (fun q hq => ct_X9_refused l g h l0 1 q hq) tw_507 my_X9_refused (fun q hq => tg_X9_refused hq) rfl hl.1 Hh ⟨Nat.le_of_ble_eq_true rfl, Nat.le_of_ble_eq_true rfl, Nat.le_of_ble_eq_true rfl, Nat.le_of_ble_eq_true rfl⟩ (Nat.le_of_ble_eq_true rfl) dX9_areas_18 rfl hm (fun h x9 H locs Hh hm => ?_)
      exact z_iret C hr hlocks Hh dX9_areas_21 hm
theorem tg_X9_largest {h : Hp} {l0 l1 l2 l3 : Int} {r : Hp × Int} (hm : M_X9_largest h l0 l1 l2 l3 = some r) : hT h l0 = 19 := (tk_inv hm).1
set_option maxRecDepth 100000 in
set_option maxHeartbeats 4000000 in
theorem ct_X9_largest (l : Launch) (g : zGeo) (h0 : Hp) (l0 l1 l2 l3 : Int) (r : Hp × Int) (hm : M_X9_largest h0 l0 l1 l2 l3 = some r) : zM l yX9_largest cX9_largest 4 (some .int) 6 161 0 0 g h0 [qR g l0, qI l1, qI l2, qI l3] r.1 (some (qI r.2)) := by
  refine z_meth (by decide) (Nat.le_of_ble_eq_true rfl) ?_
  intro p e s m args below meth c H ls C hr hlocks hnm Hh hl
  have C : zC p m c cX9_largest 4 s args RX9 g := C
  have hnm : meth.name = "largest" := hnm
  have hx := C.1.1
  have hb := C.1.2.1
  have hl : lv_has ls 4 [(0, qR g l0), (1, qI l1), (2, qI l2), (3, qI l3)] := hl
  unfold M_X9_largest at hm
  replace hm := (tk_inv hm).2
  generalize h0 = h at Hh hm
  refine lv_aload_n hx hb dX9_largest_0 rfl (lv_at hl 0 rfl) ?_
  refine lv_iload_n hx hb dX9_largest_1 rfl (lv_at hl 1 rfl) ?_
  refine z_cVIr (vs := [qI l1]) C (fun q hq => ct_X9_isTown l g h l0 l1 q hq) tw_784 my_X9_isTown (fun q hq => tg_X9_isTown hq) rfl hl.1 Hh ⟨Nat.le_of_ble_eq_true rfl, Nat.le_of_ble_eq_true rfl, Nat.le_of_ble_eq_true rfl, Nat.le_of_ble_eq_true rfl⟩ (Nat.le_of_ble_eq_true rfl) dX9_largest_2 rfl hm (fun x1 H locs Hh hm => ?_)
  refine z_if_eq (tgt := 16) C dX9_largest_5 (by decide) rfl hm (fun _ hm => ?_) (fun _ hm => ?_)
  · refine lv_aload_n hx hb dX9_largest_16 rfl (lv_at hl 0 rfl) ?_
    refine z_iconst C dX9_largest_17 ?_
    refine z_cVI (vs := [qI 1]) C (fun q hq => ct_X9_refused l g h l0 1 q hq) tw_507 my_X9_refused (fun q hq => tg_X9_refused hq) rfl hl.1 Hh ⟨Nat.le_of_ble_eq_true rfl, Nat.le_of_ble_eq_true rfl, Nat.le_of_ble_eq_true rfl, Nat.le_of_ble_eq_true rfl⟩ (Nat.le_of_ble_eq_true rfl) dX9_largest_18 rfl hm (fun h x2 H locs Hh hm => ?_)
    exact z_iret C hr hlocks Hh dX9_largest_21 hm
  · refine lv_aload_n hx hb dX9_largest_8 rfl (lv_at hl 0 rfl) ?_
    refine lv_iload_n hx hb dX9_largest_9 rfl (lv_at hl 2 rfl) ?_
    refine z_cVIr (vs := [qI l2]) C (fun q hq => ct_X9_isMark l g h l0 l2 q hq) tw_888 my_X9_isMark (fun q hq => tg_X9_isMark hq) rfl hl.1 Hh ⟨Nat.le_of_ble_eq_true rfl, Nat.le_of_ble_eq_true rfl, Nat.le_of_ble_eq_true rfl, Nat.le_of_ble_eq_true rfl⟩ (Nat.le_of_ble_eq_true rfl) dX9_largest_10 rfl hm (fun x3 H locs Hh hm => ?_)
    refine z_if_ne (tgt := 22) C dX9_largest_13 (by decide) rfl hm (fun _ hm => ?_) (fun _ hm => ?_)
    · refine lv_iload_n hx hb dX9_largest_22 rfl (lv_at hl 3 rfl) ?_
      refine z_bipush C dX9_largest_23 rfl ?_
      refine z_cSIr (vs := [qI l3, qI 60]) C (fun q hq => ct_X9_isBehind l g h l3 60 q hq) tw_811 my_X9_isBehind rfl hl.1 Hh ⟨Nat.le_of_ble_eq_true rfl, Nat.le_of_ble_eq_true rfl, Nat.le_of_ble_eq_true rfl, Nat.le_of_ble_eq_true rfl⟩ (Nat.le_of_ble_eq_true rfl) dX9_largest_25 rfl hm (fun x4 H locs Hh hm => ?_)
      refine z_if_ne (tgt := 37) C dX9_largest_28 (by decide) rfl hm (fun _ hm => ?_) (fun _ hm => ?_)
      · refine lv_aload_n hx hb dX9_largest_37 rfl (lv_at hl 0 rfl) ?_
        refine lv_iload_n hx hb dX9_largest_38 rfl (lv_at hl 1 rfl) ?_
        refine lv_iload_n hx hb dX9_largest_39 rfl (lv_at hl 2 rfl) ?_
        refine lv_iload_n hx hb dX9_largest_40 rfl (lv_at hl 3 rfl) ?_
        refine z_cVv (vs := [qI l1, qI l2, qI l3]) C (fun q hq => ct_X9_surveyBehind l g h l0 l1 l2 l3 q hq) tw_936 my_X9_surveyBehind (fun q hq => tg_X9_surveyBehind hq) rfl hl.1 Hh ⟨Nat.le_of_ble_eq_true rfl, Nat.le_of_ble_eq_true rfl, Nat.le_of_ble_eq_true rfl, Nat.le_of_ble_eq_true rfl⟩ (Nat.le_of_ble_eq_true rfl) dX9_largest_41 rfl hm (fun h H locs Hh hm => ?_)
        refine lv_aload_n hx hb dX9_largest_44 rfl (lv_at hl 0 rfl) ?_
        refine lv_aload_n hx hb dX9_largest_45 rfl (lv_at hl 0 rfl) ?_
        refine z_getR C fl_9_75 Hh dX9_largest_46 rfl hm (fun x5 hm => ?_)
        refine z_getI C fl_9_195 Hh dX9_largest_49 rfl hm (fun x6 hm => ?_)
        refine z_cVI (vs := [qI x6]) C (fun q hq => ct_X9_answered l g h l0 x6 q hq) tw_767 my_X9_answered (fun q hq => tg_X9_answered hq) rfl hl.1 Hh ⟨Nat.le_of_ble_eq_true rfl, Nat.le_of_ble_eq_true rfl, Nat.le_of_ble_eq_true rfl, Nat.le_of_ble_eq_true rfl⟩ (Nat.le_of_ble_eq_true rfl) dX9_largest_52 rfl hm (fun h x7 H locs Hh hm => ?_)
        exact z_iret C hr hlocks Hh dX9_largest_55 hm
      · refine lv_aload_n hx hb dX9_largest_31 rfl (lv_at hl 0 rfl) ?_
        refine z_iconst C dX9_largest_32 ?_
        refine z_cVI (vs := [qI 2]) C (fun q hq => ct_X9_refused l g h l0 2 q hq) tw_507 my_X9_refused (fun q hq => tg_X9_refused hq) rfl hl.1 Hh ⟨Nat.le_of_ble_eq_true rfl, Nat.le_of_ble_eq_true rfl, Nat.le_of_ble_eq_true rfl, Nat.le_of_ble_eq_true rfl⟩ (Nat.le_of_ble_eq_true rfl) dX9_largest_33 rfl hm (fun h x8 H locs Hh hm => ?_)
        exact z_iret C hr hlocks Hh dX9_largest_36 hm
    · refine lv_aload_n hx hb dX9_largest_16 rfl (lv_at hl 0 rfl) ?_
      refine z_iconst C dX9_largest_17 ?_
      refine z_cVI (vs := [qI 1]) C (fun q hq => ct_X9_refused l g h l0 1 q hq) tw_507 my_X9_refused (fun q hq => tg_X9_refused hq) rfl hl.1 Hh ⟨Nat.le_of_ble_eq_true rfl, Nat.le_of_ble_eq_true rfl, Nat.le_of_ble_eq_true rfl, Nat.le_of_ble_eq_true rfl⟩ (Nat.le_of_ble_eq_true rfl) dX9_largest_18 rfl hm (fun h x9 H locs Hh hm => ?_)
      exact z_iret C hr hlocks Hh dX9_largest_21 hm
set_option maxRecDepth 100000 in
set_option maxHeartbeats 4000000 in
theorem ct_X9_commonDivisor (l : Launch) (g : zGeo) (h : Hp) (l0 l2 : Int) (r : Int) (hm : M_X9_commonDivisor h l0 l2 = some r) : zM l yX9_commonDivisor cX9_commonDivisor 11 (some .long) 0 0 0 0 g h [qJ l0, qJ l2] h (some (qJ r)) := by
  refine z_meth (by decide) (Nat.le_of_ble_eq_true rfl) ?_
  intro p e s m args below meth c H ls C hr hlocks hnm Hh hl
  have C : zC p m c cX9_commonDivisor 11 s args RX9 g := C
  have hnm : meth.name = "commonDivisor" := hnm
  have hx := C.1.1
  have hb := C.1.2.1
  have hl : lv_has ls 11 [(0, qJ l0), (2, qJ l2)] := hl
  unfold M_X9_commonDivisor at hm
  have K45 : ∀  (l4 : Int) (H : Heap) (locs : List Loc) (ls : Array Slot), zH g s h H locs → lv_has ls 11 [(4, qJ l4)] → M_X9_commonDivisor_p45 h l4 = some r → W p l e { frames := 0, cells := 0, slots := 0, locals := 0 } s m args below meth c H locs 0 0 (zQ below g h (some (qJ r)) args s 0 0) (F0 m 45 ls []) := by
    intro l4  H locs ls Hh hl hm
    unfold M_X9_commonDivisor_p45 at hm
    refine lv_lload hx hb dX9_commonDivisor_45 (lv_at hl 0 rfl) ?_
    refine z_lconst (v := 0) C dX9_commonDivisor_47 rfl ?_
    refine z_lcmp C dX9_commonDivisor_48 ?_
    refine z_if_le (tgt := 57) C dX9_commonDivisor_49 (by decide) rfl hm (fun _ hm => ?_) (fun _ hm => ?_)
    · refine z_lconst (v := 1) C dX9_commonDivisor_57 rfl ?_
      exact z_lretR C hr hlocks Hh dX9_commonDivisor_58 hm
    · refine lv_lload hx hb dX9_commonDivisor_52 (lv_at hl 0 rfl) ?_
      refine lv_goto (tgt := 58) hx hb dX9_commonDivisor_54 (by decide) ?_
      exact z_lretR C hr hlocks Hh dX9_commonDivisor_58 hm
  have KL9 : ∀ (n : Nat)  (l4 l6 l8 : Int) (H : Heap) (locs : List Loc) (ls : Array Slot), zH g s h H locs → lv_has ls 11 [(4, qJ l4), (6, qJ l6), (8, qI l8)] → M_X9_commonDivisor_w9 n h l4 l6 l8 = some r → W p l e { frames := 0, cells := 0, slots := 0, locals := 0 } s m args below meth c H locs 0 0 (zQ below g h (some (qJ r)) args s 0 0) (F0 m 9 ls []) := by
    intro n
    induction n with
    | zero => intro l4 l6 l8 H locs ls Hh hl hm; cases hm
    | succ n ih9 =>
      intro l4 l6 l8 H locs ls Hh hl hm
      obtain ⟨z9, hm, hc9⟩ := wh_inv hm
      have hm : M_X9_commonDivisor_b9 h l4 l6 l8 = some z9 := hm
      unfold M_X9_commonDivisor_b9 at hm
      refine lv_iload hx hb dX9_commonDivisor_9 (lv_at hl 2 rfl) ?_
      refine z_sipush C dX9_commonDivisor_11 rfl ?_
      refine z_icmp_ge (tgt := 45) C dX9_commonDivisor_14 (by decide) rfl lq_p200 hm (fun _ hm => ?_) (fun _ hm => ?_)
      · cases hm
        exact K45 l4 _ _ _ Hh (lv_sub hl [0] rfl) hc9
      · refine lv_lload hx hb dX9_commonDivisor_17 (lv_at hl 1 rfl) ?_
        refine z_lconst (v := 0) C dX9_commonDivisor_19 rfl ?_
        refine z_lcmp C dX9_commonDivisor_20 ?_
        refine z_if_le (tgt := 45) C dX9_commonDivisor_21 (by decide) rfl hm (fun _ hm => ?_) (fun _ hm => ?_)
        · cases hm
          exact K45 l4 _ _ _ Hh (lv_sub hl [0] rfl) hc9
        · refine lv_lload hx hb dX9_commonDivisor_24 (lv_at hl 0 rfl) ?_
          refine lv_lload hx hb dX9_commonDivisor_26 (lv_at hl 1 rfl) ?_
          refine z_lrem C dX9_commonDivisor_28 hm (fun x1 hm => ?_)
          refine lv_lstore (lv' := [(9, qJ x1), (4, qJ l4), (6, qJ l6), (8, qI l8)]) hx hb dX9_commonDivisor_29 hl (by decide) rfl (fun ls hl => ?_)
          refine lv_lload hx hb dX9_commonDivisor_31 (lv_at hl 2 rfl) ?_
          refine lv_lstore (lv' := [(4, qJ l6), (9, qJ x1), (6, qJ l6), (8, qI l8)]) hx hb dX9_commonDivisor_33 hl (by decide) rfl (fun ls hl => ?_)
          refine lv_lload hx hb dX9_commonDivisor_35 (lv_at hl 1 rfl) ?_
          refine lv_lstore (lv' := [(6, qJ x1), (4, qJ l6), (9, qJ x1), (8, qI l8)]) hx hb dX9_commonDivisor_37 hl (by decide) rfl (fun ls hl => ?_)
          refine z_iinc (x := l8) (k := 3) (lv' := [(8, qI (l8 + 1)), (6, qJ x1), (4, qJ l6), (9, qJ x1)]) C dX9_commonDivisor_39 hl rfl (by decide) rfl (fun ls hl => ?_)
          refine lv_goto (tgt := 9) hx hb dX9_commonDivisor_42 (by decide) ?_
          cases hm
          exact ih9 l6 x1 (l8 + 1) _ _ _ Hh (lv_sub hl [2, 1, 0] rfl) hc9
  refine lv_lload_n hx hb dX9_commonDivisor_0 rfl (lv_at hl 0 rfl) ?_
  refine lv_lstore (lv' := [(4, qJ l0), (0, qJ l0), (2, qJ l2)]) hx hb dX9_commonDivisor_1 hl (by decide) rfl (fun ls hl => ?_)
  refine lv_lload_n hx hb dX9_commonDivisor_3 rfl (lv_at hl 2 rfl) ?_
  refine lv_lstore (lv' := [(6, qJ l2), (4, qJ l0), (0, qJ l0), (2, qJ l2)]) hx hb dX9_commonDivisor_4 hl (by decide) rfl (fun ls hl => ?_)
  refine z_iconst C dX9_commonDivisor_6 ?_
  refine lv_istore (lv' := [(8, qI 0), (6, qJ l2), (4, qJ l0), (0, qJ l0), (2, qJ l2)]) hx hb dX9_commonDivisor_7 hl (by decide) rfl (fun ls hl => ?_)
  exact KL9 FU l0 l2 0 _ _ _ Hh (lv_sub hl [2, 1, 0] rfl) hm
theorem tg_X9_scale {h : Hp} {l0 l1 l2 l3 : Int} {r : Hp × Int} (hm : M_X9_scale h l0 l1 l2 l3 = some r) : hT h l0 = 19 := (tk_inv hm).1
set_option maxRecDepth 100000 in
set_option maxHeartbeats 4000000 in
theorem ct_X9_scale (l : Launch) (g : zGeo) (h0 : Hp) (l0 l1 l2 l3 : Int) (r : Hp × Int) (hm : M_X9_scale h0 l0 l1 l2 l3 = some r) : zM l yX9_scale cX9_scale 11 (some .long) 1 30 0 0 g h0 [qR g l0, qI l1, qI l2, qI l3] r.1 (some (qJ r.2)) := by
  refine z_meth (by decide) (Nat.le_of_ble_eq_true rfl) ?_
  intro p e s m args below meth c H ls C hr hlocks hnm Hh hl
  have C : zC p m c cX9_scale 11 s args RX9 g := C
  have hnm : meth.name = "scale" := hnm
  have hx := C.1.1
  have hb := C.1.2.1
  have hl : lv_has ls 11 [(0, qR g l0), (1, qI l1), (2, qI l2), (3, qI l3)] := hl
  unfold M_X9_scale at hm
  replace hm := (tk_inv hm).2
  generalize h0 = h at Hh hm
  have K116 : ∀ (h : Hp) (l0 l3 l4 l6 : Int) (H : Heap) (locs : List Loc) (ls : Array Slot), zH g s h H locs → lv_has ls 11 [(0, qR g l0), (3, qI l3), (4, qJ l4), (6, qJ l6)] → M_X9_scale_p116 h l0 l3 l4 l6 = some r → W p l e { frames := 1, cells := 0, slots := 0, locals := 30 } s m args below meth c H locs 0 0 (zQ below g r.1 (some (qJ r.2)) args s 0 0) (F0 m 116 ls []) := by
    intro h l0 l3 l4 l6  H locs ls Hh hl hm
    unfold M_X9_scale_p116 at hm
    refine lv_lload hx hb dX9_scale_116 (lv_at hl 2 rfl) ?_
    refine lv_lload hx hb dX9_scale_118 (lv_at hl 3 rfl) ?_
    refine z_cSJr (vs := [qJ l4, qJ l6]) C (fun q hq => ct_X9_commonDivisor l g h l4 l6 q hq) tw_960 my_X9_commonDivisor rfl hl.1 Hh ⟨Nat.le_of_ble_eq_true rfl, Nat.le_of_ble_eq_true rfl, Nat.le_of_ble_eq_true rfl, Nat.le_of_ble_eq_true rfl⟩ (Nat.le_of_ble_eq_true rfl) dX9_scale_120 rfl hm (fun x1 H locs Hh hm => ?_)
    refine lv_lstore (lv' := [(9, qJ x1), (0, qR g l0), (3, qI l3), (4, qJ l4), (6, qJ l6)]) hx hb dX9_scale_123 hl (by decide) rfl (fun ls hl => ?_)
    refine lv_aload_n hx hb dX9_scale_125 rfl (lv_at hl 1 rfl) ?_
    refine z_iconst C dX9_scale_126 ?_
    refine z_cVI (vs := [qI 0]) C (fun q hq => ct_X9_answered l g h l0 0 q hq) tw_767 my_X9_answered (fun q hq => tg_X9_answered hq) rfl hl.1 Hh ⟨Nat.le_of_ble_eq_true rfl, Nat.le_of_ble_eq_true rfl, Nat.le_of_ble_eq_true rfl, Nat.le_of_ble_eq_true rfl⟩ (Nat.le_of_ble_eq_true rfl) dX9_scale_127 rfl hm (fun h x2 H locs Hh hm => ?_)
    refine lv_pop hx hb dX9_scale_130 rfl ?_
    refine lv_iload_n hx hb dX9_scale_131 rfl (lv_at hl 2 rfl) ?_
    refine z_if_eq (tgt := 140) C dX9_scale_132 (by decide) rfl hm (fun _ hm => ?_) (fun _ hm => ?_)
    · refine lv_lload hx hb dX9_scale_140 (lv_at hl 3 rfl) ?_
      refine lv_lload hx hb dX9_scale_142 (lv_at hl 0 rfl) ?_
      refine z_ldiv C dX9_scale_144 hm (fun x3 hm => ?_)
      exact z_lret C hr hlocks Hh dX9_scale_145 hm
    · refine lv_lload hx hb dX9_scale_135 (lv_at hl 4 rfl) ?_
      refine lv_goto (tgt := 142) hx hb dX9_scale_137 (by decide) ?_
      refine lv_lload hx hb dX9_scale_142 (lv_at hl 0 rfl) ?_
      refine z_ldiv C dX9_scale_144 hm (fun x4 hm => ?_)
      exact z_lret C hr hlocks Hh dX9_scale_145 hm
  have KL43 : ∀ (n : Nat) (h : Hp) (l0 l3 l4 l6 l8 l9 : Int) (H : Heap) (locs : List Loc) (ls : Array Slot), zH g s h H locs → lv_has ls 11 [(0, qR g l0), (3, qI l3), (4, qJ l4), (6, qJ l6), (8, qI l8), (9, qI l9)] → M_X9_scale_w43 n h l0 l3 l4 l6 l8 l9 = some r → W p l e { frames := 1, cells := 0, slots := 0, locals := 30 } s m args below meth c H locs 0 0 (zQ below g r.1 (some (qJ r.2)) args s 0 0) (F0 m 43 ls []) := by
    intro n
    induction n with
    | zero => intro h l0 l3 l4 l6 l8 l9 H locs ls Hh hl hm; cases hm
    | succ n ih43 =>
      intro h l0 l3 l4 l6 l8 l9 H locs ls Hh hl hm
      obtain ⟨z43, hm, hc43⟩ := wh_inv hm
      have hm : M_X9_scale_b43 h l0 l3 l4 l6 l8 l9 = some z43 := hm
      have K98 : ∀  (l4 l6 l8 l9 : Int) (H : Heap) (locs : List Loc) (ls : Array Slot), zH g s h H locs → lv_has ls 11 [(0, qR g l0), (3, qI l3), (4, qJ l4), (6, qJ l6), (8, qI l8), (9, qI l9)] → M_X9_scale_p98 h l0 l3 l4 l6 l8 l9 = some z43 → W p l e { frames := 1, cells := 0, slots := 0, locals := 30 } s m args below meth c H locs 0 0 (zQ below g r.1 (some (qJ r.2)) args s 0 0) (F0 m 98 ls []) := by
        intro l4 l6 l8 l9  H locs ls Hh hl hm
        unfold M_X9_scale_p98 at hm
        refine lv_aload_n hx hb dX9_scale_98 rfl (lv_at hl 0 rfl) ?_
        refine z_getR C fl_9_30 Hh dX9_scale_99 rfl hm (fun x5 hm => ?_)
        refine z_getR C fl_9_140 Hh dX9_scale_102 rfl hm (fun x6 hm => ?_)
        refine lv_iload hx hb dX9_scale_105 (lv_at hl 4 rfl) ?_
        refine z_iald C Hh dX9_scale_107 hm (fun x7 hm => ?_)
        refine lv_istore (lv' := [(8, qI x7), (0, qR g l0), (3, qI l3), (4, qJ l4), (6, qJ l6), (9, qI l9)]) hx hb dX9_scale_108 hl (by decide) rfl (fun ls hl => ?_)
        refine z_iinc (x := l9) (k := 5) (lv' := [(9, qI (l9 + (-1))), (8, qI x7), (0, qR g l0), (3, qI l3), (4, qJ l4), (6, qJ l6)]) C dX9_scale_110 hl rfl (by decide) rfl (fun ls hl => ?_)
        refine lv_goto (tgt := 43) hx hb dX9_scale_113 (by decide) ?_
        cases hm
        exact ih43 h l0 l3 l4 l6 x7 (l9 + (-1)) _ _ _ Hh (lv_sub hl [2, 3, 4, 5, 1, 0] rfl) hc43
      unfold M_X9_scale_b43 at hm
      refine lv_iload hx hb dX9_scale_43 (lv_at hl 5 rfl) ?_
      refine z_if_le (tgt := 116) C dX9_scale_45 (by decide) rfl hm (fun _ hm => ?_) (fun _ hm => ?_)
      · cases hm
        exact K116 h l0 l3 l4 l6 _ _ _ Hh (lv_sub hl [0, 1, 2, 3] rfl) hc43
      · refine lv_iload hx hb dX9_scale_48 (lv_at hl 4 rfl) ?_
        refine z_if_lt (tgt := 116) C dX9_scale_50 (by decide) rfl hm (fun _ hm => ?_) (fun _ hm => ?_)
        · cases hm
          exact K116 h l0 l3 l4 l6 _ _ _ Hh (lv_sub hl [0, 1, 2, 3] rfl) hc43
        · refine lv_aload_n hx hb dX9_scale_53 rfl (lv_at hl 0 rfl) ?_
          refine z_getR C fl_9_30 Hh dX9_scale_54 rfl hm (fun x8 hm => ?_)
          refine z_getR C fl_9_143 Hh dX9_scale_57 rfl hm (fun x9 hm => ?_)
          refine z_iconst C dX9_scale_60 ?_
          refine lv_iload hx hb dX9_scale_61 (lv_at hl 4 rfl) ?_
          refine z_imul C dX9_scale_63 ?_
          refine z_iald C Hh dX9_scale_64 hm (fun x10 hm => ?_)
          refine z_bipush C dX9_scale_65 rfl ?_
          refine z_icmp_ne (tgt := 98) C dX9_scale_67 (by decide) rfl lq_p8 hm (fun _ hm => ?_) (fun _ hm => ?_)
          · exact K98 l4 l6 l8 l9 _ _ _ Hh (lv_sub hl [0, 1, 2, 3, 4, 5] rfl) hm
          · refine lv_lload hx hb dX9_scale_70 (lv_at hl 2 rfl) ?_
            refine lv_aload_n hx hb dX9_scale_72 rfl (lv_at hl 0 rfl) ?_
            refine z_getR C fl_9_30 Hh dX9_scale_73 rfl hm (fun x11 hm => ?_)
            refine z_getR C fl_9_143 Hh dX9_scale_76 rfl hm (fun x12 hm => ?_)
            refine z_iconst C dX9_scale_79 ?_
            refine lv_iload hx hb dX9_scale_80 (lv_at hl 4 rfl) ?_
            refine z_imul C dX9_scale_82 ?_
            refine z_iconst C dX9_scale_83 ?_
            refine z_iadd C dX9_scale_84 ?_
            refine z_iald C Hh dX9_scale_85 hm (fun x13 hm => ?_)
            refine z_i2l C dX9_scale_86 ?_
            refine z_lmul C dX9_scale_87 ?_
            refine lv_lstore (lv' := [(4, qJ (l4 * (w32 x13))), (0, qR g l0), (3, qI l3), (6, qJ l6), (8, qI l8), (9, qI l9)]) hx hb dX9_scale_88 hl (by decide) rfl (fun ls hl => ?_)
            refine lv_lload hx hb dX9_scale_90 (lv_at hl 3 rfl) ?_
            refine z_ldc2 (v := 10) C dX9_scale_92 tw_959 rfl ?_
            refine z_lmul C dX9_scale_95 ?_
            refine lv_lstore (lv' := [(6, qJ (l6 * 10)), (4, qJ (l4 * (w32 x13))), (0, qR g l0), (3, qI l3), (8, qI l8), (9, qI l9)]) hx hb dX9_scale_96 hl (by decide) rfl (fun ls hl => ?_)
            exact K98 (l4 * (w32 x13)) (l6 * 10) l8 l9 _ _ _ Hh (lv_sub hl [2, 3, 1, 0, 4, 5] rfl) hm
  refine lv_aload_n hx hb dX9_scale_0 rfl (lv_at hl 0 rfl) ?_
  refine lv_iload_n hx hb dX9_scale_1 rfl (lv_at hl 1 rfl) ?_
  refine z_cVIr (vs := [qI l1]) C (fun q hq => ct_X9_isTown l g h l0 l1 q hq) tw_784 my_X9_isTown (fun q hq => tg_X9_isTown hq) rfl hl.1 Hh ⟨Nat.le_of_ble_eq_true rfl, Nat.le_of_ble_eq_true rfl, Nat.le_of_ble_eq_true rfl, Nat.le_of_ble_eq_true rfl⟩ (Nat.le_of_ble_eq_true rfl) dX9_scale_2 rfl hm (fun x14 H locs Hh hm => ?_)
  refine z_if_ne (tgt := 15) C dX9_scale_5 (by decide) rfl hm (fun _ hm => ?_) (fun _ hm => ?_)
  · refine lv_iload_n hx hb dX9_scale_15 rfl (lv_at hl 2 rfl) ?_
    refine z_bipush C dX9_scale_16 rfl ?_
    refine z_cSIr (vs := [qI l2, qI 12]) C (fun q hq => ct_X9_isBehind l g h l2 12 q hq) tw_811 my_X9_isBehind rfl hl.1 Hh ⟨Nat.le_of_ble_eq_true rfl, Nat.le_of_ble_eq_true rfl, Nat.le_of_ble_eq_true rfl, Nat.le_of_ble_eq_true rfl⟩ (Nat.le_of_ble_eq_true rfl) dX9_scale_18 rfl hm (fun x15 H locs Hh hm => ?_)
    refine z_if_ne (tgt := 31) C dX9_scale_21 (by decide) rfl hm (fun _ hm => ?_) (fun _ hm => ?_)
    · refine z_lconst (v := 1) C dX9_scale_31 rfl ?_
      refine lv_lstore (lv' := [(4, qJ 1), (0, qR g l0), (1, qI l1), (2, qI l2), (3, qI l3)]) hx hb dX9_scale_32 hl (by decide) rfl (fun ls hl => ?_)
      refine z_lconst (v := 1) C dX9_scale_34 rfl ?_
      refine lv_lstore (lv' := [(6, qJ 1), (4, qJ 1), (0, qR g l0), (1, qI l1), (2, qI l2), (3, qI l3)]) hx hb dX9_scale_35 hl (by decide) rfl (fun ls hl => ?_)
      refine lv_iload_n hx hb dX9_scale_37 rfl (lv_at hl 3 rfl) ?_
      refine lv_istore (lv' := [(8, qI l1), (6, qJ 1), (4, qJ 1), (0, qR g l0), (1, qI l1), (2, qI l2), (3, qI l3)]) hx hb dX9_scale_38 hl (by decide) rfl (fun ls hl => ?_)
      refine lv_iload_n hx hb dX9_scale_40 rfl (lv_at hl 5 rfl) ?_
      refine lv_istore (lv' := [(9, qI l2), (8, qI l1), (6, qJ 1), (4, qJ 1), (0, qR g l0), (1, qI l1), (2, qI l2), (3, qI l3)]) hx hb dX9_scale_41 hl (by decide) rfl (fun ls hl => ?_)
      exact KL43 FU h l0 l3 1 1 l1 l2 _ _ _ Hh (lv_sub hl [4, 7, 3, 2, 1, 0] rfl) hm
    · refine lv_aload_n hx hb dX9_scale_24 rfl (lv_at hl 0 rfl) ?_
      refine z_iconst C dX9_scale_25 ?_
      refine z_cVI (vs := [qI 2]) C (fun q hq => ct_X9_refused l g h l0 2 q hq) tw_507 my_X9_refused (fun q hq => tg_X9_refused hq) rfl hl.1 Hh ⟨Nat.le_of_ble_eq_true rfl, Nat.le_of_ble_eq_true rfl, Nat.le_of_ble_eq_true rfl, Nat.le_of_ble_eq_true rfl⟩ (Nat.le_of_ble_eq_true rfl) dX9_scale_26 rfl hm (fun h x16 H locs Hh hm => ?_)
      refine z_i2l C dX9_scale_29 ?_
      exact z_lret C hr hlocks Hh dX9_scale_30 hm
  · refine lv_aload_n hx hb dX9_scale_8 rfl (lv_at hl 0 rfl) ?_
    refine z_iconst C dX9_scale_9 ?_
    refine z_cVI (vs := [qI 1]) C (fun q hq => ct_X9_refused l g h l0 1 q hq) tw_507 my_X9_refused (fun q hq => tg_X9_refused hq) rfl hl.1 Hh ⟨Nat.le_of_ble_eq_true rfl, Nat.le_of_ble_eq_true rfl, Nat.le_of_ble_eq_true rfl, Nat.le_of_ble_eq_true rfl⟩ (Nat.le_of_ble_eq_true rfl) dX9_scale_10 rfl hm (fun h x17 H locs Hh hm => ?_)
    refine z_i2l C dX9_scale_13 ?_
    exact z_lret C hr hlocks Hh dX9_scale_14 hm
theorem tg_X9_roundLength {h : Hp} {l0 : Int} {r : Hp × Int} (hm : M_X9_roundLength h l0 = some r) : hT h l0 = 19 := (tk_inv hm).1
set_option maxRecDepth 100000 in
set_option maxHeartbeats 4000000 in
theorem ct_X9_roundLength (l : Launch) (g : zGeo) (h0 : Hp) (l0 : Int) (r : Hp × Int) (hm : M_X9_roundLength h0 l0 = some r) : zM l yX9_roundLength cX9_roundLength 4 (some .int) 5 137 0 0 g h0 [qR g l0] r.1 (some (qI r.2)) := by
  refine z_meth (by decide) (Nat.le_of_ble_eq_true rfl) ?_
  intro p e s m args below meth c H ls C hr hlocks hnm Hh hl
  have C : zC p m c cX9_roundLength 4 s args RX9 g := C
  have hnm : meth.name = "roundLength" := hnm
  have hx := C.1.1
  have hb := C.1.2.1
  have hl : lv_has ls 4 [(0, qR g l0)] := hl
  unfold M_X9_roundLength at hm
  replace hm := (tk_inv hm).2
  generalize h0 = h at Hh hm
  have K93 : ∀ (h : Hp) (H : Heap) (locs : List Loc) (ls : Array Slot), zH g s h H locs → lv_has ls 4 [] → M_X9_roundLength_p93 h = some r → W p l e { frames := 5, cells := 0, slots := 0, locals := 137 } s m args below meth c H locs 0 0 (zQ below g r.1 (some (qI r.2)) args s 0 0) (F0 m 93 ls []) := by
    intro h  H locs ls Hh hl hm
    unfold M_X9_roundLength_p93 at hm
    refine z_iconst C dX9_roundLength_93 ?_
    exact z_iret C hr hlocks Hh dX9_roundLength_94 hm
  have KL28 : ∀ (n : Nat) (h : Hp) (l0 l1 l2 l3 : Int) (H : Heap) (locs : List Loc) (ls : Array Slot), zH g s h H locs → lv_has ls 4 [(0, qR g l0), (1, qI l1), (2, qI l2), (3, qI l3)] → M_X9_roundLength_w28 n h l0 l1 l2 l3 = some r → W p l e { frames := 5, cells := 0, slots := 0, locals := 137 } s m args below meth c H locs 0 0 (zQ below g r.1 (some (qI r.2)) args s 0 0) (F0 m 28 ls []) := by
    intro n
    induction n with
    | zero => intro h l0 l1 l2 l3 H locs ls Hh hl hm; cases hm
    | succ n ih28 =>
      intro h l0 l1 l2 l3 H locs ls Hh hl hm
      obtain ⟨z28, hm, hc28⟩ := wh_inv hm
      have hm : M_X9_roundLength_b28 h l0 l1 l2 l3 = some z28 := hm
      have K87 : ∀ (h : Hp) (l1 l2 l3 : Int) (H : Heap) (locs : List Loc) (ls : Array Slot), zH g s h H locs → lv_has ls 4 [(0, qR g l0), (1, qI l1), (2, qI l2), (3, qI l3)] → M_X9_roundLength_p87 h l0 l1 l2 l3 = some z28 → W p l e { frames := 5, cells := 0, slots := 0, locals := 137 } s m args below meth c H locs 0 0 (zQ below g r.1 (some (qI r.2)) args s 0 0) (F0 m 87 ls []) := by
        intro h l1 l2 l3  H locs ls Hh hl hm
        unfold M_X9_roundLength_p87 at hm
        refine z_iinc (x := l3) (k := 3) (lv' := [(3, qI (l3 + 1)), (0, qR g l0), (1, qI l1), (2, qI l2)]) C dX9_roundLength_87 hl rfl (by decide) rfl (fun ls hl => ?_)
        refine lv_goto (tgt := 28) hx hb dX9_roundLength_90 (by decide) ?_
        cases hm
        exact ih28 h l0 l1 l2 (l3 + 1) _ _ _ Hh (lv_sub hl [1, 2, 3, 0] rfl) hc28
      unfold M_X9_roundLength_b28 at hm
      refine lv_iload_n hx hb dX9_roundLength_28 rfl (lv_at hl 3 rfl) ?_
      refine z_sipush C dX9_roundLength_29 rfl ?_
      refine z_icmp_ge (tgt := 93) C dX9_roundLength_32 (by decide) rfl lq_p1000 hm (fun _ hm => ?_) (fun _ hm => ?_)
      · cases hm
        exact K93 h _ _ _ Hh (lv_sub hl [] rfl) hc28
      · refine lv_aload_n hx hb dX9_roundLength_35 rfl (lv_at hl 0 rfl) ?_
        refine z_getR C fl_9_37 Hh dX9_roundLength_36 rfl hm (fun x1 hm => ?_)
        refine lv_aload_n hx hb dX9_roundLength_39 rfl (lv_at hl 0 rfl) ?_
        refine z_getR C fl_9_82 Hh dX9_roundLength_40 rfl hm (fun x2 hm => ?_)
        refine z_cVv (vs := [qR g x2]) C (fun q hq => ct_X8_goOn l g h x1 x2 q hq) tw_921 my_X8_goOn (fun q hq => tg_X8_goOn hq) rfl hl.1 Hh ⟨Nat.le_of_ble_eq_true rfl, Nat.le_of_ble_eq_true rfl, Nat.le_of_ble_eq_true rfl, Nat.le_of_ble_eq_true rfl⟩ (Nat.le_of_ble_eq_true rfl) dX9_roundLength_43 rfl hm (fun h H locs Hh hm => ?_)
        refine z_iinc (x := l1) (k := 1) (lv' := [(1, qI (l1 + 1)), (0, qR g l0), (2, qI l2), (3, qI l3)]) C dX9_roundLength_46 hl rfl (by decide) rfl (fun ls hl => ?_)
        refine lv_aload_n hx hb dX9_roundLength_49 rfl (lv_at hl 1 rfl) ?_
        refine z_getR C fl_9_37 Hh dX9_roundLength_50 rfl hm (fun x3 hm => ?_)
        refine lv_aload_n hx hb dX9_roundLength_53 rfl (lv_at hl 1 rfl) ?_
        refine z_getR C fl_9_34 Hh dX9_roundLength_54 rfl hm (fun x4 hm => ?_)
        refine z_cVIr (vs := [qR g x4]) C (fun q hq => ct_X8_looksLike l g h x3 x4 q hq) tw_972 my_X8_looksLike (fun q hq => tg_X8_looksLike hq) rfl hl.1 Hh ⟨Nat.le_of_ble_eq_true rfl, Nat.le_of_ble_eq_true rfl, Nat.le_of_ble_eq_true rfl, Nat.le_of_ble_eq_true rfl⟩ (Nat.le_of_ble_eq_true rfl) dX9_roundLength_57 rfl hm (fun x5 H locs Hh hm => ?_)
        refine z_if_eq (tgt := 65) C dX9_roundLength_60 (by decide) rfl hm (fun _ hm => ?_) (fun _ hm => ?_)
        · refine lv_iload_n hx hb dX9_roundLength_65 rfl (lv_at hl 0 rfl) ?_
          refine lv_iload_n hx hb dX9_roundLength_66 rfl (lv_at hl 2 rfl) ?_
          refine z_icmp_ne (tgt := 87) C dX9_roundLength_67 (by decide) rfl rfl hm (fun _ hm => ?_) (fun _ hm => ?_)
          · exact K87 h (l1 + 1) l2 l3 _ _ _ Hh (lv_sub hl [1, 0, 2, 3] rfl) hm
          · refine lv_aload_n hx hb dX9_roundLength_70 rfl (lv_at hl 1 rfl) ?_
            refine z_getR C fl_9_34 Hh dX9_roundLength_71 rfl hm (fun x6 hm => ?_)
            refine lv_aload_n hx hb dX9_roundLength_74 rfl (lv_at hl 1 rfl) ?_
            refine z_getR C fl_9_37 Hh dX9_roundLength_75 rfl hm (fun x7 hm => ?_)
            refine z_cVv (vs := [qR g x7]) C (fun q hq => ct_X8_become l g h x6 x7 q hq) tw_756 my_X8_become (fun q hq => tg_X8_become hq) rfl hl.1 Hh ⟨Nat.le_of_ble_eq_true rfl, Nat.le_of_ble_eq_true rfl, Nat.le_of_ble_eq_true rfl, Nat.le_of_ble_eq_true rfl⟩ (Nat.le_of_ble_eq_true rfl) dX9_roundLength_78 rfl hm (fun h H locs Hh hm => ?_)
            refine lv_iload_n hx hb dX9_roundLength_81 rfl (lv_at hl 2 rfl) ?_
            refine z_iconst C dX9_roundLength_82 ?_
            refine z_imul C dX9_roundLength_83 ?_
            refine lv_istore_n (lv' := [(2, qI (l2 * 2)), (1, qI (l1 + 1)), (0, qR g l0), (3, qI l3)]) hx hb dX9_roundLength_84 rfl hl (by decide) rfl (fun ls hl => ?_)
            refine z_iconst C dX9_roundLength_85 ?_
            refine lv_istore_n (lv' := [(1, qI 0), (2, qI (l2 * 2)), (0, qR g l0), (3, qI l3)]) hx hb dX9_roundLength_86 rfl hl (by decide) rfl (fun ls hl => ?_)
            exact K87 h 0 (l2 * 2) l3 _ _ _ Hh (lv_sub hl [2, 0, 1, 3] rfl) hm
        · refine lv_iload_n hx hb dX9_roundLength_63 rfl (lv_at hl 0 rfl) ?_
          cases hm
          have hm := hc28
          exact z_iret C hr hlocks Hh dX9_roundLength_64 hm
  refine lv_aload_n hx hb dX9_roundLength_0 rfl (lv_at hl 0 rfl) ?_
  refine z_getR C fl_9_34 Hh dX9_roundLength_1 rfl hm (fun x8 hm => ?_)
  refine lv_aload_n hx hb dX9_roundLength_4 rfl (lv_at hl 0 rfl) ?_
  refine z_getR C fl_9_30 Hh dX9_roundLength_5 rfl hm (fun x9 hm => ?_)
  refine z_cVv (vs := [qR g x9]) C (fun q hq => ct_X8_become l g h x8 x9 q hq) tw_756 my_X8_become (fun q hq => tg_X8_become hq) rfl hl.1 Hh ⟨Nat.le_of_ble_eq_true rfl, Nat.le_of_ble_eq_true rfl, Nat.le_of_ble_eq_true rfl, Nat.le_of_ble_eq_true rfl⟩ (Nat.le_of_ble_eq_true rfl) dX9_roundLength_8 rfl hm (fun h H locs Hh hm => ?_)
  refine lv_aload_n hx hb dX9_roundLength_11 rfl (lv_at hl 0 rfl) ?_
  refine z_getR C fl_9_37 Hh dX9_roundLength_12 rfl hm (fun x10 hm => ?_)
  refine lv_aload_n hx hb dX9_roundLength_15 rfl (lv_at hl 0 rfl) ?_
  refine z_getR C fl_9_30 Hh dX9_roundLength_16 rfl hm (fun x11 hm => ?_)
  refine z_cVv (vs := [qR g x11]) C (fun q hq => ct_X8_become l g h x10 x11 q hq) tw_756 my_X8_become (fun q hq => tg_X8_become hq) rfl hl.1 Hh ⟨Nat.le_of_ble_eq_true rfl, Nat.le_of_ble_eq_true rfl, Nat.le_of_ble_eq_true rfl, Nat.le_of_ble_eq_true rfl⟩ (Nat.le_of_ble_eq_true rfl) dX9_roundLength_19 rfl hm (fun h H locs Hh hm => ?_)
  refine z_iconst C dX9_roundLength_22 ?_
  refine lv_istore_n (lv' := [(1, qI 0), (0, qR g l0)]) hx hb dX9_roundLength_23 rfl hl (by decide) rfl (fun ls hl => ?_)
  refine z_iconst C dX9_roundLength_24 ?_
  refine lv_istore_n (lv' := [(2, qI 1), (1, qI 0), (0, qR g l0)]) hx hb dX9_roundLength_25 rfl hl (by decide) rfl (fun ls hl => ?_)
  refine z_iconst C dX9_roundLength_26 ?_
  refine lv_istore_n (lv' := [(3, qI 0), (2, qI 1), (1, qI 0), (0, qR g l0)]) hx hb dX9_roundLength_27 rfl hl (by decide) rfl (fun ls hl => ?_)
  exact KL28 FU h l0 0 1 0 _ _ _ Hh (lv_sub hl [3, 2, 1, 0] rfl) hm
theorem tg_X9_roundBegin {h : Hp} {l0 l1 : Int} {r : Hp × Int} (hm : M_X9_roundBegin h l0 l1 = some r) : hT h l0 = 19 := (tk_inv hm).1
set_option maxRecDepth 100000 in
set_option maxHeartbeats 4000000 in
theorem ct_X9_roundBegin (l : Launch) (g : zGeo) (h0 : Hp) (l0 l1 : Int) (r : Hp × Int) (hm : M_X9_roundBegin h0 l0 l1 = some r) : zM l yX9_roundBegin cX9_roundBegin 3 (some .int) 5 137 0 0 g h0 [qR g l0, qI l1] r.1 (some (qI r.2)) := by
  refine z_meth (by decide) (Nat.le_of_ble_eq_true rfl) ?_
  intro p e s m args below meth c H ls C hr hlocks hnm Hh hl
  have C : zC p m c cX9_roundBegin 3 s args RX9 g := C
  have hnm : meth.name = "roundBegin" := hnm
  have hx := C.1.1
  have hb := C.1.2.1
  have hl : lv_has ls 3 [(0, qR g l0), (1, qI l1)] := hl
  unfold M_X9_roundBegin at hm
  replace hm := (tk_inv hm).2
  generalize h0 = h at Hh hm
  have K99 : ∀ (h : Hp) (H : Heap) (locs : List Loc) (ls : Array Slot), zH g s h H locs → lv_has ls 3 [] → M_X9_roundBegin_p99 h = some r → W p l e { frames := 5, cells := 0, slots := 0, locals := 137 } s m args below meth c H locs 0 0 (zQ below g r.1 (some (qI r.2)) args s 0 0) (F0 m 99 ls []) := by
    intro h  H locs ls Hh hl hm
    unfold M_X9_roundBegin_p99 at hm
    refine z_sipush C dX9_roundBegin_99 rfl ?_
    exact z_iret C hr hlocks Hh dX9_roundBegin_102 hm
  have KL48 : ∀ (n : Nat) (h : Hp) (l0 l2 : Int) (H : Heap) (locs : List Loc) (ls : Array Slot), zH g s h H locs → lv_has ls 3 [(0, qR g l0), (2, qI l2)] → M_X9_roundBegin_w48 n h l0 l2 = some r → W p l e { frames := 5, cells := 0, slots := 0, locals := 137 } s m args below meth c H locs 0 0 (zQ below g r.1 (some (qI r.2)) args s 0 0) (F0 m 48 ls []) := by
    intro n
    induction n with
    | zero => intro h l0 l2 H locs ls Hh hl hm; cases hm
    | succ n ih48 =>
      intro h l0 l2 H locs ls Hh hl hm
      obtain ⟨z48, hm, hc48⟩ := wh_inv hm
      have hm : M_X9_roundBegin_b48 h l0 l2 = some z48 := hm
      unfold M_X9_roundBegin_b48 at hm
      refine lv_iload_n hx hb dX9_roundBegin_48 rfl (lv_at hl 1 rfl) ?_
      refine z_sipush C dX9_roundBegin_49 rfl ?_
      refine z_icmp_gt (tgt := 99) C dX9_roundBegin_52 (by decide) rfl lq_p400 hm (fun _ hm => ?_) (fun _ hm => ?_)
      · cases hm
        exact K99 h _ _ _ Hh (lv_sub hl [] rfl) hc48
      · refine lv_aload_n hx hb dX9_roundBegin_55 rfl (lv_at hl 0 rfl) ?_
        refine z_getR C fl_9_37 Hh dX9_roundBegin_56 rfl hm (fun x1 hm => ?_)
        refine lv_aload_n hx hb dX9_roundBegin_59 rfl (lv_at hl 0 rfl) ?_
        refine z_getR C fl_9_34 Hh dX9_roundBegin_60 rfl hm (fun x2 hm => ?_)
        refine z_cVIr (vs := [qR g x2]) C (fun q hq => ct_X8_looksLike l g h x1 x2 q hq) tw_972 my_X8_looksLike (fun q hq => tg_X8_looksLike hq) rfl hl.1 Hh ⟨Nat.le_of_ble_eq_true rfl, Nat.le_of_ble_eq_true rfl, Nat.le_of_ble_eq_true rfl, Nat.le_of_ble_eq_true rfl⟩ (Nat.le_of_ble_eq_true rfl) dX9_roundBegin_63 rfl hm (fun x3 H locs Hh hm => ?_)
        refine z_if_eq (tgt := 71) C dX9_roundBegin_66 (by decide) rfl hm (fun _ hm => ?_) (fun _ hm => ?_)
        · refine lv_aload_n hx hb dX9_roundBegin_71 rfl (lv_at hl 0 rfl) ?_
          refine z_getR C fl_9_34 Hh dX9_roundBegin_72 rfl hm (fun x4 hm => ?_)
          refine lv_aload_n hx hb dX9_roundBegin_75 rfl (lv_at hl 0 rfl) ?_
          refine z_getR C fl_9_82 Hh dX9_roundBegin_76 rfl hm (fun x5 hm => ?_)
          refine z_cVv (vs := [qR g x5]) C (fun q hq => ct_X8_goOn l g h x4 x5 q hq) tw_921 my_X8_goOn (fun q hq => tg_X8_goOn hq) rfl hl.1 Hh ⟨Nat.le_of_ble_eq_true rfl, Nat.le_of_ble_eq_true rfl, Nat.le_of_ble_eq_true rfl, Nat.le_of_ble_eq_true rfl⟩ (Nat.le_of_ble_eq_true rfl) dX9_roundBegin_79 rfl hm (fun h H locs Hh hm => ?_)
          refine lv_aload_n hx hb dX9_roundBegin_82 rfl (lv_at hl 0 rfl) ?_
          refine z_getR C fl_9_37 Hh dX9_roundBegin_83 rfl hm (fun x6 hm => ?_)
          refine lv_aload_n hx hb dX9_roundBegin_86 rfl (lv_at hl 0 rfl) ?_
          refine z_getR C fl_9_82 Hh dX9_roundBegin_87 rfl hm (fun x7 hm => ?_)
          refine z_cVv (vs := [qR g x7]) C (fun q hq => ct_X8_goOn l g h x6 x7 q hq) tw_921 my_X8_goOn (fun q hq => tg_X8_goOn hq) rfl hl.1 Hh ⟨Nat.le_of_ble_eq_true rfl, Nat.le_of_ble_eq_true rfl, Nat.le_of_ble_eq_true rfl, Nat.le_of_ble_eq_true rfl⟩ (Nat.le_of_ble_eq_true rfl) dX9_roundBegin_90 rfl hm (fun h H locs Hh hm => ?_)
          refine z_iinc (x := l2) (k := 1) (lv' := [(2, qI (l2 + 1)), (0, qR g l0)]) C dX9_roundBegin_93 hl rfl (by decide) rfl (fun ls hl => ?_)
          refine lv_goto (tgt := 48) hx hb dX9_roundBegin_96 (by decide) ?_
          cases hm
          exact ih48 h l0 (l2 + 1) _ _ _ Hh (lv_sub hl [1, 0] rfl) hc48
        · refine lv_iload_n hx hb dX9_roundBegin_69 rfl (lv_at hl 1 rfl) ?_
          cases hm
          have hm := hc48
          exact z_iret C hr hlocks Hh dX9_roundBegin_70 hm
  have K46 : ∀ (h : Hp) (l0 : Int) (H : Heap) (locs : List Loc) (ls : Array Slot), zH g s h H locs → lv_has ls 3 [(0, qR g l0)] → M_X9_roundBegin_p46 h l0 = some r → W p l e { frames := 5, cells := 0, slots := 0, locals := 137 } s m args below meth c H locs 0 0 (zQ below g r.1 (some (qI r.2)) args s 0 0) (F0 m 46 ls []) := by
    intro h l0  H locs ls Hh hl hm
    unfold M_X9_roundBegin_p46 at hm
    refine z_iconst C dX9_roundBegin_46 ?_
    refine lv_istore_n (lv' := [(2, qI 0), (0, qR g l0)]) hx hb dX9_roundBegin_47 rfl hl (by decide) rfl (fun ls hl => ?_)
    exact KL48 FU h l0 0 _ _ _ Hh (lv_sub hl [1, 0] rfl) hm
  have KL24 : ∀ (n : Nat) (h : Hp) (l0 l1 l2 : Int) (H : Heap) (locs : List Loc) (ls : Array Slot), zH g s h H locs → lv_has ls 3 [(0, qR g l0), (1, qI l1), (2, qI l2)] → M_X9_roundBegin_w24 n h l0 l1 l2 = some r → W p l e { frames := 5, cells := 0, slots := 0, locals := 137 } s m args below meth c H locs 0 0 (zQ below g r.1 (some (qI r.2)) args s 0 0) (F0 m 24 ls []) := by
    intro n
    induction n with
    | zero => intro h l0 l1 l2 H locs ls Hh hl hm; cases hm
    | succ n ih24 =>
      intro h l0 l1 l2 H locs ls Hh hl hm
      obtain ⟨z24, hm, hc24⟩ := wh_inv hm
      have hm : M_X9_roundBegin_b24 h l0 l1 l2 = some z24 := hm
      unfold M_X9_roundBegin_b24 at hm
      refine lv_iload_n hx hb dX9_roundBegin_24 rfl (lv_at hl 2 rfl) ?_
      refine lv_iload_n hx hb dX9_roundBegin_25 rfl (lv_at hl 1 rfl) ?_
      refine z_icmp_ge (tgt := 46) C dX9_roundBegin_26 (by decide) rfl rfl hm (fun _ hm => ?_) (fun _ hm => ?_)
      · cases hm
        exact K46 h l0 _ _ _ Hh (lv_sub hl [0] rfl) hc24
      · refine lv_aload_n hx hb dX9_roundBegin_29 rfl (lv_at hl 0 rfl) ?_
        refine z_getR C fl_9_37 Hh dX9_roundBegin_30 rfl hm (fun x8 hm => ?_)
        refine lv_aload_n hx hb dX9_roundBegin_33 rfl (lv_at hl 0 rfl) ?_
        refine z_getR C fl_9_82 Hh dX9_roundBegin_34 rfl hm (fun x9 hm => ?_)
        refine z_cVv (vs := [qR g x9]) C (fun q hq => ct_X8_goOn l g h x8 x9 q hq) tw_921 my_X8_goOn (fun q hq => tg_X8_goOn hq) rfl hl.1 Hh ⟨Nat.le_of_ble_eq_true rfl, Nat.le_of_ble_eq_true rfl, Nat.le_of_ble_eq_true rfl, Nat.le_of_ble_eq_true rfl⟩ (Nat.le_of_ble_eq_true rfl) dX9_roundBegin_37 rfl hm (fun h H locs Hh hm => ?_)
        refine z_iinc (x := l2) (k := 2) (lv' := [(2, qI (l2 + 1)), (0, qR g l0), (1, qI l1)]) C dX9_roundBegin_40 hl rfl (by decide) rfl (fun ls hl => ?_)
        refine lv_goto (tgt := 24) hx hb dX9_roundBegin_43 (by decide) ?_
        cases hm
        exact ih24 h l0 l1 (l2 + 1) _ _ _ Hh (lv_sub hl [1, 2, 0] rfl) hc24
  refine lv_aload_n hx hb dX9_roundBegin_0 rfl (lv_at hl 0 rfl) ?_
  refine z_getR C fl_9_34 Hh dX9_roundBegin_1 rfl hm (fun x10 hm => ?_)
  refine lv_aload_n hx hb dX9_roundBegin_4 rfl (lv_at hl 0 rfl) ?_
  refine z_getR C fl_9_30 Hh dX9_roundBegin_5 rfl hm (fun x11 hm => ?_)
  refine z_cVv (vs := [qR g x11]) C (fun q hq => ct_X8_become l g h x10 x11 q hq) tw_756 my_X8_become (fun q hq => tg_X8_become hq) rfl hl.1 Hh ⟨Nat.le_of_ble_eq_true rfl, Nat.le_of_ble_eq_true rfl, Nat.le_of_ble_eq_true rfl, Nat.le_of_ble_eq_true rfl⟩ (Nat.le_of_ble_eq_true rfl) dX9_roundBegin_8 rfl hm (fun h H locs Hh hm => ?_)
  refine lv_aload_n hx hb dX9_roundBegin_11 rfl (lv_at hl 0 rfl) ?_
  refine z_getR C fl_9_37 Hh dX9_roundBegin_12 rfl hm (fun x12 hm => ?_)
  refine lv_aload_n hx hb dX9_roundBegin_15 rfl (lv_at hl 0 rfl) ?_
  refine z_getR C fl_9_30 Hh dX9_roundBegin_16 rfl hm (fun x13 hm => ?_)
  refine z_cVv (vs := [qR g x13]) C (fun q hq => ct_X8_become l g h x12 x13 q hq) tw_756 my_X8_become (fun q hq => tg_X8_become hq) rfl hl.1 Hh ⟨Nat.le_of_ble_eq_true rfl, Nat.le_of_ble_eq_true rfl, Nat.le_of_ble_eq_true rfl, Nat.le_of_ble_eq_true rfl⟩ (Nat.le_of_ble_eq_true rfl) dX9_roundBegin_19 rfl hm (fun h H locs Hh hm => ?_)
  refine z_iconst C dX9_roundBegin_22 ?_
  refine lv_istore_n (lv' := [(2, qI 0), (0, qR g l0), (1, qI l1)]) hx hb dX9_roundBegin_23 rfl hl (by decide) rfl (fun ls hl => ?_)
  exact KL24 FU h l0 l1 0 _ _ _ Hh (lv_sub hl [1, 2, 0] rfl) hm
theorem tg_X9_round {h : Hp} {l0 l1 : Int} {r : Hp × Int} (hm : M_X9_round h l0 l1 = some r) : hT h l0 = 19 := (tk_inv hm).1
set_option maxRecDepth 100000 in
set_option maxHeartbeats 4000000 in
theorem ct_X9_round (l : Launch) (g : zGeo) (h0 : Hp) (l0 l1 : Int) (r : Hp × Int) (hm : M_X9_round h0 l0 l1 = some r) : zM l yX9_round cX9_round 4 (some .int) 6 160 0 0 g h0 [qR g l0, qI l1] r.1 (some (qI r.2)) := by
  refine z_meth (by decide) (Nat.le_of_ble_eq_true rfl) ?_
  intro p e s m args below meth c H ls C hr hlocks hnm Hh hl
  have C : zC p m c cX9_round 4 s args RX9 g := C
  have hnm : meth.name = "round" := hnm
  have hx := C.1.1
  have hb := C.1.2.1
  have hl : lv_has ls 4 [(0, qR g l0), (1, qI l1)] := hl
  unfold M_X9_round at hm
  replace hm := (tk_inv hm).2
  generalize h0 = h at Hh hm
  have K51 : ∀ (h : Hp) (l0 l1 l2 : Int) (s0 : Int) (H : Heap) (locs : List Loc) (ls : Array Slot), zH g s h H locs → lv_has ls 4 [(0, qR g l0), (1, qI l1), (2, qI l2)] → M_X9_round_p51 h l0 l1 l2 s0 = some r → W p l e { frames := 6, cells := 0, slots := 0, locals := 160 } s m args below meth c H locs 0 0 (zQ below g r.1 (some (qI r.2)) args s 0 0) (F0 m 51 ls [qI s0]) := by
    intro h l0 l1 l2 s0 H locs ls Hh hl hm
    unfold M_X9_round_p51 at hm
    refine lv_istore_n (lv' := [(3, qI s0), (0, qR g l0), (1, qI l1), (2, qI l2)]) hx hb dX9_round_51 rfl hl (by decide) rfl (fun ls hl => ?_)
    refine lv_iload_n hx hb dX9_round_52 rfl (lv_at hl 3 rfl) ?_
    refine z_if_eq (tgt := 65) C dX9_round_53 (by decide) rfl hm (fun _ hm => ?_) (fun _ hm => ?_)
    · refine lv_aload_n hx hb dX9_round_65 rfl (lv_at hl 1 rfl) ?_
      refine z_bipush C dX9_round_66 rfl ?_
      refine z_cVI (vs := [qI (-2)]) C (fun q hq => ct_X9_answered l g h l0 (-2) q hq) tw_767 my_X9_answered (fun q hq => tg_X9_answered hq) rfl hl.1 Hh ⟨Nat.le_of_ble_eq_true rfl, Nat.le_of_ble_eq_true rfl, Nat.le_of_ble_eq_true rfl, Nat.le_of_ble_eq_true rfl⟩ (Nat.le_of_ble_eq_true rfl) dX9_round_68 rfl hm (fun h x1 H locs Hh hm => ?_)
      exact z_iret C hr hlocks Hh dX9_round_71 hm
    · refine lv_iload_n hx hb dX9_round_56 rfl (lv_at hl 0 rfl) ?_
      refine lv_iload_n hx hb dX9_round_57 rfl (lv_at hl 3 rfl) ?_
      refine z_iadd C dX9_round_58 ?_
      refine z_sipush C dX9_round_59 rfl ?_
      refine z_icmp_le (tgt := 72) C dX9_round_62 (by decide) rfl lq_p400 hm (fun _ hm => ?_) (fun _ hm => ?_)
      · refine lv_aload_n hx hb dX9_round_72 rfl (lv_at hl 1 rfl) ?_
        refine lv_iload_n hx hb dX9_round_73 rfl (lv_at hl 2 rfl) ?_
        refine z_if_eq (tgt := 81) C dX9_round_74 (by decide) rfl hm (fun _ hm => ?_) (fun _ hm => ?_)
        · refine lv_iload_n hx hb dX9_round_81 rfl (lv_at hl 3 rfl) ?_
          refine z_cVI (vs := [qI l2]) C (fun q hq => ct_X9_answered l g h l0 l2 q hq) tw_767 my_X9_answered (fun q hq => tg_X9_answered hq) rfl hl.1 Hh ⟨Nat.le_of_ble_eq_true rfl, Nat.le_of_ble_eq_true rfl, Nat.le_of_ble_eq_true rfl, Nat.le_of_ble_eq_true rfl⟩ (Nat.le_of_ble_eq_true rfl) dX9_round_82 rfl hm (fun h x2 H locs Hh hm => ?_)
          exact z_iret C hr hlocks Hh dX9_round_85 hm
        · refine lv_iload_n hx hb dX9_round_77 rfl (lv_at hl 0 rfl) ?_
          refine lv_goto (tgt := 82) hx hb dX9_round_78 (by decide) ?_
          refine z_cVI (vs := [qI s0]) C (fun q hq => ct_X9_answered l g h l0 s0 q hq) tw_767 my_X9_answered (fun q hq => tg_X9_answered hq) rfl hl.1 Hh ⟨Nat.le_of_ble_eq_true rfl, Nat.le_of_ble_eq_true rfl, Nat.le_of_ble_eq_true rfl, Nat.le_of_ble_eq_true rfl⟩ (Nat.le_of_ble_eq_true rfl) dX9_round_82 rfl hm (fun h x3 H locs Hh hm => ?_)
          exact z_iret C hr hlocks Hh dX9_round_85 hm
      · refine lv_aload_n hx hb dX9_round_65 rfl (lv_at hl 1 rfl) ?_
        refine z_bipush C dX9_round_66 rfl ?_
        refine z_cVI (vs := [qI (-2)]) C (fun q hq => ct_X9_answered l g h l0 (-2) q hq) tw_767 my_X9_answered (fun q hq => tg_X9_answered hq) rfl hl.1 Hh ⟨Nat.le_of_ble_eq_true rfl, Nat.le_of_ble_eq_true rfl, Nat.le_of_ble_eq_true rfl, Nat.le_of_ble_eq_true rfl⟩ (Nat.le_of_ble_eq_true rfl) dX9_round_68 rfl hm (fun h x4 H locs Hh hm => ?_)
        exact z_iret C hr hlocks Hh dX9_round_71 hm
  refine lv_aload_n hx hb dX9_round_0 rfl (lv_at hl 0 rfl) ?_
  refine z_getR C fl_9_30 Hh dX9_round_1 rfl hm (fun x5 hm => ?_)
  refine z_getI C fl_9_130 Hh dX9_round_4 rfl hm (fun x6 hm => ?_)
  refine z_if_ne (tgt := 16) C dX9_round_7 (by decide) rfl hm (fun _ hm => ?_) (fun _ hm => ?_)
  · refine lv_aload_n hx hb dX9_round_16 rfl (lv_at hl 0 rfl) ?_
    refine z_getR C fl_9_30 Hh dX9_round_17 rfl hm (fun x7 hm => ?_)
    refine z_cVIr (vs := []) C (fun q hq => ct_X8_sneezes l g h x7 q hq) tw_967 my_X8_sneezes (fun q hq => tg_X8_sneezes hq) rfl hl.1 Hh ⟨Nat.le_of_ble_eq_true rfl, Nat.le_of_ble_eq_true rfl, Nat.le_of_ble_eq_true rfl, Nat.le_of_ble_eq_true rfl⟩ (Nat.le_of_ble_eq_true rfl) dX9_round_20 rfl hm (fun x8 H locs Hh hm => ?_)
    refine z_if_eq (tgt := 33) C dX9_round_23 (by decide) rfl hm (fun _ hm => ?_) (fun _ hm => ?_)
    · refine lv_aload_n hx hb dX9_round_33 rfl (lv_at hl 0 rfl) ?_
      refine z_cVI (vs := []) C (fun q hq => ct_X9_roundLength l g h l0 q hq) tw_968 my_X9_roundLength (fun q hq => tg_X9_roundLength hq) rfl hl.1 Hh ⟨Nat.le_of_ble_eq_true rfl, Nat.le_of_ble_eq_true rfl, Nat.le_of_ble_eq_true rfl, Nat.le_of_ble_eq_true rfl⟩ (Nat.le_of_ble_eq_true rfl) dX9_round_34 rfl hm (fun h x9 H locs Hh hm => ?_)
      refine lv_istore_n (lv' := [(2, qI x9), (0, qR g l0), (1, qI l1)]) hx hb dX9_round_37 rfl hl (by decide) rfl (fun ls hl => ?_)
      refine lv_iload_n hx hb dX9_round_38 rfl (lv_at hl 0 rfl) ?_
      refine z_if_ne (tgt := 46) C dX9_round_39 (by decide) rfl hm (fun _ hm => ?_) (fun _ hm => ?_)
      · refine lv_aload_n hx hb dX9_round_46 rfl (lv_at hl 1 rfl) ?_
        refine lv_iload_n hx hb dX9_round_47 rfl (lv_at hl 0 rfl) ?_
        refine z_cVI (vs := [qI x9]) C (fun q hq => ct_X9_roundBegin l g h l0 x9 q hq) tw_976 my_X9_roundBegin (fun q hq => tg_X9_roundBegin hq) rfl hl.1 Hh ⟨Nat.le_of_ble_eq_true rfl, Nat.le_of_ble_eq_true rfl, Nat.le_of_ble_eq_true rfl, Nat.le_of_ble_eq_true rfl⟩ (Nat.le_of_ble_eq_true rfl) dX9_round_48 rfl hm (fun h x10 H locs Hh hm => ?_)
        exact K51 h l0 l1 x9 x10 _ _ _ Hh (lv_sub hl [1, 2, 0] rfl) hm
      · refine z_iconst C dX9_round_42 ?_
        refine lv_goto (tgt := 51) hx hb dX9_round_43 (by decide) ?_
        exact K51 h l0 l1 x9 0 _ _ _ Hh (lv_sub hl [1, 2, 0] rfl) hm
    · refine lv_aload_n hx hb dX9_round_26 rfl (lv_at hl 0 rfl) ?_
      refine z_bipush C dX9_round_27 rfl ?_
      refine z_cVI (vs := [qI 6]) C (fun q hq => ct_X9_refused l g h l0 6 q hq) tw_507 my_X9_refused (fun q hq => tg_X9_refused hq) rfl hl.1 Hh ⟨Nat.le_of_ble_eq_true rfl, Nat.le_of_ble_eq_true rfl, Nat.le_of_ble_eq_true rfl, Nat.le_of_ble_eq_true rfl⟩ (Nat.le_of_ble_eq_true rfl) dX9_round_29 rfl hm (fun h x11 H locs Hh hm => ?_)
      exact z_iret C hr hlocks Hh dX9_round_32 hm
  · refine lv_aload_n hx hb dX9_round_10 rfl (lv_at hl 0 rfl) ?_
    refine z_iconst C dX9_round_11 ?_
    refine z_cVI (vs := [qI 1]) C (fun q hq => ct_X9_refused l g h l0 1 q hq) tw_507 my_X9_refused (fun q hq => tg_X9_refused hq) rfl hl.1 Hh ⟨Nat.le_of_ble_eq_true rfl, Nat.le_of_ble_eq_true rfl, Nat.le_of_ble_eq_true rfl, Nat.le_of_ble_eq_true rfl⟩ (Nat.le_of_ble_eq_true rfl) dX9_round_12 rfl hm (fun h x12 H locs Hh hm => ?_)
    exact z_iret C hr hlocks Hh dX9_round_15 hm
set_option maxRecDepth 100000 in
set_option maxHeartbeats 4000000 in
theorem ct_X9_outer (l : Launch) (g : zGeo) (h : Hp) (l0 : Int) (r : Int) (hm : M_X9_outer h l0 = some r) : zM l yX9_outer cX9_outer 1 (some .int) 0 0 0 0 g h [qI l0] h (some (qI r)) := by
  refine z_meth (by decide) (Nat.le_of_ble_eq_true rfl) ?_
  intro p e s m args below meth c H ls C hr hlocks hnm Hh hl
  have C : zC p m c cX9_outer 1 s args RX9 g := C
  have hnm : meth.name = "outer" := hnm
  have hx := C.1.1
  have hb := C.1.2.1
  have hl : lv_has ls 1 [(0, qI l0)] := hl
  unfold M_X9_outer at hm
  refine z_bipush C dX9_outer_0 rfl ?_
  refine lv_iload_n hx hb dX9_outer_2 rfl (lv_at hl 0 rfl) ?_
  refine z_bipush C dX9_outer_3 rfl ?_
  refine z_irem C dX9_outer_5 hm (fun x1 hm => ?_)
  refine z_imul C dX9_outer_6 ?_
  refine lv_iload_n hx hb dX9_outer_7 rfl (lv_at hl 0 rfl) ?_
  refine z_bipush C dX9_outer_8 rfl ?_
  refine z_idiv C dX9_outer_10 hm (fun x2 hm => ?_)
  refine z_iadd C dX9_outer_11 ?_
  exact z_iretR (h0 := h) C hr hlocks Hh dX9_outer_12 hm
theorem tg_X9_origin {h : Hp} {l0 l1 l2 l3 : Int} {r : Hp × Int} (hm : M_X9_origin h l0 l1 l2 l3 = some r) : hT h l0 = 19 := (tk_inv hm).1
set_option maxRecDepth 100000 in
set_option maxHeartbeats 4000000 in
theorem ct_X9_origin (l : Launch) (g : zGeo) (h0 : Hp) (l0 l1 l2 l3 : Int) (r : Hp × Int) (hm : M_X9_origin h0 l0 l1 l2 l3 = some r) : zM l yX9_origin cX9_origin 5 (some .int) 5 137 0 0 g h0 [qR g l0, qI l1, qI l2, qI l3] r.1 (some (qI r.2)) := by
  refine z_meth (by decide) (Nat.le_of_ble_eq_true rfl) ?_
  intro p e s m args below meth c H ls C hr hlocks hnm Hh hl
  have C : zC p m c cX9_origin 5 s args RX9 g := C
  have hnm : meth.name = "origin" := hnm
  have hx := C.1.1
  have hb := C.1.2.1
  have hl : lv_has ls 5 [(0, qR g l0), (1, qI l1), (2, qI l2), (3, qI l3)] := hl
  unfold M_X9_origin at hm
  replace hm := (tk_inv hm).2
  generalize h0 = h at Hh hm
  refine lv_aload_n hx hb dX9_origin_0 rfl (lv_at hl 0 rfl) ?_
  refine lv_iload_n hx hb dX9_origin_1 rfl (lv_at hl 1 rfl) ?_
  refine z_cVIr (vs := [qI l1]) C (fun q hq => ct_X9_isTown l g h l0 l1 q hq) tw_784 my_X9_isTown (fun q hq => tg_X9_isTown hq) rfl hl.1 Hh ⟨Nat.le_of_ble_eq_true rfl, Nat.le_of_ble_eq_true rfl, Nat.le_of_ble_eq_true rfl, Nat.le_of_ble_eq_true rfl⟩ (Nat.le_of_ble_eq_true rfl) dX9_origin_2 rfl hm (fun x1 H locs Hh hm => ?_)
  refine z_if_eq (tgt := 16) C dX9_origin_5 (by decide) rfl hm (fun _ hm => ?_) (fun _ hm => ?_)
  · refine lv_aload_n hx hb dX9_origin_16 rfl (lv_at hl 0 rfl) ?_
    refine z_iconst C dX9_origin_17 ?_
    refine z_cVI (vs := [qI 1]) C (fun q hq => ct_X9_refused l g h l0 1 q hq) tw_507 my_X9_refused (fun q hq => tg_X9_refused hq) rfl hl.1 Hh ⟨Nat.le_of_ble_eq_true rfl, Nat.le_of_ble_eq_true rfl, Nat.le_of_ble_eq_true rfl, Nat.le_of_ble_eq_true rfl⟩ (Nat.le_of_ble_eq_true rfl) dX9_origin_18 rfl hm (fun h x2 H locs Hh hm => ?_)
    exact z_iret C hr hlocks Hh dX9_origin_21 hm
  · refine lv_aload_n hx hb dX9_origin_8 rfl (lv_at hl 0 rfl) ?_
    refine lv_iload_n hx hb dX9_origin_9 rfl (lv_at hl 2 rfl) ?_
    refine z_cVIr (vs := [qI l2]) C (fun q hq => ct_X9_isPlace l g h l0 l2 q hq) tw_796 my_X9_isPlace (fun q hq => tg_X9_isPlace hq) rfl hl.1 Hh ⟨Nat.le_of_ble_eq_true rfl, Nat.le_of_ble_eq_true rfl, Nat.le_of_ble_eq_true rfl, Nat.le_of_ble_eq_true rfl⟩ (Nat.le_of_ble_eq_true rfl) dX9_origin_10 rfl hm (fun x3 H locs Hh hm => ?_)
    refine z_if_ne (tgt := 22) C dX9_origin_13 (by decide) rfl hm (fun _ hm => ?_) (fun _ hm => ?_)
    · refine lv_iload_n hx hb dX9_origin_22 rfl (lv_at hl 3 rfl) ?_
      refine z_bipush C dX9_origin_23 rfl ?_
      refine z_cSIr (vs := [qI l3, qI 60]) C (fun q hq => ct_X9_isBehind l g h l3 60 q hq) tw_811 my_X9_isBehind rfl hl.1 Hh ⟨Nat.le_of_ble_eq_true rfl, Nat.le_of_ble_eq_true rfl, Nat.le_of_ble_eq_true rfl, Nat.le_of_ble_eq_true rfl⟩ (Nat.le_of_ble_eq_true rfl) dX9_origin_25 rfl hm (fun x4 H locs Hh hm => ?_)
      refine z_if_ne (tgt := 37) C dX9_origin_28 (by decide) rfl hm (fun _ hm => ?_) (fun _ hm => ?_)
      · refine lv_aload_n hx hb dX9_origin_37 rfl (lv_at hl 0 rfl) ?_
        refine z_getR C fl_9_52 Hh dX9_origin_38 rfl hm (fun x5 hm => ?_)
        refine lv_aload_n hx hb dX9_origin_41 rfl (lv_at hl 0 rfl) ?_
        refine z_getR C fl_9_30 Hh dX9_origin_42 rfl hm (fun x6 hm => ?_)
        refine lv_iload_n hx hb dX9_origin_45 rfl (lv_at hl 1 rfl) ?_
        refine lv_iload_n hx hb dX9_origin_46 rfl (lv_at hl 2 rfl) ?_
        refine z_cSIr (vs := [qI l2]) C (fun q hq => ct_X9_inner l g h l2 q hq) tw_800 my_X9_inner rfl hl.1 Hh ⟨Nat.le_of_ble_eq_true rfl, Nat.le_of_ble_eq_true rfl, Nat.le_of_ble_eq_true rfl, Nat.le_of_ble_eq_true rfl⟩ (Nat.le_of_ble_eq_true rfl) dX9_origin_47 rfl hm (fun x7 H locs Hh hm => ?_)
        refine lv_iload_n hx hb dX9_origin_50 rfl (lv_at hl 3 rfl) ?_
        refine z_cVI (vs := [qR g x6, qI l1, qI x7, qI l3]) C (fun q hq => ct_X0_markBehind l g h x5 x6 l1 x7 l3 q hq) tw_814 my_X0_markBehind (fun q hq => tg_X0_markBehind hq) rfl hl.1 Hh ⟨Nat.le_of_ble_eq_true rfl, Nat.le_of_ble_eq_true rfl, Nat.le_of_ble_eq_true rfl, Nat.le_of_ble_eq_true rfl⟩ (Nat.le_of_ble_eq_true rfl) dX9_origin_51 rfl hm (fun h x8 H locs Hh hm => ?_)
        refine lv_pop hx hb dX9_origin_54 rfl ?_
        refine lv_aload_n hx hb dX9_origin_55 rfl (lv_at hl 0 rfl) ?_
        refine z_getR C fl_9_52 Hh dX9_origin_56 rfl hm (fun x9 hm => ?_)
        refine lv_iload_n hx hb dX9_origin_59 rfl (lv_at hl 2 rfl) ?_
        refine z_cSIr (vs := [qI l2]) C (fun q hq => ct_X9_inner l g h l2 q hq) tw_800 my_X9_inner rfl hl.1 Hh ⟨Nat.le_of_ble_eq_true rfl, Nat.le_of_ble_eq_true rfl, Nat.le_of_ble_eq_true rfl, Nat.le_of_ble_eq_true rfl⟩ (Nat.le_of_ble_eq_true rfl) dX9_origin_60 rfl hm (fun x10 H locs Hh hm => ?_)
        refine z_cVIr (vs := [qI x10]) C (fun q hq => ct_X0_sourceOf l g h x9 x10 q hq) tw_984 my_X0_sourceOf (fun q hq => tg_X0_sourceOf hq) rfl hl.1 Hh ⟨Nat.le_of_ble_eq_true rfl, Nat.le_of_ble_eq_true rfl, Nat.le_of_ble_eq_true rfl, Nat.le_of_ble_eq_true rfl⟩ (Nat.le_of_ble_eq_true rfl) dX9_origin_63 rfl hm (fun x11 H locs Hh hm => ?_)
        refine lv_istore (lv' := [(4, qI x11), (0, qR g l0), (1, qI l1), (2, qI l2), (3, qI l3)]) hx hb dX9_origin_66 hl (by decide) rfl (fun ls hl => ?_)
        refine lv_aload_n hx hb dX9_origin_68 rfl (lv_at hl 1 rfl) ?_
        refine lv_iload hx hb dX9_origin_69 (lv_at hl 0 rfl) ?_
        refine z_iconst C dX9_origin_71 ?_
        refine z_icmp_ne (tgt := 80) C dX9_origin_72 (by decide) rfl lq_m1 hm (fun _ hm => ?_) (fun _ hm => ?_)
        · refine z_bipush C dX9_origin_80 rfl ?_
          refine lv_aload_n hx hb dX9_origin_82 rfl (lv_at hl 1 rfl) ?_
          refine z_getR C fl_9_52 Hh dX9_origin_83 rfl hm (fun x12 hm => ?_)
          refine z_cVIr (vs := []) C (fun q hq => ct_X0_beginTown l g h x12 q hq) tw_988 my_X0_beginTown (fun q hq => tg_X0_beginTown hq) rfl hl.1 Hh ⟨Nat.le_of_ble_eq_true rfl, Nat.le_of_ble_eq_true rfl, Nat.le_of_ble_eq_true rfl, Nat.le_of_ble_eq_true rfl⟩ (Nat.le_of_ble_eq_true rfl) dX9_origin_86 rfl hm (fun x13 H locs Hh hm => ?_)
          refine z_imul C dX9_origin_89 ?_
          refine lv_iload hx hb dX9_origin_90 (lv_at hl 0 rfl) ?_
          refine z_cSIr (vs := [qI x11]) C (fun q hq => ct_X9_outer l g h x11 q hq) tw_992 my_X9_outer rfl hl.1 Hh ⟨Nat.le_of_ble_eq_true rfl, Nat.le_of_ble_eq_true rfl, Nat.le_of_ble_eq_true rfl, Nat.le_of_ble_eq_true rfl⟩ (Nat.le_of_ble_eq_true rfl) dX9_origin_92 rfl hm (fun x14 H locs Hh hm => ?_)
          refine z_iadd C dX9_origin_95 ?_
          refine z_cVI (vs := [qI ((100 * x13) + x14)]) C (fun q hq => ct_X9_answered l g h l0 ((100 * x13) + x14) q hq) tw_767 my_X9_answered (fun q hq => tg_X9_answered hq) rfl hl.1 Hh ⟨Nat.le_of_ble_eq_true rfl, Nat.le_of_ble_eq_true rfl, Nat.le_of_ble_eq_true rfl, Nat.le_of_ble_eq_true rfl⟩ (Nat.le_of_ble_eq_true rfl) dX9_origin_96 rfl hm (fun h x15 H locs Hh hm => ?_)
          exact z_iret C hr hlocks Hh dX9_origin_99 hm
        · refine z_bipush C dX9_origin_75 rfl ?_
          refine lv_goto (tgt := 96) hx hb dX9_origin_77 (by decide) ?_
          refine z_cVI (vs := [qI (-2)]) C (fun q hq => ct_X9_answered l g h l0 (-2) q hq) tw_767 my_X9_answered (fun q hq => tg_X9_answered hq) rfl hl.1 Hh ⟨Nat.le_of_ble_eq_true rfl, Nat.le_of_ble_eq_true rfl, Nat.le_of_ble_eq_true rfl, Nat.le_of_ble_eq_true rfl⟩ (Nat.le_of_ble_eq_true rfl) dX9_origin_96 rfl hm (fun h x16 H locs Hh hm => ?_)
          exact z_iret C hr hlocks Hh dX9_origin_99 hm
      · refine lv_aload_n hx hb dX9_origin_31 rfl (lv_at hl 0 rfl) ?_
        refine z_iconst C dX9_origin_32 ?_
        refine z_cVI (vs := [qI 2]) C (fun q hq => ct_X9_refused l g h l0 2 q hq) tw_507 my_X9_refused (fun q hq => tg_X9_refused hq) rfl hl.1 Hh ⟨Nat.le_of_ble_eq_true rfl, Nat.le_of_ble_eq_true rfl, Nat.le_of_ble_eq_true rfl, Nat.le_of_ble_eq_true rfl⟩ (Nat.le_of_ble_eq_true rfl) dX9_origin_33 rfl hm (fun h x17 H locs Hh hm => ?_)
        exact z_iret C hr hlocks Hh dX9_origin_36 hm
    · refine lv_aload_n hx hb dX9_origin_16 rfl (lv_at hl 0 rfl) ?_
      refine z_iconst C dX9_origin_17 ?_
      refine z_cVI (vs := [qI 1]) C (fun q hq => ct_X9_refused l g h l0 1 q hq) tw_507 my_X9_refused (fun q hq => tg_X9_refused hq) rfl hl.1 Hh ⟨Nat.le_of_ble_eq_true rfl, Nat.le_of_ble_eq_true rfl, Nat.le_of_ble_eq_true rfl, Nat.le_of_ble_eq_true rfl⟩ (Nat.le_of_ble_eq_true rfl) dX9_origin_18 rfl hm (fun h x18 H locs Hh hm => ?_)
      exact z_iret C hr hlocks Hh dX9_origin_21 hm
theorem tg_X9_blame {h : Hp} {l0 l1 l2 l3 : Int} {r : Hp × Int} (hm : M_X9_blame h l0 l1 l2 l3 = some r) : hT h l0 = 19 := (tk_inv hm).1
set_option maxRecDepth 100000 in
set_option maxHeartbeats 4000000 in
theorem ct_X9_blame (l : Launch) (g : zGeo) (h0 : Hp) (l0 l1 l2 l3 : Int) (r : Hp × Int) (hm : M_X9_blame h0 l0 l1 l2 l3 = some r) : zM l yX9_blame cX9_blame 7 (some .int) 5 137 0 0 g h0 [qR g l0, qI l1, qI l2, qI l3] r.1 (some (qI r.2)) := by
  refine z_meth (by decide) (Nat.le_of_ble_eq_true rfl) ?_
  intro p e s m args below meth c H ls C hr hlocks hnm Hh hl
  have C : zC p m c cX9_blame 7 s args RX9 g := C
  have hnm : meth.name = "blame" := hnm
  have hx := C.1.1
  have hb := C.1.2.1
  have hl : lv_has ls 7 [(0, qR g l0), (1, qI l1), (2, qI l2), (3, qI l3)] := hl
  unfold M_X9_blame at hm
  replace hm := (tk_inv hm).2
  generalize h0 = h at Hh hm
  have K146 : ∀ (h : Hp) (l0 l5 : Int) (H : Heap) (locs : List Loc) (ls : Array Slot), zH g s h H locs → lv_has ls 7 [(0, qR g l0), (5, qI l5)] → M_X9_blame_p146 h l0 l5 = some r → W p l e { frames := 5, cells := 0, slots := 0, locals := 137 } s m args below meth c H locs 0 0 (zQ below g r.1 (some (qI r.2)) args s 0 0) (F0 m 146 ls []) := by
    intro h l0 l5  H locs ls Hh hl hm
    unfold M_X9_blame_p146 at hm
    refine lv_aload_n hx hb dX9_blame_146 rfl (lv_at hl 0 rfl) ?_
    refine lv_iload hx hb dX9_blame_147 (lv_at hl 1 rfl) ?_
    refine z_cVI (vs := [qI l5]) C (fun q hq => ct_X9_answered l g h l0 l5 q hq) tw_767 my_X9_answered (fun q hq => tg_X9_answered hq) rfl hl.1 Hh ⟨Nat.le_of_ble_eq_true rfl, Nat.le_of_ble_eq_true rfl, Nat.le_of_ble_eq_true rfl, Nat.le_of_ble_eq_true rfl⟩ (Nat.le_of_ble_eq_true rfl) dX9_blame_149 rfl hm (fun h x1 H locs Hh hm => ?_)
    exact z_iret C hr hlocks Hh dX9_blame_152 hm
  have KL62 : ∀ (n : Nat) (h : Hp) (l0 l1 l2 l3 l4 l5 l6 : Int) (H : Heap) (locs : List Loc) (ls : Array Slot), zH g s h H locs → lv_has ls 7 [(0, qR g l0), (1, qI l1), (2, qI l2), (3, qI l3), (4, qI l4), (5, qI l5), (6, qI l6)] → M_X9_blame_w62 n h l0 l1 l2 l3 l4 l5 l6 = some r → W p l e { frames := 5, cells := 0, slots := 0, locals := 137 } s m args below meth c H locs 0 0 (zQ below g r.1 (some (qI r.2)) args s 0 0) (F0 m 62 ls []) := by
    intro n
    induction n with
    | zero => intro h l0 l1 l2 l3 l4 l5 l6 H locs ls Hh hl hm; cases hm
    | succ n ih62 =>
      intro h l0 l1 l2 l3 l4 l5 l6 H locs ls Hh hl hm
      obtain ⟨z62, hm, hc62⟩ := wh_inv hm
      have hm : M_X9_blame_b62 h l0 l1 l2 l3 l4 l5 l6 = some z62 := hm
      have K140 : ∀ (h : Hp) (l5 l6 : Int) (H : Heap) (locs : List Loc) (ls : Array Slot), zH g s h H locs → lv_has ls 7 [(0, qR g l0), (1, qI l1), (2, qI l2), (3, qI l3), (4, qI l4), (5, qI l5), (6, qI l6)] → M_X9_blame_p140 h l0 l1 l2 l3 l4 l5 l6 = some z62 → W p l e { frames := 5, cells := 0, slots := 0, locals := 137 } s m args below meth c H locs 0 0 (zQ below g r.1 (some (qI r.2)) args s 0 0) (F0 m 140 ls []) := by
        intro h l5 l6  H locs ls Hh hl hm
        unfold M_X9_blame_p140 at hm
        refine z_iinc (x := l6) (k := 6) (lv' := [(6, qI (l6 + 1)), (0, qR g l0), (1, qI l1), (2, qI l2), (3, qI l3), (4, qI l4), (5, qI l5)]) C dX9_blame_140 hl rfl (by decide) rfl (fun ls hl => ?_)
        refine lv_goto (tgt := 62) hx hb dX9_blame_143 (by decide) ?_
        cases hm
        exact ih62 h l0 l1 l2 l3 l4 l5 (l6 + 1) _ _ _ Hh (lv_sub hl [1, 2, 3, 4, 5, 6, 0] rfl) hc62
      unfold M_X9_blame_b62 at hm
      refine lv_iload hx hb dX9_blame_62 (lv_at hl 6 rfl) ?_
      refine lv_aload_n hx hb dX9_blame_64 rfl (lv_at hl 0 rfl) ?_
      refine z_getR C fl_9_30 Hh dX9_blame_65 rfl hm (fun x2 hm => ?_)
      refine z_getI C fl_9_130 Hh dX9_blame_68 rfl hm (fun x3 hm => ?_)
      refine z_icmp_ge (tgt := 146) C dX9_blame_71 (by decide) rfl rfl hm (fun _ hm => ?_) (fun _ hm => ?_)
      · cases hm
        exact K146 h l0 l5 _ _ _ Hh (lv_sub hl [0, 5] rfl) hc62
      · refine lv_aload_n hx hb dX9_blame_74 rfl (lv_at hl 0 rfl) ?_
        refine z_getR C fl_9_30 Hh dX9_blame_75 rfl hm (fun x4 hm => ?_)
        refine z_getR C fl_9_143 Hh dX9_blame_78 rfl hm (fun x5 hm => ?_)
        refine z_iconst C dX9_blame_81 ?_
        refine lv_iload hx hb dX9_blame_82 (lv_at hl 6 rfl) ?_
        refine z_imul C dX9_blame_84 ?_
        refine z_iald C Hh dX9_blame_85 hm (fun x6 hm => ?_)
        refine z_if_eq (tgt := 140) C dX9_blame_86 (by decide) rfl hm (fun _ hm => ?_) (fun _ hm => ?_)
        · exact K140 h l5 l6 _ _ _ Hh (lv_sub hl [0, 1, 2, 3, 4, 5, 6] rfl) hm
        · refine lv_aload_n hx hb dX9_blame_89 rfl (lv_at hl 0 rfl) ?_
          refine z_getR C fl_9_34 Hh dX9_blame_90 rfl hm (fun x7 hm => ?_)
          refine lv_aload_n hx hb dX9_blame_93 rfl (lv_at hl 0 rfl) ?_
          refine z_getR C fl_9_30 Hh dX9_blame_94 rfl hm (fun x8 hm => ?_)
          refine z_cVv (vs := [qR g x8]) C (fun q hq => ct_X8_become l g h x7 x8 q hq) tw_756 my_X8_become (fun q hq => tg_X8_become hq) rfl hl.1 Hh ⟨Nat.le_of_ble_eq_true rfl, Nat.le_of_ble_eq_true rfl, Nat.le_of_ble_eq_true rfl, Nat.le_of_ble_eq_true rfl⟩ (Nat.le_of_ble_eq_true rfl) dX9_blame_97 rfl hm (fun h H locs Hh hm => ?_)
          refine lv_aload_n hx hb dX9_blame_100 rfl (lv_at hl 0 rfl) ?_
          refine z_getR C fl_9_34 Hh dX9_blame_101 rfl hm (fun x9 hm => ?_)
          refine lv_iload hx hb dX9_blame_104 (lv_at hl 6 rfl) ?_
          refine z_cVv (vs := [qI l6]) C (fun q hq => ct_X8_makeTrue l g h x9 l6 q hq) tw_999 my_X8_makeTrue (fun q hq => tg_X8_makeTrue hq) rfl hl.1 Hh ⟨Nat.le_of_ble_eq_true rfl, Nat.le_of_ble_eq_true rfl, Nat.le_of_ble_eq_true rfl, Nat.le_of_ble_eq_true rfl⟩ (Nat.le_of_ble_eq_true rfl) dX9_blame_106 rfl hm (fun h H locs Hh hm => ?_)
          refine lv_aload_n hx hb dX9_blame_109 rfl (lv_at hl 0 rfl) ?_
          refine z_getR C fl_9_52 Hh dX9_blame_110 rfl hm (fun x10 hm => ?_)
          refine lv_aload_n hx hb dX9_blame_113 rfl (lv_at hl 0 rfl) ?_
          refine z_getR C fl_9_34 Hh dX9_blame_114 rfl hm (fun x11 hm => ?_)
          refine lv_iload_n hx hb dX9_blame_117 rfl (lv_at hl 1 rfl) ?_
          refine lv_iload_n hx hb dX9_blame_118 rfl (lv_at hl 2 rfl) ?_
          refine z_cSIr (vs := [qI l2]) C (fun q hq => ct_X9_inner l g h l2 q hq) tw_800 my_X9_inner rfl hl.1 Hh ⟨Nat.le_of_ble_eq_true rfl, Nat.le_of_ble_eq_true rfl, Nat.le_of_ble_eq_true rfl, Nat.le_of_ble_eq_true rfl⟩ (Nat.le_of_ble_eq_true rfl) dX9_blame_119 rfl hm (fun x12 H locs Hh hm => ?_)
          refine lv_iload_n hx hb dX9_blame_122 rfl (lv_at hl 3 rfl) ?_
          refine z_cVI (vs := [qR g x11, qI l1, qI x12, qI l3]) C (fun q hq => ct_X0_markBehind l g h x10 x11 l1 x12 l3 q hq) tw_814 my_X0_markBehind (fun q hq => tg_X0_markBehind hq) rfl hl.1 Hh ⟨Nat.le_of_ble_eq_true rfl, Nat.le_of_ble_eq_true rfl, Nat.le_of_ble_eq_true rfl, Nat.le_of_ble_eq_true rfl⟩ (Nat.le_of_ble_eq_true rfl) dX9_blame_123 rfl hm (fun h x13 H locs Hh hm => ?_)
          refine lv_iload hx hb dX9_blame_126 (lv_at hl 4 rfl) ?_
          refine z_icmp_eq (tgt := 140) C dX9_blame_128 (by decide) rfl rfl hm (fun _ hm => ?_) (fun _ hm => ?_)
          · exact K140 h l5 l6 _ _ _ Hh (lv_sub hl [0, 1, 2, 3, 4, 5, 6] rfl) hm
          · refine lv_iload hx hb dX9_blame_131 (lv_at hl 5 rfl) ?_
            refine z_iconst C dX9_blame_133 ?_
            refine lv_iload hx hb dX9_blame_134 (lv_at hl 6 rfl) ?_
            refine z_ishl C dX9_blame_136 ?_
            refine z_ior C dX9_blame_137 ?_
            refine lv_istore (lv' := [(5, qI (ior l5 (ishl 1 l6))), (0, qR g l0), (1, qI l1), (2, qI l2), (3, qI l3), (4, qI l4), (6, qI l6)]) hx hb dX9_blame_138 hl (by decide) rfl (fun ls hl => ?_)
            exact K140 h (ior l5 (ishl 1 l6)) l6 _ _ _ Hh (lv_sub hl [1, 2, 3, 4, 5, 0, 6] rfl) hm
  refine lv_aload_n hx hb dX9_blame_0 rfl (lv_at hl 0 rfl) ?_
  refine lv_iload_n hx hb dX9_blame_1 rfl (lv_at hl 1 rfl) ?_
  refine z_cVIr (vs := [qI l1]) C (fun q hq => ct_X9_isTown l g h l0 l1 q hq) tw_784 my_X9_isTown (fun q hq => tg_X9_isTown hq) rfl hl.1 Hh ⟨Nat.le_of_ble_eq_true rfl, Nat.le_of_ble_eq_true rfl, Nat.le_of_ble_eq_true rfl, Nat.le_of_ble_eq_true rfl⟩ (Nat.le_of_ble_eq_true rfl) dX9_blame_2 rfl hm (fun x14 H locs Hh hm => ?_)
  refine z_if_eq (tgt := 16) C dX9_blame_5 (by decide) rfl hm (fun _ hm => ?_) (fun _ hm => ?_)
  · refine lv_aload_n hx hb dX9_blame_16 rfl (lv_at hl 0 rfl) ?_
    refine z_iconst C dX9_blame_17 ?_
    refine z_cVI (vs := [qI 1]) C (fun q hq => ct_X9_refused l g h l0 1 q hq) tw_507 my_X9_refused (fun q hq => tg_X9_refused hq) rfl hl.1 Hh ⟨Nat.le_of_ble_eq_true rfl, Nat.le_of_ble_eq_true rfl, Nat.le_of_ble_eq_true rfl, Nat.le_of_ble_eq_true rfl⟩ (Nat.le_of_ble_eq_true rfl) dX9_blame_18 rfl hm (fun h x15 H locs Hh hm => ?_)
    exact z_iret C hr hlocks Hh dX9_blame_21 hm
  · refine lv_aload_n hx hb dX9_blame_8 rfl (lv_at hl 0 rfl) ?_
    refine lv_iload_n hx hb dX9_blame_9 rfl (lv_at hl 2 rfl) ?_
    refine z_cVIr (vs := [qI l2]) C (fun q hq => ct_X9_isPlace l g h l0 l2 q hq) tw_796 my_X9_isPlace (fun q hq => tg_X9_isPlace hq) rfl hl.1 Hh ⟨Nat.le_of_ble_eq_true rfl, Nat.le_of_ble_eq_true rfl, Nat.le_of_ble_eq_true rfl, Nat.le_of_ble_eq_true rfl⟩ (Nat.le_of_ble_eq_true rfl) dX9_blame_10 rfl hm (fun x16 H locs Hh hm => ?_)
    refine z_if_ne (tgt := 22) C dX9_blame_13 (by decide) rfl hm (fun _ hm => ?_) (fun _ hm => ?_)
    · refine lv_iload_n hx hb dX9_blame_22 rfl (lv_at hl 3 rfl) ?_
      refine z_bipush C dX9_blame_23 rfl ?_
      refine z_cSIr (vs := [qI l3, qI 60]) C (fun q hq => ct_X9_isBehind l g h l3 60 q hq) tw_811 my_X9_isBehind rfl hl.1 Hh ⟨Nat.le_of_ble_eq_true rfl, Nat.le_of_ble_eq_true rfl, Nat.le_of_ble_eq_true rfl, Nat.le_of_ble_eq_true rfl⟩ (Nat.le_of_ble_eq_true rfl) dX9_blame_25 rfl hm (fun x17 H locs Hh hm => ?_)
      refine z_if_ne (tgt := 37) C dX9_blame_28 (by decide) rfl hm (fun _ hm => ?_) (fun _ hm => ?_)
      · refine lv_aload_n hx hb dX9_blame_37 rfl (lv_at hl 0 rfl) ?_
        refine z_getR C fl_9_52 Hh dX9_blame_38 rfl hm (fun x18 hm => ?_)
        refine lv_aload_n hx hb dX9_blame_41 rfl (lv_at hl 0 rfl) ?_
        refine z_getR C fl_9_30 Hh dX9_blame_42 rfl hm (fun x19 hm => ?_)
        refine lv_iload_n hx hb dX9_blame_45 rfl (lv_at hl 1 rfl) ?_
        refine lv_iload_n hx hb dX9_blame_46 rfl (lv_at hl 2 rfl) ?_
        refine z_cSIr (vs := [qI l2]) C (fun q hq => ct_X9_inner l g h l2 q hq) tw_800 my_X9_inner rfl hl.1 Hh ⟨Nat.le_of_ble_eq_true rfl, Nat.le_of_ble_eq_true rfl, Nat.le_of_ble_eq_true rfl, Nat.le_of_ble_eq_true rfl⟩ (Nat.le_of_ble_eq_true rfl) dX9_blame_47 rfl hm (fun x20 H locs Hh hm => ?_)
        refine lv_iload_n hx hb dX9_blame_50 rfl (lv_at hl 3 rfl) ?_
        refine z_cVI (vs := [qR g x19, qI l1, qI x20, qI l3]) C (fun q hq => ct_X0_markBehind l g h x18 x19 l1 x20 l3 q hq) tw_814 my_X0_markBehind (fun q hq => tg_X0_markBehind hq) rfl hl.1 Hh ⟨Nat.le_of_ble_eq_true rfl, Nat.le_of_ble_eq_true rfl, Nat.le_of_ble_eq_true rfl, Nat.le_of_ble_eq_true rfl⟩ (Nat.le_of_ble_eq_true rfl) dX9_blame_51 rfl hm (fun h x21 H locs Hh hm => ?_)
        refine lv_istore (lv' := [(4, qI x21), (0, qR g l0), (1, qI l1), (2, qI l2), (3, qI l3)]) hx hb dX9_blame_54 hl (by decide) rfl (fun ls hl => ?_)
        refine z_iconst C dX9_blame_56 ?_
        refine lv_istore (lv' := [(5, qI 0), (4, qI x21), (0, qR g l0), (1, qI l1), (2, qI l2), (3, qI l3)]) hx hb dX9_blame_57 hl (by decide) rfl (fun ls hl => ?_)
        refine z_iconst C dX9_blame_59 ?_
        refine lv_istore (lv' := [(6, qI 0), (5, qI 0), (4, qI x21), (0, qR g l0), (1, qI l1), (2, qI l2), (3, qI l3)]) hx hb dX9_blame_60 hl (by decide) rfl (fun ls hl => ?_)
        exact KL62 FU h l0 l1 l2 l3 x21 0 0 _ _ _ Hh (lv_sub hl [3, 4, 5, 6, 2, 1, 0] rfl) hm
      · refine lv_aload_n hx hb dX9_blame_31 rfl (lv_at hl 0 rfl) ?_
        refine z_iconst C dX9_blame_32 ?_
        refine z_cVI (vs := [qI 2]) C (fun q hq => ct_X9_refused l g h l0 2 q hq) tw_507 my_X9_refused (fun q hq => tg_X9_refused hq) rfl hl.1 Hh ⟨Nat.le_of_ble_eq_true rfl, Nat.le_of_ble_eq_true rfl, Nat.le_of_ble_eq_true rfl, Nat.le_of_ble_eq_true rfl⟩ (Nat.le_of_ble_eq_true rfl) dX9_blame_33 rfl hm (fun h x22 H locs Hh hm => ?_)
        exact z_iret C hr hlocks Hh dX9_blame_36 hm
    · refine lv_aload_n hx hb dX9_blame_16 rfl (lv_at hl 0 rfl) ?_
      refine z_iconst C dX9_blame_17 ?_
      refine z_cVI (vs := [qI 1]) C (fun q hq => ct_X9_refused l g h l0 1 q hq) tw_507 my_X9_refused (fun q hq => tg_X9_refused hq) rfl hl.1 Hh ⟨Nat.le_of_ble_eq_true rfl, Nat.le_of_ble_eq_true rfl, Nat.le_of_ble_eq_true rfl, Nat.le_of_ble_eq_true rfl⟩ (Nat.le_of_ble_eq_true rfl) dX9_blame_18 rfl hm (fun h x23 H locs Hh hm => ?_)
      exact z_iret C hr hlocks Hh dX9_blame_21 hm
