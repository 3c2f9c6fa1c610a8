theorem tg_X0_markBehind {h : Hp} {l0 l1 l2 l3 l4 : Int} {r : Hp × Int} (hm : M_X0_markBehind h l0 l1 l2 l3 l4 = some r) : hT h l0 = 10 := (tk_inv hm).1
set_option maxRecDepth 100000 in
set_option maxHeartbeats 4000000 in
theorem ct_X0_markBehind (l : Launch) (g : zGeo) (h0 : Hp) (l0 l1 l2 l3 l4 : Int) (r : Hp × Int) (hm : M_X0_markBehind h0 l0 l1 l2 l3 l4 = some r) : zM l yX0_markBehind cX0_markBehind 5 (some .int) 4 113 0 0 g h0 [qR g l0, qR g l1, qI l2, qI l3, qI l4] r.1 (some (qI r.2)) := by
  refine z_meth (by decide) (Nat.le_of_ble_eq_true rfl) ?_
  intro p e s m args below meth c H ls C hr hlocks hnm Hh hl
  have C : zC p m c cX0_markBehind 5 s args RX0 g := C
  have hnm : meth.name = "markBehind" := hnm
  have hx := C.1.1
  have hb := C.1.2.1
  have hl : lv_has ls 5 [(0, qR g l0), (1, qR g l1), (2, qI l2), (3, qI l3), (4, qI l4)] := hl
  unfold M_X0_markBehind at hm
  replace hm := (tk_inv hm).2
  generalize h0 = h at Hh hm
  refine lv_aload_n hx hb dX0_markBehind_0 rfl (lv_at hl 0 rfl) ?_
  refine lv_aload_n hx hb dX0_markBehind_1 rfl (lv_at hl 1 rfl) ?_
  refine lv_iload_n hx hb dX0_markBehind_2 rfl (lv_at hl 2 rfl) ?_
  refine lv_iload hx hb dX0_markBehind_3 (lv_at hl 4 rfl) ?_
  refine z_cVv (vs := [qR g l1, qI l2, qI l4]) C (fun q hq => ct_X0_lay l g h l0 l1 l2 l4 q hq) tw_818 my_X0_lay (fun q hq => tg_X0_lay hq) rfl hl.1 Hh ⟨Nat.le_of_ble_eq_true rfl, Nat.le_of_ble_eq_true rfl, Nat.le_of_ble_eq_true rfl, Nat.le_of_ble_eq_true rfl⟩ (Nat.le_of_ble_eq_true rfl) dX0_markBehind_5 rfl hm (fun h H locs Hh hm => ?_)
  refine lv_aload_n hx hb dX0_markBehind_8 rfl (lv_at hl 0 rfl) ?_
  refine lv_aload_n hx hb dX0_markBehind_9 rfl (lv_at hl 0 rfl) ?_
  refine z_getI C fl_0_9 Hh dX0_markBehind_10 rfl hm (fun x1 hm => ?_)
  refine lv_iload_n hx hb dX0_markBehind_13 rfl (lv_at hl 3 rfl) ?_
  refine z_cVv (vs := [qI x1, qI l3]) C (fun q hq => ct_X0_want l g h l0 x1 l3 q hq) tw_842 my_X0_want (fun q hq => tg_X0_want hq) rfl hl.1 Hh ⟨Nat.le_of_ble_eq_true rfl, Nat.le_of_ble_eq_true rfl, Nat.le_of_ble_eq_true rfl, Nat.le_of_ble_eq_true rfl⟩ (Nat.le_of_ble_eq_true rfl) dX0_markBehind_14 rfl hm (fun h H locs Hh hm => ?_)
  refine lv_aload_n hx hb dX0_markBehind_17 rfl (lv_at hl 0 rfl) ?_
  refine z_cVv (vs := []) C (fun q hq => ct_X0_prepare l g h l0 q hq) tw_846 my_X0_prepare (fun q hq => tg_X0_prepare hq) rfl hl.1 Hh ⟨Nat.le_of_ble_eq_true rfl, Nat.le_of_ble_eq_true rfl, Nat.le_of_ble_eq_true rfl, Nat.le_of_ble_eq_true rfl⟩ (Nat.le_of_ble_eq_true rfl) dX0_markBehind_18 rfl hm (fun h H locs Hh hm => ?_)
  refine lv_aload_n hx hb dX0_markBehind_21 rfl (lv_at hl 0 rfl) ?_
  refine lv_iload_n hx hb dX0_markBehind_22 rfl (lv_at hl 3 rfl) ?_
  refine z_cVI (vs := [qI l3]) C (fun q hq => ct_X0_build l g h l0 l3 q hq) tw_875 my_X0_build (fun q hq => tg_X0_build hq) rfl hl.1 Hh ⟨Nat.le_of_ble_eq_true rfl, Nat.le_of_ble_eq_true rfl, Nat.le_of_ble_eq_true rfl, Nat.le_of_ble_eq_true rfl⟩ (Nat.le_of_ble_eq_true rfl) dX0_markBehind_23 rfl hm (fun h x2 H locs Hh hm => ?_)
  exact z_iret C hr hlocks Hh dX0_markBehind_26 hm
theorem tg_X8_holds {h : Hp} {l0 l1 : Int} {r : Int} (hm : M_X8_holds h l0 l1 = some r) : hT h l0 = 18 := (tk_inv hm).1
set_option maxRecDepth 100000 in
set_option maxHeartbeats 4000000 in
theorem ct_X8_holds (l : Launch) (g : zGeo) (h : Hp) (l0 l1 : Int) (r : Int) (hm : M_X8_holds h l0 l1 = some r) : zM l yX8_holds cX8_holds 2 (some .boolean) 0 0 0 0 g h [qR g l0, qI l1] h (some (qI r)) := by
  refine z_meth (by decide) (Nat.le_of_ble_eq_true rfl) ?_
  intro p e s m args below meth c H ls C hr hlocks hnm Hh hl
  have C : zC p m c cX8_holds 2 s args RX8 g := C
  have hnm : meth.name = "holds" := hnm
  have hx := C.1.1
  have hb := C.1.2.1
  have hl : lv_has ls 2 [(0, qR g l0), (1, qI l1)] := hl
  unfold M_X8_holds at hm
  replace hm := (tk_inv hm).2
  refine lv_iload_n hx hb dX8_holds_0 rfl (lv_at hl 1 rfl) ?_
  refine z_bipush C dX8_holds_1 rfl ?_
  refine z_irem C dX8_holds_3 hm (fun x1 hm => ?_)
  refine lv_aload_n hx hb dX8_holds_4 rfl (lv_at hl 0 rfl) ?_
  refine z_getI C fl_8_9 Hh dX8_holds_5 rfl hm (fun x2 hm => ?_)
  refine z_icmp_ge (tgt := 26) C dX8_holds_8 (by decide) rfl rfl hm (fun _ hm => ?_) (fun _ hm => ?_)
  · refine z_iconst C dX8_holds_26 ?_
    exact z_zretRC C hr hlocks Hh dX8_holds_27 (by decide) hm
  · refine lv_iload_n hx hb dX8_holds_11 rfl (lv_at hl 1 rfl) ?_
    refine z_bipush C dX8_holds_12 rfl ?_
    refine z_idiv C dX8_holds_14 hm (fun x3 hm => ?_)
    refine lv_aload_n hx hb dX8_holds_15 rfl (lv_at hl 0 rfl) ?_
    refine z_getI C fl_8_15 Hh dX8_holds_16 rfl hm (fun x4 hm => ?_)
    refine z_icmp_ge (tgt := 26) C dX8_holds_19 (by decide) rfl rfl hm (fun _ hm => ?_) (fun _ hm => ?_)
    · refine z_iconst C dX8_holds_26 ?_
      exact z_zretRC C hr hlocks Hh dX8_holds_27 (by decide) hm
    · refine z_iconst C dX8_holds_22 ?_
      refine lv_goto (tgt := 27) hx hb dX8_holds_23 (by decide) ?_
      exact z_zretRC C hr hlocks Hh dX8_holds_27 (by decide) hm
theorem tg_X0_mapBehind {h : Hp} {l0 l1 l2 l3 l4 : Int} {r : Hp} (hm : M_X0_mapBehind h l0 l1 l2 l3 l4 = some r) : hT h l0 = 10 := (tk_inv hm).1
set_option maxRecDepth 100000 in
set_option maxHeartbeats 4000000 in
theorem ct_X0_mapBehind (l : Launch) (g : zGeo) (h0 : Hp) (l0 l1 l2 l3 l4 : Int) (r : Hp) (hm : M_X0_mapBehind h0 l0 l1 l2 l3 l4 = some r) : zM l yX0_mapBehind cX0_mapBehind 6 none 4 113 0 0 g h0 [qR g l0, qR g l1, qI l2, qI l3, qR g l4] r none := by
  refine z_meth (by decide) (Nat.le_of_ble_eq_true rfl) ?_
  intro p e s m args below meth c H ls C hr hlocks hnm Hh hl
  have C : zC p m c cX0_mapBehind 6 s args RX0 g := C
  have hnm : meth.name = "mapBehind" := hnm
  have hx := C.1.1
  have hb := C.1.2.1
  have hl : lv_has ls 6 [(0, qR g l0), (1, qR g l1), (2, qI l2), (3, qI l3), (4, qR g l4)] := hl
  unfold M_X0_mapBehind at hm
  replace hm := (tk_inv hm).2
  generalize h0 = h at Hh hm
  have K42 : ∀ (h : Hp) (l0 l4 : Int) (H : Heap) (locs : List Loc) (ls : Array Slot), zH g s h H locs → lv_has ls 6 [(0, qR g l0), (4, qR g l4)] → M_X0_mapBehind_p42 h l0 l4 = some r → W p l e { frames := 4, cells := 0, slots := 0, locals := 113 } s m args below meth c H locs 0 0 (zQ below g r none args s 0 0) (F0 m 42 ls []) := by
    intro h l0 l4  H locs ls Hh hl hm
    unfold M_X0_mapBehind_p42 at hm
    refine lv_aload_n hx hb dX0_mapBehind_42 rfl (lv_at hl 0 rfl) ?_
    refine z_cVv (vs := []) C (fun q hq => ct_X0_prepare l g h l0 q hq) tw_846 my_X0_prepare (fun q hq => tg_X0_prepare hq) rfl hl.1 Hh ⟨Nat.le_of_ble_eq_true rfl, Nat.le_of_ble_eq_true rfl, Nat.le_of_ble_eq_true rfl, Nat.le_of_ble_eq_true rfl⟩ (Nat.le_of_ble_eq_true rfl) dX0_mapBehind_43 rfl hm (fun h H locs Hh hm => ?_)
    refine lv_aload_n hx hb dX0_mapBehind_46 rfl (lv_at hl 0 rfl) ?_
    refine z_iconst C dX0_mapBehind_47 ?_
    refine z_cVI (vs := [qI 0]) C (fun q hq => ct_X0_build l g h l0 0 q hq) tw_875 my_X0_build (fun q hq => tg_X0_build hq) rfl hl.1 Hh ⟨Nat.le_of_ble_eq_true rfl, Nat.le_of_ble_eq_true rfl, Nat.le_of_ble_eq_true rfl, Nat.le_of_ble_eq_true rfl⟩ (Nat.le_of_ble_eq_true rfl) dX0_mapBehind_48 rfl hm (fun h x1 H locs Hh hm => ?_)
    refine lv_pop hx hb dX0_mapBehind_51 rfl ?_
    refine lv_aload_n hx hb dX0_mapBehind_52 rfl (lv_at hl 0 rfl) ?_
    refine z_getR C fl_0_25 Hh dX0_mapBehind_53 rfl hm (fun x2 hm => ?_)
    refine z_bipush C dX0_mapBehind_56 rfl ?_
    refine lv_aload_n hx hb dX0_mapBehind_58 rfl (lv_at hl 0 rfl) ?_
    refine z_getI C fl_0_9 Hh dX0_mapBehind_59 rfl hm (fun x3 hm => ?_)
    refine z_imul C dX0_mapBehind_62 ?_
    refine lv_aload hx hb dX0_mapBehind_63 (lv_at hl 1 rfl) ?_
    refine z_iconst C dX0_mapBehind_65 ?_
    refine z_bipush C dX0_mapBehind_66 rfl ?_
    refine z_cpy (t := 1) C cp_0_63 (by decide) hl.1 Hh dX0_mapBehind_68 (Nat.le_of_ble_eq_true rfl) (Nat.le_of_ble_eq_true rfl) hm (fun h H locs Hh hm => ?_)
    exact z_vret C hr hlocks Hh dX0_mapBehind_71 hm
  have KL10 : ∀ (n : Nat) (h : Hp) (l0 l1 l4 l5 : Int) (H : Heap) (locs : List Loc) (ls : Array Slot), zH g s h H locs → lv_has ls 6 [(0, qR g l0), (1, qR g l1), (4, qR g l4), (5, qI l5)] → M_X0_mapBehind_w10 n h l0 l1 l4 l5 = some r → W p l e { frames := 4, cells := 0, slots := 0, locals := 113 } s m args below meth c H locs 0 0 (zQ below g r none args s 0 0) (F0 m 10 ls []) := by
    intro n
    induction n with
    | zero => intro h l0 l1 l4 l5 H locs ls Hh hl hm; cases hm
    | succ n ih10 =>
      intro h l0 l1 l4 l5 H locs ls Hh hl hm
      obtain ⟨z10, hm, hc10⟩ := wh_inv hm
      have hm : M_X0_mapBehind_b10 h l0 l1 l4 l5 = some z10 := hm
      have K36 : ∀ (h : Hp) (l5 : Int) (H : Heap) (locs : List Loc) (ls : Array Slot), zH g s h H locs → lv_has ls 6 [(0, qR g l0), (1, qR g l1), (4, qR g l4), (5, qI l5)] → M_X0_mapBehind_p36 h l0 l1 l4 l5 = some z10 → W p l e { frames := 4, cells := 0, slots := 0, locals := 113 } s m args below meth c H locs 0 0 (zQ below g r none args s 0 0) (F0 m 36 ls []) := by
        intro h l5  H locs ls Hh hl hm
        unfold M_X0_mapBehind_p36 at hm
        refine z_iinc (x := l5) (k := 3) (lv' := [(5, qI (l5 + 1)), (0, qR g l0), (1, qR g l1), (4, qR g l4)]) C dX0_mapBehind_36 hl rfl (by decide) rfl (fun ls hl => ?_)
        refine lv_goto (tgt := 10) hx hb dX0_mapBehind_39 (by decide) ?_
        cases hm
        exact ih10 h l0 l1 l4 (l5 + 1) _ _ _ Hh (lv_sub hl [1, 2, 3, 0] rfl) hc10
      unfold M_X0_mapBehind_b10 at hm
      refine lv_iload hx hb dX0_mapBehind_10 (lv_at hl 3 rfl) ?_
      refine z_bipush C dX0_mapBehind_12 rfl ?_
      refine z_icmp_ge (tgt := 42) C dX0_mapBehind_14 (by decide) rfl lq_p36 hm (fun _ hm => ?_) (fun _ hm => ?_)
      · cases hm
        exact K42 h l0 l4 _ _ _ Hh (lv_sub hl [0, 2] rfl) hc10
      · refine lv_aload_n hx hb dX0_mapBehind_17 rfl (lv_at hl 1 rfl) ?_
        refine lv_iload hx hb dX0_mapBehind_18 (lv_at hl 3 rfl) ?_
        refine z_cVIr (vs := [qI l5]) C (fun q hq => ct_X8_holds l g h l1 l5 q hq) tw_896 my_X8_holds (fun q hq => tg_X8_holds hq) rfl hl.1 Hh ⟨Nat.le_of_ble_eq_true rfl, Nat.le_of_ble_eq_true rfl, Nat.le_of_ble_eq_true rfl, Nat.le_of_ble_eq_true rfl⟩ (Nat.le_of_ble_eq_true rfl) dX0_mapBehind_20 rfl hm (fun x4 H locs Hh hm => ?_)
        refine z_if_eq (tgt := 36) C dX0_mapBehind_23 (by decide) rfl hm (fun _ hm => ?_) (fun _ hm => ?_)
        · exact K36 h l5 _ _ _ Hh (lv_sub hl [0, 1, 2, 3] rfl) hm
        · refine lv_aload_n hx hb dX0_mapBehind_26 rfl (lv_at hl 0 rfl) ?_
          refine lv_aload_n hx hb dX0_mapBehind_27 rfl (lv_at hl 0 rfl) ?_
          refine z_getI C fl_0_9 Hh dX0_mapBehind_28 rfl hm (fun x5 hm => ?_)
          refine lv_iload hx hb dX0_mapBehind_31 (lv_at hl 3 rfl) ?_
          refine z_cVv (vs := [qI x5, qI l5]) C (fun q hq => ct_X0_want l g h l0 x5 l5 q hq) tw_842 my_X0_want (fun q hq => tg_X0_want hq) rfl hl.1 Hh ⟨Nat.le_of_ble_eq_true rfl, Nat.le_of_ble_eq_true rfl, Nat.le_of_ble_eq_true rfl, Nat.le_of_ble_eq_true rfl⟩ (Nat.le_of_ble_eq_true rfl) dX0_mapBehind_33 rfl hm (fun h H locs Hh hm => ?_)
          exact K36 h l5 _ _ _ Hh (lv_sub hl [0, 1, 2, 3] rfl) hm
  refine lv_aload_n hx hb dX0_mapBehind_0 rfl (lv_at hl 0 rfl) ?_
  refine lv_aload_n hx hb dX0_mapBehind_1 rfl (lv_at hl 1 rfl) ?_
  refine lv_iload_n hx hb dX0_mapBehind_2 rfl (lv_at hl 2 rfl) ?_
  refine lv_iload_n hx hb dX0_mapBehind_3 rfl (lv_at hl 3 rfl) ?_
  refine z_cVv (vs := [qR g l1, qI l2, qI l3]) C (fun q hq => ct_X0_lay l g h l0 l1 l2 l3 q hq) tw_818 my_X0_lay (fun q hq => tg_X0_lay hq) rfl hl.1 Hh ⟨Nat.le_of_ble_eq_true rfl, Nat.le_of_ble_eq_true rfl, Nat.le_of_ble_eq_true rfl, Nat.le_of_ble_eq_true rfl⟩ (Nat.le_of_ble_eq_true rfl) dX0_mapBehind_4 rfl hm (fun h H locs Hh hm => ?_)
  refine z_iconst C dX0_mapBehind_7 ?_
  refine lv_istore (lv' := [(5, qI 0), (0, qR g l0), (1, qR g l1), (2, qI l2), (3, qI l3), (4, qR g l4)]) hx hb dX0_mapBehind_8 hl (by decide) rfl (fun ls hl => ?_)
  exact KL10 FU h l0 l1 l4 0 _ _ _ Hh (lv_sub hl [1, 2, 5, 0] rfl) hm
theorem tg_X0_beginTown {h : Hp} {l0 : Int} {r : Int} (hm : M_X0_beginTown h l0 = some r) : hT h l0 = 10 := (tk_inv hm).1
set_option maxRecDepth 100000 in
set_option maxHeartbeats 4000000 in
theorem ct_X0_beginTown (l : Launch) (g : zGeo) (h : Hp) (l0 : Int) (r : Int) (hm : M_X0_beginTown h l0 = some r) : zM l yX0_beginTown cX0_beginTown 1 (some .int) 0 0 0 0 g h [qR g l0] h (some (qI r)) := by
  refine z_meth (by decide) (Nat.le_of_ble_eq_true rfl) ?_
  intro p e s m args below meth c H ls C hr hlocks hnm Hh hl
  have C : zC p m c cX0_beginTown 1 s args RX0 g := C
  have hnm : meth.name = "beginTown" := hnm
  have hx := C.1.1
  have hb := C.1.2.1
  have hl : lv_has ls 1 [(0, qR g l0)] := hl
  unfold M_X0_beginTown at hm
  replace hm := (tk_inv hm).2
  refine lv_aload_n hx hb dX0_beginTown_0 rfl (lv_at hl 0 rfl) ?_
  refine z_getR C fl_0_18 Hh dX0_beginTown_1 rfl hm (fun x1 hm => ?_)
  refine lv_aload_n hx hb dX0_beginTown_4 rfl (lv_at hl 0 rfl) ?_
  refine z_getI C fl_0_15 Hh dX0_beginTown_5 rfl hm (fun x2 hm => ?_)
  refine z_iald C Hh dX0_beginTown_8 hm (fun x3 hm => ?_)
  exact z_iretR (h0 := h) C hr hlocks Hh dX0_beginTown_9 hm
theorem tg_X0_matters {h : Hp} {l0 l1 : Int} {r : Int} (hm : M_X0_matters h l0 l1 = some r) : hT h l0 = 10 := (tk_inv hm).1
set_option maxRecDepth 100000 in
set_option maxHeartbeats 4000000 in
theorem ct_X0_matters (l : Launch) (g : zGeo) (h : Hp) (l0 l1 : Int) (r : Int) (hm : M_X0_matters h l0 l1 = some r) : zM l yX0_matters cX0_matters 2 (some .boolean) 0 0 0 0 g h [qR g l0, qI l1] h (some (qI r)) := by
  refine z_meth (by decide) (Nat.le_of_ble_eq_true rfl) ?_
  intro p e s m args below meth c H ls C hr hlocks hnm Hh hl
  have C : zC p m c cX0_matters 2 s args RX0 g := C
  have hnm : meth.name = "matters" := hnm
  have hx := C.1.1
  have hb := C.1.2.1
  have hl : lv_has ls 2 [(0, qR g l0), (1, qI l1)] := hl
  unfold M_X0_matters at hm
  replace hm := (tk_inv hm).2
  refine lv_aload_n hx hb dX0_matters_0 rfl (lv_at hl 0 rfl) ?_
  refine z_getR C fl_0_34 Hh dX0_matters_1 rfl hm (fun x1 hm => ?_)
  refine lv_aload_n hx hb dX0_matters_4 rfl (lv_at hl 0 rfl) ?_
  refine z_getI C fl_0_15 Hh dX0_matters_5 rfl hm (fun x2 hm => ?_)
  refine z_lald C Hh dX0_matters_8 hm (fun x3 hm => ?_)
  refine lv_iload_n hx hb dX0_matters_9 rfl (lv_at hl 1 rfl) ?_
  refine z_lushr C dX0_matters_10 ?_
  refine z_lconst (v := 1) C dX0_matters_11 rfl ?_
  refine z_land C dX0_matters_12 ?_
  refine z_lconst (v := 0) C dX0_matters_13 rfl ?_
  refine z_lcmp C dX0_matters_14 ?_
  refine z_if_eq (tgt := 22) C dX0_matters_15 (by decide) rfl hm (fun _ hm => ?_) (fun _ hm => ?_)
  · refine z_iconst C dX0_matters_22 ?_
    exact z_zretRC C hr hlocks Hh dX0_matters_23 (by decide) hm
  · refine z_iconst C dX0_matters_18 ?_
    refine lv_goto (tgt := 23) hx hb dX0_matters_19 (by decide) ?_
    exact z_zretRC C hr hlocks Hh dX0_matters_23 (by decide) hm
theorem tg_X0_beginMark {h : Hp} {l0 l1 : Int} {r : Int} (hm : M_X0_beginMark h l0 l1 = some r) : hT h l0 = 10 := (tk_inv hm).1
set_option maxRecDepth 100000 in
set_option maxHeartbeats 4000000 in
theorem ct_X0_beginMark (l : Launch) (g : zGeo) (h : Hp) (l0 l1 : Int) (r : Int) (hm : M_X0_beginMark h l0 l1 = some r) : zM l yX0_beginMark cX0_beginMark 2 (some .int) 0 0 0 0 g h [qR g l0, qI l1] h (some (qI r)) := by
  refine z_meth (by decide) (Nat.le_of_ble_eq_true rfl) ?_
  intro p e s m args below meth c H ls C hr hlocks hnm Hh hl
  have C : zC p m c cX0_beginMark 2 s args RX0 g := C
  have hnm : meth.name = "beginMark" := hnm
  have hx := C.1.1
  have hb := C.1.2.1
  have hl : lv_has ls 2 [(0, qR g l0), (1, qI l1)] := hl
  unfold M_X0_beginMark at hm
  replace hm := (tk_inv hm).2
  refine lv_aload_n hx hb dX0_beginMark_0 rfl (lv_at hl 0 rfl) ?_
  refine z_getR C fl_0_25 Hh dX0_beginMark_1 rfl hm (fun x1 hm => ?_)
  refine z_bipush C dX0_beginMark_4 rfl ?_
  refine lv_aload_n hx hb dX0_beginMark_6 rfl (lv_at hl 0 rfl) ?_
  refine z_getI C fl_0_15 Hh dX0_beginMark_7 rfl hm (fun x2 hm => ?_)
  refine z_imul C dX0_beginMark_10 ?_
  refine lv_iload_n hx hb dX0_beginMark_11 rfl (lv_at hl 1 rfl) ?_
  refine z_iadd C dX0_beginMark_12 ?_
  refine z_iald C Hh dX0_beginMark_13 hm (fun x3 hm => ?_)
  exact z_iretR (h0 := h) C hr hlocks Hh dX0_beginMark_14 hm
theorem tg_X0_sourceOf {h : Hp} {l0 l1 : Int} {r : Int} (hm : M_X0_sourceOf h l0 l1 = some r) : hT h l0 = 10 := (tk_inv hm).1
set_option maxRecDepth 100000 in
set_option maxHeartbeats 4000000 in
theorem ct_X0_sourceOf (l : Launch) (g : zGeo) (h : Hp) (l0 l1 : Int) (r : Int) (hm : M_X0_sourceOf h l0 l1 = some r) : zM l yX0_sourceOf cX0_sourceOf 4 (some .int) 2 57 0 0 g h [qR g l0, qI l1] h (some (qI r)) := by
  refine z_meth (by decide) (Nat.le_of_ble_eq_true rfl) ?_
  intro p e s m args below meth c H ls C hr hlocks hnm Hh hl
  have C : zC p m c cX0_sourceOf 4 s args RX0 g := C
  have hnm : meth.name = "sourceOf" := hnm
  have hx := C.1.1
  have hb := C.1.2.1
  have hl : lv_has ls 4 [(0, qR g l0), (1, qI l1)] := hl
  unfold M_X0_sourceOf at hm
  replace hm := (tk_inv hm).2
  have K57 : ∀  (l2 : Int) (H : Heap) (locs : List Loc) (ls : Array Slot), zH g s h H locs → lv_has ls 4 [(2, qI l2)] → M_X0_sourceOf_p57 h l2 = some r → W p l e { frames := 2, cells := 0, slots := 0, locals := 57 } s m args below meth c H locs 0 0 (zQ below g h (some (qI r)) args s 0 0) (F0 m 57 ls []) := by
    intro l2  H locs ls Hh hl hm
    unfold M_X0_sourceOf_p57 at hm
    refine lv_iload_n hx hb dX0_sourceOf_57 rfl (lv_at hl 0 rfl) ?_
    exact z_iretR (h0 := h) C hr hlocks Hh dX0_sourceOf_58 hm
  have KL7 : ∀ (n : Nat)  (l0 l2 l3 : Int) (H : Heap) (locs : List Loc) (ls : Array Slot), zH g s h H locs → lv_has ls 4 [(0, qR g l0), (2, qI l2), (3, qI l3)] → M_X0_sourceOf_w7 n h l0 l2 l3 = some r → W p l e { frames := 2, cells := 0, slots := 0, locals := 57 } s m args below meth c H locs 0 0 (zQ below g h (some (qI r)) args s 0 0) (F0 m 7 ls []) := by
    intro n
    induction n with
    | zero => intro l0 l2 l3 H locs ls Hh hl hm; cases hm
    | succ n ih7 =>
      intro l0 l2 l3 H locs ls Hh hl hm
      obtain ⟨z7, hm, hc7⟩ := wh_inv hm
      have hm : M_X0_sourceOf_b7 h l0 l2 l3 = some z7 := hm
      unfold M_X0_sourceOf_b7 at hm
      refine lv_iload_n hx hb dX0_sourceOf_7 rfl (lv_at hl 2 rfl) ?_
      refine lv_aload_n hx hb dX0_sourceOf_8 rfl (lv_at hl 0 rfl) ?_
      refine z_getI C fl_0_15 Hh dX0_sourceOf_9 rfl hm (fun x1 hm => ?_)
      refine z_icmp_le (tgt := 57) C dX0_sourceOf_12 (by decide) rfl rfl hm (fun _ hm => ?_) (fun _ hm => ?_)
      · cases hm
        exact K57 l2 _ _ _ Hh (lv_sub hl [1] rfl) hc7
      · refine lv_iload_n hx hb dX0_sourceOf_15 rfl (lv_at hl 1 rfl) ?_
        refine z_iconst C dX0_sourceOf_16 ?_
        refine z_icmp_eq (tgt := 57) C dX0_sourceOf_17 (by decide) rfl lq_m1 hm (fun _ hm => ?_) (fun _ hm => ?_)
        · cases hm
          exact K57 l2 _ _ _ Hh (lv_sub hl [1] rfl) hc7
        · refine lv_aload_n hx hb dX0_sourceOf_20 rfl (lv_at hl 0 rfl) ?_
          refine z_getR C fl_0_38 Hh dX0_sourceOf_21 rfl hm (fun x2 hm => ?_)
          refine lv_aload_n hx hb dX0_sourceOf_24 rfl (lv_at hl 0 rfl) ?_
          refine z_getR C fl_0_18 Hh dX0_sourceOf_25 rfl hm (fun x3 hm => ?_)
          refine lv_iload_n hx hb dX0_sourceOf_28 rfl (lv_at hl 2 rfl) ?_
          refine z_iald C Hh dX0_sourceOf_29 hm (fun x4 hm => ?_)
          refine lv_aload_n hx hb dX0_sourceOf_30 rfl (lv_at hl 0 rfl) ?_
          refine z_getR C fl_0_25 Hh dX0_sourceOf_31 rfl hm (fun x5 hm => ?_)
          refine z_bipush C dX0_sourceOf_34 rfl ?_
          refine lv_iload_n hx hb dX0_sourceOf_36 rfl (lv_at hl 2 rfl) ?_
          refine z_iconst C dX0_sourceOf_37 ?_
          refine z_isub C dX0_sourceOf_38 ?_
          refine z_imul C dX0_sourceOf_39 ?_
          refine lv_iload_n hx hb dX0_sourceOf_40 rfl (lv_at hl 1 rfl) ?_
          refine lv_aload_n hx hb dX0_sourceOf_41 rfl (lv_at hl 0 rfl) ?_
          refine z_getR C fl_0_22 Hh dX0_sourceOf_42 rfl hm (fun x6 hm => ?_)
          refine lv_iload_n hx hb dX0_sourceOf_45 rfl (lv_at hl 2 rfl) ?_
          refine z_iald C Hh dX0_sourceOf_46 hm (fun x7 hm => ?_)
          refine z_cVIr (vs := [qI x4, qR g x5, qI (36 * (l3 - 1)), qI l2, qI x7]) C (fun q hq => ct_X8_source l g h x2 x4 x5 (36 * (l3 - 1)) l2 x7 q hq) tw_854 my_X8_source (fun q hq => tg_X8_source hq) rfl hl.1 Hh ⟨Nat.le_of_ble_eq_true rfl, Nat.le_of_ble_eq_true rfl, Nat.le_of_ble_eq_true rfl, Nat.le_of_ble_eq_true rfl⟩ (Nat.le_of_ble_eq_true rfl) dX0_sourceOf_47 rfl hm (fun x8 H locs Hh hm => ?_)
          refine lv_istore_n (lv' := [(2, qI x8), (0, qR g l0), (3, qI l3)]) hx hb dX0_sourceOf_50 rfl hl (by decide) rfl (fun ls hl => ?_)
          refine z_iinc (x := l3) (k := 2) (lv' := [(3, qI (l3 + (-1))), (2, qI x8), (0, qR g l0)]) C dX0_sourceOf_51 hl rfl (by decide) rfl (fun ls hl => ?_)
          refine lv_goto (tgt := 7) hx hb dX0_sourceOf_54 (by decide) ?_
          cases hm
          exact ih7 l0 x8 (l3 + (-1)) _ _ _ Hh (lv_sub hl [2, 1, 0] rfl) hc7
  refine lv_iload_n hx hb dX0_sourceOf_0 rfl (lv_at hl 1 rfl) ?_
  refine lv_istore_n (lv' := [(2, qI l1), (0, qR g l0), (1, qI l1)]) hx hb dX0_sourceOf_1 rfl hl (by decide) rfl (fun ls hl => ?_)
  refine lv_aload_n hx hb dX0_sourceOf_2 rfl (lv_at hl 1 rfl) ?_
  refine z_getI C fl_0_9 Hh dX0_sourceOf_3 rfl hm (fun x9 hm => ?_)
  refine lv_istore_n (lv' := [(3, qI x9), (2, qI l1), (0, qR g l0), (1, qI l1)]) hx hb dX0_sourceOf_6 rfl hl (by decide) rfl (fun ls hl => ?_)
  exact KL7 FU l0 l1 x9 _ _ _ Hh (lv_sub hl [2, 1, 0] rfl) hm
theorem tg_X1_init {h : Hp} {l0 l1 : Int} {r : Hp} (hm : M_X1_init h l0 l1 = some r) : hT h l0 = 11 := (tk_inv hm).1
set_option maxRecDepth 100000 in
set_option maxHeartbeats 4000000 in
theorem ct_X1_init (l : Launch) (g : zGeo) (h0 : Hp) (l0 l1 : Int) (r : Hp) (hm : M_X1_init h0 l0 l1 = some r) : zM l yX1_init cX1_init 2 none 1 40 1 625 g h0 [qR g l0, qR g l1] r none := by
  refine z_meth (by decide) (Nat.le_of_ble_eq_true rfl) ?_
  intro p e s m args below meth c H ls C hr hlocks hnm Hh hl
  have C : zC p m c cX1_init 2 s args RX1 g := C
  have hnm : meth.name = "<init>" := hnm
  have hx := C.1.1
  have hb := C.1.2.1
  have hl : lv_has ls 2 [(0, qR g l0), (1, qR g l1)] := hl
  unfold M_X1_init at hm
  replace hm := (tk_inv hm).2
  generalize h0 = h at Hh hm
  refine lv_aload_n hx hb dX1_init_0 rfl (lv_at hl 0 rfl) ?_
  refine z_oinit C ⟨tw_397, tw_159, tw_160⟩ hl.1 (Nat.le_of_ble_eq_true rfl) (Nat.le_of_ble_eq_true rfl) dX1_init_1 ?_
  refine lv_aload_n hx hb dX1_init_4 rfl (lv_at hl 0 rfl) ?_
  refine z_iconst C dX1_init_5 ?_
  refine z_putZ C hnm pl_1_9_i Hh dX1_init_6 rfl hm (fun h H locs Hh hm => ?_)
  refine lv_aload_n hx hb dX1_init_9 rfl (lv_at hl 0 rfl) ?_
  refine z_sipush C dX1_init_10 rfl ?_
  refine z_newab C (t := 1) (atype := .int) (by decide) tw_222 Hh (by decide) (by decide) (Nat.le_of_ble_eq_true rfl) (Nat.le_of_ble_eq_true rfl) dX1_init_13 hm (fun h x1 H Hh hm => ?_)
  refine z_putRc C hnm pl_1_15_i (fun _ => ⟨rfl, rfl⟩) Hh dX1_init_15 rfl hm (fun h H locs Hh hm => ?_)
  refine lv_aload_n hx hb dX1_init_18 rfl (lv_at hl 0 rfl) ?_
  refine z_iconst C dX1_init_19 ?_
  refine z_putI C hnm pl_1_19_i Hh dX1_init_20 rfl hm (fun h H locs Hh hm => ?_)
  refine lv_aload_n hx hb dX1_init_23 rfl (lv_at hl 0 rfl) ?_
  refine lv_aload_n hx hb dX1_init_24 rfl (lv_at hl 1 rfl) ?_
  refine z_putRc C hnm pl_1_23_i (fun _ => ⟨rfl, rfl⟩) Hh dX1_init_25 rfl hm (fun h H locs Hh hm => ?_)
  refine W.widen (k := 1) (n := 625) (Nat.le_of_ble_eq_true rfl) (Nat.le_of_ble_eq_true rfl) ?_
  exact z_vret C hr hlocks Hh dX1_init_28 hm
theorem tg_X1_firstNotSo {h : Hp} {l0 l1 l2 : Int} {r : Hp × Int} (hm : M_X1_firstNotSo h l0 l1 l2 = some r) : hT h l0 = 11 := (tk_inv hm).1
set_option maxRecDepth 100000 in
set_option maxHeartbeats 4000000 in
theorem ct_X1_firstNotSo (l : Launch) (g : zGeo) (h0 : Hp) (l0 l1 l2 : Int) (r : Hp × Int) (hm : M_X1_firstNotSo h0 l0 l1 l2 = some r) : zM l yX1_firstNotSo cX1_firstNotSo 5 (some .int) 5 137 0 0 g h0 [qR g l0, qR g l1, qR g l2] r.1 (some (qI r.2)) := by
  refine z_meth (by decide) (Nat.le_of_ble_eq_true rfl) ?_
  intro p e s m args below meth c H ls C hr hlocks hnm Hh hl
  have C : zC p m c cX1_firstNotSo 5 s args RX1 g := C
  have hnm : meth.name = "firstNotSo" := hnm
  have hx := C.1.1
  have hb := C.1.2.1
  have hl : lv_has ls 5 [(0, qR g l0), (1, qR g l1), (2, qR g l2)] := hl
  unfold M_X1_firstNotSo at hm
  replace hm := (tk_inv hm).2
  generalize h0 = h at Hh hm
  have K57 : ∀ (h : Hp) (H : Heap) (locs : List Loc) (ls : Array Slot), zH g s h H locs → lv_has ls 5 [] → M_X1_firstNotSo_p57 h = some r → W p l e { frames := 5, cells := 0, slots := 0, locals := 137 } s m args below meth c H locs 0 0 (zQ below g r.1 (some (qI r.2)) args s 0 0) (F0 m 57 ls []) := by
    intro h  H locs ls Hh hl hm
    unfold M_X1_firstNotSo_p57 at hm
    refine z_bipush C dX1_firstNotSo_57 rfl ?_
    exact z_iret C hr hlocks Hh dX1_firstNotSo_59 hm
  have KL2 : ∀ (n : Nat) (h : Hp) (l0 l1 l2 l3 : Int) (H : Heap) (locs : List Loc) (ls : Array Slot), zH g s h H locs → lv_has ls 5 [(0, qR g l0), (1, qR g l1), (2, qR g l2), (3, qI l3)] → M_X1_firstNotSo_w2 n h l0 l1 l2 l3 = some r → W p l e { frames := 5, cells := 0, slots := 0, locals := 137 } s m args below meth c H locs 0 0 (zQ below g r.1 (some (qI r.2)) args s 0 0) (F0 m 2 ls []) := by
    intro n
    induction n with
    | zero => intro h l0 l1 l2 l3 H locs ls Hh hl hm; cases hm
    | succ n ih2 =>
      intro h l0 l1 l2 l3 H locs ls Hh hl hm
      obtain ⟨z2, hm, hc2⟩ := wh_inv hm
      have hm : M_X1_firstNotSo_b2 h l0 l1 l2 l3 = some z2 := hm
      unfold M_X1_firstNotSo_b2 at hm
      refine lv_iload_n hx hb dX1_firstNotSo_2 rfl (lv_at hl 3 rfl) ?_
      refine lv_aload_n hx hb dX1_firstNotSo_3 rfl (lv_at hl 1 rfl) ?_
      refine z_getI C fl_1_27 Hh dX1_firstNotSo_4 rfl hm (fun x1 hm => ?_)
      refine z_icmp_ge (tgt := 57) C dX1_firstNotSo_7 (by decide) rfl rfl hm (fun _ hm => ?_) (fun _ hm => ?_)
      · cases hm
        exact K57 h _ _ _ Hh (lv_sub hl [] rfl) hc2
      · refine lv_aload_n hx hb dX1_firstNotSo_10 rfl (lv_at hl 0 rfl) ?_
        refine z_getR C fl_1_23 Hh dX1_firstNotSo_11 rfl hm (fun x2 hm => ?_)
        refine lv_aload_n hx hb dX1_firstNotSo_14 rfl (lv_at hl 2 rfl) ?_
        refine lv_aload_n hx hb dX1_firstNotSo_15 rfl (lv_at hl 1 rfl) ?_
        refine z_getR C fl_1_32 Hh dX1_firstNotSo_16 rfl hm (fun x3 hm => ?_)
        refine lv_iload_n hx hb dX1_firstNotSo_19 rfl (lv_at hl 3 rfl) ?_
        refine z_iald C Hh dX1_firstNotSo_20 hm (fun x4 hm => ?_)
        refine lv_aload_n hx hb dX1_firstNotSo_21 rfl (lv_at hl 1 rfl) ?_
        refine z_getR C fl_1_35 Hh dX1_firstNotSo_22 rfl hm (fun x5 hm => ?_)
        refine lv_iload_n hx hb dX1_firstNotSo_25 rfl (lv_at hl 3 rfl) ?_
        refine z_iald C Hh dX1_firstNotSo_26 hm (fun x6 hm => ?_)
        refine lv_aload_n hx hb dX1_firstNotSo_27 rfl (lv_at hl 1 rfl) ?_
        refine z_getR C fl_1_38 Hh dX1_firstNotSo_28 rfl hm (fun x7 hm => ?_)
        refine lv_iload_n hx hb dX1_firstNotSo_31 rfl (lv_at hl 3 rfl) ?_
        refine z_iald C Hh dX1_firstNotSo_32 hm (fun x8 hm => ?_)
        refine z_cVI (vs := [qR g l2, qI x4, qI x6, qI x8]) C (fun q hq => ct_X0_markBehind l g h x2 l2 x4 x6 x8 q hq) tw_1118 my_X0_markBehind (fun q hq => tg_X0_markBehind hq) rfl hl.1 Hh ⟨Nat.le_of_ble_eq_true rfl, Nat.le_of_ble_eq_true rfl, Nat.le_of_ble_eq_true rfl, Nat.le_of_ble_eq_true rfl⟩ (Nat.le_of_ble_eq_true rfl) dX1_firstNotSo_33 rfl hm (fun h x9 H locs Hh hm => ?_)
        refine lv_istore (lv' := [(4, qI x9), (0, qR g l0), (1, qR g l1), (2, qR g l2), (3, qI l3)]) hx hb dX1_firstNotSo_36 hl (by decide) rfl (fun ls hl => ?_)
        refine lv_iload hx hb dX1_firstNotSo_38 (lv_at hl 0 rfl) ?_
        refine lv_aload_n hx hb dX1_firstNotSo_40 rfl (lv_at hl 2 rfl) ?_
        refine z_getR C fl_1_47 Hh dX1_firstNotSo_41 rfl hm (fun x10 hm => ?_)
        refine lv_iload_n hx hb dX1_firstNotSo_44 rfl (lv_at hl 4 rfl) ?_
        refine z_iald C Hh dX1_firstNotSo_45 hm (fun x11 hm => ?_)
        refine z_icmp_eq (tgt := 51) C dX1_firstNotSo_46 (by decide) rfl rfl hm (fun _ hm => ?_) (fun _ hm => ?_)
        · refine z_iinc (x := l3) (k := 4) (lv' := [(3, qI (l3 + 1)), (4, qI x9), (0, qR g l0), (1, qR g l1), (2, qR g l2)]) C dX1_firstNotSo_51 hl rfl (by decide) rfl (fun ls hl => ?_)
          refine lv_goto (tgt := 2) hx hb dX1_firstNotSo_54 (by decide) ?_
          cases hm
          exact ih2 h l0 l1 l2 (l3 + 1) _ _ _ Hh (lv_sub hl [2, 3, 4, 0] rfl) hc2
        · refine lv_iload_n hx hb dX1_firstNotSo_49 rfl (lv_at hl 4 rfl) ?_
          cases hm
          have hm := hc2
          exact z_iret C hr hlocks Hh dX1_firstNotSo_50 hm
  refine z_iconst C dX1_firstNotSo_0 ?_
  refine lv_istore_n (lv' := [(3, qI 0), (0, qR g l0), (1, qR g l1), (2, qR g l2)]) hx hb dX1_firstNotSo_1 rfl hl (by decide) rfl (fun ls hl => ?_)
  exact KL2 FU h l0 l1 l2 0 _ _ _ Hh (lv_sub hl [1, 2, 3, 0] rfl) hm
theorem tg_X5_isUnknown {h : Hp} {l0 l1 : Int} {r : Int} (hm : M_X5_isUnknown h l0 l1 = some r) : hT h l0 = 15 := (tk_inv hm).1
set_option maxRecDepth 100000 in
set_option maxHeartbeats 4000000 in
theorem ct_X5_isUnknown (l : Launch) (g : zGeo) (h : Hp) (l0 l1 : Int) (r : Int) (hm : M_X5_isUnknown h l0 l1 = some r) : zM l yX5_isUnknown cX5_isUnknown 2 (some .boolean) 0 0 0 0 g h [qR g l0, qI l1] h (some (qI r)) := by
  refine z_meth (by decide) (Nat.le_of_ble_eq_true rfl) ?_
  intro p e s m args below meth c H ls C hr hlocks hnm Hh hl
  have C : zC p m c cX5_isUnknown 2 s args RX5 g := C
  have hnm : meth.name = "isUnknown" := hnm
  have hx := C.1.1
  have hb := C.1.2.1
  have hl : lv_has ls 2 [(0, qR g l0), (1, qI l1)] := hl
  unfold M_X5_isUnknown at hm
  replace hm := (tk_inv hm).2
  refine lv_aload_n hx hb dX5_isUnknown_0 rfl (lv_at hl 0 rfl) ?_
  refine z_getR C fl_5_18 Hh dX5_isUnknown_1 rfl hm (fun x1 hm => ?_)
  refine z_getR C fl_5_60 Hh dX5_isUnknown_4 rfl hm (fun x2 hm => ?_)
  refine z_iconst C dX5_isUnknown_7 ?_
  refine lv_iload_n hx hb dX5_isUnknown_8 rfl (lv_at hl 1 rfl) ?_
  refine z_imul C dX5_isUnknown_9 ?_
  refine z_iald C Hh dX5_isUnknown_10 hm (fun x3 hm => ?_)
  refine z_bipush C dX5_isUnknown_11 rfl ?_
  refine z_icmp_ne (tgt := 20) C dX5_isUnknown_13 (by decide) rfl lq_p10 hm (fun _ hm => ?_) (fun _ hm => ?_)
  · refine z_iconst C dX5_isUnknown_20 ?_
    exact z_zretRC C hr hlocks Hh dX5_isUnknown_21 (by decide) hm
  · refine z_iconst C dX5_isUnknown_16 ?_
    refine lv_goto (tgt := 21) hx hb dX5_isUnknown_17 (by decide) ?_
    exact z_zretRC C hr hlocks Hh dX5_isUnknown_21 (by decide) hm
theorem tg_X5_unknownsBelow {h : Hp} {l0 l1 : Int} {r : Int} (hm : M_X5_unknownsBelow h l0 l1 = some r) : hT h l0 = 15 := (tk_inv hm).1
set_option maxRecDepth 100000 in
set_option maxHeartbeats 4000000 in
theorem ct_X5_unknownsBelow (l : Launch) (g : zGeo) (h : Hp) (l0 l1 : Int) (r : Int) (hm : M_X5_unknownsBelow h l0 l1 = some r) : zM l yX5_unknownsBelow cX5_unknownsBelow 4 (some .int) 1 21 0 0 g h [qR g l0, qI l1] h (some (qI r)) := by
  refine z_meth (by decide) (Nat.le_of_ble_eq_true rfl) ?_
  intro p e s m args below meth c H ls C hr hlocks hnm Hh hl
  have C : zC p m c cX5_unknownsBelow 4 s args RX5 g := C
  have hnm : meth.name = "unknownsBelow" := hnm
  have hx := C.1.1
  have hb := C.1.2.1
  have hl : lv_has ls 4 [(0, qR g l0), (1, qI l1)] := hl
  unfold M_X5_unknownsBelow at hm
  replace hm := (tk_inv hm).2
  have K26 : ∀  (l2 : Int) (H : Heap) (locs : List Loc) (ls : Array Slot), zH g s h H locs → lv_has ls 4 [(2, qI l2)] → M_X5_unknownsBelow_p26 h l2 = some r → W p l e { frames := 1, cells := 0, slots := 0, locals := 21 } s m args below meth c H locs 0 0 (zQ below g h (some (qI r)) args s 0 0) (F0 m 26 ls []) := by
    intro l2  H locs ls Hh hl hm
    unfold M_X5_unknownsBelow_p26 at hm
    refine lv_iload_n hx hb dX5_unknownsBelow_26 rfl (lv_at hl 0 rfl) ?_
    exact z_iretR (h0 := h) C hr hlocks Hh dX5_unknownsBelow_27 hm
  have KL4 : ∀ (n : Nat)  (l0 l1 l2 l3 : Int) (H : Heap) (locs : List Loc) (ls : Array Slot), zH g s h H locs → lv_has ls 4 [(0, qR g l0), (1, qI l1), (2, qI l2), (3, qI l3)] → M_X5_unknownsBelow_w4 n h l0 l1 l2 l3 = some r → W p l e { frames := 1, cells := 0, slots := 0, locals := 21 } s m args below meth c H locs 0 0 (zQ below g h (some (qI r)) args s 0 0) (F0 m 4 ls []) := by
    intro n
    induction n with
    | zero => intro l0 l1 l2 l3 H locs ls Hh hl hm; cases hm
    | succ n ih4 =>
      intro l0 l1 l2 l3 H locs ls Hh hl hm
      obtain ⟨z4, hm, hc4⟩ := wh_inv hm
      have hm : M_X5_unknownsBelow_b4 h l0 l1 l2 l3 = some z4 := hm
      have K20 : ∀  (l2 l3 : Int) (H : Heap) (locs : List Loc) (ls : Array Slot), zH g s h H locs → lv_has ls 4 [(0, qR g l0), (1, qI l1), (2, qI l2), (3, qI l3)] → M_X5_unknownsBelow_p20 h l0 l1 l2 l3 = some z4 → W p l e { frames := 1, cells := 0, slots := 0, locals := 21 } s m args below meth c H locs 0 0 (zQ below g h (some (qI r)) args s 0 0) (F0 m 20 ls []) := by
        intro l2 l3  H locs ls Hh hl hm
        unfold M_X5_unknownsBelow_p20 at hm
        refine z_iinc (x := l3) (k := 3) (lv' := [(3, qI (l3 + 1)), (0, qR g l0), (1, qI l1), (2, qI l2)]) C dX5_unknownsBelow_20 hl rfl (by decide) rfl (fun ls hl => ?_)
        refine lv_goto (tgt := 4) hx hb dX5_unknownsBelow_23 (by decide) ?_
        cases hm
        exact ih4 l0 l1 l2 (l3 + 1) _ _ _ Hh (lv_sub hl [1, 2, 3, 0] rfl) hc4
      unfold M_X5_unknownsBelow_b4 at hm
      refine lv_iload_n hx hb dX5_unknownsBelow_4 rfl (lv_at hl 3 rfl) ?_
      refine lv_iload_n hx hb dX5_unknownsBelow_5 rfl (lv_at hl 1 rfl) ?_
      refine z_icmp_ge (tgt := 26) C dX5_unknownsBelow_6 (by decide) rfl rfl hm (fun _ hm => ?_) (fun _ hm => ?_)
      · cases hm
        exact K26 l2 _ _ _ Hh (lv_sub hl [2] rfl) hc4
      · refine lv_aload_n hx hb dX5_unknownsBelow_9 rfl (lv_at hl 0 rfl) ?_
        refine lv_iload_n hx hb dX5_unknownsBelow_10 rfl (lv_at hl 3 rfl) ?_
        refine z_cVIr (vs := [qI l3]) C (fun q hq => ct_X5_isUnknown l g h l0 l3 q hq) tw_722 my_X5_isUnknown (fun q hq => tg_X5_isUnknown hq) rfl hl.1 Hh ⟨Nat.le_of_ble_eq_true rfl, Nat.le_of_ble_eq_true rfl, Nat.le_of_ble_eq_true rfl, Nat.le_of_ble_eq_true rfl⟩ (Nat.le_of_ble_eq_true rfl) dX5_unknownsBelow_11 rfl hm (fun x1 H locs Hh hm => ?_)
        refine z_if_eq (tgt := 20) C dX5_unknownsBelow_14 (by decide) rfl hm (fun _ hm => ?_) (fun _ hm => ?_)
        · exact K20 l2 l3 _ _ _ Hh (lv_sub hl [0, 1, 2, 3] rfl) hm
        · refine z_iinc (x := l2) (k := 2) (lv' := [(2, qI (l2 + 1)), (0, qR g l0), (1, qI l1), (3, qI l3)]) C dX5_unknownsBelow_17 hl rfl (by decide) rfl (fun ls hl => ?_)
          exact K20 (l2 + 1) l3 _ _ _ Hh (lv_sub hl [1, 2, 0, 3] rfl) hm
  refine z_iconst C dX5_unknownsBelow_0 ?_
  refine lv_istore_n (lv' := [(2, qI 0), (0, qR g l0), (1, qI l1)]) hx hb dX5_unknownsBelow_1 rfl hl (by decide) rfl (fun ls hl => ?_)
  refine z_iconst C dX5_unknownsBelow_2 ?_
  refine lv_istore_n (lv' := [(3, qI 0), (2, qI 0), (0, qR g l0), (1, qI l1)]) hx hb dX5_unknownsBelow_3 rfl hl (by decide) rfl (fun ls hl => ?_)
  exact KL4 FU l0 l1 0 0 _ _ _ Hh (lv_sub hl [2, 3, 1, 0] rfl) hm
theorem tg_X5_unknownCount {h : Hp} {l0 : Int} {r : Int} (hm : M_X5_unknownCount h l0 = some r) : hT h l0 = 15 := (tk_inv hm).1
set_option maxRecDepth 100000 in
set_option maxHeartbeats 4000000 in
theorem ct_X5_unknownCount (l : Launch) (g : zGeo) (h : Hp) (l0 : Int) (r : Int) (hm : M_X5_unknownCount h l0 = some r) : zM l yX5_unknownCount cX5_unknownCount 1 (some .int) 2 44 0 0 g h [qR g l0] h (some (qI r)) := by
  refine z_meth (by decide) (Nat.le_of_ble_eq_true rfl) ?_
  intro p e s m args below meth c H ls C hr hlocks hnm Hh hl
  have C : zC p m c cX5_unknownCount 1 s args RX5 g := C
  have hnm : meth.name = "unknownCount" := hnm
  have hx := C.1.1
  have hb := C.1.2.1
  have hl : lv_has ls 1 [(0, qR g l0)] := hl
  unfold M_X5_unknownCount at hm
  replace hm := (tk_inv hm).2
  refine lv_aload_n hx hb dX5_unknownCount_0 rfl (lv_at hl 0 rfl) ?_
  refine lv_aload_n hx hb dX5_unknownCount_1 rfl (lv_at hl 0 rfl) ?_
  refine z_getR C fl_5_18 Hh dX5_unknownCount_2 rfl hm (fun x1 hm => ?_)
  refine z_getI C fl_5_57 Hh dX5_unknownCount_5 rfl hm (fun x2 hm => ?_)
  refine z_cVIr (vs := [qI x2]) C (fun q hq => ct_X5_unknownsBelow l g h l0 x2 q hq) tw_718 my_X5_unknownsBelow (fun q hq => tg_X5_unknownsBelow hq) rfl hl.1 Hh ⟨Nat.le_of_ble_eq_true rfl, Nat.le_of_ble_eq_true rfl, Nat.le_of_ble_eq_true rfl, Nat.le_of_ble_eq_true rfl⟩ (Nat.le_of_ble_eq_true rfl) dX5_unknownCount_8 rfl hm (fun x3 H locs Hh hm => ?_)
  exact z_iretR (h0 := h) C hr hlocks Hh dX5_unknownCount_11 hm
set_option maxRecDepth 100000 in
set_option maxHeartbeats 4000000 in
theorem ct_X1_weight (l : Launch) (g : zGeo) (h : Hp) (l0 l1 : Int) (r : Int) (hm : M_X1_weight h l0 l1 = some r) : zM l yX1_weight cX1_weight 4 (some .int) 0 0 0 0 g h [qR g l0, qI l1] h (some (qI r)) := by
  refine z_meth (by decide) (Nat.le_of_ble_eq_true rfl) ?_
  intro p e s m args below meth c H ls C hr hlocks hnm Hh hl
  have C : zC p m c cX1_weight 4 s args RX1 g := C
  have hnm : meth.name = "weight" := hnm
  have hx := C.1.1
  have hb := C.1.2.1
  have hl : lv_has ls 4 [(0, qR g l0), (1, qI l1)] := hl
  unfold M_X1_weight at hm
  have K27 : ∀  (l2 : Int) (H : Heap) (locs : List Loc) (ls : Array Slot), zH g s h H locs → lv_has ls 4 [(2, qI l2)] → M_X1_weight_p27 h l2 = some r → W p l e { frames := 0, cells := 0, slots := 0, locals := 0 } s m args below meth c H locs 0 0 (zQ below g h (some (qI r)) args s 0 0) (F0 m 27 ls []) := by
    intro l2  H locs ls Hh hl hm
    unfold M_X1_weight_p27 at hm
    refine lv_iload_n hx hb dX1_weight_27 rfl (lv_at hl 0 rfl) ?_
    exact z_iretR (h0 := h) C hr hlocks Hh dX1_weight_28 hm
  have KL4 : ∀ (n : Nat)  (l0 l1 l2 l3 : Int) (H : Heap) (locs : List Loc) (ls : Array Slot), zH g s h H locs → lv_has ls 4 [(0, qR g l0), (1, qI l1), (2, qI l2), (3, qI l3)] → M_X1_weight_w4 n h l0 l1 l2 l3 = some r → W p l e { frames := 0, cells := 0, slots := 0, locals := 0 } s m args below meth c H locs 0 0 (zQ below g h (some (qI r)) args s 0 0) (F0 m 4 ls []) := by
    intro n
    induction n with
    | zero => intro l0 l1 l2 l3 H locs ls Hh hl hm; cases hm
    | succ n ih4 =>
      intro l0 l1 l2 l3 H locs ls Hh hl hm
      obtain ⟨z4, hm, hc4⟩ := wh_inv hm
      have hm : M_X1_weight_b4 h l0 l1 l2 l3 = some z4 := hm
      unfold M_X1_weight_b4 at hm
      refine lv_iload_n hx hb dX1_weight_4 rfl (lv_at hl 3 rfl) ?_
      refine lv_iload_n hx hb dX1_weight_5 rfl (lv_at hl 1 rfl) ?_
      refine z_icmp_ge (tgt := 27) C dX1_weight_6 (by decide) rfl rfl hm (fun _ hm => ?_) (fun _ hm => ?_)
      · cases hm
        exact K27 l2 _ _ _ Hh (lv_sub hl [2] rfl) hc4
      · refine lv_iload_n hx hb dX1_weight_9 rfl (lv_at hl 3 rfl) ?_
        refine z_iconst C dX1_weight_10 ?_
        refine z_icmp_ge (tgt := 27) C dX1_weight_11 (by decide) rfl lq_p4 hm (fun _ hm => ?_) (fun _ hm => ?_)
        · cases hm
          exact K27 l2 _ _ _ Hh (lv_sub hl [2] rfl) hc4
        · refine lv_iload_n hx hb dX1_weight_14 rfl (lv_at hl 2 rfl) ?_
          refine lv_aload_n hx hb dX1_weight_15 rfl (lv_at hl 0 rfl) ?_
          refine z_getI C fl_1_76 Hh dX1_weight_16 rfl hm (fun x1 hm => ?_)
          refine z_imul C dX1_weight_19 ?_
          refine lv_istore_n (lv' := [(2, qI (l2 * x1)), (0, qR g l0), (1, qI l1), (3, qI l3)]) hx hb dX1_weight_20 rfl hl (by decide) rfl (fun ls hl => ?_)
          refine z_iinc (x := l3) (k := 3) (lv' := [(3, qI (l3 + 1)), (2, qI (l2 * x1)), (0, qR g l0), (1, qI l1)]) C dX1_weight_21 hl rfl (by decide) rfl (fun ls hl => ?_)
          refine lv_goto (tgt := 4) hx hb dX1_weight_24 (by decide) ?_
          cases hm
          exact ih4 l0 l1 (l2 * x1) (l3 + 1) _ _ _ Hh (lv_sub hl [2, 3, 1, 0] rfl) hc4
  refine z_iconst C dX1_weight_0 ?_
  refine lv_istore_n (lv' := [(2, qI 1), (0, qR g l0), (1, qI l1)]) hx hb dX1_weight_1 rfl hl (by decide) rfl (fun ls hl => ?_)
  refine z_iconst C dX1_weight_2 ?_
  refine lv_istore_n (lv' := [(3, qI 0), (2, qI 1), (0, qR g l0), (1, qI l1)]) hx hb dX1_weight_3 rfl hl (by decide) rfl (fun ls hl => ?_)
  exact KL4 FU l0 l1 1 0 _ _ _ Hh (lv_sub hl [2, 3, 1, 0] rfl) hm
theorem tg_X8_become {h : Hp} {l0 l1 : Int} {r : Hp} (hm : M_X8_become h l0 l1 = some r) : hT h l0 = 18 := (tk_inv hm).1
set_option maxRecDepth 100000 in
set_option maxHeartbeats 4000000 in
theorem ct_X8_become (l : Launch) (g : zGeo) (h0 : Hp) (l0 l1 : Int) (r : Hp) (hm : M_X8_become h0 l0 l1 = some r) : zM l yX8_become cX8_become 2 none 1 60 0 0 g h0 [qR g l0, qR g l1] r none := by
  refine z_meth (by decide) (Nat.le_of_ble_eq_true rfl) ?_
  intro p e s m args below meth c H ls C hr hlocks hnm Hh hl
  have C : zC p m c cX8_become 2 s args RX8 g := C
  have hnm : meth.name = "become" := hnm
  have hx := C.1.1
  have hb := C.1.2.1
  have hl : lv_has ls 2 [(0, qR g l0), (1, qR g l1)] := hl
  unfold M_X8_become at hm
  replace hm := (tk_inv hm).2
  generalize h0 = h at Hh hm
  refine lv_aload_n hx hb dX8_become_0 rfl (lv_at hl 0 rfl) ?_
  refine lv_aload_n hx hb dX8_become_1 rfl (lv_at hl 1 rfl) ?_
  refine z_getI C fl_8_9 Hh dX8_become_2 rfl hm (fun x1 hm => ?_)
  refine z_putI C hnm pl_8_9 Hh dX8_become_5 rfl hm (fun h H locs Hh hm => ?_)
  refine lv_aload_n hx hb dX8_become_8 rfl (lv_at hl 0 rfl) ?_
  refine lv_aload_n hx hb dX8_become_9 rfl (lv_at hl 1 rfl) ?_
  refine z_getI C fl_8_15 Hh dX8_become_10 rfl hm (fun x2 hm => ?_)
  refine z_putI C hnm pl_8_15 Hh dX8_become_13 rfl hm (fun h H locs Hh hm => ?_)
  refine lv_aload_n hx hb dX8_become_16 rfl (lv_at hl 0 rfl) ?_
  refine lv_aload_n hx hb dX8_become_17 rfl (lv_at hl 1 rfl) ?_
  refine z_getI C fl_8_18 Hh dX8_become_18 rfl hm (fun x3 hm => ?_)
  refine z_putI C hnm pl_8_18 Hh dX8_become_21 rfl hm (fun h H locs Hh hm => ?_)
  refine lv_aload_n hx hb dX8_become_24 rfl (lv_at hl 1 rfl) ?_
  refine z_getR C fl_8_21 Hh dX8_become_25 rfl hm (fun x4 hm => ?_)
  refine z_iconst C dX8_become_28 ?_
  refine lv_aload_n hx hb dX8_become_29 rfl (lv_at hl 0 rfl) ?_
  refine z_getR C fl_8_21 Hh dX8_become_30 rfl hm (fun x5 hm => ?_)
  refine z_iconst C dX8_become_33 ?_
  refine lv_aload_n hx hb dX8_become_34 rfl (lv_at hl 0 rfl) ?_
  refine z_getR C fl_8_21 Hh dX8_become_35 rfl hm (fun x6 hm => ?_)
  refine z_alen C Hh dX8_become_38 (by decide) hm (fun x7 hm => ?_)
  refine z_cpy (t := 1) C cp_8_37 (by decide) hl.1 Hh dX8_become_39 (Nat.le_of_ble_eq_true rfl) (Nat.le_of_ble_eq_true rfl) hm (fun h H locs Hh hm => ?_)
  refine lv_aload_n hx hb dX8_become_42 rfl (lv_at hl 1 rfl) ?_
  refine z_getR C fl_8_25 Hh dX8_become_43 rfl hm (fun x8 hm => ?_)
  refine z_iconst C dX8_become_46 ?_
  refine lv_aload_n hx hb dX8_become_47 rfl (lv_at hl 0 rfl) ?_
  refine z_getR C fl_8_25 Hh dX8_become_48 rfl hm (fun x9 hm => ?_)
  refine z_iconst C dX8_become_51 ?_
  refine lv_aload_n hx hb dX8_become_52 rfl (lv_at hl 0 rfl) ?_
  refine z_getR C fl_8_25 Hh dX8_become_53 rfl hm (fun x10 hm => ?_)
  refine z_alen C Hh dX8_become_56 (by decide) hm (fun x11 hm => ?_)
  refine z_cpy (t := 1) C cp_8_37 (by decide) hl.1 Hh dX8_become_57 (Nat.le_of_ble_eq_true rfl) (Nat.le_of_ble_eq_true rfl) hm (fun h H locs Hh hm => ?_)
  refine lv_aload_n hx hb dX8_become_60 rfl (lv_at hl 1 rfl) ?_
  refine z_getR C fl_8_28 Hh dX8_become_61 rfl hm (fun x12 hm => ?_)
  refine z_iconst C dX8_become_64 ?_
  refine lv_aload_n hx hb dX8_become_65 rfl (lv_at hl 0 rfl) ?_
  refine z_getR C fl_8_28 Hh dX8_become_66 rfl hm (fun x13 hm => ?_)
  refine z_iconst C dX8_become_69 ?_
  refine lv_aload_n hx hb dX8_become_70 rfl (lv_at hl 0 rfl) ?_
  refine z_getR C fl_8_28 Hh dX8_become_71 rfl hm (fun x14 hm => ?_)
  refine z_alen C Hh dX8_become_74 (by decide) hm (fun x15 hm => ?_)
  refine z_cpy (t := 1) C cp_8_37 (by decide) hl.1 Hh dX8_become_75 (Nat.le_of_ble_eq_true rfl) (Nat.le_of_ble_eq_true rfl) hm (fun h H locs Hh hm => ?_)
  refine lv_aload_n hx hb dX8_become_78 rfl (lv_at hl 0 rfl) ?_
  refine lv_aload_n hx hb dX8_become_79 rfl (lv_at hl 1 rfl) ?_
  refine z_getI C fl_8_31 Hh dX8_become_80 rfl hm (fun x16 hm => ?_)
  refine z_putI C hnm pl_8_31 Hh dX8_become_83 rfl hm (fun h H locs Hh hm => ?_)
  refine lv_aload_n hx hb dX8_become_86 rfl (lv_at hl 0 rfl) ?_
  refine lv_aload_n hx hb dX8_become_87 rfl (lv_at hl 1 rfl) ?_
  refine z_getI C fl_8_34 Hh dX8_become_88 rfl hm (fun x17 hm => ?_)
  refine z_putI C hnm pl_8_34 Hh dX8_become_91 rfl hm (fun h H locs Hh hm => ?_)
  exact z_vret C hr hlocks Hh dX8_become_94 hm
theorem tg_X1_guessIn {h : Hp} {l0 l1 l2 l3 : Int} {r : Int} (hm : M_X1_guessIn h l0 l1 l2 l3 = some r) : hT h l0 = 11 := (tk_inv hm).1
set_option maxRecDepth 100000 in
set_option maxHeartbeats 4000000 in
theorem ct_X1_guessIn (l : Launch) (g : zGeo) (h : Hp) (l0 l1 l2 l3 : Int) (r : Int) (hm : M_X1_guessIn h l0 l1 l2 l3 = some r) : zM l yX1_guessIn cX1_guessIn 5 (some .int) 3 64 0 0 g h [qR g l0, qR g l1, qI l2, qI l3] h (some (qI r)) := by
  refine z_meth (by decide) (Nat.le_of_ble_eq_true rfl) ?_
  intro p e s m args below meth c H ls C hr hlocks hnm Hh hl
  have C : zC p m c cX1_guessIn 5 s args RX1 g := C
  have hnm : meth.name = "guessIn" := hnm
  have hx := C.1.1
  have hb := C.1.2.1
  have hl : lv_has ls 5 [(0, qR g l0), (1, qR g l1), (2, qI l2), (3, qI l3)] := hl
  unfold M_X1_guessIn at hm
  replace hm := (tk_inv hm).2
  refine lv_aload_n hx hb dX1_guessIn_0 rfl (lv_at hl 1 rfl) ?_
  refine lv_aload_n hx hb dX1_guessIn_1 rfl (lv_at hl 1 rfl) ?_
  refine z_cVIr (vs := []) C (fun q hq => ct_X5_unknownCount l g h l1 q hq) tw_1132 my_X5_unknownCount (fun q hq => tg_X5_unknownCount hq) rfl hl.1 Hh ⟨Nat.le_of_ble_eq_true rfl, Nat.le_of_ble_eq_true rfl, Nat.le_of_ble_eq_true rfl, Nat.le_of_ble_eq_true rfl⟩ (Nat.le_of_ble_eq_true rfl) dX1_guessIn_2 rfl hm (fun x1 H locs Hh hm => ?_)
  refine z_iconst C dX1_guessIn_5 ?_
  refine z_isub C dX1_guessIn_6 ?_
  refine lv_iload_n hx hb dX1_guessIn_7 rfl (lv_at hl 3 rfl) ?_
  refine z_isub C dX1_guessIn_8 ?_
  refine z_cSIr (vs := [qR g l1, qI ((x1 - 1) - l3)]) C (fun q hq => ct_X1_weight l g h l1 ((x1 - 1) - l3) q hq) tw_1133 my_X1_weight rfl hl.1 Hh ⟨Nat.le_of_ble_eq_true rfl, Nat.le_of_ble_eq_true rfl, Nat.le_of_ble_eq_true rfl, Nat.le_of_ble_eq_true rfl⟩ (Nat.le_of_ble_eq_true rfl) dX1_guessIn_9 rfl hm (fun x2 H locs Hh hm => ?_)
  refine lv_istore (lv' := [(4, qI x2), (0, qR g l0), (1, qR g l1), (2, qI l2), (3, qI l3)]) hx hb dX1_guessIn_12 hl (by decide) rfl (fun ls hl => ?_)
  refine lv_iload hx hb dX1_guessIn_14 (lv_at hl 0 rfl) ?_
  refine z_if_le (tgt := 38) C dX1_guessIn_16 (by decide) rfl hm (fun _ hm => ?_) (fun _ hm => ?_)
  · refine z_iconst C dX1_guessIn_38 ?_
    exact z_iretR (h0 := h) C hr hlocks Hh dX1_guessIn_39 hm
  · refine lv_aload_n hx hb dX1_guessIn_19 rfl (lv_at hl 2 rfl) ?_
    refine z_getI C fl_1_76 Hh dX1_guessIn_20 rfl hm (fun x3 hm => ?_)
    refine z_if_le (tgt := 38) C dX1_guessIn_23 (by decide) rfl hm (fun _ hm => ?_) (fun _ hm => ?_)
    · refine z_iconst C dX1_guessIn_38 ?_
      exact z_iretR (h0 := h) C hr hlocks Hh dX1_guessIn_39 hm
    · refine lv_iload_n hx hb dX1_guessIn_26 rfl (lv_at hl 3 rfl) ?_
      refine lv_iload hx hb dX1_guessIn_27 (lv_at hl 0 rfl) ?_
      refine z_idiv C dX1_guessIn_29 hm (fun x4 hm => ?_)
      refine lv_aload_n hx hb dX1_guessIn_30 rfl (lv_at hl 2 rfl) ?_
      refine z_getI C fl_1_76 Hh dX1_guessIn_31 rfl hm (fun x5 hm => ?_)
      refine z_irem C dX1_guessIn_34 hm (fun x6 hm => ?_)
      refine lv_goto (tgt := 39) hx hb dX1_guessIn_35 (by decide) ?_
      exact z_iretR (h0 := h) C hr hlocks Hh dX1_guessIn_39 hm
theorem tg_X1_setGuesses {h : Hp} {l0 l1 l2 l3 : Int} {r : Hp} (hm : M_X1_setGuesses h l0 l1 l2 l3 = some r) : hT h l0 = 11 := (tk_inv hm).1
set_option maxRecDepth 100000 in
set_option maxHeartbeats 4000000 in
theorem ct_X1_setGuesses (l : Launch) (g : zGeo) (h0 : Hp) (l0 l1 l2 l3 : Int) (r : Hp) (hm : M_X1_setGuesses h0 l0 l1 l2 l3 = some r) : zM l yX1_setGuesses cX1_setGuesses 7 none 4 88 0 0 g h0 [qR g l0, qR g l1, qR g l2, qI l3] r none := by
  refine z_meth (by decide) (Nat.le_of_ble_eq_true rfl) ?_
  intro p e s m args below meth c H ls C hr hlocks hnm Hh hl
  have C : zC p m c cX1_setGuesses 7 s args RX1 g := C
  have hnm : meth.name = "setGuesses" := hnm
  have hx := C.1.1
  have hb := C.1.2.1
  have hl : lv_has ls 7 [(0, qR g l0), (1, qR g l1), (2, qR g l2), (3, qI l3)] := hl
  unfold M_X1_setGuesses at hm
  replace hm := (tk_inv hm).2
  generalize h0 = h at Hh hm
  have K66 : ∀ (h : Hp) (H : Heap) (locs : List Loc) (ls : Array Slot), zH g s h H locs → lv_has ls 7 [] → M_X1_setGuesses_p66 h = some r → W p l e { frames := 4, cells := 0, slots := 0, locals := 88 } s m args below meth c H locs 0 0 (zQ below g r none args s 0 0) (F0 m 66 ls []) := by
    intro h  H locs ls Hh hl hm
    unfold M_X1_setGuesses_p66 at hm
    exact z_vret C hr hlocks Hh dX1_setGuesses_66 hm
  have KL6 : ∀ (n : Nat) (h : Hp) (l0 l1 l2 l3 l4 l5 : Int) (H : Heap) (locs : List Loc) (ls : Array Slot), zH g s h H locs → lv_has ls 7 [(0, qR g l0), (1, qR g l1), (2, qR g l2), (3, qI l3), (4, qI l4), (5, qI l5)] → M_X1_setGuesses_w6 n h l0 l1 l2 l3 l4 l5 = some r → W p l e { frames := 4, cells := 0, slots := 0, locals := 88 } s m args below meth c H locs 0 0 (zQ below g r none args s 0 0) (F0 m 6 ls []) := by
    intro n
    induction n with
    | zero => intro h l0 l1 l2 l3 l4 l5 H locs ls Hh hl hm; cases hm
    | succ n ih6 =>
      intro h l0 l1 l2 l3 l4 l5 H locs ls Hh hl hm
      obtain ⟨z6, hm, hc6⟩ := wh_inv hm
      have hm : M_X1_setGuesses_b6 h l0 l1 l2 l3 l4 l5 = some z6 := hm
      have K60 : ∀ (h : Hp) (l4 l5 : Int) (H : Heap) (locs : List Loc) (ls : Array Slot), zH g s h H locs → lv_has ls 7 [(0, qR g l0), (1, qR g l1), (2, qR g l2), (3, qI l3), (4, qI l4), (5, qI l5)] → M_X1_setGuesses_p60 h l0 l1 l2 l3 l4 l5 = some z6 → W p l e { frames := 4, cells := 0, slots := 0, locals := 88 } s m args below meth c H locs 0 0 (zQ below g r none args s 0 0) (F0 m 60 ls []) := by
        intro h l4 l5  H locs ls Hh hl hm
        unfold M_X1_setGuesses_p60 at hm
        refine z_iinc (x := l5) (k := 5) (lv' := [(5, qI (l5 + 1)), (0, qR g l0), (1, qR g l1), (2, qR g l2), (3, qI l3), (4, qI l4)]) C dX1_setGuesses_60 hl rfl (by decide) rfl (fun ls hl => ?_)
        refine lv_goto (tgt := 6) hx hb dX1_setGuesses_63 (by decide) ?_
        cases hm
        exact ih6 h l0 l1 l2 l3 l4 (l5 + 1) _ _ _ Hh (lv_sub hl [1, 2, 3, 4, 5, 0] rfl) hc6
      unfold M_X1_setGuesses_b6 at hm
      refine lv_iload hx hb dX1_setGuesses_6 (lv_at hl 5 rfl) ?_
      refine lv_aload_n hx hb dX1_setGuesses_8 rfl (lv_at hl 1 rfl) ?_
      refine z_getR C fl_1_58 Hh dX1_setGuesses_9 rfl hm (fun x1 hm => ?_)
      refine z_getI C fl_1_79 Hh dX1_setGuesses_12 rfl hm (fun x2 hm => ?_)
      refine z_icmp_ge (tgt := 66) C dX1_setGuesses_15 (by decide) rfl rfl hm (fun _ hm => ?_) (fun _ hm => ?_)
      · cases hm
        exact K66 h _ _ _ Hh (lv_sub hl [] rfl) hc6
      · refine lv_aload_n hx hb dX1_setGuesses_18 rfl (lv_at hl 1 rfl) ?_
        refine lv_iload hx hb dX1_setGuesses_19 (lv_at hl 5 rfl) ?_
        refine z_cVIr (vs := [qI l5]) C (fun q hq => ct_X5_isUnknown l g h l1 l5 q hq) tw_1141 my_X5_isUnknown (fun q hq => tg_X5_isUnknown hq) rfl hl.1 Hh ⟨Nat.le_of_ble_eq_true rfl, Nat.le_of_ble_eq_true rfl, Nat.le_of_ble_eq_true rfl, Nat.le_of_ble_eq_true rfl⟩ (Nat.le_of_ble_eq_true rfl) dX1_setGuesses_21 rfl hm (fun x3 H locs Hh hm => ?_)
        refine z_if_eq (tgt := 60) C dX1_setGuesses_24 (by decide) rfl hm (fun _ hm => ?_) (fun _ hm => ?_)
        · exact K60 h l4 l5 _ _ _ Hh (lv_sub hl [0, 1, 2, 3, 4, 5] rfl) hm
        · refine lv_aload_n hx hb dX1_setGuesses_27 rfl (lv_at hl 0 rfl) ?_
          refine lv_aload_n hx hb dX1_setGuesses_28 rfl (lv_at hl 1 rfl) ?_
          refine lv_iload_n hx hb dX1_setGuesses_29 rfl (lv_at hl 3 rfl) ?_
          refine lv_iload hx hb dX1_setGuesses_30 (lv_at hl 4 rfl) ?_
          refine z_cVIr (vs := [qR g l1, qI l3, qI l4]) C (fun q hq => ct_X1_guessIn l g h l0 l1 l3 l4 q hq) tw_1142 my_X1_guessIn (fun q hq => tg_X1_guessIn hq) rfl hl.1 Hh ⟨Nat.le_of_ble_eq_true rfl, Nat.le_of_ble_eq_true rfl, Nat.le_of_ble_eq_true rfl, Nat.le_of_ble_eq_true rfl⟩ (Nat.le_of_ble_eq_true rfl) dX1_setGuesses_32 rfl hm (fun x4 H locs Hh hm => ?_)
          refine lv_istore (lv' := [(6, qI x4), (0, qR g l0), (1, qR g l1), (2, qR g l2), (3, qI l3), (4, qI l4), (5, qI l5)]) hx hb dX1_setGuesses_35 hl (by decide) rfl (fun ls hl => ?_)
          refine lv_aload_n hx hb dX1_setGuesses_37 rfl (lv_at hl 2 rfl) ?_
          refine z_getR C fl_1_90 Hh dX1_setGuesses_38 rfl hm (fun x5 hm => ?_)
          refine z_iconst C dX1_setGuesses_41 ?_
          refine lv_iload hx hb dX1_setGuesses_42 (lv_at hl 0 rfl) ?_
          refine z_imul C dX1_setGuesses_44 ?_
          refine lv_aload_n hx hb dX1_setGuesses_45 rfl (lv_at hl 3 rfl) ?_
          refine z_getR C fl_1_93 Hh dX1_setGuesses_46 rfl hm (fun x6 hm => ?_)
          refine z_iconst C dX1_setGuesses_49 ?_
          refine lv_iload hx hb dX1_setGuesses_50 (lv_at hl 6 rfl) ?_
          refine z_imul C dX1_setGuesses_52 ?_
          refine z_iconst C dX1_setGuesses_53 ?_
          refine z_cpy (t := 1) C cp_1_96 (by decide) hl.1 Hh dX1_setGuesses_54 (Nat.le_of_ble_eq_true rfl) (Nat.le_of_ble_eq_true rfl) hm (fun h H locs Hh hm => ?_)
          refine z_iinc (x := l4) (k := 5) (lv' := [(4, qI (l4 + 1)), (6, qI x4), (0, qR g l0), (1, qR g l1), (2, qR g l2), (3, qI l3), (5, qI l5)]) C dX1_setGuesses_57 hl rfl (by decide) rfl (fun ls hl => ?_)
          exact K60 h (l4 + 1) l5 _ _ _ Hh (lv_sub hl [2, 3, 4, 5, 0, 6] rfl) hm
  refine z_iconst C dX1_setGuesses_0 ?_
  refine lv_istore (lv' := [(4, qI 0), (0, qR g l0), (1, qR g l1), (2, qR g l2), (3, qI l3)]) hx hb dX1_setGuesses_1 hl (by decide) rfl (fun ls hl => ?_)
  refine z_iconst C dX1_setGuesses_3 ?_
  refine lv_istore (lv' := [(5, qI 0), (4, qI 0), (0, qR g l0), (1, qR g l1), (2, qR g l2), (3, qI l3)]) hx hb dX1_setGuesses_4 hl (by decide) rfl (fun ls hl => ?_)
  exact KL6 FU h l0 l1 l2 l3 0 0 _ _ _ Hh (lv_sub hl [2, 3, 4, 5, 1, 0] rfl) hm
theorem tg_X1_find {h : Hp} {l0 l1 l2 : Int} {r : Hp} (hm : M_X1_find h l0 l1 l2 = some r) : hT h l0 = 11 := (tk_inv hm).1
set_option maxRecDepth 100000 in
set_option maxHeartbeats 4000000 in
theorem ct_X1_find (l : Launch) (g : zGeo) (h0 : Hp) (l0 l1 l2 : Int) (r : Hp) (hm : M_X1_find h0 l0 l1 l2 = some r) : zM l yX1_find cX1_find 5 none 6 161 0 0 g h0 [qR g l0, qR g l1, qR g l2] r none := by
  refine z_meth (by decide) (Nat.le_of_ble_eq_true rfl) ?_
  intro p e s m args below meth c H ls C hr hlocks hnm Hh hl
  have C : zC p m c cX1_find 5 s args RX1 g := C
  have hnm : meth.name = "find" := hnm
  have hx := C.1.1
  have hb := C.1.2.1
  have hl : lv_has ls 5 [(0, qR g l0), (1, qR g l1), (2, qR g l2)] := hl
  unfold M_X1_find at hm
  replace hm := (tk_inv hm).2
  generalize h0 = h at Hh hm
  have K90 : ∀ (h : Hp) (H : Heap) (locs : List Loc) (ls : Array Slot), zH g s h H locs → lv_has ls 5 [] → M_X1_find_p90 h = some r → W p l e { frames := 6, cells := 0, slots := 0, locals := 161 } s m args below meth c H locs 0 0 (zQ below g r none args s 0 0) (F0 m 90 ls []) := by
    intro h  H locs ls Hh hl hm
    unfold M_X1_find_p90 at hm
    exact z_vret C hr hlocks Hh dX1_find_90 hm
  have KL38 : ∀ (n : Nat) (h : Hp) (l0 l1 l2 l3 l4 : Int) (H : Heap) (locs : List Loc) (ls : Array Slot), zH g s h H locs → lv_has ls 5 [(0, qR g l0), (1, qR g l1), (2, qR g l2), (3, qI l3), (4, qI l4)] → M_X1_find_w38 n h l0 l1 l2 l3 l4 = some r → W p l e { frames := 6, cells := 0, slots := 0, locals := 161 } s m args below meth c H locs 0 0 (zQ below g r none args s 0 0) (F0 m 38 ls []) := by
    intro n
    induction n with
    | zero => intro h l0 l1 l2 l3 l4 H locs ls Hh hl hm; cases hm
    | succ n ih38 =>
      intro h l0 l1 l2 l3 l4 H locs ls Hh hl hm
      obtain ⟨z38, hm, hc38⟩ := wh_inv hm
      have hm : M_X1_find_b38 h l0 l1 l2 l3 l4 = some z38 := hm
      have K84 : ∀ (h : Hp) (l4 : Int) (H : Heap) (locs : List Loc) (ls : Array Slot), zH g s h H locs → lv_has ls 5 [(0, qR g l0), (1, qR g l1), (2, qR g l2), (3, qI l3), (4, qI l4)] → M_X1_find_p84 h l0 l1 l2 l3 l4 = some z38 → W p l e { frames := 6, cells := 0, slots := 0, locals := 161 } s m args below meth c H locs 0 0 (zQ below g r none args s 0 0) (F0 m 84 ls []) := by
        intro h l4  H locs ls Hh hl hm
        unfold M_X1_find_p84 at hm
        refine z_iinc (x := l4) (k := 4) (lv' := [(4, qI (l4 + 1)), (0, qR g l0), (1, qR g l1), (2, qR g l2), (3, qI l3)]) C dX1_find_84 hl rfl (by decide) rfl (fun ls hl => ?_)
        refine lv_goto (tgt := 38) hx hb dX1_find_87 (by decide) ?_
        cases hm
        exact ih38 h l0 l1 l2 l3 (l4 + 1) _ _ _ Hh (lv_sub hl [1, 2, 3, 4, 0] rfl) hc38
      unfold M_X1_find_b38 at hm
      refine lv_iload hx hb dX1_find_38 (lv_at hl 4 rfl) ?_
      refine lv_iload_n hx hb dX1_find_40 rfl (lv_at hl 3 rfl) ?_
      refine z_icmp_ge (tgt := 90) C dX1_find_41 (by decide) rfl rfl hm (fun _ hm => ?_) (fun _ hm => ?_)
      · cases hm
        exact K90 h _ _ _ Hh (lv_sub hl [] rfl) hc38
      · refine lv_aload_n hx hb dX1_find_44 rfl (lv_at hl 0 rfl) ?_
        refine lv_aload_n hx hb dX1_find_45 rfl (lv_at hl 1 rfl) ?_
        refine lv_aload_n hx hb dX1_find_46 rfl (lv_at hl 2 rfl) ?_
        refine lv_iload hx hb dX1_find_47 (lv_at hl 4 rfl) ?_
        refine z_cVv (vs := [qR g l1, qR g l2, qI l4]) C (fun q hq => ct_X1_setGuesses l g h l0 l1 l2 l4 q hq) tw_1137 my_X1_setGuesses (fun q hq => tg_X1_setGuesses hq) rfl hl.1 Hh ⟨Nat.le_of_ble_eq_true rfl, Nat.le_of_ble_eq_true rfl, Nat.le_of_ble_eq_true rfl, Nat.le_of_ble_eq_true rfl⟩ (Nat.le_of_ble_eq_true rfl) dX1_find_49 rfl hm (fun h H locs Hh hm => ?_)
        refine lv_aload_n hx hb dX1_find_52 rfl (lv_at hl 0 rfl) ?_
        refine lv_aload_n hx hb dX1_find_53 rfl (lv_at hl 1 rfl) ?_
        refine lv_aload_n hx hb dX1_find_54 rfl (lv_at hl 2 rfl) ?_
        refine z_cVI (vs := [qR g l1, qR g l2]) C (fun q hq => ct_X1_firstNotSo l g h l0 l1 l2 q hq) tw_1147 my_X1_firstNotSo (fun q hq => tg_X1_firstNotSo hq) rfl hl.1 Hh ⟨Nat.le_of_ble_eq_true rfl, Nat.le_of_ble_eq_true rfl, Nat.le_of_ble_eq_true rfl, Nat.le_of_ble_eq_true rfl⟩ (Nat.le_of_ble_eq_true rfl) dX1_find_55 rfl hm (fun h x1 H locs Hh hm => ?_)
        refine z_bipush C dX1_find_58 rfl ?_
        refine z_icmp_ne (tgt := 84) C dX1_find_60 (by decide) rfl lq_m2 hm (fun _ hm => ?_) (fun _ hm => ?_)
        · exact K84 h l4 _ _ _ Hh (lv_sub hl [0, 1, 2, 3, 4] rfl) hm
        · refine lv_aload_n hx hb dX1_find_63 rfl (lv_at hl 0 rfl) ?_
          refine z_getR C fl_1_15 Hh dX1_find_64 rfl hm (fun x2 hm => ?_)
          refine lv_aload_n hx hb dX1_find_67 rfl (lv_at hl 0 rfl) ?_
          refine z_getI C fl_1_19 Hh dX1_find_68 rfl hm (fun x3 hm => ?_)
          refine lv_iload hx hb dX1_find_71 (lv_at hl 4 rfl) ?_
          refine z_iast C Hh dX1_find_73 hm (fun h H locs Hh hm => ?_)
          refine lv_aload_n hx hb dX1_find_74 rfl (lv_at hl 0 rfl) ?_
          refine lv_dup hx hb dX1_find_75 rfl ?_
          refine z_getI C fl_1_19 Hh dX1_find_76 rfl hm (fun x4 hm => ?_)
          refine z_iconst C dX1_find_79 ?_
          refine z_iadd C dX1_find_80 ?_
          refine z_putI C hnm pl_1_19 Hh dX1_find_81 rfl hm (fun h H locs Hh hm => ?_)
          exact K84 h l4 _ _ _ Hh (lv_sub hl [0, 1, 2, 3, 4] rfl) hm
  refine lv_aload_n hx hb dX1_find_0 rfl (lv_at hl 0 rfl) ?_
  refine z_getI C fl_1_9 Hh dX1_find_1 rfl hm (fun x5 hm => ?_)
  refine z_if_eq (tgt := 8) C dX1_find_4 (by decide) rfl hm (fun _ hm => ?_) (fun _ hm => ?_)
  · refine lv_aload_n hx hb dX1_find_8 rfl (lv_at hl 0 rfl) ?_
    refine z_iconst C dX1_find_9 ?_
    refine z_putZ C hnm pl_1_9 Hh dX1_find_10 rfl hm (fun h H locs Hh hm => ?_)
    refine lv_aload_n hx hb dX1_find_13 rfl (lv_at hl 0 rfl) ?_
    refine z_iconst C dX1_find_14 ?_
    refine z_putI C hnm pl_1_19 Hh dX1_find_15 rfl hm (fun h H locs Hh hm => ?_)
    refine lv_aload_n hx hb dX1_find_18 rfl (lv_at hl 1 rfl) ?_
    refine lv_aload_n hx hb dX1_find_19 rfl (lv_at hl 1 rfl) ?_
    refine z_cVIr (vs := []) C (fun q hq => ct_X5_unknownCount l g h l1 q hq) tw_1132 my_X5_unknownCount (fun q hq => tg_X5_unknownCount hq) rfl hl.1 Hh ⟨Nat.le_of_ble_eq_true rfl, Nat.le_of_ble_eq_true rfl, Nat.le_of_ble_eq_true rfl, Nat.le_of_ble_eq_true rfl⟩ (Nat.le_of_ble_eq_true rfl) dX1_find_20 rfl hm (fun x6 H locs Hh hm => ?_)
    refine z_cSIr (vs := [qR g l1, qI x6]) C (fun q hq => ct_X1_weight l g h l1 x6 q hq) tw_1133 my_X1_weight rfl hl.1 Hh ⟨Nat.le_of_ble_eq_true rfl, Nat.le_of_ble_eq_true rfl, Nat.le_of_ble_eq_true rfl, Nat.le_of_ble_eq_true rfl⟩ (Nat.le_of_ble_eq_true rfl) dX1_find_23 rfl hm (fun x7 H locs Hh hm => ?_)
    refine lv_istore_n (lv' := [(3, qI x7), (0, qR g l0), (1, qR g l1), (2, qR g l2)]) hx hb dX1_find_26 rfl hl (by decide) rfl (fun ls hl => ?_)
    refine lv_aload_n hx hb dX1_find_27 rfl (lv_at hl 3 rfl) ?_
    refine lv_aload_n hx hb dX1_find_28 rfl (lv_at hl 2 rfl) ?_
    refine z_getR C fl_1_58 Hh dX1_find_29 rfl hm (fun x8 hm => ?_)
    refine z_cVv (vs := [qR g x8]) C (fun q hq => ct_X8_become l g h l2 x8 q hq) tw_1136 my_X8_become (fun q hq => tg_X8_become hq) rfl hl.1 Hh ⟨Nat.le_of_ble_eq_true rfl, Nat.le_of_ble_eq_true rfl, Nat.le_of_ble_eq_true rfl, Nat.le_of_ble_eq_true rfl⟩ (Nat.le_of_ble_eq_true rfl) dX1_find_32 rfl hm (fun h H locs Hh hm => ?_)
    refine z_iconst C dX1_find_35 ?_
    refine lv_istore (lv' := [(4, qI 0), (3, qI x7), (0, qR g l0), (1, qR g l1), (2, qR g l2)]) hx hb dX1_find_36 hl (by decide) rfl (fun ls hl => ?_)
    exact KL38 FU h l0 l1 l2 x7 0 _ _ _ Hh (lv_sub hl [2, 3, 4, 1, 0] rfl) hm
  · exact z_vret C hr hlocks Hh dX1_find_7 hm
theorem tg_X1_sureGuess {h : Hp} {l0 l1 l2 : Int} {r : Int} (hm : M_X1_sureGuess h l0 l1 l2 = some r) : hT h l0 = 11 := (tk_inv hm).1
set_option maxRecDepth 100000 in
set_option maxHeartbeats 4000000 in
theorem ct_X1_sureGuess (l : Launch) (g : zGeo) (h : Hp) (l0 l1 l2 : Int) (r : Int) (hm : M_X1_sureGuess h l0 l1 l2 = some r) : zM l yX1_sureGuess cX1_sureGuess 5 (some .int) 4 88 0 0 g h [qR g l0, qR g l1, qI l2] h (some (qI r)) := by
  refine z_meth (by decide) (Nat.le_of_ble_eq_true rfl) ?_
  intro p e s m args below meth c H ls C hr hlocks hnm Hh hl
  have C : zC p m c cX1_sureGuess 5 s args RX1 g := C
  have hnm : meth.name = "sureGuess" := hnm
  have hx := C.1.1
  have hb := C.1.2.1
  have hl : lv_has ls 5 [(0, qR g l0), (1, qR g l1), (2, qI l2)] := hl
  unfold M_X1_sureGuess at hm
  replace hm := (tk_inv hm).2
  have K61 : ∀  (l3 : Int) (H : Heap) (locs : List Loc) (ls : Array Slot), zH g s h H locs → lv_has ls 5 [(3, qI l3)] → M_X1_sureGuess_p61 h l3 = some r → W p l e { frames := 4, cells := 0, slots := 0, locals := 88 } s m args below meth c H locs 0 0 (zQ below g h (some (qI r)) args s 0 0) (F0 m 61 ls []) := by
    intro l3  H locs ls Hh hl hm
    unfold M_X1_sureGuess_p61 at hm
    refine lv_iload_n hx hb dX1_sureGuess_61 rfl (lv_at hl 0 rfl) ?_
    exact z_iretR (h0 := h) C hr hlocks Hh dX1_sureGuess_62 hm
  have KL26 : ∀ (n : Nat)  (l0 l1 l2 l3 l4 : Int) (H : Heap) (locs : List Loc) (ls : Array Slot), zH g s h H locs → lv_has ls 5 [(0, qR g l0), (1, qR g l1), (2, qI l2), (3, qI l3), (4, qI l4)] → M_X1_sureGuess_w26 n h l0 l1 l2 l3 l4 = some r → W p l e { frames := 4, cells := 0, slots := 0, locals := 88 } s m args below meth c H locs 0 0 (zQ below g h (some (qI r)) args s 0 0) (F0 m 26 ls []) := by
    intro n
    induction n with
    | zero => intro l0 l1 l2 l3 l4 H locs ls Hh hl hm; cases hm
    | succ n ih26 =>
      intro l0 l1 l2 l3 l4 H locs ls Hh hl hm
      obtain ⟨z26, hm, hc26⟩ := wh_inv hm
      have hm : M_X1_sureGuess_b26 h l0 l1 l2 l3 l4 = some z26 := hm
      unfold M_X1_sureGuess_b26 at hm
      refine lv_iload hx hb dX1_sureGuess_26 (lv_at hl 4 rfl) ?_
      refine lv_aload_n hx hb dX1_sureGuess_28 rfl (lv_at hl 0 rfl) ?_
      refine z_getI C fl_1_19 Hh dX1_sureGuess_29 rfl hm (fun x1 hm => ?_)
      refine z_icmp_ge (tgt := 61) C dX1_sureGuess_32 (by decide) rfl rfl hm (fun _ hm => ?_) (fun _ hm => ?_)
      · cases hm
        exact K61 l3 _ _ _ Hh (lv_sub hl [3] rfl) hc26
      · refine lv_aload_n hx hb dX1_sureGuess_35 rfl (lv_at hl 0 rfl) ?_
        refine lv_aload_n hx hb dX1_sureGuess_36 rfl (lv_at hl 1 rfl) ?_
        refine lv_aload_n hx hb dX1_sureGuess_37 rfl (lv_at hl 0 rfl) ?_
        refine z_getR C fl_1_15 Hh dX1_sureGuess_38 rfl hm (fun x2 hm => ?_)
        refine lv_iload hx hb dX1_sureGuess_41 (lv_at hl 4 rfl) ?_
        refine z_iald C Hh dX1_sureGuess_43 hm (fun x3 hm => ?_)
        refine lv_iload_n hx hb dX1_sureGuess_44 rfl (lv_at hl 2 rfl) ?_
        refine z_cVIr (vs := [qR g l1, qI x3, qI l2]) C (fun q hq => ct_X1_guessIn l g h l0 l1 x3 l2 q hq) tw_1142 my_X1_guessIn (fun q hq => tg_X1_guessIn hq) rfl hl.1 Hh ⟨Nat.le_of_ble_eq_true rfl, Nat.le_of_ble_eq_true rfl, Nat.le_of_ble_eq_true rfl, Nat.le_of_ble_eq_true rfl⟩ (Nat.le_of_ble_eq_true rfl) dX1_sureGuess_45 rfl hm (fun x4 H locs Hh hm => ?_)
        refine lv_iload_n hx hb dX1_sureGuess_48 rfl (lv_at hl 3 rfl) ?_
        refine z_icmp_eq (tgt := 55) C dX1_sureGuess_49 (by decide) rfl rfl hm (fun _ hm => ?_) (fun _ hm => ?_)
        · refine z_iinc (x := l4) (k := 4) (lv' := [(4, qI (l4 + 1)), (0, qR g l0), (1, qR g l1), (2, qI l2), (3, qI l3)]) C dX1_sureGuess_55 hl rfl (by decide) rfl (fun ls hl => ?_)
          refine lv_goto (tgt := 26) hx hb dX1_sureGuess_58 (by decide) ?_
          cases hm
          exact ih26 l0 l1 l2 l3 (l4 + 1) _ _ _ Hh (lv_sub hl [1, 2, 3, 4, 0] rfl) hc26
        · refine z_bipush C dX1_sureGuess_52 rfl ?_
          cases hm
          have hm := hc26
          exact z_iretR (h0 := h) C hr hlocks Hh dX1_sureGuess_54 hm
  refine lv_aload_n hx hb dX1_sureGuess_0 rfl (lv_at hl 0 rfl) ?_
  refine z_getI C fl_1_19 Hh dX1_sureGuess_1 rfl hm (fun x5 hm => ?_)
  refine z_if_ne (tgt := 10) C dX1_sureGuess_4 (by decide) rfl hm (fun _ hm => ?_) (fun _ hm => ?_)
  · refine lv_aload_n hx hb dX1_sureGuess_10 rfl (lv_at hl 0 rfl) ?_
    refine lv_aload_n hx hb dX1_sureGuess_11 rfl (lv_at hl 1 rfl) ?_
    refine lv_aload_n hx hb dX1_sureGuess_12 rfl (lv_at hl 0 rfl) ?_
    refine z_getR C fl_1_15 Hh dX1_sureGuess_13 rfl hm (fun x6 hm => ?_)
    refine z_iconst C dX1_sureGuess_16 ?_
    refine z_iald C Hh dX1_sureGuess_17 hm (fun x7 hm => ?_)
    refine lv_iload_n hx hb dX1_sureGuess_18 rfl (lv_at hl 2 rfl) ?_
    refine z_cVIr (vs := [qR g l1, qI x7, qI l2]) C (fun q hq => ct_X1_guessIn l g h l0 l1 x7 l2 q hq) tw_1142 my_X1_guessIn (fun q hq => tg_X1_guessIn hq) rfl hl.1 Hh ⟨Nat.le_of_ble_eq_true rfl, Nat.le_of_ble_eq_true rfl, Nat.le_of_ble_eq_true rfl, Nat.le_of_ble_eq_true rfl⟩ (Nat.le_of_ble_eq_true rfl) dX1_sureGuess_19 rfl hm (fun x8 H locs Hh hm => ?_)
    refine lv_istore_n (lv' := [(3, qI x8), (0, qR g l0), (1, qR g l1), (2, qI l2)]) hx hb dX1_sureGuess_22 rfl hl (by decide) rfl (fun ls hl => ?_)
    refine z_iconst C dX1_sureGuess_23 ?_
    refine lv_istore (lv' := [(4, qI 1), (3, qI x8), (0, qR g l0), (1, qR g l1), (2, qI l2)]) hx hb dX1_sureGuess_24 hl (by decide) rfl (fun ls hl => ?_)
    exact KL26 FU l0 l1 l2 x8 1 _ _ _ Hh (lv_sub hl [2, 3, 4, 1, 0] rfl) hm
  · refine z_bipush C dX1_sureGuess_7 rfl ?_
    exact z_iretR (h0 := h) C hr hlocks Hh dX1_sureGuess_9 hm
theorem tg_X2_init {h : Hp} {l0 : Int} {r : Hp} (hm : M_X2_init h l0 = some r) : hT h l0 = 12 := (tk_inv hm).1
set_option maxRecDepth 100000 in
set_option maxHeartbeats 4000000 in
theorem ct_X2_init (l : Launch) (g : zGeo) (h0 : Hp) (l0 : Int) (r : Hp) (hm : M_X2_init h0 l0 = some r) : zM l yX2_init cX2_init 1 none 1 40 4 144 g h0 [qR g l0] r none := by
  refine z_meth (by decide) (Nat.le_of_ble_eq_true rfl) ?_
  intro p e s m args below meth c H ls C hr hlocks hnm Hh hl
  have C : zC p m c cX2_init 1 s args RX2 g := C
  have hnm : meth.name = "<init>" := hnm
  have hx := C.1.1
  have hb := C.1.2.1
  have hl : lv_has ls 1 [(0, qR g l0)] := hl
  unfold M_X2_init at hm
  replace hm := (tk_inv hm).2
  generalize h0 = h at Hh hm
  refine lv_aload_n hx hb dX2_init_0 rfl (lv_at hl 0 rfl) ?_
  refine z_oinit C ⟨tw_419, tw_159, tw_160⟩ hl.1 (Nat.le_of_ble_eq_true rfl) (Nat.le_of_ble_eq_true rfl) dX2_init_1 ?_
  refine lv_aload_n hx hb dX2_init_4 rfl (lv_at hl 0 rfl) ?_
  refine z_bipush C dX2_init_5 rfl ?_
  refine z_newab C (t := 1) (atype := .int) (by decide) tw_222 Hh (by decide) (by decide) (Nat.le_of_ble_eq_true rfl) (Nat.le_of_ble_eq_true rfl) dX2_init_7 hm (fun h x1 H Hh hm => ?_)
  refine z_putRc C hnm pl_2_9_i (fun _ => ⟨rfl, rfl⟩) Hh dX2_init_9 rfl hm (fun h H locs Hh hm => ?_)
  refine lv_aload_n hx hb dX2_init_12 rfl (lv_at hl 0 rfl) ?_
  refine z_iconst C dX2_init_13 ?_
  refine z_putI C hnm pl_2_15_i Hh dX2_init_14 rfl hm (fun h H locs Hh hm => ?_)
  refine lv_aload_n hx hb dX2_init_17 rfl (lv_at hl 0 rfl) ?_
  refine z_iconst C dX2_init_18 ?_
  refine z_putI C hnm pl_2_19_i Hh dX2_init_19 rfl hm (fun h H locs Hh hm => ?_)
  refine lv_aload_n hx hb dX2_init_22 rfl (lv_at hl 0 rfl) ?_
  refine z_bipush C dX2_init_23 rfl ?_
  refine z_newab C (t := 1) (atype := .int) (by decide) tw_222 Hh (by decide) (by decide) (Nat.le_of_ble_eq_true rfl) (Nat.le_of_ble_eq_true rfl) dX2_init_25 hm (fun h x2 H Hh hm => ?_)
  refine z_putRc C hnm pl_2_22_i (fun _ => ⟨rfl, rfl⟩) Hh dX2_init_27 rfl hm (fun h H locs Hh hm => ?_)
  refine lv_aload_n hx hb dX2_init_30 rfl (lv_at hl 0 rfl) ?_
  refine z_bipush C dX2_init_31 rfl ?_
  refine z_newab C (t := 4) (atype := .boolean) (by decide) tw_442 Hh (by decide) (by decide) (Nat.le_of_ble_eq_true rfl) (Nat.le_of_ble_eq_true rfl) dX2_init_33 hm (fun h x3 H Hh hm => ?_)
  refine z_putRc C hnm pl_2_25_i (fun _ => ⟨rfl, rfl⟩) Hh dX2_init_35 rfl hm (fun h H locs Hh hm => ?_)
  refine lv_aload_n hx hb dX2_init_38 rfl (lv_at hl 0 rfl) ?_
  refine z_bipush C dX2_init_39 rfl ?_
  refine z_newab C (t := 1) (atype := .int) (by decide) tw_222 Hh (by decide) (by decide) (Nat.le_of_ble_eq_true rfl) (Nat.le_of_ble_eq_true rfl) dX2_init_41 hm (fun h x4 H Hh hm => ?_)
  refine z_putRc C hnm pl_2_29_i (fun _ => ⟨rfl, rfl⟩) Hh dX2_init_43 rfl hm (fun h H locs Hh hm => ?_)
  refine W.widen (k := 4) (n := 144) (Nat.le_of_ble_eq_true rfl) (Nat.le_of_ble_eq_true rfl) ?_
  exact z_vret C hr hlocks Hh dX2_init_46 hm
theorem tg_X2_areaFrom {h : Hp} {l0 l1 l2 : Int} {r : Hp × Int} (hm : M_X2_areaFrom h l0 l1 l2 = some r) : hT h l0 = 12 := (tk_inv hm).1
set_option maxRecDepth 100000 in
set_option maxHeartbeats 4000000 in
theorem ct_X2_areaFrom (l : Launch) (g : zGeo) (h0 : Hp) (l0 l1 l2 : Int) (r : Hp × Int) (hm : M_X2_areaFrom h0 l0 l1 l2 = some r) : zM l yX2_areaFrom cX2_areaFrom 7 (some .int) 1 24 0 0 g h0 [qR g l0, qR g l1, qI l2] r.1 (some (qI r.2)) := by
  refine z_meth (by decide) (Nat.le_of_ble_eq_true rfl) ?_
  intro p e s m args below meth c H ls C hr hlocks hnm Hh hl
  have C : zC p m c cX2_areaFrom 7 s args RX2 g := C
  have hnm : meth.name = "areaFrom" := hnm
  have hx := C.1.1
  have hb := C.1.2.1
  have hl : lv_has ls 7 [(0, qR g l0), (1, qR g l1), (2, qI l2)] := hl
  unfold M_X2_areaFrom at hm
  replace hm := (tk_inv hm).2
  generalize h0 = h at Hh hm
  have K103 : ∀ (h : Hp) (l3 : Int) (H : Heap) (locs : List Loc) (ls : Array Slot), zH g s h H locs → lv_has ls 7 [(3, qI l3)] → M_X2_areaFrom_p103 h l3 = some r → W p l e { frames := 1, cells := 0, slots := 0, locals := 24 } s m args below meth c H locs 0 0 (zQ below g r.1 (some (qI r.2)) args s 0 0) (F0 m 103 ls []) := by
    intro h l3  H locs ls Hh hl hm
    unfold M_X2_areaFrom_p103 at hm
    refine lv_iload_n hx hb dX2_areaFrom_103 rfl (lv_at hl 0 rfl) ?_
    exact z_iret C hr hlocks Hh dX2_areaFrom_104 hm
  have KL19 : ∀ (n : Nat) (h : Hp) (l0 l1 l3 l4 : Int) (H : Heap) (locs : List Loc) (ls : Array Slot), zH g s h H locs → lv_has ls 7 [(0, qR g l0), (1, qR g l1), (3, qI l3), (4, qI l4)] → M_X2_areaFrom_w19 n h l0 l1 l3 l4 = some r → W p l e { frames := 1, cells := 0, slots := 0, locals := 24 } s m args below meth c H locs 0 0 (zQ below g r.1 (some (qI r.2)) args s 0 0) (F0 m 19 ls []) := by
    intro n
    induction n with
    | zero => intro h l0 l1 l3 l4 H locs ls Hh hl hm; cases hm
    | succ n ih19 =>
      intro h l0 l1 l3 l4 H locs ls Hh hl hm
      obtain ⟨z19, hm, hc19⟩ := wh_inv hm
      have hm : M_X2_areaFrom_b19 h l0 l1 l3 l4 = some z19 := hm
      have K97 : ∀ (h : Hp) (l3 l4 : Int) (H : Heap) (locs : List Loc) (ls : Array Slot), zH g s h H locs → lv_has ls 7 [(0, qR g l0), (1, qR g l1), (3, qI l3), (4, qI l4)] → M_X2_areaFrom_p97 h l0 l1 l3 l4 = some z19 → W p l e { frames := 1, cells := 0, slots := 0, locals := 24 } s m args below meth c H locs 0 0 (zQ below g r.1 (some (qI r.2)) args s 0 0) (F0 m 97 ls []) := by
        intro h l3 l4  H locs ls Hh hl hm
        unfold M_X2_areaFrom_p97 at hm
        refine z_iinc (x := l4) (k := 3) (lv' := [(4, qI (l4 + 1)), (0, qR g l0), (1, qR g l1), (3, qI l3)]) C dX2_areaFrom_97 hl rfl (by decide) rfl (fun ls hl => ?_)
        refine lv_goto (tgt := 19) hx hb dX2_areaFrom_100 (by decide) ?_
        cases hm
        exact ih19 h l0 l1 l3 (l4 + 1) _ _ _ Hh (lv_sub hl [1, 2, 3, 0] rfl) hc19
      have KL35 : ∀ (n : Nat) (h : Hp) (l3 l4 l5 : Int) (H : Heap) (locs : List Loc) (ls : Array Slot), zH g s h H locs → lv_has ls 7 [(0, qR g l0), (1, qR g l1), (3, qI l3), (4, qI l4), (5, qI l5)] → M_X2_areaFrom_w35 n h l0 l1 l3 l4 l5 = some z19 → W p l e { frames := 1, cells := 0, slots := 0, locals := 24 } s m args below meth c H locs 0 0 (zQ below g r.1 (some (qI r.2)) args s 0 0) (F0 m 35 ls []) := by
        intro n
        induction n with
        | zero => intro h l3 l4 l5 H locs ls Hh hl hm; cases hm
        | succ n ih35 =>
          intro h l3 l4 l5 H locs ls Hh hl hm
          obtain ⟨z35, hm, hc35⟩ := wh_inv hm
          have hm : M_X2_areaFrom_b35 h l0 l1 l4 l3 l5 = some z35 := hm
          have K91 : ∀ (h : Hp) (l3 l5 : Int) (H : Heap) (locs : List Loc) (ls : Array Slot), zH g s h H locs → lv_has ls 7 [(0, qR g l0), (1, qR g l1), (3, qI l3), (4, qI l4), (5, qI l5)] → M_X2_areaFrom_p91 h l0 l1 l3 l4 l5 = some z35 → W p l e { frames := 1, cells := 0, slots := 0, locals := 24 } s m args below meth c H locs 0 0 (zQ below g r.1 (some (qI r.2)) args s 0 0) (F0 m 91 ls []) := by
            intro h l3 l5  H locs ls Hh hl hm
            unfold M_X2_areaFrom_p91 at hm
            refine z_iinc (x := l5) (k := 4) (lv' := [(5, qI (l5 + 1)), (0, qR g l0), (1, qR g l1), (3, qI l3), (4, qI l4)]) C dX2_areaFrom_91 hl rfl (by decide) rfl (fun ls hl => ?_)
            refine lv_goto (tgt := 35) hx hb dX2_areaFrom_94 (by decide) ?_
            cases hm
            exact ih35 h l3 l4 (l5 + 1) _ _ _ Hh (lv_sub hl [1, 2, 3, 4, 0] rfl) hc35
          unfold M_X2_areaFrom_b35 at hm
          refine lv_iload hx hb dX2_areaFrom_35 (lv_at hl 4 rfl) ?_
          refine z_iconst C dX2_areaFrom_37 ?_
          refine z_icmp_ge (tgt := 97) C dX2_areaFrom_38 (by decide) rfl lq_p4 hm (fun _ hm => ?_) (fun _ hm => ?_)
          · cases hm
            exact K97 h l3 l4 _ _ _ Hh (lv_sub hl [0, 1, 2, 3] rfl) hc35
          · refine lv_aload_n hx hb dX2_areaFrom_41 rfl (lv_at hl 1 rfl) ?_
            refine lv_aload_n hx hb dX2_areaFrom_42 rfl (lv_at hl 0 rfl) ?_
            refine z_getR C fl_2_22 Hh dX2_areaFrom_43 rfl hm (fun x1 hm => ?_)
            refine lv_iload hx hb dX2_areaFrom_46 (lv_at hl 3 rfl) ?_
            refine z_iald C Hh dX2_areaFrom_48 hm (fun x2 hm => ?_)
            refine lv_iload hx hb dX2_areaFrom_49 (lv_at hl 4 rfl) ?_
            refine z_cVIr (vs := [qI x2, qI l5]) C (fun q hq => ct_X8_beside l g h l1 x2 l5 q hq) tw_949 my_X8_beside (fun q hq => tg_X8_beside hq) rfl hl.1 Hh ⟨Nat.le_of_ble_eq_true rfl, Nat.le_of_ble_eq_true rfl, Nat.le_of_ble_eq_true rfl, Nat.le_of_ble_eq_true rfl⟩ (Nat.le_of_ble_eq_true rfl) dX2_areaFrom_51 rfl hm (fun x3 H locs Hh hm => ?_)
            refine lv_istore (lv' := [(6, qI x3), (0, qR g l0), (1, qR g l1), (3, qI l3), (4, qI l4), (5, qI l5)]) hx hb dX2_areaFrom_54 hl (by decide) rfl (fun ls hl => ?_)
            refine lv_iload hx hb dX2_areaFrom_56 (lv_at hl 0 rfl) ?_
            refine z_iconst C dX2_areaFrom_58 ?_
            refine z_icmp_eq (tgt := 91) C dX2_areaFrom_59 (by decide) rfl lq_m1 hm (fun _ hm => ?_) (fun _ hm => ?_)
            · exact K91 h l3 l5 _ _ _ Hh (lv_sub hl [1, 2, 3, 4, 5] rfl) hm
            · refine lv_aload_n hx hb dX2_areaFrom_62 rfl (lv_at hl 1 rfl) ?_
              refine z_getR C fl_2_25 Hh dX2_areaFrom_63 rfl hm (fun x4 hm => ?_)
              refine lv_iload hx hb dX2_areaFrom_66 (lv_at hl 0 rfl) ?_
              refine z_zald C Hh dX2_areaFrom_68 hm (fun x5 hm => ?_)
              refine z_if_ne (tgt := 91) C dX2_areaFrom_69 (by decide) rfl hm (fun _ hm => ?_) (fun _ hm => ?_)
              · exact K91 h l3 l5 _ _ _ Hh (lv_sub hl [1, 2, 3, 4, 5] rfl) hm
              · refine lv_aload_n hx hb dX2_areaFrom_72 rfl (lv_at hl 1 rfl) ?_
                refine z_getR C fl_2_25 Hh dX2_areaFrom_73 rfl hm (fun x6 hm => ?_)
                refine lv_iload hx hb dX2_areaFrom_76 (lv_at hl 0 rfl) ?_
                refine z_iconst C dX2_areaFrom_78 ?_
                refine z_zast C Hh dX2_areaFrom_79 hm (fun h H locs Hh hm => ?_)
                refine lv_aload_n hx hb dX2_areaFrom_80 rfl (lv_at hl 1 rfl) ?_
                refine z_getR C fl_2_22 Hh dX2_areaFrom_81 rfl hm (fun x7 hm => ?_)
                refine lv_iload_n hx hb dX2_areaFrom_84 rfl (lv_at hl 3 rfl) ?_
                refine lv_iload hx hb dX2_areaFrom_85 (lv_at hl 0 rfl) ?_
                refine z_iast C Hh dX2_areaFrom_87 hm (fun h H locs Hh hm => ?_)
                refine z_iinc (x := l3) (k := 3) (lv' := [(3, qI (l3 + 1)), (6, qI x3), (0, qR g l0), (1, qR g l1), (4, qI l4), (5, qI l5)]) C dX2_areaFrom_88 hl rfl (by decide) rfl (fun ls hl => ?_)
                exact K91 h (l3 + 1) l5 _ _ _ Hh (lv_sub hl [2, 3, 0, 4, 5] rfl) hm
      unfold M_X2_areaFrom_b19 at hm
      refine lv_iload hx hb dX2_areaFrom_19 (lv_at hl 3 rfl) ?_
      refine lv_iload_n hx hb dX2_areaFrom_21 rfl (lv_at hl 2 rfl) ?_
      refine z_icmp_ge (tgt := 103) C dX2_areaFrom_22 (by decide) rfl rfl hm (fun _ hm => ?_) (fun _ hm => ?_)
      · cases hm
        exact K103 h l3 _ _ _ Hh (lv_sub hl [2] rfl) hc19
      · refine lv_iload hx hb dX2_areaFrom_25 (lv_at hl 3 rfl) ?_
        refine z_bipush C dX2_areaFrom_27 rfl ?_
        refine z_icmp_ge (tgt := 103) C dX2_areaFrom_29 (by decide) rfl lq_p36 hm (fun _ hm => ?_) (fun _ hm => ?_)
        · cases hm
          exact K103 h l3 _ _ _ Hh (lv_sub hl [2] rfl) hc19
        · refine z_iconst C dX2_areaFrom_32 ?_
          refine lv_istore (lv' := [(5, qI 0), (0, qR g l0), (1, qR g l1), (3, qI l3), (4, qI l4)]) hx hb dX2_areaFrom_33 hl (by decide) rfl (fun ls hl => ?_)
          exact KL35 FU h l3 l4 0 _ _ _ Hh (lv_sub hl [1, 2, 3, 4, 0] rfl) hm
  refine z_iconst C dX2_areaFrom_0 ?_
  refine lv_istore_n (lv' := [(3, qI 1), (0, qR g l0), (1, qR g l1), (2, qI l2)]) hx hb dX2_areaFrom_1 rfl hl (by decide) rfl (fun ls hl => ?_)
  refine lv_aload_n hx hb dX2_areaFrom_2 rfl (lv_at hl 1 rfl) ?_
  refine z_getR C fl_2_22 Hh dX2_areaFrom_3 rfl hm (fun x8 hm => ?_)
  refine z_iconst C dX2_areaFrom_6 ?_
  refine lv_iload_n hx hb dX2_areaFrom_7 rfl (lv_at hl 3 rfl) ?_
  refine z_iast C Hh dX2_areaFrom_8 hm (fun h H locs Hh hm => ?_)
  refine lv_aload_n hx hb dX2_areaFrom_9 rfl (lv_at hl 1 rfl) ?_
  refine z_getR C fl_2_25 Hh dX2_areaFrom_10 rfl hm (fun x9 hm => ?_)
  refine lv_iload_n hx hb dX2_areaFrom_13 rfl (lv_at hl 3 rfl) ?_
  refine z_iconst C dX2_areaFrom_14 ?_
  refine z_zast C Hh dX2_areaFrom_15 hm (fun h H locs Hh hm => ?_)
  refine z_iconst C dX2_areaFrom_16 ?_
  refine lv_istore (lv' := [(4, qI 0), (3, qI 1), (0, qR g l0), (1, qR g l1), (2, qI l2)]) hx hb dX2_areaFrom_17 hl (by decide) rfl (fun ls hl => ?_)
  exact KL19 FU h l0 l1 1 0 _ _ _ Hh (lv_sub hl [2, 3, 1, 0] rfl) hm
theorem tg_X2_survey {h : Hp} {l0 l1 l2 : Int} {r : Hp} (hm : M_X2_survey h l0 l1 l2 = some r) : hT h l0 = 12 := (tk_inv hm).1
set_option maxRecDepth 100000 in
set_option maxHeartbeats 4000000 in
theorem ct_X2_survey (l : Launch) (g : zGeo) (h0 : Hp) (l0 l1 l2 : Int) (r : Hp) (hm : M_X2_survey h0 l0 l1 l2 = some r) : zM l yX2_survey cX2_survey 4 none 2 50 0 0 g h0 [qR g l0, qR g l1, qI l2] r none := by
  refine z_meth (by decide) (Nat.le_of_ble_eq_true rfl) ?_
  intro p e s m args below meth c H ls C hr hlocks hnm Hh hl
  have C : zC p m c cX2_survey 4 s args RX2 g := C
  have hnm : meth.name = "survey" := hnm
  have hx := C.1.1
  have hb := C.1.2.1
  have hl : lv_has ls 4 [(0, qR g l0), (1, qR g l1), (2, qI l2)] := hl
  unfold M_X2_survey at hm
  replace hm := (tk_inv hm).2
  generalize h0 = h at Hh hm
  have K103 : ∀ (h : Hp) (H : Heap) (locs : List Loc) (ls : Array Slot), zH g s h H locs → lv_has ls 4 [] → M_X2_survey_p103 h = some r → W p l e { frames := 2, cells := 0, slots := 0, locals := 50 } s m args below meth c H locs 0 0 (zQ below g r none args s 0 0) (F0 m 103 ls []) := by
    intro h  H locs ls Hh hl hm
    unfold M_X2_survey_p103 at hm
    exact z_vret C hr hlocks Hh dX2_survey_103 hm
  have KL55 : ∀ (n : Nat) (h : Hp) (l0 l1 l3 : Int) (H : Heap) (locs : List Loc) (ls : Array Slot), zH g s h H locs → lv_has ls 4 [(0, qR g l0), (1, qR g l1), (3, qI l3)] → M_X2_survey_w55 n h l0 l1 l3 = some r → W p l e { frames := 2, cells := 0, slots := 0, locals := 50 } s m args below meth c H locs 0 0 (zQ below g r none args s 0 0) (F0 m 55 ls []) := by
    intro n
    induction n with
    | zero => intro h l0 l1 l3 H locs ls Hh hl hm; cases hm
    | succ n ih55 =>
      intro h l0 l1 l3 H locs ls Hh hl hm
      obtain ⟨z55, hm, hc55⟩ := wh_inv hm
      have hm : M_X2_survey_b55 h l0 l1 l3 = some z55 := hm
      have K97 : ∀ (h : Hp) (l3 : Int) (H : Heap) (locs : List Loc) (ls : Array Slot), zH g s h H locs → lv_has ls 4 [(0, qR g l0), (1, qR g l1), (3, qI l3)] → M_X2_survey_p97 h l0 l1 l3 = some z55 → W p l e { frames := 2, cells := 0, slots := 0, locals := 50 } s m args below meth c H locs 0 0 (zQ below g r none args s 0 0) (F0 m 97 ls []) := by
        intro h l3  H locs ls Hh hl hm
        unfold M_X2_survey_p97 at hm
        refine z_iinc (x := l3) (k := 2) (lv' := [(3, qI (l3 + 1)), (0, qR g l0), (1, qR g l1)]) C dX2_survey_97 hl rfl (by decide) rfl (fun ls hl => ?_)
        refine lv_goto (tgt := 55) hx hb dX2_survey_100 (by decide) ?_
        cases hm
        exact ih55 h l0 l1 (l3 + 1) _ _ _ Hh (lv_sub hl [1, 2, 0] rfl) hc55
      unfold M_X2_survey_b55 at hm
      refine lv_iload_n hx hb dX2_survey_55 rfl (lv_at hl 2 rfl) ?_
      refine z_bipush C dX2_survey_56 rfl ?_
      refine z_icmp_ge (tgt := 103) C dX2_survey_58 (by decide) rfl lq_p36 hm (fun _ hm => ?_) (fun _ hm => ?_)
      · cases hm
        exact K103 h _ _ _ Hh (lv_sub hl [] rfl) hc55
      · refine lv_aload_n hx hb dX2_survey_61 rfl (lv_at hl 0 rfl) ?_
        refine z_getR C fl_2_25 Hh dX2_survey_62 rfl hm (fun x1 hm => ?_)
        refine lv_iload_n hx hb dX2_survey_65 rfl (lv_at hl 2 rfl) ?_
        refine z_zald C Hh dX2_survey_66 hm (fun x2 hm => ?_)
        refine z_if_ne (tgt := 97) C dX2_survey_67 (by decide) rfl hm (fun _ hm => ?_) (fun _ hm => ?_)
        · exact K97 h l3 _ _ _ Hh (lv_sub hl [0, 1, 2] rfl) hm
        · refine lv_aload_n hx hb dX2_survey_70 rfl (lv_at hl 0 rfl) ?_
          refine lv_dup hx hb dX2_survey_71 rfl ?_
          refine z_getI C fl_2_15 Hh dX2_survey_72 rfl hm (fun x3 hm => ?_)
          refine z_iconst C dX2_survey_75 ?_
          refine z_iadd C dX2_survey_76 ?_
          refine z_putI C hnm pl_2_15 Hh dX2_survey_77 rfl hm (fun h H locs Hh hm => ?_)
          refine lv_aload_n hx hb dX2_survey_80 rfl (lv_at hl 0 rfl) ?_
          refine lv_aload_n hx hb dX2_survey_81 rfl (lv_at hl 0 rfl) ?_
          refine z_getI C fl_2_19 Hh dX2_survey_82 rfl hm (fun x4 hm => ?_)
          refine lv_aload_n hx hb dX2_survey_85 rfl (lv_at hl 0 rfl) ?_
          refine lv_aload_n hx hb dX2_survey_86 rfl (lv_at hl 1 rfl) ?_
          refine lv_iload_n hx hb dX2_survey_87 rfl (lv_at hl 2 rfl) ?_
          refine z_cVI (vs := [qR g l1, qI l3]) C (fun q hq => ct_X2_areaFrom l g h l0 l1 l3 q hq) tw_945 my_X2_areaFrom (fun q hq => tg_X2_areaFrom hq) rfl hl.1 Hh ⟨Nat.le_of_ble_eq_true rfl, Nat.le_of_ble_eq_true rfl, Nat.le_of_ble_eq_true rfl, Nat.le_of_ble_eq_true rfl⟩ (Nat.le_of_ble_eq_true rfl) dX2_survey_88 rfl hm (fun h x5 H locs Hh hm => ?_)
          refine z_mmax C mm_2_42 hl.1 (Nat.le_of_ble_eq_true rfl) (Nat.le_of_ble_eq_true rfl) (Nat.le_of_ble_eq_true rfl) (Nat.le_of_ble_eq_true rfl) dX2_survey_91 ?_
          refine z_putI C hnm pl_2_19 Hh dX2_survey_94 rfl hm (fun h H locs Hh hm => ?_)
          exact K97 h l3 _ _ _ Hh (lv_sub hl [0, 1, 2] rfl) hm
  have K53 : ∀ (h : Hp) (l0 l1 : Int) (H : Heap) (locs : List Loc) (ls : Array Slot), zH g s h H locs → lv_has ls 4 [(0, qR g l0), (1, qR g l1)] → M_X2_survey_p53 h l0 l1 = some r → W p l e { frames := 2, cells := 0, slots := 0, locals := 50 } s m args below meth c H locs 0 0 (zQ below g r none args s 0 0) (F0 m 53 ls []) := by
    intro h l0 l1  H locs ls Hh hl hm
    unfold M_X2_survey_p53 at hm
    refine z_iconst C dX2_survey_53 ?_
    refine lv_istore_n (lv' := [(3, qI 0), (0, qR g l0), (1, qR g l1)]) hx hb dX2_survey_54 rfl hl (by decide) rfl (fun ls hl => ?_)
    exact KL55 FU h l0 l1 0 _ _ _ Hh (lv_sub hl [1, 2, 0] rfl) hm
  have KL12 : ∀ (n : Nat) (h : Hp) (l0 l1 l2 l3 : Int) (H : Heap) (locs : List Loc) (ls : Array Slot), zH g s h H locs → lv_has ls 4 [(0, qR g l0), (1, qR g l1), (2, qI l2), (3, qI l3)] → M_X2_survey_w12 n h l0 l1 l2 l3 = some r → W p l e { frames := 2, cells := 0, slots := 0, locals := 50 } s m args below meth c H locs 0 0 (zQ below g r none args s 0 0) (F0 m 12 ls []) := by
    intro n
    induction n with
    | zero => intro h l0 l1 l2 l3 H locs ls Hh hl hm; cases hm
    | succ n ih12 =>
      intro h l0 l1 l2 l3 H locs ls Hh hl hm
      obtain ⟨z12, hm, hc12⟩ := wh_inv hm
      have hm : M_X2_survey_b12 h l0 l1 l2 l3 = some z12 := hm
      have K46 : ∀ (h : Hp) (l3 : Int) (s0 s1 s2 : Int) (H : Heap) (locs : List Loc) (ls : Array Slot), zH g s h H locs → lv_has ls 4 [(0, qR g l0), (1, qR g l1), (2, qI l2), (3, qI l3)] → M_X2_survey_p46 h l0 l1 l2 l3 s0 s1 s2 = some z12 → W p l e { frames := 2, cells := 0, slots := 0, locals := 50 } s m args below meth c H locs 0 0 (zQ below g r none args s 0 0) (F0 m 46 ls [qI s2, qI s1, qR g s0]) := by
        intro h l3 s0 s1 s2 H locs ls Hh hl hm
        unfold M_X2_survey_p46 at hm
        refine z_zast C Hh dX2_survey_46 hm (fun h H locs Hh hm => ?_)
        refine z_iinc (x := l3) (k := 3) (lv' := [(3, qI (l3 + 1)), (0, qR g l0), (1, qR g l1), (2, qI l2)]) C dX2_survey_47 hl rfl (by decide) rfl (fun ls hl => ?_)
        refine lv_goto (tgt := 12) hx hb dX2_survey_50 (by decide) ?_
        cases hm
        exact ih12 h l0 l1 l2 (l3 + 1) _ _ _ Hh (lv_sub hl [1, 2, 3, 0] rfl) hc12
      have K41 : ∀ (h : Hp) (l3 : Int) (s0 s1 : Int) (H : Heap) (locs : List Loc) (ls : Array Slot), zH g s h H locs → lv_has ls 4 [(0, qR g l0), (1, qR g l1), (2, qI l2), (3, qI l3)] → M_X2_survey_p41 h l0 l1 l2 l3 s0 s1 = some z12 → W p l e { frames := 2, cells := 0, slots := 0, locals := 50 } s m args below meth c H locs 0 0 (zQ below g r none args s 0 0) (F0 m 41 ls [qI s1, qR g s0]) := by
        intro h l3 s0 s1 H locs ls Hh hl hm
        unfold M_X2_survey_p41 at hm
        refine z_iconst C dX2_survey_41 ?_
        refine lv_goto (tgt := 46) hx hb dX2_survey_42 (by decide) ?_
        exact K46 h l3 s0 s1 1 _ _ _ Hh (lv_sub hl [0, 1, 2, 3] rfl) hm
      unfold M_X2_survey_b12 at hm
      refine lv_iload_n hx hb dX2_survey_12 rfl (lv_at hl 3 rfl) ?_
      refine z_bipush C dX2_survey_13 rfl ?_
      refine z_icmp_ge (tgt := 53) C dX2_survey_15 (by decide) rfl lq_p36 hm (fun _ hm => ?_) (fun _ hm => ?_)
      · cases hm
        exact K53 h l0 l1 _ _ _ Hh (lv_sub hl [0, 1] rfl) hc12
      · refine lv_aload_n hx hb dX2_survey_18 rfl (lv_at hl 0 rfl) ?_
        refine z_getR C fl_2_25 Hh dX2_survey_19 rfl hm (fun x6 hm => ?_)
        refine lv_iload_n hx hb dX2_survey_22 rfl (lv_at hl 3 rfl) ?_
        refine lv_aload_n hx hb dX2_survey_23 rfl (lv_at hl 1 rfl) ?_
        refine lv_iload_n hx hb dX2_survey_24 rfl (lv_at hl 3 rfl) ?_
        refine z_cVIr (vs := [qI l3]) C (fun q hq => ct_X8_holds l g h l1 l3 q hq) tw_944 my_X8_holds (fun q hq => tg_X8_holds hq) rfl hl.1 Hh ⟨Nat.le_of_ble_eq_true rfl, Nat.le_of_ble_eq_true rfl, Nat.le_of_ble_eq_true rfl, Nat.le_of_ble_eq_true rfl⟩ (Nat.le_of_ble_eq_true rfl) dX2_survey_25 rfl hm (fun x7 H locs Hh hm => ?_)
        refine z_if_eq (tgt := 41) C dX2_survey_28 (by decide) rfl hm (fun _ hm => ?_) (fun _ hm => ?_)
        · exact K41 h l3 x6 l3 _ _ _ Hh (lv_sub hl [0, 1, 2, 3] rfl) hm
        · refine lv_aload_n hx hb dX2_survey_31 rfl (lv_at hl 0 rfl) ?_
          refine z_getR C fl_2_9 Hh dX2_survey_32 rfl hm (fun x8 hm => ?_)
          refine lv_iload_n hx hb dX2_survey_35 rfl (lv_at hl 3 rfl) ?_
          refine z_iald C Hh dX2_survey_36 hm (fun x9 hm => ?_)
          refine lv_iload_n hx hb dX2_survey_37 rfl (lv_at hl 2 rfl) ?_
          refine z_icmp_eq (tgt := 45) C dX2_survey_38 (by decide) rfl rfl hm (fun _ hm => ?_) (fun _ hm => ?_)
          · refine z_iconst C dX2_survey_45 ?_
            exact K46 h l3 x6 l3 0 _ _ _ Hh (lv_sub hl [0, 1, 2, 3] rfl) hm
          · exact K41 h l3 x6 l3 _ _ _ Hh (lv_sub hl [0, 1, 2, 3] rfl) hm
  refine lv_aload_n hx hb dX2_survey_0 rfl (lv_at hl 0 rfl) ?_
  refine z_iconst C dX2_survey_1 ?_
  refine z_putI C hnm pl_2_15 Hh dX2_survey_2 rfl hm (fun h H locs Hh hm => ?_)
  refine lv_aload_n hx hb dX2_survey_5 rfl (lv_at hl 0 rfl) ?_
  refine z_iconst C dX2_survey_6 ?_
  refine z_putI C hnm pl_2_19 Hh dX2_survey_7 rfl hm (fun h H locs Hh hm => ?_)
  refine z_iconst C dX2_survey_10 ?_
  refine lv_istore_n (lv' := [(3, qI 0), (0, qR g l0), (1, qR g l1), (2, qI l2)]) hx hb dX2_survey_11 rfl hl (by decide) rfl (fun ls hl => ?_)
  exact KL12 FU h l0 l1 l2 0 _ _ _ Hh (lv_sub hl [1, 2, 3, 0] rfl) hm
set_option maxRecDepth 100000 in
set_option maxHeartbeats 4000000 in
theorem ct_J7_fill_53178 (l : Launch) (g : zGeo) (h0 : Hp) (l0 l1 : Int) (r : Hp) (hm : M_J7_fill_53178 h0 l0 l1 = some r) : zM l yJ7_fill_53178 cJ7_fill_53178 4 none 0 0 0 0 g h0 [qR g l0, qI l1] r none := by
  refine z_meth (by decide) (Nat.le_of_ble_eq_true rfl) ?_
  intro p e s m args below meth c H ls C hr hlocks hnm Hh hl
  have C : zC p m c cJ7_fill_53178 4 s args RJ7 g := C
  have hnm : meth.name = "fill" := hnm
  have hx := C.1.1
  have hb := C.1.2.1
  have hl : lv_has ls 4 [(0, qR g l0), (1, qI l1)] := hl
  unfold M_J7_fill_53178 at hm
  generalize h0 = h at Hh hm
  have K20 : ∀ (h : Hp) (H : Heap) (locs : List Loc) (ls : Array Slot), zH g s h H locs → lv_has ls 4 [] → M_J7_fill_53178_p20 h = some r → W p l e { frames := 0, cells := 0, slots := 0, locals := 0 } s m args below meth c H locs 0 0 (zQ below g r none args s 0 0) (F0 m 20 ls []) := by
    intro h  H locs ls Hh hl hm
    unfold M_J7_fill_53178_p20 at hm
    exact z_vret C hr hlocks Hh dJ7_fill_53178_20 hm
  have KL5 : ∀ (n : Nat) (h : Hp) (l0 l1 l2 l3 : Int) (H : Heap) (locs : List Loc) (ls : Array Slot), zH g s h H locs → lv_has ls 4 [(0, qR g l0), (1, qI l1), (2, qI l2), (3, qI l3)] → M_J7_fill_53178_w5 n h l0 l1 l2 l3 = some r → W p l e { frames := 0, cells := 0, slots := 0, locals := 0 } s m args below meth c H locs 0 0 (zQ below g r none args s 0 0) (F0 m 5 ls []) := by
    intro n
    induction n with
    | zero => intro h l0 l1 l2 l3 H locs ls Hh hl hm; cases hm
    | succ n ih5 =>
      intro h l0 l1 l2 l3 H locs ls Hh hl hm
      obtain ⟨z5, hm, hc5⟩ := wh_inv hm
      have hm : M_J7_fill_53178_b5 h l0 l1 l3 l2 = some z5 := hm
      unfold M_J7_fill_53178_b5 at hm
      refine lv_iload_n hx hb dJ7_fill_53178_5 rfl (lv_at hl 2 rfl) ?_
      refine lv_iload_n hx hb dJ7_fill_53178_6 rfl (lv_at hl 3 rfl) ?_
      refine z_icmp_ge (tgt := 20) C dJ7_fill_53178_7 (by decide) rfl rfl hm (fun _ hm => ?_) (fun _ hm => ?_)
      · cases hm
        exact K20 h _ _ _ Hh (lv_sub hl [] rfl) hc5
      · refine lv_aload_n hx hb dJ7_fill_53178_10 rfl (lv_at hl 0 rfl) ?_
        refine lv_iload_n hx hb dJ7_fill_53178_11 rfl (lv_at hl 2 rfl) ?_
        refine lv_iload_n hx hb dJ7_fill_53178_12 rfl (lv_at hl 1 rfl) ?_
        refine z_iast C Hh dJ7_fill_53178_13 hm (fun h H locs Hh hm => ?_)
        refine z_iinc (x := l2) (k := 2) (lv' := [(2, qI (l2 + 1)), (0, qR g l0), (1, qI l1), (3, qI l3)]) C dJ7_fill_53178_14 hl rfl (by decide) rfl (fun ls hl => ?_)
        refine lv_goto (tgt := 5) hx hb dJ7_fill_53178_17 (by decide) ?_
        cases hm
        exact ih5 h l0 l1 (l2 + 1) l3 _ _ _ Hh (lv_sub hl [1, 2, 0, 3] rfl) hc5
  refine z_iconst C dJ7_fill_53178_0 ?_
  refine lv_istore_n (lv' := [(2, qI 0), (0, qR g l0), (1, qI l1)]) hx hb dJ7_fill_53178_1 rfl hl (by decide) rfl (fun ls hl => ?_)
  refine lv_aload_n hx hb dJ7_fill_53178_2 rfl (lv_at hl 1 rfl) ?_
  refine z_alen C Hh dJ7_fill_53178_3 (by decide) hm (fun x1 hm => ?_)
  refine lv_istore_n (lv' := [(3, qI x1), (2, qI 0), (0, qR g l0), (1, qI l1)]) hx hb dJ7_fill_53178_4 rfl hl (by decide) rfl (fun ls hl => ?_)
  exact KL5 FU h l0 l1 0 x1 _ _ _ Hh (lv_sub hl [2, 3, 1, 0] rfl) hm
theorem tg_X8_isEdge {h : Hp} {l0 l1 : Int} {r : Int} (hm : M_X8_isEdge h l0 l1 = some r) : hT h l0 = 18 := (tk_inv hm).1
set_option maxRecDepth 100000 in
set_option maxHeartbeats 4000000 in
theorem ct_X8_isEdge (l : Launch) (g : zGeo) (h : Hp) (l0 l1 : Int) (r : Int) (hm : M_X8_isEdge h l0 l1 = some r) : zM l yX8_isEdge cX8_isEdge 4 (some .boolean) 0 0 0 0 g h [qR g l0, qI l1] h (some (qI r)) := by
  refine z_meth (by decide) (Nat.le_of_ble_eq_true rfl) ?_
  intro p e s m args below meth c H ls C hr hlocks hnm Hh hl
  have C : zC p m c cX8_isEdge 4 s args RX8 g := C
  have hnm : meth.name = "isEdge" := hnm
  have hx := C.1.1
  have hb := C.1.2.1
  have hl : lv_has ls 4 [(0, qR g l0), (1, qI l1)] := hl
  unfold M_X8_isEdge at hm
  replace hm := (tk_inv hm).2
  refine lv_iload_n hx hb dX8_isEdge_0 rfl (lv_at hl 1 rfl) ?_
  refine z_bipush C dX8_isEdge_1 rfl ?_
  refine z_irem C dX8_isEdge_3 hm (fun x1 hm => ?_)
  refine lv_istore_n (lv' := [(2, qI x1), (0, qR g l0), (1, qI l1)]) hx hb dX8_isEdge_4 rfl hl (by decide) rfl (fun ls hl => ?_)
  refine lv_iload_n hx hb dX8_isEdge_5 rfl (lv_at hl 2 rfl) ?_
  refine z_bipush C dX8_isEdge_6 rfl ?_
  refine z_idiv C dX8_isEdge_8 hm (fun x2 hm => ?_)
  refine lv_istore_n (lv' := [(3, qI x2), (2, qI x1), (0, qR g l0), (1, qI l1)]) hx hb dX8_isEdge_9 rfl hl (by decide) rfl (fun ls hl => ?_)
  refine lv_iload_n hx hb dX8_isEdge_10 rfl (lv_at hl 1 rfl) ?_
  refine z_if_eq (tgt := 38) C dX8_isEdge_11 (by decide) rfl hm (fun _ hm => ?_) (fun _ hm => ?_)
  · refine z_iconst C dX8_isEdge_38 ?_
    refine lv_goto (tgt := 43) hx hb dX8_isEdge_39 (by decide) ?_
    exact z_zretRC C hr hlocks Hh dX8_isEdge_43 (by decide) hm
  · refine lv_iload_n hx hb dX8_isEdge_14 rfl (lv_at hl 0 rfl) ?_
    refine z_if_eq (tgt := 38) C dX8_isEdge_15 (by decide) rfl hm (fun _ hm => ?_) (fun _ hm => ?_)
    · refine z_iconst C dX8_isEdge_38 ?_
      refine lv_goto (tgt := 43) hx hb dX8_isEdge_39 (by decide) ?_
      exact z_zretRC C hr hlocks Hh dX8_isEdge_43 (by decide) hm
    · refine lv_iload_n hx hb dX8_isEdge_18 rfl (lv_at hl 1 rfl) ?_
      refine lv_aload_n hx hb dX8_isEdge_19 rfl (lv_at hl 2 rfl) ?_
      refine z_getI C fl_8_9 Hh dX8_isEdge_20 rfl hm (fun x3 hm => ?_)
      refine z_iconst C dX8_isEdge_23 ?_
      refine z_isub C dX8_isEdge_24 ?_
      refine z_icmp_eq (tgt := 38) C dX8_isEdge_25 (by decide) rfl rfl hm (fun _ hm => ?_) (fun _ hm => ?_)
      · refine z_iconst C dX8_isEdge_38 ?_
        refine lv_goto (tgt := 43) hx hb dX8_isEdge_39 (by decide) ?_
        exact z_zretRC C hr hlocks Hh dX8_isEdge_43 (by decide) hm
      · refine lv_iload_n hx hb dX8_isEdge_28 rfl (lv_at hl 0 rfl) ?_
        refine lv_aload_n hx hb dX8_isEdge_29 rfl (lv_at hl 2 rfl) ?_
        refine z_getI C fl_8_15 Hh dX8_isEdge_30 rfl hm (fun x4 hm => ?_)
        refine z_iconst C dX8_isEdge_33 ?_
        refine z_isub C dX8_isEdge_34 ?_
        refine z_icmp_ne (tgt := 42) C dX8_isEdge_35 (by decide) rfl rfl hm (fun _ hm => ?_) (fun _ hm => ?_)
        · refine z_iconst C dX8_isEdge_42 ?_
          exact z_zretRC C hr hlocks Hh dX8_isEdge_43 (by decide) hm
        · refine z_iconst C dX8_isEdge_38 ?_
          refine lv_goto (tgt := 43) hx hb dX8_isEdge_39 (by decide) ?_
          exact z_zretRC C hr hlocks Hh dX8_isEdge_43 (by decide) hm
