theorem tg_X4_lineSort {h : Hp} {l0 : Int} {r : Int} (hm : M_X4_lineSort h l0 = some r) : hT h l0 = 14 := (tk_inv hm).1
set_option maxRecDepth 100000 in
set_option maxHeartbeats 4000000 in
theorem ct_X4_lineSort (l : Launch) (g : zGeo) (h : Hp) (l0 : Int) (r : Int) (hm : M_X4_lineSort h l0 = some r) : zM l yX4_lineSort cX4_lineSort 1 (some .int) 6 172 0 0 g h [qR g l0] h (some (qI r)) := by
  refine z_meth (by decide) (Nat.le_of_ble_eq_true rfl) ?_
  intro p e s m args below meth c H ls C hr hlocks hnm Hh hl
  have C : zC p m c cX4_lineSort 1 s args RX4 g := C
  have hnm : meth.name = "lineSort" := hnm
  have hx := C.1.1
  have hb := C.1.2.1
  have hl : lv_has ls 1 [(0, qR g l0)] := hl
  unfold M_X4_lineSort at hm
  replace hm := (tk_inv hm).2
  refine lv_aload_n hx hb dX4_lineSort_0 rfl (lv_at hl 0 rfl) ?_
  refine z_ldcS (i := 0) (tx := "ring") C dX4_lineSort_1 (by decide) ?_
  refine z_cVIr (vs := [qS g 0]) C (fun q hq => ct_X4_isWord l g h l0 0 q hq) tw_584 my_X4_isWord (fun q hq => tg_X4_isWord hq) rfl hl.1 Hh ⟨Nat.le_of_ble_eq_true rfl, Nat.le_of_ble_eq_true rfl, Nat.le_of_ble_eq_true rfl, Nat.le_of_ble_eq_true rfl⟩ (Nat.le_of_ble_eq_true rfl) dX4_lineSort_3 rfl hm (fun x1 H locs Hh hm => ?_)
  refine z_if_eq (tgt := 13) C dX4_lineSort_6 (by decide) rfl hm (fun _ hm => ?_) (fun _ hm => ?_)
  · refine lv_aload_n hx hb dX4_lineSort_13 rfl (lv_at hl 0 rfl) ?_
    refine z_ldcS (i := 1) (tx := "town") C dX4_lineSort_14 (by decide) ?_
    refine z_cVIr (vs := [qS g 1]) C (fun q hq => ct_X4_isWord l g h l0 1 q hq) tw_584 my_X4_isWord (fun q hq => tg_X4_isWord hq) rfl hl.1 Hh ⟨Nat.le_of_ble_eq_true rfl, Nat.le_of_ble_eq_true rfl, Nat.le_of_ble_eq_true rfl, Nat.le_of_ble_eq_true rfl⟩ (Nat.le_of_ble_eq_true rfl) dX4_lineSort_16 rfl hm (fun x2 H locs Hh hm => ?_)
    refine z_if_eq (tgt := 26) C dX4_lineSort_19 (by decide) rfl hm (fun _ hm => ?_) (fun _ hm => ?_)
    · refine lv_aload_n hx hb dX4_lineSort_26 rfl (lv_at hl 0 rfl) ?_
      refine z_ldcS (i := 2) (tx := "copies") C dX4_lineSort_27 (by decide) ?_
      refine z_cVIr (vs := [qS g 2]) C (fun q hq => ct_X4_isWord l g h l0 2 q hq) tw_584 my_X4_isWord (fun q hq => tg_X4_isWord hq) rfl hl.1 Hh ⟨Nat.le_of_ble_eq_true rfl, Nat.le_of_ble_eq_true rfl, Nat.le_of_ble_eq_true rfl, Nat.le_of_ble_eq_true rfl⟩ (Nat.le_of_ble_eq_true rfl) dX4_lineSort_29 rfl hm (fun x3 H locs Hh hm => ?_)
      refine z_if_eq (tgt := 39) C dX4_lineSort_32 (by decide) rfl hm (fun _ hm => ?_) (fun _ hm => ?_)
      · refine lv_aload_n hx hb dX4_lineSort_39 rfl (lv_at hl 0 rfl) ?_
        refine z_ldcS (i := 3) (tx := "guess") C dX4_lineSort_40 (by decide) ?_
        refine z_cVIr (vs := [qS g 3]) C (fun q hq => ct_X4_isWord l g h l0 3 q hq) tw_584 my_X4_isWord (fun q hq => tg_X4_isWord hq) rfl hl.1 Hh ⟨Nat.le_of_ble_eq_true rfl, Nat.le_of_ble_eq_true rfl, Nat.le_of_ble_eq_true rfl, Nat.le_of_ble_eq_true rfl⟩ (Nat.le_of_ble_eq_true rfl) dX4_lineSort_42 rfl hm (fun x4 H locs Hh hm => ?_)
        refine z_if_eq (tgt := 52) C dX4_lineSort_45 (by decide) rfl hm (fun _ hm => ?_) (fun _ hm => ?_)
        · refine lv_aload_n hx hb dX4_lineSort_52 rfl (lv_at hl 0 rfl) ?_
          refine z_ldcS (i := 4) (tx := "seen") C dX4_lineSort_53 (by decide) ?_
          refine z_cVIr (vs := [qS g 4]) C (fun q hq => ct_X4_isWord l g h l0 4 q hq) tw_584 my_X4_isWord (fun q hq => tg_X4_isWord hq) rfl hl.1 Hh ⟨Nat.le_of_ble_eq_true rfl, Nat.le_of_ble_eq_true rfl, Nat.le_of_ble_eq_true rfl, Nat.le_of_ble_eq_true rfl⟩ (Nat.le_of_ble_eq_true rfl) dX4_lineSort_55 rfl hm (fun x5 H locs Hh hm => ?_)
          refine z_if_eq (tgt := 65) C dX4_lineSort_58 (by decide) rfl hm (fun _ hm => ?_) (fun _ hm => ?_)
          · refine z_iconst C dX4_lineSort_65 ?_
            exact z_iretR (h0 := h) C hr hlocks Hh dX4_lineSort_66 hm
          · refine z_iconst C dX4_lineSort_61 ?_
            refine lv_goto (tgt := 66) hx hb dX4_lineSort_62 (by decide) ?_
            exact z_iretR (h0 := h) C hr hlocks Hh dX4_lineSort_66 hm
        · refine z_iconst C dX4_lineSort_48 ?_
          refine lv_goto (tgt := 66) hx hb dX4_lineSort_49 (by decide) ?_
          exact z_iretR (h0 := h) C hr hlocks Hh dX4_lineSort_66 hm
      · refine z_iconst C dX4_lineSort_35 ?_
        refine lv_goto (tgt := 66) hx hb dX4_lineSort_36 (by decide) ?_
        exact z_iretR (h0 := h) C hr hlocks Hh dX4_lineSort_66 hm
    · refine z_iconst C dX4_lineSort_22 ?_
      refine lv_goto (tgt := 66) hx hb dX4_lineSort_23 (by decide) ?_
      exact z_iretR (h0 := h) C hr hlocks Hh dX4_lineSort_66 hm
  · refine z_iconst C dX4_lineSort_9 ?_
    refine lv_goto (tgt := 66) hx hb dX4_lineSort_10 (by decide) ?_
    exact z_iretR (h0 := h) C hr hlocks Hh dX4_lineSort_66 hm
theorem tg_X4_fail {h : Hp} {l0 l1 : Int} {r : Hp × Int} (hm : M_X4_fail h l0 l1 = some r) : hT h l0 = 14 := (tk_inv hm).1
set_option maxRecDepth 100000 in
set_option maxHeartbeats 4000000 in
theorem ct_X4_fail (l : Launch) (g : zGeo) (h0 : Hp) (l0 l1 : Int) (r : Hp × Int) (hm : M_X4_fail h0 l0 l1 = some r) : zM l yX4_fail cX4_fail 2 (some .boolean) 0 0 0 0 g h0 [qR g l0, qI l1] r.1 (some (qI r.2)) := by
  refine z_meth (by decide) (Nat.le_of_ble_eq_true rfl) ?_
  intro p e s m args below meth c H ls C hr hlocks hnm Hh hl
  have C : zC p m c cX4_fail 2 s args RX4 g := C
  have hnm : meth.name = "fail" := hnm
  have hx := C.1.1
  have hb := C.1.2.1
  have hl : lv_has ls 2 [(0, qR g l0), (1, qI l1)] := hl
  unfold M_X4_fail at hm
  replace hm := (tk_inv hm).2
  generalize h0 = h at Hh hm
  refine lv_aload_n hx hb dX4_fail_0 rfl (lv_at hl 0 rfl) ?_
  refine lv_iload_n hx hb dX4_fail_1 rfl (lv_at hl 1 rfl) ?_
  refine z_putI C hnm pl_4_9 Hh dX4_fail_2 rfl hm (fun h H locs Hh hm => ?_)
  refine lv_aload_n hx hb dX4_fail_5 rfl (lv_at hl 0 rfl) ?_
  refine lv_aload_n hx hb dX4_fail_6 rfl (lv_at hl 0 rfl) ?_
  refine z_getI C fl_4_21 Hh dX4_fail_7 rfl hm (fun x1 hm => ?_)
  refine z_putI C hnm pl_4_15 Hh dX4_fail_10 rfl hm (fun h H locs Hh hm => ?_)
  refine z_iconst C dX4_fail_13 ?_
  exact z_zretC C hr hlocks Hh dX4_fail_14 (by decide) hm
theorem tg_X4_isFull {h : Hp} {l0 l1 : Int} {r : Int} (hm : M_X4_isFull h l0 l1 = some r) : hT h l0 = 14 := (tk_inv hm).1
set_option maxRecDepth 100000 in
set_option maxHeartbeats 4000000 in
theorem ct_X4_isFull (l : Launch) (g : zGeo) (h : Hp) (l0 l1 : Int) (r : Int) (hm : M_X4_isFull h l0 l1 = some r) : zM l yX4_isFull cX4_isFull 2 (some .boolean) 0 0 0 0 g h [qR g l0, qI l1] h (some (qI r)) := by
  refine z_meth (by decide) (Nat.le_of_ble_eq_true rfl) ?_
  intro p e s m args below meth c H ls C hr hlocks hnm Hh hl
  have C : zC p m c cX4_isFull 2 s args RX4 g := C
  have hnm : meth.name = "isFull" := hnm
  have hx := C.1.1
  have hb := C.1.2.1
  have hl : lv_has ls 2 [(0, qR g l0), (1, qI l1)] := hl
  unfold M_X4_isFull at hm
  replace hm := (tk_inv hm).2
  have K36 : ∀  (l0 l1 : Int) (H : Heap) (locs : List Loc) (ls : Array Slot), zH g s h H locs → lv_has ls 2 [(0, qR g l0), (1, qI l1)] → M_X4_isFull_p36 h l0 l1 = some r → W p l e { frames := 0, cells := 0, slots := 0, locals := 0 } s m args below meth c H locs 0 0 (zQ below g h (some (qI r)) args s 0 0) (F0 m 36 ls []) := by
    intro l0 l1  H locs ls Hh hl hm
    unfold M_X4_isFull_p36 at hm
    refine lv_iload_n hx hb dX4_isFull_36 rfl (lv_at hl 1 rfl) ?_
    refine z_iconst C dX4_isFull_37 ?_
    refine z_icmp_ne (tgt := 57) C dX4_isFull_38 (by decide) rfl lq_p4 hm (fun _ hm => ?_) (fun _ hm => ?_)
    · refine z_iconst C dX4_isFull_57 ?_
      exact z_zretRC C hr hlocks Hh dX4_isFull_58 (by decide) hm
    · refine lv_aload_n hx hb dX4_isFull_41 rfl (lv_at hl 0 rfl) ?_
      refine z_getR C fl_4_47 Hh dX4_isFull_42 rfl hm (fun x1 hm => ?_)
      refine z_getI C fl_4_144 Hh dX4_isFull_45 rfl hm (fun x2 hm => ?_)
      refine z_bipush C dX4_isFull_48 rfl ?_
      refine z_icmp_lt (tgt := 57) C dX4_isFull_50 (by decide) rfl lq_p8 hm (fun _ hm => ?_) (fun _ hm => ?_)
      · refine z_iconst C dX4_isFull_57 ?_
        exact z_zretRC C hr hlocks Hh dX4_isFull_58 (by decide) hm
      · refine z_iconst C dX4_isFull_53 ?_
        refine lv_goto (tgt := 58) hx hb dX4_isFull_54 (by decide) ?_
        exact z_zretRC C hr hlocks Hh dX4_isFull_58 (by decide) hm
  have K20 : ∀  (l0 l1 : Int) (H : Heap) (locs : List Loc) (ls : Array Slot), zH g s h H locs → lv_has ls 2 [(0, qR g l0), (1, qI l1)] → M_X4_isFull_p20 h l0 l1 = some r → W p l e { frames := 0, cells := 0, slots := 0, locals := 0 } s m args below meth c H locs 0 0 (zQ below g h (some (qI r)) args s 0 0) (F0 m 20 ls []) := by
    intro l0 l1  H locs ls Hh hl hm
    unfold M_X4_isFull_p20 at hm
    refine lv_iload_n hx hb dX4_isFull_20 rfl (lv_at hl 1 rfl) ?_
    refine z_iconst C dX4_isFull_21 ?_
    refine z_icmp_ne (tgt := 36) C dX4_isFull_22 (by decide) rfl lq_p3 hm (fun _ hm => ?_) (fun _ hm => ?_)
    · exact K36 l0 l1 _ _ _ Hh (lv_sub hl [0, 1] rfl) hm
    · refine lv_aload_n hx hb dX4_isFull_25 rfl (lv_at hl 0 rfl) ?_
      refine z_getR C fl_4_47 Hh dX4_isFull_26 rfl hm (fun x3 hm => ?_)
      refine z_getI C fl_4_141 Hh dX4_isFull_29 rfl hm (fun x4 hm => ?_)
      refine z_iconst C dX4_isFull_32 ?_
      refine z_icmp_ge (tgt := 53) C dX4_isFull_33 (by decide) rfl lq_p5 hm (fun _ hm => ?_) (fun _ hm => ?_)
      · refine z_iconst C dX4_isFull_53 ?_
        refine lv_goto (tgt := 58) hx hb dX4_isFull_54 (by decide) ?_
        exact z_zretRC C hr hlocks Hh dX4_isFull_58 (by decide) hm
      · exact K36 l0 l1 _ _ _ Hh (lv_sub hl [0, 1] rfl) hm
  refine lv_iload_n hx hb dX4_isFull_0 rfl (lv_at hl 1 rfl) ?_
  refine z_iconst C dX4_isFull_1 ?_
  refine z_icmp_ne (tgt := 20) C dX4_isFull_2 (by decide) rfl lq_p1 hm (fun _ hm => ?_) (fun _ hm => ?_)
  · exact K20 l0 l1 _ _ _ Hh (lv_sub hl [0, 1] rfl) hm
  · refine lv_aload_n hx hb dX4_isFull_5 rfl (lv_at hl 0 rfl) ?_
    refine z_getR C fl_4_47 Hh dX4_isFull_6 rfl hm (fun x5 hm => ?_)
    refine z_getR C fl_4_83 Hh dX4_isFull_9 rfl hm (fun x6 hm => ?_)
    refine z_getI C fl_4_87 Hh dX4_isFull_12 rfl hm (fun x7 hm => ?_)
    refine z_bipush C dX4_isFull_15 rfl ?_
    refine z_icmp_ge (tgt := 53) C dX4_isFull_17 (by decide) rfl lq_p6 hm (fun _ hm => ?_) (fun _ hm => ?_)
    · refine z_iconst C dX4_isFull_53 ?_
      refine lv_goto (tgt := 58) hx hb dX4_isFull_54 (by decide) ?_
      exact z_zretRC C hr hlocks Hh dX4_isFull_58 (by decide) hm
    · exact K20 l0 l1 _ _ _ Hh (lv_sub hl [0, 1] rfl) hm
theorem tg_X4_mayCome {h : Hp} {l0 l1 : Int} {r : Hp × Int} (hm : M_X4_mayCome h l0 l1 = some r) : hT h l0 = 14 := (tk_inv hm).1
set_option maxRecDepth 100000 in
set_option maxHeartbeats 4000000 in
theorem ct_X4_mayCome (l : Launch) (g : zGeo) (h0 : Hp) (l0 l1 : Int) (r : Hp × Int) (hm : M_X4_mayCome h0 l0 l1 = some r) : zM l yX4_mayCome cX4_mayCome 3 (some .boolean) 1 21 0 0 g h0 [qR g l0, qI l1] r.1 (some (qI r.2)) := by
  refine z_meth (by decide) (Nat.le_of_ble_eq_true rfl) ?_
  intro p e s m args below meth c H ls C hr hlocks hnm Hh hl
  have C : zC p m c cX4_mayCome 3 s args RX4 g := C
  have hnm : meth.name = "mayCome" := hnm
  have hx := C.1.1
  have hb := C.1.2.1
  have hl : lv_has ls 3 [(0, qR g l0), (1, qI l1)] := hl
  unfold M_X4_mayCome at hm
  replace hm := (tk_inv hm).2
  generalize h0 = h at Hh hm
  have K41 : ∀ (h : Hp) (l0 l1 l2 : Int) (H : Heap) (locs : List Loc) (ls : Array Slot), zH g s h H locs → lv_has ls 3 [(0, qR g l0), (1, qI l1), (2, qI l2)] → M_X4_mayCome_p41 h l0 l1 l2 = some r → W p l e { frames := 1, cells := 0, slots := 0, locals := 21 } s m args below meth c H locs 0 0 (zQ below g r.1 (some (qI r.2)) args s 0 0) (F0 m 41 ls []) := by
    intro h l0 l1 l2  H locs ls Hh hl hm
    unfold M_X4_mayCome_p41 at hm
    refine lv_aload_n hx hb dX4_mayCome_41 rfl (lv_at hl 0 rfl) ?_
    refine lv_iload_n hx hb dX4_mayCome_42 rfl (lv_at hl 1 rfl) ?_
    refine z_cVIr (vs := [qI l1]) C (fun q hq => ct_X4_isFull l g h l0 l1 q hq) tw_648 my_X4_isFull (fun q hq => tg_X4_isFull hq) rfl hl.1 Hh ⟨Nat.le_of_ble_eq_true rfl, Nat.le_of_ble_eq_true rfl, Nat.le_of_ble_eq_true rfl, Nat.le_of_ble_eq_true rfl⟩ (Nat.le_of_ble_eq_true rfl) dX4_mayCome_43 rfl hm (fun x1 H locs Hh hm => ?_)
    refine z_if_eq (tgt := 55) C dX4_mayCome_46 (by decide) rfl hm (fun _ hm => ?_) (fun _ hm => ?_)
    · refine lv_iload_n hx hb dX4_mayCome_55 rfl (lv_at hl 1 rfl) ?_
      refine z_if_eq (tgt := 72) C dX4_mayCome_56 (by decide) rfl hm (fun _ hm => ?_) (fun _ hm => ?_)
      · refine z_iconst C dX4_mayCome_72 ?_
        refine lv_goto (tgt := 77) hx hb dX4_mayCome_73 (by decide) ?_
        exact z_zretC C hr hlocks Hh dX4_mayCome_77 (by decide) hm
      · refine lv_iload_n hx hb dX4_mayCome_59 rfl (lv_at hl 2 rfl) ?_
        refine z_if_ne (tgt := 72) C dX4_mayCome_60 (by decide) rfl hm (fun _ hm => ?_) (fun _ hm => ?_)
        · refine z_iconst C dX4_mayCome_72 ?_
          refine lv_goto (tgt := 77) hx hb dX4_mayCome_73 (by decide) ?_
          exact z_zretC C hr hlocks Hh dX4_mayCome_77 (by decide) hm
        · refine lv_aload_n hx hb dX4_mayCome_63 rfl (lv_at hl 0 rfl) ?_
          refine z_bipush C dX4_mayCome_64 rfl ?_
          refine z_cVI (vs := [qI 6]) C (fun q hq => ct_X4_fail l g h l0 6 q hq) tw_644 my_X4_fail (fun q hq => tg_X4_fail hq) rfl hl.1 Hh ⟨Nat.le_of_ble_eq_true rfl, Nat.le_of_ble_eq_true rfl, Nat.le_of_ble_eq_true rfl, Nat.le_of_ble_eq_true rfl⟩ (Nat.le_of_ble_eq_true rfl) dX4_mayCome_66 rfl hm (fun h x2 H locs Hh hm => ?_)
          refine z_if_eq (tgt := 76) C dX4_mayCome_69 (by decide) rfl hm (fun _ hm => ?_) (fun _ hm => ?_)
          · refine z_iconst C dX4_mayCome_76 ?_
            exact z_zretC C hr hlocks Hh dX4_mayCome_77 (by decide) hm
          · refine z_iconst C dX4_mayCome_72 ?_
            refine lv_goto (tgt := 77) hx hb dX4_mayCome_73 (by decide) ?_
            exact z_zretC C hr hlocks Hh dX4_mayCome_77 (by decide) hm
    · refine lv_aload_n hx hb dX4_mayCome_49 rfl (lv_at hl 0 rfl) ?_
      refine z_iconst C dX4_mayCome_50 ?_
      refine z_cVI (vs := [qI 5]) C (fun q hq => ct_X4_fail l g h l0 5 q hq) tw_644 my_X4_fail (fun q hq => tg_X4_fail hq) rfl hl.1 Hh ⟨Nat.le_of_ble_eq_true rfl, Nat.le_of_ble_eq_true rfl, Nat.le_of_ble_eq_true rfl, Nat.le_of_ble_eq_true rfl⟩ (Nat.le_of_ble_eq_true rfl) dX4_mayCome_51 rfl hm (fun h x3 H locs Hh hm => ?_)
      obtain ⟨hz, hm⟩ := zb1_inv hm
      exact z_zretC C hr hlocks Hh dX4_mayCome_54 hz hm
  have K15 : ∀ (h : Hp) (l0 l1 : Int) (s0 : Int) (H : Heap) (locs : List Loc) (ls : Array Slot), zH g s h H locs → lv_has ls 3 [(0, qR g l0), (1, qI l1)] → M_X4_mayCome_p15 h l0 l1 s0 = some r → W p l e { frames := 1, cells := 0, slots := 0, locals := 21 } s m args below meth c H locs 0 0 (zQ below g r.1 (some (qI r.2)) args s 0 0) (F0 m 15 ls [qI s0]) := by
    intro h l0 l1 s0 H locs ls Hh hl hm
    unfold M_X4_mayCome_p15 at hm
    refine lv_istore_n (lv' := [(2, qI s0), (0, qR g l0), (1, qI l1)]) hx hb dX4_mayCome_15 rfl hl (by decide) rfl (fun ls hl => ?_)
    refine lv_iload_n hx hb dX4_mayCome_16 rfl (lv_at hl 2 rfl) ?_
    refine z_iconst C dX4_mayCome_17 ?_
    refine z_icmp_ne (tgt := 27) C dX4_mayCome_18 (by decide) rfl lq_m1 hm (fun _ hm => ?_) (fun _ hm => ?_)
    · refine lv_iload_n hx hb dX4_mayCome_27 rfl (lv_at hl 2 rfl) ?_
      refine z_if_ne (tgt := 41) C dX4_mayCome_28 (by decide) rfl hm (fun _ hm => ?_) (fun _ hm => ?_)
      · exact K41 h l0 l1 s0 _ _ _ Hh (lv_sub hl [1, 2, 0] rfl) hm
      · refine lv_iload_n hx hb dX4_mayCome_31 rfl (lv_at hl 0 rfl) ?_
        refine z_if_eq (tgt := 41) C dX4_mayCome_32 (by decide) rfl hm (fun _ hm => ?_) (fun _ hm => ?_)
        · exact K41 h l0 l1 s0 _ _ _ Hh (lv_sub hl [1, 2, 0] rfl) hm
        · refine lv_aload_n hx hb dX4_mayCome_35 rfl (lv_at hl 1 rfl) ?_
          refine z_iconst C dX4_mayCome_36 ?_
          refine z_cVI (vs := [qI 3]) C (fun q hq => ct_X4_fail l g h l0 3 q hq) tw_644 my_X4_fail (fun q hq => tg_X4_fail hq) rfl hl.1 Hh ⟨Nat.le_of_ble_eq_true rfl, Nat.le_of_ble_eq_true rfl, Nat.le_of_ble_eq_true rfl, Nat.le_of_ble_eq_true rfl⟩ (Nat.le_of_ble_eq_true rfl) dX4_mayCome_37 rfl hm (fun h x5 H locs Hh hm => ?_)
          obtain ⟨hz, hm⟩ := zb1_inv hm
          exact z_zretC C hr hlocks Hh dX4_mayCome_40 hz hm
    · refine lv_aload_n hx hb dX4_mayCome_21 rfl (lv_at hl 1 rfl) ?_
      refine z_iconst C dX4_mayCome_22 ?_
      refine z_cVI (vs := [qI 1]) C (fun q hq => ct_X4_fail l g h l0 1 q hq) tw_644 my_X4_fail (fun q hq => tg_X4_fail hq) rfl hl.1 Hh ⟨Nat.le_of_ble_eq_true rfl, Nat.le_of_ble_eq_true rfl, Nat.le_of_ble_eq_true rfl, Nat.le_of_ble_eq_true rfl⟩ (Nat.le_of_ble_eq_true rfl) dX4_mayCome_23 rfl hm (fun h x7 H locs Hh hm => ?_)
      obtain ⟨hz, hm⟩ := zb1_inv hm
      exact z_zretC C hr hlocks Hh dX4_mayCome_26 hz hm
  refine lv_aload_n hx hb dX4_mayCome_0 rfl (lv_at hl 0 rfl) ?_
  refine z_getR C fl_4_47 Hh dX4_mayCome_1 rfl hm (fun x9 hm => ?_)
  refine z_getI C fl_4_116 Hh dX4_mayCome_4 rfl hm (fun x10 hm => ?_)
  refine z_if_le (tgt := 14) C dX4_mayCome_7 (by decide) rfl hm (fun _ hm => ?_) (fun _ hm => ?_)
  · refine z_iconst C dX4_mayCome_14 ?_
    exact K15 h l0 l1 0 _ _ _ Hh (lv_sub hl [0, 1] rfl) hm
  · refine z_iconst C dX4_mayCome_10 ?_
    refine lv_goto (tgt := 15) hx hb dX4_mayCome_11 (by decide) ?_
    exact K15 h l0 l1 1 _ _ _ Hh (lv_sub hl [0, 1] rfl) hm
theorem tg_X4_wordDue {h : Hp} {l0 l1 : Int} {r : Hp × Int} (hm : M_X4_wordDue h l0 l1 = some r) : hT h l0 = 14 := (tk_inv hm).1
set_option maxRecDepth 100000 in
set_option maxHeartbeats 4000000 in
theorem ct_X4_wordDue (l : Launch) (g : zGeo) (h0 : Hp) (l0 l1 : Int) (r : Hp × Int) (hm : M_X4_wordDue h0 l0 l1 = some r) : zM l yX4_wordDue cX4_wordDue 2 (some .boolean) 6 172 0 0 g h0 [qR g l0, qS g l1] r.1 (some (qI r.2)) := by
  refine z_meth (by decide) (Nat.le_of_ble_eq_true rfl) ?_
  intro p e s m args below meth c H ls C hr hlocks hnm Hh hl
  have C : zC p m c cX4_wordDue 2 s args RX4 g := C
  have hnm : meth.name = "wordDue" := hnm
  have hx := C.1.1
  have hb := C.1.2.1
  have hl : lv_has ls 2 [(0, qR g l0), (1, qS g l1)] := hl
  unfold M_X4_wordDue at hm
  replace hm := (tk_inv hm).2
  generalize h0 = h at Hh hm
  refine lv_aload_n hx hb dX4_wordDue_0 rfl (lv_at hl 0 rfl) ?_
  refine lv_aload_n hx hb dX4_wordDue_1 rfl (lv_at hl 1 rfl) ?_
  refine z_cVIr (vs := [qS g l1]) C (fun q hq => ct_X4_isWord l g h l0 l1 q hq) tw_584 my_X4_isWord (fun q hq => tg_X4_isWord hq) rfl hl.1 Hh ⟨Nat.le_of_ble_eq_true rfl, Nat.le_of_ble_eq_true rfl, Nat.le_of_ble_eq_true rfl, Nat.le_of_ble_eq_true rfl⟩ (Nat.le_of_ble_eq_true rfl) dX4_wordDue_2 rfl hm (fun x1 H locs Hh hm => ?_)
  refine z_if_ne (tgt := 14) C dX4_wordDue_5 (by decide) rfl hm (fun _ hm => ?_) (fun _ hm => ?_)
  · refine lv_aload_n hx hb dX4_wordDue_14 rfl (lv_at hl 0 rfl) ?_
    refine z_cVv (vs := []) C (fun q hq => ct_X4_take l g h l0 q hq) tw_573 my_X4_take (fun q hq => tg_X4_take hq) rfl hl.1 Hh ⟨Nat.le_of_ble_eq_true rfl, Nat.le_of_ble_eq_true rfl, Nat.le_of_ble_eq_true rfl, Nat.le_of_ble_eq_true rfl⟩ (Nat.le_of_ble_eq_true rfl) dX4_wordDue_15 rfl hm (fun h H locs Hh hm => ?_)
    refine z_iconst C dX4_wordDue_18 ?_
    exact z_zretC C hr hlocks Hh dX4_wordDue_19 (by decide) hm
  · refine lv_aload_n hx hb dX4_wordDue_8 rfl (lv_at hl 0 rfl) ?_
    refine z_iconst C dX4_wordDue_9 ?_
    refine z_cVI (vs := [qI 1]) C (fun q hq => ct_X4_fail l g h l0 1 q hq) tw_644 my_X4_fail (fun q hq => tg_X4_fail hq) rfl hl.1 Hh ⟨Nat.le_of_ble_eq_true rfl, Nat.le_of_ble_eq_true rfl, Nat.le_of_ble_eq_true rfl, Nat.le_of_ble_eq_true rfl⟩ (Nat.le_of_ble_eq_true rfl) dX4_wordDue_10 rfl hm (fun h x2 H locs Hh hm => ?_)
    obtain ⟨hz, hm⟩ := zb1_inv hm
    exact z_zretC C hr hlocks Hh dX4_wordDue_13 hz hm
theorem tg_X4_failed {h : Hp} {l0 l1 : Int} {r : Hp × Int} (hm : M_X4_failed h l0 l1 = some r) : hT h l0 = 14 := (tk_inv hm).1
set_option maxRecDepth 100000 in
set_option maxHeartbeats 4000000 in
theorem ct_X4_failed (l : Launch) (g : zGeo) (h0 : Hp) (l0 l1 : Int) (r : Hp × Int) (hm : M_X4_failed h0 l0 l1 = some r) : zM l yX4_failed cX4_failed 2 (some .int) 1 21 0 0 g h0 [qR g l0, qI l1] r.1 (some (qI r.2)) := by
  refine z_meth (by decide) (Nat.le_of_ble_eq_true rfl) ?_
  intro p e s m args below meth c H ls C hr hlocks hnm Hh hl
  have C : zC p m c cX4_failed 2 s args RX4 g := C
  have hnm : meth.name = "failed" := hnm
  have hx := C.1.1
  have hb := C.1.2.1
  have hl : lv_has ls 2 [(0, qR g l0), (1, qI l1)] := hl
  unfold M_X4_failed at hm
  replace hm := (tk_inv hm).2
  generalize h0 = h at Hh hm
  refine lv_aload_n hx hb dX4_failed_0 rfl (lv_at hl 0 rfl) ?_
  refine lv_iload_n hx hb dX4_failed_1 rfl (lv_at hl 1 rfl) ?_
  refine z_cVI (vs := [qI l1]) C (fun q hq => ct_X4_fail l g h l0 l1 q hq) tw_644 my_X4_fail (fun q hq => tg_X4_fail hq) rfl hl.1 Hh ⟨Nat.le_of_ble_eq_true rfl, Nat.le_of_ble_eq_true rfl, Nat.le_of_ble_eq_true rfl, Nat.le_of_ble_eq_true rfl⟩ (Nat.le_of_ble_eq_true rfl) dX4_failed_2 rfl hm (fun h x1 H locs Hh hm => ?_)
  refine lv_pop hx hb dX4_failed_5 rfl ?_
  refine z_iconst C dX4_failed_6 ?_
  exact z_iret C hr hlocks Hh dX4_failed_7 hm
theorem tg_X4_wholeDue {h : Hp} {l0 l1 l2 : Int} {r : Hp × Int} (hm : M_X4_wholeDue h l0 l1 l2 = some r) : hT h l0 = 14 := (tk_inv hm).1
set_option maxRecDepth 100000 in
set_option maxHeartbeats 4000000 in
theorem ct_X4_wholeDue (l : Launch) (g : zGeo) (h0 : Hp) (l0 l1 l2 : Int) (r : Hp × Int) (hm : M_X4_wholeDue h0 l0 l1 l2 = some r) : zM l yX4_wholeDue cX4_wholeDue 4 (some .int) 2 42 0 0 g h0 [qR g l0, qI l1, qI l2] r.1 (some (qI r.2)) := by
  refine z_meth (by decide) (Nat.le_of_ble_eq_true rfl) ?_
  intro p e s m args below meth c H ls C hr hlocks hnm Hh hl
  have C : zC p m c cX4_wholeDue 4 s args RX4 g := C
  have hnm : meth.name = "wholeDue" := hnm
  have hx := C.1.1
  have hb := C.1.2.1
  have hl : lv_has ls 4 [(0, qR g l0), (1, qI l1), (2, qI l2)] := hl
  unfold M_X4_wholeDue at hm
  replace hm := (tk_inv hm).2
  generalize h0 = h at Hh hm
  refine lv_aload_n hx hb dX4_wholeDue_0 rfl (lv_at hl 0 rfl) ?_
  refine z_getI C fl_4_18 Hh dX4_wholeDue_1 rfl hm (fun x1 hm => ?_)
  refine z_iconst C dX4_wholeDue_4 ?_
  refine z_icmp_eq (tgt := 14) C dX4_wholeDue_5 (by decide) rfl lq_p2 hm (fun _ hm => ?_) (fun _ hm => ?_)
  · refine lv_aload_n hx hb dX4_wholeDue_14 rfl (lv_at hl 0 rfl) ?_
    refine z_getI C fl_4_27 Hh dX4_wholeDue_15 rfl hm (fun x2 hm => ?_)
    refine lv_iload_n hx hb dX4_wholeDue_18 rfl (lv_at hl 1 rfl) ?_
    refine z_icmp_lt (tgt := 30) C dX4_wholeDue_19 (by decide) rfl rfl hm (fun _ hm => ?_) (fun _ hm => ?_)
    · refine lv_aload_n hx hb dX4_wholeDue_30 rfl (lv_at hl 0 rfl) ?_
      refine z_iconst C dX4_wholeDue_31 ?_
      refine z_cVI (vs := [qI 4]) C (fun q hq => ct_X4_failed l g h l0 4 q hq) tw_665 my_X4_failed (fun q hq => tg_X4_failed hq) rfl hl.1 Hh ⟨Nat.le_of_ble_eq_true rfl, Nat.le_of_ble_eq_true rfl, Nat.le_of_ble_eq_true rfl, Nat.le_of_ble_eq_true rfl⟩ (Nat.le_of_ble_eq_true rfl) dX4_wholeDue_32 rfl hm (fun h x3 H locs Hh hm => ?_)
      exact z_iret C hr hlocks Hh dX4_wholeDue_35 hm
    · refine lv_aload_n hx hb dX4_wholeDue_22 rfl (lv_at hl 0 rfl) ?_
      refine z_getI C fl_4_27 Hh dX4_wholeDue_23 rfl hm (fun x4 hm => ?_)
      refine lv_iload_n hx hb dX4_wholeDue_26 rfl (lv_at hl 2 rfl) ?_
      refine z_icmp_le (tgt := 36) C dX4_wholeDue_27 (by decide) rfl rfl hm (fun _ hm => ?_) (fun _ hm => ?_)
      · refine lv_aload_n hx hb dX4_wholeDue_36 rfl (lv_at hl 0 rfl) ?_
        refine z_getI C fl_4_27 Hh dX4_wholeDue_37 rfl hm (fun x5 hm => ?_)
        refine lv_istore_n (lv' := [(3, qI x5), (0, qR g l0), (1, qI l1), (2, qI l2)]) hx hb dX4_wholeDue_40 rfl hl (by decide) rfl (fun ls hl => ?_)
        refine lv_aload_n hx hb dX4_wholeDue_41 rfl (lv_at hl 1 rfl) ?_
        refine z_cVv (vs := []) C (fun q hq => ct_X4_take l g h l0 q hq) tw_573 my_X4_take (fun q hq => tg_X4_take hq) rfl hl.1 Hh ⟨Nat.le_of_ble_eq_true rfl, Nat.le_of_ble_eq_true rfl, Nat.le_of_ble_eq_true rfl, Nat.le_of_ble_eq_true rfl⟩ (Nat.le_of_ble_eq_true rfl) dX4_wholeDue_42 rfl hm (fun h H locs Hh hm => ?_)
        refine lv_iload_n hx hb dX4_wholeDue_45 rfl (lv_at hl 0 rfl) ?_
        exact z_iret C hr hlocks Hh dX4_wholeDue_46 hm
      · refine lv_aload_n hx hb dX4_wholeDue_30 rfl (lv_at hl 0 rfl) ?_
        refine z_iconst C dX4_wholeDue_31 ?_
        refine z_cVI (vs := [qI 4]) C (fun q hq => ct_X4_failed l g h l0 4 q hq) tw_665 my_X4_failed (fun q hq => tg_X4_failed hq) rfl hl.1 Hh ⟨Nat.le_of_ble_eq_true rfl, Nat.le_of_ble_eq_true rfl, Nat.le_of_ble_eq_true rfl, Nat.le_of_ble_eq_true rfl⟩ (Nat.le_of_ble_eq_true rfl) dX4_wholeDue_32 rfl hm (fun h x6 H locs Hh hm => ?_)
        exact z_iret C hr hlocks Hh dX4_wholeDue_35 hm
  · refine lv_aload_n hx hb dX4_wholeDue_8 rfl (lv_at hl 0 rfl) ?_
    refine z_iconst C dX4_wholeDue_9 ?_
    refine z_cVI (vs := [qI 1]) C (fun q hq => ct_X4_failed l g h l0 1 q hq) tw_665 my_X4_failed (fun q hq => tg_X4_failed hq) rfl hl.1 Hh ⟨Nat.le_of_ble_eq_true rfl, Nat.le_of_ble_eq_true rfl, Nat.le_of_ble_eq_true rfl, Nat.le_of_ble_eq_true rfl⟩ (Nat.le_of_ble_eq_true rfl) dX4_wholeDue_10 rfl hm (fun h x7 H locs Hh hm => ?_)
    exact z_iret C hr hlocks Hh dX4_wholeDue_13 hm
theorem tg_X4_readRing {h : Hp} {l0 : Int} {r : Hp × Int} (hm : M_X4_readRing h l0 = some r) : hT h l0 = 14 := (tk_inv hm).1
set_option maxRecDepth 100000 in
set_option maxHeartbeats 4000000 in
theorem ct_X4_readRing (l : Launch) (g : zGeo) (h0 : Hp) (l0 : Int) (r : Hp × Int) (hm : M_X4_readRing h0 l0 = some r) : zM l yX4_readRing cX4_readRing 4 (some .boolean) 7 193 0 0 g h0 [qR g l0] r.1 (some (qI r.2)) := by
  refine z_meth (by decide) (Nat.le_of_ble_eq_true rfl) ?_
  intro p e s m args below meth c H ls C hr hlocks hnm Hh hl
  have C : zC p m c cX4_readRing 4 s args RX4 g := C
  have hnm : meth.name = "readRing" := hnm
  have hx := C.1.1
  have hb := C.1.2.1
  have hl : lv_has ls 4 [(0, qR g l0)] := hl
  unfold M_X4_readRing at hm
  replace hm := (tk_inv hm).2
  generalize h0 = h at Hh hm
  have K72 : ∀ (h : Hp) (l0 l1 l2 : Int) (s0 : Int) (H : Heap) (locs : List Loc) (ls : Array Slot), zH g s h H locs → lv_has ls 4 [(0, qR g l0), (1, qI l1), (2, qI l2)] → M_X4_readRing_p72 h l0 l1 l2 s0 = some r → W p l e { frames := 7, cells := 0, slots := 0, locals := 193 } s m args below meth c H locs 0 0 (zQ below g r.1 (some (qI r.2)) args s 0 0) (F0 m 72 ls [qI s0]) := by
    intro h l0 l1 l2 s0 H locs ls Hh hl hm
    unfold M_X4_readRing_p72 at hm
    refine lv_istore_n (lv' := [(3, qI s0), (0, qR g l0), (1, qI l1), (2, qI l2)]) hx hb dX4_readRing_72 rfl hl (by decide) rfl (fun ls hl => ?_)
    refine lv_iload_n hx hb dX4_readRing_73 rfl (lv_at hl 0 rfl) ?_
    refine z_iconst C dX4_readRing_74 ?_
    refine z_icmp_ne (tgt := 80) C dX4_readRing_75 (by decide) rfl lq_m1 hm (fun _ hm => ?_) (fun _ hm => ?_)
    · refine lv_aload_n hx hb dX4_readRing_80 rfl (lv_at hl 1 rfl) ?_
      refine z_getR C fl_4_47 Hh dX4_readRing_81 rfl hm (fun x1 hm => ?_)
      refine z_getR C fl_4_83 Hh dX4_readRing_84 rfl hm (fun x2 hm => ?_)
      refine lv_iload_n hx hb dX4_readRing_87 rfl (lv_at hl 2 rfl) ?_
      refine z_putI C hnm pl_4_158 Hh dX4_readRing_88 rfl hm (fun h H locs Hh hm => ?_)
      refine lv_aload_n hx hb dX4_readRing_91 rfl (lv_at hl 1 rfl) ?_
      refine z_getR C fl_4_47 Hh dX4_readRing_92 rfl hm (fun x3 hm => ?_)
      refine z_getR C fl_4_83 Hh dX4_readRing_95 rfl hm (fun x4 hm => ?_)
      refine lv_iload_n hx hb dX4_readRing_98 rfl (lv_at hl 3 rfl) ?_
      refine z_putI C hnm pl_4_160 Hh dX4_readRing_99 rfl hm (fun h H locs Hh hm => ?_)
      refine lv_aload_n hx hb dX4_readRing_102 rfl (lv_at hl 1 rfl) ?_
      refine z_getR C fl_4_47 Hh dX4_readRing_103 rfl hm (fun x5 hm => ?_)
      refine lv_iload_n hx hb dX4_readRing_106 rfl (lv_at hl 0 rfl) ?_
      refine z_putI C hnm pl_4_116 Hh dX4_readRing_107 rfl hm (fun h H locs Hh hm => ?_)
      refine z_iconst C dX4_readRing_110 ?_
      exact z_zretC C hr hlocks Hh dX4_readRing_111 (by decide) hm
    · refine z_iconst C dX4_readRing_78 ?_
      exact z_zretC C hr hlocks Hh dX4_readRing_79 (by decide) hm
  have K71 : ∀ (h : Hp) (l0 l1 l2 : Int) (H : Heap) (locs : List Loc) (ls : Array Slot), zH g s h H locs → lv_has ls 4 [(0, qR g l0), (1, qI l1), (2, qI l2)] → M_X4_readRing_p71 h l0 l1 l2 = some r → W p l e { frames := 7, cells := 0, slots := 0, locals := 193 } s m args below meth c H locs 0 0 (zQ below g r.1 (some (qI r.2)) args s 0 0) (F0 m 71 ls []) := by
    intro h l0 l1 l2  H locs ls Hh hl hm
    unfold M_X4_readRing_p71 at hm
    refine z_iconst C dX4_readRing_71 ?_
    exact K72 h l0 l1 l2 (-1) _ _ _ Hh (lv_sub hl [0, 1, 2] rfl) hm
  have K46 : ∀ (h : Hp) (l0 l1 : Int) (s0 : Int) (H : Heap) (locs : List Loc) (ls : Array Slot), zH g s h H locs → lv_has ls 4 [(0, qR g l0), (1, qI l1)] → M_X4_readRing_p46 h l0 l1 s0 = some r → W p l e { frames := 7, cells := 0, slots := 0, locals := 193 } s m args below meth c H locs 0 0 (zQ below g r.1 (some (qI r.2)) args s 0 0) (F0 m 46 ls [qI s0]) := by
    intro h l0 l1 s0 H locs ls Hh hl hm
    unfold M_X4_readRing_p46 at hm
    refine lv_istore_n (lv' := [(2, qI s0), (0, qR g l0), (1, qI l1)]) hx hb dX4_readRing_46 rfl hl (by decide) rfl (fun ls hl => ?_)
    refine lv_iload_n hx hb dX4_readRing_47 rfl (lv_at hl 0 rfl) ?_
    refine z_iconst C dX4_readRing_48 ?_
    refine z_icmp_eq (tgt := 71) C dX4_readRing_49 (by decide) rfl lq_m1 hm (fun _ hm => ?_) (fun _ hm => ?_)
    · exact K71 h l0 l1 s0 _ _ _ Hh (lv_sub hl [1, 2, 0] rfl) hm
    · refine lv_aload_n hx hb dX4_readRing_52 rfl (lv_at hl 1 rfl) ?_
      refine z_ldcS (i := 7) (tx := "marks") C dX4_readRing_53 (by decide) ?_
      refine z_cVI (vs := [qS g 7]) C (fun q hq => ct_X4_wordDue l g h l0 7 q hq) tw_657 my_X4_wordDue (fun q hq => tg_X4_wordDue hq) rfl hl.1 Hh ⟨Nat.le_of_ble_eq_true rfl, Nat.le_of_ble_eq_true rfl, Nat.le_of_ble_eq_true rfl, Nat.le_of_ble_eq_true rfl⟩ (Nat.le_of_ble_eq_true rfl) dX4_readRing_55 rfl hm (fun h x6 H locs Hh hm => ?_)
      refine z_if_eq (tgt := 71) C dX4_readRing_58 (by decide) rfl hm (fun _ hm => ?_) (fun _ hm => ?_)
      · exact K71 h l0 l1 s0 _ _ _ Hh (lv_sub hl [1, 2, 0] rfl) hm
      · refine lv_aload_n hx hb dX4_readRing_61 rfl (lv_at hl 1 rfl) ?_
        refine z_iconst C dX4_readRing_62 ?_
        refine z_bipush C dX4_readRing_63 rfl ?_
        refine z_cVI (vs := [qI 2, qI 6]) C (fun q hq => ct_X4_wholeDue l g h l0 2 6 q hq) tw_661 my_X4_wholeDue (fun q hq => tg_X4_wholeDue hq) rfl hl.1 Hh ⟨Nat.le_of_ble_eq_true rfl, Nat.le_of_ble_eq_true rfl, Nat.le_of_ble_eq_true rfl, Nat.le_of_ble_eq_true rfl⟩ (Nat.le_of_ble_eq_true rfl) dX4_readRing_65 rfl hm (fun h x7 H locs Hh hm => ?_)
        refine lv_goto (tgt := 72) hx hb dX4_readRing_68 (by decide) ?_
        exact K72 h l0 l1 s0 x7 _ _ _ Hh (lv_sub hl [1, 2, 0] rfl) hm
  have K45 : ∀ (h : Hp) (l0 l1 : Int) (H : Heap) (locs : List Loc) (ls : Array Slot), zH g s h H locs → lv_has ls 4 [(0, qR g l0), (1, qI l1)] → M_X4_readRing_p45 h l0 l1 = some r → W p l e { frames := 7, cells := 0, slots := 0, locals := 193 } s m args below meth c H locs 0 0 (zQ below g r.1 (some (qI r.2)) args s 0 0) (F0 m 45 ls []) := by
    intro h l0 l1  H locs ls Hh hl hm
    unfold M_X4_readRing_p45 at hm
    refine z_iconst C dX4_readRing_45 ?_
    exact K46 h l0 l1 (-1) _ _ _ Hh (lv_sub hl [0, 1] rfl) hm
  have K20 : ∀ (h : Hp) (l0 : Int) (s0 : Int) (H : Heap) (locs : List Loc) (ls : Array Slot), zH g s h H locs → lv_has ls 4 [(0, qR g l0)] → M_X4_readRing_p20 h l0 s0 = some r → W p l e { frames := 7, cells := 0, slots := 0, locals := 193 } s m args below meth c H locs 0 0 (zQ below g r.1 (some (qI r.2)) args s 0 0) (F0 m 20 ls [qI s0]) := by
    intro h l0 s0 H locs ls Hh hl hm
    unfold M_X4_readRing_p20 at hm
    refine lv_istore_n (lv' := [(1, qI s0), (0, qR g l0)]) hx hb dX4_readRing_20 rfl hl (by decide) rfl (fun ls hl => ?_)
    refine lv_iload_n hx hb dX4_readRing_21 rfl (lv_at hl 0 rfl) ?_
    refine z_iconst C dX4_readRing_22 ?_
    refine z_icmp_eq (tgt := 45) C dX4_readRing_23 (by decide) rfl lq_m1 hm (fun _ hm => ?_) (fun _ hm => ?_)
    · exact K45 h l0 s0 _ _ _ Hh (lv_sub hl [1, 0] rfl) hm
    · refine lv_aload_n hx hb dX4_readRing_26 rfl (lv_at hl 1 rfl) ?_
      refine z_ldcS (i := 6) (tx := "high") C dX4_readRing_27 (by decide) ?_
      refine z_cVI (vs := [qS g 6]) C (fun q hq => ct_X4_wordDue l g h l0 6 q hq) tw_657 my_X4_wordDue (fun q hq => tg_X4_wordDue hq) rfl hl.1 Hh ⟨Nat.le_of_ble_eq_true rfl, Nat.le_of_ble_eq_true rfl, Nat.le_of_ble_eq_true rfl, Nat.le_of_ble_eq_true rfl⟩ (Nat.le_of_ble_eq_true rfl) dX4_readRing_29 rfl hm (fun h x8 H locs Hh hm => ?_)
      refine z_if_eq (tgt := 45) C dX4_readRing_32 (by decide) rfl hm (fun _ hm => ?_) (fun _ hm => ?_)
      · exact K45 h l0 s0 _ _ _ Hh (lv_sub hl [1, 0] rfl) hm
      · refine lv_aload_n hx hb dX4_readRing_35 rfl (lv_at hl 1 rfl) ?_
        refine z_iconst C dX4_readRing_36 ?_
        refine z_bipush C dX4_readRing_37 rfl ?_
        refine z_cVI (vs := [qI 2, qI 6]) C (fun q hq => ct_X4_wholeDue l g h l0 2 6 q hq) tw_661 my_X4_wholeDue (fun q hq => tg_X4_wholeDue hq) rfl hl.1 Hh ⟨Nat.le_of_ble_eq_true rfl, Nat.le_of_ble_eq_true rfl, Nat.le_of_ble_eq_true rfl, Nat.le_of_ble_eq_true rfl⟩ (Nat.le_of_ble_eq_true rfl) dX4_readRing_39 rfl hm (fun h x9 H locs Hh hm => ?_)
        refine lv_goto (tgt := 46) hx hb dX4_readRing_42 (by decide) ?_
        exact K46 h l0 s0 x9 _ _ _ Hh (lv_sub hl [1, 0] rfl) hm
  refine lv_aload_n hx hb dX4_readRing_0 rfl (lv_at hl 0 rfl) ?_
  refine z_ldcS (i := 5) (tx := "wide") C dX4_readRing_1 (by decide) ?_
  refine z_cVI (vs := [qS g 5]) C (fun q hq => ct_X4_wordDue l g h l0 5 q hq) tw_657 my_X4_wordDue (fun q hq => tg_X4_wordDue hq) rfl hl.1 Hh ⟨Nat.le_of_ble_eq_true rfl, Nat.le_of_ble_eq_true rfl, Nat.le_of_ble_eq_true rfl, Nat.le_of_ble_eq_true rfl⟩ (Nat.le_of_ble_eq_true rfl) dX4_readRing_3 rfl hm (fun h x10 H locs Hh hm => ?_)
  refine z_if_eq (tgt := 19) C dX4_readRing_6 (by decide) rfl hm (fun _ hm => ?_) (fun _ hm => ?_)
  · refine z_iconst C dX4_readRing_19 ?_
    exact K20 h l0 (-1) _ _ _ Hh (lv_sub hl [0] rfl) hm
  · refine lv_aload_n hx hb dX4_readRing_9 rfl (lv_at hl 0 rfl) ?_
    refine z_iconst C dX4_readRing_10 ?_
    refine z_bipush C dX4_readRing_11 rfl ?_
    refine z_cVI (vs := [qI 2, qI 6]) C (fun q hq => ct_X4_wholeDue l g h l0 2 6 q hq) tw_661 my_X4_wholeDue (fun q hq => tg_X4_wholeDue hq) rfl hl.1 Hh ⟨Nat.le_of_ble_eq_true rfl, Nat.le_of_ble_eq_true rfl, Nat.le_of_ble_eq_true rfl, Nat.le_of_ble_eq_true rfl⟩ (Nat.le_of_ble_eq_true rfl) dX4_readRing_13 rfl hm (fun h x11 H locs Hh hm => ?_)
    refine lv_goto (tgt := 20) hx hb dX4_readRing_16 (by decide) ?_
    exact K20 h l0 x11 _ _ _ Hh (lv_sub hl [0] rfl) hm
theorem tg_X4_isName {h : Hp} {l0 : Int} {r : Int} (hm : M_X4_isName h l0 = some r) : hT h l0 = 14 := (tk_inv hm).1
set_option maxRecDepth 100000 in
set_option maxHeartbeats 4000000 in
theorem ct_X4_isName (l : Launch) (g : zGeo) (h : Hp) (l0 : Int) (r : Int) (hm : M_X4_isName h l0 = some r) : zM l yX4_isName cX4_isName 1 (some .boolean) 7 192 0 0 g h [qR g l0] h (some (qI r)) := by
  refine z_meth (by decide) (Nat.le_of_ble_eq_true rfl) ?_
  intro p e s m args below meth c H ls C hr hlocks hnm Hh hl
  have C : zC p m c cX4_isName 1 s args RX4 g := C
  have hnm : meth.name = "isName" := hnm
  have hx := C.1.1
  have hb := C.1.2.1
  have hl : lv_has ls 1 [(0, qR g l0)] := hl
  unfold M_X4_isName at hm
  replace hm := (tk_inv hm).2
  refine lv_aload_n hx hb dX4_isName_0 rfl (lv_at hl 0 rfl) ?_
  refine z_getI C fl_4_18 Hh dX4_isName_1 rfl hm (fun x1 hm => ?_)
  refine z_iconst C dX4_isName_4 ?_
  refine z_icmp_ne (tgt := 29) C dX4_isName_5 (by decide) rfl lq_p1 hm (fun _ hm => ?_) (fun _ hm => ?_)
  · refine z_iconst C dX4_isName_29 ?_
    exact z_zretRC C hr hlocks Hh dX4_isName_30 (by decide) hm
  · refine lv_aload_n hx hb dX4_isName_8 rfl (lv_at hl 0 rfl) ?_
    refine z_ldcS (i := 8) (tx := "by") C dX4_isName_9 (by decide) ?_
    refine z_cVIr (vs := [qS g 8]) C (fun q hq => ct_X4_isWord l g h l0 8 q hq) tw_584 my_X4_isWord (fun q hq => tg_X4_isWord hq) rfl hl.1 Hh ⟨Nat.le_of_ble_eq_true rfl, Nat.le_of_ble_eq_true rfl, Nat.le_of_ble_eq_true rfl, Nat.le_of_ble_eq_true rfl⟩ (Nat.le_of_ble_eq_true rfl) dX4_isName_11 rfl hm (fun x2 H locs Hh hm => ?_)
    refine z_if_ne (tgt := 29) C dX4_isName_14 (by decide) rfl hm (fun _ hm => ?_) (fun _ hm => ?_)
    · refine z_iconst C dX4_isName_29 ?_
      exact z_zretRC C hr hlocks Hh dX4_isName_30 (by decide) hm
    · refine lv_aload_n hx hb dX4_isName_17 rfl (lv_at hl 0 rfl) ?_
      refine z_cVIr (vs := []) C (fun q hq => ct_X4_lineSort l g h l0 q hq) tw_579 my_X4_lineSort (fun q hq => tg_X4_lineSort hq) rfl hl.1 Hh ⟨Nat.le_of_ble_eq_true rfl, Nat.le_of_ble_eq_true rfl, Nat.le_of_ble_eq_true rfl, Nat.le_of_ble_eq_true rfl⟩ (Nat.le_of_ble_eq_true rfl) dX4_isName_18 rfl hm (fun x3 H locs Hh hm => ?_)
      refine z_iconst C dX4_isName_21 ?_
      refine z_icmp_ne (tgt := 29) C dX4_isName_22 (by decide) rfl lq_m1 hm (fun _ hm => ?_) (fun _ hm => ?_)
      · refine z_iconst C dX4_isName_29 ?_
        exact z_zretRC C hr hlocks Hh dX4_isName_30 (by decide) hm
      · refine z_iconst C dX4_isName_25 ?_
        refine lv_goto (tgt := 30) hx hb dX4_isName_26 (by decide) ?_
        exact z_zretRC C hr hlocks Hh dX4_isName_30 (by decide) hm
theorem tg_X5_townNamed {h : Hp} {l0 l1 : Int} {r : Int} (hm : M_X5_townNamed h l0 l1 = some r) : hT h l0 = 15 := (tk_inv hm).1
set_option maxRecDepth 100000 in
set_option maxHeartbeats 4000000 in
theorem ct_X5_townNamed (l : Launch) (g : zGeo) (h : Hp) (l0 l1 : Int) (r : Int) (hm : M_X5_townNamed h l0 l1 = some r) : zM l yX5_townNamed cX5_townNamed 4 (some .int) 0 0 0 0 g h [qR g l0, qJ l1] h (some (qI r)) := by
  refine z_meth (by decide) (Nat.le_of_ble_eq_true rfl) ?_
  intro p e s m args below meth c H ls C hr hlocks hnm Hh hl
  have C : zC p m c cX5_townNamed 4 s args RX5 g := C
  have hnm : meth.name = "townNamed" := hnm
  have hx := C.1.1
  have hb := C.1.2.1
  have hl : lv_has ls 4 [(0, qR g l0), (1, qJ l1)] := hl
  unfold M_X5_townNamed at hm
  replace hm := (tk_inv hm).2
  have K32 : ∀  (H : Heap) (locs : List Loc) (ls : Array Slot), zH g s h H locs → lv_has ls 4 [] → M_X5_townNamed_p32 h = some r → W p l e { frames := 0, cells := 0, slots := 0, locals := 0 } s m args below meth c H locs 0 0 (zQ below g h (some (qI r)) args s 0 0) (F0 m 32 ls []) := by
    intro   H locs ls Hh hl hm
    unfold M_X5_townNamed_p32 at hm
    refine z_iconst C dX5_townNamed_32 ?_
    exact z_iretR (h0 := h) C hr hlocks Hh dX5_townNamed_33 hm
  have KL2 : ∀ (n : Nat)  (l0 l1 l3 : Int) (H : Heap) (locs : List Loc) (ls : Array Slot), zH g s h H locs → lv_has ls 4 [(0, qR g l0), (1, qJ l1), (3, qI l3)] → M_X5_townNamed_w2 n h l0 l1 l3 = some r → W p l e { frames := 0, cells := 0, slots := 0, locals := 0 } s m args below meth c H locs 0 0 (zQ below g h (some (qI r)) args s 0 0) (F0 m 2 ls []) := by
    intro n
    induction n with
    | zero => intro l0 l1 l3 H locs ls Hh hl hm; cases hm
    | succ n ih2 =>
      intro l0 l1 l3 H locs ls Hh hl hm
      obtain ⟨z2, hm, hc2⟩ := wh_inv hm
      have hm : M_X5_townNamed_b2 h l0 l1 l3 = some z2 := hm
      unfold M_X5_townNamed_b2 at hm
      refine lv_iload_n hx hb dX5_townNamed_2 rfl (lv_at hl 2 rfl) ?_
      refine lv_aload_n hx hb dX5_townNamed_3 rfl (lv_at hl 0 rfl) ?_
      refine z_getR C fl_5_18 Hh dX5_townNamed_4 rfl hm (fun x1 hm => ?_)
      refine z_getI C fl_5_57 Hh dX5_townNamed_7 rfl hm (fun x2 hm => ?_)
      refine z_icmp_ge (tgt := 32) C dX5_townNamed_10 (by decide) rfl rfl hm (fun _ hm => ?_) (fun _ hm => ?_)
      · cases hm
        exact K32  _ _ _ Hh (lv_sub hl [] rfl) hc2
      · refine lv_aload_n hx hb dX5_townNamed_13 rfl (lv_at hl 0 rfl) ?_
        refine z_getR C fl_5_22 Hh dX5_townNamed_14 rfl hm (fun x3 hm => ?_)
        refine lv_iload_n hx hb dX5_townNamed_17 rfl (lv_at hl 2 rfl) ?_
        refine z_lald C Hh dX5_townNamed_18 hm (fun x4 hm => ?_)
        refine lv_lload_n hx hb dX5_townNamed_19 rfl (lv_at hl 1 rfl) ?_
        refine z_lcmp C dX5_townNamed_20 ?_
        refine z_if_ne (tgt := 26) C dX5_townNamed_21 (by decide) rfl hm (fun _ hm => ?_) (fun _ hm => ?_)
        · refine z_iinc (x := l3) (k := 2) (lv' := [(3, qI (l3 + 1)), (0, qR g l0), (1, qJ l1)]) C dX5_townNamed_26 hl rfl (by decide) rfl (fun ls hl => ?_)
          refine lv_goto (tgt := 2) hx hb dX5_townNamed_29 (by decide) ?_
          cases hm
          exact ih2 l0 l1 (l3 + 1) _ _ _ Hh (lv_sub hl [1, 2, 0] rfl) hc2
        · refine lv_iload_n hx hb dX5_townNamed_24 rfl (lv_at hl 2 rfl) ?_
          cases hm
          have hm := hc2
          exact z_iretR (h0 := h) C hr hlocks Hh dX5_townNamed_25 hm
  refine z_iconst C dX5_townNamed_0 ?_
  refine lv_istore_n (lv' := [(3, qI 0), (0, qR g l0), (1, qJ l1)]) hx hb dX5_townNamed_1 rfl hl (by decide) rfl (fun ls hl => ?_)
  exact KL2 FU l0 l1 0 _ _ _ Hh (lv_sub hl [1, 2, 0] rfl) hm
theorem tg_X4_readRow {h : Hp} {l0 l1 : Int} {r : Hp × Int} (hm : M_X4_readRow h l0 l1 = some r) : hT h l0 = 14 := (tk_inv hm).1
set_option maxRecDepth 100000 in
set_option maxHeartbeats 4000000 in
theorem ct_X4_readRow (l : Launch) (g : zGeo) (h0 : Hp) (l0 l1 : Int) (r : Hp × Int) (hm : M_X4_readRow h0 l0 l1 = some r) : zM l yX4_readRow cX4_readRow 4 (some .boolean) 1 21 0 0 g h0 [qR g l0, qI l1] r.1 (some (qI r.2)) := by
  refine z_meth (by decide) (Nat.le_of_ble_eq_true rfl) ?_
  intro p e s m args below meth c H ls C hr hlocks hnm Hh hl
  have C : zC p m c cX4_readRow 4 s args RX4 g := C
  have hnm : meth.name = "readRow" := hnm
  have hx := C.1.1
  have hb := C.1.2.1
  have hl : lv_has ls 4 [(0, qR g l0), (1, qI l1)] := hl
  unfold M_X4_readRow at hm
  replace hm := (tk_inv hm).2
  generalize h0 = h at Hh hm
  have K113 : ∀ (h : Hp) (l0 : Int) (H : Heap) (locs : List Loc) (ls : Array Slot), zH g s h H locs → lv_has ls 4 [(0, qR g l0)] → M_X4_readRow_p113 h l0 = some r → W p l e { frames := 1, cells := 0, slots := 0, locals := 21 } s m args below meth c H locs 0 0 (zQ below g r.1 (some (qI r.2)) args s 0 0) (F0 m 113 ls []) := by
    intro h l0  H locs ls Hh hl hm
    unfold M_X4_readRow_p113 at hm
    refine lv_aload_n hx hb dX4_readRow_113 rfl (lv_at hl 0 rfl) ?_
    refine z_cVv (vs := []) C (fun q hq => ct_X4_take l g h l0 q hq) tw_573 my_X4_take (fun q hq => tg_X4_take hq) rfl hl.1 Hh ⟨Nat.le_of_ble_eq_true rfl, Nat.le_of_ble_eq_true rfl, Nat.le_of_ble_eq_true rfl, Nat.le_of_ble_eq_true rfl⟩ (Nat.le_of_ble_eq_true rfl) dX4_readRow_114 rfl hm (fun h H locs Hh hm => ?_)
    refine z_iconst C dX4_readRow_117 ?_
    exact z_zretC C hr hlocks Hh dX4_readRow_118 (by decide) hm
  have KL45 : ∀ (n : Nat) (h : Hp) (l0 l1 l2 : Int) (H : Heap) (locs : List Loc) (ls : Array Slot), zH g s h H locs → lv_has ls 4 [(0, qR g l0), (1, qI l1), (2, qI l2)] → M_X4_readRow_w45 n h l0 l1 l2 = some r → W p l e { frames := 1, cells := 0, slots := 0, locals := 21 } s m args below meth c H locs 0 0 (zQ below g r.1 (some (qI r.2)) args s 0 0) (F0 m 45 ls []) := by
    intro n
    induction n with
    | zero => intro h l0 l1 l2 H locs ls Hh hl hm; cases hm
    | succ n ih45 =>
      intro h l0 l1 l2 H locs ls Hh hl hm
      obtain ⟨z45, hm, hc45⟩ := wh_inv hm
      have hm : M_X4_readRow_b45 h l0 l1 l2 = some z45 := hm
      unfold M_X4_readRow_b45 at hm
      refine lv_iload_n hx hb dX4_readRow_45 rfl (lv_at hl 2 rfl) ?_
      refine lv_aload_n hx hb dX4_readRow_46 rfl (lv_at hl 0 rfl) ?_
      refine z_getR C fl_4_47 Hh dX4_readRow_47 rfl hm (fun x1 hm => ?_)
      refine z_getR C fl_4_83 Hh dX4_readRow_50 rfl hm (fun x2 hm => ?_)
      refine z_getI C fl_4_158 Hh dX4_readRow_53 rfl hm (fun x3 hm => ?_)
      refine z_icmp_ge (tgt := 113) C dX4_readRow_56 (by decide) rfl rfl hm (fun _ hm => ?_) (fun _ hm => ?_)
      · cases hm
        exact K113 h l0 _ _ _ Hh (lv_sub hl [0] rfl) hc45
      · refine lv_aload_n hx hb dX4_readRow_59 rfl (lv_at hl 0 rfl) ?_
        refine z_getR C fl_4_34 Hh dX4_readRow_60 rfl hm (fun x4 hm => ?_)
        refine lv_aload_n hx hb dX4_readRow_63 rfl (lv_at hl 0 rfl) ?_
        refine z_getI C fl_4_21 Hh dX4_readRow_64 rfl hm (fun x5 hm => ?_)
        refine lv_iload_n hx hb dX4_readRow_67 rfl (lv_at hl 2 rfl) ?_
        refine z_iadd C dX4_readRow_68 ?_
        refine z_iald C Hh dX4_readRow_69 hm (fun x6 hm => ?_)
        refine z_bipush C dX4_readRow_70 rfl ?_
        refine z_isub C dX4_readRow_72 ?_
        refine lv_istore_n (lv' := [(3, qI (x6 - 97)), (0, qR g l0), (1, qI l1), (2, qI l2)]) hx hb dX4_readRow_73 rfl hl (by decide) rfl (fun ls hl => ?_)
        refine lv_iload_n hx hb dX4_readRow_74 rfl (lv_at hl 0 rfl) ?_
        refine lv_aload_n hx hb dX4_readRow_75 rfl (lv_at hl 1 rfl) ?_
        refine z_getR C fl_4_47 Hh dX4_readRow_76 rfl hm (fun x7 hm => ?_)
        refine z_getI C fl_4_116 Hh dX4_readRow_79 rfl hm (fun x8 hm => ?_)
        refine z_icmp_lt (tgt := 92) C dX4_readRow_82 (by decide) rfl rfl hm (fun _ hm => ?_) (fun _ hm => ?_)
        · refine lv_aload_n hx hb dX4_readRow_92 rfl (lv_at hl 1 rfl) ?_
          refine z_getR C fl_4_47 Hh dX4_readRow_93 rfl hm (fun x9 hm => ?_)
          refine z_getR C fl_4_83 Hh dX4_readRow_96 rfl hm (fun x10 hm => ?_)
          refine z_getR C fl_4_169 Hh dX4_readRow_99 rfl hm (fun x11 hm => ?_)
          refine lv_iload_n hx hb dX4_readRow_102 rfl (lv_at hl 2 rfl) ?_
          refine lv_iload_n hx hb dX4_readRow_103 rfl (lv_at hl 3 rfl) ?_
          refine z_iadd C dX4_readRow_104 ?_
          refine lv_iload_n hx hb dX4_readRow_105 rfl (lv_at hl 0 rfl) ?_
          refine z_iast C Hh dX4_readRow_106 hm (fun h H locs Hh hm => ?_)
          refine z_iinc (x := l2) (k := 3) (lv' := [(2, qI (l2 + 1)), (3, qI (x6 - 97)), (0, qR g l0), (1, qI l1)]) C dX4_readRow_107 hl rfl (by decide) rfl (fun ls hl => ?_)
          refine lv_goto (tgt := 45) hx hb dX4_readRow_110 (by decide) ?_
          cases hm
          exact ih45 h l0 l1 (l2 + 1) _ _ _ Hh (lv_sub hl [2, 3, 0] rfl) hc45
        · refine lv_aload_n hx hb dX4_readRow_85 rfl (lv_at hl 1 rfl) ?_
          refine z_bipush C dX4_readRow_86 rfl ?_
          refine z_cVI (vs := [qI 7]) C (fun q hq => ct_X4_fail l g h l0 7 q hq) tw_644 my_X4_fail (fun q hq => tg_X4_fail hq) rfl hl.1 Hh ⟨Nat.le_of_ble_eq_true rfl, Nat.le_of_ble_eq_true rfl, Nat.le_of_ble_eq_true rfl, Nat.le_of_ble_eq_true rfl⟩ (Nat.le_of_ble_eq_true rfl) dX4_readRow_88 rfl hm (fun h x12 H locs Hh hm => ?_)
          obtain ⟨hz, hm⟩ := zb1_inv hm
          cases hm
          have hm := hc45
          exact z_zretC C hr hlocks Hh dX4_readRow_91 hz hm
  refine lv_aload_n hx hb dX4_readRow_0 rfl (lv_at hl 0 rfl) ?_
  refine z_getI C fl_4_18 Hh dX4_readRow_1 rfl hm (fun x14 hm => ?_)
  refine z_iconst C dX4_readRow_4 ?_
  refine z_icmp_eq (tgt := 14) C dX4_readRow_5 (by decide) rfl lq_p1 hm (fun _ hm => ?_) (fun _ hm => ?_)
  · refine lv_aload_n hx hb dX4_readRow_14 rfl (lv_at hl 0 rfl) ?_
    refine z_getI C fl_4_24 Hh dX4_readRow_15 rfl hm (fun x15 hm => ?_)
    refine lv_aload_n hx hb dX4_readRow_18 rfl (lv_at hl 0 rfl) ?_
    refine z_getI C fl_4_21 Hh dX4_readRow_19 rfl hm (fun x16 hm => ?_)
    refine z_isub C dX4_readRow_22 ?_
    refine lv_aload_n hx hb dX4_readRow_23 rfl (lv_at hl 0 rfl) ?_
    refine z_getR C fl_4_47 Hh dX4_readRow_24 rfl hm (fun x17 hm => ?_)
    refine z_getR C fl_4_83 Hh dX4_readRow_27 rfl hm (fun x18 hm => ?_)
    refine z_getI C fl_4_158 Hh dX4_readRow_30 rfl hm (fun x19 hm => ?_)
    refine z_icmp_eq (tgt := 43) C dX4_readRow_33 (by decide) rfl rfl hm (fun _ hm => ?_) (fun _ hm => ?_)
    · refine z_iconst C dX4_readRow_43 ?_
      refine lv_istore_n (lv' := [(2, qI 0), (0, qR g l0), (1, qI l1)]) hx hb dX4_readRow_44 rfl hl (by decide) rfl (fun ls hl => ?_)
      exact KL45 FU h l0 l1 0 _ _ _ Hh (lv_sub hl [1, 2, 0] rfl) hm
    · refine lv_aload_n hx hb dX4_readRow_36 rfl (lv_at hl 0 rfl) ?_
      refine z_bipush C dX4_readRow_37 rfl ?_
      refine z_cVI (vs := [qI 7]) C (fun q hq => ct_X4_fail l g h l0 7 q hq) tw_644 my_X4_fail (fun q hq => tg_X4_fail hq) rfl hl.1 Hh ⟨Nat.le_of_ble_eq_true rfl, Nat.le_of_ble_eq_true rfl, Nat.le_of_ble_eq_true rfl, Nat.le_of_ble_eq_true rfl⟩ (Nat.le_of_ble_eq_true rfl) dX4_readRow_39 rfl hm (fun h x20 H locs Hh hm => ?_)
      obtain ⟨hz, hm⟩ := zb1_inv hm
      exact z_zretC C hr hlocks Hh dX4_readRow_42 hz hm
  · refine lv_aload_n hx hb dX4_readRow_8 rfl (lv_at hl 0 rfl) ?_
    refine z_iconst C dX4_readRow_9 ?_
    refine z_cVI (vs := [qI 1]) C (fun q hq => ct_X4_fail l g h l0 1 q hq) tw_644 my_X4_fail (fun q hq => tg_X4_fail hq) rfl hl.1 Hh ⟨Nat.le_of_ble_eq_true rfl, Nat.le_of_ble_eq_true rfl, Nat.le_of_ble_eq_true rfl, Nat.le_of_ble_eq_true rfl⟩ (Nat.le_of_ble_eq_true rfl) dX4_readRow_10 rfl hm (fun h x22 H locs Hh hm => ?_)
    obtain ⟨hz, hm⟩ := zb1_inv hm
    exact z_zretC C hr hlocks Hh dX4_readRow_13 hz hm
theorem tg_X4_readTown {h : Hp} {l0 : Int} {r : Hp × Int} (hm : M_X4_readTown h l0 = some r) : hT h l0 = 14 := (tk_inv hm).1
set_option maxRecDepth 100000 in
set_option maxHeartbeats 4000000 in
theorem ct_X4_readTown (l : Launch) (g : zGeo) (h0 : Hp) (l0 : Int) (r : Hp × Int) (hm : M_X4_readTown h0 l0 = some r) : zM l yX4_readTown cX4_readTown 3 (some .boolean) 8 212 0 0 g h0 [qR g l0] r.1 (some (qI r.2)) := by
  refine z_meth (by decide) (Nat.le_of_ble_eq_true rfl) ?_
  intro p e s m args below meth c H ls C hr hlocks hnm Hh hl
  have C : zC p m c cX4_readTown 3 s args RX4 g := C
  have hnm : meth.name = "readTown" := hnm
  have hx := C.1.1
  have hb := C.1.2.1
  have hl : lv_has ls 3 [(0, qR g l0)] := hl
  unfold M_X4_readTown at hm
  replace hm := (tk_inv hm).2
  generalize h0 = h at Hh hm
  have K146 : ∀ (h : Hp) (l0 : Int) (H : Heap) (locs : List Loc) (ls : Array Slot), zH g s h H locs → lv_has ls 3 [(0, qR g l0)] → M_X4_readTown_p146 h l0 = some r → W p l e { frames := 8, cells := 0, slots := 0, locals := 212 } s m args below meth c H locs 0 0 (zQ below g r.1 (some (qI r.2)) args s 0 0) (F0 m 146 ls []) := by
    intro h l0  H locs ls Hh hl hm
    unfold M_X4_readTown_p146 at hm
    refine lv_aload_n hx hb dX4_readTown_146 rfl (lv_at hl 0 rfl) ?_
    refine z_getR C fl_4_47 Hh dX4_readTown_147 rfl hm (fun x1 hm => ?_)
    refine z_getR C fl_4_83 Hh dX4_readTown_150 rfl hm (fun x2 hm => ?_)
    refine lv_dup hx hb dX4_readTown_153 rfl ?_
    refine z_getI C fl_4_87 Hh dX4_readTown_154 rfl hm (fun x3 hm => ?_)
    refine z_iconst C dX4_readTown_157 ?_
    refine z_iadd C dX4_readTown_158 ?_
    refine z_putI C hnm pl_4_87 Hh dX4_readTown_159 rfl hm (fun h H locs Hh hm => ?_)
    refine z_iconst C dX4_readTown_162 ?_
    exact z_zretC C hr hlocks Hh dX4_readTown_163 (by decide) hm
  have KL64 : ∀ (n : Nat) (h : Hp) (l0 l1 l2 : Int) (H : Heap) (locs : List Loc) (ls : Array Slot), zH g s h H locs → lv_has ls 3 [(0, qR g l0), (1, qI l1), (2, qI l2)] → M_X4_readTown_w64 n h l0 l1 l2 = some r → W p l e { frames := 8, cells := 0, slots := 0, locals := 212 } s m args below meth c H locs 0 0 (zQ below g r.1 (some (qI r.2)) args s 0 0) (F0 m 64 ls []) := by
    intro n
    induction n with
    | zero => intro h l0 l1 l2 H locs ls Hh hl hm; cases hm
    | succ n ih64 =>
      intro h l0 l1 l2 H locs ls Hh hl hm
      obtain ⟨z64, hm, hc64⟩ := wh_inv hm
      have hm : M_X4_readTown_b64 h l0 l1 l2 = some z64 := hm
      have K122 : ∀ (h : Hp) (l2 : Int) (H : Heap) (locs : List Loc) (ls : Array Slot), zH g s h H locs → lv_has ls 3 [(0, qR g l0), (1, qI l1), (2, qI l2)] → M_X4_readTown_p122 h l0 l1 l2 = some z64 → W p l e { frames := 8, cells := 0, slots := 0, locals := 212 } s m args below meth c H locs 0 0 (zQ below g r.1 (some (qI r.2)) args s 0 0) (F0 m 122 ls []) := by
        intro h l2  H locs ls Hh hl hm
        unfold M_X4_readTown_p122 at hm
        refine lv_aload_n hx hb dX4_readTown_122 rfl (lv_at hl 0 rfl) ?_
        refine z_bipush C dX4_readTown_123 rfl ?_
        refine lv_iload_n hx hb dX4_readTown_125 rfl (lv_at hl 1 rfl) ?_
        refine z_imul C dX4_readTown_126 ?_
        refine z_bipush C dX4_readTown_127 rfl ?_
        refine lv_iload_n hx hb dX4_readTown_129 rfl (lv_at hl 2 rfl) ?_
        refine z_imul C dX4_readTown_130 ?_
        refine z_iadd C dX4_readTown_131 ?_
        refine z_cVI (vs := [qI ((36 * l1) + (6 * l2))]) C (fun q hq => ct_X4_readRow l g h l0 ((36 * l1) + (6 * l2)) q hq) tw_684 my_X4_readRow (fun q hq => tg_X4_readRow hq) rfl hl.1 Hh ⟨Nat.le_of_ble_eq_true rfl, Nat.le_of_ble_eq_true rfl, Nat.le_of_ble_eq_true rfl, Nat.le_of_ble_eq_true rfl⟩ (Nat.le_of_ble_eq_true rfl) dX4_readTown_132 rfl hm (fun h x4 H locs Hh hm => ?_)
        refine z_if_ne (tgt := 140) C dX4_readTown_135 (by decide) rfl hm (fun _ hm => ?_) (fun _ hm => ?_)
        · refine z_iinc (x := l2) (k := 2) (lv' := [(2, qI (l2 + 1)), (0, qR g l0), (1, qI l1)]) C dX4_readTown_140 hl rfl (by decide) rfl (fun ls hl => ?_)
          refine lv_goto (tgt := 64) hx hb dX4_readTown_143 (by decide) ?_
          cases hm
          exact ih64 h l0 l1 (l2 + 1) _ _ _ Hh (lv_sub hl [1, 2, 0] rfl) hc64
        · refine z_iconst C dX4_readTown_138 ?_
          cases hm
          have hm := hc64
          exact z_zretC C hr hlocks Hh dX4_readTown_139 (by decide) hm
      unfold M_X4_readTown_b64 at hm
      refine lv_iload_n hx hb dX4_readTown_64 rfl (lv_at hl 2 rfl) ?_
      refine lv_aload_n hx hb dX4_readTown_65 rfl (lv_at hl 0 rfl) ?_
      refine z_getR C fl_4_47 Hh dX4_readTown_66 rfl hm (fun x5 hm => ?_)
      refine z_getR C fl_4_83 Hh dX4_readTown_69 rfl hm (fun x6 hm => ?_)
      refine z_getI C fl_4_160 Hh dX4_readTown_72 rfl hm (fun x7 hm => ?_)
      refine z_icmp_ge (tgt := 146) C dX4_readTown_75 (by decide) rfl rfl hm (fun _ hm => ?_) (fun _ hm => ?_)
      · cases hm
        exact K146 h l0 _ _ _ Hh (lv_sub hl [0] rfl) hc64
      · refine lv_iload_n hx hb dX4_readTown_78 rfl (lv_at hl 2 rfl) ?_
        refine z_if_le (tgt := 122) C dX4_readTown_79 (by decide) rfl hm (fun _ hm => ?_) (fun _ hm => ?_)
        · exact K122 h l2 _ _ _ Hh (lv_sub hl [0, 1, 2] rfl) hm
        · refine lv_aload_n hx hb dX4_readTown_82 rfl (lv_at hl 0 rfl) ?_
          refine z_getI C fl_4_18 Hh dX4_readTown_83 rfl hm (fun x8 hm => ?_)
          refine z_iconst C dX4_readTown_86 ?_
          refine z_icmp_eq (tgt := 97) C dX4_readTown_87 (by decide) rfl lq_p3 hm (fun _ hm => ?_) (fun _ hm => ?_)
          · refine lv_aload_n hx hb dX4_readTown_97 rfl (lv_at hl 0 rfl) ?_
            refine z_bipush C dX4_readTown_98 rfl ?_
            refine z_cVI (vs := [qI 6]) C (fun q hq => ct_X4_fail l g h l0 6 q hq) tw_644 my_X4_fail (fun q hq => tg_X4_fail hq) rfl hl.1 Hh ⟨Nat.le_of_ble_eq_true rfl, Nat.le_of_ble_eq_true rfl, Nat.le_of_ble_eq_true rfl, Nat.le_of_ble_eq_true rfl⟩ (Nat.le_of_ble_eq_true rfl) dX4_readTown_100 rfl hm (fun h x9 H locs Hh hm => ?_)
            obtain ⟨hz, hm⟩ := zb1_inv hm
            cases hm
            have hm := hc64
            exact z_zretC C hr hlocks Hh dX4_readTown_103 hz hm
          · refine lv_aload_n hx hb dX4_readTown_90 rfl (lv_at hl 0 rfl) ?_
            refine z_getI C fl_4_18 Hh dX4_readTown_91 rfl hm (fun x11 hm => ?_)
            refine z_if_ne (tgt := 104) C dX4_readTown_94 (by decide) rfl hm (fun _ hm => ?_) (fun _ hm => ?_)
            · refine lv_aload_n hx hb dX4_readTown_104 rfl (lv_at hl 0 rfl) ?_
              refine z_getI C fl_4_18 Hh dX4_readTown_105 rfl hm (fun x12 hm => ?_)
              refine z_iconst C dX4_readTown_108 ?_
              refine z_icmp_eq (tgt := 118) C dX4_readTown_109 (by decide) rfl lq_p4 hm (fun _ hm => ?_) (fun _ hm => ?_)
              · refine lv_aload_n hx hb dX4_readTown_118 rfl (lv_at hl 0 rfl) ?_
                refine z_cVv (vs := []) C (fun q hq => ct_X4_take l g h l0 q hq) tw_573 my_X4_take (fun q hq => tg_X4_take hq) rfl hl.1 Hh ⟨Nat.le_of_ble_eq_true rfl, Nat.le_of_ble_eq_true rfl, Nat.le_of_ble_eq_true rfl, Nat.le_of_ble_eq_true rfl⟩ (Nat.le_of_ble_eq_true rfl) dX4_readTown_119 rfl hm (fun h H locs Hh hm => ?_)
                exact K122 h l2 _ _ _ Hh (lv_sub hl [0, 1, 2] rfl) hm
              · refine lv_aload_n hx hb dX4_readTown_112 rfl (lv_at hl 0 rfl) ?_
                refine z_iconst C dX4_readTown_113 ?_
                refine z_cVI (vs := [qI 1]) C (fun q hq => ct_X4_fail l g h l0 1 q hq) tw_644 my_X4_fail (fun q hq => tg_X4_fail hq) rfl hl.1 Hh ⟨Nat.le_of_ble_eq_true rfl, Nat.le_of_ble_eq_true rfl, Nat.le_of_ble_eq_true rfl, Nat.le_of_ble_eq_true rfl⟩ (Nat.le_of_ble_eq_true rfl) dX4_readTown_114 rfl hm (fun h x13 H locs Hh hm => ?_)
                obtain ⟨hz, hm⟩ := zb1_inv hm
                cases hm
                have hm := hc64
                exact z_zretC C hr hlocks Hh dX4_readTown_117 hz hm
            · refine lv_aload_n hx hb dX4_readTown_97 rfl (lv_at hl 0 rfl) ?_
              refine z_bipush C dX4_readTown_98 rfl ?_
              refine z_cVI (vs := [qI 6]) C (fun q hq => ct_X4_fail l g h l0 6 q hq) tw_644 my_X4_fail (fun q hq => tg_X4_fail hq) rfl hl.1 Hh ⟨Nat.le_of_ble_eq_true rfl, Nat.le_of_ble_eq_true rfl, Nat.le_of_ble_eq_true rfl, Nat.le_of_ble_eq_true rfl⟩ (Nat.le_of_ble_eq_true rfl) dX4_readTown_100 rfl hm (fun h x15 H locs Hh hm => ?_)
              obtain ⟨hz, hm⟩ := zb1_inv hm
              cases hm
              have hm := hc64
              exact z_zretC C hr hlocks Hh dX4_readTown_103 hz hm
  refine lv_aload_n hx hb dX4_readTown_0 rfl (lv_at hl 0 rfl) ?_
  refine z_cVIr (vs := []) C (fun q hq => ct_X4_isName l g h l0 q hq) tw_675 my_X4_isName (fun q hq => tg_X4_isName hq) rfl hl.1 Hh ⟨Nat.le_of_ble_eq_true rfl, Nat.le_of_ble_eq_true rfl, Nat.le_of_ble_eq_true rfl, Nat.le_of_ble_eq_true rfl⟩ (Nat.le_of_ble_eq_true rfl) dX4_readTown_1 rfl hm (fun x17 H locs Hh hm => ?_)
  refine z_if_ne (tgt := 13) C dX4_readTown_4 (by decide) rfl hm (fun _ hm => ?_) (fun _ hm => ?_)
  · refine lv_aload_n hx hb dX4_readTown_13 rfl (lv_at hl 0 rfl) ?_
    refine z_getR C fl_4_47 Hh dX4_readTown_14 rfl hm (fun x18 hm => ?_)
    refine lv_aload_n hx hb dX4_readTown_17 rfl (lv_at hl 0 rfl) ?_
    refine z_getJ C fl_4_30 Hh dX4_readTown_18 rfl hm (fun x19 hm => ?_)
    refine z_cVIr (vs := [qJ x19]) C (fun q hq => ct_X5_townNamed l g h x18 x19 q hq) tw_680 my_X5_townNamed (fun q hq => tg_X5_townNamed hq) rfl hl.1 Hh ⟨Nat.le_of_ble_eq_true rfl, Nat.le_of_ble_eq_true rfl, Nat.le_of_ble_eq_true rfl, Nat.le_of_ble_eq_true rfl⟩ (Nat.le_of_ble_eq_true rfl) dX4_readTown_21 rfl hm (fun x20 H locs Hh hm => ?_)
    refine z_iconst C dX4_readTown_24 ?_
    refine z_icmp_eq (tgt := 34) C dX4_readTown_25 (by decide) rfl lq_m1 hm (fun _ hm => ?_) (fun _ hm => ?_)
    · refine lv_aload_n hx hb dX4_readTown_34 rfl (lv_at hl 0 rfl) ?_
      refine z_getR C fl_4_47 Hh dX4_readTown_35 rfl hm (fun x21 hm => ?_)
      refine z_getR C fl_4_83 Hh dX4_readTown_38 rfl hm (fun x22 hm => ?_)
      refine z_getI C fl_4_87 Hh dX4_readTown_41 rfl hm (fun x23 hm => ?_)
      refine lv_istore_n (lv' := [(1, qI x23), (0, qR g l0)]) hx hb dX4_readTown_44 rfl hl (by decide) rfl (fun ls hl => ?_)
      refine lv_aload_n hx hb dX4_readTown_45 rfl (lv_at hl 1 rfl) ?_
      refine z_getR C fl_4_47 Hh dX4_readTown_46 rfl hm (fun x24 hm => ?_)
      refine z_getR C fl_4_162 Hh dX4_readTown_49 rfl hm (fun x25 hm => ?_)
      refine lv_iload_n hx hb dX4_readTown_52 rfl (lv_at hl 0 rfl) ?_
      refine lv_aload_n hx hb dX4_readTown_53 rfl (lv_at hl 1 rfl) ?_
      refine z_getJ C fl_4_30 Hh dX4_readTown_54 rfl hm (fun x26 hm => ?_)
      refine z_last C Hh dX4_readTown_57 hm (fun h H locs Hh hm => ?_)
      refine lv_aload_n hx hb dX4_readTown_58 rfl (lv_at hl 1 rfl) ?_
      refine z_cVv (vs := []) C (fun q hq => ct_X4_take l g h l0 q hq) tw_573 my_X4_take (fun q hq => tg_X4_take hq) rfl hl.1 Hh ⟨Nat.le_of_ble_eq_true rfl, Nat.le_of_ble_eq_true rfl, Nat.le_of_ble_eq_true rfl, Nat.le_of_ble_eq_true rfl⟩ (Nat.le_of_ble_eq_true rfl) dX4_readTown_59 rfl hm (fun h H locs Hh hm => ?_)
      refine z_iconst C dX4_readTown_62 ?_
      refine lv_istore_n (lv' := [(2, qI 0), (1, qI x23), (0, qR g l0)]) hx hb dX4_readTown_63 rfl hl (by decide) rfl (fun ls hl => ?_)
      exact KL64 FU h l0 x23 0 _ _ _ Hh (lv_sub hl [2, 1, 0] rfl) hm
    · refine lv_aload_n hx hb dX4_readTown_28 rfl (lv_at hl 0 rfl) ?_
      refine z_iconst C dX4_readTown_29 ?_
      refine z_cVI (vs := [qI 3]) C (fun q hq => ct_X4_fail l g h l0 3 q hq) tw_644 my_X4_fail (fun q hq => tg_X4_fail hq) rfl hl.1 Hh ⟨Nat.le_of_ble_eq_true rfl, Nat.le_of_ble_eq_true rfl, Nat.le_of_ble_eq_true rfl, Nat.le_of_ble_eq_true rfl⟩ (Nat.le_of_ble_eq_true rfl) dX4_readTown_30 rfl hm (fun h x27 H locs Hh hm => ?_)
      obtain ⟨hz, hm⟩ := zb1_inv hm
      exact z_zretC C hr hlocks Hh dX4_readTown_33 hz hm
  · refine lv_aload_n hx hb dX4_readTown_7 rfl (lv_at hl 0 rfl) ?_
    refine z_iconst C dX4_readTown_8 ?_
    refine z_cVI (vs := [qI 1]) C (fun q hq => ct_X4_fail l g h l0 1 q hq) tw_644 my_X4_fail (fun q hq => tg_X4_fail hq) rfl hl.1 Hh ⟨Nat.le_of_ble_eq_true rfl, Nat.le_of_ble_eq_true rfl, Nat.le_of_ble_eq_true rfl, Nat.le_of_ble_eq_true rfl⟩ (Nat.le_of_ble_eq_true rfl) dX4_readTown_9 rfl hm (fun h x29 H locs Hh hm => ?_)
    obtain ⟨hz, hm⟩ := zb1_inv hm
    exact z_zretC C hr hlocks Hh dX4_readTown_12 hz hm
theorem tg_X4_townHere {h : Hp} {l0 : Int} {r : Hp × Int} (hm : M_X4_townHere h l0 = some r) : hT h l0 = 14 := (tk_inv hm).1
set_option maxRecDepth 100000 in
set_option maxHeartbeats 4000000 in
theorem ct_X4_townHere (l : Launch) (g : zGeo) (h0 : Hp) (l0 : Int) (r : Hp × Int) (hm : M_X4_townHere h0 l0 = some r) : zM l yX4_townHere cX4_townHere 2 (some .int) 8 212 0 0 g h0 [qR g l0] r.1 (some (qI r.2)) := by
  refine z_meth (by decide) (Nat.le_of_ble_eq_true rfl) ?_
  intro p e s m args below meth c H ls C hr hlocks hnm Hh hl
  have C : zC p m c cX4_townHere 2 s args RX4 g := C
  have hnm : meth.name = "townHere" := hnm
  have hx := C.1.1
  have hb := C.1.2.1
  have hl : lv_has ls 2 [(0, qR g l0)] := hl
  unfold M_X4_townHere at hm
  replace hm := (tk_inv hm).2
  generalize h0 = h at Hh hm
  refine lv_aload_n hx hb dX4_townHere_0 rfl (lv_at hl 0 rfl) ?_
  refine z_cVIr (vs := []) C (fun q hq => ct_X4_isName l g h l0 q hq) tw_675 my_X4_isName (fun q hq => tg_X4_isName hq) rfl hl.1 Hh ⟨Nat.le_of_ble_eq_true rfl, Nat.le_of_ble_eq_true rfl, Nat.le_of_ble_eq_true rfl, Nat.le_of_ble_eq_true rfl⟩ (Nat.le_of_ble_eq_true rfl) dX4_townHere_1 rfl hm (fun x1 H locs Hh hm => ?_)
  refine z_if_ne (tgt := 13) C dX4_townHere_4 (by decide) rfl hm (fun _ hm => ?_) (fun _ hm => ?_)
  · refine lv_aload_n hx hb dX4_townHere_13 rfl (lv_at hl 0 rfl) ?_
    refine z_getR C fl_4_47 Hh dX4_townHere_14 rfl hm (fun x2 hm => ?_)
    refine lv_aload_n hx hb dX4_townHere_17 rfl (lv_at hl 0 rfl) ?_
    refine z_getJ C fl_4_30 Hh dX4_townHere_18 rfl hm (fun x3 hm => ?_)
    refine z_cVIr (vs := [qJ x3]) C (fun q hq => ct_X5_townNamed l g h x2 x3 q hq) tw_680 my_X5_townNamed (fun q hq => tg_X5_townNamed hq) rfl hl.1 Hh ⟨Nat.le_of_ble_eq_true rfl, Nat.le_of_ble_eq_true rfl, Nat.le_of_ble_eq_true rfl, Nat.le_of_ble_eq_true rfl⟩ (Nat.le_of_ble_eq_true rfl) dX4_townHere_21 rfl hm (fun x4 H locs Hh hm => ?_)
    refine lv_istore_n (lv' := [(1, qI x4), (0, qR g l0)]) hx hb dX4_townHere_24 rfl hl (by decide) rfl (fun ls hl => ?_)
    refine lv_iload_n hx hb dX4_townHere_25 rfl (lv_at hl 0 rfl) ?_
    refine z_iconst C dX4_townHere_26 ?_
    refine z_icmp_ne (tgt := 38) C dX4_townHere_27 (by decide) rfl lq_m1 hm (fun _ hm => ?_) (fun _ hm => ?_)
    · refine lv_iload_n hx hb dX4_townHere_38 rfl (lv_at hl 0 rfl) ?_
      exact z_iret C hr hlocks Hh dX4_townHere_39 hm
    · refine lv_aload_n hx hb dX4_townHere_30 rfl (lv_at hl 1 rfl) ?_
      refine z_iconst C dX4_townHere_31 ?_
      refine z_cVI (vs := [qI 2]) C (fun q hq => ct_X4_failed l g h l0 2 q hq) tw_665 my_X4_failed (fun q hq => tg_X4_failed hq) rfl hl.1 Hh ⟨Nat.le_of_ble_eq_true rfl, Nat.le_of_ble_eq_true rfl, Nat.le_of_ble_eq_true rfl, Nat.le_of_ble_eq_true rfl⟩ (Nat.le_of_ble_eq_true rfl) dX4_townHere_32 rfl hm (fun h x5 H locs Hh hm => ?_)
      refine lv_goto (tgt := 39) hx hb dX4_townHere_35 (by decide) ?_
      exact z_iret C hr hlocks Hh dX4_townHere_39 hm
  · refine lv_aload_n hx hb dX4_townHere_7 rfl (lv_at hl 0 rfl) ?_
    refine z_iconst C dX4_townHere_8 ?_
    refine z_cVI (vs := [qI 1]) C (fun q hq => ct_X4_failed l g h l0 1 q hq) tw_665 my_X4_failed (fun q hq => tg_X4_failed hq) rfl hl.1 Hh ⟨Nat.le_of_ble_eq_true rfl, Nat.le_of_ble_eq_true rfl, Nat.le_of_ble_eq_true rfl, Nat.le_of_ble_eq_true rfl⟩ (Nat.le_of_ble_eq_true rfl) dX4_townHere_9 rfl hm (fun h x6 H locs Hh hm => ?_)
    exact z_iret C hr hlocks Hh dX4_townHere_12 hm
set_option maxRecDepth 100000 in
set_option maxHeartbeats 4000000 in
theorem ct_X4_errorWord (l : Launch) (g : zGeo) (h : Hp) (l0 : Int) (r : Int) (hm : M_X4_errorWord h l0 = some r) : zM l yX4_errorWord cX4_errorWord 1 (some (.object "java/lang/String")) 0 0 0 0 g h [qI l0] h (some (qS g r)) := by
  refine z_meth (by decide) (Nat.le_of_ble_eq_true rfl) ?_
  intro p e s m args below meth c H ls C hr hlocks hnm Hh hl
  have C : zC p m c cX4_errorWord 1 s args RX4 g := C
  have hnm : meth.name = "errorWord" := hnm
  have hx := C.1.1
  have hb := C.1.2.1
  have hl : lv_has ls 1 [(0, qI l0)] := hl
  unfold M_X4_errorWord at hm
  refine lv_iload_n hx hb dX4_errorWord_0 rfl (lv_at hl 0 rfl) ?_
  refine z_sw hm (fun q hm => ?_) (fun q0 hm => ?_)
  · refine z_tin (tgt := 56) (off := 55) C dX4_errorWord_1 q (by decide) (by decide) rfl (by decide) ?_
    refine z_ldcS (i := 9) (tx := "true") C dX4_errorWord_56 (by decide) ?_
    exact z_sretR C hr hlocks Hh dX4_errorWord_58 hm
  refine z_sw hm (fun q hm => ?_) (fun q1 hm => ?_)
  · refine z_tin (tgt := 59) (off := 58) C dX4_errorWord_1 q (by decide) (by decide) rfl (by decide) ?_
    refine z_ldcS (i := 10) (tx := "blot") C dX4_errorWord_59 (by decide) ?_
    exact z_sretR C hr hlocks Hh dX4_errorWord_61 hm
  refine z_sw hm (fun q hm => ?_) (fun q2 hm => ?_)
  · refine z_tin (tgt := 62) (off := 61) C dX4_errorWord_1 q (by decide) (by decide) rfl (by decide) ?_
    refine z_ldcS (i := 11) (tx := "fold") C dX4_errorWord_62 (by decide) ?_
    exact z_sretR C hr hlocks Hh dX4_errorWord_64 hm
  refine z_sw hm (fun q hm => ?_) (fun q3 hm => ?_)
  · refine z_tin (tgt := 65) (off := 64) C dX4_errorWord_1 q (by decide) (by decide) rfl (by decide) ?_
    refine z_ldcS (i := 12) (tx := "shift") C dX4_errorWord_65 (by decide) ?_
    exact z_sretR C hr hlocks Hh dX4_errorWord_67 hm
  refine z_sw hm (fun q hm => ?_) (fun q4 hm => ?_)
  · refine z_tin (tgt := 68) (off := 67) C dX4_errorWord_1 q (by decide) (by decide) rfl (by decide) ?_
    refine z_ldcS (i := 13) (tx := "turn") C dX4_errorWord_68 (by decide) ?_
    exact z_sretR C hr hlocks Hh dX4_errorWord_70 hm
  refine z_sw hm (fun q hm => ?_) (fun q5 hm => ?_)
  · refine z_tin (tgt := 71) (off := 70) C dX4_errorWord_1 q (by decide) (by decide) rfl (by decide) ?_
    refine z_ldcS (i := 14) (tx := "swap") C dX4_errorWord_71 (by decide) ?_
    exact z_sretR C hr hlocks Hh dX4_errorWord_73 hm
  refine z_sw hm (fun q hm => ?_) (fun q6 hm => ?_)
  · refine z_tin (tgt := 74) (off := 73) C dX4_errorWord_1 q (by decide) (by decide) rfl (by decide) ?_
    refine z_ldcS (i := 15) (tx := "stain") C dX4_errorWord_74 (by decide) ?_
    exact z_sretR C hr hlocks Hh dX4_errorWord_76 hm
  refine z_sw hm (fun q hm => ?_) (fun q7 hm => ?_)
  · refine z_tin (tgt := 77) (off := 76) C dX4_errorWord_1 q (by decide) (by decide) rfl (by decide) ?_
    refine z_ldcS (i := 16) (tx := "erase") C dX4_errorWord_77 (by decide) ?_
    exact z_sretR C hr hlocks Hh dX4_errorWord_79 hm
  refine z_sw hm (fun q hm => ?_) (fun q8 hm => ?_)
  · refine z_tin (tgt := 80) (off := 79) C dX4_errorWord_1 q (by decide) (by decide) rfl (by decide) ?_
    refine z_ldcS (i := 17) (tx := "stretch") C dX4_errorWord_80 (by decide) ?_
    exact z_sretR C hr hlocks Hh dX4_errorWord_82 hm
  refine z_sw hm (fun q hm => ?_) (fun q9 hm => ?_)
  · refine z_tin (tgt := 83) (off := 82) C dX4_errorWord_1 q (by decide) (by decide) rfl (by decide) ?_
    refine z_ldcS (i := 18) (tx := "sneeze") C dX4_errorWord_83 (by decide) ?_
    exact z_sretR C hr hlocks Hh dX4_errorWord_85 hm
  refine z_tout (tgt := 86) C dX4_errorWord_1 (by omega) (by decide) ?_
  refine z_ldcS (i := 19) (tx := "unknown") C dX4_errorWord_86 (by decide) ?_
  exact z_sretR C hr hlocks Hh dX4_errorWord_88 hm
theorem tg_X4_errorSort {h : Hp} {l0 : Int} {r : Int} (hm : M_X4_errorSort h l0 = some r) : hT h l0 = 14 := (tk_inv hm).1
set_option maxRecDepth 100000 in
set_option maxHeartbeats 4000000 in
theorem ct_X4_errorSort (l : Launch) (g : zGeo) (h : Hp) (l0 : Int) (r : Int) (hm : M_X4_errorSort h l0 = some r) : zM l yX4_errorSort cX4_errorSort 2 (some .int) 6 172 0 0 g h [qR g l0] h (some (qI r)) := by
  refine z_meth (by decide) (Nat.le_of_ble_eq_true rfl) ?_
  intro p e s m args below meth c H ls C hr hlocks hnm Hh hl
  have C : zC p m c cX4_errorSort 2 s args RX4 g := C
  have hnm : meth.name = "errorSort" := hnm
  have hx := C.1.1
  have hb := C.1.2.1
  have hl : lv_has ls 2 [(0, qR g l0)] := hl
  unfold M_X4_errorSort at hm
  replace hm := (tk_inv hm).2
  have K27 : ∀  (H : Heap) (locs : List Loc) (ls : Array Slot), zH g s h H locs → lv_has ls 2 [] → M_X4_errorSort_p27 h = some r → W p l e { frames := 6, cells := 0, slots := 0, locals := 172 } s m args below meth c H locs 0 0 (zQ below g h (some (qI r)) args s 0 0) (F0 m 27 ls []) := by
    intro   H locs ls Hh hl hm
    unfold M_X4_errorSort_p27 at hm
    refine z_iconst C dX4_errorSort_27 ?_
    exact z_iretR (h0 := h) C hr hlocks Hh dX4_errorSort_28 hm
  have KL2 : ∀ (n : Nat)  (l0 l1 : Int) (H : Heap) (locs : List Loc) (ls : Array Slot), zH g s h H locs → lv_has ls 2 [(0, qR g l0), (1, qI l1)] → M_X4_errorSort_w2 n h l0 l1 = some r → W p l e { frames := 6, cells := 0, slots := 0, locals := 172 } s m args below meth c H locs 0 0 (zQ below g h (some (qI r)) args s 0 0) (F0 m 2 ls []) := by
    intro n
    induction n with
    | zero => intro l0 l1 H locs ls Hh hl hm; cases hm
    | succ n ih2 =>
      intro l0 l1 H locs ls Hh hl hm
      obtain ⟨z2, hm, hc2⟩ := wh_inv hm
      have hm : M_X4_errorSort_b2 h l0 l1 = some z2 := hm
      unfold M_X4_errorSort_b2 at hm
      refine lv_iload_n hx hb dX4_errorSort_2 rfl (lv_at hl 1 rfl) ?_
      refine z_bipush C dX4_errorSort_3 rfl ?_
      refine z_icmp_gt (tgt := 27) C dX4_errorSort_5 (by decide) rfl lq_p10 hm (fun _ hm => ?_) (fun _ hm => ?_)
      · cases hm
        exact K27  _ _ _ Hh (lv_sub hl [] rfl) hc2
      · refine lv_aload_n hx hb dX4_errorSort_8 rfl (lv_at hl 0 rfl) ?_
        refine lv_iload_n hx hb dX4_errorSort_9 rfl (lv_at hl 1 rfl) ?_
        refine z_cSSr (vs := [qI l1]) C (fun q hq => ct_X4_errorWord l g h l1 q hq) tw_700 my_X4_errorWord rfl hl.1 Hh ⟨Nat.le_of_ble_eq_true rfl, Nat.le_of_ble_eq_true rfl, Nat.le_of_ble_eq_true rfl, Nat.le_of_ble_eq_true rfl⟩ (Nat.le_of_ble_eq_true rfl) dX4_errorSort_10 rfl hm (fun x1 H locs Hh hm => ?_)
        refine z_cVIr (vs := [qS g x1]) C (fun q hq => ct_X4_isWord l g h l0 x1 q hq) tw_584 my_X4_isWord (fun q hq => tg_X4_isWord hq) rfl hl.1 Hh ⟨Nat.le_of_ble_eq_true rfl, Nat.le_of_ble_eq_true rfl, Nat.le_of_ble_eq_true rfl, Nat.le_of_ble_eq_true rfl⟩ (Nat.le_of_ble_eq_true rfl) dX4_errorSort_13 rfl hm (fun x2 H locs Hh hm => ?_)
        refine z_if_eq (tgt := 21) C dX4_errorSort_16 (by decide) rfl hm (fun _ hm => ?_) (fun _ hm => ?_)
        · refine z_iinc (x := l1) (k := 1) (lv' := [(1, qI (l1 + 1)), (0, qR g l0)]) C dX4_errorSort_21 hl rfl (by decide) rfl (fun ls hl => ?_)
          refine lv_goto (tgt := 2) hx hb dX4_errorSort_24 (by decide) ?_
          cases hm
          exact ih2 l0 (l1 + 1) _ _ _ Hh (lv_sub hl [1, 0] rfl) hc2
        · refine lv_iload_n hx hb dX4_errorSort_19 rfl (lv_at hl 1 rfl) ?_
          cases hm
          have hm := hc2
          exact z_iretR (h0 := h) C hr hlocks Hh dX4_errorSort_20 hm
  refine z_iconst C dX4_errorSort_0 ?_
  refine lv_istore_n (lv' := [(1, qI 0), (0, qR g l0)]) hx hb dX4_errorSort_1 rfl hl (by decide) rfl (fun ls hl => ?_)
  exact KL2 FU l0 0 _ _ _ Hh (lv_sub hl [1, 0] rfl) hm
set_option maxRecDepth 100000 in
set_option maxHeartbeats 4000000 in
theorem ct_X4_errorParts (l : Launch) (g : zGeo) (h : Hp) (l0 : Int) (r : Int) (hm : M_X4_errorParts h l0 = some r) : zM l yX4_errorParts cX4_errorParts 1 (some (.object "java/lang/String")) 0 0 0 0 g h [qI l0] h (some (qS g r)) := by
  refine z_meth (by decide) (Nat.le_of_ble_eq_true rfl) ?_
  intro p e s m args below meth c H ls C hr hlocks hnm Hh hl
  have C : zC p m c cX4_errorParts 1 s args RX4 g := C
  have hnm : meth.name = "errorParts" := hnm
  have hx := C.1.1
  have hb := C.1.2.1
  have hl : lv_has ls 1 [(0, qI l0)] := hl
  unfold M_X4_errorParts at hm
  refine lv_iload_n hx hb dX4_errorParts_0 rfl (lv_at hl 0 rfl) ?_
  refine z_sw hm (fun q hm => ?_) (fun q0 hm => ?_)
  · refine z_tin (tgt := 52) (off := 51) C dX4_errorParts_1 q (by decide) (by decide) rfl (by decide) ?_
    refine z_ldcS (i := 20) (tx := "mxy") C dX4_errorParts_52 (by decide) ?_
    exact z_sretR C hr hlocks Hh dX4_errorParts_54 hm
  refine z_sw hm (fun q hm => ?_) (fun q1 hm => ?_)
  · refine z_tin (tgt := 55) (off := 54) C dX4_errorParts_1 q (by decide) (by decide) rfl (by decide) ?_
    refine z_ldcS (i := 21) (tx := "f") C dX4_errorParts_55 (by decide) ?_
    exact z_sretR C hr hlocks Hh dX4_errorParts_57 hm
  refine z_sw hm (fun q hm => ?_) (fun q2 hm => ?_)
  · refine z_tin (tgt := 58) (off := 57) C dX4_errorParts_1 q (by decide) (by decide) rfl (by decide) ?_
    refine z_ldcS (i := 22) (tx := "ss") C dX4_errorParts_58 (by decide) ?_
    exact z_sretR C hr hlocks Hh dX4_errorParts_60 hm
  refine z_sw hm (fun q hm => ?_) (fun q3 hm => ?_)
  · refine z_tin (tgt := 61) (off := 60) C dX4_errorParts_1 q (by decide) (by decide) rfl (by decide) ?_
    refine z_ldcS (i := 23) (tx := "mo") C dX4_errorParts_61 (by decide) ?_
    exact z_sretR C hr hlocks Hh dX4_errorParts_63 hm
  refine z_sw hm (fun q hm => ?_) (fun q4 hm => ?_)
  · refine z_tin (tgt := 64) (off := 63) C dX4_errorParts_1 q (by decide) (by decide) rfl (by decide) ?_
    refine z_ldcS (i := 24) (tx := "m") C dX4_errorParts_64 (by decide) ?_
    exact z_sretR C hr hlocks Hh dX4_errorParts_66 hm
  refine z_sw hm (fun q hm => ?_) (fun q5 hm => ?_)
  · refine z_tin (tgt := 67) (off := 66) C dX4_errorParts_1 q (by decide) (by decide) rfl (by decide) ?_
    refine z_ldcS (i := 24) (tx := "m") C dX4_errorParts_67 (by decide) ?_
    exact z_sretR C hr hlocks Hh dX4_errorParts_69 hm
  refine z_sw hm (fun q hm => ?_) (fun q6 hm => ?_)
  · refine z_tin (tgt := 70) (off := 69) C dX4_errorParts_1 q (by decide) (by decide) rfl (by decide) ?_
    refine z_ldcS (i := 25) (tx := "t") C dX4_errorParts_70 (by decide) ?_
    exact z_sretR C hr hlocks Hh dX4_errorParts_72 hm
  refine z_sw hm (fun q hm => ?_) (fun q7 hm => ?_)
  · refine z_tin (tgt := 73) (off := 72) C dX4_errorParts_1 q (by decide) (by decide) rfl (by decide) ?_
    refine z_ldcS (i := 24) (tx := "m") C dX4_errorParts_73 (by decide) ?_
    exact z_sretR C hr hlocks Hh dX4_errorParts_75 hm
  have hdf : (w32 l0 < 1 ∨ 9 < w32 l0) ∨ ∃ k : Int, w32 l0 = k ∧ 1 ≤ k ∧ k ≤ 9 ∧ (#[51, 54, 57, 75, 60, 63, 66, 69, 72] : Array Int)[(k - 1).toNat]? = some 75 := by
    have q : (w32 l0 < 1 ∨ 9 < w32 l0) ∨ w32 l0 = 4 := by omega
    rcases q with q | q
    · exact Or.inl q
    · exact Or.inr ⟨_, q, by decide, by decide, rfl⟩
  refine z_tdef (tgt := 76) C dX4_errorParts_1 hdf (by decide) ?_
  refine z_ldcS (i := 26) (tx := "") C dX4_errorParts_76 (by decide) ?_
  exact z_sretR C hr hlocks Hh dX4_errorParts_78 hm
theorem tg_X4_markDue {h : Hp} {l0 l1 : Int} {r : Hp × Int} (hm : M_X4_markDue h l0 l1 = some r) : hT h l0 = 14 := (tk_inv hm).1
set_option maxRecDepth 100000 in
set_option maxHeartbeats 4000000 in
theorem ct_X4_markDue (l : Launch) (g : zGeo) (h0 : Hp) (l0 l1 : Int) (r : Hp × Int) (hm : M_X4_markDue h0 l0 l1 = some r) : zM l yX4_markDue cX4_markDue 3 (some .int) 2 42 0 0 g h0 [qR g l0, qI l1] r.1 (some (qI r.2)) := by
  refine z_meth (by decide) (Nat.le_of_ble_eq_true rfl) ?_
  intro p e s m args below meth c H ls C hr hlocks hnm Hh hl
  have C : zC p m c cX4_markDue 3 s args RX4 g := C
  have hnm : meth.name = "markDue" := hnm
  have hx := C.1.1
  have hb := C.1.2.1
  have hl : lv_has ls 3 [(0, qR g l0), (1, qI l1)] := hl
  unfold M_X4_markDue at hm
  replace hm := (tk_inv hm).2
  generalize h0 = h at Hh hm
  refine lv_aload_n hx hb dX4_markDue_0 rfl (lv_at hl 0 rfl) ?_
  refine z_getI C fl_4_18 Hh dX4_markDue_1 rfl hm (fun x1 hm => ?_)
  refine z_iconst C dX4_markDue_4 ?_
  refine z_icmp_eq (tgt := 14) C dX4_markDue_5 (by decide) rfl lq_p1 hm (fun _ hm => ?_) (fun _ hm => ?_)
  · refine lv_aload_n hx hb dX4_markDue_14 rfl (lv_at hl 0 rfl) ?_
    refine z_getR C fl_4_34 Hh dX4_markDue_15 rfl hm (fun x2 hm => ?_)
    refine lv_aload_n hx hb dX4_markDue_18 rfl (lv_at hl 0 rfl) ?_
    refine z_getI C fl_4_21 Hh dX4_markDue_19 rfl hm (fun x3 hm => ?_)
    refine z_iald C Hh dX4_markDue_22 hm (fun x4 hm => ?_)
    refine z_bipush C dX4_markDue_23 rfl ?_
    refine z_isub C dX4_markDue_25 ?_
    refine lv_istore_n (lv' := [(2, qI (x4 - 97)), (0, qR g l0), (1, qI l1)]) hx hb dX4_markDue_26 rfl hl (by decide) rfl (fun ls hl => ?_)
    refine lv_aload_n hx hb dX4_markDue_27 rfl (lv_at hl 1 rfl) ?_
    refine z_getI C fl_4_24 Hh dX4_markDue_28 rfl hm (fun x5 hm => ?_)
    refine lv_aload_n hx hb dX4_markDue_31 rfl (lv_at hl 1 rfl) ?_
    refine z_getI C fl_4_21 Hh dX4_markDue_32 rfl hm (fun x6 hm => ?_)
    refine z_isub C dX4_markDue_35 ?_
    refine z_iconst C dX4_markDue_36 ?_
    refine z_icmp_ne (tgt := 51) C dX4_markDue_37 (by decide) rfl lq_p1 hm (fun _ hm => ?_) (fun _ hm => ?_)
    · refine lv_aload_n hx hb dX4_markDue_51 rfl (lv_at hl 1 rfl) ?_
      refine z_bipush C dX4_markDue_52 rfl ?_
      refine z_cVI (vs := [qI 7]) C (fun q hq => ct_X4_failed l g h l0 7 q hq) tw_665 my_X4_failed (fun q hq => tg_X4_failed hq) rfl hl.1 Hh ⟨Nat.le_of_ble_eq_true rfl, Nat.le_of_ble_eq_true rfl, Nat.le_of_ble_eq_true rfl, Nat.le_of_ble_eq_true rfl⟩ (Nat.le_of_ble_eq_true rfl) dX4_markDue_54 rfl hm (fun h x7 H locs Hh hm => ?_)
      exact z_iret C hr hlocks Hh dX4_markDue_57 hm
    · refine lv_iload_n hx hb dX4_markDue_40 rfl (lv_at hl 0 rfl) ?_
      refine lv_aload_n hx hb dX4_markDue_41 rfl (lv_at hl 1 rfl) ?_
      refine z_getR C fl_4_47 Hh dX4_markDue_42 rfl hm (fun x8 hm => ?_)
      refine z_getI C fl_4_116 Hh dX4_markDue_45 rfl hm (fun x9 hm => ?_)
      refine z_icmp_lt (tgt := 58) C dX4_markDue_48 (by decide) rfl rfl hm (fun _ hm => ?_) (fun _ hm => ?_)
      · refine lv_iload_n hx hb dX4_markDue_58 rfl (lv_at hl 0 rfl) ?_
        refine lv_iload_n hx hb dX4_markDue_59 rfl (lv_at hl 2 rfl) ?_
        refine z_icmp_ne (tgt := 69) C dX4_markDue_60 (by decide) rfl rfl hm (fun _ hm => ?_) (fun _ hm => ?_)
        · refine lv_aload_n hx hb dX4_markDue_69 rfl (lv_at hl 1 rfl) ?_
          refine z_cVv (vs := []) C (fun q hq => ct_X4_take l g h l0 q hq) tw_573 my_X4_take (fun q hq => tg_X4_take hq) rfl hl.1 Hh ⟨Nat.le_of_ble_eq_true rfl, Nat.le_of_ble_eq_true rfl, Nat.le_of_ble_eq_true rfl, Nat.le_of_ble_eq_true rfl⟩ (Nat.le_of_ble_eq_true rfl) dX4_markDue_70 rfl hm (fun h H locs Hh hm => ?_)
          refine lv_iload_n hx hb dX4_markDue_73 rfl (lv_at hl 0 rfl) ?_
          exact z_iret C hr hlocks Hh dX4_markDue_74 hm
        · refine lv_aload_n hx hb dX4_markDue_63 rfl (lv_at hl 1 rfl) ?_
          refine z_iconst C dX4_markDue_64 ?_
          refine z_cVI (vs := [qI 3]) C (fun q hq => ct_X4_failed l g h l0 3 q hq) tw_665 my_X4_failed (fun q hq => tg_X4_failed hq) rfl hl.1 Hh ⟨Nat.le_of_ble_eq_true rfl, Nat.le_of_ble_eq_true rfl, Nat.le_of_ble_eq_true rfl, Nat.le_of_ble_eq_true rfl⟩ (Nat.le_of_ble_eq_true rfl) dX4_markDue_65 rfl hm (fun h x10 H locs Hh hm => ?_)
          exact z_iret C hr hlocks Hh dX4_markDue_68 hm
      · refine lv_aload_n hx hb dX4_markDue_51 rfl (lv_at hl 1 rfl) ?_
        refine z_bipush C dX4_markDue_52 rfl ?_
        refine z_cVI (vs := [qI 7]) C (fun q hq => ct_X4_failed l g h l0 7 q hq) tw_665 my_X4_failed (fun q hq => tg_X4_failed hq) rfl hl.1 Hh ⟨Nat.le_of_ble_eq_true rfl, Nat.le_of_ble_eq_true rfl, Nat.le_of_ble_eq_true rfl, Nat.le_of_ble_eq_true rfl⟩ (Nat.le_of_ble_eq_true rfl) dX4_markDue_54 rfl hm (fun h x11 H locs Hh hm => ?_)
        exact z_iret C hr hlocks Hh dX4_markDue_57 hm
  · refine lv_aload_n hx hb dX4_markDue_8 rfl (lv_at hl 0 rfl) ?_
    refine z_iconst C dX4_markDue_9 ?_
    refine z_cVI (vs := [qI 1]) C (fun q hq => ct_X4_failed l g h l0 1 q hq) tw_665 my_X4_failed (fun q hq => tg_X4_failed hq) rfl hl.1 Hh ⟨Nat.le_of_ble_eq_true rfl, Nat.le_of_ble_eq_true rfl, Nat.le_of_ble_eq_true rfl, Nat.le_of_ble_eq_true rfl⟩ (Nat.le_of_ble_eq_true rfl) dX4_markDue_10 rfl hm (fun h x12 H locs Hh hm => ?_)
    exact z_iret C hr hlocks Hh dX4_markDue_13 hm
theorem tg_X4_partDue {h : Hp} {l0 l1 l2 : Int} {r : Hp × Int} (hm : M_X4_partDue h l0 l1 l2 = some r) : hT h l0 = 14 := (tk_inv hm).1
set_option maxRecDepth 100000 in
set_option maxHeartbeats 4000000 in
theorem ct_X4_partDue (l : Launch) (g : zGeo) (h0 : Hp) (l0 l1 l2 : Int) (r : Hp × Int) (hm : M_X4_partDue h0 l0 l1 l2 = some r) : zM l yX4_partDue cX4_partDue 3 (some .int) 3 65 0 0 g h0 [qR g l0, qI l1, qI l2] r.1 (some (qI r.2)) := by
  refine z_meth (by decide) (Nat.le_of_ble_eq_true rfl) ?_
  intro p e s m args below meth c H ls C hr hlocks hnm Hh hl
  have C : zC p m c cX4_partDue 3 s args RX4 g := C
  have hnm : meth.name = "partDue" := hnm
  have hx := C.1.1
  have hb := C.1.2.1
  have hl : lv_has ls 3 [(0, qR g l0), (1, qI l1), (2, qI l2)] := hl
  unfold M_X4_partDue at hm
  replace hm := (tk_inv hm).2
  generalize h0 = h at Hh hm
  refine lv_iload_n hx hb dX4_partDue_0 rfl (lv_at hl 1 rfl) ?_
  refine z_sw hm (fun q hm => ?_) (fun q0 hm => ?_)
  · refine z_tin (tgt := 144) (off := 143) C dX4_partDue_1 q (by decide) (by decide) rfl (by decide) ?_
    refine lv_aload_n hx hb dX4_partDue_144 rfl (lv_at hl 0 rfl) ?_
    refine z_iconst C dX4_partDue_145 ?_
    refine lv_aload_n hx hb dX4_partDue_146 rfl (lv_at hl 0 rfl) ?_
    refine z_getR C fl_4_47 Hh dX4_partDue_147 rfl hm (fun x1 hm => ?_)
    refine z_getR C fl_4_83 Hh dX4_partDue_150 rfl hm (fun x2 hm => ?_)
    refine z_getI C fl_4_158 Hh dX4_partDue_153 rfl hm (fun x3 hm => ?_)
    refine z_iconst C dX4_partDue_156 ?_
    refine z_isub C dX4_partDue_157 ?_
    refine z_cVI (vs := [qI 1, qI (x3 - 1)]) C (fun q hq => ct_X4_wholeDue l g h l0 1 (x3 - 1) q hq) tw_661 my_X4_wholeDue (fun q hq => tg_X4_wholeDue hq) rfl hl.1 Hh ⟨Nat.le_of_ble_eq_true rfl, Nat.le_of_ble_eq_true rfl, Nat.le_of_ble_eq_true rfl, Nat.le_of_ble_eq_true rfl⟩ (Nat.le_of_ble_eq_true rfl) dX4_partDue_158 rfl hm (fun h x4 H locs Hh hm => ?_)
    exact z_iret C hr hlocks Hh dX4_partDue_161 hm
  refine z_sw hm (fun q hm => ?_) (fun q1 hm => ?_)
  · refine z_tin (tgt := 96) (off := 95) C dX4_partDue_1 q (by decide) (by decide) rfl (by decide) ?_
    refine lv_aload_n hx hb dX4_partDue_96 rfl (lv_at hl 0 rfl) ?_
    refine z_iconst C dX4_partDue_97 ?_
    refine z_cVI (vs := [qI (-1)]) C (fun q hq => ct_X4_markDue l g h l0 (-1) q hq) tw_744 my_X4_markDue (fun q hq => tg_X4_markDue hq) rfl hl.1 Hh ⟨Nat.le_of_ble_eq_true rfl, Nat.le_of_ble_eq_true rfl, Nat.le_of_ble_eq_true rfl, Nat.le_of_ble_eq_true rfl⟩ (Nat.le_of_ble_eq_true rfl) dX4_partDue_98 rfl hm (fun h x5 H locs Hh hm => ?_)
    exact z_iret C hr hlocks Hh dX4_partDue_101 hm
  refine z_sw hm (fun q hm => ?_) (fun q2 hm => ?_)
  · refine z_tin (tgt := 102) (off := 101) C dX4_partDue_1 q (by decide) (by decide) rfl (by decide) ?_
    refine lv_aload_n hx hb dX4_partDue_102 rfl (lv_at hl 0 rfl) ?_
    refine lv_iload_n hx hb dX4_partDue_103 rfl (lv_at hl 2 rfl) ?_
    refine z_cVI (vs := [qI l2]) C (fun q hq => ct_X4_markDue l g h l0 l2 q hq) tw_744 my_X4_markDue (fun q hq => tg_X4_markDue hq) rfl hl.1 Hh ⟨Nat.le_of_ble_eq_true rfl, Nat.le_of_ble_eq_true rfl, Nat.le_of_ble_eq_true rfl, Nat.le_of_ble_eq_true rfl⟩ (Nat.le_of_ble_eq_true rfl) dX4_partDue_104 rfl hm (fun h x6 H locs Hh hm => ?_)
    exact z_iret C hr hlocks Hh dX4_partDue_107 hm
  refine z_sw hm (fun q hm => ?_) (fun q3 hm => ?_)
  · refine z_tin (tgt := 162) (off := 161) C dX4_partDue_1 q (by decide) (by decide) rfl (by decide) ?_
    refine lv_aload_n hx hb dX4_partDue_162 rfl (lv_at hl 0 rfl) ?_
    refine z_iconst C dX4_partDue_163 ?_
    refine z_iconst C dX4_partDue_164 ?_
    refine z_cVI (vs := [qI 0, qI 5]) C (fun q hq => ct_X4_wholeDue l g h l0 0 5 q hq) tw_661 my_X4_wholeDue (fun q hq => tg_X4_wholeDue hq) rfl hl.1 Hh ⟨Nat.le_of_ble_eq_true rfl, Nat.le_of_ble_eq_true rfl, Nat.le_of_ble_eq_true rfl, Nat.le_of_ble_eq_true rfl⟩ (Nat.le_of_ble_eq_true rfl) dX4_partDue_165 rfl hm (fun h x7 H locs Hh hm => ?_)
    exact z_iret C hr hlocks Hh dX4_partDue_168 hm
  refine z_sw hm (fun q hm => ?_) (fun q4 hm => ?_)
  · refine z_tin (tgt := 108) (off := 107) C dX4_partDue_1 q (by decide) (by decide) rfl (by decide) ?_
    refine lv_aload_n hx hb dX4_partDue_108 rfl (lv_at hl 0 rfl) ?_
    refine z_iconst C dX4_partDue_109 ?_
    refine lv_aload_n hx hb dX4_partDue_110 rfl (lv_at hl 0 rfl) ?_
    refine z_getR C fl_4_47 Hh dX4_partDue_111 rfl hm (fun x8 hm => ?_)
    refine z_getR C fl_4_83 Hh dX4_partDue_114 rfl hm (fun x9 hm => ?_)
    refine z_getI C fl_4_158 Hh dX4_partDue_117 rfl hm (fun x10 hm => ?_)
    refine z_iconst C dX4_partDue_120 ?_
    refine z_isub C dX4_partDue_121 ?_
    refine z_cVI (vs := [qI 0, qI (x10 - 1)]) C (fun q hq => ct_X4_wholeDue l g h l0 0 (x10 - 1) q hq) tw_661 my_X4_wholeDue (fun q hq => tg_X4_wholeDue hq) rfl hl.1 Hh ⟨Nat.le_of_ble_eq_true rfl, Nat.le_of_ble_eq_true rfl, Nat.le_of_ble_eq_true rfl, Nat.le_of_ble_eq_true rfl⟩ (Nat.le_of_ble_eq_true rfl) dX4_partDue_122 rfl hm (fun h x11 H locs Hh hm => ?_)
    exact z_iret C hr hlocks Hh dX4_partDue_125 hm
  refine z_sw hm (fun q hm => ?_) (fun q5 hm => ?_)
  · refine z_tin (tgt := 126) (off := 125) C dX4_partDue_1 q (by decide) (by decide) rfl (by decide) ?_
    refine lv_aload_n hx hb dX4_partDue_126 rfl (lv_at hl 0 rfl) ?_
    refine z_iconst C dX4_partDue_127 ?_
    refine lv_aload_n hx hb dX4_partDue_128 rfl (lv_at hl 0 rfl) ?_
    refine z_getR C fl_4_47 Hh dX4_partDue_129 rfl hm (fun x12 hm => ?_)
    refine z_getR C fl_4_83 Hh dX4_partDue_132 rfl hm (fun x13 hm => ?_)
    refine z_getI C fl_4_160 Hh dX4_partDue_135 rfl hm (fun x14 hm => ?_)
    refine z_iconst C dX4_partDue_138 ?_
    refine z_isub C dX4_partDue_139 ?_
    refine z_cVI (vs := [qI 0, qI (x14 - 1)]) C (fun q hq => ct_X4_wholeDue l g h l0 0 (x14 - 1) q hq) tw_661 my_X4_wholeDue (fun q hq => tg_X4_wholeDue hq) rfl hl.1 Hh ⟨Nat.le_of_ble_eq_true rfl, Nat.le_of_ble_eq_true rfl, Nat.le_of_ble_eq_true rfl, Nat.le_of_ble_eq_true rfl⟩ (Nat.le_of_ble_eq_true rfl) dX4_partDue_140 rfl hm (fun h x15 H locs Hh hm => ?_)
    exact z_iret C hr hlocks Hh dX4_partDue_143 hm
  have hdf : (w32 l1 < 102 ∨ 121 < w32 l1) ∨ ∃ k : Int, w32 l1 = k ∧ 102 ≤ k ∧ k ≤ 121 ∧ (#[143, 168, 168, 168, 168, 168, 168, 95, 168, 101, 168, 168, 168, 161, 168, 168, 168, 168, 107, 125] : Array Int)[(k - 102).toNat]? = some 168 := by
    have q : (w32 l1 < 102 ∨ 121 < w32 l1) ∨ w32 l1 = 103 ∨ w32 l1 = 104 ∨ w32 l1 = 105 ∨ w32 l1 = 106 ∨ w32 l1 = 107 ∨ w32 l1 = 108 ∨ w32 l1 = 110 ∨ w32 l1 = 112 ∨ w32 l1 = 113 ∨ w32 l1 = 114 ∨ w32 l1 = 116 ∨ w32 l1 = 117 ∨ w32 l1 = 118 ∨ w32 l1 = 119 := by omega
    rcases q with q | q | q | q | q | q | q | q | q | q | q | q | q | q | q
    · exact Or.inl q
    · exact Or.inr ⟨_, q, by decide, by decide, rfl⟩
    · exact Or.inr ⟨_, q, by decide, by decide, rfl⟩
    · exact Or.inr ⟨_, q, by decide, by decide, rfl⟩
    · exact Or.inr ⟨_, q, by decide, by decide, rfl⟩
    · exact Or.inr ⟨_, q, by decide, by decide, rfl⟩
    · exact Or.inr ⟨_, q, by decide, by decide, rfl⟩
    · exact Or.inr ⟨_, q, by decide, by decide, rfl⟩
    · exact Or.inr ⟨_, q, by decide, by decide, rfl⟩
    · exact Or.inr ⟨_, q, by decide, by decide, rfl⟩
    · exact Or.inr ⟨_, q, by decide, by decide, rfl⟩
    · exact Or.inr ⟨_, q, by decide, by decide, rfl⟩
    · exact Or.inr ⟨_, q, by decide, by decide, rfl⟩
    · exact Or.inr ⟨_, q, by decide, by decide, rfl⟩
    · exact Or.inr ⟨_, q, by decide, by decide, rfl⟩
  refine z_tdef (tgt := 169) C dX4_partDue_1 hdf (by decide) ?_
  refine lv_aload_n hx hb dX4_partDue_169 rfl (lv_at hl 0 rfl) ?_
  refine z_iconst C dX4_partDue_170 ?_
  refine z_bipush C dX4_partDue_171 rfl ?_
  refine z_cVI (vs := [qI 5, qI 9]) C (fun q hq => ct_X4_wholeDue l g h l0 5 9 q hq) tw_661 my_X4_wholeDue (fun q hq => tg_X4_wholeDue hq) rfl hl.1 Hh ⟨Nat.le_of_ble_eq_true rfl, Nat.le_of_ble_eq_true rfl, Nat.le_of_ble_eq_true rfl, Nat.le_of_ble_eq_true rfl⟩ (Nat.le_of_ble_eq_true rfl) dX4_partDue_173 rfl hm (fun h x16 H locs Hh hm => ?_)
  exact z_iret C hr hlocks Hh dX4_partDue_176 hm
theorem tg_X4_readError {h : Hp} {l0 l1 l2 l3 : Int} {r : Hp × Int} (hm : M_X4_readError h l0 l1 l2 l3 = some r) : hT h l0 = 14 := (tk_inv hm).1
set_option maxRecDepth 100000 in
set_option maxHeartbeats 4000000 in
theorem ct_X4_readError (l : Launch) (g : zGeo) (h0 : Hp) (l0 l1 l2 l3 : Int) (r : Hp × Int) (hm : M_X4_readError h0 l0 l1 l2 l3 = some r) : zM l yX4_readError cX4_readError 7 (some .boolean) 5 150 0 0 g h0 [qR g l0, qI l1, qR g l2, qI l3] r.1 (some (qI r.2)) := by
  refine z_meth (by decide) (Nat.le_of_ble_eq_true rfl) ?_
  intro p e s m args below meth c H ls C hr hlocks hnm Hh hl
  have C : zC p m c cX4_readError 7 s args RX4 g := C
  have hnm : meth.name = "readError" := hnm
  have hx := C.1.1
  have hb := C.1.2.1
  have hl : lv_has ls 7 [(0, qR g l0), (1, qI l1), (2, qR g l2), (3, qI l3)] := hl
  unfold M_X4_readError at hm
  replace hm := (tk_inv hm).2
  generalize h0 = h at Hh hm
  have K80 : ∀ (h : Hp) (H : Heap) (locs : List Loc) (ls : Array Slot), zH g s h H locs → lv_has ls 7 [] → M_X4_readError_p80 h = some r → W p l e { frames := 5, cells := 0, slots := 0, locals := 150 } s m args below meth c H locs 0 0 (zQ below g r.1 (some (qI r.2)) args s 0 0) (F0 m 80 ls []) := by
    intro h  H locs ls Hh hl hm
    unfold M_X4_readError_p80 at hm
    refine z_iconst C dX4_readError_80 ?_
    exact z_zretC C hr hlocks Hh dX4_readError_81 (by decide) hm
  have KL28 : ∀ (n : Nat) (h : Hp) (l0 l2 l3 l4 l5 : Int) (H : Heap) (locs : List Loc) (ls : Array Slot), zH g s h H locs → lv_has ls 7 [(0, qR g l0), (2, qR g l2), (3, qI l3), (4, qS g l4), (5, qI l5)] → M_X4_readError_w28 n h l0 l2 l3 l4 l5 = some r → W p l e { frames := 5, cells := 0, slots := 0, locals := 150 } s m args below meth c H locs 0 0 (zQ below g r.1 (some (qI r.2)) args s 0 0) (F0 m 28 ls []) := by
    intro n
    induction n with
    | zero => intro h l0 l2 l3 l4 l5 H locs ls Hh hl hm; cases hm
    | succ n ih28 =>
      intro h l0 l2 l3 l4 l5 H locs ls Hh hl hm
      obtain ⟨z28, hm, hc28⟩ := wh_inv hm
      have hm : M_X4_readError_b28 h l0 l2 l3 l4 l5 = some z28 := hm
      unfold M_X4_readError_b28 at hm
      refine lv_iload hx hb dX4_readError_28 (lv_at hl 4 rfl) ?_
      refine lv_aload hx hb dX4_readError_30 (lv_at hl 3 rfl) ?_
      refine z_J0_length C tw_588 hl.1 Hh ⟨Nat.le_of_ble_eq_true rfl, Nat.le_of_ble_eq_true rfl⟩ (Nat.le_of_ble_eq_true rfl) (Nat.le_of_ble_eq_true rfl) (Nat.le_of_ble_eq_true rfl) dX4_readError_32 hm (fun x1 H locs Hh hm => ?_)
      refine z_icmp_ge (tgt := 80) C dX4_readError_35 (by decide) rfl rfl hm (fun _ hm => ?_) (fun _ hm => ?_)
      · cases hm
        exact K80 h _ _ _ Hh (lv_sub hl [] rfl) hc28
      · refine lv_aload_n hx hb dX4_readError_38 rfl (lv_at hl 0 rfl) ?_
        refine lv_aload hx hb dX4_readError_39 (lv_at hl 3 rfl) ?_
        refine lv_iload hx hb dX4_readError_41 (lv_at hl 4 rfl) ?_
        refine z_J0_charAt C tw_598 hl.1 Hh ⟨Nat.le_of_ble_eq_true rfl, Nat.le_of_ble_eq_true rfl⟩ (Nat.le_of_ble_eq_true rfl) (Nat.le_of_ble_eq_true rfl) (Nat.le_of_ble_eq_true rfl) dX4_readError_43 hm (fun x2 H locs Hh hm => ?_)
        refine lv_aload_n hx hb dX4_readError_46 rfl (lv_at hl 1 rfl) ?_
        refine lv_iload_n hx hb dX4_readError_47 rfl (lv_at hl 2 rfl) ?_
        refine z_iconst C dX4_readError_48 ?_
        refine z_iadd C dX4_readError_49 ?_
        refine z_iald C Hh dX4_readError_50 hm (fun x3 hm => ?_)
        refine z_cVI (vs := [qI x2, qI x3]) C (fun q hq => ct_X4_partDue l g h l0 x2 x3 q hq) tw_740 my_X4_partDue (fun q hq => tg_X4_partDue hq) rfl hl.1 Hh ⟨Nat.le_of_ble_eq_true rfl, Nat.le_of_ble_eq_true rfl, Nat.le_of_ble_eq_true rfl, Nat.le_of_ble_eq_true rfl⟩ (Nat.le_of_ble_eq_true rfl) dX4_readError_51 rfl hm (fun h x4 H locs Hh hm => ?_)
        refine lv_istore (lv' := [(6, qI x4), (0, qR g l0), (2, qR g l2), (3, qI l3), (4, qS g l4), (5, qI l5)]) hx hb dX4_readError_54 hl (by decide) rfl (fun ls hl => ?_)
        refine lv_iload hx hb dX4_readError_56 (lv_at hl 0 rfl) ?_
        refine z_iconst C dX4_readError_58 ?_
        refine z_icmp_ne (tgt := 64) C dX4_readError_59 (by decide) rfl lq_m1 hm (fun _ hm => ?_) (fun _ hm => ?_)
        · refine lv_aload_n hx hb dX4_readError_64 rfl (lv_at hl 2 rfl) ?_
          refine lv_iload_n hx hb dX4_readError_65 rfl (lv_at hl 3 rfl) ?_
          refine z_iconst C dX4_readError_66 ?_
          refine z_iadd C dX4_readError_67 ?_
          refine lv_iload hx hb dX4_readError_68 (lv_at hl 5 rfl) ?_
          refine z_iadd C dX4_readError_70 ?_
          refine lv_iload hx hb dX4_readError_71 (lv_at hl 0 rfl) ?_
          refine z_iast C Hh dX4_readError_73 hm (fun h H locs Hh hm => ?_)
          refine z_iinc (x := l5) (k := 5) (lv' := [(5, qI (l5 + 1)), (6, qI x4), (0, qR g l0), (2, qR g l2), (3, qI l3), (4, qS g l4)]) C dX4_readError_74 hl rfl (by decide) rfl (fun ls hl => ?_)
          refine lv_goto (tgt := 28) hx hb dX4_readError_77 (by decide) ?_
          cases hm
          exact ih28 h l0 l2 l3 l4 (l5 + 1) _ _ _ Hh (lv_sub hl [2, 3, 4, 5, 0] rfl) hc28
        · refine z_iconst C dX4_readError_62 ?_
          cases hm
          have hm := hc28
          exact z_zretC C hr hlocks Hh dX4_readError_63 (by decide) hm
  refine lv_iload_n hx hb dX4_readError_0 rfl (lv_at hl 1 rfl) ?_
  refine z_iconst C dX4_readError_1 ?_
  refine z_icmp_ne (tgt := 11) C dX4_readError_2 (by decide) rfl lq_m1 hm (fun _ hm => ?_) (fun _ hm => ?_)
  · refine lv_aload_n hx hb dX4_readError_11 rfl (lv_at hl 0 rfl) ?_
    refine z_cVv (vs := []) C (fun q hq => ct_X4_take l g h l0 q hq) tw_573 my_X4_take (fun q hq => tg_X4_take hq) rfl hl.1 Hh ⟨Nat.le_of_ble_eq_true rfl, Nat.le_of_ble_eq_true rfl, Nat.le_of_ble_eq_true rfl, Nat.le_of_ble_eq_true rfl⟩ (Nat.le_of_ble_eq_true rfl) dX4_readError_12 rfl hm (fun h H locs Hh hm => ?_)
    refine lv_aload_n hx hb dX4_readError_15 rfl (lv_at hl 2 rfl) ?_
    refine lv_iload_n hx hb dX4_readError_16 rfl (lv_at hl 3 rfl) ?_
    refine lv_iload_n hx hb dX4_readError_17 rfl (lv_at hl 1 rfl) ?_
    refine z_iast C Hh dX4_readError_18 hm (fun h H locs Hh hm => ?_)
    refine lv_iload_n hx hb dX4_readError_19 rfl (lv_at hl 1 rfl) ?_
    refine z_cSSr (vs := [qI l1]) C (fun q hq => ct_X4_errorParts l g h l1 q hq) tw_730 my_X4_errorParts rfl hl.1 Hh ⟨Nat.le_of_ble_eq_true rfl, Nat.le_of_ble_eq_true rfl, Nat.le_of_ble_eq_true rfl, Nat.le_of_ble_eq_true rfl⟩ (Nat.le_of_ble_eq_true rfl) dX4_readError_20 rfl hm (fun x5 H locs Hh hm => ?_)
    refine lv_astore (lv' := [(4, qS g x5), (0, qR g l0), (1, qI l1), (2, qR g l2), (3, qI l3)]) hx hb dX4_readError_23 hl (by decide) rfl (fun ls hl => ?_)
    refine z_iconst C dX4_readError_25 ?_
    refine lv_istore (lv' := [(5, qI 0), (4, qS g x5), (0, qR g l0), (1, qI l1), (2, qR g l2), (3, qI l3)]) hx hb dX4_readError_26 hl (by decide) rfl (fun ls hl => ?_)
    exact KL28 FU h l0 l2 l3 x5 0 _ _ _ Hh (lv_sub hl [2, 4, 5, 1, 0] rfl) hm
  · refine lv_aload_n hx hb dX4_readError_5 rfl (lv_at hl 0 rfl) ?_
    refine z_iconst C dX4_readError_6 ?_
    refine z_cVI (vs := [qI 1]) C (fun q hq => ct_X4_fail l g h l0 1 q hq) tw_644 my_X4_fail (fun q hq => tg_X4_fail hq) rfl hl.1 Hh ⟨Nat.le_of_ble_eq_true rfl, Nat.le_of_ble_eq_true rfl, Nat.le_of_ble_eq_true rfl, Nat.le_of_ble_eq_true rfl⟩ (Nat.le_of_ble_eq_true rfl) dX4_readError_7 rfl hm (fun h x6 H locs Hh hm => ?_)
    obtain ⟨hz, hm⟩ := zb1_inv hm
    exact z_zretC C hr hlocks Hh dX4_readError_10 hz hm
theorem tg_X4_readCopies {h : Hp} {l0 : Int} {r : Hp × Int} (hm : M_X4_readCopies h l0 = some r) : hT h l0 = 14 := (tk_inv hm).1
set_option maxRecDepth 100000 in
set_option maxHeartbeats 4000000 in
theorem ct_X4_readCopies (l : Launch) (g : zGeo) (h0 : Hp) (l0 : Int) (r : Hp × Int) (hm : M_X4_readCopies h0 l0 = some r) : zM l yX4_readCopies cX4_readCopies 4 (some .boolean) 9 233 0 0 g h0 [qR g l0] r.1 (some (qI r.2)) := by
  refine z_meth (by decide) (Nat.le_of_ble_eq_true rfl) ?_
  intro p e s m args below meth c H ls C hr hlocks hnm Hh hl
  have C : zC p m c cX4_readCopies 4 s args RX4 g := C
  have hnm : meth.name = "readCopies" := hnm
  have hx := C.1.1
  have hb := C.1.2.1
  have hl : lv_has ls 4 [(0, qR g l0)] := hl
  unfold M_X4_readCopies at hm
  replace hm := (tk_inv hm).2
  generalize h0 = h at Hh hm
  have K105 : ∀ (h : Hp) (l0 l1 l3 : Int) (H : Heap) (locs : List Loc) (ls : Array Slot), zH g s h H locs → lv_has ls 4 [(0, qR g l0), (1, qI l1), (3, qI l3)] → M_X4_readCopies_p105 h l0 l1 l3 = some r → W p l e { frames := 9, cells := 0, slots := 0, locals := 233 } s m args below meth c H locs 0 0 (zQ below g r.1 (some (qI r.2)) args s 0 0) (F0 m 105 ls []) := by
    intro h l0 l1 l3  H locs ls Hh hl hm
    unfold M_X4_readCopies_p105 at hm
    refine lv_aload_n hx hb dX4_readCopies_105 rfl (lv_at hl 0 rfl) ?_
    refine lv_iload_n hx hb dX4_readCopies_106 rfl (lv_at hl 2 rfl) ?_
    refine lv_aload_n hx hb dX4_readCopies_107 rfl (lv_at hl 0 rfl) ?_
    refine z_getR C fl_4_47 Hh dX4_readCopies_108 rfl hm (fun x1 hm => ?_)
    refine z_getR C fl_4_83 Hh dX4_readCopies_111 rfl hm (fun x2 hm => ?_)
    refine z_getR C fl_4_184 Hh dX4_readCopies_114 rfl hm (fun x3 hm => ?_)
    refine z_iconst C dX4_readCopies_117 ?_
    refine lv_iload_n hx hb dX4_readCopies_118 rfl (lv_at hl 1 rfl) ?_
    refine z_imul C dX4_readCopies_119 ?_
    refine z_cVI (vs := [qI l3, qR g x3, qI (4 * l1)]) C (fun q hq => ct_X4_readError l g h l0 l3 x3 (4 * l1) q hq) tw_726 my_X4_readError (fun q hq => tg_X4_readError hq) rfl hl.1 Hh ⟨Nat.le_of_ble_eq_true rfl, Nat.le_of_ble_eq_true rfl, Nat.le_of_ble_eq_true rfl, Nat.le_of_ble_eq_true rfl⟩ (Nat.le_of_ble_eq_true rfl) dX4_readCopies_120 rfl hm (fun h x4 H locs Hh hm => ?_)
    obtain ⟨hz, hm⟩ := zb1_inv hm
    exact z_zretC C hr hlocks Hh dX4_readCopies_123 hz hm
  refine lv_aload_n hx hb dX4_readCopies_0 rfl (lv_at hl 0 rfl) ?_
  refine z_cVI (vs := []) C (fun q hq => ct_X4_townHere l g h l0 q hq) tw_692 my_X4_townHere (fun q hq => tg_X4_townHere hq) rfl hl.1 Hh ⟨Nat.le_of_ble_eq_true rfl, Nat.le_of_ble_eq_true rfl, Nat.le_of_ble_eq_true rfl, Nat.le_of_ble_eq_true rfl⟩ (Nat.le_of_ble_eq_true rfl) dX4_readCopies_1 rfl hm (fun h x6 H locs Hh hm => ?_)
  refine lv_istore_n (lv' := [(1, qI x6), (0, qR g l0)]) hx hb dX4_readCopies_4 rfl hl (by decide) rfl (fun ls hl => ?_)
  refine lv_iload_n hx hb dX4_readCopies_5 rfl (lv_at hl 0 rfl) ?_
  refine z_iconst C dX4_readCopies_6 ?_
  refine z_icmp_ne (tgt := 12) C dX4_readCopies_7 (by decide) rfl lq_m1 hm (fun _ hm => ?_) (fun _ hm => ?_)
  · refine lv_aload_n hx hb dX4_readCopies_12 rfl (lv_at hl 1 rfl) ?_
    refine z_getR C fl_4_47 Hh dX4_readCopies_13 rfl hm (fun x7 hm => ?_)
    refine z_getR C fl_4_83 Hh dX4_readCopies_16 rfl hm (fun x8 hm => ?_)
    refine z_getR C fl_4_175 Hh dX4_readCopies_19 rfl hm (fun x9 hm => ?_)
    refine lv_iload_n hx hb dX4_readCopies_22 rfl (lv_at hl 0 rfl) ?_
    refine z_iald C Hh dX4_readCopies_23 hm (fun x10 hm => ?_)
    refine z_if_lt (tgt := 33) C dX4_readCopies_24 (by decide) rfl hm (fun _ hm => ?_) (fun _ hm => ?_)
    · refine lv_aload_n hx hb dX4_readCopies_33 rfl (lv_at hl 1 rfl) ?_
      refine z_cVv (vs := []) C (fun q hq => ct_X4_take l g h l0 q hq) tw_573 my_X4_take (fun q hq => tg_X4_take hq) rfl hl.1 Hh ⟨Nat.le_of_ble_eq_true rfl, Nat.le_of_ble_eq_true rfl, Nat.le_of_ble_eq_true rfl, Nat.le_of_ble_eq_true rfl⟩ (Nat.le_of_ble_eq_true rfl) dX4_readCopies_34 rfl hm (fun h H locs Hh hm => ?_)
      refine lv_aload_n hx hb dX4_readCopies_37 rfl (lv_at hl 1 rfl) ?_
      refine z_cVI (vs := []) C (fun q hq => ct_X4_townHere l g h l0 q hq) tw_692 my_X4_townHere (fun q hq => tg_X4_townHere hq) rfl hl.1 Hh ⟨Nat.le_of_ble_eq_true rfl, Nat.le_of_ble_eq_true rfl, Nat.le_of_ble_eq_true rfl, Nat.le_of_ble_eq_true rfl⟩ (Nat.le_of_ble_eq_true rfl) dX4_readCopies_38 rfl hm (fun h x11 H locs Hh hm => ?_)
      refine lv_istore_n (lv' := [(2, qI x11), (1, qI x6), (0, qR g l0)]) hx hb dX4_readCopies_41 rfl hl (by decide) rfl (fun ls hl => ?_)
      refine lv_iload_n hx hb dX4_readCopies_42 rfl (lv_at hl 0 rfl) ?_
      refine z_iconst C dX4_readCopies_43 ?_
      refine z_icmp_ne (tgt := 49) C dX4_readCopies_44 (by decide) rfl lq_m1 hm (fun _ hm => ?_) (fun _ hm => ?_)
      · refine lv_aload_n hx hb dX4_readCopies_49 rfl (lv_at hl 2 rfl) ?_
        refine z_cVv (vs := []) C (fun q hq => ct_X4_take l g h l0 q hq) tw_573 my_X4_take (fun q hq => tg_X4_take hq) rfl hl.1 Hh ⟨Nat.le_of_ble_eq_true rfl, Nat.le_of_ble_eq_true rfl, Nat.le_of_ble_eq_true rfl, Nat.le_of_ble_eq_true rfl⟩ (Nat.le_of_ble_eq_true rfl) dX4_readCopies_50 rfl hm (fun h H locs Hh hm => ?_)
        refine lv_aload_n hx hb dX4_readCopies_53 rfl (lv_at hl 2 rfl) ?_
        refine z_ldcS (i := 8) (tx := "by") C dX4_readCopies_54 (by decide) ?_
        refine z_cVI (vs := [qS g 8]) C (fun q hq => ct_X4_wordDue l g h l0 8 q hq) tw_657 my_X4_wordDue (fun q hq => tg_X4_wordDue hq) rfl hl.1 Hh ⟨Nat.le_of_ble_eq_true rfl, Nat.le_of_ble_eq_true rfl, Nat.le_of_ble_eq_true rfl, Nat.le_of_ble_eq_true rfl⟩ (Nat.le_of_ble_eq_true rfl) dX4_readCopies_56 rfl hm (fun h x12 H locs Hh hm => ?_)
        refine z_if_ne (tgt := 64) C dX4_readCopies_59 (by decide) rfl hm (fun _ hm => ?_) (fun _ hm => ?_)
        · refine lv_aload_n hx hb dX4_readCopies_64 rfl (lv_at hl 2 rfl) ?_
          refine z_getR C fl_4_47 Hh dX4_readCopies_65 rfl hm (fun x13 hm => ?_)
          refine z_getR C fl_4_83 Hh dX4_readCopies_68 rfl hm (fun x14 hm => ?_)
          refine z_getR C fl_4_175 Hh dX4_readCopies_71 rfl hm (fun x15 hm => ?_)
          refine lv_iload_n hx hb dX4_readCopies_74 rfl (lv_at hl 1 rfl) ?_
          refine lv_iload_n hx hb dX4_readCopies_75 rfl (lv_at hl 0 rfl) ?_
          refine z_iast C Hh dX4_readCopies_76 hm (fun h H locs Hh hm => ?_)
          refine lv_aload_n hx hb dX4_readCopies_77 rfl (lv_at hl 2 rfl) ?_
          refine z_cVIr (vs := []) C (fun q hq => ct_X4_errorSort l g h l0 q hq) tw_696 my_X4_errorSort (fun q hq => tg_X4_errorSort hq) rfl hl.1 Hh ⟨Nat.le_of_ble_eq_true rfl, Nat.le_of_ble_eq_true rfl, Nat.le_of_ble_eq_true rfl, Nat.le_of_ble_eq_true rfl⟩ (Nat.le_of_ble_eq_true rfl) dX4_readCopies_78 rfl hm (fun x16 H locs Hh hm => ?_)
          refine lv_istore_n (lv' := [(3, qI x16), (2, qI x11), (1, qI x6), (0, qR g l0)]) hx hb dX4_readCopies_81 rfl hl (by decide) rfl (fun ls hl => ?_)
          refine lv_iload_n hx hb dX4_readCopies_82 rfl (lv_at hl 0 rfl) ?_
          refine z_bipush C dX4_readCopies_83 rfl ?_
          refine z_icmp_ne (tgt := 105) C dX4_readCopies_85 (by decide) rfl lq_p10 hm (fun _ hm => ?_) (fun _ hm => ?_)
          · exact K105 h l0 x6 x16 _ _ _ Hh (lv_sub hl [3, 2, 0] rfl) hm
          · refine lv_aload_n hx hb dX4_readCopies_88 rfl (lv_at hl 3 rfl) ?_
            refine z_getR C fl_4_47 Hh dX4_readCopies_89 rfl hm (fun x17 hm => ?_)
            refine z_cVIr (vs := []) C (fun q hq => ct_X5_unknownCount l g h x17 q hq) tw_714 my_X5_unknownCount (fun q hq => tg_X5_unknownCount hq) rfl hl.1 Hh ⟨Nat.le_of_ble_eq_true rfl, Nat.le_of_ble_eq_true rfl, Nat.le_of_ble_eq_true rfl, Nat.le_of_ble_eq_true rfl⟩ (Nat.le_of_ble_eq_true rfl) dX4_readCopies_92 rfl hm (fun x18 H locs Hh hm => ?_)
            refine z_iconst C dX4_readCopies_95 ?_
            refine z_icmp_lt (tgt := 105) C dX4_readCopies_96 (by decide) rfl lq_p4 hm (fun _ hm => ?_) (fun _ hm => ?_)
            · exact K105 h l0 x6 x16 _ _ _ Hh (lv_sub hl [3, 2, 0] rfl) hm
            · refine lv_aload_n hx hb dX4_readCopies_99 rfl (lv_at hl 3 rfl) ?_
              refine z_iconst C dX4_readCopies_100 ?_
              refine z_cVI (vs := [qI 5]) C (fun q hq => ct_X4_fail l g h l0 5 q hq) tw_644 my_X4_fail (fun q hq => tg_X4_fail hq) rfl hl.1 Hh ⟨Nat.le_of_ble_eq_true rfl, Nat.le_of_ble_eq_true rfl, Nat.le_of_ble_eq_true rfl, Nat.le_of_ble_eq_true rfl⟩ (Nat.le_of_ble_eq_true rfl) dX4_readCopies_101 rfl hm (fun h x19 H locs Hh hm => ?_)
              obtain ⟨hz, hm⟩ := zb1_inv hm
              exact z_zretC C hr hlocks Hh dX4_readCopies_104 hz hm
        · refine z_iconst C dX4_readCopies_62 ?_
          exact z_zretC C hr hlocks Hh dX4_readCopies_63 (by decide) hm
      · refine z_iconst C dX4_readCopies_47 ?_
        exact z_zretC C hr hlocks Hh dX4_readCopies_48 (by decide) hm
    · refine lv_aload_n hx hb dX4_readCopies_27 rfl (lv_at hl 1 rfl) ?_
      refine z_iconst C dX4_readCopies_28 ?_
      refine z_cVI (vs := [qI 3]) C (fun q hq => ct_X4_fail l g h l0 3 q hq) tw_644 my_X4_fail (fun q hq => tg_X4_fail hq) rfl hl.1 Hh ⟨Nat.le_of_ble_eq_true rfl, Nat.le_of_ble_eq_true rfl, Nat.le_of_ble_eq_true rfl, Nat.le_of_ble_eq_true rfl⟩ (Nat.le_of_ble_eq_true rfl) dX4_readCopies_29 rfl hm (fun h x21 H locs Hh hm => ?_)
      obtain ⟨hz, hm⟩ := zb1_inv hm
      exact z_zretC C hr hlocks Hh dX4_readCopies_32 hz hm
  · refine z_iconst C dX4_readCopies_10 ?_
    exact z_zretC C hr hlocks Hh dX4_readCopies_11 (by decide) hm
