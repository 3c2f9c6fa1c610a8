theorem tg_X7_having {h : Hp} {l0 l1 l2 : Int} {r : Hp × Int} (hm : M_X7_having h l0 l1 l2 = some r) : hT h l0 = 17 := (tk_inv hm).1
set_option maxRecDepth 100000 in
set_option maxHeartbeats 4000000 in
theorem ct_X7_having (l : Launch) (g : zGeo) (h0 : Hp) (l0 l1 l2 : Int) (r : Hp × Int) (hm : M_X7_having h0 l0 l1 l2 = some r) : zM l yX7_having cX7_having 5 (some .long) 4 108 0 0 g h0 [qR g l0, qI l1, qI l2] r.1 (some (qJ r.2)) := by
  refine z_meth (by decide) (Nat.le_of_ble_eq_true rfl) ?_
  intro p e s m args below meth c H ls C hr hlocks hnm Hh hl
  have C : zC p m c cX7_having 5 s args RX7 g := C
  have hnm : meth.name = "having" := hnm
  have hx := C.1.1
  have hb := C.1.2.1
  have hl : lv_has ls 5 [(0, qR g l0), (1, qI l1), (2, qI l2)] := hl
  unfold M_X7_having at hm
  replace hm := (tk_inv hm).2
  generalize h0 = h at Hh hm
  have K52 : ∀ (h : Hp) (l0 l1 l2 : Int) (H : Heap) (locs : List Loc) (ls : Array Slot), zH g s h H locs → lv_has ls 5 [(0, qR g l0), (1, qI l1), (2, qI l2)] → M_X7_having_p52 h l0 l1 l2 = some r → W p l e { frames := 4, cells := 0, slots := 0, locals := 108 } s m args below meth c H locs 0 0 (zQ below g r.1 (some (qJ r.2)) args s 0 0) (F0 m 52 ls []) := by
    intro h l0 l1 l2  H locs ls Hh hl hm
    unfold M_X7_having_p52 at hm
    refine lv_aload_n hx hb dX7_having_52 rfl (lv_at hl 0 rfl) ?_
    refine lv_iload_n hx hb dX7_having_53 rfl (lv_at hl 1 rfl) ?_
    refine lv_iload_n hx hb dX7_having_54 rfl (lv_at hl 2 rfl) ?_
    refine z_cVJr (vs := [qI l1, qI l2]) C (fun q hq => ct_X7_with l g h l0 l1 l2 q hq) tw_1071 my_X7_with (fun q hq => tg_X7_with hq) rfl hl.1 Hh ⟨Nat.le_of_ble_eq_true rfl, Nat.le_of_ble_eq_true rfl, Nat.le_of_ble_eq_true rfl, Nat.le_of_ble_eq_true rfl⟩ (Nat.le_of_ble_eq_true rfl) dX7_having_55 rfl hm (fun x1 H locs Hh hm => ?_)
    exact z_lret C hr hlocks Hh dX7_having_58 hm
  have KL10 : ∀ (n : Nat) (h : Hp) (l0 l1 l2 l3 : Int) (H : Heap) (locs : List Loc) (ls : Array Slot), zH g s h H locs → lv_has ls 5 [(0, qR g l0), (1, qI l1), (2, qI l2), (3, qI l3)] → M_X7_having_w10 n h l0 l1 l2 l3 = some r → W p l e { frames := 4, cells := 0, slots := 0, locals := 108 } s m args below meth c H locs 0 0 (zQ below g r.1 (some (qJ r.2)) args s 0 0) (F0 m 10 ls []) := by
    intro n
    induction n with
    | zero => intro h l0 l1 l2 l3 H locs ls Hh hl hm; cases hm
    | succ n ih10 =>
      intro h l0 l1 l2 l3 H locs ls Hh hl hm
      obtain ⟨z10, hm, hc10⟩ := wh_inv hm
      have hm : M_X7_having_b10 h l0 l1 l2 l3 = some z10 := hm
      unfold M_X7_having_b10 at hm
      refine lv_iload_n hx hb dX7_having_10 rfl (lv_at hl 3 rfl) ?_
      refine lv_aload_n hx hb dX7_having_11 rfl (lv_at hl 0 rfl) ?_
      refine z_getR C fl_7_21 Hh dX7_having_12 rfl hm (fun x2 hm => ?_)
      refine z_getI C fl_7_48 Hh dX7_having_15 rfl hm (fun x3 hm => ?_)
      refine z_icmp_gt (tgt := 52) C dX7_having_18 (by decide) rfl rfl hm (fun _ hm => ?_) (fun _ hm => ?_)
      · cases hm
        exact K52 h l0 l1 l2 _ _ _ Hh (lv_sub hl [0, 1, 2] rfl) hc10
      · refine lv_aload_n hx hb dX7_having_21 rfl (lv_at hl 0 rfl) ?_
        refine lv_iload_n hx hb dX7_having_22 rfl (lv_at hl 3 rfl) ?_
        refine z_cVv (vs := [qI l3]) C (fun q hq => ct_X7_build l g h l0 l3 q hq) tw_1063 my_X7_build (fun q hq => tg_X7_build hq) rfl hl.1 Hh ⟨Nat.le_of_ble_eq_true rfl, Nat.le_of_ble_eq_true rfl, Nat.le_of_ble_eq_true rfl, Nat.le_of_ble_eq_true rfl⟩ (Nat.le_of_ble_eq_true rfl) dX7_having_23 rfl hm (fun h H locs Hh hm => ?_)
        refine lv_aload_n hx hb dX7_having_26 rfl (lv_at hl 0 rfl) ?_
        refine z_getR C fl_7_15 Hh dX7_having_27 rfl hm (fun x4 hm => ?_)
        refine lv_astore (lv' := [(4, qR g x4), (0, qR g l0), (1, qI l1), (2, qI l2), (3, qI l3)]) hx hb dX7_having_30 hl (by decide) rfl (fun ls hl => ?_)
        refine lv_aload_n hx hb dX7_having_32 rfl (lv_at hl 1 rfl) ?_
        refine lv_aload_n hx hb dX7_having_33 rfl (lv_at hl 1 rfl) ?_
        refine z_getR C fl_7_11 Hh dX7_having_34 rfl hm (fun x5 hm => ?_)
        refine z_putRc C hnm pl_7_15 (fun _ => ⟨rfl, rfl⟩) Hh dX7_having_37 rfl hm (fun h H locs Hh hm => ?_)
        refine lv_aload_n hx hb dX7_having_40 rfl (lv_at hl 1 rfl) ?_
        refine lv_aload hx hb dX7_having_41 (lv_at hl 0 rfl) ?_
        refine z_putRc C hnm pl_7_11 (fun _ => ⟨rfl, rfl⟩) Hh dX7_having_43 rfl hm (fun h H locs Hh hm => ?_)
        refine z_iinc (x := l3) (k := 4) (lv' := [(3, qI (l3 + 1)), (4, qR g x4), (0, qR g l0), (1, qI l1), (2, qI l2)]) C dX7_having_46 hl rfl (by decide) rfl (fun ls hl => ?_)
        refine lv_goto (tgt := 10) hx hb dX7_having_49 (by decide) ?_
        cases hm
        exact ih10 h l0 l1 l2 (l3 + 1) _ _ _ Hh (lv_sub hl [2, 3, 4, 0] rfl) hc10
  refine lv_aload_n hx hb dX7_having_0 rfl (lv_at hl 0 rfl) ?_
  refine z_getR C fl_7_21 Hh dX7_having_1 rfl hm (fun x6 hm => ?_)
  refine z_getI C fl_7_31 Hh dX7_having_4 rfl hm (fun x7 hm => ?_)
  refine z_iconst C dX7_having_7 ?_
  refine z_iadd C dX7_having_8 ?_
  refine lv_istore_n (lv' := [(3, qI (x7 + 1)), (0, qR g l0), (1, qI l1), (2, qI l2)]) hx hb dX7_having_9 rfl hl (by decide) rfl (fun ls hl => ?_)
  exact KL10 FU h l0 l1 l2 (x7 + 1) _ _ _ Hh (lv_sub hl [1, 2, 3, 0] rfl) hm
theorem tg_X6_takeFirst {h : Hp} {l0 l1 l3 : Int} {r : Hp × Int} (hm : M_X6_takeFirst h l0 l1 l3 = some r) : hT h l0 = 16 := (tk_inv hm).1
set_option maxRecDepth 100000 in
set_option maxHeartbeats 4000000 in
theorem ct_X6_takeFirst (l : Launch) (g : zGeo) (h0 : Hp) (l0 l1 l3 : Int) (r : Hp × Int) (hm : M_X6_takeFirst h0 l0 l1 l3 = some r) : zM l yX6_takeFirst cX6_takeFirst 5 (some .boolean) 1 60 0 0 g h0 [qR g l0, qJ l1, qI l3] r.1 (some (qI r.2)) := by
  refine z_meth (by decide) (Nat.le_of_ble_eq_true rfl) ?_
  intro p e s m args below meth c H ls C hr hlocks hnm Hh hl
  have C : zC p m c cX6_takeFirst 5 s args RX6 g := C
  have hnm : meth.name = "takeFirst" := hnm
  have hx := C.1.1
  have hb := C.1.2.1
  have hl : lv_has ls 5 [(0, qR g l0), (1, qJ l1), (3, qI l3)] := hl
  unfold M_X6_takeFirst at hm
  replace hm := (tk_inv hm).2
  generalize h0 = h at Hh hm
  have K46 : ∀ (h : Hp) (H : Heap) (locs : List Loc) (ls : Array Slot), zH g s h H locs → lv_has ls 5 [] → M_X6_takeFirst_p46 h = some r → W p l e { frames := 1, cells := 0, slots := 0, locals := 60 } s m args below meth c H locs 0 0 (zQ below g r.1 (some (qI r.2)) args s 0 0) (F0 m 46 ls []) := by
    intro h  H locs ls Hh hl hm
    unfold M_X6_takeFirst_p46 at hm
    refine z_iconst C dX6_takeFirst_46 ?_
    exact z_zretC C hr hlocks Hh dX6_takeFirst_47 (by decide) hm
  have KL3 : ∀ (n : Nat) (h : Hp) (l0 l1 l3 l4 : Int) (H : Heap) (locs : List Loc) (ls : Array Slot), zH g s h H locs → lv_has ls 5 [(0, qR g l0), (1, qJ l1), (3, qI l3), (4, qI l4)] → M_X6_takeFirst_w3 n h l0 l1 l3 l4 = some r → W p l e { frames := 1, cells := 0, slots := 0, locals := 60 } s m args below meth c H locs 0 0 (zQ below g r.1 (some (qI r.2)) args s 0 0) (F0 m 3 ls []) := by
    intro n
    induction n with
    | zero => intro h l0 l1 l3 l4 H locs ls Hh hl hm; cases hm
    | succ n ih3 =>
      intro h l0 l1 l3 l4 H locs ls Hh hl hm
      obtain ⟨z3, hm, hc3⟩ := wh_inv hm
      have hm : M_X6_takeFirst_b3 h l0 l1 l3 l4 = some z3 := hm
      unfold M_X6_takeFirst_b3 at hm
      refine lv_iload hx hb dX6_takeFirst_3 (lv_at hl 3 rfl) ?_
      refine z_bipush C dX6_takeFirst_5 rfl ?_
      refine z_icmp_ge (tgt := 46) C dX6_takeFirst_7 (by decide) rfl lq_p64 hm (fun _ hm => ?_) (fun _ hm => ?_)
      · cases hm
        exact K46 h _ _ _ Hh (lv_sub hl [] rfl) hc3
      · refine lv_lload_n hx hb dX6_takeFirst_10 rfl (lv_at hl 1 rfl) ?_
        refine lv_iload hx hb dX6_takeFirst_11 (lv_at hl 3 rfl) ?_
        refine z_lushr C dX6_takeFirst_13 ?_
        refine z_lconst (v := 1) C dX6_takeFirst_14 rfl ?_
        refine z_land C dX6_takeFirst_15 ?_
        refine z_lconst (v := 0) C dX6_takeFirst_16 rfl ?_
        refine z_lcmp C dX6_takeFirst_17 ?_
        refine z_if_eq (tgt := 40) C dX6_takeFirst_18 (by decide) rfl hm (fun _ hm => ?_) (fun _ hm => ?_)
        · refine z_iinc (x := l4) (k := 3) (lv' := [(4, qI (l4 + 1)), (0, qR g l0), (1, qJ l1), (3, qI l3)]) C dX6_takeFirst_40 hl rfl (by decide) rfl (fun ls hl => ?_)
          refine lv_goto (tgt := 3) hx hb dX6_takeFirst_43 (by decide) ?_
          cases hm
          exact ih3 h l0 l1 l3 (l4 + 1) _ _ _ Hh (lv_sub hl [1, 2, 3, 0] rfl) hc3
        · refine lv_aload_n hx hb dX6_takeFirst_21 rfl (lv_at hl 0 rfl) ?_
          refine z_getR C fl_6_25 Hh dX6_takeFirst_22 rfl hm (fun x1 hm => ?_)
          refine z_iconst C dX6_takeFirst_25 ?_
          refine lv_iload hx hb dX6_takeFirst_26 (lv_at hl 3 rfl) ?_
          refine z_imul C dX6_takeFirst_28 ?_
          refine lv_aload_n hx hb dX6_takeFirst_29 rfl (lv_at hl 0 rfl) ?_
          refine z_getR C fl_6_19 Hh dX6_takeFirst_30 rfl hm (fun x2 hm => ?_)
          refine z_iconst C dX6_takeFirst_33 ?_
          refine lv_iload_n hx hb dX6_takeFirst_34 rfl (lv_at hl 2 rfl) ?_
          refine z_cpy (t := 1) C cp_6_88 (by decide) hl.1 Hh dX6_takeFirst_35 (Nat.le_of_ble_eq_true rfl) (Nat.le_of_ble_eq_true rfl) hm (fun h H locs Hh hm => ?_)
          refine z_iconst C dX6_takeFirst_38 ?_
          cases hm
          have hm := hc3
          exact z_zretC C hr hlocks Hh dX6_takeFirst_39 (by decide) hm
  refine z_iconst C dX6_takeFirst_0 ?_
  refine lv_istore (lv' := [(4, qI 0), (0, qR g l0), (1, qJ l1), (3, qI l3)]) hx hb dX6_takeFirst_1 hl (by decide) rfl (fun ls hl => ?_)
  exact KL3 FU h l0 l1 l3 0 _ _ _ Hh (lv_sub hl [1, 2, 3, 0] rfl) hm
theorem tg_X6_find {h : Hp} {l0 l1 l2 l3 l4 : Int} {r : Hp × Int} (hm : M_X6_find h l0 l1 l2 l3 l4 = some r) : hT h l0 = 16 := (tk_inv hm).1
set_option maxRecDepth 100000 in
set_option maxHeartbeats 4000000 in
theorem ct_X6_find (l : Launch) (g : zGeo) (h0 : Hp) (l0 l1 l2 l3 l4 : Int) (r : Hp × Int) (hm : M_X6_find h0 l0 l1 l2 l3 l4 = some r) : zM l yX6_find cX6_find 8 (some .boolean) 5 132 0 0 g h0 [qR g l0, qI l1, qI l2, qI l3, qI l4] r.1 (some (qI r.2)) := by
  refine z_meth (by decide) (Nat.le_of_ble_eq_true rfl) ?_
  intro p e s m args below meth c H ls C hr hlocks hnm Hh hl
  have C : zC p m c cX6_find 8 s args RX6 g := C
  have hnm : meth.name = "find" := hnm
  have hx := C.1.1
  have hb := C.1.2.1
  have hl : lv_has ls 8 [(0, qR g l0), (1, qI l1), (2, qI l2), (3, qI l3), (4, qI l4)] := hl
  unfold M_X6_find at hm
  replace hm := (tk_inv hm).2
  generalize h0 = h at Hh hm
  have K112 : ∀ (h : Hp) (H : Heap) (locs : List Loc) (ls : Array Slot), zH g s h H locs → lv_has ls 8 [] → M_X6_find_p112 h = some r → W p l e { frames := 5, cells := 0, slots := 0, locals := 132 } s m args below meth c H locs 0 0 (zQ below g r.1 (some (qI r.2)) args s 0 0) (F0 m 112 ls []) := by
    intro h  H locs ls Hh hl hm
    unfold M_X6_find_p112 at hm
    refine z_iconst C dX6_find_112 ?_
    exact z_zretC C hr hlocks Hh dX6_find_113 (by decide) hm
  have KL30 : ∀ (n : Nat) (h : Hp) (l0 l1 l2 l3 l4 l5 l6 : Int) (H : Heap) (locs : List Loc) (ls : Array Slot), zH g s h H locs → lv_has ls 8 [(0, qR g l0), (1, qI l1), (2, qI l2), (3, qI l3), (4, qI l4), (5, qI l5), (6, qI l6)] → M_X6_find_w30 n h l0 l1 l2 l3 l4 l5 l6 = some r → W p l e { frames := 5, cells := 0, slots := 0, locals := 132 } s m args below meth c H locs 0 0 (zQ below g r.1 (some (qI r.2)) args s 0 0) (F0 m 30 ls []) := by
    intro n
    induction n with
    | zero => intro h l0 l1 l2 l3 l4 l5 l6 H locs ls Hh hl hm; cases hm
    | succ n ih30 =>
      intro h l0 l1 l2 l3 l4 l5 l6 H locs ls Hh hl hm
      obtain ⟨z30, hm, hc30⟩ := wh_inv hm
      have hm : M_X6_find_b30 h l0 l1 l2 l3 l4 l5 l6 = some z30 := hm
      have K86 : ∀ (h : Hp) (l5 l6 : Int) (H : Heap) (locs : List Loc) (ls : Array Slot), zH g s h H locs → lv_has ls 8 [(0, qR g l0), (1, qI l1), (2, qI l2), (3, qI l3), (4, qI l4), (5, qI l5), (6, qI l6)] → M_X6_find_p86 h l0 l1 l2 l3 l4 l5 l6 = some z30 → W p l e { frames := 5, cells := 0, slots := 0, locals := 132 } s m args below meth c H locs 0 0 (zQ below g r.1 (some (qI r.2)) args s 0 0) (F0 m 86 ls []) := by
        intro h l5 l6  H locs ls Hh hl hm
        unfold M_X6_find_p86 at hm
        refine lv_aload_n hx hb dX6_find_86 rfl (lv_at hl 0 rfl) ?_
        refine lv_aload_n hx hb dX6_find_87 rfl (lv_at hl 0 rfl) ?_
        refine z_getR C fl_6_37 Hh dX6_find_88 rfl hm (fun x1 hm => ?_)
        refine lv_iload_n hx hb dX6_find_91 rfl (lv_at hl 3 rfl) ?_
        refine lv_iload hx hb dX6_find_92 (lv_at hl 4 rfl) ?_
        refine z_cVJ (vs := [qI l3, qI l4]) C (fun q hq => ct_X7_having l g h x1 l3 l4 q hq) tw_1059 my_X7_having (fun q hq => tg_X7_having hq) rfl hl.1 Hh ⟨Nat.le_of_ble_eq_true rfl, Nat.le_of_ble_eq_true rfl, Nat.le_of_ble_eq_true rfl, Nat.le_of_ble_eq_true rfl⟩ (Nat.le_of_ble_eq_true rfl) dX6_find_94 rfl hm (fun h x2 H locs Hh hm => ?_)
        refine lv_iload_n hx hb dX6_find_97 rfl (lv_at hl 1 rfl) ?_
        refine z_cVI (vs := [qJ x2, qI l1]) C (fun q hq => ct_X6_takeFirst l g h l0 x2 l1 q hq) tw_1082 my_X6_takeFirst (fun q hq => tg_X6_takeFirst hq) rfl hl.1 Hh ⟨Nat.le_of_ble_eq_true rfl, Nat.le_of_ble_eq_true rfl, Nat.le_of_ble_eq_true rfl, Nat.le_of_ble_eq_true rfl⟩ (Nat.le_of_ble_eq_true rfl) dX6_find_98 rfl hm (fun h x3 H locs Hh hm => ?_)
        refine z_if_eq (tgt := 106) C dX6_find_101 (by decide) rfl hm (fun _ hm => ?_) (fun _ hm => ?_)
        · refine z_iinc (x := l6) (k := 6) (lv' := [(6, qI (l6 + 1)), (0, qR g l0), (1, qI l1), (2, qI l2), (3, qI l3), (4, qI l4), (5, qI l5)]) C dX6_find_106 hl rfl (by decide) rfl (fun ls hl => ?_)
          refine lv_goto (tgt := 30) hx hb dX6_find_109 (by decide) ?_
          cases hm
          exact ih30 h l0 l1 l2 l3 l4 l5 (l6 + 1) _ _ _ Hh (lv_sub hl [1, 2, 3, 4, 5, 6, 0] rfl) hc30
        · refine z_iconst C dX6_find_104 ?_
          cases hm
          have hm := hc30
          exact z_zretC C hr hlocks Hh dX6_find_105 (by decide) hm
      have KL53 : ∀ (n : Nat) (h : Hp) (l5 l6 l7 : Int) (H : Heap) (locs : List Loc) (ls : Array Slot), zH g s h H locs → lv_has ls 8 [(0, qR g l0), (1, qI l1), (2, qI l2), (3, qI l3), (4, qI l4), (5, qI l5), (6, qI l6), (7, qI l7)] → M_X6_find_w53 n h l0 l1 l2 l3 l4 l5 l6 l7 = some z30 → W p l e { frames := 5, cells := 0, slots := 0, locals := 132 } s m args below meth c H locs 0 0 (zQ below g r.1 (some (qI r.2)) args s 0 0) (F0 m 53 ls []) := by
        intro n
        induction n with
        | zero => intro h l5 l6 l7 H locs ls Hh hl hm; cases hm
        | succ n ih53 =>
          intro h l5 l6 l7 H locs ls Hh hl hm
          obtain ⟨z53, hm, hc53⟩ := wh_inv hm
          have hm : M_X6_find_b53 h l0 l1 l2 l3 l4 l6 l5 l7 = some z53 := hm
          unfold M_X6_find_b53 at hm
          refine lv_iload hx hb dX6_find_53 (lv_at hl 7 rfl) ?_
          refine z_bipush C dX6_find_55 rfl ?_
          refine z_icmp_ge (tgt := 86) C dX6_find_57 (by decide) rfl lq_p64 hm (fun _ hm => ?_) (fun _ hm => ?_)
          · cases hm
            exact K86 h l5 l6 _ _ _ Hh (lv_sub hl [0, 1, 2, 3, 4, 5, 6] rfl) hc53
          · refine lv_iload hx hb dX6_find_60 (lv_at hl 5 rfl) ?_
            refine z_if_eq (tgt := 86) C dX6_find_62 (by decide) rfl hm (fun _ hm => ?_) (fun _ hm => ?_)
            · cases hm
              exact K86 h l5 l6 _ _ _ Hh (lv_sub hl [0, 1, 2, 3, 4, 5, 6] rfl) hc53
            · refine lv_aload_n hx hb dX6_find_65 rfl (lv_at hl 0 rfl) ?_
              refine lv_iload hx hb dX6_find_66 (lv_at hl 7 rfl) ?_
              refine lv_iload_n hx hb dX6_find_68 rfl (lv_at hl 1 rfl) ?_
              refine lv_iload_n hx hb dX6_find_69 rfl (lv_at hl 2 rfl) ?_
              refine z_cVv (vs := [qI l7, qI l1, qI l2]) C (fun q hq => ct_X6_tryPick l g h l0 l7 l1 l2 q hq) tw_1047 my_X6_tryPick (fun q hq => tg_X6_tryPick hq) rfl hl.1 Hh ⟨Nat.le_of_ble_eq_true rfl, Nat.le_of_ble_eq_true rfl, Nat.le_of_ble_eq_true rfl, Nat.le_of_ble_eq_true rfl⟩ (Nat.le_of_ble_eq_true rfl) dX6_find_70 rfl hm (fun h H locs Hh hm => ?_)
              refine lv_aload_n hx hb dX6_find_73 rfl (lv_at hl 0 rfl) ?_
              refine lv_iload_n hx hb dX6_find_74 rfl (lv_at hl 1 rfl) ?_
              refine z_cVI (vs := [qI l1]) C (fun q hq => ct_X6_goToNextPick l g h l0 l1 q hq) tw_1055 my_X6_goToNextPick (fun q hq => tg_X6_goToNextPick hq) rfl hl.1 Hh ⟨Nat.le_of_ble_eq_true rfl, Nat.le_of_ble_eq_true rfl, Nat.le_of_ble_eq_true rfl, Nat.le_of_ble_eq_true rfl⟩ (Nat.le_of_ble_eq_true rfl) dX6_find_75 rfl hm (fun h x4 H locs Hh hm => ?_)
              refine lv_istore (lv' := [(5, qI x4), (0, qR g l0), (1, qI l1), (2, qI l2), (3, qI l3), (4, qI l4), (6, qI l6), (7, qI l7)]) hx hb dX6_find_78 hl (by decide) rfl (fun ls hl => ?_)
              refine z_iinc (x := l7) (k := 7) (lv' := [(7, qI (l7 + 1)), (5, qI x4), (0, qR g l0), (1, qI l1), (2, qI l2), (3, qI l3), (4, qI l4), (6, qI l6)]) C dX6_find_80 hl rfl (by decide) rfl (fun ls hl => ?_)
              refine lv_goto (tgt := 53) hx hb dX6_find_83 (by decide) ?_
              cases hm
              exact ih53 h x4 l6 (l7 + 1) _ _ _ Hh (lv_sub hl [2, 3, 4, 5, 6, 1, 7, 0] rfl) hc53
      unfold M_X6_find_b30 at hm
      refine lv_iload hx hb dX6_find_30 (lv_at hl 6 rfl) ?_
      refine z_sipush C dX6_find_32 rfl ?_
      refine z_icmp_ge (tgt := 112) C dX6_find_35 (by decide) rfl lq_p200 hm (fun _ hm => ?_) (fun _ hm => ?_)
      · cases hm
        exact K112 h _ _ _ Hh (lv_sub hl [] rfl) hc30
      · refine lv_iload hx hb dX6_find_38 (lv_at hl 5 rfl) ?_
        refine z_if_eq (tgt := 112) C dX6_find_40 (by decide) rfl hm (fun _ hm => ?_) (fun _ hm => ?_)
        · cases hm
          exact K112 h _ _ _ Hh (lv_sub hl [] rfl) hc30
        · refine lv_aload_n hx hb dX6_find_43 rfl (lv_at hl 0 rfl) ?_
          refine z_getR C fl_6_37 Hh dX6_find_44 rfl hm (fun x5 hm => ?_)
          refine z_cVv (vs := []) C (fun q hq => ct_X7_begin l g h x5 q hq) tw_1038 my_X7_begin (fun q hq => tg_X7_begin hq) rfl hl.1 Hh ⟨Nat.le_of_ble_eq_true rfl, Nat.le_of_ble_eq_true rfl, Nat.le_of_ble_eq_true rfl, Nat.le_of_ble_eq_true rfl⟩ (Nat.le_of_ble_eq_true rfl) dX6_find_47 rfl hm (fun h H locs Hh hm => ?_)
          refine z_iconst C dX6_find_50 ?_
          refine lv_istore (lv' := [(7, qI 0), (0, qR g l0), (1, qI l1), (2, qI l2), (3, qI l3), (4, qI l4), (5, qI l5), (6, qI l6)]) hx hb dX6_find_51 hl (by decide) rfl (fun ls hl => ?_)
          exact KL53 FU h l5 l6 0 _ _ _ Hh (lv_sub hl [1, 2, 3, 4, 5, 6, 7, 0] rfl) hm
  have K24 : ∀ (h : Hp) (l0 l1 l2 l3 l4 : Int) (H : Heap) (locs : List Loc) (ls : Array Slot), zH g s h H locs → lv_has ls 8 [(0, qR g l0), (1, qI l1), (2, qI l2), (3, qI l3), (4, qI l4)] → M_X6_find_p24 h l0 l1 l2 l3 l4 = some r → W p l e { frames := 5, cells := 0, slots := 0, locals := 132 } s m args below meth c H locs 0 0 (zQ below g r.1 (some (qI r.2)) args s 0 0) (F0 m 24 ls []) := by
    intro h l0 l1 l2 l3 l4  H locs ls Hh hl hm
    unfold M_X6_find_p24 at hm
    refine z_iconst C dX6_find_24 ?_
    refine lv_istore (lv' := [(5, qI 1), (0, qR g l0), (1, qI l1), (2, qI l2), (3, qI l3), (4, qI l4)]) hx hb dX6_find_25 hl (by decide) rfl (fun ls hl => ?_)
    refine z_iconst C dX6_find_27 ?_
    refine lv_istore (lv' := [(6, qI 0), (5, qI 1), (0, qR g l0), (1, qI l1), (2, qI l2), (3, qI l3), (4, qI l4)]) hx hb dX6_find_28 hl (by decide) rfl (fun ls hl => ?_)
    exact KL30 FU h l0 l1 l2 l3 l4 1 0 _ _ _ Hh (lv_sub hl [2, 3, 4, 5, 6, 1, 0] rfl) hm
  have KL3 : ∀ (n : Nat) (h : Hp) (l0 l1 l2 l3 l4 l5 : Int) (H : Heap) (locs : List Loc) (ls : Array Slot), zH g s h H locs → lv_has ls 8 [(0, qR g l0), (1, qI l1), (2, qI l2), (3, qI l3), (4, qI l4), (5, qI l5)] → M_X6_find_w3 n h l0 l1 l2 l3 l4 l5 = some r → W p l e { frames := 5, cells := 0, slots := 0, locals := 132 } s m args below meth c H locs 0 0 (zQ below g r.1 (some (qI r.2)) args s 0 0) (F0 m 3 ls []) := by
    intro n
    induction n with
    | zero => intro h l0 l1 l2 l3 l4 l5 H locs ls Hh hl hm; cases hm
    | succ n ih3 =>
      intro h l0 l1 l2 l3 l4 l5 H locs ls Hh hl hm
      obtain ⟨z3, hm, hc3⟩ := wh_inv hm
      have hm : M_X6_find_b3 h l0 l1 l2 l3 l4 l5 = some z3 := hm
      unfold M_X6_find_b3 at hm
      refine lv_iload hx hb dX6_find_3 (lv_at hl 5 rfl) ?_
      refine lv_iload_n hx hb dX6_find_5 rfl (lv_at hl 1 rfl) ?_
      refine z_icmp_ge (tgt := 24) C dX6_find_6 (by decide) rfl rfl hm (fun _ hm => ?_) (fun _ hm => ?_)
      · cases hm
        exact K24 h l0 l1 l2 l3 l4 _ _ _ Hh (lv_sub hl [0, 1, 2, 3, 4] rfl) hc3
      · refine lv_aload_n hx hb dX6_find_9 rfl (lv_at hl 0 rfl) ?_
        refine z_getR C fl_6_22 Hh dX6_find_10 rfl hm (fun x6 hm => ?_)
        refine lv_iload hx hb dX6_find_13 (lv_at hl 5 rfl) ?_
        refine lv_iload hx hb dX6_find_15 (lv_at hl 5 rfl) ?_
        refine z_iast C Hh dX6_find_17 hm (fun h H locs Hh hm => ?_)
        refine z_iinc (x := l5) (k := 5) (lv' := [(5, qI (l5 + 1)), (0, qR g l0), (1, qI l1), (2, qI l2), (3, qI l3), (4, qI l4)]) C dX6_find_18 hl rfl (by decide) rfl (fun ls hl => ?_)
        refine lv_goto (tgt := 3) hx hb dX6_find_21 (by decide) ?_
        cases hm
        exact ih3 h l0 l1 l2 l3 l4 (l5 + 1) _ _ _ Hh (lv_sub hl [1, 2, 3, 4, 5, 0] rfl) hc3
  refine z_iconst C dX6_find_0 ?_
  refine lv_istore (lv' := [(5, qI 0), (0, qR g l0), (1, qI l1), (2, qI l2), (3, qI l3), (4, qI l4)]) hx hb dX6_find_1 hl (by decide) rfl (fun ls hl => ?_)
  exact KL3 FU h l0 l1 l2 l3 l4 0 _ _ _ Hh (lv_sub hl [1, 2, 3, 4, 5, 0] rfl) hm
theorem tg_X6_fewest {h : Hp} {l0 l1 l2 l3 l4 l5 l6 l7 : Int} {r : Hp × Int} (hm : M_X6_fewest h l0 l1 l2 l3 l4 l5 l6 l7 = some r) : hT h l0 = 16 := (tk_inv hm).1
set_option maxRecDepth 100000 in
set_option maxHeartbeats 4000000 in
theorem ct_X6_fewest (l : Launch) (g : zGeo) (h0 : Hp) (l0 l1 l2 l3 l4 l5 l6 l7 : Int) (r : Hp × Int) (hm : M_X6_fewest h0 l0 l1 l2 l3 l4 l5 l6 l7 = some r) : zM l yX6_fewest cX6_fewest 9 (some .int) 6 159 0 0 g h0 [qR g l0, qR g l1, qI l2, qI l3, qI l4, qI l5, qI l6, qI l7] r.1 (some (qI r.2)) := by
  refine z_meth (by decide) (Nat.le_of_ble_eq_true rfl) ?_
  intro p e s m args below meth c H ls C hr hlocks hnm Hh hl
  have C : zC p m c cX6_fewest 9 s args RX6 g := C
  have hnm : meth.name = "fewest" := hnm
  have hx := C.1.1
  have hb := C.1.2.1
  have hl : lv_has ls 9 [(0, qR g l0), (1, qR g l1), (2, qI l2), (3, qI l3), (4, qI l4), (5, qI l5), (6, qI l6), (7, qI l7)] := hl
  unfold M_X6_fewest at hm
  replace hm := (tk_inv hm).2
  generalize h0 = h at Hh hm
  have K81 : ∀ (h : Hp) (H : Heap) (locs : List Loc) (ls : Array Slot), zH g s h H locs → lv_has ls 9 [] → M_X6_fewest_p81 h = some r → W p l e { frames := 6, cells := 0, slots := 0, locals := 159 } s m args below meth c H locs 0 0 (zQ below g r.1 (some (qI r.2)) args s 0 0) (F0 m 81 ls []) := by
    intro h  H locs ls Hh hl hm
    unfold M_X6_fewest_p81 at hm
    refine z_bipush C dX6_fewest_81 rfl ?_
    exact z_iret C hr hlocks Hh dX6_fewest_83 hm
  have KL43 : ∀ (n : Nat) (h : Hp) (l0 l3 l5 l6 l8 : Int) (H : Heap) (locs : List Loc) (ls : Array Slot), zH g s h H locs → lv_has ls 9 [(0, qR g l0), (3, qI l3), (5, qI l5), (6, qI l6), (8, qI l8)] → M_X6_fewest_w43 n h l0 l3 l5 l6 l8 = some r → W p l e { frames := 6, cells := 0, slots := 0, locals := 159 } s m args below meth c H locs 0 0 (zQ below g r.1 (some (qI r.2)) args s 0 0) (F0 m 43 ls []) := by
    intro n
    induction n with
    | zero => intro h l0 l3 l5 l6 l8 H locs ls Hh hl hm; cases hm
    | succ n ih43 =>
      intro h l0 l3 l5 l6 l8 H locs ls Hh hl hm
      obtain ⟨z43, hm, hc43⟩ := wh_inv hm
      have hm : M_X6_fewest_b43 h l0 l3 l5 l6 l8 = some z43 := hm
      unfold M_X6_fewest_b43 at hm
      refine lv_iload hx hb dX6_fewest_43 (lv_at hl 4 rfl) ?_
      refine z_iconst C dX6_fewest_45 ?_
      refine z_icmp_gt (tgt := 81) C dX6_fewest_46 (by decide) rfl lq_p3 hm (fun _ hm => ?_) (fun _ hm => ?_)
      · cases hm
        exact K81 h _ _ _ Hh (lv_sub hl [] rfl) hc43
      · refine lv_iload hx hb dX6_fewest_49 (lv_at hl 4 rfl) ?_
        refine lv_aload_n hx hb dX6_fewest_51 rfl (lv_at hl 0 rfl) ?_
        refine z_getI C fl_6_15 Hh dX6_fewest_52 rfl hm (fun x1 hm => ?_)
        refine z_icmp_gt (tgt := 81) C dX6_fewest_55 (by decide) rfl rfl hm (fun _ hm => ?_) (fun _ hm => ?_)
        · cases hm
          exact K81 h _ _ _ Hh (lv_sub hl [] rfl) hc43
        · refine lv_aload_n hx hb dX6_fewest_58 rfl (lv_at hl 0 rfl) ?_
          refine lv_iload hx hb dX6_fewest_59 (lv_at hl 4 rfl) ?_
          refine lv_iload_n hx hb dX6_fewest_61 rfl (lv_at hl 1 rfl) ?_
          refine lv_iload hx hb dX6_fewest_62 (lv_at hl 2 rfl) ?_
          refine lv_iload hx hb dX6_fewest_64 (lv_at hl 3 rfl) ?_
          refine z_cVI (vs := [qI l8, qI l3, qI l5, qI l6]) C (fun q hq => ct_X6_find l g h l0 l8 l3 l5 l6 q hq) tw_1034 my_X6_find (fun q hq => tg_X6_find hq) rfl hl.1 Hh ⟨Nat.le_of_ble_eq_true rfl, Nat.le_of_ble_eq_true rfl, Nat.le_of_ble_eq_true rfl, Nat.le_of_ble_eq_true rfl⟩ (Nat.le_of_ble_eq_true rfl) dX6_fewest_66 rfl hm (fun h x2 H locs Hh hm => ?_)
          refine z_if_eq (tgt := 75) C dX6_fewest_69 (by decide) rfl hm (fun _ hm => ?_) (fun _ hm => ?_)
          · refine z_iinc (x := l8) (k := 4) (lv' := [(8, qI (l8 + 1)), (0, qR g l0), (3, qI l3), (5, qI l5), (6, qI l6)]) C dX6_fewest_75 hl rfl (by decide) rfl (fun ls hl => ?_)
            refine lv_goto (tgt := 43) hx hb dX6_fewest_78 (by decide) ?_
            cases hm
            exact ih43 h l0 l3 l5 l6 (l8 + 1) _ _ _ Hh (lv_sub hl [1, 2, 3, 4, 0] rfl) hc43
          · refine lv_iload hx hb dX6_fewest_72 (lv_at hl 4 rfl) ?_
            cases hm
            have hm := hc43
            exact z_iret C hr hlocks Hh dX6_fewest_74 hm
  refine lv_aload_n hx hb dX6_fewest_0 rfl (lv_at hl 0 rfl) ?_
  refine z_getR C fl_6_28 Hh dX6_fewest_1 rfl hm (fun x3 hm => ?_)
  refine lv_aload_n hx hb dX6_fewest_4 rfl (lv_at hl 1 rfl) ?_
  refine lv_iload hx hb dX6_fewest_5 (lv_at hl 4 rfl) ?_
  refine lv_iload hx hb dX6_fewest_7 (lv_at hl 5 rfl) ?_
  refine lv_iload hx hb dX6_fewest_9 (lv_at hl 7 rfl) ?_
  refine z_cVI (vs := [qR g l1, qI l4, qI l5, qI l7]) C (fun q hq => ct_X0_markBehind l g h x3 l1 l4 l5 l7 q hq) tw_1020 my_X0_markBehind (fun q hq => tg_X0_markBehind hq) rfl hl.1 Hh ⟨Nat.le_of_ble_eq_true rfl, Nat.le_of_ble_eq_true rfl, Nat.le_of_ble_eq_true rfl, Nat.le_of_ble_eq_true rfl⟩ (Nat.le_of_ble_eq_true rfl) dX6_fewest_11 rfl hm (fun h x4 H locs Hh hm => ?_)
  refine lv_iload hx hb dX6_fewest_14 (lv_at hl 6 rfl) ?_
  refine z_icmp_ne (tgt := 21) C dX6_fewest_16 (by decide) rfl rfl hm (fun _ hm => ?_) (fun _ hm => ?_)
  · refine lv_aload_n hx hb dX6_fewest_21 rfl (lv_at hl 0 rfl) ?_
    refine z_getR C fl_6_28 Hh dX6_fewest_22 rfl hm (fun x5 hm => ?_)
    refine z_cVIr (vs := []) C (fun q hq => ct_X0_beginTown l g h x5 q hq) tw_1021 my_X0_beginTown (fun q hq => tg_X0_beginTown hq) rfl hl.1 Hh ⟨Nat.le_of_ble_eq_true rfl, Nat.le_of_ble_eq_true rfl, Nat.le_of_ble_eq_true rfl, Nat.le_of_ble_eq_true rfl⟩ (Nat.le_of_ble_eq_true rfl) dX6_fewest_25 rfl hm (fun x6 H locs Hh hm => ?_)
    refine lv_iload_n hx hb dX6_fewest_28 rfl (lv_at hl 2 rfl) ?_
    refine z_icmp_eq (tgt := 35) C dX6_fewest_29 (by decide) rfl rfl hm (fun _ hm => ?_) (fun _ hm => ?_)
    · refine lv_aload_n hx hb dX6_fewest_35 rfl (lv_at hl 0 rfl) ?_
      refine lv_iload_n hx hb dX6_fewest_36 rfl (lv_at hl 3 rfl) ?_
      refine z_cVv (vs := [qI l3]) C (fun q hq => ct_X6_listOpen l g h l0 l3 q hq) tw_1022 my_X6_listOpen (fun q hq => tg_X6_listOpen hq) rfl hl.1 Hh ⟨Nat.le_of_ble_eq_true rfl, Nat.le_of_ble_eq_true rfl, Nat.le_of_ble_eq_true rfl, Nat.le_of_ble_eq_true rfl⟩ (Nat.le_of_ble_eq_true rfl) dX6_fewest_37 rfl hm (fun h H locs Hh hm => ?_)
      refine z_iconst C dX6_fewest_40 ?_
      refine lv_istore (lv' := [(8, qI 1), (0, qR g l0), (1, qR g l1), (2, qI l2), (3, qI l3), (4, qI l4), (5, qI l5), (6, qI l6), (7, qI l7)]) hx hb dX6_fewest_41 hl (by decide) rfl (fun ls hl => ?_)
      exact KL43 FU h l0 l3 l5 l6 1 _ _ _ Hh (lv_sub hl [1, 4, 6, 7, 0] rfl) hm
    · refine z_bipush C dX6_fewest_32 rfl ?_
      exact z_iret C hr hlocks Hh dX6_fewest_34 hm
  · refine z_iconst C dX6_fewest_19 ?_
    exact z_iret C hr hlocks Hh dX6_fewest_20 hm
theorem tg_X8_places {h : Hp} {l0 : Int} {r : Int} (hm : M_X8_places h l0 = some r) : hT h l0 = 18 := (tk_inv hm).1
set_option maxRecDepth 100000 in
set_option maxHeartbeats 4000000 in
theorem ct_X8_places (l : Launch) (g : zGeo) (h : Hp) (l0 : Int) (r : Int) (hm : M_X8_places h l0 = some r) : zM l yX8_places cX8_places 1 (some .int) 0 0 0 0 g h [qR g l0] h (some (qI r)) := by
  refine z_meth (by decide) (Nat.le_of_ble_eq_true rfl) ?_
  intro p e s m args below meth c H ls C hr hlocks hnm Hh hl
  have C : zC p m c cX8_places 1 s args RX8 g := C
  have hnm : meth.name = "places" := hnm
  have hx := C.1.1
  have hb := C.1.2.1
  have hl : lv_has ls 1 [(0, qR g l0)] := hl
  unfold M_X8_places at hm
  replace hm := (tk_inv hm).2
  refine lv_aload_n hx hb dX8_places_0 rfl (lv_at hl 0 rfl) ?_
  refine z_getI C fl_8_9 Hh dX8_places_1 rfl hm (fun x1 hm => ?_)
  refine lv_aload_n hx hb dX8_places_4 rfl (lv_at hl 0 rfl) ?_
  refine z_getI C fl_8_15 Hh dX8_places_5 rfl hm (fun x2 hm => ?_)
  refine z_imul C dX8_places_8 ?_
  exact z_iretR (h0 := h) C hr hlocks Hh dX8_places_9 hm
theorem tg_X8_copyingTowns {h : Hp} {l0 : Int} {r : Int} (hm : M_X8_copyingTowns h l0 = some r) : hT h l0 = 18 := (tk_inv hm).1
set_option maxRecDepth 100000 in
set_option maxHeartbeats 4000000 in
theorem ct_X8_copyingTowns (l : Launch) (g : zGeo) (h : Hp) (l0 : Int) (r : Int) (hm : M_X8_copyingTowns h l0 = some r) : zM l yX8_copyingTowns cX8_copyingTowns 3 (some .int) 0 0 0 0 g h [qR g l0] h (some (qI r)) := by
  refine z_meth (by decide) (Nat.le_of_ble_eq_true rfl) ?_
  intro p e s m args below meth c H ls C hr hlocks hnm Hh hl
  have C : zC p m c cX8_copyingTowns 3 s args RX8 g := C
  have hnm : meth.name = "copyingTowns" := hnm
  have hx := C.1.1
  have hb := C.1.2.1
  have hl : lv_has ls 3 [(0, qR g l0)] := hl
  unfold M_X8_copyingTowns at hm
  replace hm := (tk_inv hm).2
  have K30 : ∀  (l1 : Int) (H : Heap) (locs : List Loc) (ls : Array Slot), zH g s h H locs → lv_has ls 3 [(1, qI l1)] → M_X8_copyingTowns_p30 h l1 = some r → W p l e { frames := 0, cells := 0, slots := 0, locals := 0 } s m args below meth c H locs 0 0 (zQ below g h (some (qI r)) args s 0 0) (F0 m 30 ls []) := by
    intro l1  H locs ls Hh hl hm
    unfold M_X8_copyingTowns_p30 at hm
    refine lv_iload_n hx hb dX8_copyingTowns_30 rfl (lv_at hl 0 rfl) ?_
    exact z_iretR (h0 := h) C hr hlocks Hh dX8_copyingTowns_31 hm
  have KL4 : ∀ (n : Nat)  (l0 l1 l2 : Int) (H : Heap) (locs : List Loc) (ls : Array Slot), zH g s h H locs → lv_has ls 3 [(0, qR g l0), (1, qI l1), (2, qI l2)] → M_X8_copyingTowns_w4 n h l0 l1 l2 = some r → W p l e { frames := 0, cells := 0, slots := 0, locals := 0 } s m args below meth c H locs 0 0 (zQ below g h (some (qI r)) args s 0 0) (F0 m 4 ls []) := by
    intro n
    induction n with
    | zero => intro l0 l1 l2 H locs ls Hh hl hm; cases hm
    | succ n ih4 =>
      intro l0 l1 l2 H locs ls Hh hl hm
      obtain ⟨z4, hm, hc4⟩ := wh_inv hm
      have hm : M_X8_copyingTowns_b4 h l0 l1 l2 = some z4 := hm
      have K24 : ∀  (l1 l2 : Int) (H : Heap) (locs : List Loc) (ls : Array Slot), zH g s h H locs → lv_has ls 3 [(0, qR g l0), (1, qI l1), (2, qI l2)] → M_X8_copyingTowns_p24 h l0 l1 l2 = some z4 → W p l e { frames := 0, cells := 0, slots := 0, locals := 0 } s m args below meth c H locs 0 0 (zQ below g h (some (qI r)) args s 0 0) (F0 m 24 ls []) := by
        intro l1 l2  H locs ls Hh hl hm
        unfold M_X8_copyingTowns_p24 at hm
        refine z_iinc (x := l2) (k := 2) (lv' := [(2, qI (l2 + 1)), (0, qR g l0), (1, qI l1)]) C dX8_copyingTowns_24 hl rfl (by decide) rfl (fun ls hl => ?_)
        refine lv_goto (tgt := 4) hx hb dX8_copyingTowns_27 (by decide) ?_
        cases hm
        exact ih4 l0 l1 (l2 + 1) _ _ _ Hh (lv_sub hl [1, 2, 0] rfl) hc4
      unfold M_X8_copyingTowns_b4 at hm
      refine lv_iload_n hx hb dX8_copyingTowns_4 rfl (lv_at hl 2 rfl) ?_
      refine lv_aload_n hx hb dX8_copyingTowns_5 rfl (lv_at hl 0 rfl) ?_
      refine z_getI C fl_8_18 Hh dX8_copyingTowns_6 rfl hm (fun x1 hm => ?_)
      refine z_icmp_ge (tgt := 30) C dX8_copyingTowns_9 (by decide) rfl rfl hm (fun _ hm => ?_) (fun _ hm => ?_)
      · cases hm
        exact K30 l1 _ _ _ Hh (lv_sub hl [1] rfl) hc4
      · refine lv_aload_n hx hb dX8_copyingTowns_12 rfl (lv_at hl 0 rfl) ?_
        refine z_getR C fl_8_25 Hh dX8_copyingTowns_13 rfl hm (fun x2 hm => ?_)
        refine lv_iload_n hx hb dX8_copyingTowns_16 rfl (lv_at hl 2 rfl) ?_
        refine z_iald C Hh dX8_copyingTowns_17 hm (fun x3 hm => ?_)
        refine z_if_lt (tgt := 24) C dX8_copyingTowns_18 (by decide) rfl hm (fun _ hm => ?_) (fun _ hm => ?_)
        · exact K24 l1 l2 _ _ _ Hh (lv_sub hl [0, 1, 2] rfl) hm
        · refine z_iinc (x := l1) (k := 1) (lv' := [(1, qI (l1 + 1)), (0, qR g l0), (2, qI l2)]) C dX8_copyingTowns_21 hl rfl (by decide) rfl (fun ls hl => ?_)
          exact K24 (l1 + 1) l2 _ _ _ Hh (lv_sub hl [1, 0, 2] rfl) hm
  refine z_iconst C dX8_copyingTowns_0 ?_
  refine lv_istore_n (lv' := [(1, qI 0), (0, qR g l0)]) hx hb dX8_copyingTowns_1 rfl hl (by decide) rfl (fun ls hl => ?_)
  refine z_iconst C dX8_copyingTowns_2 ?_
  refine lv_istore_n (lv' := [(2, qI 0), (1, qI 0), (0, qR g l0)]) hx hb dX8_copyingTowns_3 rfl hl (by decide) rfl (fun ls hl => ?_)
  exact KL4 FU l0 0 0 _ _ _ Hh (lv_sub hl [2, 1, 0] rfl) hm
theorem tg_X8_looksLike {h : Hp} {l0 l1 : Int} {r : Int} (hm : M_X8_looksLike h l0 l1 = some r) : hT h l0 = 18 := (tk_inv hm).1
set_option maxRecDepth 100000 in
set_option maxHeartbeats 4000000 in
theorem ct_X8_looksLike (l : Launch) (g : zGeo) (h : Hp) (l0 l1 : Int) (r : Int) (hm : M_X8_looksLike h l0 l1 = some r) : zM l yX8_looksLike cX8_looksLike 3 (some .boolean) 0 0 0 0 g h [qR g l0, qR g l1] h (some (qI r)) := by
  refine z_meth (by decide) (Nat.le_of_ble_eq_true rfl) ?_
  intro p e s m args below meth c H ls C hr hlocks hnm Hh hl
  have C : zC p m c cX8_looksLike 3 s args RX8 g := C
  have hnm : meth.name = "looksLike" := hnm
  have hx := C.1.1
  have hb := C.1.2.1
  have hl : lv_has ls 3 [(0, qR g l0), (1, qR g l1)] := hl
  unfold M_X8_looksLike at hm
  replace hm := (tk_inv hm).2
  have K36 : ∀  (H : Heap) (locs : List Loc) (ls : Array Slot), zH g s h H locs → lv_has ls 3 [] → M_X8_looksLike_p36 h = some r → W p l e { frames := 0, cells := 0, slots := 0, locals := 0 } s m args below meth c H locs 0 0 (zQ below g h (some (qI r)) args s 0 0) (F0 m 36 ls []) := by
    intro   H locs ls Hh hl hm
    unfold M_X8_looksLike_p36 at hm
    refine z_iconst C dX8_looksLike_36 ?_
    exact z_zretRC C hr hlocks Hh dX8_looksLike_37 (by decide) hm
  have KL2 : ∀ (n : Nat)  (l0 l1 l2 : Int) (H : Heap) (locs : List Loc) (ls : Array Slot), zH g s h H locs → lv_has ls 3 [(0, qR g l0), (1, qR g l1), (2, qI l2)] → M_X8_looksLike_w2 n h l0 l1 l2 = some r → W p l e { frames := 0, cells := 0, slots := 0, locals := 0 } s m args below meth c H locs 0 0 (zQ below g h (some (qI r)) args s 0 0) (F0 m 2 ls []) := by
    intro n
    induction n with
    | zero => intro l0 l1 l2 H locs ls Hh hl hm; cases hm
    | succ n ih2 =>
      intro l0 l1 l2 H locs ls Hh hl hm
      obtain ⟨z2, hm, hc2⟩ := wh_inv hm
      have hm : M_X8_looksLike_b2 h l0 l1 l2 = some z2 := hm
      unfold M_X8_looksLike_b2 at hm
      refine lv_iload_n hx hb dX8_looksLike_2 rfl (lv_at hl 2 rfl) ?_
      refine z_bipush C dX8_looksLike_3 rfl ?_
      refine lv_aload_n hx hb dX8_looksLike_5 rfl (lv_at hl 0 rfl) ?_
      refine z_getI C fl_8_18 Hh dX8_looksLike_6 rfl hm (fun x1 hm => ?_)
      refine z_imul C dX8_looksLike_9 ?_
      refine z_icmp_ge (tgt := 36) C dX8_looksLike_10 (by decide) rfl rfl hm (fun _ hm => ?_) (fun _ hm => ?_)
      · cases hm
        exact K36  _ _ _ Hh (lv_sub hl [] rfl) hc2
      · refine lv_aload_n hx hb dX8_looksLike_13 rfl (lv_at hl 0 rfl) ?_
        refine z_getR C fl_8_21 Hh dX8_looksLike_14 rfl hm (fun x2 hm => ?_)
        refine lv_iload_n hx hb dX8_looksLike_17 rfl (lv_at hl 2 rfl) ?_
        refine z_iald C Hh dX8_looksLike_18 hm (fun x3 hm => ?_)
        refine lv_aload_n hx hb dX8_looksLike_19 rfl (lv_at hl 1 rfl) ?_
        refine z_getR C fl_8_21 Hh dX8_looksLike_20 rfl hm (fun x4 hm => ?_)
        refine lv_iload_n hx hb dX8_looksLike_23 rfl (lv_at hl 2 rfl) ?_
        refine z_iald C Hh dX8_looksLike_24 hm (fun x5 hm => ?_)
        refine z_icmp_eq (tgt := 30) C dX8_looksLike_25 (by decide) rfl rfl hm (fun _ hm => ?_) (fun _ hm => ?_)
        · refine z_iinc (x := l2) (k := 2) (lv' := [(2, qI (l2 + 1)), (0, qR g l0), (1, qR g l1)]) C dX8_looksLike_30 hl rfl (by decide) rfl (fun ls hl => ?_)
          refine lv_goto (tgt := 2) hx hb dX8_looksLike_33 (by decide) ?_
          cases hm
          exact ih2 l0 l1 (l2 + 1) _ _ _ Hh (lv_sub hl [1, 2, 0] rfl) hc2
        · refine z_iconst C dX8_looksLike_28 ?_
          cases hm
          have hm := hc2
          exact z_zretRC C hr hlocks Hh dX8_looksLike_29 (by decide) hm
  refine z_iconst C dX8_looksLike_0 ?_
  refine lv_istore_n (lv' := [(2, qI 0), (0, qR g l0), (1, qR g l1)]) hx hb dX8_looksLike_1 rfl hl (by decide) rfl (fun ls hl => ?_)
  exact KL2 FU l0 l1 0 _ _ _ Hh (lv_sub hl [1, 2, 0] rfl) hm
theorem tg_X8_build {h : Hp} {l0 l1 l2 l3 : Int} {r : Hp} (hm : M_X8_build h l0 l1 l2 l3 = some r) : hT h l0 = 18 := (tk_inv hm).1
set_option maxRecDepth 100000 in
set_option maxHeartbeats 4000000 in
theorem ct_X8_build (l : Launch) (g : zGeo) (h0 : Hp) (l0 l1 l2 l3 : Int) (r : Hp) (hm : M_X8_build h0 l0 l1 l2 l3 = some r) : zM l yX8_build cX8_build 8 none 3 87 0 0 g h0 [qR g l0, qI l1, qR g l2, qI l3] r none := by
  refine z_meth (by decide) (Nat.le_of_ble_eq_true rfl) ?_
  intro p e s m args below meth c H ls C hr hlocks hnm Hh hl
  have C : zC p m c cX8_build 8 s args RX8 g := C
  have hnm : meth.name = "build" := hnm
  have hx := C.1.1
  have hb := C.1.2.1
  have hl : lv_has ls 8 [(0, qR g l0), (1, qI l1), (2, qR g l2), (3, qI l3)] := hl
  unfold M_X8_build at hm
  replace hm := (tk_inv hm).2
  generalize h0 = h at Hh hm
  have K80 : ∀ (h : Hp) (H : Heap) (locs : List Loc) (ls : Array Slot), zH g s h H locs → lv_has ls 8 [] → M_X8_build_p80 h = some r → W p l e { frames := 3, cells := 0, slots := 0, locals := 87 } s m args below meth c H locs 0 0 (zQ below g r none args s 0 0) (F0 m 80 ls []) := by
    intro h  H locs ls Hh hl hm
    unfold M_X8_build_p80 at hm
    exact z_vret C hr hlocks Hh dX8_build_80 hm
  have KL14 : ∀ (n : Nat) (h : Hp) (l0 l1 l2 l3 l4 l5 : Int) (H : Heap) (locs : List Loc) (ls : Array Slot), zH g s h H locs → lv_has ls 8 [(0, qR g l0), (1, qI l1), (2, qR g l2), (3, qI l3), (4, qI l4), (5, qI l5)] → M_X8_build_w14 n h l0 l1 l2 l3 l4 l5 = some r → W p l e { frames := 3, cells := 0, slots := 0, locals := 87 } s m args below meth c H locs 0 0 (zQ below g r none args s 0 0) (F0 m 14 ls []) := by
    intro n
    induction n with
    | zero => intro h l0 l1 l2 l3 l4 l5 H locs ls Hh hl hm; cases hm
    | succ n ih14 =>
      intro h l0 l1 l2 l3 l4 l5 H locs ls Hh hl hm
      obtain ⟨z14, hm, hc14⟩ := wh_inv hm
      have hm : M_X8_build_b14 h l0 l1 l2 l3 l4 l5 = some z14 := hm
      have K74 : ∀ (h : Hp) (l5 : Int) (H : Heap) (locs : List Loc) (ls : Array Slot), zH g s h H locs → lv_has ls 8 [(0, qR g l0), (1, qI l1), (2, qR g l2), (3, qI l3), (4, qI l4), (5, qI l5)] → M_X8_build_p74 h l0 l1 l2 l3 l4 l5 = some z14 → W p l e { frames := 3, cells := 0, slots := 0, locals := 87 } s m args below meth c H locs 0 0 (zQ below g r none args s 0 0) (F0 m 74 ls []) := by
        intro h l5  H locs ls Hh hl hm
        unfold M_X8_build_p74 at hm
        refine z_iinc (x := l5) (k := 5) (lv' := [(5, qI (l5 + 1)), (0, qR g l0), (1, qI l1), (2, qR g l2), (3, qI l3), (4, qI l4)]) C dX8_build_74 hl rfl (by decide) rfl (fun ls hl => ?_)
        refine lv_goto (tgt := 14) hx hb dX8_build_77 (by decide) ?_
        cases hm
        exact ih14 h l0 l1 l2 l3 l4 (l5 + 1) _ _ _ Hh (lv_sub hl [1, 2, 3, 4, 5, 0] rfl) hc14
      have KL26 : ∀ (n : Nat) (h : Hp) (l5 l6 : Int) (H : Heap) (locs : List Loc) (ls : Array Slot), zH g s h H locs → lv_has ls 8 [(0, qR g l0), (1, qI l1), (2, qR g l2), (3, qI l3), (4, qI l4), (5, qI l5), (6, qI l6)] → M_X8_build_w26 n h l0 l1 l2 l3 l4 l5 l6 = some z14 → W p l e { frames := 3, cells := 0, slots := 0, locals := 87 } s m args below meth c H locs 0 0 (zQ below g r none args s 0 0) (F0 m 26 ls []) := by
        intro n
        induction n with
        | zero => intro h l5 l6 H locs ls Hh hl hm; cases hm
        | succ n ih26 =>
          intro h l5 l6 H locs ls Hh hl hm
          obtain ⟨z26, hm, hc26⟩ := wh_inv hm
          have hm : M_X8_build_b26 h l0 l1 l2 l3 l4 l5 l6 = some z26 := hm
          unfold M_X8_build_b26 at hm
          refine lv_iload hx hb dX8_build_26 (lv_at hl 6 rfl) ?_
          refine lv_aload_n hx hb dX8_build_28 rfl (lv_at hl 0 rfl) ?_
          refine z_getI C fl_8_9 Hh dX8_build_29 rfl hm (fun x1 hm => ?_)
          refine z_icmp_ge (tgt := 74) C dX8_build_32 (by decide) rfl rfl hm (fun _ hm => ?_) (fun _ hm => ?_)
          · cases hm
            exact K74 h l5 _ _ _ Hh (lv_sub hl [0, 1, 2, 3, 4, 5] rfl) hc26
          · refine z_bipush C dX8_build_35 rfl ?_
            refine lv_iload hx hb dX8_build_37 (lv_at hl 5 rfl) ?_
            refine z_imul C dX8_build_39 ?_
            refine lv_iload hx hb dX8_build_40 (lv_at hl 6 rfl) ?_
            refine z_iadd C dX8_build_42 ?_
            refine lv_istore (lv' := [(7, qI ((6 * l5) + l6)), (0, qR g l0), (1, qI l1), (2, qR g l2), (3, qI l3), (4, qI l4), (5, qI l5), (6, qI l6)]) hx hb dX8_build_43 hl (by decide) rfl (fun ls hl => ?_)
            refine lv_aload_n hx hb dX8_build_45 rfl (lv_at hl 1 rfl) ?_
            refine z_getR C fl_8_21 Hh dX8_build_46 rfl hm (fun x2 hm => ?_)
            refine z_bipush C dX8_build_49 rfl ?_
            refine lv_iload_n hx hb dX8_build_51 rfl (lv_at hl 2 rfl) ?_
            refine z_imul C dX8_build_52 ?_
            refine lv_iload hx hb dX8_build_53 (lv_at hl 0 rfl) ?_
            refine z_iadd C dX8_build_55 ?_
            refine lv_aload_n hx hb dX8_build_56 rfl (lv_at hl 1 rfl) ?_
            refine lv_iload_n hx hb dX8_build_57 rfl (lv_at hl 2 rfl) ?_
            refine lv_aload_n hx hb dX8_build_58 rfl (lv_at hl 3 rfl) ?_
            refine lv_iload hx hb dX8_build_59 (lv_at hl 5 rfl) ?_
            refine lv_iload hx hb dX8_build_61 (lv_at hl 0 rfl) ?_
            refine lv_iload_n hx hb dX8_build_63 rfl (lv_at hl 4 rfl) ?_
            refine z_cVIr (vs := [qI l1, qR g l2, qI l4, qI ((6 * l5) + l6), qI l3]) C (fun q hq => ct_X8_markFor l g h l0 l1 l2 l4 ((6 * l5) + l6) l3 q hq) tw_931 my_X8_markFor (fun q hq => tg_X8_markFor hq) rfl hl.1 Hh ⟨Nat.le_of_ble_eq_true rfl, Nat.le_of_ble_eq_true rfl, Nat.le_of_ble_eq_true rfl, Nat.le_of_ble_eq_true rfl⟩ (Nat.le_of_ble_eq_true rfl) dX8_build_64 rfl hm (fun x3 H locs Hh hm => ?_)
            refine z_iast C Hh dX8_build_67 hm (fun h H locs Hh hm => ?_)
            refine z_iinc (x := l6) (k := 7) (lv' := [(6, qI (l6 + 1)), (7, qI ((6 * l5) + l6)), (0, qR g l0), (1, qI l1), (2, qR g l2), (3, qI l3), (4, qI l4), (5, qI l5)]) C dX8_build_68 hl rfl (by decide) rfl (fun ls hl => ?_)
            refine lv_goto (tgt := 26) hx hb dX8_build_71 (by decide) ?_
            cases hm
            exact ih26 h l5 (l6 + 1) _ _ _ Hh (lv_sub hl [2, 3, 4, 5, 6, 7, 0] rfl) hc26
      unfold M_X8_build_b14 at hm
      refine lv_iload hx hb dX8_build_14 (lv_at hl 5 rfl) ?_
      refine lv_aload_n hx hb dX8_build_16 rfl (lv_at hl 0 rfl) ?_
      refine z_getI C fl_8_15 Hh dX8_build_17 rfl hm (fun x4 hm => ?_)
      refine z_icmp_ge (tgt := 80) C dX8_build_20 (by decide) rfl rfl hm (fun _ hm => ?_) (fun _ hm => ?_)
      · cases hm
        exact K80 h _ _ _ Hh (lv_sub hl [] rfl) hc14
      · refine z_iconst C dX8_build_23 ?_
        refine lv_istore (lv' := [(6, qI 0), (0, qR g l0), (1, qI l1), (2, qR g l2), (3, qI l3), (4, qI l4), (5, qI l5)]) hx hb dX8_build_24 hl (by decide) rfl (fun ls hl => ?_)
        exact KL26 FU h l5 0 _ _ _ Hh (lv_sub hl [1, 2, 3, 4, 5, 6, 0] rfl) hm
  refine z_bipush C dX8_build_0 rfl ?_
  refine lv_aload_n hx hb dX8_build_2 rfl (lv_at hl 0 rfl) ?_
  refine z_getR C fl_8_25 Hh dX8_build_3 rfl hm (fun x5 hm => ?_)
  refine lv_iload_n hx hb dX8_build_6 rfl (lv_at hl 1 rfl) ?_
  refine z_iald C Hh dX8_build_7 hm (fun x6 hm => ?_)
  refine z_imul C dX8_build_8 ?_
  refine lv_istore (lv' := [(4, qI (36 * x6)), (0, qR g l0), (1, qI l1), (2, qR g l2), (3, qI l3)]) hx hb dX8_build_9 hl (by decide) rfl (fun ls hl => ?_)
  refine z_iconst C dX8_build_11 ?_
  refine lv_istore (lv' := [(5, qI 0), (4, qI (36 * x6)), (0, qR g l0), (1, qI l1), (2, qR g l2), (3, qI l3)]) hx hb dX8_build_12 hl (by decide) rfl (fun ls hl => ?_)
  exact KL14 FU h l0 l1 l2 l3 (36 * x6) 0 _ _ _ Hh (lv_sub hl [2, 3, 4, 5, 1, 0] rfl) hm
theorem tg_X8_goOn {h : Hp} {l0 l1 : Int} {r : Hp} (hm : M_X8_goOn h l0 l1 = some r) : hT h l0 = 18 := (tk_inv hm).1
set_option maxRecDepth 100000 in
set_option maxHeartbeats 4000000 in
theorem ct_X8_goOn (l : Launch) (g : zGeo) (h0 : Hp) (l0 l1 : Int) (r : Hp) (hm : M_X8_goOn h0 l0 l1 = some r) : zM l yX8_goOn cX8_goOn 4 none 4 114 0 0 g h0 [qR g l0, qR g l1] r none := by
  refine z_meth (by decide) (Nat.le_of_ble_eq_true rfl) ?_
  intro p e s m args below meth c H ls C hr hlocks hnm Hh hl
  have C : zC p m c cX8_goOn 4 s args RX8 g := C
  have hnm : meth.name = "goOn" := hnm
  have hx := C.1.1
  have hb := C.1.2.1
  have hl : lv_has ls 4 [(0, qR g l0), (1, qR g l1)] := hl
  unfold M_X8_goOn at hm
  replace hm := (tk_inv hm).2
  generalize h0 = h at Hh hm
  have K82 : ∀ (h : Hp) (H : Heap) (locs : List Loc) (ls : Array Slot), zH g s h H locs → lv_has ls 4 [] → M_X8_goOn_p82 h = some r → W p l e { frames := 4, cells := 0, slots := 0, locals := 114 } s m args below meth c H locs 0 0 (zQ below g r none args s 0 0) (F0 m 82 ls []) := by
    intro h  H locs ls Hh hl hm
    unfold M_X8_goOn_p82 at hm
    exact z_vret C hr hlocks Hh dX8_goOn_82 hm
  have KL17 : ∀ (n : Nat) (h : Hp) (l0 l1 l2 : Int) (H : Heap) (locs : List Loc) (ls : Array Slot), zH g s h H locs → lv_has ls 4 [(0, qR g l0), (1, qR g l1), (2, qI l2)] → M_X8_goOn_w17 n h l0 l1 l2 = some r → W p l e { frames := 4, cells := 0, slots := 0, locals := 114 } s m args below meth c H locs 0 0 (zQ below g r none args s 0 0) (F0 m 17 ls []) := by
    intro n
    induction n with
    | zero => intro h l0 l1 l2 H locs ls Hh hl hm; cases hm
    | succ n ih17 =>
      intro h l0 l1 l2 H locs ls Hh hl hm
      obtain ⟨z17, hm, hc17⟩ := wh_inv hm
      have hm : M_X8_goOn_b17 h l0 l1 l2 = some z17 := hm
      have K76 : ∀ (h : Hp) (l2 : Int) (H : Heap) (locs : List Loc) (ls : Array Slot), zH g s h H locs → lv_has ls 4 [(0, qR g l0), (1, qR g l1), (2, qI l2)] → M_X8_goOn_p76 h l0 l1 l2 = some z17 → W p l e { frames := 4, cells := 0, slots := 0, locals := 114 } s m args below meth c H locs 0 0 (zQ below g r none args s 0 0) (F0 m 76 ls []) := by
        intro h l2  H locs ls Hh hl hm
        unfold M_X8_goOn_p76 at hm
        refine z_iinc (x := l2) (k := 2) (lv' := [(2, qI (l2 + 1)), (0, qR g l0), (1, qR g l1)]) C dX8_goOn_76 hl rfl (by decide) rfl (fun ls hl => ?_)
        refine lv_goto (tgt := 17) hx hb dX8_goOn_79 (by decide) ?_
        cases hm
        exact ih17 h l0 l1 (l2 + 1) _ _ _ Hh (lv_sub hl [1, 2, 0] rfl) hc17
      have K69 : ∀ (h : Hp) (l2 l3 : Int) (H : Heap) (locs : List Loc) (ls : Array Slot), zH g s h H locs → lv_has ls 4 [(0, qR g l0), (1, qR g l1), (2, qI l2), (3, qI l3)] → M_X8_goOn_p69 h l0 l1 l2 l3 = some z17 → W p l e { frames := 4, cells := 0, slots := 0, locals := 114 } s m args below meth c H locs 0 0 (zQ below g r none args s 0 0) (F0 m 69 ls []) := by
        intro h l2 l3  H locs ls Hh hl hm
        unfold M_X8_goOn_p69 at hm
        refine lv_aload_n hx hb dX8_goOn_69 rfl (lv_at hl 0 rfl) ?_
        refine lv_iload_n hx hb dX8_goOn_70 rfl (lv_at hl 2 rfl) ?_
        refine lv_aload_n hx hb dX8_goOn_71 rfl (lv_at hl 1 rfl) ?_
        refine lv_iload_n hx hb dX8_goOn_72 rfl (lv_at hl 3 rfl) ?_
        refine z_cVv (vs := [qI l2, qR g l1, qI l3]) C (fun q hq => ct_X8_build l g h l0 l2 l1 l3 q hq) tw_927 my_X8_build (fun q hq => tg_X8_build hq) rfl hl.1 Hh ⟨Nat.le_of_ble_eq_true rfl, Nat.le_of_ble_eq_true rfl, Nat.le_of_ble_eq_true rfl, Nat.le_of_ble_eq_true rfl⟩ (Nat.le_of_ble_eq_true rfl) dX8_goOn_73 rfl hm (fun h H locs Hh hm => ?_)
        exact K76 h l2 _ _ _ Hh (lv_sub hl [0, 1, 2] rfl) hm
      unfold M_X8_goOn_b17 at hm
      refine lv_iload_n hx hb dX8_goOn_17 rfl (lv_at hl 2 rfl) ?_
      refine lv_aload_n hx hb dX8_goOn_18 rfl (lv_at hl 0 rfl) ?_
      refine z_getI C fl_8_18 Hh dX8_goOn_19 rfl hm (fun x1 hm => ?_)
      refine z_icmp_ge (tgt := 82) C dX8_goOn_22 (by decide) rfl rfl hm (fun _ hm => ?_) (fun _ hm => ?_)
      · cases hm
        exact K82 h _ _ _ Hh (lv_sub hl [] rfl) hc17
      · refine lv_aload_n hx hb dX8_goOn_25 rfl (lv_at hl 0 rfl) ?_
        refine z_getR C fl_8_25 Hh dX8_goOn_26 rfl hm (fun x2 hm => ?_)
        refine lv_iload_n hx hb dX8_goOn_29 rfl (lv_at hl 2 rfl) ?_
        refine z_iald C Hh dX8_goOn_30 hm (fun x3 hm => ?_)
        refine z_if_lt (tgt := 76) C dX8_goOn_31 (by decide) rfl hm (fun _ hm => ?_) (fun _ hm => ?_)
        · exact K76 h l2 _ _ _ Hh (lv_sub hl [0, 1, 2] rfl) hm
        · refine z_iconst C dX8_goOn_34 ?_
          refine lv_istore_n (lv' := [(3, qI (-1)), (0, qR g l0), (1, qR g l1), (2, qI l2)]) hx hb dX8_goOn_35 rfl hl (by decide) rfl (fun ls hl => ?_)
          refine lv_aload_n hx hb dX8_goOn_36 rfl (lv_at hl 1 rfl) ?_
          refine z_getR C fl_8_28 Hh dX8_goOn_37 rfl hm (fun x4 hm => ?_)
          refine z_iconst C dX8_goOn_40 ?_
          refine lv_iload_n hx hb dX8_goOn_41 rfl (lv_at hl 3 rfl) ?_
          refine z_imul C dX8_goOn_42 ?_
          refine z_iald C Hh dX8_goOn_43 hm (fun x5 hm => ?_)
          refine z_bipush C dX8_goOn_44 rfl ?_
          refine z_icmp_ne (tgt := 69) C dX8_goOn_46 (by decide) rfl lq_p9 hm (fun _ hm => ?_) (fun _ hm => ?_)
          · exact K69 h l2 (-1) _ _ _ Hh (lv_sub hl [1, 2, 3, 0] rfl) hm
          · refine lv_aload_n hx hb dX8_goOn_49 rfl (lv_at hl 1 rfl) ?_
            refine lv_aload_n hx hb dX8_goOn_50 rfl (lv_at hl 1 rfl) ?_
            refine z_getI C fl_8_31 Hh dX8_goOn_51 rfl hm (fun x6 hm => ?_)
            refine z_cSIr (vs := [qI x6]) C (fun q hq => ct_X8_nextSeed l g h x6 q hq) tw_925 my_X8_nextSeed rfl hl.1 Hh ⟨Nat.le_of_ble_eq_true rfl, Nat.le_of_ble_eq_true rfl, Nat.le_of_ble_eq_true rfl, Nat.le_of_ble_eq_true rfl⟩ (Nat.le_of_ble_eq_true rfl) dX8_goOn_54 rfl hm (fun x7 H locs Hh hm => ?_)
            refine z_putI C hnm pl_8_31 Hh dX8_goOn_57 rfl hm (fun h H locs Hh hm => ?_)
            refine lv_aload_n hx hb dX8_goOn_60 rfl (lv_at hl 1 rfl) ?_
            refine lv_aload_n hx hb dX8_goOn_61 rfl (lv_at hl 1 rfl) ?_
            refine z_getI C fl_8_31 Hh dX8_goOn_62 rfl hm (fun x8 hm => ?_)
            refine z_cVIr (vs := [qI x8]) C (fun q hq => ct_X8_drawnPlace l g h l0 x8 q hq) tw_926 my_X8_drawnPlace (fun q hq => tg_X8_drawnPlace hq) rfl hl.1 Hh ⟨Nat.le_of_ble_eq_true rfl, Nat.le_of_ble_eq_true rfl, Nat.le_of_ble_eq_true rfl, Nat.le_of_ble_eq_true rfl⟩ (Nat.le_of_ble_eq_true rfl) dX8_goOn_65 rfl hm (fun x9 H locs Hh hm => ?_)
            refine lv_istore_n (lv' := [(3, qI x9), (0, qR g l0), (1, qR g l1), (2, qI l2)]) hx hb dX8_goOn_68 rfl hl (by decide) rfl (fun ls hl => ?_)
            exact K69 h l2 x9 _ _ _ Hh (lv_sub hl [1, 2, 3, 0] rfl) hm
  refine lv_aload_n hx hb dX8_goOn_0 rfl (lv_at hl 0 rfl) ?_
  refine z_getR C fl_8_21 Hh dX8_goOn_1 rfl hm (fun x10 hm => ?_)
  refine z_iconst C dX8_goOn_4 ?_
  refine lv_aload_n hx hb dX8_goOn_5 rfl (lv_at hl 1 rfl) ?_
  refine z_iconst C dX8_goOn_6 ?_
  refine lv_aload_n hx hb dX8_goOn_7 rfl (lv_at hl 0 rfl) ?_
  refine z_getR C fl_8_21 Hh dX8_goOn_8 rfl hm (fun x11 hm => ?_)
  refine z_alen C Hh dX8_goOn_11 (by decide) hm (fun x12 hm => ?_)
  refine z_cpy (t := 1) C cp_8_37 (by decide) hl.1 Hh dX8_goOn_12 (Nat.le_of_ble_eq_true rfl) (Nat.le_of_ble_eq_true rfl) hm (fun h H locs Hh hm => ?_)
  refine z_iconst C dX8_goOn_15 ?_
  refine lv_istore_n (lv' := [(2, qI 0), (0, qR g l0), (1, qR g l1)]) hx hb dX8_goOn_16 rfl hl (by decide) rfl (fun ls hl => ?_)
  exact KL17 FU h l0 l1 0 _ _ _ Hh (lv_sub hl [1, 2, 0] rfl) hm
theorem tg_X9_init {h : Hp} {l0 : Int} {r : Hp} (hm : M_X9_init h l0 = some r) : hT h l0 = 19 := (tk_inv hm).1
set_option maxRecDepth 100000 in
set_option maxHeartbeats 4000000 in
theorem ct_X9_init (l : Launch) (g : zGeo) (h0 : Hp) (l0 : Int) (r : Hp) (hm : M_X9_init h0 l0 = some r) : zM l yX9_init cX9_init 1 none 3 82 123 12308 g h0 [qR g l0] r none := by
  refine z_meth (by decide) (Nat.le_of_ble_eq_true rfl) ?_
  intro p e s m args below meth c H ls C hr hlocks hnm Hh hl
  have C : zC p m c cX9_init 1 s args RX9 g := C
  have hnm : meth.name = "<init>" := hnm
  have hx := C.1.1
  have hb := C.1.2.1
  have hl : lv_has ls 1 [(0, qR g l0)] := hl
  unfold M_X9_init at hm
  replace hm := (tk_inv hm).2
  generalize h0 = h at Hh hm
  refine lv_aload_n hx hb dX9_init_0 rfl (lv_at hl 0 rfl) ?_
  refine z_oinit C ⟨tw_158, tw_159, tw_160⟩ hl.1 (Nat.le_of_ble_eq_true rfl) (Nat.le_of_ble_eq_true rfl) dX9_init_1 ?_
  refine lv_aload_n hx hb dX9_init_4 rfl (lv_at hl 0 rfl) ?_
  refine z_sipush C dX9_init_5 rfl ?_
  refine z_newab C (t := 1) (atype := .int) (by decide) tw_222 Hh (by decide) (by decide) (Nat.le_of_ble_eq_true rfl) (Nat.le_of_ble_eq_true rfl) dX9_init_8 hm (fun h x1 H Hh hm => ?_)
  refine z_putRc C hnm pl_9_9_i (fun _ => ⟨rfl, rfl⟩) Hh dX9_init_10 rfl hm (fun h H locs Hh hm => ?_)
  refine lv_aload_n hx hb dX9_init_13 rfl (lv_at hl 0 rfl) ?_
  refine z_iconst C dX9_init_14 ?_
  refine z_putI C hnm pl_9_13_i Hh dX9_init_15 rfl hm (fun h H locs Hh hm => ?_)
  refine lv_aload_n hx hb dX9_init_18 rfl (lv_at hl 0 rfl) ?_
  refine z_newb C nl_9_17 Hh (Nat.le_of_ble_eq_true rfl) (Nat.le_of_ble_eq_true rfl) dX9_init_19 hm (fun h x2 H Hh hm => ?_)
  refine lv_dup hx hb dX9_init_22 rfl ?_
  refine z_cIv (vs := []) C (fun q hq => ct_X5_init l g h x2 q hq) ml_9_19 my_X5_init rfl hl.1 Hh ⟨Nat.le_of_ble_eq_true rfl, Nat.le_of_ble_eq_true rfl, Nat.le_of_ble_eq_true rfl, Nat.le_of_ble_eq_true rfl⟩ (Nat.le_of_ble_eq_true rfl) dX9_init_23 rfl hm (fun h H locs Hh hm => ?_)
  refine z_putRc C hnm pl_9_20_i (fun _ => ⟨rfl, rfl⟩) Hh dX9_init_26 rfl hm (fun h H locs Hh hm => ?_)
  refine lv_aload_n hx hb dX9_init_29 rfl (lv_at hl 0 rfl) ?_
  refine z_newb C nl_9_17 Hh (Nat.le_of_ble_eq_true rfl) (Nat.le_of_ble_eq_true rfl) dX9_init_30 hm (fun h x3 H Hh hm => ?_)
  refine lv_dup hx hb dX9_init_33 rfl ?_
  refine z_cIv (vs := []) C (fun q hq => ct_X5_init l g h x3 q hq) ml_9_19 my_X5_init rfl hl.1 Hh ⟨Nat.le_of_ble_eq_true rfl, Nat.le_of_ble_eq_true rfl, Nat.le_of_ble_eq_true rfl, Nat.le_of_ble_eq_true rfl⟩ (Nat.le_of_ble_eq_true rfl) dX9_init_34 rfl hm (fun h H locs Hh hm => ?_)
  refine z_putRc C hnm pl_9_24_i (fun _ => ⟨rfl, rfl⟩) Hh dX9_init_37 rfl hm (fun h H locs Hh hm => ?_)
  refine lv_aload_n hx hb dX9_init_40 rfl (lv_at hl 0 rfl) ?_
  refine z_newb C nl_9_27 Hh (Nat.le_of_ble_eq_true rfl) (Nat.le_of_ble_eq_true rfl) dX9_init_41 hm (fun h x4 H Hh hm => ?_)
  refine lv_dup hx hb dX9_init_44 rfl ?_
  refine z_cIv (vs := []) C (fun q hq => ct_X8_init l g h x4 q hq) ml_9_29 my_X8_init rfl hl.1 Hh ⟨Nat.le_of_ble_eq_true rfl, Nat.le_of_ble_eq_true rfl, Nat.le_of_ble_eq_true rfl, Nat.le_of_ble_eq_true rfl⟩ (Nat.le_of_ble_eq_true rfl) dX9_init_45 rfl hm (fun h H locs Hh hm => ?_)
  refine z_putRc C hnm pl_9_30_i (fun _ => ⟨rfl, rfl⟩) Hh dX9_init_48 rfl hm (fun h H locs Hh hm => ?_)
  refine lv_aload_n hx hb dX9_init_51 rfl (lv_at hl 0 rfl) ?_
  refine z_newb C nl_9_27 Hh (Nat.le_of_ble_eq_true rfl) (Nat.le_of_ble_eq_true rfl) dX9_init_52 hm (fun h x5 H Hh hm => ?_)
  refine lv_dup hx hb dX9_init_55 rfl ?_
  refine z_cIv (vs := []) C (fun q hq => ct_X8_init l g h x5 q hq) ml_9_29 my_X8_init rfl hl.1 Hh ⟨Nat.le_of_ble_eq_true rfl, Nat.le_of_ble_eq_true rfl, Nat.le_of_ble_eq_true rfl, Nat.le_of_ble_eq_true rfl⟩ (Nat.le_of_ble_eq_true rfl) dX9_init_56 rfl hm (fun h H locs Hh hm => ?_)
  refine z_putRc C hnm pl_9_34_i (fun _ => ⟨rfl, rfl⟩) Hh dX9_init_59 rfl hm (fun h H locs Hh hm => ?_)
  refine lv_aload_n hx hb dX9_init_62 rfl (lv_at hl 0 rfl) ?_
  refine z_newb C nl_9_27 Hh (Nat.le_of_ble_eq_true rfl) (Nat.le_of_ble_eq_true rfl) dX9_init_63 hm (fun h x6 H Hh hm => ?_)
  refine lv_dup hx hb dX9_init_66 rfl ?_
  refine z_cIv (vs := []) C (fun q hq => ct_X8_init l g h x6 q hq) ml_9_29 my_X8_init rfl hl.1 Hh ⟨Nat.le_of_ble_eq_true rfl, Nat.le_of_ble_eq_true rfl, Nat.le_of_ble_eq_true rfl, Nat.le_of_ble_eq_true rfl⟩ (Nat.le_of_ble_eq_true rfl) dX9_init_67 rfl hm (fun h H locs Hh hm => ?_)
  refine z_putRc C hnm pl_9_37_i (fun _ => ⟨rfl, rfl⟩) Hh dX9_init_70 rfl hm (fun h H locs Hh hm => ?_)
  refine lv_aload_n hx hb dX9_init_73 rfl (lv_at hl 0 rfl) ?_
  refine z_newb C nl_9_40 Hh (Nat.le_of_ble_eq_true rfl) (Nat.le_of_ble_eq_true rfl) dX9_init_74 hm (fun h x7 H Hh hm => ?_)
  refine lv_dup hx hb dX9_init_77 rfl ?_
  refine z_cIv (vs := []) C (fun q hq => ct_X3_init l g h x7 q hq) ml_9_42 my_X3_init rfl hl.1 Hh ⟨Nat.le_of_ble_eq_true rfl, Nat.le_of_ble_eq_true rfl, Nat.le_of_ble_eq_true rfl, Nat.le_of_ble_eq_true rfl⟩ (Nat.le_of_ble_eq_true rfl) dX9_init_78 rfl hm (fun h H locs Hh hm => ?_)
  refine z_putRc C hnm pl_9_43_i (fun _ => ⟨rfl, rfl⟩) Hh dX9_init_81 rfl hm (fun h H locs Hh hm => ?_)
  refine lv_aload_n hx hb dX9_init_84 rfl (lv_at hl 0 rfl) ?_
  refine z_newb C nl_9_47 Hh (Nat.le_of_ble_eq_true rfl) (Nat.le_of_ble_eq_true rfl) dX9_init_85 hm (fun h x8 H Hh hm => ?_)
  refine lv_dup hx hb dX9_init_88 rfl ?_
  refine lv_aload_n hx hb dX9_init_89 rfl (lv_at hl 0 rfl) ?_
  refine z_getR C fl_9_30 Hh dX9_init_90 rfl hm (fun x9 hm => ?_)
  refine z_cIv (vs := [qR g x9]) C (fun q hq => ct_X0_init l g h x8 x9 q hq) ml_9_49 my_X0_init rfl hl.1 Hh ⟨Nat.le_of_ble_eq_true rfl, Nat.le_of_ble_eq_true rfl, Nat.le_of_ble_eq_true rfl, Nat.le_of_ble_eq_true rfl⟩ (Nat.le_of_ble_eq_true rfl) dX9_init_93 rfl hm (fun h H locs Hh hm => ?_)
  refine z_putRc C hnm pl_9_52_i (fun _ => ⟨rfl, rfl⟩) Hh dX9_init_96 rfl hm (fun h H locs Hh hm => ?_)
  refine lv_aload_n hx hb dX9_init_99 rfl (lv_at hl 0 rfl) ?_
  refine z_newb C nl_9_56 Hh (Nat.le_of_ble_eq_true rfl) (Nat.le_of_ble_eq_true rfl) dX9_init_100 hm (fun h x10 H Hh hm => ?_)
  refine lv_dup hx hb dX9_init_103 rfl ?_
  refine lv_aload_n hx hb dX9_init_104 rfl (lv_at hl 0 rfl) ?_
  refine z_getR C fl_9_52 Hh dX9_init_105 rfl hm (fun x11 hm => ?_)
  refine z_cIv (vs := [qR g x11]) C (fun q hq => ct_X6_init l g h x10 x11 q hq) ml_9_58 my_X6_init rfl hl.1 Hh ⟨Nat.le_of_ble_eq_true rfl, Nat.le_of_ble_eq_true rfl, Nat.le_of_ble_eq_true rfl, Nat.le_of_ble_eq_true rfl⟩ (Nat.le_of_ble_eq_true rfl) dX9_init_108 rfl hm (fun h H locs Hh hm => ?_)
  refine z_putRc C hnm pl_9_61_i (fun _ => ⟨rfl, rfl⟩) Hh dX9_init_111 rfl hm (fun h H locs Hh hm => ?_)
  refine lv_aload_n hx hb dX9_init_114 rfl (lv_at hl 0 rfl) ?_
  refine z_newb C nl_9_65 Hh (Nat.le_of_ble_eq_true rfl) (Nat.le_of_ble_eq_true rfl) dX9_init_115 hm (fun h x12 H Hh hm => ?_)
  refine lv_dup hx hb dX9_init_118 rfl ?_
  refine lv_aload_n hx hb dX9_init_119 rfl (lv_at hl 0 rfl) ?_
  refine z_getR C fl_9_52 Hh dX9_init_120 rfl hm (fun x13 hm => ?_)
  refine z_cIv (vs := [qR g x13]) C (fun q hq => ct_X1_init l g h x12 x13 q hq) ml_9_67 my_X1_init rfl hl.1 Hh ⟨Nat.le_of_ble_eq_true rfl, Nat.le_of_ble_eq_true rfl, Nat.le_of_ble_eq_true rfl, Nat.le_of_ble_eq_true rfl⟩ (Nat.le_of_ble_eq_true rfl) dX9_init_123 rfl hm (fun h H locs Hh hm => ?_)
  refine z_putRc C hnm pl_9_68_i (fun _ => ⟨rfl, rfl⟩) Hh dX9_init_126 rfl hm (fun h H locs Hh hm => ?_)
  refine lv_aload_n hx hb dX9_init_129 rfl (lv_at hl 0 rfl) ?_
  refine z_newb C nl_9_72 Hh (Nat.le_of_ble_eq_true rfl) (Nat.le_of_ble_eq_true rfl) dX9_init_130 hm (fun h x14 H Hh hm => ?_)
  refine lv_dup hx hb dX9_init_133 rfl ?_
  refine z_cIv (vs := []) C (fun q hq => ct_X2_init l g h x14 q hq) ml_9_74 my_X2_init rfl hl.1 Hh ⟨Nat.le_of_ble_eq_true rfl, Nat.le_of_ble_eq_true rfl, Nat.le_of_ble_eq_true rfl, Nat.le_of_ble_eq_true rfl⟩ (Nat.le_of_ble_eq_true rfl) dX9_init_134 rfl hm (fun h H locs Hh hm => ?_)
  refine z_putRc C hnm pl_9_75_i (fun _ => ⟨rfl, rfl⟩) Hh dX9_init_137 rfl hm (fun h H locs Hh hm => ?_)
  refine lv_aload_n hx hb dX9_init_140 rfl (lv_at hl 0 rfl) ?_
  refine z_bipush C dX9_init_141 rfl ?_
  refine z_newab C (t := 1) (atype := .int) (by decide) tw_222 Hh (by decide) (by decide) (Nat.le_of_ble_eq_true rfl) (Nat.le_of_ble_eq_true rfl) dX9_init_143 hm (fun h x15 H Hh hm => ?_)
  refine z_putRc C hnm pl_9_79_i (fun _ => ⟨rfl, rfl⟩) Hh dX9_init_145 rfl hm (fun h H locs Hh hm => ?_)
  refine lv_aload_n hx hb dX9_init_148 rfl (lv_at hl 0 rfl) ?_
  refine z_sipush C dX9_init_149 rfl ?_
  refine z_newab C (t := 1) (atype := .int) (by decide) tw_222 Hh (by decide) (by decide) (Nat.le_of_ble_eq_true rfl) (Nat.le_of_ble_eq_true rfl) dX9_init_152 hm (fun h x16 H Hh hm => ?_)
  refine z_putRc C hnm pl_9_82_i (fun _ => ⟨rfl, rfl⟩) Hh dX9_init_154 rfl hm (fun h H locs Hh hm => ?_)
  refine lv_aload_n hx hb dX9_init_157 rfl (lv_at hl 0 rfl) ?_
  refine z_iconst C dX9_init_158 ?_
  refine z_putI C hnm pl_9_85_i Hh dX9_init_159 rfl hm (fun h H locs Hh hm => ?_)
  refine lv_aload_n hx hb dX9_init_162 rfl (lv_at hl 0 rfl) ?_
  refine z_iconst C dX9_init_163 ?_
  refine z_putI C hnm pl_9_88_i Hh dX9_init_164 rfl hm (fun h H locs Hh hm => ?_)
  refine lv_aload_n hx hb dX9_init_167 rfl (lv_at hl 0 rfl) ?_
  refine z_iconst C dX9_init_168 ?_
  refine z_putI C hnm pl_9_91_i Hh dX9_init_169 rfl hm (fun h H locs Hh hm => ?_)
  refine W.widen (k := 123) (n := 12308) (Nat.le_of_ble_eq_true rfl) (Nat.le_of_ble_eq_true rfl) ?_
  exact z_vret C hr hlocks Hh dX9_init_172 hm
theorem tg_X9_append {h : Hp} {l0 l1 : Int} {r : Hp} (hm : M_X9_append h l0 l1 = some r) : hT h l0 = 19 := (tk_inv hm).1
set_option maxRecDepth 100000 in
set_option maxHeartbeats 4000000 in
theorem ct_X9_append (l : Launch) (g : zGeo) (h0 : Hp) (l0 l1 : Int) (r : Hp) (hm : M_X9_append h0 l0 l1 = some r) : zM l yX9_append cX9_append 3 none 0 0 0 0 g h0 [qR g l0, qI l1] r none := by
  refine z_meth (by decide) (Nat.le_of_ble_eq_true rfl) ?_
  intro p e s m args below meth c H ls C hr hlocks hnm Hh hl
  have C : zC p m c cX9_append 3 s args RX9 g := C
  have hnm : meth.name = "append" := hnm
  have hx := C.1.1
  have hb := C.1.2.1
  have hl : lv_has ls 3 [(0, qR g l0), (1, qI l1)] := hl
  unfold M_X9_append at hm
  replace hm := (tk_inv hm).2
  generalize h0 = h at Hh hm
  have K39 : ∀ (h : Hp) (H : Heap) (locs : List Loc) (ls : Array Slot), zH g s h H locs → lv_has ls 3 [] → M_X9_append_p39 h = some r → W p l e { frames := 0, cells := 0, slots := 0, locals := 0 } s m args below meth c H locs 0 0 (zQ below g r none args s 0 0) (F0 m 39 ls []) := by
    intro h  H locs ls Hh hl hm
    unfold M_X9_append_p39 at hm
    exact z_vret C hr hlocks Hh dX9_append_39 hm
  have KL3 : ∀ (n : Nat) (h : Hp) (l0 l1 l2 : Int) (H : Heap) (locs : List Loc) (ls : Array Slot), zH g s h H locs → lv_has ls 3 [(0, qR g l0), (1, qI l1), (2, qI l2)] → M_X9_append_w3 n h l0 l1 l2 = some r → W p l e { frames := 0, cells := 0, slots := 0, locals := 0 } s m args below meth c H locs 0 0 (zQ below g r none args s 0 0) (F0 m 3 ls []) := by
    intro n
    induction n with
    | zero => intro h l0 l1 l2 H locs ls Hh hl hm; cases hm
    | succ n ih3 =>
      intro h l0 l1 l2 H locs ls Hh hl hm
      obtain ⟨z3, hm, hc3⟩ := wh_inv hm
      have hm : M_X9_append_b3 h l0 l1 l2 = some z3 := hm
      unfold M_X9_append_b3 at hm
      refine lv_iload_n hx hb dX9_append_3 rfl (lv_at hl 2 rfl) ?_
      refine z_if_lt (tgt := 39) C dX9_append_4 (by decide) rfl hm (fun _ hm => ?_) (fun _ hm => ?_)
      · cases hm
        exact K39 h _ _ _ Hh (lv_sub hl [] rfl) hc3
      · refine lv_aload_n hx hb dX9_append_7 rfl (lv_at hl 0 rfl) ?_
        refine z_getR C fl_9_9 Hh dX9_append_8 rfl hm (fun x1 hm => ?_)
        refine lv_aload_n hx hb dX9_append_11 rfl (lv_at hl 0 rfl) ?_
        refine z_getI C fl_9_13 Hh dX9_append_12 rfl hm (fun x2 hm => ?_)
        refine lv_iload_n hx hb dX9_append_15 rfl (lv_at hl 1 rfl) ?_
        refine lv_iload_n hx hb dX9_append_16 rfl (lv_at hl 2 rfl) ?_
        refine z_iushr C dX9_append_17 ?_
        refine z_sipush C dX9_append_18 rfl ?_
        refine z_iand C dX9_append_21 ?_
        refine z_iast C Hh dX9_append_22 hm (fun h H locs Hh hm => ?_)
        refine lv_aload_n hx hb dX9_append_23 rfl (lv_at hl 0 rfl) ?_
        refine lv_dup hx hb dX9_append_24 rfl ?_
        refine z_getI C fl_9_13 Hh dX9_append_25 rfl hm (fun x3 hm => ?_)
        refine z_iconst C dX9_append_28 ?_
        refine z_iadd C dX9_append_29 ?_
        refine z_putI C hnm pl_9_13 Hh dX9_append_30 rfl hm (fun h H locs Hh hm => ?_)
        refine z_iinc (x := l2) (k := 2) (lv' := [(2, qI (l2 + (-8))), (0, qR g l0), (1, qI l1)]) C dX9_append_33 hl rfl (by decide) rfl (fun ls hl => ?_)
        refine lv_goto (tgt := 3) hx hb dX9_append_36 (by decide) ?_
        cases hm
        exact ih3 h l0 l1 (l2 + (-8)) _ _ _ Hh (lv_sub hl [1, 2, 0] rfl) hc3
  refine z_bipush C dX9_append_0 rfl ?_
  refine lv_istore_n (lv' := [(2, qI 24), (0, qR g l0), (1, qI l1)]) hx hb dX9_append_2 rfl hl (by decide) rfl (fun ls hl => ?_)
  exact KL3 FU h l0 l1 24 _ _ _ Hh (lv_sub hl [1, 2, 0] rfl) hm
theorem tg_X9_feed {h : Hp} {l0 l1 l2 l3 l4 l5 : Int} {r : Hp × Int} (hm : M_X9_feed h l0 l1 l2 l3 l4 l5 = some r) : hT h l0 = 19 := (tk_inv hm).1
set_option maxRecDepth 100000 in
set_option maxHeartbeats 4000000 in
theorem ct_X9_feed (l : Launch) (g : zGeo) (h0 : Hp) (l0 l1 l2 l3 l4 l5 : Int) (r : Hp × Int) (hm : M_X9_feed h0 l0 l1 l2 l3 l4 l5 = some r) : zM l yX9_feed cX9_feed 6 (some .int) 1 22 0 0 g h0 [qR g l0, qI l1, qI l2, qI l3, qI l4, qI l5] r.1 (some (qI r.2)) := by
  refine z_meth (by decide) (Nat.le_of_ble_eq_true rfl) ?_
  intro p e s m args below meth c H ls C hr hlocks hnm Hh hl
  have C : zC p m c cX9_feed 6 s args RX9 g := C
  have hnm : meth.name = "feed" := hnm
  have hx := C.1.1
  have hb := C.1.2.1
  have hl : lv_has ls 6 [(0, qR g l0), (1, qI l1), (2, qI l2), (3, qI l3), (4, qI l4), (5, qI l5)] := hl
  unfold M_X9_feed at hm
  replace hm := (tk_inv hm).2
  generalize h0 = h at Hh hm
  refine lv_aload_n hx hb dX9_feed_0 rfl (lv_at hl 0 rfl) ?_
  refine z_getI C fl_9_13 Hh dX9_feed_1 rfl hm (fun x1 hm => ?_)
  refine z_bipush C dX9_feed_4 rfl ?_
  refine z_iadd C dX9_feed_6 ?_
  refine z_sipush C dX9_feed_7 rfl ?_
  refine z_icmp_le (tgt := 15) C dX9_feed_10 (by decide) rfl lq_p900 hm (fun _ hm => ?_) (fun _ hm => ?_)
  · refine lv_aload_n hx hb dX9_feed_15 rfl (lv_at hl 0 rfl) ?_
    refine lv_iload_n hx hb dX9_feed_16 rfl (lv_at hl 1 rfl) ?_
    refine z_cVv (vs := [qI l1]) C (fun q hq => ct_X9_append l g h l0 l1 q hq) tw_499 my_X9_append (fun q hq => tg_X9_append hq) rfl hl.1 Hh ⟨Nat.le_of_ble_eq_true rfl, Nat.le_of_ble_eq_true rfl, Nat.le_of_ble_eq_true rfl, Nat.le_of_ble_eq_true rfl⟩ (Nat.le_of_ble_eq_true rfl) dX9_feed_17 rfl hm (fun h H locs Hh hm => ?_)
    refine lv_aload_n hx hb dX9_feed_20 rfl (lv_at hl 0 rfl) ?_
    refine lv_iload_n hx hb dX9_feed_21 rfl (lv_at hl 2 rfl) ?_
    refine z_cVv (vs := [qI l2]) C (fun q hq => ct_X9_append l g h l0 l2 q hq) tw_499 my_X9_append (fun q hq => tg_X9_append hq) rfl hl.1 Hh ⟨Nat.le_of_ble_eq_true rfl, Nat.le_of_ble_eq_true rfl, Nat.le_of_ble_eq_true rfl, Nat.le_of_ble_eq_true rfl⟩ (Nat.le_of_ble_eq_true rfl) dX9_feed_22 rfl hm (fun h H locs Hh hm => ?_)
    refine lv_aload_n hx hb dX9_feed_25 rfl (lv_at hl 0 rfl) ?_
    refine lv_iload_n hx hb dX9_feed_26 rfl (lv_at hl 3 rfl) ?_
    refine z_cVv (vs := [qI l3]) C (fun q hq => ct_X9_append l g h l0 l3 q hq) tw_499 my_X9_append (fun q hq => tg_X9_append hq) rfl hl.1 Hh ⟨Nat.le_of_ble_eq_true rfl, Nat.le_of_ble_eq_true rfl, Nat.le_of_ble_eq_true rfl, Nat.le_of_ble_eq_true rfl⟩ (Nat.le_of_ble_eq_true rfl) dX9_feed_27 rfl hm (fun h H locs Hh hm => ?_)
    refine lv_aload_n hx hb dX9_feed_30 rfl (lv_at hl 0 rfl) ?_
    refine lv_iload hx hb dX9_feed_31 (lv_at hl 4 rfl) ?_
    refine z_cVv (vs := [qI l4]) C (fun q hq => ct_X9_append l g h l0 l4 q hq) tw_499 my_X9_append (fun q hq => tg_X9_append hq) rfl hl.1 Hh ⟨Nat.le_of_ble_eq_true rfl, Nat.le_of_ble_eq_true rfl, Nat.le_of_ble_eq_true rfl, Nat.le_of_ble_eq_true rfl⟩ (Nat.le_of_ble_eq_true rfl) dX9_feed_33 rfl hm (fun h H locs Hh hm => ?_)
    refine lv_aload_n hx hb dX9_feed_36 rfl (lv_at hl 0 rfl) ?_
    refine lv_iload hx hb dX9_feed_37 (lv_at hl 5 rfl) ?_
    refine z_cVv (vs := [qI l5]) C (fun q hq => ct_X9_append l g h l0 l5 q hq) tw_499 my_X9_append (fun q hq => tg_X9_append hq) rfl hl.1 Hh ⟨Nat.le_of_ble_eq_true rfl, Nat.le_of_ble_eq_true rfl, Nat.le_of_ble_eq_true rfl, Nat.le_of_ble_eq_true rfl⟩ (Nat.le_of_ble_eq_true rfl) dX9_feed_39 rfl hm (fun h H locs Hh hm => ?_)
    refine lv_aload_n hx hb dX9_feed_42 rfl (lv_at hl 0 rfl) ?_
    refine z_getI C fl_9_13 Hh dX9_feed_43 rfl hm (fun x2 hm => ?_)
    exact z_iret C hr hlocks Hh dX9_feed_46 hm
  · refine z_iconst C dX9_feed_13 ?_
    exact z_iret C hr hlocks Hh dX9_feed_14 hm
theorem tg_X9_refused {h : Hp} {l0 l1 : Int} {r : Hp × Int} (hm : M_X9_refused h l0 l1 = some r) : hT h l0 = 19 := (tk_inv hm).1
set_option maxRecDepth 100000 in
set_option maxHeartbeats 4000000 in
theorem ct_X9_refused (l : Launch) (g : zGeo) (h0 : Hp) (l0 l1 : Int) (r : Hp × Int) (hm : M_X9_refused h0 l0 l1 = some r) : zM l yX9_refused cX9_refused 2 (some .int) 0 0 0 0 g h0 [qR g l0, qI l1] r.1 (some (qI r.2)) := by
  refine z_meth (by decide) (Nat.le_of_ble_eq_true rfl) ?_
  intro p e s m args below meth c H ls C hr hlocks hnm Hh hl
  have C : zC p m c cX9_refused 2 s args RX9 g := C
  have hnm : meth.name = "refused" := hnm
  have hx := C.1.1
  have hb := C.1.2.1
  have hl : lv_has ls 2 [(0, qR g l0), (1, qI l1)] := hl
  unfold M_X9_refused at hm
  replace hm := (tk_inv hm).2
  generalize h0 = h at Hh hm
  refine lv_aload_n hx hb dX9_refused_0 rfl (lv_at hl 0 rfl) ?_
  refine lv_iload_n hx hb dX9_refused_1 rfl (lv_at hl 1 rfl) ?_
  refine z_putI C hnm pl_9_85 Hh dX9_refused_2 rfl hm (fun h H locs Hh hm => ?_)
  refine z_iconst C dX9_refused_5 ?_
  exact z_iret C hr hlocks Hh dX9_refused_6 hm
theorem tg_X9_answered {h : Hp} {l0 l1 : Int} {r : Hp × Int} (hm : M_X9_answered h l0 l1 = some r) : hT h l0 = 19 := (tk_inv hm).1
set_option maxRecDepth 100000 in
set_option maxHeartbeats 4000000 in
theorem ct_X9_answered (l : Launch) (g : zGeo) (h0 : Hp) (l0 l1 : Int) (r : Hp × Int) (hm : M_X9_answered h0 l0 l1 = some r) : zM l yX9_answered cX9_answered 2 (some .int) 0 0 0 0 g h0 [qR g l0, qI l1] r.1 (some (qI r.2)) := by
  refine z_meth (by decide) (Nat.le_of_ble_eq_true rfl) ?_
  intro p e s m args below meth c H ls C hr hlocks hnm Hh hl
  have C : zC p m c cX9_answered 2 s args RX9 g := C
  have hnm : meth.name = "answered" := hnm
  have hx := C.1.1
  have hb := C.1.2.1
  have hl : lv_has ls 2 [(0, qR g l0), (1, qI l1)] := hl
  unfold M_X9_answered at hm
  replace hm := (tk_inv hm).2
  generalize h0 = h at Hh hm
  refine lv_aload_n hx hb dX9_answered_0 rfl (lv_at hl 0 rfl) ?_
  refine z_iconst C dX9_answered_1 ?_
  refine z_putI C hnm pl_9_85 Hh dX9_answered_2 rfl hm (fun h H locs Hh hm => ?_)
  refine lv_iload_n hx hb dX9_answered_5 rfl (lv_at hl 1 rfl) ?_
  exact z_iret C hr hlocks Hh dX9_answered_6 hm
theorem tg_X9_ring {h : Hp} {l0 l1 : Int} {r : Hp × Int} (hm : M_X9_ring h l0 l1 = some r) : hT h l0 = 19 := (tk_inv hm).1
set_option maxRecDepth 100000 in
set_option maxHeartbeats 4000000 in
theorem ct_X9_ring (l : Launch) (g : zGeo) (h0 : Hp) (l0 l1 : Int) (r : Hp × Int) (hm : M_X9_ring h0 l0 l1 = some r) : zM l yX9_ring cX9_ring 5 (some .int) 11 282 1 10 g h0 [qR g l0, qI l1] r.1 (some (qI r.2)) := by
  refine z_meth (by decide) (Nat.le_of_ble_eq_true rfl) ?_
  intro p e s m args below meth c H ls C hr hlocks hnm Hh hl
  have C : zC p m c cX9_ring 5 s args RX9 g := C
  have hnm : meth.name = "ring" := hnm
  have hx := C.1.1
  have hb := C.1.2.1
  have hl : lv_has ls 5 [(0, qR g l0), (1, qI l1)] := hl
  unfold M_X9_ring at hm
  replace hm := (tk_inv hm).2
  generalize h0 = h at Hh hm
  refine lv_iload_n hx hb dX9_ring_0 rfl (lv_at hl 1 rfl) ?_
  refine z_if_lt (tgt := 12) C dX9_ring_1 (by decide) rfl hm (fun _ hm => ?_) (fun _ hm => ?_)
  · refine lv_aload_n hx hb dX9_ring_12 rfl (lv_at hl 0 rfl) ?_
    refine z_iconst C dX9_ring_13 ?_
    refine z_cVI (vs := [qI 2]) C (fun q hq => ct_X9_refused l g h l0 2 q hq) tw_507 my_X9_refused (fun q hq => tg_X9_refused hq) rfl hl.1 Hh ⟨Nat.le_of_ble_eq_true rfl, Nat.le_of_ble_eq_true rfl, Nat.le_of_ble_eq_true rfl, Nat.le_of_ble_eq_true rfl⟩ (Nat.le_of_ble_eq_true rfl) dX9_ring_14 rfl hm (fun h x1 H locs Hh hm => ?_)
    refine W.widen (k := 1) (n := 10) (Nat.le_of_ble_eq_true rfl) (Nat.le_of_ble_eq_true rfl) ?_
    exact z_iret C hr hlocks Hh dX9_ring_17 hm
  · refine lv_iload_n hx hb dX9_ring_4 rfl (lv_at hl 1 rfl) ?_
    refine lv_aload_n hx hb dX9_ring_5 rfl (lv_at hl 0 rfl) ?_
    refine z_getI C fl_9_13 Hh dX9_ring_6 rfl hm (fun x2 hm => ?_)
    refine z_icmp_le (tgt := 18) C dX9_ring_9 (by decide) rfl rfl hm (fun _ hm => ?_) (fun _ hm => ?_)
    · refine lv_aload_n hx hb dX9_ring_18 rfl (lv_at hl 0 rfl) ?_
      refine z_iconst C dX9_ring_19 ?_
      refine z_putI C hnm pl_9_13 Hh dX9_ring_20 rfl hm (fun h H locs Hh hm => ?_)
      refine z_newb C nl_9_102 Hh (Nat.le_of_ble_eq_true rfl) (Nat.le_of_ble_eq_true rfl) dX9_ring_23 hm (fun h x3 H Hh hm => ?_)
      refine lv_dup hx hb dX9_ring_26 rfl ?_
      refine lv_aload_n hx hb dX9_ring_27 rfl (lv_at hl 0 rfl) ?_
      refine z_getR C fl_9_9 Hh dX9_ring_28 rfl hm (fun x4 hm => ?_)
      refine lv_iload_n hx hb dX9_ring_31 rfl (lv_at hl 1 rfl) ?_
      refine lv_aload_n hx hb dX9_ring_32 rfl (lv_at hl 0 rfl) ?_
      refine z_getR C fl_9_24 Hh dX9_ring_33 rfl hm (fun x5 hm => ?_)
      refine z_cIv (vs := [qR g x4, qI l1, qR g x5]) C (fun q hq => ct_X4_init l g h x3 x4 l1 x5 q hq) ml_9_104 my_X4_init rfl hl.1 Hh ⟨Nat.le_of_ble_eq_true rfl, Nat.le_of_ble_eq_true rfl, Nat.le_of_ble_eq_true rfl, Nat.le_of_ble_eq_true rfl⟩ (Nat.le_of_ble_eq_true rfl) dX9_ring_36 rfl hm (fun h H locs Hh hm => ?_)
      refine lv_astore_n (lv' := [(2, qR g x3), (0, qR g l0), (1, qI l1)]) hx hb dX9_ring_39 rfl hl (by decide) rfl (fun ls hl => ?_)
      refine lv_aload_n hx hb dX9_ring_40 rfl (lv_at hl 0 rfl) ?_
      refine z_cVI (vs := []) C (fun q hq => ct_X4_read l g h x3 q hq) tw_553 my_X4_read (fun q hq => tg_X4_read hq) rfl hl.1 Hh ⟨Nat.le_of_ble_eq_true rfl, Nat.le_of_ble_eq_true rfl, Nat.le_of_ble_eq_true rfl, Nat.le_of_ble_eq_true rfl⟩ (Nat.le_of_ble_eq_true rfl) dX9_ring_41 rfl hm (fun h x6 H locs Hh hm => ?_)
      refine lv_istore_n (lv' := [(3, qI x6), (2, qR g x3), (0, qR g l0), (1, qI l1)]) hx hb dX9_ring_44 rfl hl (by decide) rfl (fun ls hl => ?_)
      refine lv_aload_n hx hb dX9_ring_45 rfl (lv_at hl 2 rfl) ?_
      refine lv_aload_n hx hb dX9_ring_46 rfl (lv_at hl 1 rfl) ?_
      refine z_getI C fl_9_111 Hh dX9_ring_47 rfl hm (fun x7 hm => ?_)
      refine z_putI C hnm pl_9_88 Hh dX9_ring_50 rfl hm (fun h H locs Hh hm => ?_)
      refine lv_aload_n hx hb dX9_ring_53 rfl (lv_at hl 2 rfl) ?_
      refine lv_aload_n hx hb dX9_ring_54 rfl (lv_at hl 1 rfl) ?_
      refine z_getI C fl_9_114 Hh dX9_ring_55 rfl hm (fun x8 hm => ?_)
      refine z_putI C hnm pl_9_91 Hh dX9_ring_58 rfl hm (fun h H locs Hh hm => ?_)
      refine lv_iload_n hx hb dX9_ring_61 rfl (lv_at hl 0 rfl) ?_
      refine z_if_ne (tgt := 71) C dX9_ring_62 (by decide) rfl hm (fun _ hm => ?_) (fun _ hm => ?_)
      · refine lv_aload_n hx hb dX9_ring_71 rfl (lv_at hl 2 rfl) ?_
        refine z_getR C fl_9_20 Hh dX9_ring_72 rfl hm (fun x9 hm => ?_)
        refine lv_astore (lv' := [(4, qR g x9), (3, qI x6), (2, qR g x3), (0, qR g l0), (1, qI l1)]) hx hb dX9_ring_75 hl (by decide) rfl (fun ls hl => ?_)
        refine lv_aload_n hx hb dX9_ring_77 rfl (lv_at hl 3 rfl) ?_
        refine lv_aload_n hx hb dX9_ring_78 rfl (lv_at hl 3 rfl) ?_
        refine z_getR C fl_9_24 Hh dX9_ring_79 rfl hm (fun x10 hm => ?_)
        refine z_putRc C hnm pl_9_20 (fun _ => ⟨rfl, rfl⟩) Hh dX9_ring_82 rfl hm (fun h H locs Hh hm => ?_)
        refine lv_aload_n hx hb dX9_ring_85 rfl (lv_at hl 3 rfl) ?_
        refine lv_aload hx hb dX9_ring_86 (lv_at hl 0 rfl) ?_
        refine z_putRc C hnm pl_9_24 (fun _ => ⟨rfl, rfl⟩) Hh dX9_ring_88 rfl hm (fun h H locs Hh hm => ?_)
        refine lv_aload_n hx hb dX9_ring_91 rfl (lv_at hl 3 rfl) ?_
        refine z_getR C fl_9_30 Hh dX9_ring_92 rfl hm (fun x11 hm => ?_)
        refine lv_aload_n hx hb dX9_ring_95 rfl (lv_at hl 3 rfl) ?_
        refine z_getR C fl_9_20 Hh dX9_ring_96 rfl hm (fun x12 hm => ?_)
        refine z_getR C fl_9_117 Hh dX9_ring_99 rfl hm (fun x13 hm => ?_)
        refine z_cVv (vs := [qR g x13]) C (fun q hq => ct_X8_become l g h x11 x13 q hq) tw_756 my_X8_become (fun q hq => tg_X8_become hq) rfl hl.1 Hh ⟨Nat.le_of_ble_eq_true rfl, Nat.le_of_ble_eq_true rfl, Nat.le_of_ble_eq_true rfl, Nat.le_of_ble_eq_true rfl⟩ (Nat.le_of_ble_eq_true rfl) dX9_ring_102 rfl hm (fun h H locs Hh hm => ?_)
        refine lv_aload_n hx hb dX9_ring_105 rfl (lv_at hl 3 rfl) ?_
        refine z_getR C fl_9_43 Hh dX9_ring_106 rfl hm (fun x14 hm => ?_)
        refine z_cVv (vs := []) C (fun q hq => ct_X3_forgetAll l g h x14 q hq) tw_763 my_X3_forgetAll (fun q hq => tg_X3_forgetAll hq) rfl hl.1 Hh ⟨Nat.le_of_ble_eq_true rfl, Nat.le_of_ble_eq_true rfl, Nat.le_of_ble_eq_true rfl, Nat.le_of_ble_eq_true rfl⟩ (Nat.le_of_ble_eq_true rfl) dX9_ring_109 rfl hm (fun h H locs Hh hm => ?_)
        refine lv_aload_n hx hb dX9_ring_112 rfl (lv_at hl 3 rfl) ?_
        refine z_getR C fl_9_68 Hh dX9_ring_113 rfl hm (fun x15 hm => ?_)
        refine z_iconst C dX9_ring_116 ?_
        refine z_putZ C hnm pl_9_126 Hh dX9_ring_117 rfl hm (fun h H locs Hh hm => ?_)
        refine lv_aload_n hx hb dX9_ring_120 rfl (lv_at hl 3 rfl) ?_
        refine lv_aload_n hx hb dX9_ring_121 rfl (lv_at hl 3 rfl) ?_
        refine z_getR C fl_9_30 Hh dX9_ring_122 rfl hm (fun x16 hm => ?_)
        refine z_getI C fl_9_130 Hh dX9_ring_125 rfl hm (fun x17 hm => ?_)
        refine z_cVI (vs := [qI x17]) C (fun q hq => ct_X9_answered l g h l0 x17 q hq) tw_767 my_X9_answered (fun q hq => tg_X9_answered hq) rfl hl.1 Hh ⟨Nat.le_of_ble_eq_true rfl, Nat.le_of_ble_eq_true rfl, Nat.le_of_ble_eq_true rfl, Nat.le_of_ble_eq_true rfl⟩ (Nat.le_of_ble_eq_true rfl) dX9_ring_128 rfl hm (fun h x18 H locs Hh hm => ?_)
        refine W.widen (k := 1) (n := 10) (Nat.le_of_ble_eq_true rfl) (Nat.le_of_ble_eq_true rfl) ?_
        exact z_iret C hr hlocks Hh dX9_ring_131 hm
      · refine lv_aload_n hx hb dX9_ring_65 rfl (lv_at hl 2 rfl) ?_
        refine z_iconst C dX9_ring_66 ?_
        refine z_cVI (vs := [qI 4]) C (fun q hq => ct_X9_refused l g h l0 4 q hq) tw_507 my_X9_refused (fun q hq => tg_X9_refused hq) rfl hl.1 Hh ⟨Nat.le_of_ble_eq_true rfl, Nat.le_of_ble_eq_true rfl, Nat.le_of_ble_eq_true rfl, Nat.le_of_ble_eq_true rfl⟩ (Nat.le_of_ble_eq_true rfl) dX9_ring_67 rfl hm (fun h x19 H locs Hh hm => ?_)
        refine W.widen (k := 1) (n := 10) (Nat.le_of_ble_eq_true rfl) (Nat.le_of_ble_eq_true rfl) ?_
        exact z_iret C hr hlocks Hh dX9_ring_70 hm
    · refine lv_aload_n hx hb dX9_ring_12 rfl (lv_at hl 0 rfl) ?_
      refine z_iconst C dX9_ring_13 ?_
      refine z_cVI (vs := [qI 2]) C (fun q hq => ct_X9_refused l g h l0 2 q hq) tw_507 my_X9_refused (fun q hq => tg_X9_refused hq) rfl hl.1 Hh ⟨Nat.le_of_ble_eq_true rfl, Nat.le_of_ble_eq_true rfl, Nat.le_of_ble_eq_true rfl, Nat.le_of_ble_eq_true rfl⟩ (Nat.le_of_ble_eq_true rfl) dX9_ring_14 rfl hm (fun h x20 H locs Hh hm => ?_)
      refine W.widen (k := 1) (n := 10) (Nat.le_of_ble_eq_true rfl) (Nat.le_of_ble_eq_true rfl) ?_
      exact z_iret C hr hlocks Hh dX9_ring_17 hm
theorem tg_X9_fault {h : Hp} {l0 : Int} {r : Int} (hm : M_X9_fault h l0 = some r) : hT h l0 = 19 := (tk_inv hm).1
set_option maxRecDepth 100000 in
set_option maxHeartbeats 4000000 in
theorem ct_X9_fault (l : Launch) (g : zGeo) (h : Hp) (l0 : Int) (r : Int) (hm : M_X9_fault h l0 = some r) : zM l yX9_fault cX9_fault 1 (some .int) 0 0 0 0 g h [qR g l0] h (some (qI r)) := by
  refine z_meth (by decide) (Nat.le_of_ble_eq_true rfl) ?_
  intro p e s m args below meth c H ls C hr hlocks hnm Hh hl
  have C : zC p m c cX9_fault 1 s args RX9 g := C
  have hnm : meth.name = "fault" := hnm
  have hx := C.1.1
  have hb := C.1.2.1
  have hl : lv_has ls 1 [(0, qR g l0)] := hl
  unfold M_X9_fault at hm
  replace hm := (tk_inv hm).2
  refine lv_aload_n hx hb dX9_fault_0 rfl (lv_at hl 0 rfl) ?_
  refine z_getI C fl_9_88 Hh dX9_fault_1 rfl hm (fun x1 hm => ?_)
  exact z_iretR (h0 := h) C hr hlocks Hh dX9_fault_4 hm
theorem tg_X9_where {h : Hp} {l0 : Int} {r : Int} (hm : M_X9_where h l0 = some r) : hT h l0 = 19 := (tk_inv hm).1
set_option maxRecDepth 100000 in
set_option maxHeartbeats 4000000 in
theorem ct_X9_where (l : Launch) (g : zGeo) (h : Hp) (l0 : Int) (r : Int) (hm : M_X9_where h l0 = some r) : zM l yX9_where cX9_where 1 (some .int) 0 0 0 0 g h [qR g l0] h (some (qI r)) := by
  refine z_meth (by decide) (Nat.le_of_ble_eq_true rfl) ?_
  intro p e s m args below meth c H ls C hr hlocks hnm Hh hl
  have C : zC p m c cX9_where 1 s args RX9 g := C
  have hnm : meth.name = "where" := hnm
  have hx := C.1.1
  have hb := C.1.2.1
  have hl : lv_has ls 1 [(0, qR g l0)] := hl
  unfold M_X9_where at hm
  replace hm := (tk_inv hm).2
  refine lv_aload_n hx hb dX9_where_0 rfl (lv_at hl 0 rfl) ?_
  refine z_getI C fl_9_85 Hh dX9_where_1 rfl hm (fun x1 hm => ?_)
  refine z_iconst C dX9_where_4 ?_
  refine z_icmp_ne (tgt := 15) C dX9_where_5 (by decide) rfl lq_p4 hm (fun _ hm => ?_) (fun _ hm => ?_)
  · refine z_iconst C dX9_where_15 ?_
    exact z_iretR (h0 := h) C hr hlocks Hh dX9_where_16 hm
  · refine lv_aload_n hx hb dX9_where_8 rfl (lv_at hl 0 rfl) ?_
    refine z_getI C fl_9_91 Hh dX9_where_9 rfl hm (fun x2 hm => ?_)
    refine lv_goto (tgt := 16) hx hb dX9_where_12 (by decide) ?_
    exact z_iretR (h0 := h) C hr hlocks Hh dX9_where_16 hm
theorem tg_X9_isTown {h : Hp} {l0 l1 : Int} {r : Int} (hm : M_X9_isTown h l0 l1 = some r) : hT h l0 = 19 := (tk_inv hm).1
set_option maxRecDepth 100000 in
set_option maxHeartbeats 4000000 in
theorem ct_X9_isTown (l : Launch) (g : zGeo) (h : Hp) (l0 l1 : Int) (r : Int) (hm : M_X9_isTown h l0 l1 = some r) : zM l yX9_isTown cX9_isTown 2 (some .boolean) 0 0 0 0 g h [qR g l0, qI l1] h (some (qI r)) := by
  refine z_meth (by decide) (Nat.le_of_ble_eq_true rfl) ?_
  intro p e s m args below meth c H ls C hr hlocks hnm Hh hl
  have C : zC p m c cX9_isTown 2 s args RX9 g := C
  have hnm : meth.name = "isTown" := hnm
  have hx := C.1.1
  have hb := C.1.2.1
  have hl : lv_has ls 2 [(0, qR g l0), (1, qI l1)] := hl
  unfold M_X9_isTown at hm
  replace hm := (tk_inv hm).2
  refine lv_iload_n hx hb dX9_isTown_0 rfl (lv_at hl 1 rfl) ?_
  refine z_if_lt (tgt := 19) C dX9_isTown_1 (by decide) rfl hm (fun _ hm => ?_) (fun _ hm => ?_)
  · refine z_iconst C dX9_isTown_19 ?_
    exact z_zretRC C hr hlocks Hh dX9_isTown_20 (by decide) hm
  · refine lv_iload_n hx hb dX9_isTown_4 rfl (lv_at hl 1 rfl) ?_
    refine lv_aload_n hx hb dX9_isTown_5 rfl (lv_at hl 0 rfl) ?_
    refine z_getR C fl_9_30 Hh dX9_isTown_6 rfl hm (fun x1 hm => ?_)
    refine z_getI C fl_9_130 Hh dX9_isTown_9 rfl hm (fun x2 hm => ?_)
    refine z_icmp_ge (tgt := 19) C dX9_isTown_12 (by decide) rfl rfl hm (fun _ hm => ?_) (fun _ hm => ?_)
    · refine z_iconst C dX9_isTown_19 ?_
      exact z_zretRC C hr hlocks Hh dX9_isTown_20 (by decide) hm
    · refine z_iconst C dX9_isTown_15 ?_
      refine lv_goto (tgt := 20) hx hb dX9_isTown_16 (by decide) ?_
      exact z_zretRC C hr hlocks Hh dX9_isTown_20 (by decide) hm
theorem tg_X9_copies {h : Hp} {l0 l1 : Int} {r : Hp × Int} (hm : M_X9_copies h l0 l1 = some r) : hT h l0 = 19 := (tk_inv hm).1
set_option maxRecDepth 100000 in
set_option maxHeartbeats 4000000 in
theorem ct_X9_copies (l : Launch) (g : zGeo) (h0 : Hp) (l0 l1 : Int) (r : Hp × Int) (hm : M_X9_copies h0 l0 l1 = some r) : zM l yX9_copies cX9_copies 2 (some .int) 1 21 0 0 g h0 [qR g l0, qI l1] r.1 (some (qI r.2)) := by
  refine z_meth (by decide) (Nat.le_of_ble_eq_true rfl) ?_
  intro p e s m args below meth c H ls C hr hlocks hnm Hh hl
  have C : zC p m c cX9_copies 2 s args RX9 g := C
  have hnm : meth.name = "copies" := hnm
  have hx := C.1.1
  have hb := C.1.2.1
  have hl : lv_has ls 2 [(0, qR g l0), (1, qI l1)] := hl
  unfold M_X9_copies at hm
  replace hm := (tk_inv hm).2
  generalize h0 = h at Hh hm
  refine lv_aload_n hx hb dX9_copies_0 rfl (lv_at hl 0 rfl) ?_
  refine lv_iload_n hx hb dX9_copies_1 rfl (lv_at hl 1 rfl) ?_
  refine z_cVIr (vs := [qI l1]) C (fun q hq => ct_X9_isTown l g h l0 l1 q hq) tw_784 my_X9_isTown (fun q hq => tg_X9_isTown hq) rfl hl.1 Hh ⟨Nat.le_of_ble_eq_true rfl, Nat.le_of_ble_eq_true rfl, Nat.le_of_ble_eq_true rfl, Nat.le_of_ble_eq_true rfl⟩ (Nat.le_of_ble_eq_true rfl) dX9_copies_2 rfl hm (fun x1 H locs Hh hm => ?_)
  refine z_if_ne (tgt := 14) C dX9_copies_5 (by decide) rfl hm (fun _ hm => ?_) (fun _ hm => ?_)
  · refine lv_aload_n hx hb dX9_copies_14 rfl (lv_at hl 0 rfl) ?_
    refine lv_aload_n hx hb dX9_copies_15 rfl (lv_at hl 0 rfl) ?_
    refine z_getR C fl_9_30 Hh dX9_copies_16 rfl hm (fun x2 hm => ?_)
    refine z_getR C fl_9_140 Hh dX9_copies_19 rfl hm (fun x3 hm => ?_)
    refine lv_iload_n hx hb dX9_copies_22 rfl (lv_at hl 1 rfl) ?_
    refine z_iald C Hh dX9_copies_23 hm (fun x4 hm => ?_)
    refine z_cVI (vs := [qI x4]) C (fun q hq => ct_X9_answered l g h l0 x4 q hq) tw_767 my_X9_answered (fun q hq => tg_X9_answered hq) rfl hl.1 Hh ⟨Nat.le_of_ble_eq_true rfl, Nat.le_of_ble_eq_true rfl, Nat.le_of_ble_eq_true rfl, Nat.le_of_ble_eq_true rfl⟩ (Nat.le_of_ble_eq_true rfl) dX9_copies_24 rfl hm (fun h x5 H locs Hh hm => ?_)
    exact z_iret C hr hlocks Hh dX9_copies_27 hm
  · refine lv_aload_n hx hb dX9_copies_8 rfl (lv_at hl 0 rfl) ?_
    refine z_iconst C dX9_copies_9 ?_
    refine z_cVI (vs := [qI 1]) C (fun q hq => ct_X9_refused l g h l0 1 q hq) tw_507 my_X9_refused (fun q hq => tg_X9_refused hq) rfl hl.1 Hh ⟨Nat.le_of_ble_eq_true rfl, Nat.le_of_ble_eq_true rfl, Nat.le_of_ble_eq_true rfl, Nat.le_of_ble_eq_true rfl⟩ (Nat.le_of_ble_eq_true rfl) dX9_copies_10 rfl hm (fun h x6 H locs Hh hm => ?_)
    exact z_iret C hr hlocks Hh dX9_copies_13 hm
theorem tg_X9_error {h : Hp} {l0 l1 l2 : Int} {r : Hp × Int} (hm : M_X9_error h l0 l1 l2 = some r) : hT h l0 = 19 := (tk_inv hm).1
set_option maxRecDepth 100000 in
set_option maxHeartbeats 4000000 in
theorem ct_X9_error (l : Launch) (g : zGeo) (h0 : Hp) (l0 l1 l2 : Int) (r : Hp × Int) (hm : M_X9_error h0 l0 l1 l2 = some r) : zM l yX9_error cX9_error 3 (some .int) 1 21 0 0 g h0 [qR g l0, qI l1, qI l2] r.1 (some (qI r.2)) := by
  refine z_meth (by decide) (Nat.le_of_ble_eq_true rfl) ?_
  intro p e s m args below meth c H ls C hr hlocks hnm Hh hl
  have C : zC p m c cX9_error 3 s args RX9 g := C
  have hnm : meth.name = "error" := hnm
  have hx := C.1.1
  have hb := C.1.2.1
  have hl : lv_has ls 3 [(0, qR g l0), (1, qI l1), (2, qI l2)] := hl
  unfold M_X9_error at hm
  replace hm := (tk_inv hm).2
  generalize h0 = h at Hh hm
  refine lv_aload_n hx hb dX9_error_0 rfl (lv_at hl 0 rfl) ?_
  refine lv_iload_n hx hb dX9_error_1 rfl (lv_at hl 1 rfl) ?_
  refine z_cVIr (vs := [qI l1]) C (fun q hq => ct_X9_isTown l g h l0 l1 q hq) tw_784 my_X9_isTown (fun q hq => tg_X9_isTown hq) rfl hl.1 Hh ⟨Nat.le_of_ble_eq_true rfl, Nat.le_of_ble_eq_true rfl, Nat.le_of_ble_eq_true rfl, Nat.le_of_ble_eq_true rfl⟩ (Nat.le_of_ble_eq_true rfl) dX9_error_2 rfl hm (fun x1 H locs Hh hm => ?_)
  refine z_if_eq (tgt := 17) C dX9_error_5 (by decide) rfl hm (fun _ hm => ?_) (fun _ hm => ?_)
  · refine lv_aload_n hx hb dX9_error_17 rfl (lv_at hl 0 rfl) ?_
    refine z_iconst C dX9_error_18 ?_
    refine z_cVI (vs := [qI 1]) C (fun q hq => ct_X9_refused l g h l0 1 q hq) tw_507 my_X9_refused (fun q hq => tg_X9_refused hq) rfl hl.1 Hh ⟨Nat.le_of_ble_eq_true rfl, Nat.le_of_ble_eq_true rfl, Nat.le_of_ble_eq_true rfl, Nat.le_of_ble_eq_true rfl⟩ (Nat.le_of_ble_eq_true rfl) dX9_error_19 rfl hm (fun h x2 H locs Hh hm => ?_)
    exact z_iret C hr hlocks Hh dX9_error_22 hm
  · refine lv_iload_n hx hb dX9_error_8 rfl (lv_at hl 2 rfl) ?_
    refine z_if_lt (tgt := 17) C dX9_error_9 (by decide) rfl hm (fun _ hm => ?_) (fun _ hm => ?_)
    · refine lv_aload_n hx hb dX9_error_17 rfl (lv_at hl 0 rfl) ?_
      refine z_iconst C dX9_error_18 ?_
      refine z_cVI (vs := [qI 1]) C (fun q hq => ct_X9_refused l g h l0 1 q hq) tw_507 my_X9_refused (fun q hq => tg_X9_refused hq) rfl hl.1 Hh ⟨Nat.le_of_ble_eq_true rfl, Nat.le_of_ble_eq_true rfl, Nat.le_of_ble_eq_true rfl, Nat.le_of_ble_eq_true rfl⟩ (Nat.le_of_ble_eq_true rfl) dX9_error_19 rfl hm (fun h x3 H locs Hh hm => ?_)
      exact z_iret C hr hlocks Hh dX9_error_22 hm
    · refine lv_iload_n hx hb dX9_error_12 rfl (lv_at hl 2 rfl) ?_
      refine z_iconst C dX9_error_13 ?_
      refine z_icmp_lt (tgt := 23) C dX9_error_14 (by decide) rfl lq_p4 hm (fun _ hm => ?_) (fun _ hm => ?_)
      · refine lv_aload_n hx hb dX9_error_23 rfl (lv_at hl 0 rfl) ?_
        refine lv_aload_n hx hb dX9_error_24 rfl (lv_at hl 0 rfl) ?_
        refine z_getR C fl_9_30 Hh dX9_error_25 rfl hm (fun x4 hm => ?_)
        refine z_getR C fl_9_143 Hh dX9_error_28 rfl hm (fun x5 hm => ?_)
        refine z_iconst C dX9_error_31 ?_
        refine lv_iload_n hx hb dX9_error_32 rfl (lv_at hl 1 rfl) ?_
        refine z_imul C dX9_error_33 ?_
        refine lv_iload_n hx hb dX9_error_34 rfl (lv_at hl 2 rfl) ?_
        refine z_iadd C dX9_error_35 ?_
        refine z_iald C Hh dX9_error_36 hm (fun x6 hm => ?_)
        refine z_cVI (vs := [qI x6]) C (fun q hq => ct_X9_answered l g h l0 x6 q hq) tw_767 my_X9_answered (fun q hq => tg_X9_answered hq) rfl hl.1 Hh ⟨Nat.le_of_ble_eq_true rfl, Nat.le_of_ble_eq_true rfl, Nat.le_of_ble_eq_true rfl, Nat.le_of_ble_eq_true rfl⟩ (Nat.le_of_ble_eq_true rfl) dX9_error_37 rfl hm (fun h x7 H locs Hh hm => ?_)
        exact z_iret C hr hlocks Hh dX9_error_40 hm
      · refine lv_aload_n hx hb dX9_error_17 rfl (lv_at hl 0 rfl) ?_
        refine z_iconst C dX9_error_18 ?_
        refine z_cVI (vs := [qI 1]) C (fun q hq => ct_X9_refused l g h l0 1 q hq) tw_507 my_X9_refused (fun q hq => tg_X9_refused hq) rfl hl.1 Hh ⟨Nat.le_of_ble_eq_true rfl, Nat.le_of_ble_eq_true rfl, Nat.le_of_ble_eq_true rfl, Nat.le_of_ble_eq_true rfl⟩ (Nat.le_of_ble_eq_true rfl) dX9_error_19 rfl hm (fun h x8 H locs Hh hm => ?_)
        exact z_iret C hr hlocks Hh dX9_error_22 hm
theorem tg_X9_isPlace {h : Hp} {l0 l1 : Int} {r : Int} (hm : M_X9_isPlace h l0 l1 = some r) : hT h l0 = 19 := (tk_inv hm).1
set_option maxRecDepth 100000 in
set_option maxHeartbeats 4000000 in
theorem ct_X9_isPlace (l : Launch) (g : zGeo) (h : Hp) (l0 l1 : Int) (r : Int) (hm : M_X9_isPlace h l0 l1 = some r) : zM l yX9_isPlace cX9_isPlace 2 (some .boolean) 0 0 0 0 g h [qR g l0, qI l1] h (some (qI r)) := by
  refine z_meth (by decide) (Nat.le_of_ble_eq_true rfl) ?_
  intro p e s m args below meth c H ls C hr hlocks hnm Hh hl
  have C : zC p m c cX9_isPlace 2 s args RX9 g := C
  have hnm : meth.name = "isPlace" := hnm
  have hx := C.1.1
  have hb := C.1.2.1
  have hl : lv_has ls 2 [(0, qR g l0), (1, qI l1)] := hl
  unfold M_X9_isPlace at hm
  replace hm := (tk_inv hm).2
  refine lv_iload_n hx hb dX9_isPlace_0 rfl (lv_at hl 1 rfl) ?_
  refine z_if_lt (tgt := 36) C dX9_isPlace_1 (by decide) rfl hm (fun _ hm => ?_) (fun _ hm => ?_)
  · refine z_iconst C dX9_isPlace_36 ?_
    exact z_zretRC C hr hlocks Hh dX9_isPlace_37 (by decide) hm
  · refine lv_iload_n hx hb dX9_isPlace_4 rfl (lv_at hl 1 rfl) ?_
    refine z_bipush C dX9_isPlace_5 rfl ?_
    refine z_idiv C dX9_isPlace_7 hm (fun x1 hm => ?_)
    refine lv_aload_n hx hb dX9_isPlace_8 rfl (lv_at hl 0 rfl) ?_
    refine z_getR C fl_9_30 Hh dX9_isPlace_9 rfl hm (fun x2 hm => ?_)
    refine z_getI C fl_9_325 Hh dX9_isPlace_12 rfl hm (fun x3 hm => ?_)
    refine z_icmp_ge (tgt := 36) C dX9_isPlace_15 (by decide) rfl rfl hm (fun _ hm => ?_) (fun _ hm => ?_)
    · refine z_iconst C dX9_isPlace_36 ?_
      exact z_zretRC C hr hlocks Hh dX9_isPlace_37 (by decide) hm
    · refine lv_iload_n hx hb dX9_isPlace_18 rfl (lv_at hl 1 rfl) ?_
      refine z_bipush C dX9_isPlace_19 rfl ?_
      refine z_irem C dX9_isPlace_21 hm (fun x4 hm => ?_)
      refine lv_aload_n hx hb dX9_isPlace_22 rfl (lv_at hl 0 rfl) ?_
      refine z_getR C fl_9_30 Hh dX9_isPlace_23 rfl hm (fun x5 hm => ?_)
      refine z_getI C fl_9_328 Hh dX9_isPlace_26 rfl hm (fun x6 hm => ?_)
      refine z_icmp_ge (tgt := 36) C dX9_isPlace_29 (by decide) rfl rfl hm (fun _ hm => ?_) (fun _ hm => ?_)
      · refine z_iconst C dX9_isPlace_36 ?_
        exact z_zretRC C hr hlocks Hh dX9_isPlace_37 (by decide) hm
      · refine z_iconst C dX9_isPlace_32 ?_
        refine lv_goto (tgt := 37) hx hb dX9_isPlace_33 (by decide) ?_
        exact z_zretRC C hr hlocks Hh dX9_isPlace_37 (by decide) hm
set_option maxRecDepth 100000 in
set_option maxHeartbeats 4000000 in
theorem ct_X9_inner (l : Launch) (g : zGeo) (h : Hp) (l0 : Int) (r : Int) (hm : M_X9_inner h l0 = some r) : zM l yX9_inner cX9_inner 1 (some .int) 0 0 0 0 g h [qI l0] h (some (qI r)) := by
  refine z_meth (by decide) (Nat.le_of_ble_eq_true rfl) ?_
  intro p e s m args below meth c H ls C hr hlocks hnm Hh hl
  have C : zC p m c cX9_inner 1 s args RX9 g := C
  have hnm : meth.name = "inner" := hnm
  have hx := C.1.1
  have hb := C.1.2.1
  have hl : lv_has ls 1 [(0, qI l0)] := hl
  unfold M_X9_inner at hm
  refine z_bipush C dX9_inner_0 rfl ?_
  refine lv_iload_n hx hb dX9_inner_2 rfl (lv_at hl 0 rfl) ?_
  refine z_bipush C dX9_inner_3 rfl ?_
  refine z_irem C dX9_inner_5 hm (fun x1 hm => ?_)
  refine z_imul C dX9_inner_6 ?_
  refine lv_iload_n hx hb dX9_inner_7 rfl (lv_at hl 0 rfl) ?_
  refine z_bipush C dX9_inner_8 rfl ?_
  refine z_idiv C dX9_inner_10 hm (fun x2 hm => ?_)
  refine z_iadd C dX9_inner_11 ?_
  exact z_iretR (h0 := h) C hr hlocks Hh dX9_inner_12 hm
theorem tg_X9_cell {h : Hp} {l0 l1 l2 : Int} {r : Hp × Int} (hm : M_X9_cell h l0 l1 l2 = some r) : hT h l0 = 19 := (tk_inv hm).1
set_option maxRecDepth 100000 in
set_option maxHeartbeats 4000000 in
theorem ct_X9_cell (l : Launch) (g : zGeo) (h0 : Hp) (l0 l1 l2 : Int) (r : Hp × Int) (hm : M_X9_cell h0 l0 l1 l2 = some r) : zM l yX9_cell cX9_cell 3 (some .int) 1 21 0 0 g h0 [qR g l0, qI l1, qI l2] r.1 (some (qI r.2)) := by
  refine z_meth (by decide) (Nat.le_of_ble_eq_true rfl) ?_
  intro p e s m args below meth c H ls C hr hlocks hnm Hh hl
  have C : zC p m c cX9_cell 3 s args RX9 g := C
  have hnm : meth.name = "cell" := hnm
  have hx := C.1.1
  have hb := C.1.2.1
  have hl : lv_has ls 3 [(0, qR g l0), (1, qI l1), (2, qI l2)] := hl
  unfold M_X9_cell at hm
  replace hm := (tk_inv hm).2
  generalize h0 = h at Hh hm
  refine lv_aload_n hx hb dX9_cell_0 rfl (lv_at hl 0 rfl) ?_
  refine lv_iload_n hx hb dX9_cell_1 rfl (lv_at hl 1 rfl) ?_
  refine z_cVIr (vs := [qI l1]) C (fun q hq => ct_X9_isTown l g h l0 l1 q hq) tw_784 my_X9_isTown (fun q hq => tg_X9_isTown hq) rfl hl.1 Hh ⟨Nat.le_of_ble_eq_true rfl, Nat.le_of_ble_eq_true rfl, Nat.le_of_ble_eq_true rfl, Nat.le_of_ble_eq_true rfl⟩ (Nat.le_of_ble_eq_true rfl) dX9_cell_2 rfl hm (fun x1 H locs Hh hm => ?_)
  refine z_if_eq (tgt := 16) C dX9_cell_5 (by decide) rfl hm (fun _ hm => ?_) (fun _ hm => ?_)
  · refine lv_aload_n hx hb dX9_cell_16 rfl (lv_at hl 0 rfl) ?_
    refine z_iconst C dX9_cell_17 ?_
    refine z_cVI (vs := [qI 1]) C (fun q hq => ct_X9_refused l g h l0 1 q hq) tw_507 my_X9_refused (fun q hq => tg_X9_refused hq) rfl hl.1 Hh ⟨Nat.le_of_ble_eq_true rfl, Nat.le_of_ble_eq_true rfl, Nat.le_of_ble_eq_true rfl, Nat.le_of_ble_eq_true rfl⟩ (Nat.le_of_ble_eq_true rfl) dX9_cell_18 rfl hm (fun h x2 H locs Hh hm => ?_)
    exact z_iret C hr hlocks Hh dX9_cell_21 hm
  · refine lv_aload_n hx hb dX9_cell_8 rfl (lv_at hl 0 rfl) ?_
    refine lv_iload_n hx hb dX9_cell_9 rfl (lv_at hl 2 rfl) ?_
    refine z_cVIr (vs := [qI l2]) C (fun q hq => ct_X9_isPlace l g h l0 l2 q hq) tw_796 my_X9_isPlace (fun q hq => tg_X9_isPlace hq) rfl hl.1 Hh ⟨Nat.le_of_ble_eq_true rfl, Nat.le_of_ble_eq_true rfl, Nat.le_of_ble_eq_true rfl, Nat.le_of_ble_eq_true rfl⟩ (Nat.le_of_ble_eq_true rfl) dX9_cell_10 rfl hm (fun x3 H locs Hh hm => ?_)
    refine z_if_ne (tgt := 22) C dX9_cell_13 (by decide) rfl hm (fun _ hm => ?_) (fun _ hm => ?_)
    · refine lv_aload_n hx hb dX9_cell_22 rfl (lv_at hl 0 rfl) ?_
      refine lv_aload_n hx hb dX9_cell_23 rfl (lv_at hl 0 rfl) ?_
      refine z_getR C fl_9_30 Hh dX9_cell_24 rfl hm (fun x4 hm => ?_)
      refine z_getR C fl_9_149 Hh dX9_cell_27 rfl hm (fun x5 hm => ?_)
      refine z_bipush C dX9_cell_30 rfl ?_
      refine lv_iload_n hx hb dX9_cell_32 rfl (lv_at hl 1 rfl) ?_
      refine z_imul C dX9_cell_33 ?_
      refine lv_iload_n hx hb dX9_cell_34 rfl (lv_at hl 2 rfl) ?_
      refine z_cSIr (vs := [qI l2]) C (fun q hq => ct_X9_inner l g h l2 q hq) tw_800 my_X9_inner rfl hl.1 Hh ⟨Nat.le_of_ble_eq_true rfl, Nat.le_of_ble_eq_true rfl, Nat.le_of_ble_eq_true rfl, Nat.le_of_ble_eq_true rfl⟩ (Nat.le_of_ble_eq_true rfl) dX9_cell_35 rfl hm (fun x6 H locs Hh hm => ?_)
      refine z_iadd C dX9_cell_38 ?_
      refine z_iald C Hh dX9_cell_39 hm (fun x7 hm => ?_)
      refine z_cVI (vs := [qI x7]) C (fun q hq => ct_X9_answered l g h l0 x7 q hq) tw_767 my_X9_answered (fun q hq => tg_X9_answered hq) rfl hl.1 Hh ⟨Nat.le_of_ble_eq_true rfl, Nat.le_of_ble_eq_true rfl, Nat.le_of_ble_eq_true rfl, Nat.le_of_ble_eq_true rfl⟩ (Nat.le_of_ble_eq_true rfl) dX9_cell_40 rfl hm (fun h x8 H locs Hh hm => ?_)
      exact z_iret C hr hlocks Hh dX9_cell_43 hm
    · refine lv_aload_n hx hb dX9_cell_16 rfl (lv_at hl 0 rfl) ?_
      refine z_iconst C dX9_cell_17 ?_
      refine z_cVI (vs := [qI 1]) C (fun q hq => ct_X9_refused l g h l0 1 q hq) tw_507 my_X9_refused (fun q hq => tg_X9_refused hq) rfl hl.1 Hh ⟨Nat.le_of_ble_eq_true rfl, Nat.le_of_ble_eq_true rfl, Nat.le_of_ble_eq_true rfl, Nat.le_of_ble_eq_true rfl⟩ (Nat.le_of_ble_eq_true rfl) dX9_cell_18 rfl hm (fun h x9 H locs Hh hm => ?_)
      exact z_iret C hr hlocks Hh dX9_cell_21 hm
