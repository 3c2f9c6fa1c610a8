theorem tg_X2_wayBy {h : Hp} {l0 l1 l2 l3 : Int} {r : Int} (hm : M_X2_wayBy h l0 l1 l2 l3 = some r) : hT h l0 = 12 := (tk_inv hm).1
set_option maxRecDepth 100000 in
set_option maxHeartbeats 4000000 in
theorem ct_X2_wayBy (l : Launch) (g : zGeo) (h : Hp) (l0 l1 l2 l3 : Int) (r : Int) (hm : M_X2_wayBy h l0 l1 l2 l3 = some r) : zM l yX2_wayBy cX2_wayBy 7 (some .int) 1 40 0 0 g h [qR g l0, qR g l1, qI l2, qI l3] h (some (qI r)) := by
  refine z_meth (by decide) (Nat.le_of_ble_eq_true rfl) ?_
  intro p e s m args below meth c H ls C hr hlocks hnm Hh hl
  have C : zC p m c cX2_wayBy 7 s args RX2 g := C
  have hnm : meth.name = "wayBy" := hnm
  have hx := C.1.1
  have hb := C.1.2.1
  have hl : lv_has ls 7 [(0, qR g l0), (1, qR g l1), (2, qI l2), (3, qI l3)] := hl
  unfold M_X2_wayBy at hm
  replace hm := (tk_inv hm).2
  have K61 : ∀  (l0 l2 l3 l4 : Int) (H : Heap) (locs : List Loc) (ls : Array Slot), zH g s h H locs → lv_has ls 7 [(0, qR g l0), (2, qI l2), (3, qI l3), (4, qI l4)] → M_X2_wayBy_p61 h l0 l2 l3 l4 = some r → W p l e { frames := 1, cells := 0, slots := 0, locals := 40 } s m args below meth c H locs 0 0 (zQ below g h (some (qI r)) args s 0 0) (F0 m 61 ls []) := by
    intro l0 l2 l3 l4  H locs ls Hh hl hm
    unfold M_X2_wayBy_p61 at hm
    refine lv_aload_n hx hb dX2_wayBy_61 rfl (lv_at hl 0 rfl) ?_
    refine z_getR C fl_2_9 Hh dX2_wayBy_62 rfl hm (fun x1 hm => ?_)
    refine lv_iload_n hx hb dX2_wayBy_65 rfl (lv_at hl 1 rfl) ?_
    refine z_iald C Hh dX2_wayBy_66 hm (fun x2 hm => ?_)
    refine lv_iload_n hx hb dX2_wayBy_67 rfl (lv_at hl 2 rfl) ?_
    refine z_icmp_ne (tgt := 76) C dX2_wayBy_68 (by decide) rfl rfl hm (fun _ hm => ?_) (fun _ hm => ?_)
    · refine lv_iload hx hb dX2_wayBy_76 (lv_at hl 3 rfl) ?_
      refine z_iconst C dX2_wayBy_78 ?_
      refine z_iadd C dX2_wayBy_79 ?_
      exact z_iretR (h0 := h) C hr hlocks Hh dX2_wayBy_80 hm
    · refine lv_iload hx hb dX2_wayBy_71 (lv_at hl 3 rfl) ?_
      refine lv_goto (tgt := 80) hx hb dX2_wayBy_73 (by decide) ?_
      exact z_iretR (h0 := h) C hr hlocks Hh dX2_wayBy_80 hm
  have KL20 : ∀ (n : Nat)  (l0 l1 l2 l3 l4 l5 : Int) (H : Heap) (locs : List Loc) (ls : Array Slot), zH g s h H locs → lv_has ls 7 [(0, qR g l0), (1, qR g l1), (2, qI l2), (3, qI l3), (4, qI l4), (5, qI l5)] → M_X2_wayBy_w20 n h l0 l1 l2 l3 l4 l5 = some r → W p l e { frames := 1, cells := 0, slots := 0, locals := 40 } s m args below meth c H locs 0 0 (zQ below g h (some (qI r)) args s 0 0) (F0 m 20 ls []) := by
    intro n
    induction n with
    | zero => intro l0 l1 l2 l3 l4 l5 H locs ls Hh hl hm; cases hm
    | succ n ih20 =>
      intro l0 l1 l2 l3 l4 l5 H locs ls Hh hl hm
      obtain ⟨z20, hm, hc20⟩ := wh_inv hm
      have hm : M_X2_wayBy_b20 h l0 l1 l2 l3 l4 l5 = some z20 := hm
      have K55 : ∀  (l4 l5 : Int) (H : Heap) (locs : List Loc) (ls : Array Slot), zH g s h H locs → lv_has ls 7 [(0, qR g l0), (1, qR g l1), (2, qI l2), (3, qI l3), (4, qI l4), (5, qI l5)] → M_X2_wayBy_p55 h l0 l1 l2 l3 l4 l5 = some z20 → W p l e { frames := 1, cells := 0, slots := 0, locals := 40 } s m args below meth c H locs 0 0 (zQ below g h (some (qI r)) args s 0 0) (F0 m 55 ls []) := by
        intro l4 l5  H locs ls Hh hl hm
        unfold M_X2_wayBy_p55 at hm
        refine z_iinc (x := l5) (k := 5) (lv' := [(5, qI (l5 + 1)), (0, qR g l0), (1, qR g l1), (2, qI l2), (3, qI l3), (4, qI l4)]) C dX2_wayBy_55 hl rfl (by decide) rfl (fun ls hl => ?_)
        refine lv_goto (tgt := 20) hx hb dX2_wayBy_58 (by decide) ?_
        cases hm
        exact ih20 l0 l1 l2 l3 l4 (l5 + 1) _ _ _ Hh (lv_sub hl [1, 2, 3, 4, 5, 0] rfl) hc20
      unfold M_X2_wayBy_b20 at hm
      refine lv_iload hx hb dX2_wayBy_20 (lv_at hl 5 rfl) ?_
      refine z_iconst C dX2_wayBy_22 ?_
      refine z_icmp_ge (tgt := 61) C dX2_wayBy_23 (by decide) rfl lq_p4 hm (fun _ hm => ?_) (fun _ hm => ?_)
      · cases hm
        exact K61 l0 l2 l3 l4 _ _ _ Hh (lv_sub hl [0, 2, 3, 4] rfl) hc20
      · refine lv_aload_n hx hb dX2_wayBy_26 rfl (lv_at hl 1 rfl) ?_
        refine lv_iload_n hx hb dX2_wayBy_27 rfl (lv_at hl 2 rfl) ?_
        refine lv_iload hx hb dX2_wayBy_28 (lv_at hl 5 rfl) ?_
        refine z_cVIr (vs := [qI l2, qI l5]) C (fun q hq => ct_X8_beside l g h l1 l2 l5 q hq) tw_949 my_X8_beside (fun q hq => tg_X8_beside hq) rfl hl.1 Hh ⟨Nat.le_of_ble_eq_true rfl, Nat.le_of_ble_eq_true rfl, Nat.le_of_ble_eq_true rfl, Nat.le_of_ble_eq_true rfl⟩ (Nat.le_of_ble_eq_true rfl) dX2_wayBy_30 rfl hm (fun x3 H locs Hh hm => ?_)
        refine lv_istore (lv' := [(6, qI x3), (0, qR g l0), (1, qR g l1), (2, qI l2), (3, qI l3), (4, qI l4), (5, qI l5)]) hx hb dX2_wayBy_33 hl (by decide) rfl (fun ls hl => ?_)
        refine lv_iload hx hb dX2_wayBy_35 (lv_at hl 0 rfl) ?_
        refine z_iconst C dX2_wayBy_37 ?_
        refine z_icmp_eq (tgt := 55) C dX2_wayBy_38 (by decide) rfl lq_m1 hm (fun _ hm => ?_) (fun _ hm => ?_)
        · exact K55 l4 l5 _ _ _ Hh (lv_sub hl [1, 2, 3, 4, 5, 6] rfl) hm
        · refine lv_iload hx hb dX2_wayBy_41 (lv_at hl 5 rfl) ?_
          refine lv_aload_n hx hb dX2_wayBy_43 rfl (lv_at hl 1 rfl) ?_
          refine z_getR C fl_2_29 Hh dX2_wayBy_44 rfl hm (fun x4 hm => ?_)
          refine lv_iload hx hb dX2_wayBy_47 (lv_at hl 0 rfl) ?_
          refine z_iald C Hh dX2_wayBy_49 hm (fun x5 hm => ?_)
          refine z_mmin C mm_2_64 hl.1 (Nat.le_of_ble_eq_true rfl) (Nat.le_of_ble_eq_true rfl) (Nat.le_of_ble_eq_true rfl) (Nat.le_of_ble_eq_true rfl) dX2_wayBy_50 ?_
          refine lv_istore (lv' := [(4, qI (imin l4 x5)), (6, qI x3), (0, qR g l0), (1, qR g l1), (2, qI l2), (3, qI l3), (5, qI l5)]) hx hb dX2_wayBy_53 hl (by decide) rfl (fun ls hl => ?_)
          exact K55 (imin l4 x5) l5 _ _ _ Hh (lv_sub hl [2, 3, 4, 5, 0, 6] rfl) hm
  have K15 : ∀  (l0 l1 l2 l3 : Int) (s0 : Int) (H : Heap) (locs : List Loc) (ls : Array Slot), zH g s h H locs → lv_has ls 7 [(0, qR g l0), (1, qR g l1), (2, qI l2), (3, qI l3)] → M_X2_wayBy_p15 h l0 l1 l2 l3 s0 = some r → W p l e { frames := 1, cells := 0, slots := 0, locals := 40 } s m args below meth c H locs 0 0 (zQ below g h (some (qI r)) args s 0 0) (F0 m 15 ls [qI s0]) := by
    intro l0 l1 l2 l3 s0 H locs ls Hh hl hm
    unfold M_X2_wayBy_p15 at hm
    refine lv_istore (lv' := [(4, qI s0), (0, qR g l0), (1, qR g l1), (2, qI l2), (3, qI l3)]) hx hb dX2_wayBy_15 hl (by decide) rfl (fun ls hl => ?_)
    refine z_iconst C dX2_wayBy_17 ?_
    refine lv_istore (lv' := [(5, qI 0), (4, qI s0), (0, qR g l0), (1, qR g l1), (2, qI l2), (3, qI l3)]) hx hb dX2_wayBy_18 hl (by decide) rfl (fun ls hl => ?_)
    exact KL20 FU l0 l1 l2 l3 s0 0 _ _ _ Hh (lv_sub hl [2, 3, 4, 5, 1, 0] rfl) hm
  refine lv_aload_n hx hb dX2_wayBy_0 rfl (lv_at hl 1 rfl) ?_
  refine lv_iload_n hx hb dX2_wayBy_1 rfl (lv_at hl 2 rfl) ?_
  refine z_cVIr (vs := [qI l2]) C (fun q hq => ct_X8_isEdge l g h l1 l2 q hq) tw_1105 my_X8_isEdge (fun q hq => tg_X8_isEdge hq) rfl hl.1 Hh ⟨Nat.le_of_ble_eq_true rfl, Nat.le_of_ble_eq_true rfl, Nat.le_of_ble_eq_true rfl, Nat.le_of_ble_eq_true rfl⟩ (Nat.le_of_ble_eq_true rfl) dX2_wayBy_2 rfl hm (fun x6 H locs Hh hm => ?_)
  refine z_if_eq (tgt := 12) C dX2_wayBy_5 (by decide) rfl hm (fun _ hm => ?_) (fun _ hm => ?_)
  · refine z_sipush C dX2_wayBy_12 rfl ?_
    exact K15 l0 l1 l2 l3 1000 _ _ _ Hh (lv_sub hl [0, 1, 2, 3] rfl) hm
  · refine z_iconst C dX2_wayBy_8 ?_
    refine lv_goto (tgt := 15) hx hb dX2_wayBy_9 (by decide) ?_
    exact K15 l0 l1 l2 l3 0 _ _ _ Hh (lv_sub hl [0, 1, 2, 3] rfl) hm
theorem tg_X2_leastInk {h : Hp} {l0 l1 l2 l3 : Int} {r : Hp × Int} (hm : M_X2_leastInk h l0 l1 l2 l3 = some r) : hT h l0 = 12 := (tk_inv hm).1
set_option maxRecDepth 100000 in
set_option maxHeartbeats 4000000 in
theorem ct_X2_leastInk (l : Launch) (g : zGeo) (h0 : Hp) (l0 l1 l2 l3 : Int) (r : Hp × Int) (hm : M_X2_leastInk h0 l0 l1 l2 l3 = some r) : zM l yX2_leastInk cX2_leastInk 8 (some .int) 2 66 0 0 g h0 [qR g l0, qR g l1, qI l2, qI l3] r.1 (some (qI r.2)) := by
  refine z_meth (by decide) (Nat.le_of_ble_eq_true rfl) ?_
  intro p e s m args below meth c H ls C hr hlocks hnm Hh hl
  have C : zC p m c cX2_leastInk 8 s args RX2 g := C
  have hnm : meth.name = "leastInk" := hnm
  have hx := C.1.1
  have hb := C.1.2.1
  have hl : lv_has ls 8 [(0, qR g l0), (1, qR g l1), (2, qI l2), (3, qI l3)] := hl
  unfold M_X2_leastInk at hm
  replace hm := (tk_inv hm).2
  generalize h0 = h at Hh hm
  have K102 : ∀ (h : Hp) (l0 l2 : Int) (H : Heap) (locs : List Loc) (ls : Array Slot), zH g s h H locs → lv_has ls 8 [(0, qR g l0), (2, qI l2)] → M_X2_leastInk_p102 h l0 l2 = some r → W p l e { frames := 2, cells := 0, slots := 0, locals := 66 } s m args below meth c H locs 0 0 (zQ below g r.1 (some (qI r.2)) args s 0 0) (F0 m 102 ls []) := by
    intro h l0 l2  H locs ls Hh hl hm
    unfold M_X2_leastInk_p102 at hm
    refine lv_aload_n hx hb dX2_leastInk_102 rfl (lv_at hl 0 rfl) ?_
    refine z_getR C fl_2_29 Hh dX2_leastInk_103 rfl hm (fun x1 hm => ?_)
    refine lv_iload_n hx hb dX2_leastInk_106 rfl (lv_at hl 1 rfl) ?_
    refine z_iald C Hh dX2_leastInk_107 hm (fun x2 hm => ?_)
    exact z_iret C hr hlocks Hh dX2_leastInk_108 hm
  have KL16 : ∀ (n : Nat) (h : Hp) (l0 l1 l2 l3 l4 l5 : Int) (H : Heap) (locs : List Loc) (ls : Array Slot), zH g s h H locs → lv_has ls 8 [(0, qR g l0), (1, qR g l1), (2, qI l2), (3, qI l3), (4, qI l4), (5, qI l5)] → M_X2_leastInk_w16 n h l0 l1 l2 l3 l4 l5 = some r → W p l e { frames := 2, cells := 0, slots := 0, locals := 66 } s m args below meth c H locs 0 0 (zQ below g r.1 (some (qI r.2)) args s 0 0) (F0 m 16 ls []) := by
    intro n
    induction n with
    | zero => intro h l0 l1 l2 l3 l4 l5 H locs ls Hh hl hm; cases hm
    | succ n ih16 =>
      intro h l0 l1 l2 l3 l4 l5 H locs ls Hh hl hm
      obtain ⟨z16, hm, hc16⟩ := wh_inv hm
      have hm : M_X2_leastInk_b16 h l0 l1 l2 l3 l4 l5 = some z16 := hm
      have K96 : ∀ (h : Hp) (l4 l5 : Int) (H : Heap) (locs : List Loc) (ls : Array Slot), zH g s h H locs → lv_has ls 8 [(0, qR g l0), (1, qR g l1), (2, qI l2), (3, qI l3), (4, qI l4), (5, qI l5)] → M_X2_leastInk_p96 h l0 l1 l2 l3 l4 l5 = some z16 → W p l e { frames := 2, cells := 0, slots := 0, locals := 66 } s m args below meth c H locs 0 0 (zQ below g r.1 (some (qI r.2)) args s 0 0) (F0 m 96 ls []) := by
        intro h l4 l5  H locs ls Hh hl hm
        unfold M_X2_leastInk_p96 at hm
        refine z_iinc (x := l5) (k := 5) (lv' := [(5, qI (l5 + 1)), (0, qR g l0), (1, qR g l1), (2, qI l2), (3, qI l3), (4, qI l4)]) C dX2_leastInk_96 hl rfl (by decide) rfl (fun ls hl => ?_)
        refine lv_goto (tgt := 16) hx hb dX2_leastInk_99 (by decide) ?_
        cases hm
        exact ih16 h l0 l1 l2 l3 l4 (l5 + 1) _ _ _ Hh (lv_sub hl [1, 2, 3, 4, 5, 0] rfl) hc16
      have KL34 : ∀ (n : Nat) (h : Hp) (l4 l5 l6 : Int) (H : Heap) (locs : List Loc) (ls : Array Slot), zH g s h H locs → lv_has ls 8 [(0, qR g l0), (1, qR g l1), (2, qI l2), (3, qI l3), (4, qI l4), (5, qI l5), (6, qI l6)] → M_X2_leastInk_w34 n h l0 l1 l2 l3 l4 l5 l6 = some z16 → W p l e { frames := 2, cells := 0, slots := 0, locals := 66 } s m args below meth c H locs 0 0 (zQ below g r.1 (some (qI r.2)) args s 0 0) (F0 m 34 ls []) := by
        intro n
        induction n with
        | zero => intro h l4 l5 l6 H locs ls Hh hl hm; cases hm
        | succ n ih34 =>
          intro h l4 l5 l6 H locs ls Hh hl hm
          obtain ⟨z34, hm, hc34⟩ := wh_inv hm
          have hm : M_X2_leastInk_b34 h l0 l1 l2 l3 l5 l4 l6 = some z34 := hm
          have K90 : ∀ (h : Hp) (l4 l6 : Int) (H : Heap) (locs : List Loc) (ls : Array Slot), zH g s h H locs → lv_has ls 8 [(0, qR g l0), (1, qR g l1), (2, qI l2), (3, qI l3), (4, qI l4), (5, qI l5), (6, qI l6)] → M_X2_leastInk_p90 h l0 l1 l2 l3 l4 l5 l6 = some z34 → W p l e { frames := 2, cells := 0, slots := 0, locals := 66 } s m args below meth c H locs 0 0 (zQ below g r.1 (some (qI r.2)) args s 0 0) (F0 m 90 ls []) := by
            intro h l4 l6  H locs ls Hh hl hm
            unfold M_X2_leastInk_p90 at hm
            refine z_iinc (x := l6) (k := 6) (lv' := [(6, qI (l6 + 1)), (0, qR g l0), (1, qR g l1), (2, qI l2), (3, qI l3), (4, qI l4), (5, qI l5)]) C dX2_leastInk_90 hl rfl (by decide) rfl (fun ls hl => ?_)
            refine lv_goto (tgt := 34) hx hb dX2_leastInk_93 (by decide) ?_
            cases hm
            exact ih34 h l4 l5 (l6 + 1) _ _ _ Hh (lv_sub hl [1, 2, 3, 4, 5, 6, 0] rfl) hc34
          have K64 : ∀ (h : Hp) (l4 l6 : Int) (s0 : Int) (H : Heap) (locs : List Loc) (ls : Array Slot), zH g s h H locs → lv_has ls 8 [(0, qR g l0), (1, qR g l1), (2, qI l2), (3, qI l3), (4, qI l4), (5, qI l5), (6, qI l6)] → M_X2_leastInk_p64 h l0 l1 l2 l3 l4 l5 l6 s0 = some z34 → W p l e { frames := 2, cells := 0, slots := 0, locals := 66 } s m args below meth c H locs 0 0 (zQ below g r.1 (some (qI r.2)) args s 0 0) (F0 m 64 ls [qI s0]) := by
            intro h l4 l6 s0 H locs ls Hh hl hm
            unfold M_X2_leastInk_p64 at hm
            refine lv_istore (lv' := [(7, qI s0), (0, qR g l0), (1, qR g l1), (2, qI l2), (3, qI l3), (4, qI l4), (5, qI l5), (6, qI l6)]) hx hb dX2_leastInk_64 hl (by decide) rfl (fun ls hl => ?_)
            refine lv_iload hx hb dX2_leastInk_66 (lv_at hl 0 rfl) ?_
            refine lv_aload_n hx hb dX2_leastInk_68 rfl (lv_at hl 1 rfl) ?_
            refine z_getR C fl_2_29 Hh dX2_leastInk_69 rfl hm (fun x3 hm => ?_)
            refine lv_iload hx hb dX2_leastInk_72 (lv_at hl 7 rfl) ?_
            refine z_iald C Hh dX2_leastInk_74 hm (fun x4 hm => ?_)
            refine z_icmp_ge (tgt := 90) C dX2_leastInk_75 (by decide) rfl rfl hm (fun _ hm => ?_) (fun _ hm => ?_)
            · exact K90 h l4 l6 _ _ _ Hh (lv_sub hl [1, 2, 3, 4, 5, 6, 7] rfl) hm
            · refine lv_aload_n hx hb dX2_leastInk_78 rfl (lv_at hl 1 rfl) ?_
              refine z_getR C fl_2_29 Hh dX2_leastInk_79 rfl hm (fun x5 hm => ?_)
              refine lv_iload hx hb dX2_leastInk_82 (lv_at hl 7 rfl) ?_
              refine lv_iload hx hb dX2_leastInk_84 (lv_at hl 0 rfl) ?_
              refine z_iast C Hh dX2_leastInk_86 hm (fun h H locs Hh hm => ?_)
              refine z_iconst C dX2_leastInk_87 ?_
              refine lv_istore (lv' := [(4, qI 1), (7, qI s0), (0, qR g l0), (1, qR g l1), (2, qI l2), (3, qI l3), (5, qI l5), (6, qI l6)]) hx hb dX2_leastInk_88 hl (by decide) rfl (fun ls hl => ?_)
              exact K90 h 1 l6 _ _ _ Hh (lv_sub hl [2, 3, 4, 5, 0, 6, 7] rfl) hm
          unfold M_X2_leastInk_b34 at hm
          refine lv_iload hx hb dX2_leastInk_34 (lv_at hl 6 rfl) ?_
          refine z_bipush C dX2_leastInk_36 rfl ?_
          refine z_icmp_ge (tgt := 96) C dX2_leastInk_38 (by decide) rfl lq_p36 hm (fun _ hm => ?_) (fun _ hm => ?_)
          · cases hm
            exact K96 h l4 l5 _ _ _ Hh (lv_sub hl [0, 1, 2, 3, 4, 5] rfl) hc34
          · refine lv_aload_n hx hb dX2_leastInk_41 rfl (lv_at hl 1 rfl) ?_
            refine lv_iload hx hb dX2_leastInk_42 (lv_at hl 6 rfl) ?_
            refine z_cVIr (vs := [qI l6]) C (fun q hq => ct_X8_holds l g h l1 l6 q hq) tw_944 my_X8_holds (fun q hq => tg_X8_holds hq) rfl hl.1 Hh ⟨Nat.le_of_ble_eq_true rfl, Nat.le_of_ble_eq_true rfl, Nat.le_of_ble_eq_true rfl, Nat.le_of_ble_eq_true rfl⟩ (Nat.le_of_ble_eq_true rfl) dX2_leastInk_44 rfl hm (fun x6 H locs Hh hm => ?_)
            refine z_if_eq (tgt := 61) C dX2_leastInk_47 (by decide) rfl hm (fun _ hm => ?_) (fun _ hm => ?_)
            · refine z_sipush C dX2_leastInk_61 rfl ?_
              exact K64 h l4 l6 1000 _ _ _ Hh (lv_sub hl [0, 1, 2, 3, 4, 5, 6] rfl) hm
            · refine lv_aload_n hx hb dX2_leastInk_50 rfl (lv_at hl 0 rfl) ?_
              refine lv_aload_n hx hb dX2_leastInk_51 rfl (lv_at hl 1 rfl) ?_
              refine lv_iload hx hb dX2_leastInk_52 (lv_at hl 6 rfl) ?_
              refine lv_iload_n hx hb dX2_leastInk_54 rfl (lv_at hl 3 rfl) ?_
              refine z_cVIr (vs := [qR g l1, qI l6, qI l3]) C (fun q hq => ct_X2_wayBy l g h l0 l1 l6 l3 q hq) tw_1101 my_X2_wayBy (fun q hq => tg_X2_wayBy hq) rfl hl.1 Hh ⟨Nat.le_of_ble_eq_true rfl, Nat.le_of_ble_eq_true rfl, Nat.le_of_ble_eq_true rfl, Nat.le_of_ble_eq_true rfl⟩ (Nat.le_of_ble_eq_true rfl) dX2_leastInk_55 rfl hm (fun x7 H locs Hh hm => ?_)
              refine lv_goto (tgt := 64) hx hb dX2_leastInk_58 (by decide) ?_
              exact K64 h l4 l6 x7 _ _ _ Hh (lv_sub hl [0, 1, 2, 3, 4, 5, 6] rfl) hm
      unfold M_X2_leastInk_b16 at hm
      refine lv_iload hx hb dX2_leastInk_16 (lv_at hl 5 rfl) ?_
      refine z_bipush C dX2_leastInk_18 rfl ?_
      refine z_icmp_gt (tgt := 102) C dX2_leastInk_20 (by decide) rfl lq_p36 hm (fun _ hm => ?_) (fun _ hm => ?_)
      · cases hm
        exact K102 h l0 l2 _ _ _ Hh (lv_sub hl [0, 2] rfl) hc16
      · refine lv_iload hx hb dX2_leastInk_23 (lv_at hl 4 rfl) ?_
        refine z_if_eq (tgt := 102) C dX2_leastInk_25 (by decide) rfl hm (fun _ hm => ?_) (fun _ hm => ?_)
        · cases hm
          exact K102 h l0 l2 _ _ _ Hh (lv_sub hl [0, 2] rfl) hc16
        · refine z_iconst C dX2_leastInk_28 ?_
          refine lv_istore (lv' := [(4, qI 0), (0, qR g l0), (1, qR g l1), (2, qI l2), (3, qI l3), (5, qI l5)]) hx hb dX2_leastInk_29 hl (by decide) rfl (fun ls hl => ?_)
          refine z_iconst C dX2_leastInk_31 ?_
          refine lv_istore (lv' := [(6, qI 0), (4, qI 0), (0, qR g l0), (1, qR g l1), (2, qI l2), (3, qI l3), (5, qI l5)]) hx hb dX2_leastInk_32 hl (by decide) rfl (fun ls hl => ?_)
          exact KL34 FU h 0 l5 0 _ _ _ Hh (lv_sub hl [2, 3, 4, 5, 1, 6, 0] rfl) hm
  refine lv_aload_n hx hb dX2_leastInk_0 rfl (lv_at hl 0 rfl) ?_
  refine z_getR C fl_2_29 Hh dX2_leastInk_1 rfl hm (fun x8 hm => ?_)
  refine z_sipush C dX2_leastInk_4 rfl ?_
  refine z_cSv (vs := [qR g x8, qI 1000]) C (fun q hq => ct_J7_fill_53178 l g h x8 1000 q hq) tw_1100 my_J7_fill_53178 rfl hl.1 Hh ⟨Nat.le_of_ble_eq_true rfl, Nat.le_of_ble_eq_true rfl, Nat.le_of_ble_eq_true rfl, Nat.le_of_ble_eq_true rfl⟩ (Nat.le_of_ble_eq_true rfl) dX2_leastInk_7 rfl hm (fun h H locs Hh hm => ?_)
  refine z_iconst C dX2_leastInk_10 ?_
  refine lv_istore (lv' := [(4, qI 1), (0, qR g l0), (1, qR g l1), (2, qI l2), (3, qI l3)]) hx hb dX2_leastInk_11 hl (by decide) rfl (fun ls hl => ?_)
  refine z_iconst C dX2_leastInk_13 ?_
  refine lv_istore (lv' := [(5, qI 0), (4, qI 1), (0, qR g l0), (1, qR g l1), (2, qI l2), (3, qI l3)]) hx hb dX2_leastInk_14 hl (by decide) rfl (fun ls hl => ?_)
  exact KL16 FU h l0 l1 l2 l3 1 0 _ _ _ Hh (lv_sub hl [2, 3, 4, 5, 1, 0] rfl) hm
theorem tg_X8_init {h : Hp} {l0 : Int} {r : Hp} (hm : M_X8_init h l0 = some r) : hT h l0 = 18 := (tk_inv hm).1
set_option maxRecDepth 100000 in
set_option maxHeartbeats 4000000 in
theorem ct_X8_init (l : Launch) (g : zGeo) (h0 : Hp) (l0 : Int) (r : Hp) (hm : M_X8_init h0 l0 = some r) : zM l yX8_init cX8_init 1 none 1 40 3 246 g h0 [qR g l0] r none := by
  refine z_meth (by decide) (Nat.le_of_ble_eq_true rfl) ?_
  intro p e s m args below meth c H ls C hr hlocks hnm Hh hl
  have C : zC p m c cX8_init 1 s args RX8 g := C
  have hnm : meth.name = "<init>" := hnm
  have hx := C.1.1
  have hb := C.1.2.1
  have hl : lv_has ls 1 [(0, qR g l0)] := hl
  unfold M_X8_init at hm
  replace hm := (tk_inv hm).2
  generalize h0 = h at Hh hm
  refine lv_aload_n hx hb dX8_init_0 rfl (lv_at hl 0 rfl) ?_
  refine z_oinit C ⟨tw_172, tw_159, tw_160⟩ hl.1 (Nat.le_of_ble_eq_true rfl) (Nat.le_of_ble_eq_true rfl) dX8_init_1 ?_
  refine lv_aload_n hx hb dX8_init_4 rfl (lv_at hl 0 rfl) ?_
  refine z_iconst C dX8_init_5 ?_
  refine z_putI C hnm pl_8_9_i Hh dX8_init_6 rfl hm (fun h H locs Hh hm => ?_)
  refine lv_aload_n hx hb dX8_init_9 rfl (lv_at hl 0 rfl) ?_
  refine z_iconst C dX8_init_10 ?_
  refine z_putI C hnm pl_8_15_i Hh dX8_init_11 rfl hm (fun h H locs Hh hm => ?_)
  refine lv_aload_n hx hb dX8_init_14 rfl (lv_at hl 0 rfl) ?_
  refine z_iconst C dX8_init_15 ?_
  refine z_putI C hnm pl_8_18_i Hh dX8_init_16 rfl hm (fun h H locs Hh hm => ?_)
  refine lv_aload_n hx hb dX8_init_19 rfl (lv_at hl 0 rfl) ?_
  refine z_sipush C dX8_init_20 rfl ?_
  refine z_newab C (t := 1) (atype := .int) (by decide) tw_222 Hh (by decide) (by decide) (Nat.le_of_ble_eq_true rfl) (Nat.le_of_ble_eq_true rfl) dX8_init_23 hm (fun h x1 H Hh hm => ?_)
  refine z_putRc C hnm pl_8_21_i (fun _ => ⟨rfl, rfl⟩) Hh dX8_init_25 rfl hm (fun h H locs Hh hm => ?_)
  refine lv_aload_n hx hb dX8_init_28 rfl (lv_at hl 0 rfl) ?_
  refine z_bipush C dX8_init_29 rfl ?_
  refine z_newab C (t := 1) (atype := .int) (by decide) tw_222 Hh (by decide) (by decide) (Nat.le_of_ble_eq_true rfl) (Nat.le_of_ble_eq_true rfl) dX8_init_31 hm (fun h x2 H Hh hm => ?_)
  refine z_putRc C hnm pl_8_25_i (fun _ => ⟨rfl, rfl⟩) Hh dX8_init_33 rfl hm (fun h H locs Hh hm => ?_)
  refine lv_aload_n hx hb dX8_init_36 rfl (lv_at hl 0 rfl) ?_
  refine z_bipush C dX8_init_37 rfl ?_
  refine z_newab C (t := 1) (atype := .int) (by decide) tw_222 Hh (by decide) (by decide) (Nat.le_of_ble_eq_true rfl) (Nat.le_of_ble_eq_true rfl) dX8_init_39 hm (fun h x3 H Hh hm => ?_)
  refine z_putRc C hnm pl_8_28_i (fun _ => ⟨rfl, rfl⟩) Hh dX8_init_41 rfl hm (fun h H locs Hh hm => ?_)
  refine lv_aload_n hx hb dX8_init_44 rfl (lv_at hl 0 rfl) ?_
  refine z_iconst C dX8_init_45 ?_
  refine z_putI C hnm pl_8_31_i Hh dX8_init_46 rfl hm (fun h H locs Hh hm => ?_)
  refine lv_aload_n hx hb dX8_init_49 rfl (lv_at hl 0 rfl) ?_
  refine z_iconst C dX8_init_50 ?_
  refine z_putI C hnm pl_8_34_i Hh dX8_init_51 rfl hm (fun h H locs Hh hm => ?_)
  refine W.widen (k := 3) (n := 246) (Nat.le_of_ble_eq_true rfl) (Nat.le_of_ble_eq_true rfl) ?_
  exact z_vret C hr hlocks Hh dX8_init_54 hm
theorem tg_X3_init {h : Hp} {l0 : Int} {r : Hp} (hm : M_X3_init h l0 = some r) : hT h l0 = 13 := (tk_inv hm).1
set_option maxRecDepth 100000 in
set_option maxHeartbeats 4000000 in
theorem ct_X3_init (l : Launch) (g : zGeo) (h0 : Hp) (l0 : Int) (r : Hp) (hm : M_X3_init h0 l0 = some r) : zM l yX3_init cX3_init 2 none 2 60 62 3825 g h0 [qR g l0] r none := by
  refine z_meth (by decide) (Nat.le_of_ble_eq_true rfl) ?_
  intro p e s m args below meth c H ls C hr hlocks hnm Hh hl
  have C : zC p m c cX3_init 2 s args RX3 g := C
  have hnm : meth.name = "<init>" := hnm
  have hx := C.1.1
  have hb := C.1.2.1
  have hl : lv_has ls 2 [(0, qR g l0)] := hl
  unfold M_X3_init at hm
  replace hm := (tk_inv hm).2
  generalize h0 = h at Hh hm
  refine lv_aload_n hx hb dX3_init_0 rfl (lv_at hl 0 rfl) ?_
  refine z_oinit C ⟨tw_284, tw_159, tw_160⟩ hl.1 (Nat.le_of_ble_eq_true rfl) (Nat.le_of_ble_eq_true rfl) dX3_init_1 ?_
  refine lv_aload_n hx hb dX3_init_4 rfl (lv_at hl 0 rfl) ?_
  refine z_bipush C dX3_init_5 rfl ?_
  refine z_anewb C tw_285 Hh (by decide) (by decide) (Nat.le_of_ble_eq_true rfl) (Nat.le_of_ble_eq_true rfl) dX3_init_7 hm (fun h x1 H Hh hm => ?_)
  refine z_putRc C hnm pl_3_11_i (fun _ => ⟨rfl, rfl⟩) Hh dX3_init_10 rfl hm (fun h H locs Hh hm => ?_)
  refine lv_aload_n hx hb dX3_init_13 rfl (lv_at hl 0 rfl) ?_
  refine z_iconst C dX3_init_14 ?_
  refine z_putI C hnm pl_3_17_i Hh dX3_init_15 rfl hm (fun h H locs Hh hm => ?_)
  refine lv_aload_n hx hb dX3_init_18 rfl (lv_at hl 0 rfl) ?_
  refine z_iconst C dX3_init_19 ?_
  refine z_anewb C tw_285 Hh (by decide) (by decide) (Nat.le_of_ble_eq_true rfl) (Nat.le_of_ble_eq_true rfl) dX3_init_20 hm (fun h x2 H Hh hm => ?_)
  refine z_putRc C hnm pl_3_21_i (fun _ => ⟨rfl, rfl⟩) Hh dX3_init_23 rfl hm (fun h H locs Hh hm => ?_)
  refine lv_aload_n hx hb dX3_init_26 rfl (lv_at hl 0 rfl) ?_
  refine z_iconst C dX3_init_27 ?_
  refine z_putI C hnm pl_3_24_i Hh dX3_init_28 rfl hm (fun h H locs Hh hm => ?_)
  refine z_iconst C dX3_init_31 ?_
  refine lv_istore_n (lv' := [(1, qI 0), (0, qR g l0)]) hx hb dX3_init_32 rfl hl (by decide) rfl (fun ls hl => ?_)
  refine lv_iload_n hx hb dX3_init_33 rfl (lv_at hl 0 rfl) ?_
  refine z_bipush C dX3_init_34 rfl ?_
  refine lv_icmp_ge (tgt := 58) hx hb dX3_init_36 (by decide) (fun q => absurd q (by decide)) (fun _ => ?_)
  refine lv_aload_n hx hb dX3_init_39 rfl (lv_at hl 1 rfl) ?_
  refine z_getR C fl_3_11 Hh dX3_init_40 rfl hm (fun x3 hm => ?_)
  refine lv_iload_n hx hb dX3_init_43 rfl (lv_at hl 0 rfl) ?_
  refine z_newb C nl_3_9 Hh (Nat.le_of_ble_eq_true rfl) (Nat.le_of_ble_eq_true rfl) dX3_init_44 hm (fun h x4 H Hh hm => ?_)
  refine lv_dup hx hb dX3_init_47 rfl ?_
  refine z_cIv (vs := []) C (fun q hq => ct_X8_init l g h x4 q hq) ml_3_27 my_X8_init rfl hl.1 Hh ⟨Nat.le_of_ble_eq_true rfl, Nat.le_of_ble_eq_true rfl, Nat.le_of_ble_eq_true rfl, Nat.le_of_ble_eq_true rfl⟩ (Nat.le_of_ble_eq_true rfl) dX3_init_48 rfl hm (fun h H locs Hh hm => ?_)
  refine z_aast C Hh dX3_init_51 hm (fun h H locs Hh hm => ?_)
  refine z_iinc (x := 0) (k := 0) (lv' := [(1, qI 1), (0, qR g l0)]) C dX3_init_52 hl rfl (by decide) rfl (fun ls hl => ?_)
  refine lv_goto (tgt := 33) hx hb dX3_init_55 (by decide) ?_
  refine lv_iload_n hx hb dX3_init_33 rfl (lv_at hl 0 rfl) ?_
  refine z_bipush C dX3_init_34 rfl ?_
  refine lv_icmp_ge (tgt := 58) hx hb dX3_init_36 (by decide) (fun q => absurd q (by decide)) (fun _ => ?_)
  refine lv_aload_n hx hb dX3_init_39 rfl (lv_at hl 1 rfl) ?_
  refine z_getR C fl_3_11 Hh dX3_init_40 rfl hm (fun x5 hm => ?_)
  refine lv_iload_n hx hb dX3_init_43 rfl (lv_at hl 0 rfl) ?_
  refine z_newb C nl_3_9 Hh (Nat.le_of_ble_eq_true rfl) (Nat.le_of_ble_eq_true rfl) dX3_init_44 hm (fun h x6 H Hh hm => ?_)
  refine lv_dup hx hb dX3_init_47 rfl ?_
  refine z_cIv (vs := []) C (fun q hq => ct_X8_init l g h x6 q hq) ml_3_27 my_X8_init rfl hl.1 Hh ⟨Nat.le_of_ble_eq_true rfl, Nat.le_of_ble_eq_true rfl, Nat.le_of_ble_eq_true rfl, Nat.le_of_ble_eq_true rfl⟩ (Nat.le_of_ble_eq_true rfl) dX3_init_48 rfl hm (fun h H locs Hh hm => ?_)
  refine z_aast C Hh dX3_init_51 hm (fun h H locs Hh hm => ?_)
  refine z_iinc (x := 1) (k := 0) (lv' := [(1, qI 2), (0, qR g l0)]) C dX3_init_52 hl rfl (by decide) rfl (fun ls hl => ?_)
  refine lv_goto (tgt := 33) hx hb dX3_init_55 (by decide) ?_
  refine lv_iload_n hx hb dX3_init_33 rfl (lv_at hl 0 rfl) ?_
  refine z_bipush C dX3_init_34 rfl ?_
  refine lv_icmp_ge (tgt := 58) hx hb dX3_init_36 (by decide) (fun q => absurd q (by decide)) (fun _ => ?_)
  refine lv_aload_n hx hb dX3_init_39 rfl (lv_at hl 1 rfl) ?_
  refine z_getR C fl_3_11 Hh dX3_init_40 rfl hm (fun x7 hm => ?_)
  refine lv_iload_n hx hb dX3_init_43 rfl (lv_at hl 0 rfl) ?_
  refine z_newb C nl_3_9 Hh (Nat.le_of_ble_eq_true rfl) (Nat.le_of_ble_eq_true rfl) dX3_init_44 hm (fun h x8 H Hh hm => ?_)
  refine lv_dup hx hb dX3_init_47 rfl ?_
  refine z_cIv (vs := []) C (fun q hq => ct_X8_init l g h x8 q hq) ml_3_27 my_X8_init rfl hl.1 Hh ⟨Nat.le_of_ble_eq_true rfl, Nat.le_of_ble_eq_true rfl, Nat.le_of_ble_eq_true rfl, Nat.le_of_ble_eq_true rfl⟩ (Nat.le_of_ble_eq_true rfl) dX3_init_48 rfl hm (fun h H locs Hh hm => ?_)
  refine z_aast C Hh dX3_init_51 hm (fun h H locs Hh hm => ?_)
  refine z_iinc (x := 2) (k := 0) (lv' := [(1, qI 3), (0, qR g l0)]) C dX3_init_52 hl rfl (by decide) rfl (fun ls hl => ?_)
  refine lv_goto (tgt := 33) hx hb dX3_init_55 (by decide) ?_
  refine lv_iload_n hx hb dX3_init_33 rfl (lv_at hl 0 rfl) ?_
  refine z_bipush C dX3_init_34 rfl ?_
  refine lv_icmp_ge (tgt := 58) hx hb dX3_init_36 (by decide) (fun q => absurd q (by decide)) (fun _ => ?_)
  refine lv_aload_n hx hb dX3_init_39 rfl (lv_at hl 1 rfl) ?_
  refine z_getR C fl_3_11 Hh dX3_init_40 rfl hm (fun x9 hm => ?_)
  refine lv_iload_n hx hb dX3_init_43 rfl (lv_at hl 0 rfl) ?_
  refine z_newb C nl_3_9 Hh (Nat.le_of_ble_eq_true rfl) (Nat.le_of_ble_eq_true rfl) dX3_init_44 hm (fun h x10 H Hh hm => ?_)
  refine lv_dup hx hb dX3_init_47 rfl ?_
  refine z_cIv (vs := []) C (fun q hq => ct_X8_init l g h x10 q hq) ml_3_27 my_X8_init rfl hl.1 Hh ⟨Nat.le_of_ble_eq_true rfl, Nat.le_of_ble_eq_true rfl, Nat.le_of_ble_eq_true rfl, Nat.le_of_ble_eq_true rfl⟩ (Nat.le_of_ble_eq_true rfl) dX3_init_48 rfl hm (fun h H locs Hh hm => ?_)
  refine z_aast C Hh dX3_init_51 hm (fun h H locs Hh hm => ?_)
  refine z_iinc (x := 3) (k := 0) (lv' := [(1, qI 4), (0, qR g l0)]) C dX3_init_52 hl rfl (by decide) rfl (fun ls hl => ?_)
  refine lv_goto (tgt := 33) hx hb dX3_init_55 (by decide) ?_
  refine lv_iload_n hx hb dX3_init_33 rfl (lv_at hl 0 rfl) ?_
  refine z_bipush C dX3_init_34 rfl ?_
  refine lv_icmp_ge (tgt := 58) hx hb dX3_init_36 (by decide) (fun q => absurd q (by decide)) (fun _ => ?_)
  refine lv_aload_n hx hb dX3_init_39 rfl (lv_at hl 1 rfl) ?_
  refine z_getR C fl_3_11 Hh dX3_init_40 rfl hm (fun x11 hm => ?_)
  refine lv_iload_n hx hb dX3_init_43 rfl (lv_at hl 0 rfl) ?_
  refine z_newb C nl_3_9 Hh (Nat.le_of_ble_eq_true rfl) (Nat.le_of_ble_eq_true rfl) dX3_init_44 hm (fun h x12 H Hh hm => ?_)
  refine lv_dup hx hb dX3_init_47 rfl ?_
  refine z_cIv (vs := []) C (fun q hq => ct_X8_init l g h x12 q hq) ml_3_27 my_X8_init rfl hl.1 Hh ⟨Nat.le_of_ble_eq_true rfl, Nat.le_of_ble_eq_true rfl, Nat.le_of_ble_eq_true rfl, Nat.le_of_ble_eq_true rfl⟩ (Nat.le_of_ble_eq_true rfl) dX3_init_48 rfl hm (fun h H locs Hh hm => ?_)
  refine z_aast C Hh dX3_init_51 hm (fun h H locs Hh hm => ?_)
  refine z_iinc (x := 4) (k := 0) (lv' := [(1, qI 5), (0, qR g l0)]) C dX3_init_52 hl rfl (by decide) rfl (fun ls hl => ?_)
  refine lv_goto (tgt := 33) hx hb dX3_init_55 (by decide) ?_
  refine lv_iload_n hx hb dX3_init_33 rfl (lv_at hl 0 rfl) ?_
  refine z_bipush C dX3_init_34 rfl ?_
  refine lv_icmp_ge (tgt := 58) hx hb dX3_init_36 (by decide) (fun q => absurd q (by decide)) (fun _ => ?_)
  refine lv_aload_n hx hb dX3_init_39 rfl (lv_at hl 1 rfl) ?_
  refine z_getR C fl_3_11 Hh dX3_init_40 rfl hm (fun x13 hm => ?_)
  refine lv_iload_n hx hb dX3_init_43 rfl (lv_at hl 0 rfl) ?_
  refine z_newb C nl_3_9 Hh (Nat.le_of_ble_eq_true rfl) (Nat.le_of_ble_eq_true rfl) dX3_init_44 hm (fun h x14 H Hh hm => ?_)
  refine lv_dup hx hb dX3_init_47 rfl ?_
  refine z_cIv (vs := []) C (fun q hq => ct_X8_init l g h x14 q hq) ml_3_27 my_X8_init rfl hl.1 Hh ⟨Nat.le_of_ble_eq_true rfl, Nat.le_of_ble_eq_true rfl, Nat.le_of_ble_eq_true rfl, Nat.le_of_ble_eq_true rfl⟩ (Nat.le_of_ble_eq_true rfl) dX3_init_48 rfl hm (fun h H locs Hh hm => ?_)
  refine z_aast C Hh dX3_init_51 hm (fun h H locs Hh hm => ?_)
  refine z_iinc (x := 5) (k := 0) (lv' := [(1, qI 6), (0, qR g l0)]) C dX3_init_52 hl rfl (by decide) rfl (fun ls hl => ?_)
  refine lv_goto (tgt := 33) hx hb dX3_init_55 (by decide) ?_
  refine lv_iload_n hx hb dX3_init_33 rfl (lv_at hl 0 rfl) ?_
  refine z_bipush C dX3_init_34 rfl ?_
  refine lv_icmp_ge (tgt := 58) hx hb dX3_init_36 (by decide) (fun q => absurd q (by decide)) (fun _ => ?_)
  refine lv_aload_n hx hb dX3_init_39 rfl (lv_at hl 1 rfl) ?_
  refine z_getR C fl_3_11 Hh dX3_init_40 rfl hm (fun x15 hm => ?_)
  refine lv_iload_n hx hb dX3_init_43 rfl (lv_at hl 0 rfl) ?_
  refine z_newb C nl_3_9 Hh (Nat.le_of_ble_eq_true rfl) (Nat.le_of_ble_eq_true rfl) dX3_init_44 hm (fun h x16 H Hh hm => ?_)
  refine lv_dup hx hb dX3_init_47 rfl ?_
  refine z_cIv (vs := []) C (fun q hq => ct_X8_init l g h x16 q hq) ml_3_27 my_X8_init rfl hl.1 Hh ⟨Nat.le_of_ble_eq_true rfl, Nat.le_of_ble_eq_true rfl, Nat.le_of_ble_eq_true rfl, Nat.le_of_ble_eq_true rfl⟩ (Nat.le_of_ble_eq_true rfl) dX3_init_48 rfl hm (fun h H locs Hh hm => ?_)
  refine z_aast C Hh dX3_init_51 hm (fun h H locs Hh hm => ?_)
  refine z_iinc (x := 6) (k := 0) (lv' := [(1, qI 7), (0, qR g l0)]) C dX3_init_52 hl rfl (by decide) rfl (fun ls hl => ?_)
  refine lv_goto (tgt := 33) hx hb dX3_init_55 (by decide) ?_
  refine lv_iload_n hx hb dX3_init_33 rfl (lv_at hl 0 rfl) ?_
  refine z_bipush C dX3_init_34 rfl ?_
  refine lv_icmp_ge (tgt := 58) hx hb dX3_init_36 (by decide) (fun q => absurd q (by decide)) (fun _ => ?_)
  refine lv_aload_n hx hb dX3_init_39 rfl (lv_at hl 1 rfl) ?_
  refine z_getR C fl_3_11 Hh dX3_init_40 rfl hm (fun x17 hm => ?_)
  refine lv_iload_n hx hb dX3_init_43 rfl (lv_at hl 0 rfl) ?_
  refine z_newb C nl_3_9 Hh (Nat.le_of_ble_eq_true rfl) (Nat.le_of_ble_eq_true rfl) dX3_init_44 hm (fun h x18 H Hh hm => ?_)
  refine lv_dup hx hb dX3_init_47 rfl ?_
  refine z_cIv (vs := []) C (fun q hq => ct_X8_init l g h x18 q hq) ml_3_27 my_X8_init rfl hl.1 Hh ⟨Nat.le_of_ble_eq_true rfl, Nat.le_of_ble_eq_true rfl, Nat.le_of_ble_eq_true rfl, Nat.le_of_ble_eq_true rfl⟩ (Nat.le_of_ble_eq_true rfl) dX3_init_48 rfl hm (fun h H locs Hh hm => ?_)
  refine z_aast C Hh dX3_init_51 hm (fun h H locs Hh hm => ?_)
  refine z_iinc (x := 7) (k := 0) (lv' := [(1, qI 8), (0, qR g l0)]) C dX3_init_52 hl rfl (by decide) rfl (fun ls hl => ?_)
  refine lv_goto (tgt := 33) hx hb dX3_init_55 (by decide) ?_
  refine lv_iload_n hx hb dX3_init_33 rfl (lv_at hl 0 rfl) ?_
  refine z_bipush C dX3_init_34 rfl ?_
  refine lv_icmp_ge (tgt := 58) hx hb dX3_init_36 (by decide) (fun q => absurd q (by decide)) (fun _ => ?_)
  refine lv_aload_n hx hb dX3_init_39 rfl (lv_at hl 1 rfl) ?_
  refine z_getR C fl_3_11 Hh dX3_init_40 rfl hm (fun x19 hm => ?_)
  refine lv_iload_n hx hb dX3_init_43 rfl (lv_at hl 0 rfl) ?_
  refine z_newb C nl_3_9 Hh (Nat.le_of_ble_eq_true rfl) (Nat.le_of_ble_eq_true rfl) dX3_init_44 hm (fun h x20 H Hh hm => ?_)
  refine lv_dup hx hb dX3_init_47 rfl ?_
  refine z_cIv (vs := []) C (fun q hq => ct_X8_init l g h x20 q hq) ml_3_27 my_X8_init rfl hl.1 Hh ⟨Nat.le_of_ble_eq_true rfl, Nat.le_of_ble_eq_true rfl, Nat.le_of_ble_eq_true rfl, Nat.le_of_ble_eq_true rfl⟩ (Nat.le_of_ble_eq_true rfl) dX3_init_48 rfl hm (fun h H locs Hh hm => ?_)
  refine z_aast C Hh dX3_init_51 hm (fun h H locs Hh hm => ?_)
  refine z_iinc (x := 8) (k := 0) (lv' := [(1, qI 9), (0, qR g l0)]) C dX3_init_52 hl rfl (by decide) rfl (fun ls hl => ?_)
  refine lv_goto (tgt := 33) hx hb dX3_init_55 (by decide) ?_
  refine lv_iload_n hx hb dX3_init_33 rfl (lv_at hl 0 rfl) ?_
  refine z_bipush C dX3_init_34 rfl ?_
  refine lv_icmp_ge (tgt := 58) hx hb dX3_init_36 (by decide) (fun q => absurd q (by decide)) (fun _ => ?_)
  refine lv_aload_n hx hb dX3_init_39 rfl (lv_at hl 1 rfl) ?_
  refine z_getR C fl_3_11 Hh dX3_init_40 rfl hm (fun x21 hm => ?_)
  refine lv_iload_n hx hb dX3_init_43 rfl (lv_at hl 0 rfl) ?_
  refine z_newb C nl_3_9 Hh (Nat.le_of_ble_eq_true rfl) (Nat.le_of_ble_eq_true rfl) dX3_init_44 hm (fun h x22 H Hh hm => ?_)
  refine lv_dup hx hb dX3_init_47 rfl ?_
  refine z_cIv (vs := []) C (fun q hq => ct_X8_init l g h x22 q hq) ml_3_27 my_X8_init rfl hl.1 Hh ⟨Nat.le_of_ble_eq_true rfl, Nat.le_of_ble_eq_true rfl, Nat.le_of_ble_eq_true rfl, Nat.le_of_ble_eq_true rfl⟩ (Nat.le_of_ble_eq_true rfl) dX3_init_48 rfl hm (fun h H locs Hh hm => ?_)
  refine z_aast C Hh dX3_init_51 hm (fun h H locs Hh hm => ?_)
  refine z_iinc (x := 9) (k := 0) (lv' := [(1, qI 10), (0, qR g l0)]) C dX3_init_52 hl rfl (by decide) rfl (fun ls hl => ?_)
  refine lv_goto (tgt := 33) hx hb dX3_init_55 (by decide) ?_
  refine lv_iload_n hx hb dX3_init_33 rfl (lv_at hl 0 rfl) ?_
  refine z_bipush C dX3_init_34 rfl ?_
  refine lv_icmp_ge (tgt := 58) hx hb dX3_init_36 (by decide) (fun q => absurd q (by decide)) (fun _ => ?_)
  refine lv_aload_n hx hb dX3_init_39 rfl (lv_at hl 1 rfl) ?_
  refine z_getR C fl_3_11 Hh dX3_init_40 rfl hm (fun x23 hm => ?_)
  refine lv_iload_n hx hb dX3_init_43 rfl (lv_at hl 0 rfl) ?_
  refine z_newb C nl_3_9 Hh (Nat.le_of_ble_eq_true rfl) (Nat.le_of_ble_eq_true rfl) dX3_init_44 hm (fun h x24 H Hh hm => ?_)
  refine lv_dup hx hb dX3_init_47 rfl ?_
  refine z_cIv (vs := []) C (fun q hq => ct_X8_init l g h x24 q hq) ml_3_27 my_X8_init rfl hl.1 Hh ⟨Nat.le_of_ble_eq_true rfl, Nat.le_of_ble_eq_true rfl, Nat.le_of_ble_eq_true rfl, Nat.le_of_ble_eq_true rfl⟩ (Nat.le_of_ble_eq_true rfl) dX3_init_48 rfl hm (fun h H locs Hh hm => ?_)
  refine z_aast C Hh dX3_init_51 hm (fun h H locs Hh hm => ?_)
  refine z_iinc (x := 10) (k := 0) (lv' := [(1, qI 11), (0, qR g l0)]) C dX3_init_52 hl rfl (by decide) rfl (fun ls hl => ?_)
  refine lv_goto (tgt := 33) hx hb dX3_init_55 (by decide) ?_
  refine lv_iload_n hx hb dX3_init_33 rfl (lv_at hl 0 rfl) ?_
  refine z_bipush C dX3_init_34 rfl ?_
  refine lv_icmp_ge (tgt := 58) hx hb dX3_init_36 (by decide) (fun q => absurd q (by decide)) (fun _ => ?_)
  refine lv_aload_n hx hb dX3_init_39 rfl (lv_at hl 1 rfl) ?_
  refine z_getR C fl_3_11 Hh dX3_init_40 rfl hm (fun x25 hm => ?_)
  refine lv_iload_n hx hb dX3_init_43 rfl (lv_at hl 0 rfl) ?_
  refine z_newb C nl_3_9 Hh (Nat.le_of_ble_eq_true rfl) (Nat.le_of_ble_eq_true rfl) dX3_init_44 hm (fun h x26 H Hh hm => ?_)
  refine lv_dup hx hb dX3_init_47 rfl ?_
  refine z_cIv (vs := []) C (fun q hq => ct_X8_init l g h x26 q hq) ml_3_27 my_X8_init rfl hl.1 Hh ⟨Nat.le_of_ble_eq_true rfl, Nat.le_of_ble_eq_true rfl, Nat.le_of_ble_eq_true rfl, Nat.le_of_ble_eq_true rfl⟩ (Nat.le_of_ble_eq_true rfl) dX3_init_48 rfl hm (fun h H locs Hh hm => ?_)
  refine z_aast C Hh dX3_init_51 hm (fun h H locs Hh hm => ?_)
  refine z_iinc (x := 11) (k := 0) (lv' := [(1, qI 12), (0, qR g l0)]) C dX3_init_52 hl rfl (by decide) rfl (fun ls hl => ?_)
  refine lv_goto (tgt := 33) hx hb dX3_init_55 (by decide) ?_
  refine lv_iload_n hx hb dX3_init_33 rfl (lv_at hl 0 rfl) ?_
  refine z_bipush C dX3_init_34 rfl ?_
  refine lv_icmp_ge (tgt := 58) hx hb dX3_init_36 (by decide) (fun _ => ?_) (fun q => absurd (by decide) q)
  refine z_iconst C dX3_init_58 ?_
  refine lv_istore_n (lv' := [(1, qI 0), (0, qR g l0)]) hx hb dX3_init_59 rfl hl (by decide) rfl (fun ls hl => ?_)
  refine lv_iload_n hx hb dX3_init_60 rfl (lv_at hl 0 rfl) ?_
  refine z_iconst C dX3_init_61 ?_
  refine lv_icmp_ge (tgt := 84) hx hb dX3_init_62 (by decide) (fun q => absurd q (by decide)) (fun _ => ?_)
  refine lv_aload_n hx hb dX3_init_65 rfl (lv_at hl 1 rfl) ?_
  refine z_getR C fl_3_21 Hh dX3_init_66 rfl hm (fun x27 hm => ?_)
  refine lv_iload_n hx hb dX3_init_69 rfl (lv_at hl 0 rfl) ?_
  refine z_newb C nl_3_9 Hh (Nat.le_of_ble_eq_true rfl) (Nat.le_of_ble_eq_true rfl) dX3_init_70 hm (fun h x28 H Hh hm => ?_)
  refine lv_dup hx hb dX3_init_73 rfl ?_
  refine z_cIv (vs := []) C (fun q hq => ct_X8_init l g h x28 q hq) ml_3_27 my_X8_init rfl hl.1 Hh ⟨Nat.le_of_ble_eq_true rfl, Nat.le_of_ble_eq_true rfl, Nat.le_of_ble_eq_true rfl, Nat.le_of_ble_eq_true rfl⟩ (Nat.le_of_ble_eq_true rfl) dX3_init_74 rfl hm (fun h H locs Hh hm => ?_)
  refine z_aast C Hh dX3_init_77 hm (fun h H locs Hh hm => ?_)
  refine z_iinc (x := 0) (k := 0) (lv' := [(1, qI 1), (0, qR g l0)]) C dX3_init_78 hl rfl (by decide) rfl (fun ls hl => ?_)
  refine lv_goto (tgt := 60) hx hb dX3_init_81 (by decide) ?_
  refine lv_iload_n hx hb dX3_init_60 rfl (lv_at hl 0 rfl) ?_
  refine z_iconst C dX3_init_61 ?_
  refine lv_icmp_ge (tgt := 84) hx hb dX3_init_62 (by decide) (fun q => absurd q (by decide)) (fun _ => ?_)
  refine lv_aload_n hx hb dX3_init_65 rfl (lv_at hl 1 rfl) ?_
  refine z_getR C fl_3_21 Hh dX3_init_66 rfl hm (fun x29 hm => ?_)
  refine lv_iload_n hx hb dX3_init_69 rfl (lv_at hl 0 rfl) ?_
  refine z_newb C nl_3_9 Hh (Nat.le_of_ble_eq_true rfl) (Nat.le_of_ble_eq_true rfl) dX3_init_70 hm (fun h x30 H Hh hm => ?_)
  refine lv_dup hx hb dX3_init_73 rfl ?_
  refine z_cIv (vs := []) C (fun q hq => ct_X8_init l g h x30 q hq) ml_3_27 my_X8_init rfl hl.1 Hh ⟨Nat.le_of_ble_eq_true rfl, Nat.le_of_ble_eq_true rfl, Nat.le_of_ble_eq_true rfl, Nat.le_of_ble_eq_true rfl⟩ (Nat.le_of_ble_eq_true rfl) dX3_init_74 rfl hm (fun h H locs Hh hm => ?_)
  refine z_aast C Hh dX3_init_77 hm (fun h H locs Hh hm => ?_)
  refine z_iinc (x := 1) (k := 0) (lv' := [(1, qI 2), (0, qR g l0)]) C dX3_init_78 hl rfl (by decide) rfl (fun ls hl => ?_)
  refine lv_goto (tgt := 60) hx hb dX3_init_81 (by decide) ?_
  refine lv_iload_n hx hb dX3_init_60 rfl (lv_at hl 0 rfl) ?_
  refine z_iconst C dX3_init_61 ?_
  refine lv_icmp_ge (tgt := 84) hx hb dX3_init_62 (by decide) (fun q => absurd q (by decide)) (fun _ => ?_)
  refine lv_aload_n hx hb dX3_init_65 rfl (lv_at hl 1 rfl) ?_
  refine z_getR C fl_3_21 Hh dX3_init_66 rfl hm (fun x31 hm => ?_)
  refine lv_iload_n hx hb dX3_init_69 rfl (lv_at hl 0 rfl) ?_
  refine z_newb C nl_3_9 Hh (Nat.le_of_ble_eq_true rfl) (Nat.le_of_ble_eq_true rfl) dX3_init_70 hm (fun h x32 H Hh hm => ?_)
  refine lv_dup hx hb dX3_init_73 rfl ?_
  refine z_cIv (vs := []) C (fun q hq => ct_X8_init l g h x32 q hq) ml_3_27 my_X8_init rfl hl.1 Hh ⟨Nat.le_of_ble_eq_true rfl, Nat.le_of_ble_eq_true rfl, Nat.le_of_ble_eq_true rfl, Nat.le_of_ble_eq_true rfl⟩ (Nat.le_of_ble_eq_true rfl) dX3_init_74 rfl hm (fun h H locs Hh hm => ?_)
  refine z_aast C Hh dX3_init_77 hm (fun h H locs Hh hm => ?_)
  refine z_iinc (x := 2) (k := 0) (lv' := [(1, qI 3), (0, qR g l0)]) C dX3_init_78 hl rfl (by decide) rfl (fun ls hl => ?_)
  refine lv_goto (tgt := 60) hx hb dX3_init_81 (by decide) ?_
  refine lv_iload_n hx hb dX3_init_60 rfl (lv_at hl 0 rfl) ?_
  refine z_iconst C dX3_init_61 ?_
  refine lv_icmp_ge (tgt := 84) hx hb dX3_init_62 (by decide) (fun _ => ?_) (fun q => absurd (by decide) q)
  refine W.widen (k := 62) (n := 3825) (Nat.le_of_ble_eq_true rfl) (Nat.le_of_ble_eq_true rfl) ?_
  exact z_vret C hr hlocks Hh dX3_init_84 hm
theorem tg_X3_forgetAll {h : Hp} {l0 : Int} {r : Hp} (hm : M_X3_forgetAll h l0 = some r) : hT h l0 = 13 := (tk_inv hm).1
set_option maxRecDepth 100000 in
set_option maxHeartbeats 4000000 in
theorem ct_X3_forgetAll (l : Launch) (g : zGeo) (h0 : Hp) (l0 : Int) (r : Hp) (hm : M_X3_forgetAll h0 l0 = some r) : zM l yX3_forgetAll cX3_forgetAll 1 none 0 0 0 0 g h0 [qR g l0] r none := by
  refine z_meth (by decide) (Nat.le_of_ble_eq_true rfl) ?_
  intro p e s m args below meth c H ls C hr hlocks hnm Hh hl
  have C : zC p m c cX3_forgetAll 1 s args RX3 g := C
  have hnm : meth.name = "forgetAll" := hnm
  have hx := C.1.1
  have hb := C.1.2.1
  have hl : lv_has ls 1 [(0, qR g l0)] := hl
  unfold M_X3_forgetAll at hm
  replace hm := (tk_inv hm).2
  generalize h0 = h at Hh hm
  refine lv_aload_n hx hb dX3_forgetAll_0 rfl (lv_at hl 0 rfl) ?_
  refine z_iconst C dX3_forgetAll_1 ?_
  refine z_putI C hnm pl_3_17 Hh dX3_forgetAll_2 rfl hm (fun h H locs Hh hm => ?_)
  refine lv_aload_n hx hb dX3_forgetAll_5 rfl (lv_at hl 0 rfl) ?_
  refine z_iconst C dX3_forgetAll_6 ?_
  refine z_putI C hnm pl_3_24 Hh dX3_forgetAll_7 rfl hm (fun h H locs Hh hm => ?_)
  exact z_vret C hr hlocks Hh dX3_forgetAll_10 hm
theorem tg_X3_forgetOldest {h : Hp} {l0 : Int} {r : Hp} (hm : M_X3_forgetOldest h l0 = some r) : hT h l0 = 13 := (tk_inv hm).1
set_option maxRecDepth 100000 in
set_option maxHeartbeats 4000000 in
theorem ct_X3_forgetOldest (l : Launch) (g : zGeo) (h0 : Hp) (l0 : Int) (r : Hp) (hm : M_X3_forgetOldest h0 l0 = some r) : zM l yX3_forgetOldest cX3_forgetOldest 3 none 0 0 0 0 g h0 [qR g l0] r none := by
  refine z_meth (by decide) (Nat.le_of_ble_eq_true rfl) ?_
  intro p e s m args below meth c H ls C hr hlocks hnm Hh hl
  have C : zC p m c cX3_forgetOldest 3 s args RX3 g := C
  have hnm : meth.name = "forgetOldest" := hnm
  have hx := C.1.1
  have hb := C.1.2.1
  have hl : lv_has ls 3 [(0, qR g l0)] := hl
  unfold M_X3_forgetOldest at hm
  replace hm := (tk_inv hm).2
  generalize h0 = h at Hh hm
  have K35 : ∀ (h : Hp) (l0 l1 : Int) (H : Heap) (locs : List Loc) (ls : Array Slot), zH g s h H locs → lv_has ls 3 [(0, qR g l0), (1, qR g l1)] → M_X3_forgetOldest_p35 h l0 l1 = some r → W p l e { frames := 0, cells := 0, slots := 0, locals := 0 } s m args below meth c H locs 0 0 (zQ below g r none args s 0 0) (F0 m 35 ls []) := by
    intro h l0 l1  H locs ls Hh hl hm
    unfold M_X3_forgetOldest_p35 at hm
    refine lv_aload_n hx hb dX3_forgetOldest_35 rfl (lv_at hl 0 rfl) ?_
    refine z_getR C fl_3_11 Hh dX3_forgetOldest_36 rfl hm (fun x1 hm => ?_)
    refine z_bipush C dX3_forgetOldest_39 rfl ?_
    refine lv_aload_n hx hb dX3_forgetOldest_41 rfl (lv_at hl 1 rfl) ?_
    refine z_aast C Hh dX3_forgetOldest_42 hm (fun h H locs Hh hm => ?_)
    refine lv_aload_n hx hb dX3_forgetOldest_43 rfl (lv_at hl 0 rfl) ?_
    refine z_bipush C dX3_forgetOldest_44 rfl ?_
    refine z_putI C hnm pl_3_17 Hh dX3_forgetOldest_46 rfl hm (fun h H locs Hh hm => ?_)
    exact z_vret C hr hlocks Hh dX3_forgetOldest_49 hm
  have KL9 : ∀ (n : Nat) (h : Hp) (l0 l1 l2 : Int) (H : Heap) (locs : List Loc) (ls : Array Slot), zH g s h H locs → lv_has ls 3 [(0, qR g l0), (1, qR g l1), (2, qI l2)] → M_X3_forgetOldest_w9 n h l0 l1 l2 = some r → W p l e { frames := 0, cells := 0, slots := 0, locals := 0 } s m args below meth c H locs 0 0 (zQ below g r none args s 0 0) (F0 m 9 ls []) := by
    intro n
    induction n with
    | zero => intro h l0 l1 l2 H locs ls Hh hl hm; cases hm
    | succ n ih9 =>
      intro h l0 l1 l2 H locs ls Hh hl hm
      obtain ⟨z9, hm, hc9⟩ := wh_inv hm
      have hm : M_X3_forgetOldest_b9 h l0 l1 l2 = some z9 := hm
      unfold M_X3_forgetOldest_b9 at hm
      refine lv_iload_n hx hb dX3_forgetOldest_9 rfl (lv_at hl 2 rfl) ?_
      refine z_bipush C dX3_forgetOldest_10 rfl ?_
      refine z_icmp_ge (tgt := 35) C dX3_forgetOldest_12 (by decide) rfl lq_p12 hm (fun _ hm => ?_) (fun _ hm => ?_)
      · cases hm
        exact K35 h l0 l1 _ _ _ Hh (lv_sub hl [0, 1] rfl) hc9
      · refine lv_aload_n hx hb dX3_forgetOldest_15 rfl (lv_at hl 0 rfl) ?_
        refine z_getR C fl_3_11 Hh dX3_forgetOldest_16 rfl hm (fun x2 hm => ?_)
        refine lv_iload_n hx hb dX3_forgetOldest_19 rfl (lv_at hl 2 rfl) ?_
        refine z_iconst C dX3_forgetOldest_20 ?_
        refine z_isub C dX3_forgetOldest_21 ?_
        refine lv_aload_n hx hb dX3_forgetOldest_22 rfl (lv_at hl 0 rfl) ?_
        refine z_getR C fl_3_11 Hh dX3_forgetOldest_23 rfl hm (fun x3 hm => ?_)
        refine lv_iload_n hx hb dX3_forgetOldest_26 rfl (lv_at hl 2 rfl) ?_
        refine z_aald C Hh dX3_forgetOldest_27 hm (fun x4 hm => ?_)
        refine z_aast C Hh dX3_forgetOldest_28 hm (fun h H locs Hh hm => ?_)
        refine z_iinc (x := l2) (k := 2) (lv' := [(2, qI (l2 + 1)), (0, qR g l0), (1, qR g l1)]) C dX3_forgetOldest_29 hl rfl (by decide) rfl (fun ls hl => ?_)
        refine lv_goto (tgt := 9) hx hb dX3_forgetOldest_32 (by decide) ?_
        cases hm
        exact ih9 h l0 l1 (l2 + 1) _ _ _ Hh (lv_sub hl [1, 2, 0] rfl) hc9
  refine lv_aload_n hx hb dX3_forgetOldest_0 rfl (lv_at hl 0 rfl) ?_
  refine z_getR C fl_3_11 Hh dX3_forgetOldest_1 rfl hm (fun x5 hm => ?_)
  refine z_iconst C dX3_forgetOldest_4 ?_
  refine z_aald C Hh dX3_forgetOldest_5 hm (fun x6 hm => ?_)
  refine lv_astore_n (lv' := [(1, qR g x6), (0, qR g l0)]) hx hb dX3_forgetOldest_6 rfl hl (by decide) rfl (fun ls hl => ?_)
  refine z_iconst C dX3_forgetOldest_7 ?_
  refine lv_istore_n (lv' := [(2, qI 1), (1, qR g x6), (0, qR g l0)]) hx hb dX3_forgetOldest_8 rfl hl (by decide) rfl (fun ls hl => ?_)
  exact KL9 FU h l0 x6 1 _ _ _ Hh (lv_sub hl [2, 1, 0] rfl) hm
theorem tg_X3_remember {h : Hp} {l0 l1 : Int} {r : Hp} (hm : M_X3_remember h l0 l1 = some r) : hT h l0 = 13 := (tk_inv hm).1
set_option maxRecDepth 100000 in
set_option maxHeartbeats 4000000 in
theorem ct_X3_remember (l : Launch) (g : zGeo) (h0 : Hp) (l0 l1 : Int) (r : Hp) (hm : M_X3_remember h0 l0 l1 = some r) : zM l yX3_remember cX3_remember 2 none 2 81 0 0 g h0 [qR g l0, qR g l1] r none := by
  refine z_meth (by decide) (Nat.le_of_ble_eq_true rfl) ?_
  intro p e s m args below meth c H ls C hr hlocks hnm Hh hl
  have C : zC p m c cX3_remember 2 s args RX3 g := C
  have hnm : meth.name = "remember" := hnm
  have hx := C.1.1
  have hb := C.1.2.1
  have hl : lv_has ls 2 [(0, qR g l0), (1, qR g l1)] := hl
  unfold M_X3_remember at hm
  replace hm := (tk_inv hm).2
  generalize h0 = h at Hh hm
  have K13 : ∀ (h : Hp) (l0 l1 : Int) (H : Heap) (locs : List Loc) (ls : Array Slot), zH g s h H locs → lv_has ls 2 [(0, qR g l0), (1, qR g l1)] → M_X3_remember_p13 h l0 l1 = some r → W p l e { frames := 2, cells := 0, slots := 0, locals := 81 } s m args below meth c H locs 0 0 (zQ below g r none args s 0 0) (F0 m 13 ls []) := by
    intro h l0 l1  H locs ls Hh hl hm
    unfold M_X3_remember_p13 at hm
    refine lv_aload_n hx hb dX3_remember_13 rfl (lv_at hl 0 rfl) ?_
    refine z_getR C fl_3_11 Hh dX3_remember_14 rfl hm (fun x1 hm => ?_)
    refine lv_aload_n hx hb dX3_remember_17 rfl (lv_at hl 0 rfl) ?_
    refine z_getI C fl_3_17 Hh dX3_remember_18 rfl hm (fun x2 hm => ?_)
    refine z_aald C Hh dX3_remember_21 hm (fun x3 hm => ?_)
    refine lv_aload_n hx hb dX3_remember_22 rfl (lv_at hl 1 rfl) ?_
    refine z_cVv (vs := [qR g l1]) C (fun q hq => ct_X8_become l g h x3 l1 q hq) tw_1177 my_X8_become (fun q hq => tg_X8_become hq) rfl hl.1 Hh ⟨Nat.le_of_ble_eq_true rfl, Nat.le_of_ble_eq_true rfl, Nat.le_of_ble_eq_true rfl, Nat.le_of_ble_eq_true rfl⟩ (Nat.le_of_ble_eq_true rfl) dX3_remember_23 rfl hm (fun h H locs Hh hm => ?_)
    refine lv_aload_n hx hb dX3_remember_26 rfl (lv_at hl 0 rfl) ?_
    refine lv_dup hx hb dX3_remember_27 rfl ?_
    refine z_getI C fl_3_17 Hh dX3_remember_28 rfl hm (fun x4 hm => ?_)
    refine z_iconst C dX3_remember_31 ?_
    refine z_iadd C dX3_remember_32 ?_
    refine z_putI C hnm pl_3_17 Hh dX3_remember_33 rfl hm (fun h H locs Hh hm => ?_)
    exact z_vret C hr hlocks Hh dX3_remember_36 hm
  refine lv_aload_n hx hb dX3_remember_0 rfl (lv_at hl 0 rfl) ?_
  refine z_getI C fl_3_17 Hh dX3_remember_1 rfl hm (fun x5 hm => ?_)
  refine z_bipush C dX3_remember_4 rfl ?_
  refine z_icmp_lt (tgt := 13) C dX3_remember_6 (by decide) rfl lq_p12 hm (fun _ hm => ?_) (fun _ hm => ?_)
  · exact K13 h l0 l1 _ _ _ Hh (lv_sub hl [0, 1] rfl) hm
  · refine lv_aload_n hx hb dX3_remember_9 rfl (lv_at hl 0 rfl) ?_
    refine z_cVv (vs := []) C (fun q hq => ct_X3_forgetOldest l g h l0 q hq) tw_1173 my_X3_forgetOldest (fun q hq => tg_X3_forgetOldest hq) rfl hl.1 Hh ⟨Nat.le_of_ble_eq_true rfl, Nat.le_of_ble_eq_true rfl, Nat.le_of_ble_eq_true rfl, Nat.le_of_ble_eq_true rfl⟩ (Nat.le_of_ble_eq_true rfl) dX3_remember_10 rfl hm (fun h H locs Hh hm => ?_)
    exact K13 h l0 l1 _ _ _ Hh (lv_sub hl [0, 1] rfl) hm
theorem tg_X3_recall {h : Hp} {l0 l1 : Int} {r : Hp} (hm : M_X3_recall h l0 l1 = some r) : hT h l0 = 13 := (tk_inv hm).1
set_option maxRecDepth 100000 in
set_option maxHeartbeats 4000000 in
theorem ct_X3_recall (l : Launch) (g : zGeo) (h0 : Hp) (l0 l1 : Int) (r : Hp) (hm : M_X3_recall h0 l0 l1 = some r) : zM l yX3_recall cX3_recall 2 none 2 81 0 0 g h0 [qR g l0, qR g l1] r none := by
  refine z_meth (by decide) (Nat.le_of_ble_eq_true rfl) ?_
  intro p e s m args below meth c H ls C hr hlocks hnm Hh hl
  have C : zC p m c cX3_recall 2 s args RX3 g := C
  have hnm : meth.name = "recall" := hnm
  have hx := C.1.1
  have hb := C.1.2.1
  have hl : lv_has ls 2 [(0, qR g l0), (1, qR g l1)] := hl
  unfold M_X3_recall at hm
  replace hm := (tk_inv hm).2
  generalize h0 = h at Hh hm
  refine lv_aload_n hx hb dX3_recall_0 rfl (lv_at hl 0 rfl) ?_
  refine z_getI C fl_3_17 Hh dX3_recall_1 rfl hm (fun x1 hm => ?_)
  refine z_if_le (tgt := 30) C dX3_recall_4 (by decide) rfl hm (fun _ hm => ?_) (fun _ hm => ?_)
  · exact z_vret C hr hlocks Hh dX3_recall_30 hm
  · refine lv_aload_n hx hb dX3_recall_7 rfl (lv_at hl 0 rfl) ?_
    refine lv_dup hx hb dX3_recall_8 rfl ?_
    refine z_getI C fl_3_17 Hh dX3_recall_9 rfl hm (fun x2 hm => ?_)
    refine z_iconst C dX3_recall_12 ?_
    refine z_isub C dX3_recall_13 ?_
    refine z_putI C hnm pl_3_17 Hh dX3_recall_14 rfl hm (fun h H locs Hh hm => ?_)
    refine lv_aload_n hx hb dX3_recall_17 rfl (lv_at hl 1 rfl) ?_
    refine lv_aload_n hx hb dX3_recall_18 rfl (lv_at hl 0 rfl) ?_
    refine z_getR C fl_3_11 Hh dX3_recall_19 rfl hm (fun x3 hm => ?_)
    refine lv_aload_n hx hb dX3_recall_22 rfl (lv_at hl 0 rfl) ?_
    refine z_getI C fl_3_17 Hh dX3_recall_23 rfl hm (fun x4 hm => ?_)
    refine z_aald C Hh dX3_recall_26 hm (fun x5 hm => ?_)
    refine z_cVv (vs := [qR g x5]) C (fun q hq => ct_X8_become l g h l1 x5 q hq) tw_1177 my_X8_become (fun q hq => tg_X8_become hq) rfl hl.1 Hh ⟨Nat.le_of_ble_eq_true rfl, Nat.le_of_ble_eq_true rfl, Nat.le_of_ble_eq_true rfl, Nat.le_of_ble_eq_true rfl⟩ (Nat.le_of_ble_eq_true rfl) dX3_recall_27 rfl hm (fun h H locs Hh hm => ?_)
    exact z_vret C hr hlocks Hh dX3_recall_30 hm
theorem tg_X3_hold {h : Hp} {l0 l1 : Int} {r : Hp × Int} (hm : M_X3_hold h l0 l1 = some r) : hT h l0 = 13 := (tk_inv hm).1
set_option maxRecDepth 100000 in
set_option maxHeartbeats 4000000 in
theorem ct_X3_hold (l : Launch) (g : zGeo) (h0 : Hp) (l0 l1 : Int) (r : Hp × Int) (hm : M_X3_hold h0 l0 l1 = some r) : zM l yX3_hold cX3_hold 2 (some .int) 2 81 0 0 g h0 [qR g l0, qR g l1] r.1 (some (qI r.2)) := by
  refine z_meth (by decide) (Nat.le_of_ble_eq_true rfl) ?_
  intro p e s m args below meth c H ls C hr hlocks hnm Hh hl
  have C : zC p m c cX3_hold 2 s args RX3 g := C
  have hnm : meth.name = "hold" := hnm
  have hx := C.1.1
  have hb := C.1.2.1
  have hl : lv_has ls 2 [(0, qR g l0), (1, qR g l1)] := hl
  unfold M_X3_hold at hm
  replace hm := (tk_inv hm).2
  generalize h0 = h at Hh hm
  refine lv_aload_n hx hb dX3_hold_0 rfl (lv_at hl 0 rfl) ?_
  refine z_getI C fl_3_24 Hh dX3_hold_1 rfl hm (fun x1 hm => ?_)
  refine z_iconst C dX3_hold_4 ?_
  refine z_icmp_lt (tgt := 10) C dX3_hold_5 (by decide) rfl lq_p3 hm (fun _ hm => ?_) (fun _ hm => ?_)
  · refine lv_aload_n hx hb dX3_hold_10 rfl (lv_at hl 0 rfl) ?_
    refine z_getR C fl_3_21 Hh dX3_hold_11 rfl hm (fun x2 hm => ?_)
    refine lv_aload_n hx hb dX3_hold_14 rfl (lv_at hl 0 rfl) ?_
    refine z_getI C fl_3_24 Hh dX3_hold_15 rfl hm (fun x3 hm => ?_)
    refine z_aald C Hh dX3_hold_18 hm (fun x4 hm => ?_)
    refine lv_aload_n hx hb dX3_hold_19 rfl (lv_at hl 1 rfl) ?_
    refine z_cVv (vs := [qR g l1]) C (fun q hq => ct_X8_become l g h x4 l1 q hq) tw_1177 my_X8_become (fun q hq => tg_X8_become hq) rfl hl.1 Hh ⟨Nat.le_of_ble_eq_true rfl, Nat.le_of_ble_eq_true rfl, Nat.le_of_ble_eq_true rfl, Nat.le_of_ble_eq_true rfl⟩ (Nat.le_of_ble_eq_true rfl) dX3_hold_20 rfl hm (fun h H locs Hh hm => ?_)
    refine lv_aload_n hx hb dX3_hold_23 rfl (lv_at hl 0 rfl) ?_
    refine lv_dup hx hb dX3_hold_24 rfl ?_
    refine z_getI C fl_3_24 Hh dX3_hold_25 rfl hm (fun x5 hm => ?_)
    refine z_iconst C dX3_hold_28 ?_
    refine z_iadd C dX3_hold_29 ?_
    refine z_putI C hnm pl_3_24 Hh dX3_hold_30 rfl hm (fun h H locs Hh hm => ?_)
    refine lv_aload_n hx hb dX3_hold_33 rfl (lv_at hl 0 rfl) ?_
    refine z_getI C fl_3_24 Hh dX3_hold_34 rfl hm (fun x6 hm => ?_)
    refine z_iconst C dX3_hold_37 ?_
    refine z_isub C dX3_hold_38 ?_
    exact z_iret C hr hlocks Hh dX3_hold_39 hm
  · refine z_iconst C dX3_hold_8 ?_
    exact z_iret C hr hlocks Hh dX3_hold_9 hm
theorem tg_X4_init {h : Hp} {l0 l1 l2 l3 : Int} {r : Hp} (hm : M_X4_init h l0 l1 l2 l3 = some r) : hT h l0 = 14 := (tk_inv hm).1
set_option maxRecDepth 100000 in
set_option maxHeartbeats 4000000 in
theorem ct_X4_init (l : Launch) (g : zGeo) (h0 : Hp) (l0 l1 l2 l3 : Int) (r : Hp) (hm : M_X4_init h0 l0 l1 l2 l3 = some r) : zM l yX4_init cX4_init 4 none 1 40 0 0 g h0 [qR g l0, qR g l1, qI l2, qR g l3] r none := by
  refine z_meth (by decide) (Nat.le_of_ble_eq_true rfl) ?_
  intro p e s m args below meth c H ls C hr hlocks hnm Hh hl
  have C : zC p m c cX4_init 4 s args RX4 g := C
  have hnm : meth.name = "<init>" := hnm
  have hx := C.1.1
  have hb := C.1.2.1
  have hl : lv_has ls 4 [(0, qR g l0), (1, qR g l1), (2, qI l2), (3, qR g l3)] := hl
  unfold M_X4_init at hm
  replace hm := (tk_inv hm).2
  generalize h0 = h at Hh hm
  refine lv_aload_n hx hb dX4_init_0 rfl (lv_at hl 0 rfl) ?_
  refine z_oinit C ⟨tw_516, tw_159, tw_160⟩ hl.1 (Nat.le_of_ble_eq_true rfl) (Nat.le_of_ble_eq_true rfl) dX4_init_1 ?_
  refine lv_aload_n hx hb dX4_init_4 rfl (lv_at hl 0 rfl) ?_
  refine z_iconst C dX4_init_5 ?_
  refine z_putI C hnm pl_4_9_i Hh dX4_init_6 rfl hm (fun h H locs Hh hm => ?_)
  refine lv_aload_n hx hb dX4_init_9 rfl (lv_at hl 0 rfl) ?_
  refine z_iconst C dX4_init_10 ?_
  refine z_putI C hnm pl_4_15_i Hh dX4_init_11 rfl hm (fun h H locs Hh hm => ?_)
  refine lv_aload_n hx hb dX4_init_14 rfl (lv_at hl 0 rfl) ?_
  refine z_iconst C dX4_init_15 ?_
  refine z_putI C hnm pl_4_18_i Hh dX4_init_16 rfl hm (fun h H locs Hh hm => ?_)
  refine lv_aload_n hx hb dX4_init_19 rfl (lv_at hl 0 rfl) ?_
  refine z_iconst C dX4_init_20 ?_
  refine z_putI C hnm pl_4_21_i Hh dX4_init_21 rfl hm (fun h H locs Hh hm => ?_)
  refine lv_aload_n hx hb dX4_init_24 rfl (lv_at hl 0 rfl) ?_
  refine z_iconst C dX4_init_25 ?_
  refine z_putI C hnm pl_4_24_i Hh dX4_init_26 rfl hm (fun h H locs Hh hm => ?_)
  refine lv_aload_n hx hb dX4_init_29 rfl (lv_at hl 0 rfl) ?_
  refine z_iconst C dX4_init_30 ?_
  refine z_putI C hnm pl_4_27_i Hh dX4_init_31 rfl hm (fun h H locs Hh hm => ?_)
  refine lv_aload_n hx hb dX4_init_34 rfl (lv_at hl 0 rfl) ?_
  refine z_lconst (v := 0) C dX4_init_35 rfl ?_
  refine z_putJ C hnm pl_4_30_i Hh dX4_init_36 rfl hm (fun h H locs Hh hm => ?_)
  refine lv_aload_n hx hb dX4_init_39 rfl (lv_at hl 0 rfl) ?_
  refine lv_aload_n hx hb dX4_init_40 rfl (lv_at hl 1 rfl) ?_
  refine z_putRc C hnm pl_4_34_i (fun _ => ⟨rfl, rfl⟩) Hh dX4_init_41 rfl hm (fun h H locs Hh hm => ?_)
  refine lv_aload_n hx hb dX4_init_44 rfl (lv_at hl 0 rfl) ?_
  refine lv_iload_n hx hb dX4_init_45 rfl (lv_at hl 2 rfl) ?_
  refine lv_aload_n hx hb dX4_init_46 rfl (lv_at hl 1 rfl) ?_
  refine z_alen C Hh dX4_init_47 (by decide) hm (fun x1 hm => ?_)
  refine z_mmin C mm_4_38 hl.1 (Nat.le_of_ble_eq_true rfl) (Nat.le_of_ble_eq_true rfl) (Nat.le_of_ble_eq_true rfl) (Nat.le_of_ble_eq_true rfl) dX4_init_48 ?_
  refine z_putI C hnm pl_4_44_i Hh dX4_init_51 rfl hm (fun h H locs Hh hm => ?_)
  refine lv_aload_n hx hb dX4_init_54 rfl (lv_at hl 0 rfl) ?_
  refine lv_aload_n hx hb dX4_init_55 rfl (lv_at hl 3 rfl) ?_
  refine z_putRc C hnm pl_4_47_i (fun _ => ⟨rfl, rfl⟩) Hh dX4_init_56 rfl hm (fun h H locs Hh hm => ?_)
  exact z_vret C hr hlocks Hh dX4_init_59 hm
theorem tg_X8_makeTrue {h : Hp} {l0 l1 : Int} {r : Hp} (hm : M_X8_makeTrue h l0 l1 = some r) : hT h l0 = 18 := (tk_inv hm).1
set_option maxRecDepth 100000 in
set_option maxHeartbeats 4000000 in
theorem ct_X8_makeTrue (l : Launch) (g : zGeo) (h0 : Hp) (l0 l1 : Int) (r : Hp) (hm : M_X8_makeTrue h0 l0 l1 = some r) : zM l yX8_makeTrue cX8_makeTrue 3 none 0 0 0 0 g h0 [qR g l0, qI l1] r none := by
  refine z_meth (by decide) (Nat.le_of_ble_eq_true rfl) ?_
  intro p e s m args below meth c H ls C hr hlocks hnm Hh hl
  have C : zC p m c cX8_makeTrue 3 s args RX8 g := C
  have hnm : meth.name = "makeTrue" := hnm
  have hx := C.1.1
  have hb := C.1.2.1
  have hl : lv_has ls 3 [(0, qR g l0), (1, qI l1)] := hl
  unfold M_X8_makeTrue at hm
  replace hm := (tk_inv hm).2
  generalize h0 = h at Hh hm
  have K34 : ∀ (h : Hp) (H : Heap) (locs : List Loc) (ls : Array Slot), zH g s h H locs → lv_has ls 3 [] → M_X8_makeTrue_p34 h = some r → W p l e { frames := 0, cells := 0, slots := 0, locals := 0 } s m args below meth c H locs 0 0 (zQ below g r none args s 0 0) (F0 m 34 ls []) := by
    intro h  H locs ls Hh hl hm
    unfold M_X8_makeTrue_p34 at hm
    exact z_vret C hr hlocks Hh dX8_makeTrue_34 hm
  have KL11 : ∀ (n : Nat) (h : Hp) (l0 l1 l2 : Int) (H : Heap) (locs : List Loc) (ls : Array Slot), zH g s h H locs → lv_has ls 3 [(0, qR g l0), (1, qI l1), (2, qI l2)] → M_X8_makeTrue_w11 n h l0 l1 l2 = some r → W p l e { frames := 0, cells := 0, slots := 0, locals := 0 } s m args below meth c H locs 0 0 (zQ below g r none args s 0 0) (F0 m 11 ls []) := by
    intro n
    induction n with
    | zero => intro h l0 l1 l2 H locs ls Hh hl hm; cases hm
    | succ n ih11 =>
      intro h l0 l1 l2 H locs ls Hh hl hm
      obtain ⟨z11, hm, hc11⟩ := wh_inv hm
      have hm : M_X8_makeTrue_b11 h l0 l1 l2 = some z11 := hm
      unfold M_X8_makeTrue_b11 at hm
      refine lv_iload_n hx hb dX8_makeTrue_11 rfl (lv_at hl 2 rfl) ?_
      refine z_iconst C dX8_makeTrue_12 ?_
      refine z_icmp_ge (tgt := 34) C dX8_makeTrue_13 (by decide) rfl lq_p4 hm (fun _ hm => ?_) (fun _ hm => ?_)
      · cases hm
        exact K34 h _ _ _ Hh (lv_sub hl [] rfl) hc11
      · refine lv_aload_n hx hb dX8_makeTrue_16 rfl (lv_at hl 0 rfl) ?_
        refine z_getR C fl_8_28 Hh dX8_makeTrue_17 rfl hm (fun x1 hm => ?_)
        refine z_iconst C dX8_makeTrue_20 ?_
        refine lv_iload_n hx hb dX8_makeTrue_21 rfl (lv_at hl 1 rfl) ?_
        refine z_imul C dX8_makeTrue_22 ?_
        refine lv_iload_n hx hb dX8_makeTrue_23 rfl (lv_at hl 2 rfl) ?_
        refine z_iadd C dX8_makeTrue_24 ?_
        refine z_bipush C dX8_makeTrue_25 rfl ?_
        refine z_iast C Hh dX8_makeTrue_27 hm (fun h H locs Hh hm => ?_)
        refine z_iinc (x := l2) (k := 2) (lv' := [(2, qI (l2 + 1)), (0, qR g l0), (1, qI l1)]) C dX8_makeTrue_28 hl rfl (by decide) rfl (fun ls hl => ?_)
        refine lv_goto (tgt := 11) hx hb dX8_makeTrue_31 (by decide) ?_
        cases hm
        exact ih11 h l0 l1 (l2 + 1) _ _ _ Hh (lv_sub hl [1, 2, 0] rfl) hc11
  refine lv_aload_n hx hb dX8_makeTrue_0 rfl (lv_at hl 0 rfl) ?_
  refine z_getR C fl_8_28 Hh dX8_makeTrue_1 rfl hm (fun x2 hm => ?_)
  refine z_iconst C dX8_makeTrue_4 ?_
  refine lv_iload_n hx hb dX8_makeTrue_5 rfl (lv_at hl 1 rfl) ?_
  refine z_imul C dX8_makeTrue_6 ?_
  refine z_iconst C dX8_makeTrue_7 ?_
  refine z_iast C Hh dX8_makeTrue_8 hm (fun h H locs Hh hm => ?_)
  refine z_iconst C dX8_makeTrue_9 ?_
  refine lv_istore_n (lv' := [(2, qI 1), (0, qR g l0), (1, qI l1)]) hx hb dX8_makeTrue_10 rfl hl (by decide) rfl (fun ls hl => ?_)
  exact KL11 FU h l0 l1 1 _ _ _ Hh (lv_sub hl [1, 2, 0] rfl) hm
theorem tg_X8_clear {h : Hp} {l0 : Int} {r : Hp} (hm : M_X8_clear h l0 = some r) : hT h l0 = 18 := (tk_inv hm).1
set_option maxRecDepth 100000 in
set_option maxHeartbeats 4000000 in
theorem ct_X8_clear (l : Launch) (g : zGeo) (h0 : Hp) (l0 : Int) (r : Hp) (hm : M_X8_clear h0 l0 = some r) : zM l yX8_clear cX8_clear 2 none 1 23 0 0 g h0 [qR g l0] r none := by
  refine z_meth (by decide) (Nat.le_of_ble_eq_true rfl) ?_
  intro p e s m args below meth c H ls C hr hlocks hnm Hh hl
  have C : zC p m c cX8_clear 2 s args RX8 g := C
  have hnm : meth.name = "clear" := hnm
  have hx := C.1.1
  have hb := C.1.2.1
  have hl : lv_has ls 2 [(0, qR g l0)] := hl
  unfold M_X8_clear at hm
  replace hm := (tk_inv hm).2
  generalize h0 = h at Hh hm
  have K51 : ∀ (h : Hp) (l0 : Int) (H : Heap) (locs : List Loc) (ls : Array Slot), zH g s h H locs → lv_has ls 2 [(0, qR g l0)] → M_X8_clear_p51 h l0 = some r → W p l e { frames := 1, cells := 0, slots := 0, locals := 23 } s m args below meth c H locs 0 0 (zQ below g r none args s 0 0) (F0 m 51 ls []) := by
    intro h l0  H locs ls Hh hl hm
    unfold M_X8_clear_p51 at hm
    refine lv_aload_n hx hb dX8_clear_51 rfl (lv_at hl 0 rfl) ?_
    refine z_iconst C dX8_clear_52 ?_
    refine z_putI C hnm pl_8_31 Hh dX8_clear_53 rfl hm (fun h H locs Hh hm => ?_)
    refine lv_aload_n hx hb dX8_clear_56 rfl (lv_at hl 0 rfl) ?_
    refine z_iconst C dX8_clear_57 ?_
    refine z_putI C hnm pl_8_34 Hh dX8_clear_58 rfl hm (fun h H locs Hh hm => ?_)
    exact z_vret C hr hlocks Hh dX8_clear_61 hm
  have KL34 : ∀ (n : Nat) (h : Hp) (l0 l1 : Int) (H : Heap) (locs : List Loc) (ls : Array Slot), zH g s h H locs → lv_has ls 2 [(0, qR g l0), (1, qI l1)] → M_X8_clear_w34 n h l0 l1 = some r → W p l e { frames := 1, cells := 0, slots := 0, locals := 23 } s m args below meth c H locs 0 0 (zQ below g r none args s 0 0) (F0 m 34 ls []) := by
    intro n
    induction n with
    | zero => intro h l0 l1 H locs ls Hh hl hm; cases hm
    | succ n ih34 =>
      intro h l0 l1 H locs ls Hh hl hm
      obtain ⟨z34, hm, hc34⟩ := wh_inv hm
      have hm : M_X8_clear_b34 h l0 l1 = some z34 := hm
      unfold M_X8_clear_b34 at hm
      refine lv_iload_n hx hb dX8_clear_34 rfl (lv_at hl 1 rfl) ?_
      refine z_bipush C dX8_clear_35 rfl ?_
      refine z_icmp_ge (tgt := 51) C dX8_clear_37 (by decide) rfl lq_p6 hm (fun _ hm => ?_) (fun _ hm => ?_)
      · cases hm
        exact K51 h l0 _ _ _ Hh (lv_sub hl [0] rfl) hc34
      · refine lv_aload_n hx hb dX8_clear_40 rfl (lv_at hl 0 rfl) ?_
        refine lv_iload_n hx hb dX8_clear_41 rfl (lv_at hl 1 rfl) ?_
        refine z_cVv (vs := [qI l1]) C (fun q hq => ct_X8_makeTrue l g h l0 l1 q hq) tw_568 my_X8_makeTrue (fun q hq => tg_X8_makeTrue hq) rfl hl.1 Hh ⟨Nat.le_of_ble_eq_true rfl, Nat.le_of_ble_eq_true rfl, Nat.le_of_ble_eq_true rfl, Nat.le_of_ble_eq_true rfl⟩ (Nat.le_of_ble_eq_true rfl) dX8_clear_42 rfl hm (fun h H locs Hh hm => ?_)
        refine z_iinc (x := l1) (k := 1) (lv' := [(1, qI (l1 + 1)), (0, qR g l0)]) C dX8_clear_45 hl rfl (by decide) rfl (fun ls hl => ?_)
        refine lv_goto (tgt := 34) hx hb dX8_clear_48 (by decide) ?_
        cases hm
        exact ih34 h l0 (l1 + 1) _ _ _ Hh (lv_sub hl [1, 0] rfl) hc34
  refine lv_aload_n hx hb dX8_clear_0 rfl (lv_at hl 0 rfl) ?_
  refine z_iconst C dX8_clear_1 ?_
  refine z_putI C hnm pl_8_9 Hh dX8_clear_2 rfl hm (fun h H locs Hh hm => ?_)
  refine lv_aload_n hx hb dX8_clear_5 rfl (lv_at hl 0 rfl) ?_
  refine z_iconst C dX8_clear_6 ?_
  refine z_putI C hnm pl_8_15 Hh dX8_clear_7 rfl hm (fun h H locs Hh hm => ?_)
  refine lv_aload_n hx hb dX8_clear_10 rfl (lv_at hl 0 rfl) ?_
  refine z_iconst C dX8_clear_11 ?_
  refine z_putI C hnm pl_8_18 Hh dX8_clear_12 rfl hm (fun h H locs Hh hm => ?_)
  refine lv_aload_n hx hb dX8_clear_15 rfl (lv_at hl 0 rfl) ?_
  refine z_getR C fl_8_21 Hh dX8_clear_16 rfl hm (fun x1 hm => ?_)
  refine z_iconst C dX8_clear_19 ?_
  refine z_cSv (vs := [qR g x1, qI 0]) C (fun q hq => ct_J7_fill_53178 l g h x1 0 q hq) tw_565 my_J7_fill_53178 rfl hl.1 Hh ⟨Nat.le_of_ble_eq_true rfl, Nat.le_of_ble_eq_true rfl, Nat.le_of_ble_eq_true rfl, Nat.le_of_ble_eq_true rfl⟩ (Nat.le_of_ble_eq_true rfl) dX8_clear_20 rfl hm (fun h H locs Hh hm => ?_)
  refine lv_aload_n hx hb dX8_clear_23 rfl (lv_at hl 0 rfl) ?_
  refine z_getR C fl_8_25 Hh dX8_clear_24 rfl hm (fun x2 hm => ?_)
  refine z_bipush C dX8_clear_27 rfl ?_
  refine z_cSv (vs := [qR g x2, qI (-2)]) C (fun q hq => ct_J7_fill_53178 l g h x2 (-2) q hq) tw_565 my_J7_fill_53178 rfl hl.1 Hh ⟨Nat.le_of_ble_eq_true rfl, Nat.le_of_ble_eq_true rfl, Nat.le_of_ble_eq_true rfl, Nat.le_of_ble_eq_true rfl⟩ (Nat.le_of_ble_eq_true rfl) dX8_clear_29 rfl hm (fun h H locs Hh hm => ?_)
  refine z_iconst C dX8_clear_32 ?_
  refine lv_istore_n (lv' := [(1, qI 0), (0, qR g l0)]) hx hb dX8_clear_33 rfl hl (by decide) rfl (fun ls hl => ?_)
  exact KL34 FU h l0 0 _ _ _ Hh (lv_sub hl [1, 0] rfl) hm
theorem tg_X5_clear {h : Hp} {l0 : Int} {r : Hp} (hm : M_X5_clear h l0 = some r) : hT h l0 = 15 := (tk_inv hm).1
set_option maxRecDepth 100000 in
set_option maxHeartbeats 4000000 in
theorem ct_X5_clear (l : Launch) (g : zGeo) (h0 : Hp) (l0 : Int) (r : Hp) (hm : M_X5_clear h0 l0 = some r) : zM l yX5_clear cX5_clear 1 none 2 44 0 0 g h0 [qR g l0] r none := by
  refine z_meth (by decide) (Nat.le_of_ble_eq_true rfl) ?_
  intro p e s m args below meth c H ls C hr hlocks hnm Hh hl
  have C : zC p m c cX5_clear 1 s args RX5 g := C
  have hnm : meth.name = "clear" := hnm
  have hx := C.1.1
  have hb := C.1.2.1
  have hl : lv_has ls 1 [(0, qR g l0)] := hl
  unfold M_X5_clear at hm
  replace hm := (tk_inv hm).2
  generalize h0 = h at Hh hm
  refine lv_aload_n hx hb dX5_clear_0 rfl (lv_at hl 0 rfl) ?_
  refine z_iconst C dX5_clear_1 ?_
  refine z_putI C hnm pl_5_9 Hh dX5_clear_2 rfl hm (fun h H locs Hh hm => ?_)
  refine lv_aload_n hx hb dX5_clear_5 rfl (lv_at hl 0 rfl) ?_
  refine z_getR C fl_5_18 Hh dX5_clear_6 rfl hm (fun x1 hm => ?_)
  refine z_cVv (vs := []) C (fun q hq => ct_X8_clear l g h x1 q hq) tw_561 my_X8_clear (fun q hq => tg_X8_clear hq) rfl hl.1 Hh ⟨Nat.le_of_ble_eq_true rfl, Nat.le_of_ble_eq_true rfl, Nat.le_of_ble_eq_true rfl, Nat.le_of_ble_eq_true rfl⟩ (Nat.le_of_ble_eq_true rfl) dX5_clear_9 rfl hm (fun h H locs Hh hm => ?_)
  refine lv_aload_n hx hb dX5_clear_12 rfl (lv_at hl 0 rfl) ?_
  refine z_getR C fl_5_26 Hh dX5_clear_13 rfl hm (fun x2 hm => ?_)
  refine z_bipush C dX5_clear_16 rfl ?_
  refine z_cSv (vs := [qR g x2, qI (-2)]) C (fun q hq => ct_J7_fill_53178 l g h x2 (-2) q hq) tw_572 my_J7_fill_53178 rfl hl.1 Hh ⟨Nat.le_of_ble_eq_true rfl, Nat.le_of_ble_eq_true rfl, Nat.le_of_ble_eq_true rfl, Nat.le_of_ble_eq_true rfl⟩ (Nat.le_of_ble_eq_true rfl) dX5_clear_18 rfl hm (fun h H locs Hh hm => ?_)
  refine lv_aload_n hx hb dX5_clear_21 rfl (lv_at hl 0 rfl) ?_
  refine z_iconst C dX5_clear_22 ?_
  refine z_putI C hnm pl_5_30 Hh dX5_clear_23 rfl hm (fun h H locs Hh hm => ?_)
  refine lv_aload_n hx hb dX5_clear_26 rfl (lv_at hl 0 rfl) ?_
  refine z_iconst C dX5_clear_27 ?_
  refine z_putI C hnm pl_5_45 Hh dX5_clear_28 rfl hm (fun h H locs Hh hm => ?_)
  exact z_vret C hr hlocks Hh dX5_clear_31 hm
theorem tg_X4_take {h : Hp} {l0 : Int} {r : Hp} (hm : M_X4_take h l0 = some r) : hT h l0 = 14 := (tk_inv hm).1
set_option maxRecDepth 100000 in
set_option maxHeartbeats 4000000 in
theorem ct_X4_take (l : Launch) (g : zGeo) (h0 : Hp) (l0 : Int) (r : Hp) (hm : M_X4_take h0 l0 = some r) : zM l yX4_take cX4_take 1 none 0 0 0 0 g h0 [qR g l0] r none := by
  refine z_meth (by decide) (Nat.le_of_ble_eq_true rfl) ?_
  intro p e s m args below meth c H ls C hr hlocks hnm Hh hl
  have C : zC p m c cX4_take 1 s args RX4 g := C
  have hnm : meth.name = "take" := hnm
  have hx := C.1.1
  have hb := C.1.2.1
  have hl : lv_has ls 1 [(0, qR g l0)] := hl
  unfold M_X4_take at hm
  replace hm := (tk_inv hm).2
  generalize h0 = h at Hh hm
  have K256 : ∀ (h : Hp) (l0 : Int) (H : Heap) (locs : List Loc) (ls : Array Slot), zH g s h H locs → lv_has ls 1 [(0, qR g l0)] → M_X4_take_p256 h l0 = some r → W p l e { frames := 0, cells := 0, slots := 0, locals := 0 } s m args below meth c H locs 0 0 (zQ below g r none args s 0 0) (F0 m 256 ls []) := by
    intro h l0  H locs ls Hh hl hm
    unfold M_X4_take_p256 at hm
    refine lv_aload_n hx hb dX4_take_256 rfl (lv_at hl 0 rfl) ?_
    refine z_getI C fl_4_24 Hh dX4_take_257 rfl hm (fun x1 hm => ?_)
    refine lv_aload_n hx hb dX4_take_260 rfl (lv_at hl 0 rfl) ?_
    refine z_getI C fl_4_21 Hh dX4_take_261 rfl hm (fun x2 hm => ?_)
    refine z_icmp_le (tgt := 292) C dX4_take_264 (by decide) rfl rfl hm (fun _ hm => ?_) (fun _ hm => ?_)
    · refine lv_aload_n hx hb dX4_take_292 rfl (lv_at hl 0 rfl) ?_
      refine z_getI C fl_4_21 Hh dX4_take_293 rfl hm (fun x3 hm => ?_)
      refine lv_aload_n hx hb dX4_take_296 rfl (lv_at hl 0 rfl) ?_
      refine z_getI C fl_4_44 Hh dX4_take_297 rfl hm (fun x4 hm => ?_)
      refine z_icmp_lt (tgt := 311) C dX4_take_300 (by decide) rfl rfl hm (fun _ hm => ?_) (fun _ hm => ?_)
      · refine lv_aload_n hx hb dX4_take_311 rfl (lv_at hl 0 rfl) ?_
        refine lv_aload_n hx hb dX4_take_312 rfl (lv_at hl 0 rfl) ?_
        refine z_getR C fl_4_34 Hh dX4_take_313 rfl hm (fun x5 hm => ?_)
        refine lv_aload_n hx hb dX4_take_316 rfl (lv_at hl 0 rfl) ?_
        refine z_getI C fl_4_21 Hh dX4_take_317 rfl hm (fun x6 hm => ?_)
        refine z_iald C Hh dX4_take_320 hm (fun x7 hm => ?_)
        refine z_bipush C dX4_take_321 rfl ?_
        refine z_icmp_ne (tgt := 330) C dX4_take_323 (by decide) rfl lq_p59 hm (fun _ hm => ?_) (fun _ hm => ?_)
        · refine lv_aload_n hx hb dX4_take_330 rfl (lv_at hl 0 rfl) ?_
          refine z_getR C fl_4_34 Hh dX4_take_331 rfl hm (fun x8 hm => ?_)
          refine lv_aload_n hx hb dX4_take_334 rfl (lv_at hl 0 rfl) ?_
          refine z_getI C fl_4_21 Hh dX4_take_335 rfl hm (fun x9 hm => ?_)
          refine z_iald C Hh dX4_take_338 hm (fun x10 hm => ?_)
          refine z_bipush C dX4_take_339 rfl ?_
          refine z_icmp_ne (tgt := 348) C dX4_take_341 (by decide) rfl lq_p44 hm (fun _ hm => ?_) (fun _ hm => ?_)
          · refine z_iconst C dX4_take_348 ?_
            refine z_putI C hnm pl_4_18 Hh dX4_take_349 rfl hm (fun h H locs Hh hm => ?_)
            refine lv_aload_n hx hb dX4_take_352 rfl (lv_at hl 0 rfl) ?_
            refine lv_dup hx hb dX4_take_353 rfl ?_
            refine z_getI C fl_4_24 Hh dX4_take_354 rfl hm (fun x11 hm => ?_)
            refine z_iconst C dX4_take_357 ?_
            refine z_iadd C dX4_take_358 ?_
            refine z_putI C hnm pl_4_24 Hh dX4_take_359 rfl hm (fun h H locs Hh hm => ?_)
            exact z_vret C hr hlocks Hh dX4_take_362 hm
          · refine z_iconst C dX4_take_344 ?_
            refine lv_goto (tgt := 349) hx hb dX4_take_345 (by decide) ?_
            refine z_putI C hnm pl_4_18 Hh dX4_take_349 rfl hm (fun h H locs Hh hm => ?_)
            refine lv_aload_n hx hb dX4_take_352 rfl (lv_at hl 0 rfl) ?_
            refine lv_dup hx hb dX4_take_353 rfl ?_
            refine z_getI C fl_4_24 Hh dX4_take_354 rfl hm (fun x12 hm => ?_)
            refine z_iconst C dX4_take_357 ?_
            refine z_iadd C dX4_take_358 ?_
            refine z_putI C hnm pl_4_24 Hh dX4_take_359 rfl hm (fun h H locs Hh hm => ?_)
            exact z_vret C hr hlocks Hh dX4_take_362 hm
        · refine z_iconst C dX4_take_326 ?_
          refine lv_goto (tgt := 349) hx hb dX4_take_327 (by decide) ?_
          refine z_putI C hnm pl_4_18 Hh dX4_take_349 rfl hm (fun h H locs Hh hm => ?_)
          refine lv_aload_n hx hb dX4_take_352 rfl (lv_at hl 0 rfl) ?_
          refine lv_dup hx hb dX4_take_353 rfl ?_
          refine z_getI C fl_4_24 Hh dX4_take_354 rfl hm (fun x13 hm => ?_)
          refine z_iconst C dX4_take_357 ?_
          refine z_iadd C dX4_take_358 ?_
          refine z_putI C hnm pl_4_24 Hh dX4_take_359 rfl hm (fun h H locs Hh hm => ?_)
          exact z_vret C hr hlocks Hh dX4_take_362 hm
      · refine lv_aload_n hx hb dX4_take_303 rfl (lv_at hl 0 rfl) ?_
        refine z_iconst C dX4_take_304 ?_
        refine z_putI C hnm pl_4_18 Hh dX4_take_305 rfl hm (fun h H locs Hh hm => ?_)
        refine lv_goto (tgt := 362) hx hb dX4_take_308 (by decide) ?_
        exact z_vret C hr hlocks Hh dX4_take_362 hm
    · refine lv_aload_n hx hb dX4_take_267 rfl (lv_at hl 0 rfl) ?_
      refine lv_aload_n hx hb dX4_take_268 rfl (lv_at hl 0 rfl) ?_
      refine z_getI C fl_4_24 Hh dX4_take_269 rfl hm (fun x14 hm => ?_)
      refine lv_aload_n hx hb dX4_take_272 rfl (lv_at hl 0 rfl) ?_
      refine z_getI C fl_4_21 Hh dX4_take_273 rfl hm (fun x15 hm => ?_)
      refine z_isub C dX4_take_276 ?_
      refine z_iconst C dX4_take_277 ?_
      refine z_icmp_gt (tgt := 285) C dX4_take_278 (by decide) rfl lq_p2 hm (fun _ hm => ?_) (fun _ hm => ?_)
      · refine z_iconst C dX4_take_285 ?_
        refine z_putI C hnm pl_4_18 Hh dX4_take_286 rfl hm (fun h H locs Hh hm => ?_)
        refine lv_goto (tgt := 362) hx hb dX4_take_289 (by decide) ?_
        exact z_vret C hr hlocks Hh dX4_take_362 hm
      · refine z_iconst C dX4_take_281 ?_
        refine lv_goto (tgt := 286) hx hb dX4_take_282 (by decide) ?_
        refine z_putI C hnm pl_4_18 Hh dX4_take_286 rfl hm (fun h H locs Hh hm => ?_)
        refine lv_goto (tgt := 362) hx hb dX4_take_289 (by decide) ?_
        exact z_vret C hr hlocks Hh dX4_take_362 hm
  have KL180 : ∀ (n : Nat) (h : Hp) (l0 : Int) (H : Heap) (locs : List Loc) (ls : Array Slot), zH g s h H locs → lv_has ls 1 [(0, qR g l0)] → M_X4_take_w180 n h l0 = some r → W p l e { frames := 0, cells := 0, slots := 0, locals := 0 } s m args below meth c H locs 0 0 (zQ below g r none args s 0 0) (F0 m 180 ls []) := by
    intro n
    induction n with
    | zero => intro h l0 H locs ls Hh hl hm; cases hm
    | succ n ih180 =>
      intro h l0 H locs ls Hh hl hm
      obtain ⟨z180, hm, hc180⟩ := wh_inv hm
      have hm : M_X4_take_b180 h l0 = some z180 := hm
      unfold M_X4_take_b180 at hm
      refine lv_aload_n hx hb dX4_take_180 rfl (lv_at hl 0 rfl) ?_
      refine z_getI C fl_4_24 Hh dX4_take_181 rfl hm (fun x16 hm => ?_)
      refine lv_aload_n hx hb dX4_take_184 rfl (lv_at hl 0 rfl) ?_
      refine z_getI C fl_4_44 Hh dX4_take_185 rfl hm (fun x17 hm => ?_)
      refine z_icmp_ge (tgt := 256) C dX4_take_188 (by decide) rfl rfl hm (fun _ hm => ?_) (fun _ hm => ?_)
      · cases hm
        exact K256 h l0 _ _ _ Hh (lv_sub hl [0] rfl) hc180
      · refine lv_aload_n hx hb dX4_take_191 rfl (lv_at hl 0 rfl) ?_
        refine z_getR C fl_4_34 Hh dX4_take_192 rfl hm (fun x18 hm => ?_)
        refine lv_aload_n hx hb dX4_take_195 rfl (lv_at hl 0 rfl) ?_
        refine z_getI C fl_4_24 Hh dX4_take_196 rfl hm (fun x19 hm => ?_)
        refine z_iald C Hh dX4_take_199 hm (fun x20 hm => ?_)
        refine z_bipush C dX4_take_200 rfl ?_
        refine z_icmp_lt (tgt := 256) C dX4_take_202 (by decide) rfl lq_p48 hm (fun _ hm => ?_) (fun _ hm => ?_)
        · cases hm
          exact K256 h l0 _ _ _ Hh (lv_sub hl [0] rfl) hc180
        · refine lv_aload_n hx hb dX4_take_205 rfl (lv_at hl 0 rfl) ?_
          refine z_getR C fl_4_34 Hh dX4_take_206 rfl hm (fun x21 hm => ?_)
          refine lv_aload_n hx hb dX4_take_209 rfl (lv_at hl 0 rfl) ?_
          refine z_getI C fl_4_24 Hh dX4_take_210 rfl hm (fun x22 hm => ?_)
          refine z_iald C Hh dX4_take_213 hm (fun x23 hm => ?_)
          refine z_bipush C dX4_take_214 rfl ?_
          refine z_icmp_gt (tgt := 256) C dX4_take_216 (by decide) rfl lq_p57 hm (fun _ hm => ?_) (fun _ hm => ?_)
          · cases hm
            exact K256 h l0 _ _ _ Hh (lv_sub hl [0] rfl) hc180
          · refine lv_aload_n hx hb dX4_take_219 rfl (lv_at hl 0 rfl) ?_
            refine z_bipush C dX4_take_220 rfl ?_
            refine lv_aload_n hx hb dX4_take_222 rfl (lv_at hl 0 rfl) ?_
            refine z_getI C fl_4_27 Hh dX4_take_223 rfl hm (fun x24 hm => ?_)
            refine z_imul C dX4_take_226 ?_
            refine lv_aload_n hx hb dX4_take_227 rfl (lv_at hl 0 rfl) ?_
            refine z_getR C fl_4_34 Hh dX4_take_228 rfl hm (fun x25 hm => ?_)
            refine lv_aload_n hx hb dX4_take_231 rfl (lv_at hl 0 rfl) ?_
            refine z_getI C fl_4_24 Hh dX4_take_232 rfl hm (fun x26 hm => ?_)
            refine z_iald C Hh dX4_take_235 hm (fun x27 hm => ?_)
            refine z_iadd C dX4_take_236 ?_
            refine z_bipush C dX4_take_237 rfl ?_
            refine z_isub C dX4_take_239 ?_
            refine z_putI C hnm pl_4_27 Hh dX4_take_240 rfl hm (fun h H locs Hh hm => ?_)
            refine lv_aload_n hx hb dX4_take_243 rfl (lv_at hl 0 rfl) ?_
            refine lv_dup hx hb dX4_take_244 rfl ?_
            refine z_getI C fl_4_24 Hh dX4_take_245 rfl hm (fun x28 hm => ?_)
            refine z_iconst C dX4_take_248 ?_
            refine z_iadd C dX4_take_249 ?_
            refine z_putI C hnm pl_4_24 Hh dX4_take_250 rfl hm (fun h H locs Hh hm => ?_)
            refine lv_goto (tgt := 180) hx hb dX4_take_253 (by decide) ?_
            cases hm
            exact ih180 h l0 _ _ _ Hh (lv_sub hl [0] rfl) hc180
  have K140 : ∀ (h : Hp) (l0 : Int) (H : Heap) (locs : List Loc) (ls : Array Slot), zH g s h H locs → lv_has ls 1 [(0, qR g l0)] → M_X4_take_p140 h l0 = some r → W p l e { frames := 0, cells := 0, slots := 0, locals := 0 } s m args below meth c H locs 0 0 (zQ below g r none args s 0 0) (F0 m 140 ls []) := by
    intro h l0  H locs ls Hh hl hm
    unfold M_X4_take_p140 at hm
    refine lv_aload_n hx hb dX4_take_140 rfl (lv_at hl 0 rfl) ?_
    refine z_getI C fl_4_24 Hh dX4_take_141 rfl hm (fun x29 hm => ?_)
    refine lv_aload_n hx hb dX4_take_144 rfl (lv_at hl 0 rfl) ?_
    refine z_getI C fl_4_21 Hh dX4_take_145 rfl hm (fun x30 hm => ?_)
    refine z_icmp_le (tgt := 175) C dX4_take_148 (by decide) rfl rfl hm (fun _ hm => ?_) (fun _ hm => ?_)
    · refine lv_aload_n hx hb dX4_take_175 rfl (lv_at hl 0 rfl) ?_
      refine z_iconst C dX4_take_176 ?_
      refine z_putI C hnm pl_4_27 Hh dX4_take_177 rfl hm (fun h H locs Hh hm => ?_)
      exact KL180 FU h l0 _ _ _ Hh (lv_sub hl [0] rfl) hm
    · refine lv_aload_n hx hb dX4_take_151 rfl (lv_at hl 0 rfl) ?_
      refine lv_aload_n hx hb dX4_take_152 rfl (lv_at hl 0 rfl) ?_
      refine z_getI C fl_4_24 Hh dX4_take_153 rfl hm (fun x31 hm => ?_)
      refine lv_aload_n hx hb dX4_take_156 rfl (lv_at hl 0 rfl) ?_
      refine z_getI C fl_4_21 Hh dX4_take_157 rfl hm (fun x32 hm => ?_)
      refine z_isub C dX4_take_160 ?_
      refine z_bipush C dX4_take_161 rfl ?_
      refine z_icmp_gt (tgt := 170) C dX4_take_163 (by decide) rfl lq_p8 hm (fun _ hm => ?_) (fun _ hm => ?_)
      · refine z_iconst C dX4_take_170 ?_
        refine z_putI C hnm pl_4_18 Hh dX4_take_171 rfl hm (fun h H locs Hh hm => ?_)
        exact z_vret C hr hlocks Hh dX4_take_174 hm
      · refine z_iconst C dX4_take_166 ?_
        refine lv_goto (tgt := 171) hx hb dX4_take_167 (by decide) ?_
        refine z_putI C hnm pl_4_18 Hh dX4_take_171 rfl hm (fun h H locs Hh hm => ?_)
        exact z_vret C hr hlocks Hh dX4_take_174 hm
  have KL59 : ∀ (n : Nat) (h : Hp) (l0 : Int) (H : Heap) (locs : List Loc) (ls : Array Slot), zH g s h H locs → lv_has ls 1 [(0, qR g l0)] → M_X4_take_w59 n h l0 = some r → W p l e { frames := 0, cells := 0, slots := 0, locals := 0 } s m args below meth c H locs 0 0 (zQ below g r none args s 0 0) (F0 m 59 ls []) := by
    intro n
    induction n with
    | zero => intro h l0 H locs ls Hh hl hm; cases hm
    | succ n ih59 =>
      intro h l0 H locs ls Hh hl hm
      obtain ⟨z59, hm, hc59⟩ := wh_inv hm
      have hm : M_X4_take_b59 h l0 = some z59 := hm
      unfold M_X4_take_b59 at hm
      refine lv_aload_n hx hb dX4_take_59 rfl (lv_at hl 0 rfl) ?_
      refine z_getI C fl_4_24 Hh dX4_take_60 rfl hm (fun x33 hm => ?_)
      refine lv_aload_n hx hb dX4_take_63 rfl (lv_at hl 0 rfl) ?_
      refine z_getI C fl_4_44 Hh dX4_take_64 rfl hm (fun x34 hm => ?_)
      refine z_icmp_ge (tgt := 140) C dX4_take_67 (by decide) rfl rfl hm (fun _ hm => ?_) (fun _ hm => ?_)
      · cases hm
        exact K140 h l0 _ _ _ Hh (lv_sub hl [0] rfl) hc59
      · refine lv_aload_n hx hb dX4_take_70 rfl (lv_at hl 0 rfl) ?_
        refine z_getR C fl_4_34 Hh dX4_take_71 rfl hm (fun x35 hm => ?_)
        refine lv_aload_n hx hb dX4_take_74 rfl (lv_at hl 0 rfl) ?_
        refine z_getI C fl_4_24 Hh dX4_take_75 rfl hm (fun x36 hm => ?_)
        refine z_iald C Hh dX4_take_78 hm (fun x37 hm => ?_)
        refine z_bipush C dX4_take_79 rfl ?_
        refine z_icmp_lt (tgt := 140) C dX4_take_81 (by decide) rfl lq_p97 hm (fun _ hm => ?_) (fun _ hm => ?_)
        · cases hm
          exact K140 h l0 _ _ _ Hh (lv_sub hl [0] rfl) hc59
        · refine lv_aload_n hx hb dX4_take_84 rfl (lv_at hl 0 rfl) ?_
          refine z_getR C fl_4_34 Hh dX4_take_85 rfl hm (fun x38 hm => ?_)
          refine lv_aload_n hx hb dX4_take_88 rfl (lv_at hl 0 rfl) ?_
          refine z_getI C fl_4_24 Hh dX4_take_89 rfl hm (fun x39 hm => ?_)
          refine z_iald C Hh dX4_take_92 hm (fun x40 hm => ?_)
          refine z_bipush C dX4_take_93 rfl ?_
          refine z_icmp_gt (tgt := 140) C dX4_take_95 (by decide) rfl lq_p122 hm (fun _ hm => ?_) (fun _ hm => ?_)
          · cases hm
            exact K140 h l0 _ _ _ Hh (lv_sub hl [0] rfl) hc59
          · refine lv_aload_n hx hb dX4_take_98 rfl (lv_at hl 0 rfl) ?_
            refine z_ldc2 (v := 32) C dX4_take_99 tw_577 rfl ?_
            refine lv_aload_n hx hb dX4_take_102 rfl (lv_at hl 0 rfl) ?_
            refine z_getJ C fl_4_30 Hh dX4_take_103 rfl hm (fun x41 hm => ?_)
            refine z_lmul C dX4_take_106 ?_
            refine lv_aload_n hx hb dX4_take_107 rfl (lv_at hl 0 rfl) ?_
            refine z_getR C fl_4_34 Hh dX4_take_108 rfl hm (fun x42 hm => ?_)
            refine lv_aload_n hx hb dX4_take_111 rfl (lv_at hl 0 rfl) ?_
            refine z_getI C fl_4_24 Hh dX4_take_112 rfl hm (fun x43 hm => ?_)
            refine z_iald C Hh dX4_take_115 hm (fun x44 hm => ?_)
            refine z_i2l C dX4_take_116 ?_
            refine z_ladd C dX4_take_117 ?_
            refine z_ldc2 (v := 97) C dX4_take_118 tw_578 rfl ?_
            refine z_lsub C dX4_take_121 ?_
            refine z_lconst (v := 1) C dX4_take_122 rfl ?_
            refine z_ladd C dX4_take_123 ?_
            refine z_putJ C hnm pl_4_30 Hh dX4_take_124 rfl hm (fun h H locs Hh hm => ?_)
            refine lv_aload_n hx hb dX4_take_127 rfl (lv_at hl 0 rfl) ?_
            refine lv_dup hx hb dX4_take_128 rfl ?_
            refine z_getI C fl_4_24 Hh dX4_take_129 rfl hm (fun x45 hm => ?_)
            refine z_iconst C dX4_take_132 ?_
            refine z_iadd C dX4_take_133 ?_
            refine z_putI C hnm pl_4_24 Hh dX4_take_134 rfl hm (fun h H locs Hh hm => ?_)
            refine lv_goto (tgt := 59) hx hb dX4_take_137 (by decide) ?_
            cases hm
            exact ih59 h l0 _ _ _ Hh (lv_sub hl [0] rfl) hc59
  have K46 : ∀ (h : Hp) (l0 : Int) (H : Heap) (locs : List Loc) (ls : Array Slot), zH g s h H locs → lv_has ls 1 [(0, qR g l0)] → M_X4_take_p46 h l0 = some r → W p l e { frames := 0, cells := 0, slots := 0, locals := 0 } s m args below meth c H locs 0 0 (zQ below g r none args s 0 0) (F0 m 46 ls []) := by
    intro h l0  H locs ls Hh hl hm
    unfold M_X4_take_p46 at hm
    refine lv_aload_n hx hb dX4_take_46 rfl (lv_at hl 0 rfl) ?_
    refine lv_aload_n hx hb dX4_take_47 rfl (lv_at hl 0 rfl) ?_
    refine z_getI C fl_4_21 Hh dX4_take_48 rfl hm (fun x46 hm => ?_)
    refine z_putI C hnm pl_4_24 Hh dX4_take_51 rfl hm (fun h H locs Hh hm => ?_)
    refine lv_aload_n hx hb dX4_take_54 rfl (lv_at hl 0 rfl) ?_
    refine z_lconst (v := 0) C dX4_take_55 rfl ?_
    refine z_putJ C hnm pl_4_30 Hh dX4_take_56 rfl hm (fun h H locs Hh hm => ?_)
    exact KL59 FU h l0 _ _ _ Hh (lv_sub hl [0] rfl) hm
  have KL8 : ∀ (n : Nat) (h : Hp) (l0 : Int) (H : Heap) (locs : List Loc) (ls : Array Slot), zH g s h H locs → lv_has ls 1 [(0, qR g l0)] → M_X4_take_w8 n h l0 = some r → W p l e { frames := 0, cells := 0, slots := 0, locals := 0 } s m args below meth c H locs 0 0 (zQ below g r none args s 0 0) (F0 m 8 ls []) := by
    intro n
    induction n with
    | zero => intro h l0 H locs ls Hh hl hm; cases hm
    | succ n ih8 =>
      intro h l0 H locs ls Hh hl hm
      obtain ⟨z8, hm, hc8⟩ := wh_inv hm
      have hm : M_X4_take_b8 h l0 = some z8 := hm
      unfold M_X4_take_b8 at hm
      refine lv_aload_n hx hb dX4_take_8 rfl (lv_at hl 0 rfl) ?_
      refine z_getI C fl_4_21 Hh dX4_take_9 rfl hm (fun x47 hm => ?_)
      refine lv_aload_n hx hb dX4_take_12 rfl (lv_at hl 0 rfl) ?_
      refine z_getI C fl_4_44 Hh dX4_take_13 rfl hm (fun x48 hm => ?_)
      refine z_icmp_ge (tgt := 46) C dX4_take_16 (by decide) rfl rfl hm (fun _ hm => ?_) (fun _ hm => ?_)
      · cases hm
        exact K46 h l0 _ _ _ Hh (lv_sub hl [0] rfl) hc8
      · refine lv_aload_n hx hb dX4_take_19 rfl (lv_at hl 0 rfl) ?_
        refine z_getR C fl_4_34 Hh dX4_take_20 rfl hm (fun x49 hm => ?_)
        refine lv_aload_n hx hb dX4_take_23 rfl (lv_at hl 0 rfl) ?_
        refine z_getI C fl_4_21 Hh dX4_take_24 rfl hm (fun x50 hm => ?_)
        refine z_iald C Hh dX4_take_27 hm (fun x51 hm => ?_)
        refine z_bipush C dX4_take_28 rfl ?_
        refine z_icmp_ne (tgt := 46) C dX4_take_30 (by decide) rfl lq_p32 hm (fun _ hm => ?_) (fun _ hm => ?_)
        · cases hm
          exact K46 h l0 _ _ _ Hh (lv_sub hl [0] rfl) hc8
        · refine lv_aload_n hx hb dX4_take_33 rfl (lv_at hl 0 rfl) ?_
          refine lv_dup hx hb dX4_take_34 rfl ?_
          refine z_getI C fl_4_21 Hh dX4_take_35 rfl hm (fun x52 hm => ?_)
          refine z_iconst C dX4_take_38 ?_
          refine z_iadd C dX4_take_39 ?_
          refine z_putI C hnm pl_4_21 Hh dX4_take_40 rfl hm (fun h H locs Hh hm => ?_)
          refine lv_goto (tgt := 8) hx hb dX4_take_43 (by decide) ?_
          cases hm
          exact ih8 h l0 _ _ _ Hh (lv_sub hl [0] rfl) hc8
  refine lv_aload_n hx hb dX4_take_0 rfl (lv_at hl 0 rfl) ?_
  refine lv_aload_n hx hb dX4_take_1 rfl (lv_at hl 0 rfl) ?_
  refine z_getI C fl_4_24 Hh dX4_take_2 rfl hm (fun x53 hm => ?_)
  refine z_putI C hnm pl_4_21 Hh dX4_take_5 rfl hm (fun h H locs Hh hm => ?_)
  exact KL8 FU h l0 _ _ _ Hh (lv_sub hl [0] rfl) hm
theorem tg_X4_isWord {h : Hp} {l0 l1 : Int} {r : Int} (hm : M_X4_isWord h l0 l1 = some r) : hT h l0 = 14 := (tk_inv hm).1
set_option maxRecDepth 100000 in
set_option maxHeartbeats 4000000 in
theorem ct_X4_isWord (l : Launch) (g : zGeo) (h : Hp) (l0 l1 : Int) (r : Int) (hm : M_X4_isWord h l0 l1 = some r) : zM l yX4_isWord cX4_isWord 3 (some .boolean) 5 150 0 0 g h [qR g l0, qS g l1] h (some (qI r)) := by
  refine z_meth (by decide) (Nat.le_of_ble_eq_true rfl) ?_
  intro p e s m args below meth c H ls C hr hlocks hnm Hh hl
  have C : zC p m c cX4_isWord 3 s args RX4 g := C
  have hnm : meth.name = "isWord" := hnm
  have hx := C.1.1
  have hb := C.1.2.1
  have hl : lv_has ls 3 [(0, qR g l0), (1, qS g l1)] := hl
  unfold M_X4_isWord at hm
  replace hm := (tk_inv hm).2
  have K63 : ∀  (H : Heap) (locs : List Loc) (ls : Array Slot), zH g s h H locs → lv_has ls 3 [] → M_X4_isWord_p63 h = some r → W p l e { frames := 5, cells := 0, slots := 0, locals := 150 } s m args below meth c H locs 0 0 (zQ below g h (some (qI r)) args s 0 0) (F0 m 63 ls []) := by
    intro   H locs ls Hh hl hm
    unfold M_X4_isWord_p63 at hm
    refine z_iconst C dX4_isWord_63 ?_
    exact z_zretRC C hr hlocks Hh dX4_isWord_64 (by decide) hm
  have KL28 : ∀ (n : Nat)  (l0 l1 l2 : Int) (H : Heap) (locs : List Loc) (ls : Array Slot), zH g s h H locs → lv_has ls 3 [(0, qR g l0), (1, qS g l1), (2, qI l2)] → M_X4_isWord_w28 n h l0 l1 l2 = some r → W p l e { frames := 5, cells := 0, slots := 0, locals := 150 } s m args below meth c H locs 0 0 (zQ below g h (some (qI r)) args s 0 0) (F0 m 28 ls []) := by
    intro n
    induction n with
    | zero => intro l0 l1 l2 H locs ls Hh hl hm; cases hm
    | succ n ih28 =>
      intro l0 l1 l2 H locs ls Hh hl hm
      obtain ⟨z28, hm, hc28⟩ := wh_inv hm
      have hm : M_X4_isWord_b28 h l0 l1 l2 = some z28 := hm
      unfold M_X4_isWord_b28 at hm
      refine lv_iload_n hx hb dX4_isWord_28 rfl (lv_at hl 2 rfl) ?_
      refine lv_aload_n hx hb dX4_isWord_29 rfl (lv_at hl 1 rfl) ?_
      refine z_J0_length C tw_588 hl.1 Hh ⟨Nat.le_of_ble_eq_true rfl, Nat.le_of_ble_eq_true rfl⟩ (Nat.le_of_ble_eq_true rfl) (Nat.le_of_ble_eq_true rfl) (Nat.le_of_ble_eq_true rfl) dX4_isWord_30 hm (fun x1 H locs Hh hm => ?_)
      refine z_icmp_ge (tgt := 63) C dX4_isWord_33 (by decide) rfl rfl hm (fun _ hm => ?_) (fun _ hm => ?_)
      · cases hm
        exact K63  _ _ _ Hh (lv_sub hl [] rfl) hc28
      · refine lv_aload_n hx hb dX4_isWord_36 rfl (lv_at hl 0 rfl) ?_
        refine z_getR C fl_4_34 Hh dX4_isWord_37 rfl hm (fun x2 hm => ?_)
        refine lv_aload_n hx hb dX4_isWord_40 rfl (lv_at hl 0 rfl) ?_
        refine z_getI C fl_4_21 Hh dX4_isWord_41 rfl hm (fun x3 hm => ?_)
        refine lv_iload_n hx hb dX4_isWord_44 rfl (lv_at hl 2 rfl) ?_
        refine z_iadd C dX4_isWord_45 ?_
        refine z_iald C Hh dX4_isWord_46 hm (fun x4 hm => ?_)
        refine lv_aload_n hx hb dX4_isWord_47 rfl (lv_at hl 1 rfl) ?_
        refine lv_iload_n hx hb dX4_isWord_48 rfl (lv_at hl 2 rfl) ?_
        refine z_J0_charAt C tw_598 hl.1 Hh ⟨Nat.le_of_ble_eq_true rfl, Nat.le_of_ble_eq_true rfl⟩ (Nat.le_of_ble_eq_true rfl) (Nat.le_of_ble_eq_true rfl) (Nat.le_of_ble_eq_true rfl) dX4_isWord_49 hm (fun x5 H locs Hh hm => ?_)
        refine z_icmp_eq (tgt := 57) C dX4_isWord_52 (by decide) rfl rfl hm (fun _ hm => ?_) (fun _ hm => ?_)
        · refine z_iinc (x := l2) (k := 2) (lv' := [(2, qI (l2 + 1)), (0, qR g l0), (1, qS g l1)]) C dX4_isWord_57 hl rfl (by decide) rfl (fun ls hl => ?_)
          refine lv_goto (tgt := 28) hx hb dX4_isWord_60 (by decide) ?_
          cases hm
          exact ih28 l0 l1 (l2 + 1) _ _ _ Hh (lv_sub hl [1, 2, 0] rfl) hc28
        · refine z_iconst C dX4_isWord_55 ?_
          cases hm
          have hm := hc28
          exact z_zretRC C hr hlocks Hh dX4_isWord_56 (by decide) hm
  refine lv_aload_n hx hb dX4_isWord_0 rfl (lv_at hl 0 rfl) ?_
  refine z_getI C fl_4_18 Hh dX4_isWord_1 rfl hm (fun x6 hm => ?_)
  refine z_iconst C dX4_isWord_4 ?_
  refine z_icmp_ne (tgt := 24) C dX4_isWord_5 (by decide) rfl lq_p1 hm (fun _ hm => ?_) (fun _ hm => ?_)
  · refine z_iconst C dX4_isWord_24 ?_
    exact z_zretRC C hr hlocks Hh dX4_isWord_25 (by decide) hm
  · refine lv_aload_n hx hb dX4_isWord_8 rfl (lv_at hl 0 rfl) ?_
    refine z_getI C fl_4_24 Hh dX4_isWord_9 rfl hm (fun x7 hm => ?_)
    refine lv_aload_n hx hb dX4_isWord_12 rfl (lv_at hl 0 rfl) ?_
    refine z_getI C fl_4_21 Hh dX4_isWord_13 rfl hm (fun x8 hm => ?_)
    refine z_isub C dX4_isWord_16 ?_
    refine lv_aload_n hx hb dX4_isWord_17 rfl (lv_at hl 1 rfl) ?_
    refine z_J0_length C tw_588 hl.1 Hh ⟨Nat.le_of_ble_eq_true rfl, Nat.le_of_ble_eq_true rfl⟩ (Nat.le_of_ble_eq_true rfl) (Nat.le_of_ble_eq_true rfl) (Nat.le_of_ble_eq_true rfl) dX4_isWord_18 hm (fun x9 H locs Hh hm => ?_)
    refine z_icmp_eq (tgt := 26) C dX4_isWord_21 (by decide) rfl rfl hm (fun _ hm => ?_) (fun _ hm => ?_)
    · refine z_iconst C dX4_isWord_26 ?_
      refine lv_istore_n (lv' := [(2, qI 0), (0, qR g l0), (1, qS g l1)]) hx hb dX4_isWord_27 rfl hl (by decide) rfl (fun ls hl => ?_)
      exact KL28 FU l0 l1 0 _ _ _ Hh (lv_sub hl [1, 2, 0] rfl) hm
    · refine z_iconst C dX4_isWord_24 ?_
      exact z_zretRC C hr hlocks Hh dX4_isWord_25 (by decide) hm
