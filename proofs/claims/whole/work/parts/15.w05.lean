theorem tg_X4_readGuess {h : Hp} {l0 : Int} {r : Hp × Int} (hm : M_X4_readGuess h l0 = some r) : hT h l0 = 14 := (tk_inv hm).1
set_option maxRecDepth 100000 in
set_option maxHeartbeats 4000000 in
theorem ct_X4_readGuess (l : Launch) (g : zGeo) (h0 : Hp) (l0 : Int) (r : Hp × Int) (hm : M_X4_readGuess h0 l0 = some r) : zM l yX4_readGuess cX4_readGuess 2 (some .boolean) 7 193 0 0 g h0 [qR g l0] r.1 (some (qI r.2)) := by
  refine z_meth (by decide) (Nat.le_of_ble_eq_true rfl) ?_
  intro p e s m args below meth c H ls C hr hlocks hnm Hh hl
  have C : zC p m c cX4_readGuess 2 s args RX4 g := C
  have hnm : meth.name = "readGuess" := hnm
  have hx := C.1.1
  have hb := C.1.2.1
  have hl : lv_has ls 2 [(0, qR g l0)] := hl
  unfold M_X4_readGuess at hm
  replace hm := (tk_inv hm).2
  generalize h0 = h at Hh hm
  refine lv_aload_n hx hb dX4_readGuess_0 rfl (lv_at hl 0 rfl) ?_
  refine z_cVIr (vs := []) C (fun q hq => ct_X4_errorSort l g h l0 q hq) tw_696 my_X4_errorSort (fun q hq => tg_X4_errorSort hq) rfl hl.1 Hh ⟨Nat.le_of_ble_eq_true rfl, Nat.le_of_ble_eq_true rfl, Nat.le_of_ble_eq_true rfl, Nat.le_of_ble_eq_true rfl⟩ (Nat.le_of_ble_eq_true rfl) dX4_readGuess_1 rfl hm (fun x1 H locs Hh hm => ?_)
  refine lv_istore_n (lv' := [(1, qI x1), (0, qR g l0)]) hx hb dX4_readGuess_4 rfl hl (by decide) rfl (fun ls hl => ?_)
  refine lv_iload_n hx hb dX4_readGuess_5 rfl (lv_at hl 0 rfl) ?_
  refine z_bipush C dX4_readGuess_6 rfl ?_
  refine z_icmp_eq (tgt := 17) C dX4_readGuess_8 (by decide) rfl lq_p10 hm (fun _ hm => ?_) (fun _ hm => ?_)
  · refine lv_aload_n hx hb dX4_readGuess_17 rfl (lv_at hl 1 rfl) ?_
    refine z_iconst C dX4_readGuess_18 ?_
    refine z_cVI (vs := [qI 1]) C (fun q hq => ct_X4_fail l g h l0 1 q hq) tw_644 my_X4_fail (fun q hq => tg_X4_fail hq) rfl hl.1 Hh ⟨Nat.le_of_ble_eq_true rfl, Nat.le_of_ble_eq_true rfl, Nat.le_of_ble_eq_true rfl, Nat.le_of_ble_eq_true rfl⟩ (Nat.le_of_ble_eq_true rfl) dX4_readGuess_19 rfl hm (fun h x2 H locs Hh hm => ?_)
    obtain ⟨hz, hm⟩ := zb1_inv hm
    exact z_zretC C hr hlocks Hh dX4_readGuess_22 hz hm
  · refine lv_iload_n hx hb dX4_readGuess_11 rfl (lv_at hl 0 rfl) ?_
    refine z_bipush C dX4_readGuess_12 rfl ?_
    refine z_icmp_ne (tgt := 23) C dX4_readGuess_14 (by decide) rfl lq_p9 hm (fun _ hm => ?_) (fun _ hm => ?_)
    · refine lv_aload_n hx hb dX4_readGuess_23 rfl (lv_at hl 1 rfl) ?_
      refine lv_iload_n hx hb dX4_readGuess_24 rfl (lv_at hl 0 rfl) ?_
      refine lv_aload_n hx hb dX4_readGuess_25 rfl (lv_at hl 1 rfl) ?_
      refine z_getR C fl_4_47 Hh dX4_readGuess_26 rfl hm (fun x4 hm => ?_)
      refine z_getR C fl_4_191 Hh dX4_readGuess_29 rfl hm (fun x5 hm => ?_)
      refine z_iconst C dX4_readGuess_32 ?_
      refine lv_aload_n hx hb dX4_readGuess_33 rfl (lv_at hl 1 rfl) ?_
      refine z_getR C fl_4_47 Hh dX4_readGuess_34 rfl hm (fun x6 hm => ?_)
      refine z_getI C fl_4_141 Hh dX4_readGuess_37 rfl hm (fun x7 hm => ?_)
      refine z_imul C dX4_readGuess_40 ?_
      refine z_cVI (vs := [qI x1, qR g x5, qI (4 * x7)]) C (fun q hq => ct_X4_readError l g h l0 x1 x5 (4 * x7) q hq) tw_726 my_X4_readError (fun q hq => tg_X4_readError hq) rfl hl.1 Hh ⟨Nat.le_of_ble_eq_true rfl, Nat.le_of_ble_eq_true rfl, Nat.le_of_ble_eq_true rfl, Nat.le_of_ble_eq_true rfl⟩ (Nat.le_of_ble_eq_true rfl) dX4_readGuess_41 rfl hm (fun h x8 H locs Hh hm => ?_)
      refine z_if_ne (tgt := 49) C dX4_readGuess_44 (by decide) rfl hm (fun _ hm => ?_) (fun _ hm => ?_)
      · refine lv_aload_n hx hb dX4_readGuess_49 rfl (lv_at hl 1 rfl) ?_
        refine z_getR C fl_4_47 Hh dX4_readGuess_50 rfl hm (fun x9 hm => ?_)
        refine lv_dup hx hb dX4_readGuess_53 rfl ?_
        refine z_getI C fl_4_141 Hh dX4_readGuess_54 rfl hm (fun x10 hm => ?_)
        refine z_iconst C dX4_readGuess_57 ?_
        refine z_iadd C dX4_readGuess_58 ?_
        refine z_putI C hnm pl_4_141 Hh dX4_readGuess_59 rfl hm (fun h H locs Hh hm => ?_)
        refine z_iconst C dX4_readGuess_62 ?_
        exact z_zretC C hr hlocks Hh dX4_readGuess_63 (by decide) hm
      · refine z_iconst C dX4_readGuess_47 ?_
        exact z_zretC C hr hlocks Hh dX4_readGuess_48 (by decide) hm
    · refine lv_aload_n hx hb dX4_readGuess_17 rfl (lv_at hl 1 rfl) ?_
      refine z_iconst C dX4_readGuess_18 ?_
      refine z_cVI (vs := [qI 1]) C (fun q hq => ct_X4_fail l g h l0 1 q hq) tw_644 my_X4_fail (fun q hq => tg_X4_fail hq) rfl hl.1 Hh ⟨Nat.le_of_ble_eq_true rfl, Nat.le_of_ble_eq_true rfl, Nat.le_of_ble_eq_true rfl, Nat.le_of_ble_eq_true rfl⟩ (Nat.le_of_ble_eq_true rfl) dX4_readGuess_19 rfl hm (fun h x11 H locs Hh hm => ?_)
      obtain ⟨hz, hm⟩ := zb1_inv hm
      exact z_zretC C hr hlocks Hh dX4_readGuess_22 hz hm
theorem tg_X4_readSeen {h : Hp} {l0 : Int} {r : Hp × Int} (hm : M_X4_readSeen h l0 = some r) : hT h l0 = 14 := (tk_inv hm).1
set_option maxRecDepth 100000 in
set_option maxHeartbeats 4000000 in
theorem ct_X4_readSeen (l : Launch) (g : zGeo) (h0 : Hp) (l0 : Int) (r : Hp × Int) (hm : M_X4_readSeen h0 l0 = some r) : zM l yX4_readSeen cX4_readSeen 7 (some .boolean) 9 233 0 0 g h0 [qR g l0] r.1 (some (qI r.2)) := by
  refine z_meth (by decide) (Nat.le_of_ble_eq_true rfl) ?_
  intro p e s m args below meth c H ls C hr hlocks hnm Hh hl
  have C : zC p m c cX4_readSeen 7 s args RX4 g := C
  have hnm : meth.name = "readSeen" := hnm
  have hx := C.1.1
  have hb := C.1.2.1
  have hl : lv_has ls 7 [(0, qR g l0)] := hl
  unfold M_X4_readSeen at hm
  replace hm := (tk_inv hm).2
  generalize h0 = h at Hh hm
  have K94 : ∀ (h : Hp) (l0 l1 l2 l3 l4 : Int) (s0 : Int) (H : Heap) (locs : List Loc) (ls : Array Slot), zH g s h H locs → lv_has ls 7 [(0, qR g l0), (1, qI l1), (2, qI l2), (3, qI l3), (4, qI l4)] → M_X4_readSeen_p94 h l0 l1 l2 l3 l4 s0 = some r → W p l e { frames := 9, cells := 0, slots := 0, locals := 233 } s m args below meth c H locs 0 0 (zQ below g r.1 (some (qI r.2)) args s 0 0) (F0 m 94 ls [qI s0]) := by
    intro h l0 l1 l2 l3 l4 s0 H locs ls Hh hl hm
    unfold M_X4_readSeen_p94 at hm
    refine lv_istore (lv' := [(5, qI s0), (0, qR g l0), (1, qI l1), (2, qI l2), (3, qI l3), (4, qI l4)]) hx hb dX4_readSeen_94 hl (by decide) rfl (fun ls hl => ?_)
    refine lv_iload hx hb dX4_readSeen_96 (lv_at hl 0 rfl) ?_
    refine z_iconst C dX4_readSeen_98 ?_
    refine z_icmp_ne (tgt := 104) C dX4_readSeen_99 (by decide) rfl lq_m1 hm (fun _ hm => ?_) (fun _ hm => ?_)
    · refine lv_aload_n hx hb dX4_readSeen_104 rfl (lv_at hl 1 rfl) ?_
      refine z_getR C fl_4_47 Hh dX4_readSeen_105 rfl hm (fun x1 hm => ?_)
      refine z_getI C fl_4_144 Hh dX4_readSeen_108 rfl hm (fun x2 hm => ?_)
      refine lv_istore (lv' := [(6, qI x2), (5, qI s0), (0, qR g l0), (1, qI l1), (2, qI l2), (3, qI l3), (4, qI l4)]) hx hb dX4_readSeen_111 hl (by decide) rfl (fun ls hl => ?_)
      refine lv_aload_n hx hb dX4_readSeen_113 rfl (lv_at hl 2 rfl) ?_
      refine z_getR C fl_4_47 Hh dX4_readSeen_114 rfl hm (fun x3 hm => ?_)
      refine z_getR C fl_4_197 Hh dX4_readSeen_117 rfl hm (fun x4 hm => ?_)
      refine lv_iload hx hb dX4_readSeen_120 (lv_at hl 0 rfl) ?_
      refine lv_iload_n hx hb dX4_readSeen_122 rfl (lv_at hl 3 rfl) ?_
      refine z_iast C Hh dX4_readSeen_123 hm (fun h H locs Hh hm => ?_)
      refine lv_aload_n hx hb dX4_readSeen_124 rfl (lv_at hl 2 rfl) ?_
      refine z_getR C fl_4_47 Hh dX4_readSeen_125 rfl hm (fun x5 hm => ?_)
      refine z_getR C fl_4_200 Hh dX4_readSeen_128 rfl hm (fun x6 hm => ?_)
      refine lv_iload hx hb dX4_readSeen_131 (lv_at hl 0 rfl) ?_
      refine lv_iload_n hx hb dX4_readSeen_133 rfl (lv_at hl 4 rfl) ?_
      refine z_iast C Hh dX4_readSeen_134 hm (fun h H locs Hh hm => ?_)
      refine lv_aload_n hx hb dX4_readSeen_135 rfl (lv_at hl 2 rfl) ?_
      refine z_getR C fl_4_47 Hh dX4_readSeen_136 rfl hm (fun x7 hm => ?_)
      refine z_getR C fl_4_203 Hh dX4_readSeen_139 rfl hm (fun x8 hm => ?_)
      refine lv_iload hx hb dX4_readSeen_142 (lv_at hl 0 rfl) ?_
      refine z_bipush C dX4_readSeen_144 rfl ?_
      refine lv_iload hx hb dX4_readSeen_146 (lv_at hl 6 rfl) ?_
      refine z_imul C dX4_readSeen_148 ?_
      refine lv_iload_n hx hb dX4_readSeen_149 rfl (lv_at hl 5 rfl) ?_
      refine z_iadd C dX4_readSeen_150 ?_
      refine z_iast C Hh dX4_readSeen_151 hm (fun h H locs Hh hm => ?_)
      refine lv_aload_n hx hb dX4_readSeen_152 rfl (lv_at hl 2 rfl) ?_
      refine z_getR C fl_4_47 Hh dX4_readSeen_153 rfl hm (fun x9 hm => ?_)
      refine z_getR C fl_4_206 Hh dX4_readSeen_156 rfl hm (fun x10 hm => ?_)
      refine lv_iload hx hb dX4_readSeen_159 (lv_at hl 0 rfl) ?_
      refine lv_iload hx hb dX4_readSeen_161 (lv_at hl 1 rfl) ?_
      refine z_iast C Hh dX4_readSeen_163 hm (fun h H locs Hh hm => ?_)
      refine lv_aload_n hx hb dX4_readSeen_164 rfl (lv_at hl 2 rfl) ?_
      refine z_getR C fl_4_47 Hh dX4_readSeen_165 rfl hm (fun x11 hm => ?_)
      refine lv_dup hx hb dX4_readSeen_168 rfl ?_
      refine z_getI C fl_4_144 Hh dX4_readSeen_169 rfl hm (fun x12 hm => ?_)
      refine z_iconst C dX4_readSeen_172 ?_
      refine z_iadd C dX4_readSeen_173 ?_
      refine z_putI C hnm pl_4_144 Hh dX4_readSeen_174 rfl hm (fun h H locs Hh hm => ?_)
      refine z_iconst C dX4_readSeen_177 ?_
      exact z_zretC C hr hlocks Hh dX4_readSeen_178 (by decide) hm
    · refine z_iconst C dX4_readSeen_102 ?_
      exact z_zretC C hr hlocks Hh dX4_readSeen_103 (by decide) hm
  have K77 : ∀ (h : Hp) (l0 l1 l2 l3 : Int) (s0 : Int) (H : Heap) (locs : List Loc) (ls : Array Slot), zH g s h H locs → lv_has ls 7 [(0, qR g l0), (1, qI l1), (2, qI l2), (3, qI l3)] → M_X4_readSeen_p77 h l0 l1 l2 l3 s0 = some r → W p l e { frames := 9, cells := 0, slots := 0, locals := 233 } s m args below meth c H locs 0 0 (zQ below g r.1 (some (qI r.2)) args s 0 0) (F0 m 77 ls [qI s0]) := by
    intro h l0 l1 l2 l3 s0 H locs ls Hh hl hm
    unfold M_X4_readSeen_p77 at hm
    refine lv_istore (lv' := [(4, qI s0), (0, qR g l0), (1, qI l1), (2, qI l2), (3, qI l3)]) hx hb dX4_readSeen_77 hl (by decide) rfl (fun ls hl => ?_)
    refine lv_iload hx hb dX4_readSeen_79 (lv_at hl 0 rfl) ?_
    refine z_iconst C dX4_readSeen_81 ?_
    refine z_icmp_ne (tgt := 89) C dX4_readSeen_82 (by decide) rfl lq_m1 hm (fun _ hm => ?_) (fun _ hm => ?_)
    · refine lv_aload_n hx hb dX4_readSeen_89 rfl (lv_at hl 1 rfl) ?_
      refine z_iconst C dX4_readSeen_90 ?_
      refine z_cVI (vs := [qI (-1)]) C (fun q hq => ct_X4_markDue l g h l0 (-1) q hq) tw_744 my_X4_markDue (fun q hq => tg_X4_markDue hq) rfl hl.1 Hh ⟨Nat.le_of_ble_eq_true rfl, Nat.le_of_ble_eq_true rfl, Nat.le_of_ble_eq_true rfl, Nat.le_of_ble_eq_true rfl⟩ (Nat.le_of_ble_eq_true rfl) dX4_readSeen_91 rfl hm (fun h x13 H locs Hh hm => ?_)
      exact K94 h l0 l1 l2 l3 s0 x13 _ _ _ Hh (lv_sub hl [1, 2, 3, 4, 0] rfl) hm
    · refine z_iconst C dX4_readSeen_85 ?_
      refine lv_goto (tgt := 94) hx hb dX4_readSeen_86 (by decide) ?_
      exact K94 h l0 l1 l2 l3 s0 (-1) _ _ _ Hh (lv_sub hl [1, 2, 3, 4, 0] rfl) hm
  have K50 : ∀ (h : Hp) (l0 l1 l2 : Int) (s0 : Int) (H : Heap) (locs : List Loc) (ls : Array Slot), zH g s h H locs → lv_has ls 7 [(0, qR g l0), (1, qI l1), (2, qI l2)] → M_X4_readSeen_p50 h l0 l1 l2 s0 = some r → W p l e { frames := 9, cells := 0, slots := 0, locals := 233 } s m args below meth c H locs 0 0 (zQ below g r.1 (some (qI r.2)) args s 0 0) (F0 m 50 ls [qI s0]) := by
    intro h l0 l1 l2 s0 H locs ls Hh hl hm
    unfold M_X4_readSeen_p50 at hm
    refine lv_istore_n (lv' := [(3, qI s0), (0, qR g l0), (1, qI l1), (2, qI l2)]) hx hb dX4_readSeen_50 rfl hl (by decide) rfl (fun ls hl => ?_)
    refine lv_iload_n hx hb dX4_readSeen_51 rfl (lv_at hl 0 rfl) ?_
    refine z_iconst C dX4_readSeen_52 ?_
    refine z_icmp_ne (tgt := 60) C dX4_readSeen_53 (by decide) rfl lq_m1 hm (fun _ hm => ?_) (fun _ hm => ?_)
    · refine lv_aload_n hx hb dX4_readSeen_60 rfl (lv_at hl 1 rfl) ?_
      refine z_iconst C dX4_readSeen_61 ?_
      refine lv_aload_n hx hb dX4_readSeen_62 rfl (lv_at hl 1 rfl) ?_
      refine z_getR C fl_4_47 Hh dX4_readSeen_63 rfl hm (fun x14 hm => ?_)
      refine z_getR C fl_4_83 Hh dX4_readSeen_66 rfl hm (fun x15 hm => ?_)
      refine z_getI C fl_4_160 Hh dX4_readSeen_69 rfl hm (fun x16 hm => ?_)
      refine z_iconst C dX4_readSeen_72 ?_
      refine z_isub C dX4_readSeen_73 ?_
      refine z_cVI (vs := [qI 0, qI (x16 - 1)]) C (fun q hq => ct_X4_wholeDue l g h l0 0 (x16 - 1) q hq) tw_661 my_X4_wholeDue (fun q hq => tg_X4_wholeDue hq) rfl hl.1 Hh ⟨Nat.le_of_ble_eq_true rfl, Nat.le_of_ble_eq_true rfl, Nat.le_of_ble_eq_true rfl, Nat.le_of_ble_eq_true rfl⟩ (Nat.le_of_ble_eq_true rfl) dX4_readSeen_74 rfl hm (fun h x17 H locs Hh hm => ?_)
      exact K77 h l0 l1 l2 s0 x17 _ _ _ Hh (lv_sub hl [1, 2, 3, 0] rfl) hm
    · refine z_iconst C dX4_readSeen_56 ?_
      refine lv_goto (tgt := 77) hx hb dX4_readSeen_57 (by decide) ?_
      exact K77 h l0 l1 l2 s0 (-1) _ _ _ Hh (lv_sub hl [1, 2, 3, 0] rfl) hm
  refine lv_aload_n hx hb dX4_readSeen_0 rfl (lv_at hl 0 rfl) ?_
  refine z_cVI (vs := []) C (fun q hq => ct_X4_townHere l g h l0 q hq) tw_692 my_X4_townHere (fun q hq => tg_X4_townHere hq) rfl hl.1 Hh ⟨Nat.le_of_ble_eq_true rfl, Nat.le_of_ble_eq_true rfl, Nat.le_of_ble_eq_true rfl, Nat.le_of_ble_eq_true rfl⟩ (Nat.le_of_ble_eq_true rfl) dX4_readSeen_1 rfl hm (fun h x18 H locs Hh hm => ?_)
  refine lv_istore_n (lv' := [(1, qI x18), (0, qR g l0)]) hx hb dX4_readSeen_4 rfl hl (by decide) rfl (fun ls hl => ?_)
  refine lv_iload_n hx hb dX4_readSeen_5 rfl (lv_at hl 0 rfl) ?_
  refine z_iconst C dX4_readSeen_6 ?_
  refine z_icmp_ne (tgt := 12) C dX4_readSeen_7 (by decide) rfl lq_m1 hm (fun _ hm => ?_) (fun _ hm => ?_)
  · refine lv_aload_n hx hb dX4_readSeen_12 rfl (lv_at hl 1 rfl) ?_
    refine z_cVv (vs := []) C (fun q hq => ct_X4_take l g h l0 q hq) tw_573 my_X4_take (fun q hq => tg_X4_take hq) rfl hl.1 Hh ⟨Nat.le_of_ble_eq_true rfl, Nat.le_of_ble_eq_true rfl, Nat.le_of_ble_eq_true rfl, Nat.le_of_ble_eq_true rfl⟩ (Nat.le_of_ble_eq_true rfl) dX4_readSeen_13 rfl hm (fun h H locs Hh hm => ?_)
    refine lv_aload_n hx hb dX4_readSeen_16 rfl (lv_at hl 1 rfl) ?_
    refine z_iconst C dX4_readSeen_17 ?_
    refine z_bipush C dX4_readSeen_18 rfl ?_
    refine z_cVI (vs := [qI 1, qI 20]) C (fun q hq => ct_X4_wholeDue l g h l0 1 20 q hq) tw_661 my_X4_wholeDue (fun q hq => tg_X4_wholeDue hq) rfl hl.1 Hh ⟨Nat.le_of_ble_eq_true rfl, Nat.le_of_ble_eq_true rfl, Nat.le_of_ble_eq_true rfl, Nat.le_of_ble_eq_true rfl⟩ (Nat.le_of_ble_eq_true rfl) dX4_readSeen_20 rfl hm (fun h x19 H locs Hh hm => ?_)
    refine lv_istore_n (lv' := [(2, qI x19), (1, qI x18), (0, qR g l0)]) hx hb dX4_readSeen_23 rfl hl (by decide) rfl (fun ls hl => ?_)
    refine lv_iload_n hx hb dX4_readSeen_24 rfl (lv_at hl 0 rfl) ?_
    refine z_iconst C dX4_readSeen_25 ?_
    refine z_icmp_ne (tgt := 33) C dX4_readSeen_26 (by decide) rfl lq_m1 hm (fun _ hm => ?_) (fun _ hm => ?_)
    · refine lv_aload_n hx hb dX4_readSeen_33 rfl (lv_at hl 2 rfl) ?_
      refine z_iconst C dX4_readSeen_34 ?_
      refine lv_aload_n hx hb dX4_readSeen_35 rfl (lv_at hl 2 rfl) ?_
      refine z_getR C fl_4_47 Hh dX4_readSeen_36 rfl hm (fun x20 hm => ?_)
      refine z_getR C fl_4_83 Hh dX4_readSeen_39 rfl hm (fun x21 hm => ?_)
      refine z_getI C fl_4_158 Hh dX4_readSeen_42 rfl hm (fun x22 hm => ?_)
      refine z_iconst C dX4_readSeen_45 ?_
      refine z_isub C dX4_readSeen_46 ?_
      refine z_cVI (vs := [qI 0, qI (x22 - 1)]) C (fun q hq => ct_X4_wholeDue l g h l0 0 (x22 - 1) q hq) tw_661 my_X4_wholeDue (fun q hq => tg_X4_wholeDue hq) rfl hl.1 Hh ⟨Nat.le_of_ble_eq_true rfl, Nat.le_of_ble_eq_true rfl, Nat.le_of_ble_eq_true rfl, Nat.le_of_ble_eq_true rfl⟩ (Nat.le_of_ble_eq_true rfl) dX4_readSeen_47 rfl hm (fun h x23 H locs Hh hm => ?_)
      exact K50 h l0 x18 x19 x23 _ _ _ Hh (lv_sub hl [2, 1, 0] rfl) hm
    · refine z_iconst C dX4_readSeen_29 ?_
      refine lv_goto (tgt := 50) hx hb dX4_readSeen_30 (by decide) ?_
      exact K50 h l0 x18 x19 (-1) _ _ _ Hh (lv_sub hl [2, 1, 0] rfl) hm
  · refine z_iconst C dX4_readSeen_10 ?_
    exact z_zretC C hr hlocks Hh dX4_readSeen_11 (by decide) hm
theorem tg_X4_read {h : Hp} {l0 : Int} {r : Hp × Int} (hm : M_X4_read h l0 = some r) : hT h l0 = 14 := (tk_inv hm).1
set_option maxRecDepth 100000 in
set_option maxHeartbeats 4000000 in
theorem ct_X4_read (l : Launch) (g : zGeo) (h0 : Hp) (l0 : Int) (r : Hp × Int) (hm : M_X4_read h0 l0 = some r) : zM l yX4_read cX4_read 4 (some .boolean) 10 259 0 0 g h0 [qR g l0] r.1 (some (qI r.2)) := by
  refine z_meth (by decide) (Nat.le_of_ble_eq_true rfl) ?_
  intro p e s m args below meth c H ls C hr hlocks hnm Hh hl
  have C : zC p m c cX4_read 4 s args RX4 g := C
  have hnm : meth.name = "read" := hnm
  have hx := C.1.1
  have hb := C.1.2.1
  have hl : lv_has ls 4 [(0, qR g l0)] := hl
  unfold M_X4_read at hm
  replace hm := (tk_inv hm).2
  generalize h0 = h at Hh hm
  have K174 : ∀ (h : Hp) (l0 : Int) (H : Heap) (locs : List Loc) (ls : Array Slot), zH g s h H locs → lv_has ls 4 [(0, qR g l0)] → M_X4_read_p174 h l0 = some r → W p l e { frames := 10, cells := 0, slots := 0, locals := 259 } s m args below meth c H locs 0 0 (zQ below g r.1 (some (qI r.2)) args s 0 0) (F0 m 174 ls []) := by
    intro h l0  H locs ls Hh hl hm
    unfold M_X4_read_p174 at hm
    refine lv_aload_n hx hb dX4_read_174 rfl (lv_at hl 0 rfl) ?_
    refine z_iconst C dX4_read_175 ?_
    refine z_cVI (vs := [qI 1]) C (fun q hq => ct_X4_fail l g h l0 1 q hq) tw_644 my_X4_fail (fun q hq => tg_X4_fail hq) rfl hl.1 Hh ⟨Nat.le_of_ble_eq_true rfl, Nat.le_of_ble_eq_true rfl, Nat.le_of_ble_eq_true rfl, Nat.le_of_ble_eq_true rfl⟩ (Nat.le_of_ble_eq_true rfl) dX4_read_176 rfl hm (fun h x1 H locs Hh hm => ?_)
    obtain ⟨hz, hm⟩ := zb1_inv hm
    exact z_zretC C hr hlocks Hh dX4_read_179 hz hm
  have KL13 : ∀ (n : Nat) (h : Hp) (l0 l1 : Int) (H : Heap) (locs : List Loc) (ls : Array Slot), zH g s h H locs → lv_has ls 4 [(0, qR g l0), (1, qI l1)] → M_X4_read_w13 n h l0 l1 = some r → W p l e { frames := 10, cells := 0, slots := 0, locals := 259 } s m args below meth c H locs 0 0 (zQ below g r.1 (some (qI r.2)) args s 0 0) (F0 m 13 ls []) := by
    intro n
    induction n with
    | zero => intro h l0 l1 H locs ls Hh hl hm; cases hm
    | succ n ih13 =>
      intro h l0 l1 H locs ls Hh hl hm
      obtain ⟨z13, hm, hc13⟩ := wh_inv hm
      have hm : M_X4_read_b13 h l0 l1 = some z13 := hm
      have K144 : ∀ (h : Hp) (H : Heap) (locs : List Loc) (ls : Array Slot), zH g s h H locs → lv_has ls 4 [] → M_X4_read_p144 h = some z13 → W p l e { frames := 10, cells := 0, slots := 0, locals := 259 } s m args below meth c H locs 0 0 (zQ below g r.1 (some (qI r.2)) args s 0 0) (F0 m 144 ls []) := by
        intro h  H locs ls Hh hl hm
        unfold M_X4_read_p144 at hm
        refine z_iconst C dX4_read_144 ?_
        refine lv_goto (tgt := 149) hx hb dX4_read_145 (by decide) ?_
        cases hm
        have hm := hc13
        exact z_zretC C hr hlocks Hh dX4_read_149 (by decide) hm
      have K109 : ∀ (h : Hp) (l1 l3 : Int) (H : Heap) (locs : List Loc) (ls : Array Slot), zH g s h H locs → lv_has ls 4 [(0, qR g l0), (1, qI l1), (3, qI l3)] → M_X4_read_p109 h l0 l1 l3 = some z13 → W p l e { frames := 10, cells := 0, slots := 0, locals := 259 } s m args below meth c H locs 0 0 (zQ below g r.1 (some (qI r.2)) args s 0 0) (F0 m 109 ls []) := by
        intro h l1 l3  H locs ls Hh hl hm
        unfold M_X4_read_p109 at hm
        refine lv_iload_n hx hb dX4_read_109 rfl (lv_at hl 2 rfl) ?_
        refine z_if_ne (tgt := 115) C dX4_read_110 (by decide) rfl hm (fun _ hm => ?_) (fun _ hm => ?_)
        · refine lv_aload_n hx hb dX4_read_115 rfl (lv_at hl 0 rfl) ?_
          refine z_getI C fl_4_18 Hh dX4_read_116 rfl hm (fun x3 hm => ?_)
          refine z_if_ne (tgt := 150) C dX4_read_119 (by decide) rfl hm (fun _ hm => ?_) (fun _ hm => ?_)
          · refine lv_aload_n hx hb dX4_read_150 rfl (lv_at hl 0 rfl) ?_
            refine z_getI C fl_4_18 Hh dX4_read_151 rfl hm (fun x4 hm => ?_)
            refine z_iconst C dX4_read_154 ?_
            refine z_icmp_eq (tgt := 164) C dX4_read_155 (by decide) rfl lq_p3 hm (fun _ hm => ?_) (fun _ hm => ?_)
            · refine lv_aload_n hx hb dX4_read_164 rfl (lv_at hl 0 rfl) ?_
              refine z_cVv (vs := []) C (fun q hq => ct_X4_take l g h l0 q hq) tw_573 my_X4_take (fun q hq => tg_X4_take hq) rfl hl.1 Hh ⟨Nat.le_of_ble_eq_true rfl, Nat.le_of_ble_eq_true rfl, Nat.le_of_ble_eq_true rfl, Nat.le_of_ble_eq_true rfl⟩ (Nat.le_of_ble_eq_true rfl) dX4_read_165 rfl hm (fun h H locs Hh hm => ?_)
              refine z_iinc (x := l1) (k := 1) (lv' := [(1, qI (l1 + 1)), (0, qR g l0), (3, qI l3)]) C dX4_read_168 hl rfl (by decide) rfl (fun ls hl => ?_)
              refine lv_goto (tgt := 13) hx hb dX4_read_171 (by decide) ?_
              cases hm
              exact ih13 h l0 (l1 + 1) _ _ _ Hh (lv_sub hl [1, 0] rfl) hc13
            · refine lv_aload_n hx hb dX4_read_158 rfl (lv_at hl 0 rfl) ?_
              refine z_iconst C dX4_read_159 ?_
              refine z_cVI (vs := [qI 1]) C (fun q hq => ct_X4_fail l g h l0 1 q hq) tw_644 my_X4_fail (fun q hq => tg_X4_fail hq) rfl hl.1 Hh ⟨Nat.le_of_ble_eq_true rfl, Nat.le_of_ble_eq_true rfl, Nat.le_of_ble_eq_true rfl, Nat.le_of_ble_eq_true rfl⟩ (Nat.le_of_ble_eq_true rfl) dX4_read_160 rfl hm (fun h x5 H locs Hh hm => ?_)
              obtain ⟨hz, hm⟩ := zb1_inv hm
              cases hm
              have hm := hc13
              exact z_zretC C hr hlocks Hh dX4_read_163 hz hm
          · refine lv_aload_n hx hb dX4_read_122 rfl (lv_at hl 0 rfl) ?_
            refine z_getR C fl_4_47 Hh dX4_read_123 rfl hm (fun x7 hm => ?_)
            refine z_getR C fl_4_83 Hh dX4_read_126 rfl hm (fun x8 hm => ?_)
            refine z_getI C fl_4_87 Hh dX4_read_129 rfl hm (fun x9 hm => ?_)
            refine z_if_gt (tgt := 144) C dX4_read_132 (by decide) rfl hm (fun _ hm => ?_) (fun _ hm => ?_)
            · exact K144 h _ _ _ Hh (lv_sub hl [] rfl) hm
            · refine lv_aload_n hx hb dX4_read_135 rfl (lv_at hl 0 rfl) ?_
              refine z_bipush C dX4_read_136 rfl ?_
              refine z_cVI (vs := [qI 6]) C (fun q hq => ct_X4_fail l g h l0 6 q hq) tw_644 my_X4_fail (fun q hq => tg_X4_fail hq) rfl hl.1 Hh ⟨Nat.le_of_ble_eq_true rfl, Nat.le_of_ble_eq_true rfl, Nat.le_of_ble_eq_true rfl, Nat.le_of_ble_eq_true rfl⟩ (Nat.le_of_ble_eq_true rfl) dX4_read_138 rfl hm (fun h x10 H locs Hh hm => ?_)
              refine z_if_eq (tgt := 148) C dX4_read_141 (by decide) rfl hm (fun _ hm => ?_) (fun _ hm => ?_)
              · refine z_iconst C dX4_read_148 ?_
                cases hm
                have hm := hc13
                exact z_zretC C hr hlocks Hh dX4_read_149 (by decide) hm
              · exact K144 h _ _ _ Hh (lv_sub hl [] rfl) hm
        · refine z_iconst C dX4_read_113 ?_
          cases hm
          have hm := hc13
          exact z_zretC C hr hlocks Hh dX4_read_114 (by decide) hm
      unfold M_X4_read_b13 at hm
      refine lv_iload_n hx hb dX4_read_13 rfl (lv_at hl 1 rfl) ?_
      refine z_sipush C dX4_read_14 rfl ?_
      refine z_icmp_gt (tgt := 174) C dX4_read_17 (by decide) rfl lq_p900 hm (fun _ hm => ?_) (fun _ hm => ?_)
      · cases hm
        exact K174 h l0 _ _ _ Hh (lv_sub hl [0] rfl) hc13
      · refine lv_aload_n hx hb dX4_read_20 rfl (lv_at hl 0 rfl) ?_
        refine z_cVIr (vs := []) C (fun q hq => ct_X4_lineSort l g h l0 q hq) tw_579 my_X4_lineSort (fun q hq => tg_X4_lineSort hq) rfl hl.1 Hh ⟨Nat.le_of_ble_eq_true rfl, Nat.le_of_ble_eq_true rfl, Nat.le_of_ble_eq_true rfl, Nat.le_of_ble_eq_true rfl⟩ (Nat.le_of_ble_eq_true rfl) dX4_read_21 rfl hm (fun x11 H locs Hh hm => ?_)
        refine lv_istore_n (lv' := [(2, qI x11), (0, qR g l0), (1, qI l1)]) hx hb dX4_read_24 rfl hl (by decide) rfl (fun ls hl => ?_)
        refine lv_aload_n hx hb dX4_read_25 rfl (lv_at hl 1 rfl) ?_
        refine lv_iload_n hx hb dX4_read_26 rfl (lv_at hl 0 rfl) ?_
        refine z_cVI (vs := [qI x11]) C (fun q hq => ct_X4_mayCome l g h l0 x11 q hq) tw_640 my_X4_mayCome (fun q hq => tg_X4_mayCome hq) rfl hl.1 Hh ⟨Nat.le_of_ble_eq_true rfl, Nat.le_of_ble_eq_true rfl, Nat.le_of_ble_eq_true rfl, Nat.le_of_ble_eq_true rfl⟩ (Nat.le_of_ble_eq_true rfl) dX4_read_27 rfl hm (fun h x12 H locs Hh hm => ?_)
        refine z_if_ne (tgt := 35) C dX4_read_30 (by decide) rfl hm (fun _ hm => ?_) (fun _ hm => ?_)
        · refine lv_aload_n hx hb dX4_read_35 rfl (lv_at hl 1 rfl) ?_
          refine z_cVv (vs := []) C (fun q hq => ct_X4_take l g h l0 q hq) tw_573 my_X4_take (fun q hq => tg_X4_take hq) rfl hl.1 Hh ⟨Nat.le_of_ble_eq_true rfl, Nat.le_of_ble_eq_true rfl, Nat.le_of_ble_eq_true rfl, Nat.le_of_ble_eq_true rfl⟩ (Nat.le_of_ble_eq_true rfl) dX4_read_36 rfl hm (fun h H locs Hh hm => ?_)
          refine lv_iload_n hx hb dX4_read_39 rfl (lv_at hl 0 rfl) ?_
          refine z_sw hm (fun q hm => ?_) (fun q0 hm => ?_)
          · refine z_tin (tgt := 72) (off := 32) C dX4_read_40 q (by decide) (by decide) rfl (by decide) ?_
            refine lv_aload_n hx hb dX4_read_72 rfl (lv_at hl 1 rfl) ?_
            refine z_cVI (vs := []) C (fun q hq => ct_X4_readRing l g h l0 q hq) tw_652 my_X4_readRing (fun q hq => tg_X4_readRing hq) rfl hl.1 Hh ⟨Nat.le_of_ble_eq_true rfl, Nat.le_of_ble_eq_true rfl, Nat.le_of_ble_eq_true rfl, Nat.le_of_ble_eq_true rfl⟩ (Nat.le_of_ble_eq_true rfl) dX4_read_73 rfl hm (fun h x13 H locs Hh hm => ?_)
            refine lv_istore_n (lv' := [(3, qI x13), (2, qI x11), (0, qR g l0), (1, qI l1)]) hx hb dX4_read_76 rfl hl (by decide) rfl (fun ls hl => ?_)
            refine lv_goto (tgt := 109) hx hb dX4_read_77 (by decide) ?_
            exact K109 h l1 x13 _ _ _ Hh (lv_sub hl [2, 3, 0] rfl) hm
          refine z_sw hm (fun q hm => ?_) (fun q1 hm => ?_)
          · refine z_tin (tgt := 80) (off := 40) C dX4_read_40 q (by decide) (by decide) rfl (by decide) ?_
            refine lv_aload_n hx hb dX4_read_80 rfl (lv_at hl 1 rfl) ?_
            refine z_cVI (vs := []) C (fun q hq => ct_X4_readTown l g h l0 q hq) tw_671 my_X4_readTown (fun q hq => tg_X4_readTown hq) rfl hl.1 Hh ⟨Nat.le_of_ble_eq_true rfl, Nat.le_of_ble_eq_true rfl, Nat.le_of_ble_eq_true rfl, Nat.le_of_ble_eq_true rfl⟩ (Nat.le_of_ble_eq_true rfl) dX4_read_81 rfl hm (fun h x14 H locs Hh hm => ?_)
            refine lv_istore_n (lv' := [(3, qI x14), (2, qI x11), (0, qR g l0), (1, qI l1)]) hx hb dX4_read_84 rfl hl (by decide) rfl (fun ls hl => ?_)
            refine lv_goto (tgt := 109) hx hb dX4_read_85 (by decide) ?_
            exact K109 h l1 x14 _ _ _ Hh (lv_sub hl [2, 3, 0] rfl) hm
          refine z_sw hm (fun q hm => ?_) (fun q2 hm => ?_)
          · refine z_tin (tgt := 88) (off := 48) C dX4_read_40 q (by decide) (by decide) rfl (by decide) ?_
            refine lv_aload_n hx hb dX4_read_88 rfl (lv_at hl 1 rfl) ?_
            refine z_cVI (vs := []) C (fun q hq => ct_X4_readCopies l g h l0 q hq) tw_688 my_X4_readCopies (fun q hq => tg_X4_readCopies hq) rfl hl.1 Hh ⟨Nat.le_of_ble_eq_true rfl, Nat.le_of_ble_eq_true rfl, Nat.le_of_ble_eq_true rfl, Nat.le_of_ble_eq_true rfl⟩ (Nat.le_of_ble_eq_true rfl) dX4_read_89 rfl hm (fun h x15 H locs Hh hm => ?_)
            refine lv_istore_n (lv' := [(3, qI x15), (2, qI x11), (0, qR g l0), (1, qI l1)]) hx hb dX4_read_92 rfl hl (by decide) rfl (fun ls hl => ?_)
            refine lv_goto (tgt := 109) hx hb dX4_read_93 (by decide) ?_
            exact K109 h l1 x15 _ _ _ Hh (lv_sub hl [2, 3, 0] rfl) hm
          refine z_sw hm (fun q hm => ?_) (fun q3 hm => ?_)
          · refine z_tin (tgt := 96) (off := 56) C dX4_read_40 q (by decide) (by decide) rfl (by decide) ?_
            refine lv_aload_n hx hb dX4_read_96 rfl (lv_at hl 1 rfl) ?_
            refine z_cVI (vs := []) C (fun q hq => ct_X4_readGuess l g h l0 q hq) tw_748 my_X4_readGuess (fun q hq => tg_X4_readGuess hq) rfl hl.1 Hh ⟨Nat.le_of_ble_eq_true rfl, Nat.le_of_ble_eq_true rfl, Nat.le_of_ble_eq_true rfl, Nat.le_of_ble_eq_true rfl⟩ (Nat.le_of_ble_eq_true rfl) dX4_read_97 rfl hm (fun h x16 H locs Hh hm => ?_)
            refine lv_istore_n (lv' := [(3, qI x16), (2, qI x11), (0, qR g l0), (1, qI l1)]) hx hb dX4_read_100 rfl hl (by decide) rfl (fun ls hl => ?_)
            refine lv_goto (tgt := 109) hx hb dX4_read_101 (by decide) ?_
            exact K109 h l1 x16 _ _ _ Hh (lv_sub hl [2, 3, 0] rfl) hm
          refine z_tout (tgt := 104) C dX4_read_40 (by omega) (by decide) ?_
          refine lv_aload_n hx hb dX4_read_104 rfl (lv_at hl 1 rfl) ?_
          refine z_cVI (vs := []) C (fun q hq => ct_X4_readSeen l g h l0 q hq) tw_752 my_X4_readSeen (fun q hq => tg_X4_readSeen hq) rfl hl.1 Hh ⟨Nat.le_of_ble_eq_true rfl, Nat.le_of_ble_eq_true rfl, Nat.le_of_ble_eq_true rfl, Nat.le_of_ble_eq_true rfl⟩ (Nat.le_of_ble_eq_true rfl) dX4_read_105 rfl hm (fun h x17 H locs Hh hm => ?_)
          refine lv_istore_n (lv' := [(3, qI x17), (2, qI x11), (0, qR g l0), (1, qI l1)]) hx hb dX4_read_108 rfl hl (by decide) rfl (fun ls hl => ?_)
          exact K109 h l1 x17 _ _ _ Hh (lv_sub hl [2, 3, 0] rfl) hm
        · refine z_iconst C dX4_read_33 ?_
          cases hm
          have hm := hc13
          exact z_zretC C hr hlocks Hh dX4_read_34 (by decide) hm
  refine lv_aload_n hx hb dX4_read_0 rfl (lv_at hl 0 rfl) ?_
  refine z_getR C fl_4_47 Hh dX4_read_1 rfl hm (fun x18 hm => ?_)
  refine z_cVv (vs := []) C (fun q hq => ct_X5_clear l g h x18 q hq) tw_557 my_X5_clear (fun q hq => tg_X5_clear hq) rfl hl.1 Hh ⟨Nat.le_of_ble_eq_true rfl, Nat.le_of_ble_eq_true rfl, Nat.le_of_ble_eq_true rfl, Nat.le_of_ble_eq_true rfl⟩ (Nat.le_of_ble_eq_true rfl) dX4_read_4 rfl hm (fun h H locs Hh hm => ?_)
  refine lv_aload_n hx hb dX4_read_7 rfl (lv_at hl 0 rfl) ?_
  refine z_cVv (vs := []) C (fun q hq => ct_X4_take l g h l0 q hq) tw_573 my_X4_take (fun q hq => tg_X4_take hq) rfl hl.1 Hh ⟨Nat.le_of_ble_eq_true rfl, Nat.le_of_ble_eq_true rfl, Nat.le_of_ble_eq_true rfl, Nat.le_of_ble_eq_true rfl⟩ (Nat.le_of_ble_eq_true rfl) dX4_read_8 rfl hm (fun h H locs Hh hm => ?_)
  refine z_iconst C dX4_read_11 ?_
  refine lv_istore_n (lv' := [(1, qI 0), (0, qR g l0)]) hx hb dX4_read_12 rfl hl (by decide) rfl (fun ls hl => ?_)
  exact KL13 FU h l0 0 _ _ _ Hh (lv_sub hl [1, 0] rfl) hm
theorem tg_X5_init {h : Hp} {l0 : Int} {r : Hp} (hm : M_X5_init h l0 = some r) : hT h l0 = 15 := (tk_inv hm).1
set_option maxRecDepth 100000 in
set_option maxHeartbeats 4000000 in
theorem ct_X5_init (l : Launch) (g : zGeo) (h0 : Hp) (l0 : Int) (r : Hp) (hm : M_X5_init h0 l0 = some r) : zM l yX5_init cX5_init 1 none 2 60 10 312 g h0 [qR g l0] r none := by
  refine z_meth (by decide) (Nat.le_of_ble_eq_true rfl) ?_
  intro p e s m args below meth c H ls C hr hlocks hnm Hh hl
  have C : zC p m c cX5_init 1 s args RX5 g := C
  have hnm : meth.name = "<init>" := hnm
  have hx := C.1.1
  have hb := C.1.2.1
  have hl : lv_has ls 1 [(0, qR g l0)] := hl
  unfold M_X5_init at hm
  replace hm := (tk_inv hm).2
  generalize h0 = h at Hh hm
  refine lv_aload_n hx hb dX5_init_0 rfl (lv_at hl 0 rfl) ?_
  refine z_oinit C ⟨tw_166, tw_159, tw_160⟩ hl.1 (Nat.le_of_ble_eq_true rfl) (Nat.le_of_ble_eq_true rfl) dX5_init_1 ?_
  refine lv_aload_n hx hb dX5_init_4 rfl (lv_at hl 0 rfl) ?_
  refine z_iconst C dX5_init_5 ?_
  refine z_putI C hnm pl_5_9_i Hh dX5_init_6 rfl hm (fun h H locs Hh hm => ?_)
  refine lv_aload_n hx hb dX5_init_9 rfl (lv_at hl 0 rfl) ?_
  refine z_newb C nl_5_15 Hh (Nat.le_of_ble_eq_true rfl) (Nat.le_of_ble_eq_true rfl) dX5_init_10 hm (fun h x1 H Hh hm => ?_)
  refine lv_dup hx hb dX5_init_13 rfl ?_
  refine z_cIv (vs := []) C (fun q hq => ct_X8_init l g h x1 q hq) ml_5_17 my_X8_init rfl hl.1 Hh ⟨Nat.le_of_ble_eq_true rfl, Nat.le_of_ble_eq_true rfl, Nat.le_of_ble_eq_true rfl, Nat.le_of_ble_eq_true rfl⟩ (Nat.le_of_ble_eq_true rfl) dX5_init_14 rfl hm (fun h H locs Hh hm => ?_)
  refine z_putRc C hnm pl_5_18_i (fun _ => ⟨rfl, rfl⟩) Hh dX5_init_17 rfl hm (fun h H locs Hh hm => ?_)
  refine lv_aload_n hx hb dX5_init_20 rfl (lv_at hl 0 rfl) ?_
  refine z_bipush C dX5_init_21 rfl ?_
  refine z_newab C (t := 2) (atype := .long) (by decide) tw_276 Hh (by decide) (by decide) (Nat.le_of_ble_eq_true rfl) (Nat.le_of_ble_eq_true rfl) dX5_init_23 hm (fun h x2 H Hh hm => ?_)
  refine z_putRc C hnm pl_5_22_i (fun _ => ⟨rfl, rfl⟩) Hh dX5_init_25 rfl hm (fun h H locs Hh hm => ?_)
  refine lv_aload_n hx hb dX5_init_28 rfl (lv_at hl 0 rfl) ?_
  refine z_bipush C dX5_init_29 rfl ?_
  refine z_newab C (t := 1) (atype := .int) (by decide) tw_222 Hh (by decide) (by decide) (Nat.le_of_ble_eq_true rfl) (Nat.le_of_ble_eq_true rfl) dX5_init_31 hm (fun h x3 H Hh hm => ?_)
  refine z_putRc C hnm pl_5_26_i (fun _ => ⟨rfl, rfl⟩) Hh dX5_init_33 rfl hm (fun h H locs Hh hm => ?_)
  refine lv_aload_n hx hb dX5_init_36 rfl (lv_at hl 0 rfl) ?_
  refine z_iconst C dX5_init_37 ?_
  refine z_putI C hnm pl_5_30_i Hh dX5_init_38 rfl hm (fun h H locs Hh hm => ?_)
  refine lv_aload_n hx hb dX5_init_41 rfl (lv_at hl 0 rfl) ?_
  refine z_bipush C dX5_init_42 rfl ?_
  refine z_newab C (t := 1) (atype := .int) (by decide) tw_222 Hh (by decide) (by decide) (Nat.le_of_ble_eq_true rfl) (Nat.le_of_ble_eq_true rfl) dX5_init_44 hm (fun h x4 H Hh hm => ?_)
  refine z_putRc C hnm pl_5_33_i (fun _ => ⟨rfl, rfl⟩) Hh dX5_init_46 rfl hm (fun h H locs Hh hm => ?_)
  refine lv_aload_n hx hb dX5_init_49 rfl (lv_at hl 0 rfl) ?_
  refine z_bipush C dX5_init_50 rfl ?_
  refine z_newab C (t := 1) (atype := .int) (by decide) tw_222 Hh (by decide) (by decide) (Nat.le_of_ble_eq_true rfl) (Nat.le_of_ble_eq_true rfl) dX5_init_52 hm (fun h x5 H Hh hm => ?_)
  refine z_putRc C hnm pl_5_36_i (fun _ => ⟨rfl, rfl⟩) Hh dX5_init_54 rfl hm (fun h H locs Hh hm => ?_)
  refine lv_aload_n hx hb dX5_init_57 rfl (lv_at hl 0 rfl) ?_
  refine z_bipush C dX5_init_58 rfl ?_
  refine z_newab C (t := 1) (atype := .int) (by decide) tw_222 Hh (by decide) (by decide) (Nat.le_of_ble_eq_true rfl) (Nat.le_of_ble_eq_true rfl) dX5_init_60 hm (fun h x6 H Hh hm => ?_)
  refine z_putRc C hnm pl_5_39_i (fun _ => ⟨rfl, rfl⟩) Hh dX5_init_62 rfl hm (fun h H locs Hh hm => ?_)
  refine lv_aload_n hx hb dX5_init_65 rfl (lv_at hl 0 rfl) ?_
  refine z_bipush C dX5_init_66 rfl ?_
  refine z_newab C (t := 1) (atype := .int) (by decide) tw_222 Hh (by decide) (by decide) (Nat.le_of_ble_eq_true rfl) (Nat.le_of_ble_eq_true rfl) dX5_init_68 hm (fun h x7 H Hh hm => ?_)
  refine z_putRc C hnm pl_5_42_i (fun _ => ⟨rfl, rfl⟩) Hh dX5_init_70 rfl hm (fun h H locs Hh hm => ?_)
  refine lv_aload_n hx hb dX5_init_73 rfl (lv_at hl 0 rfl) ?_
  refine z_iconst C dX5_init_74 ?_
  refine z_putI C hnm pl_5_45_i Hh dX5_init_75 rfl hm (fun h H locs Hh hm => ?_)
  refine W.widen (k := 10) (n := 312) (Nat.le_of_ble_eq_true rfl) (Nat.le_of_ble_eq_true rfl) ?_
  exact z_vret C hr hlocks Hh dX5_init_78 hm
theorem tg_X5_unknownNumber {h : Hp} {l0 l1 : Int} {r : Int} (hm : M_X5_unknownNumber h l0 l1 = some r) : hT h l0 = 15 := (tk_inv hm).1
set_option maxRecDepth 100000 in
set_option maxHeartbeats 4000000 in
theorem ct_X5_unknownNumber (l : Launch) (g : zGeo) (h : Hp) (l0 l1 : Int) (r : Int) (hm : M_X5_unknownNumber h l0 l1 = some r) : zM l yX5_unknownNumber cX5_unknownNumber 2 (some .int) 2 44 0 0 g h [qR g l0, qI l1] h (some (qI r)) := by
  refine z_meth (by decide) (Nat.le_of_ble_eq_true rfl) ?_
  intro p e s m args below meth c H ls C hr hlocks hnm Hh hl
  have C : zC p m c cX5_unknownNumber 2 s args RX5 g := C
  have hnm : meth.name = "unknownNumber" := hnm
  have hx := C.1.1
  have hb := C.1.2.1
  have hl : lv_has ls 2 [(0, qR g l0), (1, qI l1)] := hl
  unfold M_X5_unknownNumber at hm
  replace hm := (tk_inv hm).2
  refine lv_aload_n hx hb dX5_unknownNumber_0 rfl (lv_at hl 0 rfl) ?_
  refine lv_iload_n hx hb dX5_unknownNumber_1 rfl (lv_at hl 1 rfl) ?_
  refine z_cVIr (vs := [qI l1]) C (fun q hq => ct_X5_isUnknown l g h l0 l1 q hq) tw_722 my_X5_isUnknown (fun q hq => tg_X5_isUnknown hq) rfl hl.1 Hh ⟨Nat.le_of_ble_eq_true rfl, Nat.le_of_ble_eq_true rfl, Nat.le_of_ble_eq_true rfl, Nat.le_of_ble_eq_true rfl⟩ (Nat.le_of_ble_eq_true rfl) dX5_unknownNumber_2 rfl hm (fun x1 H locs Hh hm => ?_)
  refine z_if_eq (tgt := 16) C dX5_unknownNumber_5 (by decide) rfl hm (fun _ hm => ?_) (fun _ hm => ?_)
  · refine z_iconst C dX5_unknownNumber_16 ?_
    exact z_iretR (h0 := h) C hr hlocks Hh dX5_unknownNumber_17 hm
  · refine lv_aload_n hx hb dX5_unknownNumber_8 rfl (lv_at hl 0 rfl) ?_
    refine lv_iload_n hx hb dX5_unknownNumber_9 rfl (lv_at hl 1 rfl) ?_
    refine z_cVIr (vs := [qI l1]) C (fun q hq => ct_X5_unknownsBelow l g h l0 l1 q hq) tw_718 my_X5_unknownsBelow (fun q hq => tg_X5_unknownsBelow hq) rfl hl.1 Hh ⟨Nat.le_of_ble_eq_true rfl, Nat.le_of_ble_eq_true rfl, Nat.le_of_ble_eq_true rfl, Nat.le_of_ble_eq_true rfl⟩ (Nat.le_of_ble_eq_true rfl) dX5_unknownNumber_10 rfl hm (fun x2 H locs Hh hm => ?_)
    refine lv_goto (tgt := 17) hx hb dX5_unknownNumber_13 (by decide) ?_
    exact z_iretR (h0 := h) C hr hlocks Hh dX5_unknownNumber_17 hm
theorem tg_X7_init {h : Hp} {l0 l1 : Int} {r : Hp} (hm : M_X7_init h l0 l1 = some r) : hT h l0 = 17 := (tk_inv hm).1
set_option maxRecDepth 100000 in
set_option maxHeartbeats 4000000 in
theorem ct_X7_init (l : Launch) (g : zGeo) (h0 : Hp) (l0 l1 : Int) (r : Hp) (hm : M_X7_init h0 l0 l1 = some r) : zM l yX7_init cX7_init 2 none 1 40 3 252 g h0 [qR g l0, qR g l1] r none := by
  refine z_meth (by decide) (Nat.le_of_ble_eq_true rfl) ?_
  intro p e s m args below meth c H ls C hr hlocks hnm Hh hl
  have C : zC p m c cX7_init 2 s args RX7 g := C
  have hnm : meth.name = "<init>" := hnm
  have hx := C.1.1
  have hb := C.1.2.1
  have hl : lv_has ls 2 [(0, qR g l0), (1, qR g l1)] := hl
  unfold M_X7_init at hm
  replace hm := (tk_inv hm).2
  generalize h0 = h at Hh hm
  refine lv_aload_n hx hb dX7_init_0 rfl (lv_at hl 0 rfl) ?_
  refine z_oinit C ⟨tw_355, tw_159, tw_160⟩ hl.1 (Nat.le_of_ble_eq_true rfl) (Nat.le_of_ble_eq_true rfl) dX7_init_1 ?_
  refine lv_aload_n hx hb dX7_init_4 rfl (lv_at hl 0 rfl) ?_
  refine z_bipush C dX7_init_5 rfl ?_
  refine z_newab C (t := 2) (atype := .long) (by decide) tw_276 Hh (by decide) (by decide) (Nat.le_of_ble_eq_true rfl) (Nat.le_of_ble_eq_true rfl) dX7_init_7 hm (fun h x1 H Hh hm => ?_)
  refine z_putRc C hnm pl_7_11_i (fun _ => ⟨rfl, rfl⟩) Hh dX7_init_9 rfl hm (fun h H locs Hh hm => ?_)
  refine lv_aload_n hx hb dX7_init_12 rfl (lv_at hl 0 rfl) ?_
  refine z_bipush C dX7_init_13 rfl ?_
  refine z_newab C (t := 2) (atype := .long) (by decide) tw_276 Hh (by decide) (by decide) (Nat.le_of_ble_eq_true rfl) (Nat.le_of_ble_eq_true rfl) dX7_init_15 hm (fun h x2 H Hh hm => ?_)
  refine z_putRc C hnm pl_7_15_i (fun _ => ⟨rfl, rfl⟩) Hh dX7_init_17 rfl hm (fun h H locs Hh hm => ?_)
  refine lv_aload_n hx hb dX7_init_20 rfl (lv_at hl 0 rfl) ?_
  refine z_bipush C dX7_init_21 rfl ?_
  refine z_newab C (t := 2) (atype := .long) (by decide) tw_276 Hh (by decide) (by decide) (Nat.le_of_ble_eq_true rfl) (Nat.le_of_ble_eq_true rfl) dX7_init_23 hm (fun h x3 H Hh hm => ?_)
  refine z_putRc C hnm pl_7_18_i (fun _ => ⟨rfl, rfl⟩) Hh dX7_init_25 rfl hm (fun h H locs Hh hm => ?_)
  refine lv_aload_n hx hb dX7_init_28 rfl (lv_at hl 0 rfl) ?_
  refine lv_aload_n hx hb dX7_init_29 rfl (lv_at hl 1 rfl) ?_
  refine z_putRc C hnm pl_7_21_i (fun _ => ⟨rfl, rfl⟩) Hh dX7_init_30 rfl hm (fun h H locs Hh hm => ?_)
  refine W.widen (k := 3) (n := 252) (Nat.le_of_ble_eq_true rfl) (Nat.le_of_ble_eq_true rfl) ?_
  exact z_vret C hr hlocks Hh dX7_init_33 hm
theorem tg_X6_init {h : Hp} {l0 l1 : Int} {r : Hp} (hm : M_X6_init h l0 l1 = some r) : hT h l0 = 16 := (tk_inv hm).1
set_option maxRecDepth 100000 in
set_option maxHeartbeats 4000000 in
theorem ct_X6_init (l : Launch) (g : zGeo) (h0 : Hp) (l0 l1 : Int) (r : Hp) (hm : M_X6_init h0 l0 l1 = some r) : zM l yX6_init cX6_init 2 none 2 61 8 490 g h0 [qR g l0, qR g l1] r none := by
  refine z_meth (by decide) (Nat.le_of_ble_eq_true rfl) ?_
  intro p e s m args below meth c H ls C hr hlocks hnm Hh hl
  have C : zC p m c cX6_init 2 s args RX6 g := C
  have hnm : meth.name = "<init>" := hnm
  have hx := C.1.1
  have hb := C.1.2.1
  have hl : lv_has ls 2 [(0, qR g l0), (1, qR g l1)] := hl
  unfold M_X6_init at hm
  replace hm := (tk_inv hm).2
  generalize h0 = h at Hh hm
  refine lv_aload_n hx hb dX6_init_0 rfl (lv_at hl 0 rfl) ?_
  refine z_oinit C ⟨tw_349, tw_159, tw_160⟩ hl.1 (Nat.le_of_ble_eq_true rfl) (Nat.le_of_ble_eq_true rfl) dX6_init_1 ?_
  refine lv_aload_n hx hb dX6_init_4 rfl (lv_at hl 0 rfl) ?_
  refine z_bipush C dX6_init_5 rfl ?_
  refine z_newab C (t := 1) (atype := .int) (by decide) tw_222 Hh (by decide) (by decide) (Nat.le_of_ble_eq_true rfl) (Nat.le_of_ble_eq_true rfl) dX6_init_7 hm (fun h x1 H Hh hm => ?_)
  refine z_putRc C hnm pl_6_9_i (fun _ => ⟨rfl, rfl⟩) Hh dX6_init_9 rfl hm (fun h H locs Hh hm => ?_)
  refine lv_aload_n hx hb dX6_init_12 rfl (lv_at hl 0 rfl) ?_
  refine z_iconst C dX6_init_13 ?_
  refine z_putI C hnm pl_6_15_i Hh dX6_init_14 rfl hm (fun h H locs Hh hm => ?_)
  refine lv_aload_n hx hb dX6_init_17 rfl (lv_at hl 0 rfl) ?_
  refine z_iconst C dX6_init_18 ?_
  refine z_newab C (t := 1) (atype := .int) (by decide) tw_222 Hh (by decide) (by decide) (Nat.le_of_ble_eq_true rfl) (Nat.le_of_ble_eq_true rfl) dX6_init_19 hm (fun h x2 H Hh hm => ?_)
  refine z_putRc C hnm pl_6_19_i (fun _ => ⟨rfl, rfl⟩) Hh dX6_init_21 rfl hm (fun h H locs Hh hm => ?_)
  refine lv_aload_n hx hb dX6_init_24 rfl (lv_at hl 0 rfl) ?_
  refine z_iconst C dX6_init_25 ?_
  refine z_newab C (t := 1) (atype := .int) (by decide) tw_222 Hh (by decide) (by decide) (Nat.le_of_ble_eq_true rfl) (Nat.le_of_ble_eq_true rfl) dX6_init_26 hm (fun h x3 H Hh hm => ?_)
  refine z_putRc C hnm pl_6_22_i (fun _ => ⟨rfl, rfl⟩) Hh dX6_init_28 rfl hm (fun h H locs Hh hm => ?_)
  refine lv_aload_n hx hb dX6_init_31 rfl (lv_at hl 0 rfl) ?_
  refine z_sipush C dX6_init_32 rfl ?_
  refine z_newab C (t := 1) (atype := .int) (by decide) tw_222 Hh (by decide) (by decide) (Nat.le_of_ble_eq_true rfl) (Nat.le_of_ble_eq_true rfl) dX6_init_35 hm (fun h x4 H Hh hm => ?_)
  refine z_putRc C hnm pl_6_25_i (fun _ => ⟨rfl, rfl⟩) Hh dX6_init_37 rfl hm (fun h H locs Hh hm => ?_)
  refine lv_aload_n hx hb dX6_init_40 rfl (lv_at hl 0 rfl) ?_
  refine lv_aload_n hx hb dX6_init_41 rfl (lv_at hl 1 rfl) ?_
  refine z_putRc C hnm pl_6_28_i (fun _ => ⟨rfl, rfl⟩) Hh dX6_init_42 rfl hm (fun h H locs Hh hm => ?_)
  refine lv_aload_n hx hb dX6_init_45 rfl (lv_at hl 0 rfl) ?_
  refine z_newb C nl_6_32 Hh (Nat.le_of_ble_eq_true rfl) (Nat.le_of_ble_eq_true rfl) dX6_init_46 hm (fun h x5 H Hh hm => ?_)
  refine lv_dup hx hb dX6_init_49 rfl ?_
  refine lv_aload_n hx hb dX6_init_50 rfl (lv_at hl 1 rfl) ?_
  refine z_cIv (vs := [qR g l1]) C (fun q hq => ct_X7_init l g h x5 l1 q hq) ml_6_34 my_X7_init rfl hl.1 Hh ⟨Nat.le_of_ble_eq_true rfl, Nat.le_of_ble_eq_true rfl, Nat.le_of_ble_eq_true rfl, Nat.le_of_ble_eq_true rfl⟩ (Nat.le_of_ble_eq_true rfl) dX6_init_51 rfl hm (fun h H locs Hh hm => ?_)
  refine z_putRc C hnm pl_6_37_i (fun _ => ⟨rfl, rfl⟩) Hh dX6_init_54 rfl hm (fun h H locs Hh hm => ?_)
  refine W.widen (k := 8) (n := 490) (Nat.le_of_ble_eq_true rfl) (Nat.le_of_ble_eq_true rfl) ?_
  exact z_vret C hr hlocks Hh dX6_init_57 hm
theorem tg_X6_listOpen {h : Hp} {l0 l1 : Int} {r : Hp} (hm : M_X6_listOpen h l0 l1 = some r) : hT h l0 = 16 := (tk_inv hm).1
set_option maxRecDepth 100000 in
set_option maxHeartbeats 4000000 in
theorem ct_X6_listOpen (l : Launch) (g : zGeo) (h0 : Hp) (l0 l1 : Int) (r : Hp) (hm : M_X6_listOpen h0 l0 l1 = some r) : zM l yX6_listOpen cX6_listOpen 5 none 1 21 0 0 g h0 [qR g l0, qI l1] r none := by
  refine z_meth (by decide) (Nat.le_of_ble_eq_true rfl) ?_
  intro p e s m args below meth c H ls C hr hlocks hnm Hh hl
  have C : zC p m c cX6_listOpen 5 s args RX6 g := C
  have hnm : meth.name = "listOpen" := hnm
  have hx := C.1.1
  have hb := C.1.2.1
  have hl : lv_has ls 5 [(0, qR g l0), (1, qI l1)] := hl
  unfold M_X6_listOpen at hm
  replace hm := (tk_inv hm).2
  generalize h0 = h at Hh hm
  have K87 : ∀ (h : Hp) (H : Heap) (locs : List Loc) (ls : Array Slot), zH g s h H locs → lv_has ls 5 [] → M_X6_listOpen_p87 h = some r → W p l e { frames := 1, cells := 0, slots := 0, locals := 21 } s m args below meth c H locs 0 0 (zQ below g r none args s 0 0) (F0 m 87 ls []) := by
    intro h  H locs ls Hh hl hm
    unfold M_X6_listOpen_p87 at hm
    exact z_vret C hr hlocks Hh dX6_listOpen_87 hm
  have KL7 : ∀ (n : Nat) (h : Hp) (l0 l1 l2 : Int) (H : Heap) (locs : List Loc) (ls : Array Slot), zH g s h H locs → lv_has ls 5 [(0, qR g l0), (1, qI l1), (2, qI l2)] → M_X6_listOpen_w7 n h l0 l1 l2 = some r → W p l e { frames := 1, cells := 0, slots := 0, locals := 21 } s m args below meth c H locs 0 0 (zQ below g r none args s 0 0) (F0 m 7 ls []) := by
    intro n
    induction n with
    | zero => intro h l0 l1 l2 H locs ls Hh hl hm; cases hm
    | succ n ih7 =>
      intro h l0 l1 l2 H locs ls Hh hl hm
      obtain ⟨z7, hm, hc7⟩ := wh_inv hm
      have hm : M_X6_listOpen_b7 h l0 l1 l2 = some z7 := hm
      have K81 : ∀ (h : Hp) (l2 : Int) (H : Heap) (locs : List Loc) (ls : Array Slot), zH g s h H locs → lv_has ls 5 [(0, qR g l0), (1, qI l1), (2, qI l2)] → M_X6_listOpen_p81 h l0 l1 l2 = some z7 → W p l e { frames := 1, cells := 0, slots := 0, locals := 21 } s m args below meth c H locs 0 0 (zQ below g r none args s 0 0) (F0 m 81 ls []) := by
        intro h l2  H locs ls Hh hl hm
        unfold M_X6_listOpen_p81 at hm
        refine z_iinc (x := l2) (k := 2) (lv' := [(2, qI (l2 + 1)), (0, qR g l0), (1, qI l1)]) C dX6_listOpen_81 hl rfl (by decide) rfl (fun ls hl => ?_)
        refine lv_goto (tgt := 7) hx hb dX6_listOpen_84 (by decide) ?_
        cases hm
        exact ih7 h l0 l1 (l2 + 1) _ _ _ Hh (lv_sub hl [1, 2, 0] rfl) hc7
      have KL15 : ∀ (n : Nat) (h : Hp) (l2 l3 : Int) (H : Heap) (locs : List Loc) (ls : Array Slot), zH g s h H locs → lv_has ls 5 [(0, qR g l0), (1, qI l1), (2, qI l2), (3, qI l3)] → M_X6_listOpen_w15 n h l0 l1 l2 l3 = some z7 → W p l e { frames := 1, cells := 0, slots := 0, locals := 21 } s m args below meth c H locs 0 0 (zQ below g r none args s 0 0) (F0 m 15 ls []) := by
        intro n
        induction n with
        | zero => intro h l2 l3 H locs ls Hh hl hm; cases hm
        | succ n ih15 =>
          intro h l2 l3 H locs ls Hh hl hm
          obtain ⟨z15, hm, hc15⟩ := wh_inv hm
          have hm : M_X6_listOpen_b15 h l0 l1 l2 l3 = some z15 := hm
          have K75 : ∀ (h : Hp) (l3 : Int) (H : Heap) (locs : List Loc) (ls : Array Slot), zH g s h H locs → lv_has ls 5 [(0, qR g l0), (1, qI l1), (2, qI l2), (3, qI l3)] → M_X6_listOpen_p75 h l0 l1 l2 l3 = some z15 → W p l e { frames := 1, cells := 0, slots := 0, locals := 21 } s m args below meth c H locs 0 0 (zQ below g r none args s 0 0) (F0 m 75 ls []) := by
            intro h l3  H locs ls Hh hl hm
            unfold M_X6_listOpen_p75 at hm
            refine z_iinc (x := l3) (k := 3) (lv' := [(3, qI (l3 + 1)), (0, qR g l0), (1, qI l1), (2, qI l2)]) C dX6_listOpen_75 hl rfl (by decide) rfl (fun ls hl => ?_)
            refine lv_goto (tgt := 15) hx hb dX6_listOpen_78 (by decide) ?_
            cases hm
            exact ih15 h l2 (l3 + 1) _ _ _ Hh (lv_sub hl [1, 2, 3, 0] rfl) hc15
          unfold M_X6_listOpen_b15 at hm
          refine lv_iload_n hx hb dX6_listOpen_15 rfl (lv_at hl 3 rfl) ?_
          refine z_bipush C dX6_listOpen_16 rfl ?_
          refine z_icmp_ge (tgt := 81) C dX6_listOpen_18 (by decide) rfl lq_p6 hm (fun _ hm => ?_) (fun _ hm => ?_)
          · cases hm
            exact K81 h l2 _ _ _ Hh (lv_sub hl [0, 1, 2] rfl) hc15
          · refine z_bipush C dX6_listOpen_21 rfl ?_
            refine lv_iload_n hx hb dX6_listOpen_23 rfl (lv_at hl 3 rfl) ?_
            refine z_imul C dX6_listOpen_24 ?_
            refine lv_iload_n hx hb dX6_listOpen_25 rfl (lv_at hl 2 rfl) ?_
            refine z_iadd C dX6_listOpen_26 ?_
            refine lv_istore (lv' := [(4, qI ((6 * l3) + l2)), (0, qR g l0), (1, qI l1), (2, qI l2), (3, qI l3)]) hx hb dX6_listOpen_27 hl (by decide) rfl (fun ls hl => ?_)
            refine lv_aload_n hx hb dX6_listOpen_29 rfl (lv_at hl 1 rfl) ?_
            refine z_getR C fl_6_28 Hh dX6_listOpen_30 rfl hm (fun x1 hm => ?_)
            refine lv_iload hx hb dX6_listOpen_33 (lv_at hl 0 rfl) ?_
            refine z_cVIr (vs := [qI ((6 * l3) + l2)]) C (fun q hq => ct_X0_matters l g h x1 ((6 * l3) + l2) q hq) tw_1026 my_X0_matters (fun q hq => tg_X0_matters hq) rfl hl.1 Hh ⟨Nat.le_of_ble_eq_true rfl, Nat.le_of_ble_eq_true rfl, Nat.le_of_ble_eq_true rfl, Nat.le_of_ble_eq_true rfl⟩ (Nat.le_of_ble_eq_true rfl) dX6_listOpen_35 rfl hm (fun x2 H locs Hh hm => ?_)
            refine z_if_eq (tgt := 75) C dX6_listOpen_38 (by decide) rfl hm (fun _ hm => ?_) (fun _ hm => ?_)
            · exact K75 h l3 _ _ _ Hh (lv_sub hl [1, 2, 3, 4] rfl) hm
            · refine lv_aload_n hx hb dX6_listOpen_41 rfl (lv_at hl 1 rfl) ?_
              refine z_getR C fl_6_28 Hh dX6_listOpen_42 rfl hm (fun x3 hm => ?_)
              refine lv_iload hx hb dX6_listOpen_45 (lv_at hl 0 rfl) ?_
              refine z_cVIr (vs := [qI ((6 * l3) + l2)]) C (fun q hq => ct_X0_beginMark l g h x3 ((6 * l3) + l2) q hq) tw_1030 my_X0_beginMark (fun q hq => tg_X0_beginMark hq) rfl hl.1 Hh ⟨Nat.le_of_ble_eq_true rfl, Nat.le_of_ble_eq_true rfl, Nat.le_of_ble_eq_true rfl, Nat.le_of_ble_eq_true rfl⟩ (Nat.le_of_ble_eq_true rfl) dX6_listOpen_47 rfl hm (fun x4 H locs Hh hm => ?_)
              refine lv_iload_n hx hb dX6_listOpen_50 rfl (lv_at hl 2 rfl) ?_
              refine z_icmp_eq (tgt := 75) C dX6_listOpen_51 (by decide) rfl rfl hm (fun _ hm => ?_) (fun _ hm => ?_)
              · exact K75 h l3 _ _ _ Hh (lv_sub hl [1, 2, 3, 4] rfl) hm
              · refine lv_aload_n hx hb dX6_listOpen_54 rfl (lv_at hl 1 rfl) ?_
                refine z_getR C fl_6_9 Hh dX6_listOpen_55 rfl hm (fun x5 hm => ?_)
                refine lv_aload_n hx hb dX6_listOpen_58 rfl (lv_at hl 1 rfl) ?_
                refine z_getI C fl_6_15 Hh dX6_listOpen_59 rfl hm (fun x6 hm => ?_)
                refine lv_iload hx hb dX6_listOpen_62 (lv_at hl 0 rfl) ?_
                refine z_iast C Hh dX6_listOpen_64 hm (fun h H locs Hh hm => ?_)
                refine lv_aload_n hx hb dX6_listOpen_65 rfl (lv_at hl 1 rfl) ?_
                refine lv_dup hx hb dX6_listOpen_66 rfl ?_
                refine z_getI C fl_6_15 Hh dX6_listOpen_67 rfl hm (fun x7 hm => ?_)
                refine z_iconst C dX6_listOpen_70 ?_
                refine z_iadd C dX6_listOpen_71 ?_
                refine z_putI C hnm pl_6_15 Hh dX6_listOpen_72 rfl hm (fun h H locs Hh hm => ?_)
                exact K75 h l3 _ _ _ Hh (lv_sub hl [1, 2, 3, 4] rfl) hm
      unfold M_X6_listOpen_b7 at hm
      refine lv_iload_n hx hb dX6_listOpen_7 rfl (lv_at hl 2 rfl) ?_
      refine z_bipush C dX6_listOpen_8 rfl ?_
      refine z_icmp_ge (tgt := 87) C dX6_listOpen_10 (by decide) rfl lq_p6 hm (fun _ hm => ?_) (fun _ hm => ?_)
      · cases hm
        exact K87 h _ _ _ Hh (lv_sub hl [] rfl) hc7
      · refine z_iconst C dX6_listOpen_13 ?_
        refine lv_istore_n (lv' := [(3, qI 0), (0, qR g l0), (1, qI l1), (2, qI l2)]) hx hb dX6_listOpen_14 rfl hl (by decide) rfl (fun ls hl => ?_)
        exact KL15 FU h l2 0 _ _ _ Hh (lv_sub hl [1, 2, 3, 0] rfl) hm
  refine lv_aload_n hx hb dX6_listOpen_0 rfl (lv_at hl 0 rfl) ?_
  refine z_iconst C dX6_listOpen_1 ?_
  refine z_putI C hnm pl_6_15 Hh dX6_listOpen_2 rfl hm (fun h H locs Hh hm => ?_)
  refine z_iconst C dX6_listOpen_5 ?_
  refine lv_istore_n (lv' := [(2, qI 0), (0, qR g l0), (1, qI l1)]) hx hb dX6_listOpen_6 rfl hl (by decide) rfl (fun ls hl => ?_)
  exact KL7 FU h l0 l1 0 _ _ _ Hh (lv_sub hl [1, 2, 0] rfl) hm
set_option maxRecDepth 100000 in
set_option maxHeartbeats 4000000 in
theorem ct_X7_overlay (l : Launch) (g : zGeo) (h0 : Hp) (l0 l1 l2 l4 : Int) (r : Hp) (hm : M_X7_overlay h0 l0 l1 l2 l4 = some r) : zM l yX7_overlay cX7_overlay 7 none 0 0 0 0 g h0 [qR g l0, qI l1, qJ l2, qI l4] r none := by
  refine z_meth (by decide) (Nat.le_of_ble_eq_true rfl) ?_
  intro p e s m args below meth c H ls C hr hlocks hnm Hh hl
  have C : zC p m c cX7_overlay 7 s args RX7 g := C
  have hnm : meth.name = "overlay" := hnm
  have hx := C.1.1
  have hb := C.1.2.1
  have hl : lv_has ls 7 [(0, qR g l0), (1, qI l1), (2, qJ l2), (4, qI l4)] := hl
  unfold M_X7_overlay at hm
  generalize h0 = h at Hh hm
  have K56 : ∀ (h : Hp) (H : Heap) (locs : List Loc) (ls : Array Slot), zH g s h H locs → lv_has ls 7 [] → M_X7_overlay_p56 h = some r → W p l e { frames := 0, cells := 0, slots := 0, locals := 0 } s m args below meth c H locs 0 0 (zQ below g r none args s 0 0) (F0 m 56 ls []) := by
    intro h  H locs ls Hh hl hm
    unfold M_X7_overlay_p56 at hm
    exact z_vret C hr hlocks Hh dX7_overlay_56 hm
  have KL3 : ∀ (n : Nat) (h : Hp) (l0 l1 l2 l4 l5 : Int) (H : Heap) (locs : List Loc) (ls : Array Slot), zH g s h H locs → lv_has ls 7 [(0, qR g l0), (1, qI l1), (2, qJ l2), (4, qI l4), (5, qI l5)] → M_X7_overlay_w3 n h l0 l1 l2 l4 l5 = some r → W p l e { frames := 0, cells := 0, slots := 0, locals := 0 } s m args below meth c H locs 0 0 (zQ below g r none args s 0 0) (F0 m 3 ls []) := by
    intro n
    induction n with
    | zero => intro h l0 l1 l2 l4 l5 H locs ls Hh hl hm; cases hm
    | succ n ih3 =>
      intro h l0 l1 l2 l4 l5 H locs ls Hh hl hm
      obtain ⟨z3, hm, hc3⟩ := wh_inv hm
      have hm : M_X7_overlay_b3 h l0 l1 l2 l4 l5 = some z3 := hm
      have K49 : ∀ (h : Hp) (l5 : Int) (s0 s1 s2 : Int) (H : Heap) (locs : List Loc) (ls : Array Slot), zH g s h H locs → lv_has ls 7 [(0, qR g l0), (1, qI l1), (2, qJ l2), (4, qI l4), (5, qI l5)] → M_X7_overlay_p49 h l0 l1 l2 l4 l5 s0 s1 s2 = some z3 → W p l e { frames := 0, cells := 0, slots := 0, locals := 0 } s m args below meth c H locs 0 0 (zQ below g r none args s 0 0) (F0 m 49 ls [qJ s2, qI s1, qR g s0]) := by
        intro h l5 s0 s1 s2 H locs ls Hh hl hm
        unfold M_X7_overlay_p49 at hm
        refine z_last C Hh dX7_overlay_49 hm (fun h H locs Hh hm => ?_)
        refine z_iinc (x := l5) (k := 4) (lv' := [(5, qI (l5 + 1)), (0, qR g l0), (1, qI l1), (2, qJ l2), (4, qI l4)]) C dX7_overlay_50 hl rfl (by decide) rfl (fun ls hl => ?_)
        refine lv_goto (tgt := 3) hx hb dX7_overlay_53 (by decide) ?_
        cases hm
        exact ih3 h l0 l1 l2 l4 (l5 + 1) _ _ _ Hh (lv_sub hl [1, 2, 3, 4, 0] rfl) hc3
      unfold M_X7_overlay_b3 at hm
      refine lv_iload hx hb dX7_overlay_3 (lv_at hl 4 rfl) ?_
      refine z_iconst C dX7_overlay_5 ?_
      refine z_icmp_ge (tgt := 56) C dX7_overlay_6 (by decide) rfl lq_p3 hm (fun _ hm => ?_) (fun _ hm => ?_)
      · cases hm
        exact K56 h _ _ _ Hh (lv_sub hl [] rfl) hc3
      · refine z_iconst C dX7_overlay_9 ?_
        refine lv_iload_n hx hb dX7_overlay_10 rfl (lv_at hl 1 rfl) ?_
        refine z_imul C dX7_overlay_11 ?_
        refine lv_iload hx hb dX7_overlay_12 (lv_at hl 4 rfl) ?_
        refine z_iadd C dX7_overlay_14 ?_
        refine lv_istore (lv' := [(6, qI ((3 * l1) + l5)), (0, qR g l0), (1, qI l1), (2, qJ l2), (4, qI l4), (5, qI l5)]) hx hb dX7_overlay_15 hl (by decide) rfl (fun ls hl => ?_)
        refine lv_aload_n hx hb dX7_overlay_17 rfl (lv_at hl 1 rfl) ?_
        refine lv_iload hx hb dX7_overlay_18 (lv_at hl 0 rfl) ?_
        refine lv_iload hx hb dX7_overlay_20 (lv_at hl 4 rfl) ?_
        refine lv_iload hx hb dX7_overlay_22 (lv_at hl 5 rfl) ?_
        refine z_ishr C dX7_overlay_24 ?_
        refine z_iconst C dX7_overlay_25 ?_
        refine z_iand C dX7_overlay_26 ?_
        refine z_if_eq (tgt := 39) C dX7_overlay_27 (by decide) rfl hm (fun _ hm => ?_) (fun _ hm => ?_)
        · refine lv_aload_n hx hb dX7_overlay_39 rfl (lv_at hl 1 rfl) ?_
          refine lv_iload hx hb dX7_overlay_40 (lv_at hl 0 rfl) ?_
          refine z_lald C Hh dX7_overlay_42 hm (fun x1 hm => ?_)
          refine lv_lload_n hx hb dX7_overlay_43 rfl (lv_at hl 3 rfl) ?_
          refine z_ldc2 (v := (-1)) C dX7_overlay_44 tw_1042 rfl ?_
          refine z_lxor C dX7_overlay_47 ?_
          refine z_land C dX7_overlay_48 ?_
          exact K49 h l5 l0 ((3 * l1) + l5) (land x1 (lxor l2 (-1))) _ _ _ Hh (lv_sub hl [1, 2, 3, 4, 5] rfl) hm
        · refine lv_aload_n hx hb dX7_overlay_30 rfl (lv_at hl 1 rfl) ?_
          refine lv_iload hx hb dX7_overlay_31 (lv_at hl 0 rfl) ?_
          refine z_lald C Hh dX7_overlay_33 hm (fun x2 hm => ?_)
          refine lv_lload_n hx hb dX7_overlay_34 rfl (lv_at hl 3 rfl) ?_
          refine z_lor C dX7_overlay_35 ?_
          refine lv_goto (tgt := 49) hx hb dX7_overlay_36 (by decide) ?_
          exact K49 h l5 l0 ((3 * l1) + l5) (lor x2 l2) _ _ _ Hh (lv_sub hl [1, 2, 3, 4, 5] rfl) hm
  refine z_iconst C dX7_overlay_0 ?_
  refine lv_istore (lv' := [(5, qI 0), (0, qR g l0), (1, qI l1), (2, qJ l2), (4, qI l4)]) hx hb dX7_overlay_1 hl (by decide) rfl (fun ls hl => ?_)
  exact KL3 FU h l0 l1 l2 l4 0 _ _ _ Hh (lv_sub hl [1, 2, 3, 4, 0] rfl) hm
theorem tg_X7_begin {h : Hp} {l0 : Int} {r : Hp} (hm : M_X7_begin h l0 = some r) : hT h l0 = 17 := (tk_inv hm).1
set_option maxRecDepth 100000 in
set_option maxHeartbeats 4000000 in
theorem ct_X7_begin (l : Launch) (g : zGeo) (h0 : Hp) (l0 : Int) (r : Hp) (hm : M_X7_begin h0 l0 = some r) : zM l yX7_begin cX7_begin 3 none 1 26 0 0 g h0 [qR g l0] r none := by
  refine z_meth (by decide) (Nat.le_of_ble_eq_true rfl) ?_
  intro p e s m args below meth c H ls C hr hlocks hnm Hh hl
  have C : zC p m c cX7_begin 3 s args RX7 g := C
  have hnm : meth.name = "begin" := hnm
  have hx := C.1.1
  have hb := C.1.2.1
  have hl : lv_has ls 3 [(0, qR g l0)] := hl
  unfold M_X7_begin at hm
  replace hm := (tk_inv hm).2
  generalize h0 = h at Hh hm
  have K67 : ∀ (h : Hp) (H : Heap) (locs : List Loc) (ls : Array Slot), zH g s h H locs → lv_has ls 3 [] → M_X7_begin_p67 h = some r → W p l e { frames := 1, cells := 0, slots := 0, locals := 26 } s m args below meth c H locs 0 0 (zQ below g r none args s 0 0) (F0 m 67 ls []) := by
    intro h  H locs ls Hh hl hm
    unfold M_X7_begin_p67 at hm
    exact z_vret C hr hlocks Hh dX7_begin_67 hm
  have KL2 : ∀ (n : Nat) (h : Hp) (l0 l1 : Int) (H : Heap) (locs : List Loc) (ls : Array Slot), zH g s h H locs → lv_has ls 3 [(0, qR g l0), (1, qI l1)] → M_X7_begin_w2 n h l0 l1 = some r → W p l e { frames := 1, cells := 0, slots := 0, locals := 26 } s m args below meth c H locs 0 0 (zQ below g r none args s 0 0) (F0 m 2 ls []) := by
    intro n
    induction n with
    | zero => intro h l0 l1 H locs ls Hh hl hm; cases hm
    | succ n ih2 =>
      intro h l0 l1 H locs ls Hh hl hm
      obtain ⟨z2, hm, hc2⟩ := wh_inv hm
      have hm : M_X7_begin_b2 h l0 l1 = some z2 := hm
      unfold M_X7_begin_b2 at hm
      refine lv_iload_n hx hb dX7_begin_2 rfl (lv_at hl 1 rfl) ?_
      refine lv_aload_n hx hb dX7_begin_3 rfl (lv_at hl 0 rfl) ?_
      refine z_getR C fl_7_21 Hh dX7_begin_4 rfl hm (fun x1 hm => ?_)
      refine z_getR C fl_7_25 Hh dX7_begin_7 rfl hm (fun x2 hm => ?_)
      refine lv_aload_n hx hb dX7_begin_10 rfl (lv_at hl 0 rfl) ?_
      refine z_getR C fl_7_21 Hh dX7_begin_11 rfl hm (fun x3 hm => ?_)
      refine z_getI C fl_7_31 Hh dX7_begin_14 rfl hm (fun x4 hm => ?_)
      refine z_iald C Hh dX7_begin_17 hm (fun x5 hm => ?_)
      refine z_icmp_ge (tgt := 67) C dX7_begin_18 (by decide) rfl rfl hm (fun _ hm => ?_) (fun _ hm => ?_)
      · cases hm
        exact K67 h _ _ _ Hh (lv_sub hl [] rfl) hc2
      · refine lv_aload_n hx hb dX7_begin_21 rfl (lv_at hl 0 rfl) ?_
        refine z_getR C fl_7_21 Hh dX7_begin_22 rfl hm (fun x6 hm => ?_)
        refine z_getR C fl_7_35 Hh dX7_begin_25 rfl hm (fun x7 hm => ?_)
        refine z_bipush C dX7_begin_28 rfl ?_
        refine lv_aload_n hx hb dX7_begin_30 rfl (lv_at hl 0 rfl) ?_
        refine z_getR C fl_7_21 Hh dX7_begin_31 rfl hm (fun x8 hm => ?_)
        refine z_getI C fl_7_31 Hh dX7_begin_34 rfl hm (fun x9 hm => ?_)
        refine z_imul C dX7_begin_37 ?_
        refine lv_iload_n hx hb dX7_begin_38 rfl (lv_at hl 1 rfl) ?_
        refine z_iadd C dX7_begin_39 ?_
        refine z_iald C Hh dX7_begin_40 hm (fun x10 hm => ?_)
        refine lv_istore_n (lv' := [(2, qI x10), (0, qR g l0), (1, qI l1)]) hx hb dX7_begin_41 rfl hl (by decide) rfl (fun ls hl => ?_)
        refine lv_aload_n hx hb dX7_begin_42 rfl (lv_at hl 1 rfl) ?_
        refine z_getR C fl_7_11 Hh dX7_begin_43 rfl hm (fun x11 hm => ?_)
        refine lv_iload_n hx hb dX7_begin_46 rfl (lv_at hl 0 rfl) ?_
        refine z_ldc2 (v := (-1)) C dX7_begin_47 tw_1042 rfl ?_
        refine lv_aload_n hx hb dX7_begin_50 rfl (lv_at hl 1 rfl) ?_
        refine z_getR C fl_7_21 Hh dX7_begin_51 rfl hm (fun x12 hm => ?_)
        refine lv_iload_n hx hb dX7_begin_54 rfl (lv_at hl 0 rfl) ?_
        refine z_cVIr (vs := [qI x10]) C (fun q hq => ct_X0_beginMark l g h x12 x10 q hq) tw_1043 my_X0_beginMark (fun q hq => tg_X0_beginMark hq) rfl hl.1 Hh ⟨Nat.le_of_ble_eq_true rfl, Nat.le_of_ble_eq_true rfl, Nat.le_of_ble_eq_true rfl, Nat.le_of_ble_eq_true rfl⟩ (Nat.le_of_ble_eq_true rfl) dX7_begin_55 rfl hm (fun x13 H locs Hh hm => ?_)
        refine z_cSv (vs := [qR g x11, qI x10, qJ (-1), qI x13]) C (fun q hq => ct_X7_overlay l g h x11 x10 (-1) x13 q hq) tw_1044 my_X7_overlay rfl hl.1 Hh ⟨Nat.le_of_ble_eq_true rfl, Nat.le_of_ble_eq_true rfl, Nat.le_of_ble_eq_true rfl, Nat.le_of_ble_eq_true rfl⟩ (Nat.le_of_ble_eq_true rfl) dX7_begin_58 rfl hm (fun h H locs Hh hm => ?_)
        refine z_iinc (x := l1) (k := 2) (lv' := [(1, qI (l1 + 1)), (2, qI x10), (0, qR g l0)]) C dX7_begin_61 hl rfl (by decide) rfl (fun ls hl => ?_)
        refine lv_goto (tgt := 2) hx hb dX7_begin_64 (by decide) ?_
        cases hm
        exact ih2 h l0 (l1 + 1) _ _ _ Hh (lv_sub hl [2, 0] rfl) hc2
  refine z_iconst C dX7_begin_0 ?_
  refine lv_istore_n (lv' := [(1, qI 0), (0, qR g l0)]) hx hb dX7_begin_1 rfl hl (by decide) rfl (fun ls hl => ?_)
  exact KL2 FU h l0 0 _ _ _ Hh (lv_sub hl [1, 0] rfl) hm
theorem tg_X7_put {h : Hp} {l0 l1 l2 l3 : Int} {r : Hp} (hm : M_X7_put h l0 l1 l2 l3 = some r) : hT h l0 = 17 := (tk_inv hm).1
set_option maxRecDepth 100000 in
set_option maxHeartbeats 4000000 in
theorem ct_X7_put (l : Launch) (g : zGeo) (h0 : Hp) (l0 l1 l2 l3 : Int) (r : Hp) (hm : M_X7_put h0 l0 l1 l2 l3 = some r) : zM l yX7_put cX7_put 4 none 1 26 0 0 g h0 [qR g l0, qI l1, qI l2, qI l3] r none := by
  refine z_meth (by decide) (Nat.le_of_ble_eq_true rfl) ?_
  intro p e s m args below meth c H ls C hr hlocks hnm Hh hl
  have C : zC p m c cX7_put 4 s args RX7 g := C
  have hnm : meth.name = "put" := hnm
  have hx := C.1.1
  have hb := C.1.2.1
  have hl : lv_has ls 4 [(0, qR g l0), (1, qI l1), (2, qI l2), (3, qI l3)] := hl
  unfold M_X7_put at hm
  replace hm := (tk_inv hm).2
  generalize h0 = h at Hh hm
  refine lv_aload_n hx hb dX7_put_0 rfl (lv_at hl 0 rfl) ?_
  refine z_getR C fl_7_11 Hh dX7_put_1 rfl hm (fun x1 hm => ?_)
  refine lv_iload_n hx hb dX7_put_4 rfl (lv_at hl 2 rfl) ?_
  refine z_lconst (v := 1) C dX7_put_5 rfl ?_
  refine lv_iload_n hx hb dX7_put_6 rfl (lv_at hl 1 rfl) ?_
  refine z_lshl C dX7_put_7 ?_
  refine lv_iload_n hx hb dX7_put_8 rfl (lv_at hl 3 rfl) ?_
  refine z_cSv (vs := [qR g x1, qI l2, qJ (lshl 1 l1), qI l3]) C (fun q hq => ct_X7_overlay l g h x1 l2 (lshl 1 l1) l3 q hq) tw_1044 my_X7_overlay rfl hl.1 Hh ⟨Nat.le_of_ble_eq_true rfl, Nat.le_of_ble_eq_true rfl, Nat.le_of_ble_eq_true rfl, Nat.le_of_ble_eq_true rfl⟩ (Nat.le_of_ble_eq_true rfl) dX7_put_9 rfl hm (fun h H locs Hh hm => ?_)
  exact z_vret C hr hlocks Hh dX7_put_12 hm
theorem tg_X6_tryPick {h : Hp} {l0 l1 l2 l3 : Int} {r : Hp} (hm : M_X6_tryPick h l0 l1 l2 l3 = some r) : hT h l0 = 16 := (tk_inv hm).1
set_option maxRecDepth 100000 in
set_option maxHeartbeats 4000000 in
theorem ct_X6_tryPick (l : Launch) (g : zGeo) (h0 : Hp) (l0 l1 l2 l3 : Int) (r : Hp) (hm : M_X6_tryPick h0 l0 l1 l2 l3 = some r) : zM l yX6_tryPick cX6_tryPick 6 none 2 49 0 0 g h0 [qR g l0, qI l1, qI l2, qI l3] r none := by
  refine z_meth (by decide) (Nat.le_of_ble_eq_true rfl) ?_
  intro p e s m args below meth c H ls C hr hlocks hnm Hh hl
  have C : zC p m c cX6_tryPick 6 s args RX6 g := C
  have hnm : meth.name = "tryPick" := hnm
  have hx := C.1.1
  have hb := C.1.2.1
  have hl : lv_has ls 6 [(0, qR g l0), (1, qI l1), (2, qI l2), (3, qI l3)] := hl
  unfold M_X6_tryPick at hm
  replace hm := (tk_inv hm).2
  generalize h0 = h at Hh hm
  have K53 : ∀ (h : Hp) (H : Heap) (locs : List Loc) (ls : Array Slot), zH g s h H locs → lv_has ls 6 [] → M_X6_tryPick_p53 h = some r → W p l e { frames := 2, cells := 0, slots := 0, locals := 49 } s m args below meth c H locs 0 0 (zQ below g r none args s 0 0) (F0 m 53 ls []) := by
    intro h  H locs ls Hh hl hm
    unfold M_X6_tryPick_p53 at hm
    exact z_vret C hr hlocks Hh dX6_tryPick_53 hm
  have KL3 : ∀ (n : Nat) (h : Hp) (l0 l1 l2 l3 l4 : Int) (H : Heap) (locs : List Loc) (ls : Array Slot), zH g s h H locs → lv_has ls 6 [(0, qR g l0), (1, qI l1), (2, qI l2), (3, qI l3), (4, qI l4)] → M_X6_tryPick_w3 n h l0 l1 l2 l3 l4 = some r → W p l e { frames := 2, cells := 0, slots := 0, locals := 49 } s m args below meth c H locs 0 0 (zQ below g r none args s 0 0) (F0 m 3 ls []) := by
    intro n
    induction n with
    | zero => intro h l0 l1 l2 l3 l4 H locs ls Hh hl hm; cases hm
    | succ n ih3 =>
      intro h l0 l1 l2 l3 l4 H locs ls Hh hl hm
      obtain ⟨z3, hm, hc3⟩ := wh_inv hm
      have hm : M_X6_tryPick_b3 h l0 l1 l2 l3 l4 = some z3 := hm
      unfold M_X6_tryPick_b3 at hm
      refine lv_iload hx hb dX6_tryPick_3 (lv_at hl 4 rfl) ?_
      refine lv_iload_n hx hb dX6_tryPick_5 rfl (lv_at hl 2 rfl) ?_
      refine z_icmp_ge (tgt := 53) C dX6_tryPick_6 (by decide) rfl rfl hm (fun _ hm => ?_) (fun _ hm => ?_)
      · cases hm
        exact K53 h _ _ _ Hh (lv_sub hl [] rfl) hc3
      · refine lv_aload_n hx hb dX6_tryPick_9 rfl (lv_at hl 0 rfl) ?_
        refine z_getR C fl_6_9 Hh dX6_tryPick_10 rfl hm (fun x1 hm => ?_)
        refine lv_aload_n hx hb dX6_tryPick_13 rfl (lv_at hl 0 rfl) ?_
        refine z_getR C fl_6_22 Hh dX6_tryPick_14 rfl hm (fun x2 hm => ?_)
        refine lv_iload hx hb dX6_tryPick_17 (lv_at hl 4 rfl) ?_
        refine z_iald C Hh dX6_tryPick_19 hm (fun x3 hm => ?_)
        refine z_iald C Hh dX6_tryPick_20 hm (fun x4 hm => ?_)
        refine lv_istore (lv' := [(5, qI x4), (0, qR g l0), (1, qI l1), (2, qI l2), (3, qI l3), (4, qI l4)]) hx hb dX6_tryPick_21 hl (by decide) rfl (fun ls hl => ?_)
        refine lv_aload_n hx hb dX6_tryPick_23 rfl (lv_at hl 1 rfl) ?_
        refine z_getR C fl_6_37 Hh dX6_tryPick_24 rfl hm (fun x5 hm => ?_)
        refine lv_iload_n hx hb dX6_tryPick_27 rfl (lv_at hl 2 rfl) ?_
        refine lv_iload hx hb dX6_tryPick_28 (lv_at hl 0 rfl) ?_
        refine lv_iload_n hx hb dX6_tryPick_30 rfl (lv_at hl 4 rfl) ?_
        refine z_cVv (vs := [qI l1, qI x4, qI l3]) C (fun q hq => ct_X7_put l g h x5 l1 x4 l3 q hq) tw_1051 my_X7_put (fun q hq => tg_X7_put hq) rfl hl.1 Hh ⟨Nat.le_of_ble_eq_true rfl, Nat.le_of_ble_eq_true rfl, Nat.le_of_ble_eq_true rfl, Nat.le_of_ble_eq_true rfl⟩ (Nat.le_of_ble_eq_true rfl) dX6_tryPick_31 rfl hm (fun h H locs Hh hm => ?_)
        refine lv_aload_n hx hb dX6_tryPick_34 rfl (lv_at hl 1 rfl) ?_
        refine z_getR C fl_6_25 Hh dX6_tryPick_35 rfl hm (fun x6 hm => ?_)
        refine z_iconst C dX6_tryPick_38 ?_
        refine lv_iload_n hx hb dX6_tryPick_39 rfl (lv_at hl 2 rfl) ?_
        refine z_imul C dX6_tryPick_40 ?_
        refine lv_iload hx hb dX6_tryPick_41 (lv_at hl 5 rfl) ?_
        refine z_iadd C dX6_tryPick_43 ?_
        refine lv_iload hx hb dX6_tryPick_44 (lv_at hl 0 rfl) ?_
        refine z_iast C Hh dX6_tryPick_46 hm (fun h H locs Hh hm => ?_)
        refine z_iinc (x := l4) (k := 5) (lv' := [(4, qI (l4 + 1)), (5, qI x4), (0, qR g l0), (1, qI l1), (2, qI l2), (3, qI l3)]) C dX6_tryPick_47 hl rfl (by decide) rfl (fun ls hl => ?_)
        refine lv_goto (tgt := 3) hx hb dX6_tryPick_50 (by decide) ?_
        cases hm
        exact ih3 h l0 l1 l2 l3 (l4 + 1) _ _ _ Hh (lv_sub hl [2, 3, 4, 5, 0] rfl) hc3
  refine z_iconst C dX6_tryPick_0 ?_
  refine lv_istore (lv' := [(4, qI 0), (0, qR g l0), (1, qI l1), (2, qI l2), (3, qI l3)]) hx hb dX6_tryPick_1 hl (by decide) rfl (fun ls hl => ?_)
  exact KL3 FU h l0 l1 l2 l3 0 _ _ _ Hh (lv_sub hl [1, 2, 3, 4, 0] rfl) hm
theorem tg_X6_goToNextPick {h : Hp} {l0 l1 : Int} {r : Hp × Int} (hm : M_X6_goToNextPick h l0 l1 = some r) : hT h l0 = 16 := (tk_inv hm).1
set_option maxRecDepth 100000 in
set_option maxHeartbeats 4000000 in
theorem ct_X6_goToNextPick (l : Launch) (g : zGeo) (h0 : Hp) (l0 l1 : Int) (r : Hp × Int) (hm : M_X6_goToNextPick h0 l0 l1 = some r) : zM l yX6_goToNextPick cX6_goToNextPick 4 (some .boolean) 0 0 0 0 g h0 [qR g l0, qI l1] r.1 (some (qI r.2)) := by
  refine z_meth (by decide) (Nat.le_of_ble_eq_true rfl) ?_
  intro p e s m args below meth c H ls C hr hlocks hnm Hh hl
  have C : zC p m c cX6_goToNextPick 4 s args RX6 g := C
  have hnm : meth.name = "goToNextPick" := hnm
  have hx := C.1.1
  have hb := C.1.2.1
  have hl : lv_has ls 4 [(0, qR g l0), (1, qI l1)] := hl
  unfold M_X6_goToNextPick at hm
  replace hm := (tk_inv hm).2
  generalize h0 = h at Hh hm
  have K74 : ∀ (h : Hp) (H : Heap) (locs : List Loc) (ls : Array Slot), zH g s h H locs → lv_has ls 4 [] → M_X6_goToNextPick_p74 h = some r → W p l e { frames := 0, cells := 0, slots := 0, locals := 0 } s m args below meth c H locs 0 0 (zQ below g r.1 (some (qI r.2)) args s 0 0) (F0 m 74 ls []) := by
    intro h  H locs ls Hh hl hm
    unfold M_X6_goToNextPick_p74 at hm
    refine z_iconst C dX6_goToNextPick_74 ?_
    exact z_zretC C hr hlocks Hh dX6_goToNextPick_75 (by decide) hm
  have KL4 : ∀ (n : Nat) (h : Hp) (l0 l1 l2 : Int) (H : Heap) (locs : List Loc) (ls : Array Slot), zH g s h H locs → lv_has ls 4 [(0, qR g l0), (1, qI l1), (2, qI l2)] → M_X6_goToNextPick_w4 n h l0 l1 l2 = some r → W p l e { frames := 0, cells := 0, slots := 0, locals := 0 } s m args below meth c H locs 0 0 (zQ below g r.1 (some (qI r.2)) args s 0 0) (F0 m 4 ls []) := by
    intro n
    induction n with
    | zero => intro h l0 l1 l2 H locs ls Hh hl hm; cases hm
    | succ n ih4 =>
      intro h l0 l1 l2 H locs ls Hh hl hm
      obtain ⟨z4, hm, hc4⟩ := wh_inv hm
      have hm : M_X6_goToNextPick_b4 h l0 l1 l2 = some z4 := hm
      have K66 : ∀ (h : Hp) (H : Heap) (locs : List Loc) (ls : Array Slot), zH g s h H locs → lv_has ls 4 [] → M_X6_goToNextPick_p66 h = some z4 → W p l e { frames := 0, cells := 0, slots := 0, locals := 0 } s m args below meth c H locs 0 0 (zQ below g r.1 (some (qI r.2)) args s 0 0) (F0 m 66 ls []) := by
        intro h  H locs ls Hh hl hm
        unfold M_X6_goToNextPick_p66 at hm
        refine z_iconst C dX6_goToNextPick_66 ?_
        cases hm
        have hm := hc4
        exact z_zretC C hr hlocks Hh dX6_goToNextPick_67 (by decide) hm
      have KL39 : ∀ (n : Nat) (h : Hp) (l3 : Int) (H : Heap) (locs : List Loc) (ls : Array Slot), zH g s h H locs → lv_has ls 4 [(0, qR g l0), (1, qI l1), (3, qI l3)] → M_X6_goToNextPick_w39 n h l0 l1 l3 = some z4 → W p l e { frames := 0, cells := 0, slots := 0, locals := 0 } s m args below meth c H locs 0 0 (zQ below g r.1 (some (qI r.2)) args s 0 0) (F0 m 39 ls []) := by
        intro n
        induction n with
        | zero => intro h l3 H locs ls Hh hl hm; cases hm
        | succ n ih39 =>
          intro h l3 H locs ls Hh hl hm
          obtain ⟨z39, hm, hc39⟩ := wh_inv hm
          have hm : M_X6_goToNextPick_b39 h l0 l1 l3 = some z39 := hm
          unfold M_X6_goToNextPick_b39 at hm
          refine lv_iload_n hx hb dX6_goToNextPick_39 rfl (lv_at hl 2 rfl) ?_
          refine lv_iload_n hx hb dX6_goToNextPick_40 rfl (lv_at hl 1 rfl) ?_
          refine z_icmp_ge (tgt := 66) C dX6_goToNextPick_41 (by decide) rfl rfl hm (fun _ hm => ?_) (fun _ hm => ?_)
          · cases hm
            exact K66 h _ _ _ Hh (lv_sub hl [] rfl) hc39
          · refine lv_aload_n hx hb dX6_goToNextPick_44 rfl (lv_at hl 0 rfl) ?_
            refine z_getR C fl_6_22 Hh dX6_goToNextPick_45 rfl hm (fun x1 hm => ?_)
            refine lv_iload_n hx hb dX6_goToNextPick_48 rfl (lv_at hl 2 rfl) ?_
            refine lv_aload_n hx hb dX6_goToNextPick_49 rfl (lv_at hl 0 rfl) ?_
            refine z_getR C fl_6_22 Hh dX6_goToNextPick_50 rfl hm (fun x2 hm => ?_)
            refine lv_iload_n hx hb dX6_goToNextPick_53 rfl (lv_at hl 2 rfl) ?_
            refine z_iconst C dX6_goToNextPick_54 ?_
            refine z_isub C dX6_goToNextPick_55 ?_
            refine z_iald C Hh dX6_goToNextPick_56 hm (fun x3 hm => ?_)
            refine z_iconst C dX6_goToNextPick_57 ?_
            refine z_iadd C dX6_goToNextPick_58 ?_
            refine z_iast C Hh dX6_goToNextPick_59 hm (fun h H locs Hh hm => ?_)
            refine z_iinc (x := l3) (k := 2) (lv' := [(3, qI (l3 + 1)), (0, qR g l0), (1, qI l1)]) C dX6_goToNextPick_60 hl rfl (by decide) rfl (fun ls hl => ?_)
            refine lv_goto (tgt := 39) hx hb dX6_goToNextPick_63 (by decide) ?_
            cases hm
            exact ih39 h (l3 + 1) _ _ _ Hh (lv_sub hl [1, 2, 0] rfl) hc39
      unfold M_X6_goToNextPick_b4 at hm
      refine lv_iload_n hx hb dX6_goToNextPick_4 rfl (lv_at hl 2 rfl) ?_
      refine z_if_lt (tgt := 74) C dX6_goToNextPick_5 (by decide) rfl hm (fun _ hm => ?_) (fun _ hm => ?_)
      · cases hm
        exact K74 h _ _ _ Hh (lv_sub hl [] rfl) hc4
      · refine lv_aload_n hx hb dX6_goToNextPick_8 rfl (lv_at hl 0 rfl) ?_
        refine z_getR C fl_6_22 Hh dX6_goToNextPick_9 rfl hm (fun x4 hm => ?_)
        refine lv_iload_n hx hb dX6_goToNextPick_12 rfl (lv_at hl 2 rfl) ?_
        refine z_iald C Hh dX6_goToNextPick_13 hm (fun x5 hm => ?_)
        refine lv_aload_n hx hb dX6_goToNextPick_14 rfl (lv_at hl 0 rfl) ?_
        refine z_getI C fl_6_15 Hh dX6_goToNextPick_15 rfl hm (fun x6 hm => ?_)
        refine lv_iload_n hx hb dX6_goToNextPick_18 rfl (lv_at hl 1 rfl) ?_
        refine z_isub C dX6_goToNextPick_19 ?_
        refine lv_iload_n hx hb dX6_goToNextPick_20 rfl (lv_at hl 2 rfl) ?_
        refine z_iadd C dX6_goToNextPick_21 ?_
        refine z_icmp_ge (tgt := 68) C dX6_goToNextPick_22 (by decide) rfl rfl hm (fun _ hm => ?_) (fun _ hm => ?_)
        · refine z_iinc (x := l2) (k := 2) (lv' := [(2, qI (l2 + (-1))), (0, qR g l0), (1, qI l1)]) C dX6_goToNextPick_68 hl rfl (by decide) rfl (fun ls hl => ?_)
          refine lv_goto (tgt := 4) hx hb dX6_goToNextPick_71 (by decide) ?_
          cases hm
          exact ih4 h l0 l1 (l2 + (-1)) _ _ _ Hh (lv_sub hl [1, 2, 0] rfl) hc4
        · refine lv_aload_n hx hb dX6_goToNextPick_25 rfl (lv_at hl 0 rfl) ?_
          refine z_getR C fl_6_22 Hh dX6_goToNextPick_26 rfl hm (fun x7 hm => ?_)
          refine lv_iload_n hx hb dX6_goToNextPick_29 rfl (lv_at hl 2 rfl) ?_
          refine lv_dup2_11 hx hb dX6_goToNextPick_30 rfl rfl ?_
          refine z_iald C Hh dX6_goToNextPick_31 hm (fun x8 hm => ?_)
          refine z_iconst C dX6_goToNextPick_32 ?_
          refine z_iadd C dX6_goToNextPick_33 ?_
          refine z_iast C Hh dX6_goToNextPick_34 hm (fun h H locs Hh hm => ?_)
          refine lv_iload_n hx hb dX6_goToNextPick_35 rfl (lv_at hl 2 rfl) ?_
          refine z_iconst C dX6_goToNextPick_36 ?_
          refine z_iadd C dX6_goToNextPick_37 ?_
          refine lv_istore_n (lv' := [(3, qI (l2 + 1)), (0, qR g l0), (1, qI l1), (2, qI l2)]) hx hb dX6_goToNextPick_38 rfl hl (by decide) rfl (fun ls hl => ?_)
          exact KL39 FU h (l2 + 1) _ _ _ Hh (lv_sub hl [1, 2, 0] rfl) hm
  refine lv_iload_n hx hb dX6_goToNextPick_0 rfl (lv_at hl 1 rfl) ?_
  refine z_iconst C dX6_goToNextPick_1 ?_
  refine z_isub C dX6_goToNextPick_2 ?_
  refine lv_istore_n (lv' := [(2, qI (l1 - 1)), (0, qR g l0), (1, qI l1)]) hx hb dX6_goToNextPick_3 rfl hl (by decide) rfl (fun ls hl => ?_)
  exact KL4 FU h l0 l1 (l1 - 1) _ _ _ Hh (lv_sub hl [1, 2, 0] rfl) hm
theorem tg_X7_with {h : Hp} {l0 l1 l2 : Int} {r : Int} (hm : M_X7_with h l0 l1 l2 = some r) : hT h l0 = 17 := (tk_inv hm).1
set_option maxRecDepth 100000 in
set_option maxHeartbeats 4000000 in
theorem ct_X7_with (l : Launch) (g : zGeo) (h : Hp) (l0 l1 l2 : Int) (r : Int) (hm : M_X7_with h l0 l1 l2 = some r) : zM l yX7_with cX7_with 8 (some .long) 0 0 0 0 g h [qR g l0, qI l1, qI l2] h (some (qJ r)) := by
  refine z_meth (by decide) (Nat.le_of_ble_eq_true rfl) ?_
  intro p e s m args below meth c H ls C hr hlocks hnm Hh hl
  have C : zC p m c cX7_with 8 s args RX7 g := C
  have hnm : meth.name = "with" := hnm
  have hx := C.1.1
  have hb := C.1.2.1
  have hl : lv_has ls 8 [(0, qR g l0), (1, qI l1), (2, qI l2)] := hl
  unfold M_X7_with at hm
  replace hm := (tk_inv hm).2
  have K55 : ∀  (l3 : Int) (H : Heap) (locs : List Loc) (ls : Array Slot), zH g s h H locs → lv_has ls 8 [(3, qJ l3)] → M_X7_with_p55 h l3 = some r → W p l e { frames := 0, cells := 0, slots := 0, locals := 0 } s m args below meth c H locs 0 0 (zQ below g h (some (qJ r)) args s 0 0) (F0 m 55 ls []) := by
    intro l3  H locs ls Hh hl hm
    unfold M_X7_with_p55 at hm
    refine lv_lload_n hx hb dX7_with_55 rfl (lv_at hl 0 rfl) ?_
    exact z_lretR C hr hlocks Hh dX7_with_56 hm
  have KL7 : ∀ (n : Nat)  (l0 l1 l2 l3 l5 : Int) (H : Heap) (locs : List Loc) (ls : Array Slot), zH g s h H locs → lv_has ls 8 [(0, qR g l0), (1, qI l1), (2, qI l2), (3, qJ l3), (5, qI l5)] → M_X7_with_w7 n h l0 l1 l2 l3 l5 = some r → W p l e { frames := 0, cells := 0, slots := 0, locals := 0 } s m args below meth c H locs 0 0 (zQ below g h (some (qJ r)) args s 0 0) (F0 m 7 ls []) := by
    intro n
    induction n with
    | zero => intro l0 l1 l2 l3 l5 H locs ls Hh hl hm; cases hm
    | succ n ih7 =>
      intro l0 l1 l2 l3 l5 H locs ls Hh hl hm
      obtain ⟨z7, hm, hc7⟩ := wh_inv hm
      have hm : M_X7_with_b7 h l0 l1 l2 l3 l5 = some z7 := hm
      have K47 : ∀  (l5 : Int) (s0 s1 : Int) (H : Heap) (locs : List Loc) (ls : Array Slot), zH g s h H locs → lv_has ls 8 [(0, qR g l0), (1, qI l1), (2, qI l2), (5, qI l5)] → M_X7_with_p47 h l0 l1 l2 l5 s0 s1 = some z7 → W p l e { frames := 0, cells := 0, slots := 0, locals := 0 } s m args below meth c H locs 0 0 (zQ below g h (some (qJ r)) args s 0 0) (F0 m 47 ls [qJ s1, qJ s0]) := by
        intro l5 s0 s1 H locs ls Hh hl hm
        unfold M_X7_with_p47 at hm
        refine z_land C dX7_with_47 ?_
        refine lv_lstore_n (lv' := [(3, qJ (land s0 s1)), (0, qR g l0), (1, qI l1), (2, qI l2), (5, qI l5)]) hx hb dX7_with_48 rfl hl (by decide) rfl (fun ls hl => ?_)
        refine z_iinc (x := l5) (k := 4) (lv' := [(5, qI (l5 + 1)), (3, qJ (land s0 s1)), (0, qR g l0), (1, qI l1), (2, qI l2)]) C dX7_with_49 hl rfl (by decide) rfl (fun ls hl => ?_)
        refine lv_goto (tgt := 7) hx hb dX7_with_52 (by decide) ?_
        cases hm
        exact ih7 l0 l1 l2 (land s0 s1) (l5 + 1) _ _ _ Hh (lv_sub hl [2, 3, 4, 1, 0] rfl) hc7
      unfold M_X7_with_b7 at hm
      refine lv_iload hx hb dX7_with_7 (lv_at hl 4 rfl) ?_
      refine z_iconst C dX7_with_9 ?_
      refine z_icmp_ge (tgt := 55) C dX7_with_10 (by decide) rfl lq_p3 hm (fun _ hm => ?_) (fun _ hm => ?_)
      · cases hm
        exact K55 l3 _ _ _ Hh (lv_sub hl [3] rfl) hc7
      · refine lv_aload_n hx hb dX7_with_13 rfl (lv_at hl 0 rfl) ?_
        refine z_getR C fl_7_11 Hh dX7_with_14 rfl hm (fun x1 hm => ?_)
        refine z_iconst C dX7_with_17 ?_
        refine lv_iload_n hx hb dX7_with_18 rfl (lv_at hl 1 rfl) ?_
        refine z_imul C dX7_with_19 ?_
        refine lv_iload hx hb dX7_with_20 (lv_at hl 4 rfl) ?_
        refine z_iadd C dX7_with_22 ?_
        refine z_lald C Hh dX7_with_23 hm (fun x2 hm => ?_)
        refine lv_lstore (lv' := [(6, qJ x2), (0, qR g l0), (1, qI l1), (2, qI l2), (3, qJ l3), (5, qI l5)]) hx hb dX7_with_24 hl (by decide) rfl (fun ls hl => ?_)
        refine lv_lload_n hx hb dX7_with_26 rfl (lv_at hl 4 rfl) ?_
        refine lv_iload_n hx hb dX7_with_27 rfl (lv_at hl 3 rfl) ?_
        refine lv_iload hx hb dX7_with_28 (lv_at hl 5 rfl) ?_
        refine z_ishr C dX7_with_30 ?_
        refine z_iconst C dX7_with_31 ?_
        refine z_iand C dX7_with_32 ?_
        refine z_if_eq (tgt := 41) C dX7_with_33 (by decide) rfl hm (fun _ hm => ?_) (fun _ hm => ?_)
        · refine lv_lload hx hb dX7_with_41 (lv_at hl 0 rfl) ?_
          refine z_ldc2 (v := (-1)) C dX7_with_43 tw_1042 rfl ?_
          refine z_lxor C dX7_with_46 ?_
          exact K47 l5 l3 (lxor x2 (-1)) _ _ _ Hh (lv_sub hl [1, 2, 3, 5] rfl) hm
        · refine lv_lload hx hb dX7_with_36 (lv_at hl 0 rfl) ?_
          refine lv_goto (tgt := 47) hx hb dX7_with_38 (by decide) ?_
          exact K47 l5 l3 x2 _ _ _ Hh (lv_sub hl [1, 2, 3, 5] rfl) hm
  refine z_ldc2 (v := (-1)) C dX7_with_0 tw_1042 rfl ?_
  refine lv_lstore_n (lv' := [(3, qJ (-1)), (0, qR g l0), (1, qI l1), (2, qI l2)]) hx hb dX7_with_3 rfl hl (by decide) rfl (fun ls hl => ?_)
  refine z_iconst C dX7_with_4 ?_
  refine lv_istore (lv' := [(5, qI 0), (3, qJ (-1)), (0, qR g l0), (1, qI l1), (2, qI l2)]) hx hb dX7_with_5 hl (by decide) rfl (fun ls hl => ?_)
  exact KL7 FU l0 l1 l2 (-1) 0 _ _ _ Hh (lv_sub hl [2, 3, 4, 1, 0] rfl) hm
theorem tg_X7_listStained {h : Hp} {l0 l1 l2 : Int} {r : Hp} (hm : M_X7_listStained h l0 l1 l2 = some r) : hT h l0 = 17 := (tk_inv hm).1
set_option maxRecDepth 100000 in
set_option maxHeartbeats 4000000 in
theorem ct_X7_listStained (l : Launch) (g : zGeo) (h0 : Hp) (l0 l1 l2 : Int) (r : Hp) (hm : M_X7_listStained h0 l0 l1 l2 = some r) : zM l yX7_listStained cX7_listStained 5 none 1 27 0 0 g h0 [qR g l0, qI l1, qI l2] r none := by
  refine z_meth (by decide) (Nat.le_of_ble_eq_true rfl) ?_
  intro p e s m args below meth c H ls C hr hlocks hnm Hh hl
  have C : zC p m c cX7_listStained 5 s args RX7 g := C
  have hnm : meth.name = "listStained" := hnm
  have hx := C.1.1
  have hb := C.1.2.1
  have hl : lv_has ls 5 [(0, qR g l0), (1, qI l1), (2, qI l2)] := hl
  unfold M_X7_listStained at hm
  replace hm := (tk_inv hm).2
  generalize h0 = h at Hh hm
  have K51 : ∀ (h : Hp) (H : Heap) (locs : List Loc) (ls : Array Slot), zH g s h H locs → lv_has ls 5 [] → M_X7_listStained_p51 h = some r → W p l e { frames := 1, cells := 0, slots := 0, locals := 27 } s m args below meth c H locs 0 0 (zQ below g r none args s 0 0) (F0 m 51 ls []) := by
    intro h  H locs ls Hh hl hm
    unfold M_X7_listStained_p51 at hm
    exact z_vret C hr hlocks Hh dX7_listStained_51 hm
  have KL2 : ∀ (n : Nat) (h : Hp) (l0 l1 l2 l3 : Int) (H : Heap) (locs : List Loc) (ls : Array Slot), zH g s h H locs → lv_has ls 5 [(0, qR g l0), (1, qI l1), (2, qI l2), (3, qI l3)] → M_X7_listStained_w2 n h l0 l1 l2 l3 = some r → W p l e { frames := 1, cells := 0, slots := 0, locals := 27 } s m args below meth c H locs 0 0 (zQ below g r none args s 0 0) (F0 m 2 ls []) := by
    intro n
    induction n with
    | zero => intro h l0 l1 l2 l3 H locs ls Hh hl hm; cases hm
    | succ n ih2 =>
      intro h l0 l1 l2 l3 H locs ls Hh hl hm
      obtain ⟨z2, hm, hc2⟩ := wh_inv hm
      have hm : M_X7_listStained_b2 h l0 l1 l2 l3 = some z2 := hm
      unfold M_X7_listStained_b2 at hm
      refine lv_iload_n hx hb dX7_listStained_2 rfl (lv_at hl 3 rfl) ?_
      refine lv_aload_n hx hb dX7_listStained_3 rfl (lv_at hl 0 rfl) ?_
      refine z_getR C fl_7_21 Hh dX7_listStained_4 rfl hm (fun x1 hm => ?_)
      refine z_getR C fl_7_25 Hh dX7_listStained_7 rfl hm (fun x2 hm => ?_)
      refine lv_iload_n hx hb dX7_listStained_10 rfl (lv_at hl 1 rfl) ?_
      refine z_iald C Hh dX7_listStained_11 hm (fun x3 hm => ?_)
      refine z_icmp_ge (tgt := 51) C dX7_listStained_12 (by decide) rfl rfl hm (fun _ hm => ?_) (fun _ hm => ?_)
      · cases hm
        exact K51 h _ _ _ Hh (lv_sub hl [] rfl) hc2
      · refine lv_aload_n hx hb dX7_listStained_15 rfl (lv_at hl 0 rfl) ?_
        refine z_getR C fl_7_21 Hh dX7_listStained_16 rfl hm (fun x4 hm => ?_)
        refine z_getR C fl_7_35 Hh dX7_listStained_19 rfl hm (fun x5 hm => ?_)
        refine z_bipush C dX7_listStained_22 rfl ?_
        refine lv_iload_n hx hb dX7_listStained_24 rfl (lv_at hl 1 rfl) ?_
        refine z_imul C dX7_listStained_25 ?_
        refine lv_iload_n hx hb dX7_listStained_26 rfl (lv_at hl 3 rfl) ?_
        refine z_iadd C dX7_listStained_27 ?_
        refine z_iald C Hh dX7_listStained_28 hm (fun x6 hm => ?_)
        refine lv_istore (lv' := [(4, qI x6), (0, qR g l0), (1, qI l1), (2, qI l2), (3, qI l3)]) hx hb dX7_listStained_29 hl (by decide) rfl (fun ls hl => ?_)
        refine lv_aload_n hx hb dX7_listStained_31 rfl (lv_at hl 1 rfl) ?_
        refine z_getR C fl_7_18 Hh dX7_listStained_32 rfl hm (fun x7 hm => ?_)
        refine lv_iload hx hb dX7_listStained_35 (lv_at hl 0 rfl) ?_
        refine lv_aload_n hx hb dX7_listStained_37 rfl (lv_at hl 1 rfl) ?_
        refine lv_iload hx hb dX7_listStained_38 (lv_at hl 0 rfl) ?_
        refine lv_iload_n hx hb dX7_listStained_40 rfl (lv_at hl 3 rfl) ?_
        refine z_cVJr (vs := [qI x6, qI l2]) C (fun q hq => ct_X7_with l g h l0 x6 l2 q hq) tw_1071 my_X7_with (fun q hq => tg_X7_with hq) rfl hl.1 Hh ⟨Nat.le_of_ble_eq_true rfl, Nat.le_of_ble_eq_true rfl, Nat.le_of_ble_eq_true rfl, Nat.le_of_ble_eq_true rfl⟩ (Nat.le_of_ble_eq_true rfl) dX7_listStained_41 rfl hm (fun x8 H locs Hh hm => ?_)
        refine z_last C Hh dX7_listStained_44 hm (fun h H locs Hh hm => ?_)
        refine z_iinc (x := l3) (k := 4) (lv' := [(3, qI (l3 + 1)), (4, qI x6), (0, qR g l0), (1, qI l1), (2, qI l2)]) C dX7_listStained_45 hl rfl (by decide) rfl (fun ls hl => ?_)
        refine lv_goto (tgt := 2) hx hb dX7_listStained_48 (by decide) ?_
        cases hm
        exact ih2 h l0 l1 l2 (l3 + 1) _ _ _ Hh (lv_sub hl [2, 3, 4, 0] rfl) hc2
  refine z_iconst C dX7_listStained_0 ?_
  refine lv_istore_n (lv' := [(3, qI 0), (0, qR g l0), (1, qI l1), (2, qI l2)]) hx hb dX7_listStained_1 rfl hl (by decide) rfl (fun ls hl => ?_)
  exact KL2 FU h l0 l1 l2 0 _ _ _ Hh (lv_sub hl [1, 2, 3, 0] rfl) hm
theorem tg_X7_stainedAt {h : Hp} {l0 l1 : Int} {r : Int} (hm : M_X7_stainedAt h l0 l1 = some r) : hT h l0 = 17 := (tk_inv hm).1
set_option maxRecDepth 100000 in
set_option maxHeartbeats 4000000 in
theorem ct_X7_stainedAt (l : Launch) (g : zGeo) (h : Hp) (l0 l1 : Int) (r : Int) (hm : M_X7_stainedAt h l0 l1 = some r) : zM l yX7_stainedAt cX7_stainedAt 6 (some .long) 1 24 0 0 g h [qR g l0, qI l1] h (some (qJ r)) := by
  refine z_meth (by decide) (Nat.le_of_ble_eq_true rfl) ?_
  intro p e s m args below meth c H ls C hr hlocks hnm Hh hl
  have C : zC p m c cX7_stainedAt 6 s args RX7 g := C
  have hnm : meth.name = "stainedAt" := hnm
  have hx := C.1.1
  have hb := C.1.2.1
  have hl : lv_has ls 6 [(0, qR g l0), (1, qI l1)] := hl
  unfold M_X7_stainedAt at hm
  replace hm := (tk_inv hm).2
  have K53 : ∀  (l2 : Int) (H : Heap) (locs : List Loc) (ls : Array Slot), zH g s h H locs → lv_has ls 6 [(2, qJ l2)] → M_X7_stainedAt_p53 h l2 = some r → W p l e { frames := 1, cells := 0, slots := 0, locals := 24 } s m args below meth c H locs 0 0 (zQ below g h (some (qJ r)) args s 0 0) (F0 m 53 ls []) := by
    intro l2  H locs ls Hh hl hm
    unfold M_X7_stainedAt_p53 at hm
    refine lv_lload_n hx hb dX7_stainedAt_53 rfl (lv_at hl 0 rfl) ?_
    exact z_lretR C hr hlocks Hh dX7_stainedAt_54 hm
  have KL10 : ∀ (n : Nat)  (l0 l1 l2 l4 : Int) (H : Heap) (locs : List Loc) (ls : Array Slot), zH g s h H locs → lv_has ls 6 [(0, qR g l0), (1, qI l1), (2, qJ l2), (4, qI l4)] → M_X7_stainedAt_w10 n h l0 l1 l2 l4 = some r → W p l e { frames := 1, cells := 0, slots := 0, locals := 24 } s m args below meth c H locs 0 0 (zQ below g h (some (qJ r)) args s 0 0) (F0 m 10 ls []) := by
    intro n
    induction n with
    | zero => intro l0 l1 l2 l4 H locs ls Hh hl hm; cases hm
    | succ n ih10 =>
      intro l0 l1 l2 l4 H locs ls Hh hl hm
      obtain ⟨z10, hm, hc10⟩ := wh_inv hm
      have hm : M_X7_stainedAt_b10 h l0 l1 l2 l4 = some z10 := hm
      have K47 : ∀  (l2 l4 : Int) (H : Heap) (locs : List Loc) (ls : Array Slot), zH g s h H locs → lv_has ls 6 [(0, qR g l0), (1, qI l1), (2, qJ l2), (4, qI l4)] → M_X7_stainedAt_p47 h l0 l1 l2 l4 = some z10 → W p l e { frames := 1, cells := 0, slots := 0, locals := 24 } s m args below meth c H locs 0 0 (zQ below g h (some (qJ r)) args s 0 0) (F0 m 47 ls []) := by
        intro l2 l4  H locs ls Hh hl hm
        unfold M_X7_stainedAt_p47 at hm
        refine z_iinc (x := l4) (k := 3) (lv' := [(4, qI (l4 + 1)), (0, qR g l0), (1, qI l1), (2, qJ l2)]) C dX7_stainedAt_47 hl rfl (by decide) rfl (fun ls hl => ?_)
        refine lv_goto (tgt := 10) hx hb dX7_stainedAt_50 (by decide) ?_
        cases hm
        exact ih10 l0 l1 l2 (l4 + 1) _ _ _ Hh (lv_sub hl [1, 2, 3, 0] rfl) hc10
      unfold M_X7_stainedAt_b10 at hm
      refine lv_iload hx hb dX7_stainedAt_10 (lv_at hl 3 rfl) ?_
      refine z_iconst C dX7_stainedAt_12 ?_
      refine z_icmp_ge (tgt := 53) C dX7_stainedAt_13 (by decide) rfl lq_p4 hm (fun _ hm => ?_) (fun _ hm => ?_)
      · cases hm
        exact K53 l2 _ _ _ Hh (lv_sub hl [2] rfl) hc10
      · refine lv_aload_n hx hb dX7_stainedAt_16 rfl (lv_at hl 0 rfl) ?_
        refine z_getR C fl_7_21 Hh dX7_stainedAt_17 rfl hm (fun x1 hm => ?_)
        refine z_getR C fl_7_62 Hh dX7_stainedAt_20 rfl hm (fun x2 hm => ?_)
        refine lv_iload_n hx hb dX7_stainedAt_23 rfl (lv_at hl 1 rfl) ?_
        refine lv_iload hx hb dX7_stainedAt_24 (lv_at hl 3 rfl) ?_
        refine z_cVIr (vs := [qI l1, qI l4]) C (fun q hq => ct_X8_beside l g h x2 l1 l4 q hq) tw_1081 my_X8_beside (fun q hq => tg_X8_beside hq) rfl hl.1 Hh ⟨Nat.le_of_ble_eq_true rfl, Nat.le_of_ble_eq_true rfl, Nat.le_of_ble_eq_true rfl, Nat.le_of_ble_eq_true rfl⟩ (Nat.le_of_ble_eq_true rfl) dX7_stainedAt_26 rfl hm (fun x3 H locs Hh hm => ?_)
        refine lv_istore (lv' := [(5, qI x3), (0, qR g l0), (1, qI l1), (2, qJ l2), (4, qI l4)]) hx hb dX7_stainedAt_29 hl (by decide) rfl (fun ls hl => ?_)
        refine lv_iload hx hb dX7_stainedAt_31 (lv_at hl 0 rfl) ?_
        refine z_iconst C dX7_stainedAt_33 ?_
        refine z_icmp_eq (tgt := 47) C dX7_stainedAt_34 (by decide) rfl lq_m1 hm (fun _ hm => ?_) (fun _ hm => ?_)
        · exact K47 l2 l4 _ _ _ Hh (lv_sub hl [1, 2, 3, 4] rfl) hm
        · refine lv_lload_n hx hb dX7_stainedAt_37 rfl (lv_at hl 3 rfl) ?_
          refine lv_aload_n hx hb dX7_stainedAt_38 rfl (lv_at hl 1 rfl) ?_
          refine z_getR C fl_7_18 Hh dX7_stainedAt_39 rfl hm (fun x4 hm => ?_)
          refine lv_iload hx hb dX7_stainedAt_42 (lv_at hl 0 rfl) ?_
          refine z_lald C Hh dX7_stainedAt_44 hm (fun x5 hm => ?_)
          refine z_lor C dX7_stainedAt_45 ?_
          refine lv_lstore_n (lv' := [(2, qJ (lor l2 x5)), (5, qI x3), (0, qR g l0), (1, qI l1), (4, qI l4)]) hx hb dX7_stainedAt_46 rfl hl (by decide) rfl (fun ls hl => ?_)
          exact K47 (lor l2 x5) l4 _ _ _ Hh (lv_sub hl [2, 3, 0, 4] rfl) hm
  refine lv_aload_n hx hb dX7_stainedAt_0 rfl (lv_at hl 0 rfl) ?_
  refine z_getR C fl_7_18 Hh dX7_stainedAt_1 rfl hm (fun x6 hm => ?_)
  refine lv_iload_n hx hb dX7_stainedAt_4 rfl (lv_at hl 1 rfl) ?_
  refine z_lald C Hh dX7_stainedAt_5 hm (fun x7 hm => ?_)
  refine lv_lstore_n (lv' := [(2, qJ x7), (0, qR g l0), (1, qI l1)]) hx hb dX7_stainedAt_6 rfl hl (by decide) rfl (fun ls hl => ?_)
  refine z_iconst C dX7_stainedAt_7 ?_
  refine lv_istore (lv' := [(4, qI 0), (2, qJ x7), (0, qR g l0), (1, qI l1)]) hx hb dX7_stainedAt_8 hl (by decide) rfl (fun ls hl => ?_)
  exact KL10 FU l0 l1 x7 0 _ _ _ Hh (lv_sub hl [2, 3, 1, 0] rfl) hm
theorem tg_X7_build {h : Hp} {l0 l1 : Int} {r : Hp} (hm : M_X7_build h l0 l1 = some r) : hT h l0 = 17 := (tk_inv hm).1
set_option maxRecDepth 100000 in
set_option maxHeartbeats 4000000 in
theorem ct_X7_build (l : Launch) (g : zGeo) (h0 : Hp) (l0 l1 : Int) (r : Hp) (hm : M_X7_build h0 l0 l1 = some r) : zM l yX7_build cX7_build 9 none 3 80 0 0 g h0 [qR g l0, qI l1] r none := by
  refine z_meth (by decide) (Nat.le_of_ble_eq_true rfl) ?_
  intro p e s m args below meth c H ls C hr hlocks hnm Hh hl
  have C : zC p m c cX7_build 9 s args RX7 g := C
  have hnm : meth.name = "build" := hnm
  have hx := C.1.1
  have hb := C.1.2.1
  have hl : lv_has ls 9 [(0, qR g l0), (1, qI l1)] := hl
  unfold M_X7_build at hm
  replace hm := (tk_inv hm).2
  generalize h0 = h at Hh hm
  have K263 : ∀ (h : Hp) (H : Heap) (locs : List Loc) (ls : Array Slot), zH g s h H locs → lv_has ls 9 [] → M_X7_build_p263 h = some r → W p l e { frames := 3, cells := 0, slots := 0, locals := 80 } s m args below meth c H locs 0 0 (zQ below g r none args s 0 0) (F0 m 263 ls []) := by
    intro h  H locs ls Hh hl hm
    unfold M_X7_build_p263 at hm
    exact z_vret C hr hlocks Hh dX7_build_263 hm
  have KL59 : ∀ (n : Nat) (h : Hp) (l0 l1 l2 l3 l4 l5 : Int) (H : Heap) (locs : List Loc) (ls : Array Slot), zH g s h H locs → lv_has ls 9 [(0, qR g l0), (1, qI l1), (2, qI l2), (3, qI l3), (4, qI l4), (5, qI l5)] → M_X7_build_w59 n h l0 l1 l2 l3 l4 l5 = some r → W p l e { frames := 3, cells := 0, slots := 0, locals := 80 } s m args below meth c H locs 0 0 (zQ below g r none args s 0 0) (F0 m 59 ls []) := by
    intro n
    induction n with
    | zero => intro h l0 l1 l2 l3 l4 l5 H locs ls Hh hl hm; cases hm
    | succ n ih59 =>
      intro h l0 l1 l2 l3 l4 l5 H locs ls Hh hl hm
      obtain ⟨z59, hm, hc59⟩ := wh_inv hm
      have hm : M_X7_build_b59 h l0 l1 l2 l3 l4 l5 = some z59 := hm
      have K257 : ∀ (h : Hp) (l5 : Int) (H : Heap) (locs : List Loc) (ls : Array Slot), zH g s h H locs → lv_has ls 9 [(0, qR g l0), (1, qI l1), (2, qI l2), (3, qI l3), (4, qI l4), (5, qI l5)] → M_X7_build_p257 h l0 l1 l2 l3 l4 l5 = some z59 → W p l e { frames := 3, cells := 0, slots := 0, locals := 80 } s m args below meth c H locs 0 0 (zQ below g r none args s 0 0) (F0 m 257 ls []) := by
        intro h l5  H locs ls Hh hl hm
        unfold M_X7_build_p257 at hm
        refine z_iinc (x := l5) (k := 5) (lv' := [(5, qI (l5 + 1)), (0, qR g l0), (1, qI l1), (2, qI l2), (3, qI l3), (4, qI l4)]) C dX7_build_257 hl rfl (by decide) rfl (fun ls hl => ?_)
        refine lv_goto (tgt := 59) hx hb dX7_build_260 (by decide) ?_
        cases hm
        exact ih59 h l0 l1 l2 l3 l4 (l5 + 1) _ _ _ Hh (lv_sub hl [1, 2, 3, 4, 5, 0] rfl) hc59
      have K145 : ∀ (h : Hp) (l5 l6 l7 : Int) (H : Heap) (locs : List Loc) (ls : Array Slot), zH g s h H locs → lv_has ls 9 [(0, qR g l0), (1, qI l1), (2, qI l2), (3, qI l3), (4, qI l4), (5, qI l5), (6, qI l6), (7, qI l7)] → M_X7_build_p145 h l0 l1 l2 l3 l4 l5 l6 l7 = some z59 → W p l e { frames := 3, cells := 0, slots := 0, locals := 80 } s m args below meth c H locs 0 0 (zQ below g r none args s 0 0) (F0 m 145 ls []) := by
        intro h l5 l6 l7  H locs ls Hh hl hm
        unfold M_X7_build_p145 at hm
        refine lv_iload_n hx hb dX7_build_145 rfl (lv_at hl 3 rfl) ?_
        refine z_iconst C dX7_build_146 ?_
        refine z_icmp_ne (tgt := 207) C dX7_build_147 (by decide) rfl lq_p5 hm (fun _ hm => ?_) (fun _ hm => ?_)
        · refine lv_iload_n hx hb dX7_build_207 rfl (lv_at hl 3 rfl) ?_
          refine z_bipush C dX7_build_208 rfl ?_
          refine z_icmp_ne (tgt := 234) C dX7_build_210 (by decide) rfl lq_p7 hm (fun _ hm => ?_) (fun _ hm => ?_)
          · refine lv_iload_n hx hb dX7_build_234 rfl (lv_at hl 3 rfl) ?_
            refine z_bipush C dX7_build_235 rfl ?_
            refine z_icmp_ne (tgt := 257) C dX7_build_237 (by decide) rfl lq_p6 hm (fun _ hm => ?_) (fun _ hm => ?_)
            · exact K257 h l5 _ _ _ Hh (lv_sub hl [0, 1, 2, 3, 4, 5] rfl) hm
            · refine lv_aload_n hx hb dX7_build_240 rfl (lv_at hl 0 rfl) ?_
              refine z_getR C fl_7_15 Hh dX7_build_241 rfl hm (fun x1 hm => ?_)
              refine lv_iload hx hb dX7_build_244 (lv_at hl 6 rfl) ?_
              refine lv_aload_n hx hb dX7_build_246 rfl (lv_at hl 0 rfl) ?_
              refine lv_iload hx hb dX7_build_247 (lv_at hl 6 rfl) ?_
              refine z_cVJr (vs := [qI l6]) C (fun q hq => ct_X7_stainedAt l g h l0 l6 q hq) tw_1077 my_X7_stainedAt (fun q hq => tg_X7_stainedAt hq) rfl hl.1 Hh ⟨Nat.le_of_ble_eq_true rfl, Nat.le_of_ble_eq_true rfl, Nat.le_of_ble_eq_true rfl, Nat.le_of_ble_eq_true rfl⟩ (Nat.le_of_ble_eq_true rfl) dX7_build_249 rfl hm (fun x2 H locs Hh hm => ?_)
              refine lv_iload hx hb dX7_build_252 (lv_at hl 4 rfl) ?_
              refine z_cSv (vs := [qR g x1, qI l6, qJ x2, qI l4]) C (fun q hq => ct_X7_overlay l g h x1 l6 x2 l4 q hq) tw_1044 my_X7_overlay rfl hl.1 Hh ⟨Nat.le_of_ble_eq_true rfl, Nat.le_of_ble_eq_true rfl, Nat.le_of_ble_eq_true rfl, Nat.le_of_ble_eq_true rfl⟩ (Nat.le_of_ble_eq_true rfl) dX7_build_254 rfl hm (fun h H locs Hh hm => ?_)
              exact K257 h l5 _ _ _ Hh (lv_sub hl [0, 1, 2, 3, 4, 5] rfl) hm
          · refine lv_aload_n hx hb dX7_build_213 rfl (lv_at hl 0 rfl) ?_
            refine z_getR C fl_7_15 Hh dX7_build_214 rfl hm (fun x3 hm => ?_)
            refine lv_iload hx hb dX7_build_217 (lv_at hl 6 rfl) ?_
            refine lv_aload_n hx hb dX7_build_219 rfl (lv_at hl 0 rfl) ?_
            refine lv_iload hx hb dX7_build_220 (lv_at hl 6 rfl) ?_
            refine lv_iload hx hb dX7_build_222 (lv_at hl 4 rfl) ?_
            refine z_cVJr (vs := [qI l6, qI l4]) C (fun q hq => ct_X7_with l g h l0 l6 l4 q hq) tw_1071 my_X7_with (fun q hq => tg_X7_with hq) rfl hl.1 Hh ⟨Nat.le_of_ble_eq_true rfl, Nat.le_of_ble_eq_true rfl, Nat.le_of_ble_eq_true rfl, Nat.le_of_ble_eq_true rfl⟩ (Nat.le_of_ble_eq_true rfl) dX7_build_224 rfl hm (fun x4 H locs Hh hm => ?_)
            refine z_iconst C dX7_build_227 ?_
            refine z_cSv (vs := [qR g x3, qI l6, qJ x4, qI 0]) C (fun q hq => ct_X7_overlay l g h x3 l6 x4 0 q hq) tw_1044 my_X7_overlay rfl hl.1 Hh ⟨Nat.le_of_ble_eq_true rfl, Nat.le_of_ble_eq_true rfl, Nat.le_of_ble_eq_true rfl, Nat.le_of_ble_eq_true rfl⟩ (Nat.le_of_ble_eq_true rfl) dX7_build_228 rfl hm (fun h H locs Hh hm => ?_)
            refine lv_goto (tgt := 257) hx hb dX7_build_231 (by decide) ?_
            exact K257 h l5 _ _ _ Hh (lv_sub hl [0, 1, 2, 3, 4, 5] rfl) hm
        · refine lv_aload_n hx hb dX7_build_150 rfl (lv_at hl 0 rfl) ?_
          refine z_getR C fl_7_21 Hh dX7_build_151 rfl hm (fun x5 hm => ?_)
          refine z_getR C fl_7_62 Hh dX7_build_154 rfl hm (fun x6 hm => ?_)
          refine z_getR C fl_7_66 Hh dX7_build_157 rfl hm (fun x7 hm => ?_)
          refine lv_iload_n hx hb dX7_build_160 rfl (lv_at hl 2 rfl) ?_
          refine z_iconst C dX7_build_161 ?_
          refine z_iadd C dX7_build_162 ?_
          refine z_iald C Hh dX7_build_163 hm (fun x8 hm => ?_)
          refine lv_istore (lv' := [(8, qI x8), (0, qR g l0), (1, qI l1), (2, qI l2), (3, qI l3), (4, qI l4), (5, qI l5), (6, qI l6), (7, qI l7)]) hx hb dX7_build_164 hl (by decide) rfl (fun ls hl => ?_)
          refine lv_aload_n hx hb dX7_build_166 rfl (lv_at hl 1 rfl) ?_
          refine z_getR C fl_7_15 Hh dX7_build_167 rfl hm (fun x9 hm => ?_)
          refine lv_iload hx hb dX7_build_170 (lv_at hl 7 rfl) ?_
          refine lv_aload_n hx hb dX7_build_172 rfl (lv_at hl 1 rfl) ?_
          refine lv_iload hx hb dX7_build_173 (lv_at hl 8 rfl) ?_
          refine lv_iload hx hb dX7_build_175 (lv_at hl 5 rfl) ?_
          refine z_cVJr (vs := [qI l7, qI l4]) C (fun q hq => ct_X7_with l g h l0 l7 l4 q hq) tw_1071 my_X7_with (fun q hq => tg_X7_with hq) rfl hl.1 Hh ⟨Nat.le_of_ble_eq_true rfl, Nat.le_of_ble_eq_true rfl, Nat.le_of_ble_eq_true rfl, Nat.le_of_ble_eq_true rfl⟩ (Nat.le_of_ble_eq_true rfl) dX7_build_177 rfl hm (fun x10 H locs Hh hm => ?_)
          refine lv_iload hx hb dX7_build_180 (lv_at hl 0 rfl) ?_
          refine z_cSv (vs := [qR g x9, qI l6, qJ x10, qI x8]) C (fun q hq => ct_X7_overlay l g h x9 l6 x10 x8 q hq) tw_1044 my_X7_overlay rfl hl.1 Hh ⟨Nat.le_of_ble_eq_true rfl, Nat.le_of_ble_eq_true rfl, Nat.le_of_ble_eq_true rfl, Nat.le_of_ble_eq_true rfl⟩ (Nat.le_of_ble_eq_true rfl) dX7_build_182 rfl hm (fun h H locs Hh hm => ?_)
          refine lv_aload_n hx hb dX7_build_185 rfl (lv_at hl 1 rfl) ?_
          refine z_getR C fl_7_15 Hh dX7_build_186 rfl hm (fun x11 hm => ?_)
          refine lv_iload hx hb dX7_build_189 (lv_at hl 7 rfl) ?_
          refine lv_aload_n hx hb dX7_build_191 rfl (lv_at hl 1 rfl) ?_
          refine lv_iload hx hb dX7_build_192 (lv_at hl 8 rfl) ?_
          refine lv_iload hx hb dX7_build_194 (lv_at hl 0 rfl) ?_
          refine z_cVJr (vs := [qI l7, qI x8]) C (fun q hq => ct_X7_with l g h l0 l7 x8 q hq) tw_1071 my_X7_with (fun q hq => tg_X7_with hq) rfl hl.1 Hh ⟨Nat.le_of_ble_eq_true rfl, Nat.le_of_ble_eq_true rfl, Nat.le_of_ble_eq_true rfl, Nat.le_of_ble_eq_true rfl⟩ (Nat.le_of_ble_eq_true rfl) dX7_build_196 rfl hm (fun x12 H locs Hh hm => ?_)
          refine lv_iload hx hb dX7_build_199 (lv_at hl 5 rfl) ?_
          refine z_cSv (vs := [qR g x11, qI l6, qJ x12, qI l4]) C (fun q hq => ct_X7_overlay l g h x11 l6 x12 l4 q hq) tw_1044 my_X7_overlay rfl hl.1 Hh ⟨Nat.le_of_ble_eq_true rfl, Nat.le_of_ble_eq_true rfl, Nat.le_of_ble_eq_true rfl, Nat.le_of_ble_eq_true rfl⟩ (Nat.le_of_ble_eq_true rfl) dX7_build_201 rfl hm (fun h H locs Hh hm => ?_)
          refine lv_goto (tgt := 257) hx hb dX7_build_204 (by decide) ?_
          exact K257 h l5 _ _ _ Hh (lv_sub hl [1, 2, 3, 4, 5, 6] rfl) hm
      unfold M_X7_build_b59 at hm
      refine lv_iload hx hb dX7_build_59 (lv_at hl 5 rfl) ?_
      refine lv_aload_n hx hb dX7_build_61 rfl (lv_at hl 0 rfl) ?_
      refine z_getR C fl_7_21 Hh dX7_build_62 rfl hm (fun x13 hm => ?_)
      refine z_getR C fl_7_25 Hh dX7_build_65 rfl hm (fun x14 hm => ?_)
      refine lv_iload_n hx hb dX7_build_68 rfl (lv_at hl 1 rfl) ?_
      refine z_iald C Hh dX7_build_69 hm (fun x15 hm => ?_)
      refine z_icmp_ge (tgt := 263) C dX7_build_70 (by decide) rfl rfl hm (fun _ hm => ?_) (fun _ hm => ?_)
      · cases hm
        exact K263 h _ _ _ Hh (lv_sub hl [] rfl) hc59
      · refine lv_aload_n hx hb dX7_build_73 rfl (lv_at hl 0 rfl) ?_
        refine z_getR C fl_7_21 Hh dX7_build_74 rfl hm (fun x16 hm => ?_)
        refine z_getR C fl_7_35 Hh dX7_build_77 rfl hm (fun x17 hm => ?_)
        refine z_bipush C dX7_build_80 rfl ?_
        refine lv_iload_n hx hb dX7_build_82 rfl (lv_at hl 1 rfl) ?_
        refine z_imul C dX7_build_83 ?_
        refine lv_iload hx hb dX7_build_84 (lv_at hl 5 rfl) ?_
        refine z_iadd C dX7_build_86 ?_
        refine z_iald C Hh dX7_build_87 hm (fun x18 hm => ?_)
        refine lv_istore (lv' := [(6, qI x18), (0, qR g l0), (1, qI l1), (2, qI l2), (3, qI l3), (4, qI l4), (5, qI l5)]) hx hb dX7_build_88 hl (by decide) rfl (fun ls hl => ?_)
        refine lv_aload_n hx hb dX7_build_90 rfl (lv_at hl 1 rfl) ?_
        refine z_getR C fl_7_21 Hh dX7_build_91 rfl hm (fun x19 hm => ?_)
        refine lv_iload_n hx hb dX7_build_94 rfl (lv_at hl 2 rfl) ?_
        refine lv_iload hx hb dX7_build_95 (lv_at hl 0 rfl) ?_
        refine z_cVIr (vs := [qI l1, qI x18]) C (fun q hq => ct_X0_source l g h x19 l1 x18 q hq) tw_1075 my_X0_source (fun q hq => tg_X0_source hq) rfl hl.1 Hh ⟨Nat.le_of_ble_eq_true rfl, Nat.le_of_ble_eq_true rfl, Nat.le_of_ble_eq_true rfl, Nat.le_of_ble_eq_true rfl⟩ (Nat.le_of_ble_eq_true rfl) dX7_build_97 rfl hm (fun x20 H locs Hh hm => ?_)
        refine lv_istore (lv' := [(7, qI x20), (6, qI x18), (0, qR g l0), (1, qI l1), (2, qI l2), (3, qI l3), (4, qI l4), (5, qI l5)]) hx hb dX7_build_100 hl (by decide) rfl (fun ls hl => ?_)
        refine lv_iload hx hb dX7_build_102 (lv_at hl 0 rfl) ?_
        refine z_iconst C dX7_build_104 ?_
        refine z_icmp_ne (tgt := 125) C dX7_build_105 (by decide) rfl lq_m1 hm (fun _ hm => ?_) (fun _ hm => ?_)
        · refine lv_aload_n hx hb dX7_build_125 rfl (lv_at hl 2 rfl) ?_
          refine z_getR C fl_7_11 Hh dX7_build_126 rfl hm (fun x21 hm => ?_)
          refine z_iconst C dX7_build_129 ?_
          refine lv_iload hx hb dX7_build_130 (lv_at hl 0 rfl) ?_
          refine z_imul C dX7_build_132 ?_
          refine lv_aload_n hx hb dX7_build_133 rfl (lv_at hl 2 rfl) ?_
          refine z_getR C fl_7_15 Hh dX7_build_134 rfl hm (fun x22 hm => ?_)
          refine z_iconst C dX7_build_137 ?_
          refine lv_iload hx hb dX7_build_138 (lv_at hl 1 rfl) ?_
          refine z_imul C dX7_build_140 ?_
          refine z_iconst C dX7_build_141 ?_
          refine z_cpy (t := 2) C cp_7_79 (by decide) hl.1 Hh dX7_build_142 (Nat.le_of_ble_eq_true rfl) (Nat.le_of_ble_eq_true rfl) hm (fun h H locs Hh hm => ?_)
          exact K145 h l5 x18 x20 _ _ _ Hh (lv_sub hl [2, 3, 4, 5, 6, 7, 1, 0] rfl) hm
        · refine lv_aload_n hx hb dX7_build_108 rfl (lv_at hl 2 rfl) ?_
          refine z_getR C fl_7_15 Hh dX7_build_109 rfl hm (fun x23 hm => ?_)
          refine lv_iload hx hb dX7_build_112 (lv_at hl 1 rfl) ?_
          refine z_ldc2 (v := (-1)) C dX7_build_114 tw_1042 rfl ?_
          refine lv_iload hx hb dX7_build_117 (lv_at hl 6 rfl) ?_
          refine z_cSv (vs := [qR g x23, qI x18, qJ (-1), qI l4]) C (fun q hq => ct_X7_overlay l g h x23 x18 (-1) l4 q hq) tw_1044 my_X7_overlay rfl hl.1 Hh ⟨Nat.le_of_ble_eq_true rfl, Nat.le_of_ble_eq_true rfl, Nat.le_of_ble_eq_true rfl, Nat.le_of_ble_eq_true rfl⟩ (Nat.le_of_ble_eq_true rfl) dX7_build_119 rfl hm (fun h H locs Hh hm => ?_)
          refine lv_goto (tgt := 145) hx hb dX7_build_122 (by decide) ?_
          exact K145 h l5 x18 x20 _ _ _ Hh (lv_sub hl [2, 3, 4, 5, 6, 7, 1, 0] rfl) hm
  have K56 : ∀ (h : Hp) (l0 l1 l2 l3 l4 : Int) (H : Heap) (locs : List Loc) (ls : Array Slot), zH g s h H locs → lv_has ls 9 [(0, qR g l0), (1, qI l1), (2, qI l2), (3, qI l3), (4, qI l4)] → M_X7_build_p56 h l0 l1 l2 l3 l4 = some r → W p l e { frames := 3, cells := 0, slots := 0, locals := 80 } s m args below meth c H locs 0 0 (zQ below g r none args s 0 0) (F0 m 56 ls []) := by
    intro h l0 l1 l2 l3 l4  H locs ls Hh hl hm
    unfold M_X7_build_p56 at hm
    refine z_iconst C dX7_build_56 ?_
    refine lv_istore (lv' := [(5, qI 0), (0, qR g l0), (1, qI l1), (2, qI l2), (3, qI l3), (4, qI l4)]) hx hb dX7_build_57 hl (by decide) rfl (fun ls hl => ?_)
    exact KL59 FU h l0 l1 l2 l3 l4 0 _ _ _ Hh (lv_sub hl [1, 2, 3, 4, 5, 0] rfl) hm
  refine z_iconst C dX7_build_0 ?_
  refine lv_aload_n hx hb dX7_build_1 rfl (lv_at hl 0 rfl) ?_
  refine z_getR C fl_7_21 Hh dX7_build_2 rfl hm (fun x24 hm => ?_)
  refine z_getR C fl_7_59 Hh dX7_build_5 rfl hm (fun x25 hm => ?_)
  refine lv_iload_n hx hb dX7_build_8 rfl (lv_at hl 1 rfl) ?_
  refine z_iald C Hh dX7_build_9 hm (fun x26 hm => ?_)
  refine z_imul C dX7_build_10 ?_
  refine lv_istore_n (lv' := [(2, qI (4 * x26)), (0, qR g l0), (1, qI l1)]) hx hb dX7_build_11 rfl hl (by decide) rfl (fun ls hl => ?_)
  refine lv_aload_n hx hb dX7_build_12 rfl (lv_at hl 1 rfl) ?_
  refine z_getR C fl_7_21 Hh dX7_build_13 rfl hm (fun x27 hm => ?_)
  refine z_getR C fl_7_62 Hh dX7_build_16 rfl hm (fun x28 hm => ?_)
  refine z_getR C fl_7_66 Hh dX7_build_19 rfl hm (fun x29 hm => ?_)
  refine lv_iload_n hx hb dX7_build_22 rfl (lv_at hl 0 rfl) ?_
  refine z_iald C Hh dX7_build_23 hm (fun x30 hm => ?_)
  refine lv_istore_n (lv' := [(3, qI x30), (2, qI (4 * x26)), (0, qR g l0), (1, qI l1)]) hx hb dX7_build_24 rfl hl (by decide) rfl (fun ls hl => ?_)
  refine lv_aload_n hx hb dX7_build_25 rfl (lv_at hl 2 rfl) ?_
  refine z_getR C fl_7_21 Hh dX7_build_26 rfl hm (fun x31 hm => ?_)
  refine z_getR C fl_7_62 Hh dX7_build_29 rfl hm (fun x32 hm => ?_)
  refine z_getR C fl_7_66 Hh dX7_build_32 rfl hm (fun x33 hm => ?_)
  refine lv_iload_n hx hb dX7_build_35 rfl (lv_at hl 1 rfl) ?_
  refine z_iconst C dX7_build_36 ?_
  refine z_iadd C dX7_build_37 ?_
  refine z_iald C Hh dX7_build_38 hm (fun x34 hm => ?_)
  refine lv_istore (lv' := [(4, qI x34), (3, qI x30), (2, qI (4 * x26)), (0, qR g l0), (1, qI l1)]) hx hb dX7_build_39 hl (by decide) rfl (fun ls hl => ?_)
  refine lv_iload_n hx hb dX7_build_41 rfl (lv_at hl 1 rfl) ?_
  refine z_bipush C dX7_build_42 rfl ?_
  refine z_icmp_ne (tgt := 56) C dX7_build_44 (by decide) rfl lq_p6 hm (fun _ hm => ?_) (fun _ hm => ?_)
  · exact K56 h l0 l1 (4 * x26) x30 x34 _ _ _ Hh (lv_sub hl [3, 4, 2, 1, 0] rfl) hm
  · refine lv_aload_n hx hb dX7_build_47 rfl (lv_at hl 3 rfl) ?_
    refine lv_iload_n hx hb dX7_build_48 rfl (lv_at hl 4 rfl) ?_
    refine z_iconst C dX7_build_49 ?_
    refine z_isub C dX7_build_50 ?_
    refine lv_iload hx hb dX7_build_51 (lv_at hl 0 rfl) ?_
    refine z_cVv (vs := [qI (l1 - 1), qI x34]) C (fun q hq => ct_X7_listStained l g h l0 (l1 - 1) x34 q hq) tw_1067 my_X7_listStained (fun q hq => tg_X7_listStained hq) rfl hl.1 Hh ⟨Nat.le_of_ble_eq_true rfl, Nat.le_of_ble_eq_true rfl, Nat.le_of_ble_eq_true rfl, Nat.le_of_ble_eq_true rfl⟩ (Nat.le_of_ble_eq_true rfl) dX7_build_53 rfl hm (fun h H locs Hh hm => ?_)
    exact K56 h l0 l1 (4 * x26) x30 x34 _ _ _ Hh (lv_sub hl [3, 4, 2, 1, 0] rfl) hm
