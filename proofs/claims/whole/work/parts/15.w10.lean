theorem tg_X11_checksMarks {h : Hp} {l0 l1 : Int} {r : Hp} (hm : M_X11_checksMarks h l0 l1 = some r) : hT h l0 = 21 := (tk_inv hm).1
set_option maxRecDepth 100000 in
set_option maxHeartbeats 4000000 in
theorem ct_X11_checksMarks (l : Launch) (g : zGeo) (h0 : Hp) (l0 l1 : Int) (r : Hp) (hm : M_X11_checksMarks h0 l0 l1 = some r) : zM l yX11_checksMarks cX11_checksMarks 4 none 1 21 0 0 g h0 [qR g l0, qI l1] r none := by
  refine z_meth (by decide) (Nat.le_of_ble_eq_true rfl) ?_
  intro p e s m args below meth c H ls C hr hlocks hnm Hh hl
  have C : zC p m c cX11_checksMarks 4 s args RX11 g := C
  have hnm : meth.name = "checksMarks" := hnm
  have hx := C.1.1
  have hb := C.1.2.1
  have hl : lv_has ls 4 [(0, qR g l0), (1, qI l1)] := hl
  unfold M_X11_checksMarks at hm
  replace hm := (tk_inv hm).2
  generalize h0 = h at Hh hm
  have K68 : ∀ (h : Hp) (l0 l2 : Int) (H : Heap) (locs : List Loc) (ls : Array Slot), zH g s h H locs → lv_has ls 4 [(0, qR g l0), (2, qI l2)] → M_X11_checksMarks_p68 h l0 l2 = some r → W p l e { frames := 1, cells := 0, slots := 0, locals := 21 } s m args below meth c H locs 0 0 (zQ below g r none args s 0 0) (F0 m 68 ls []) := by
    intro h l0 l2  H locs ls Hh hl hm
    unfold M_X11_checksMarks_p68 at hm
    refine lv_iload_n hx hb dX11_checksMarks_68 rfl (lv_at hl 1 rfl) ?_
    refine z_if_ne (tgt := 78) C dX11_checksMarks_69 (by decide) rfl hm (fun _ hm => ?_) (fun _ hm => ?_)
    · exact z_vret C hr hlocks Hh dX11_checksMarks_78 hm
    · refine lv_aload_n hx hb dX11_checksMarks_72 rfl (lv_at hl 0 rfl) ?_
      refine z_bipush C dX11_checksMarks_73 rfl ?_
      refine z_cVv (vs := [qI 7]) C (fun q hq => ct_X11_flaw l g h l0 7 q hq) tw_1559 my_X11_flaw (fun q hq => tg_X11_flaw hq) rfl hl.1 Hh ⟨Nat.le_of_ble_eq_true rfl, Nat.le_of_ble_eq_true rfl, Nat.le_of_ble_eq_true rfl, Nat.le_of_ble_eq_true rfl⟩ (Nat.le_of_ble_eq_true rfl) dX11_checksMarks_75 rfl hm (fun h H locs Hh hm => ?_)
      exact z_vret C hr hlocks Hh dX11_checksMarks_78 hm
  have KL29 : ∀ (n : Nat) (h : Hp) (l0 l2 l3 : Int) (H : Heap) (locs : List Loc) (ls : Array Slot), zH g s h H locs → lv_has ls 4 [(0, qR g l0), (2, qI l2), (3, qI l3)] → M_X11_checksMarks_w29 n h l0 l2 l3 = some r → W p l e { frames := 1, cells := 0, slots := 0, locals := 21 } s m args below meth c H locs 0 0 (zQ below g r none args s 0 0) (F0 m 29 ls []) := by
    intro n
    induction n with
    | zero => intro h l0 l2 l3 H locs ls Hh hl hm; cases hm
    | succ n ih29 =>
      intro h l0 l2 l3 H locs ls Hh hl hm
      obtain ⟨z29, hm, hc29⟩ := wh_inv hm
      have hm : M_X11_checksMarks_b29 h l0 l2 l3 = some z29 := hm
      have K61 : ∀  (l3 : Int) (s0 : Int) (H : Heap) (locs : List Loc) (ls : Array Slot), zH g s h H locs → lv_has ls 4 [(0, qR g l0), (3, qI l3)] → M_X11_checksMarks_p61 h l0 l3 s0 = some z29 → W p l e { frames := 1, cells := 0, slots := 0, locals := 21 } s m args below meth c H locs 0 0 (zQ below g r none args s 0 0) (F0 m 61 ls [qI s0]) := by
        intro l3 s0 H locs ls Hh hl hm
        unfold M_X11_checksMarks_p61 at hm
        refine lv_istore_n (lv' := [(2, qI s0), (0, qR g l0), (3, qI l3)]) hx hb dX11_checksMarks_61 rfl hl (by decide) rfl (fun ls hl => ?_)
        refine z_iinc (x := l3) (k := 2) (lv' := [(3, qI (l3 + 1)), (2, qI s0), (0, qR g l0)]) C dX11_checksMarks_62 hl rfl (by decide) rfl (fun ls hl => ?_)
        refine lv_goto (tgt := 29) hx hb dX11_checksMarks_65 (by decide) ?_
        cases hm
        exact ih29 h l0 s0 (l3 + 1) _ _ _ Hh (lv_sub hl [2, 1, 0] rfl) hc29
      unfold M_X11_checksMarks_b29 at hm
      refine lv_iload_n hx hb dX11_checksMarks_29 rfl (lv_at hl 2 rfl) ?_
      refine lv_aload_n hx hb dX11_checksMarks_30 rfl (lv_at hl 0 rfl) ?_
      refine z_getI C fl_11_133 Hh dX11_checksMarks_31 rfl hm (fun x1 hm => ?_)
      refine z_icmp_ge (tgt := 68) C dX11_checksMarks_34 (by decide) rfl rfl hm (fun _ hm => ?_) (fun _ hm => ?_)
      · cases hm
        exact K68 h l0 l2 _ _ _ Hh (lv_sub hl [0, 1] rfl) hc29
      · refine lv_iload_n hx hb dX11_checksMarks_37 rfl (lv_at hl 1 rfl) ?_
        refine z_if_eq (tgt := 68) C dX11_checksMarks_38 (by decide) rfl hm (fun _ hm => ?_) (fun _ hm => ?_)
        · cases hm
          exact K68 h l0 l2 _ _ _ Hh (lv_sub hl [0, 1] rfl) hc29
        · refine lv_aload_n hx hb dX11_checksMarks_41 rfl (lv_at hl 0 rfl) ?_
          refine lv_iload_n hx hb dX11_checksMarks_42 rfl (lv_at hl 2 rfl) ?_
          refine z_cVIr (vs := [qI l3]) C (fun q hq => ct_X11_markAt l g h l0 l3 q hq) tw_1614 my_X11_markAt (fun q hq => tg_X11_markAt hq) rfl hl.1 Hh ⟨Nat.le_of_ble_eq_true rfl, Nat.le_of_ble_eq_true rfl, Nat.le_of_ble_eq_true rfl, Nat.le_of_ble_eq_true rfl⟩ (Nat.le_of_ble_eq_true rfl) dX11_checksMarks_43 rfl hm (fun x2 H locs Hh hm => ?_)
          refine lv_aload_n hx hb dX11_checksMarks_46 rfl (lv_at hl 0 rfl) ?_
          refine z_getR C fl_11_190 Hh dX11_checksMarks_47 rfl hm (fun x3 hm => ?_)
          refine z_getI C fl_11_215 Hh dX11_checksMarks_50 rfl hm (fun x4 hm => ?_)
          refine z_icmp_ge (tgt := 60) C dX11_checksMarks_53 (by decide) rfl rfl hm (fun _ hm => ?_) (fun _ hm => ?_)
          · refine z_iconst C dX11_checksMarks_60 ?_
            exact K61 l3 0 _ _ _ Hh (lv_sub hl [0, 2] rfl) hm
          · refine z_iconst C dX11_checksMarks_56 ?_
            refine lv_goto (tgt := 61) hx hb dX11_checksMarks_57 (by decide) ?_
            exact K61 l3 1 _ _ _ Hh (lv_sub hl [0, 2] rfl) hm
  have K26 : ∀ (h : Hp) (l0 : Int) (s0 : Int) (H : Heap) (locs : List Loc) (ls : Array Slot), zH g s h H locs → lv_has ls 4 [(0, qR g l0)] → M_X11_checksMarks_p26 h l0 s0 = some r → W p l e { frames := 1, cells := 0, slots := 0, locals := 21 } s m args below meth c H locs 0 0 (zQ below g r none args s 0 0) (F0 m 26 ls [qI s0]) := by
    intro h l0 s0 H locs ls Hh hl hm
    unfold M_X11_checksMarks_p26 at hm
    refine lv_istore_n (lv' := [(2, qI s0), (0, qR g l0)]) hx hb dX11_checksMarks_26 rfl hl (by decide) rfl (fun ls hl => ?_)
    refine z_iconst C dX11_checksMarks_27 ?_
    refine lv_istore_n (lv' := [(3, qI 0), (2, qI s0), (0, qR g l0)]) hx hb dX11_checksMarks_28 rfl hl (by decide) rfl (fun ls hl => ?_)
    exact KL29 FU h l0 s0 0 _ _ _ Hh (lv_sub hl [2, 1, 0] rfl) hm
  have K13 : ∀ (h : Hp) (l0 l1 : Int) (H : Heap) (locs : List Loc) (ls : Array Slot), zH g s h H locs → lv_has ls 4 [(0, qR g l0), (1, qI l1)] → M_X11_checksMarks_p13 h l0 l1 = some r → W p l e { frames := 1, cells := 0, slots := 0, locals := 21 } s m args below meth c H locs 0 0 (zQ below g r none args s 0 0) (F0 m 13 ls []) := by
    intro h l0 l1  H locs ls Hh hl hm
    unfold M_X11_checksMarks_p13 at hm
    refine lv_aload_n hx hb dX11_checksMarks_13 rfl (lv_at hl 0 rfl) ?_
    refine z_getI C fl_11_133 Hh dX11_checksMarks_14 rfl hm (fun x5 hm => ?_)
    refine lv_iload_n hx hb dX11_checksMarks_17 rfl (lv_at hl 1 rfl) ?_
    refine z_icmp_ne (tgt := 25) C dX11_checksMarks_18 (by decide) rfl rfl hm (fun _ hm => ?_) (fun _ hm => ?_)
    · refine z_iconst C dX11_checksMarks_25 ?_
      exact K26 h l0 0 _ _ _ Hh (lv_sub hl [0] rfl) hm
    · refine z_iconst C dX11_checksMarks_21 ?_
      refine lv_goto (tgt := 26) hx hb dX11_checksMarks_22 (by decide) ?_
      exact K26 h l0 1 _ _ _ Hh (lv_sub hl [0] rfl) hm
  refine lv_aload_n hx hb dX11_checksMarks_0 rfl (lv_at hl 0 rfl) ?_
  refine z_getI C fl_11_110 Hh dX11_checksMarks_1 rfl hm (fun x6 hm => ?_)
  refine z_iconst C dX11_checksMarks_4 ?_
  refine z_icmp_eq (tgt := 13) C dX11_checksMarks_5 (by decide) rfl lq_p2 hm (fun _ hm => ?_) (fun _ hm => ?_)
  · exact K13 h l0 l1 _ _ _ Hh (lv_sub hl [0, 1] rfl) hm
  · refine lv_aload_n hx hb dX11_checksMarks_8 rfl (lv_at hl 0 rfl) ?_
    refine z_iconst C dX11_checksMarks_9 ?_
    refine z_cVv (vs := [qI 1]) C (fun q hq => ct_X11_flaw l g h l0 1 q hq) tw_1559 my_X11_flaw (fun q hq => tg_X11_flaw hq) rfl hl.1 Hh ⟨Nat.le_of_ble_eq_true rfl, Nat.le_of_ble_eq_true rfl, Nat.le_of_ble_eq_true rfl, Nat.le_of_ble_eq_true rfl⟩ (Nat.le_of_ble_eq_true rfl) dX11_checksMarks_10 rfl hm (fun h H locs Hh hm => ?_)
    exact K13 h l0 l1 _ _ _ Hh (lv_sub hl [0, 1] rfl) hm
theorem tg_X11_knownMark {h : Hp} {l0 : Int} {r : Hp × Int} (hm : M_X11_knownMark h l0 = some r) : hT h l0 = 21 := (tk_inv hm).1
set_option maxRecDepth 100000 in
set_option maxHeartbeats 4000000 in
theorem ct_X11_knownMark (l : Launch) (g : zGeo) (h0 : Hp) (l0 : Int) (r : Hp × Int) (hm : M_X11_knownMark h0 l0 = some r) : zM l yX11_knownMark cX11_knownMark 1 (some .int) 2 44 0 0 g h0 [qR g l0] r.1 (some (qI r.2)) := by
  refine z_meth (by decide) (Nat.le_of_ble_eq_true rfl) ?_
  intro p e s m args below meth c H ls C hr hlocks hnm Hh hl
  have C : zC p m c cX11_knownMark 1 s args RX11 g := C
  have hnm : meth.name = "knownMark" := hnm
  have hx := C.1.1
  have hb := C.1.2.1
  have hl : lv_has ls 1 [(0, qR g l0)] := hl
  unfold M_X11_knownMark at hm
  replace hm := (tk_inv hm).2
  generalize h0 = h at Hh hm
  refine lv_aload_n hx hb dX11_knownMark_0 rfl (lv_at hl 0 rfl) ?_
  refine z_iconst C dX11_knownMark_1 ?_
  refine z_cVv (vs := [qI 1]) C (fun q hq => ct_X11_checksMarks l g h l0 1 q hq) tw_1610 my_X11_checksMarks (fun q hq => tg_X11_checksMarks hq) rfl hl.1 Hh ⟨Nat.le_of_ble_eq_true rfl, Nat.le_of_ble_eq_true rfl, Nat.le_of_ble_eq_true rfl, Nat.le_of_ble_eq_true rfl⟩ (Nat.le_of_ble_eq_true rfl) dX11_knownMark_2 rfl hm (fun h H locs Hh hm => ?_)
  refine lv_aload_n hx hb dX11_knownMark_5 rfl (lv_at hl 0 rfl) ?_
  refine z_getI C fl_11_110 Hh dX11_knownMark_6 rfl hm (fun x1 hm => ?_)
  refine z_iconst C dX11_knownMark_9 ?_
  refine z_icmp_ne (tgt := 17) C dX11_knownMark_10 (by decide) rfl lq_p5 hm (fun _ hm => ?_) (fun _ hm => ?_)
  · refine lv_aload_n hx hb dX11_knownMark_17 rfl (lv_at hl 0 rfl) ?_
    refine z_iconst C dX11_knownMark_18 ?_
    refine z_cVIr (vs := [qI 0]) C (fun q hq => ct_X11_markAt l g h l0 0 q hq) tw_1614 my_X11_markAt (fun q hq => tg_X11_markAt hq) rfl hl.1 Hh ⟨Nat.le_of_ble_eq_true rfl, Nat.le_of_ble_eq_true rfl, Nat.le_of_ble_eq_true rfl, Nat.le_of_ble_eq_true rfl⟩ (Nat.le_of_ble_eq_true rfl) dX11_knownMark_19 rfl hm (fun x2 H locs Hh hm => ?_)
    exact z_iret C hr hlocks Hh dX11_knownMark_22 hm
  · refine z_iconst C dX11_knownMark_13 ?_
    refine lv_goto (tgt := 22) hx hb dX11_knownMark_14 (by decide) ?_
    exact z_iret C hr hlocks Hh dX11_knownMark_22 hm
theorem tg_X11_readMark {h : Hp} {l0 : Int} {r : Hp × Int} (hm : M_X11_readMark h l0 = some r) : hT h l0 = 21 := (tk_inv hm).1
set_option maxRecDepth 100000 in
set_option maxHeartbeats 4000000 in
theorem ct_X11_readMark (l : Launch) (g : zGeo) (h0 : Hp) (l0 : Int) (r : Hp × Int) (hm : M_X11_readMark h0 l0 = some r) : zM l yX11_readMark cX11_readMark 2 (some .int) 3 64 0 0 g h0 [qR g l0] r.1 (some (qI r.2)) := by
  refine z_meth (by decide) (Nat.le_of_ble_eq_true rfl) ?_
  intro p e s m args below meth c H ls C hr hlocks hnm Hh hl
  have C : zC p m c cX11_readMark 2 s args RX11 g := C
  have hnm : meth.name = "readMark" := hnm
  have hx := C.1.1
  have hb := C.1.2.1
  have hl : lv_has ls 2 [(0, qR g l0)] := hl
  unfold M_X11_readMark at hm
  replace hm := (tk_inv hm).2
  generalize h0 = h at Hh hm
  refine lv_aload_n hx hb dX11_readMark_0 rfl (lv_at hl 0 rfl) ?_
  refine z_cVI (vs := []) C (fun q hq => ct_X11_knownMark l g h l0 q hq) tw_1658 my_X11_knownMark (fun q hq => tg_X11_knownMark hq) rfl hl.1 Hh ⟨Nat.le_of_ble_eq_true rfl, Nat.le_of_ble_eq_true rfl, Nat.le_of_ble_eq_true rfl, Nat.le_of_ble_eq_true rfl⟩ (Nat.le_of_ble_eq_true rfl) dX11_readMark_1 rfl hm (fun h x1 H locs Hh hm => ?_)
  refine lv_istore_n (lv' := [(1, qI x1), (0, qR g l0)]) hx hb dX11_readMark_4 rfl hl (by decide) rfl (fun ls hl => ?_)
  refine lv_aload_n hx hb dX11_readMark_5 rfl (lv_at hl 1 rfl) ?_
  refine z_cVv (vs := []) C (fun q hq => ct_X11_goesOn l g h l0 q hq) tw_1522 my_X11_goesOn (fun q hq => tg_X11_goesOn hq) rfl hl.1 Hh ⟨Nat.le_of_ble_eq_true rfl, Nat.le_of_ble_eq_true rfl, Nat.le_of_ble_eq_true rfl, Nat.le_of_ble_eq_true rfl⟩ (Nat.le_of_ble_eq_true rfl) dX11_readMark_6 rfl hm (fun h H locs Hh hm => ?_)
  refine lv_iload_n hx hb dX11_readMark_9 rfl (lv_at hl 0 rfl) ?_
  exact z_iret C hr hlocks Hh dX11_readMark_10 hm
theorem tg_X11_readRing {h : Hp} {l0 : Int} {r : Hp} (hm : M_X11_readRing h l0 = some r) : hT h l0 = 21 := (tk_inv hm).1
set_option maxRecDepth 100000 in
set_option maxHeartbeats 4000000 in
theorem ct_X11_readRing (l : Launch) (g : zGeo) (h0 : Hp) (l0 : Int) (r : Hp) (hm : M_X11_readRing h0 l0 = some r) : zM l yX11_readRing cX11_readRing 4 none 9 238 0 0 g h0 [qR g l0] r none := by
  refine z_meth (by decide) (Nat.le_of_ble_eq_true rfl) ?_
  intro p e s m args below meth c H ls C hr hlocks hnm Hh hl
  have C : zC p m c cX11_readRing 4 s args RX11 g := C
  have hnm : meth.name = "readRing" := hnm
  have hx := C.1.1
  have hb := C.1.2.1
  have hl : lv_has ls 4 [(0, qR g l0)] := hl
  unfold M_X11_readRing at hm
  replace hm := (tk_inv hm).2
  generalize h0 = h at Hh hm
  have K15 : ∀ (h : Hp) (l0 : Int) (H : Heap) (locs : List Loc) (ls : Array Slot), zH g s h H locs → lv_has ls 4 [(0, qR g l0)] → M_X11_readRing_p15 h l0 = some r → W p l e { frames := 9, cells := 0, slots := 0, locals := 238 } s m args below meth c H locs 0 0 (zQ below g r none args s 0 0) (F0 m 15 ls []) := by
    intro h l0  H locs ls Hh hl hm
    unfold M_X11_readRing_p15 at hm
    refine lv_aload_n hx hb dX11_readRing_15 rfl (lv_at hl 0 rfl) ?_
    refine z_cVv (vs := []) C (fun q hq => ct_X11_goesOn l g h l0 q hq) tw_1522 my_X11_goesOn (fun q hq => tg_X11_goesOn hq) rfl hl.1 Hh ⟨Nat.le_of_ble_eq_true rfl, Nat.le_of_ble_eq_true rfl, Nat.le_of_ble_eq_true rfl, Nat.le_of_ble_eq_true rfl⟩ (Nat.le_of_ble_eq_true rfl) dX11_readRing_16 rfl hm (fun h H locs Hh hm => ?_)
    refine lv_aload_n hx hb dX11_readRing_19 rfl (lv_at hl 0 rfl) ?_
    refine z_ldcS (i := 5) (tx := "wide") C dX11_readRing_20 (by decide) ?_
    refine z_iconst C dX11_readRing_22 ?_
    refine z_bipush C dX11_readRing_23 rfl ?_
    refine z_cVI (vs := [qS g 5, qI 2, qI 6]) C (fun q hq => ct_X11_readPart l g h l0 5 2 6 q hq) tw_1564 my_X11_readPart (fun q hq => tg_X11_readPart hq) rfl hl.1 Hh ⟨Nat.le_of_ble_eq_true rfl, Nat.le_of_ble_eq_true rfl, Nat.le_of_ble_eq_true rfl, Nat.le_of_ble_eq_true rfl⟩ (Nat.le_of_ble_eq_true rfl) dX11_readRing_25 rfl hm (fun h x1 H locs Hh hm => ?_)
    refine lv_istore_n (lv' := [(1, qI x1), (0, qR g l0)]) hx hb dX11_readRing_28 rfl hl (by decide) rfl (fun ls hl => ?_)
    refine lv_aload_n hx hb dX11_readRing_29 rfl (lv_at hl 1 rfl) ?_
    refine z_ldcS (i := 6) (tx := "high") C dX11_readRing_30 (by decide) ?_
    refine z_iconst C dX11_readRing_32 ?_
    refine z_bipush C dX11_readRing_33 rfl ?_
    refine z_cVI (vs := [qS g 6, qI 2, qI 6]) C (fun q hq => ct_X11_readPart l g h l0 6 2 6 q hq) tw_1564 my_X11_readPart (fun q hq => tg_X11_readPart hq) rfl hl.1 Hh ⟨Nat.le_of_ble_eq_true rfl, Nat.le_of_ble_eq_true rfl, Nat.le_of_ble_eq_true rfl, Nat.le_of_ble_eq_true rfl⟩ (Nat.le_of_ble_eq_true rfl) dX11_readRing_35 rfl hm (fun h x2 H locs Hh hm => ?_)
    refine lv_istore_n (lv' := [(2, qI x2), (1, qI x1), (0, qR g l0)]) hx hb dX11_readRing_38 rfl hl (by decide) rfl (fun ls hl => ?_)
    refine lv_aload_n hx hb dX11_readRing_39 rfl (lv_at hl 2 rfl) ?_
    refine z_ldcS (i := 7) (tx := "marks") C dX11_readRing_40 (by decide) ?_
    refine z_iconst C dX11_readRing_42 ?_
    refine z_bipush C dX11_readRing_43 rfl ?_
    refine z_cVI (vs := [qS g 7, qI 2, qI 6]) C (fun q hq => ct_X11_readPart l g h l0 7 2 6 q hq) tw_1564 my_X11_readPart (fun q hq => tg_X11_readPart hq) rfl hl.1 Hh ⟨Nat.le_of_ble_eq_true rfl, Nat.le_of_ble_eq_true rfl, Nat.le_of_ble_eq_true rfl, Nat.le_of_ble_eq_true rfl⟩ (Nat.le_of_ble_eq_true rfl) dX11_readRing_45 rfl hm (fun h x3 H locs Hh hm => ?_)
    refine lv_istore_n (lv' := [(3, qI x3), (2, qI x2), (1, qI x1), (0, qR g l0)]) hx hb dX11_readRing_48 rfl hl (by decide) rfl (fun ls hl => ?_)
    refine lv_aload_n hx hb dX11_readRing_49 rfl (lv_at hl 3 rfl) ?_
    refine z_getI C fl_11_110 Hh dX11_readRing_50 rfl hm (fun x4 hm => ?_)
    refine z_iconst C dX11_readRing_53 ?_
    refine z_icmp_ne (tgt := 58) C dX11_readRing_54 (by decide) rfl lq_p5 hm (fun _ hm => ?_) (fun _ hm => ?_)
    · refine lv_aload_n hx hb dX11_readRing_58 rfl (lv_at hl 3 rfl) ?_
      refine z_getR C fl_11_190 Hh dX11_readRing_59 rfl hm (fun x5 hm => ?_)
      refine lv_iload_n hx hb dX11_readRing_62 rfl (lv_at hl 2 rfl) ?_
      refine z_putI C hnm pl_11_194 Hh dX11_readRing_63 rfl hm (fun h H locs Hh hm => ?_)
      refine lv_aload_n hx hb dX11_readRing_66 rfl (lv_at hl 3 rfl) ?_
      refine z_getR C fl_11_190 Hh dX11_readRing_67 rfl hm (fun x6 hm => ?_)
      refine lv_iload_n hx hb dX11_readRing_70 rfl (lv_at hl 1 rfl) ?_
      refine z_putI C hnm pl_11_256 Hh dX11_readRing_71 rfl hm (fun h H locs Hh hm => ?_)
      refine lv_aload_n hx hb dX11_readRing_74 rfl (lv_at hl 3 rfl) ?_
      refine z_getR C fl_11_190 Hh dX11_readRing_75 rfl hm (fun x7 hm => ?_)
      refine lv_iload_n hx hb dX11_readRing_78 rfl (lv_at hl 0 rfl) ?_
      refine z_putI C hnm pl_11_215 Hh dX11_readRing_79 rfl hm (fun h H locs Hh hm => ?_)
      exact z_vret C hr hlocks Hh dX11_readRing_82 hm
    · exact z_vret C hr hlocks Hh dX11_readRing_57 hm
  refine lv_aload_n hx hb dX11_readRing_0 rfl (lv_at hl 0 rfl) ?_
  refine z_getR C fl_11_190 Hh dX11_readRing_1 rfl hm (fun x8 hm => ?_)
  refine z_getI C fl_11_194 Hh dX11_readRing_4 rfl hm (fun x9 hm => ?_)
  refine z_if_le (tgt := 15) C dX11_readRing_7 (by decide) rfl hm (fun _ hm => ?_) (fun _ hm => ?_)
  · exact K15 h l0 _ _ _ Hh (lv_sub hl [0] rfl) hm
  · refine lv_aload_n hx hb dX11_readRing_10 rfl (lv_at hl 0 rfl) ?_
    refine z_iconst C dX11_readRing_11 ?_
    refine z_cVv (vs := [qI 3]) C (fun q hq => ct_X11_flaw l g h l0 3 q hq) tw_1559 my_X11_flaw (fun q hq => tg_X11_flaw hq) rfl hl.1 Hh ⟨Nat.le_of_ble_eq_true rfl, Nat.le_of_ble_eq_true rfl, Nat.le_of_ble_eq_true rfl, Nat.le_of_ble_eq_true rfl⟩ (Nat.le_of_ble_eq_true rfl) dX11_readRing_12 rfl hm (fun h H locs Hh hm => ?_)
    exact K15 h l0 _ _ _ Hh (lv_sub hl [0] rfl) hm
theorem tg_X11_clears {h : Hp} {l0 l1 l2 : Int} {r : Hp} (hm : M_X11_clears h l0 l1 l2 = some r) : hT h l0 = 21 := (tk_inv hm).1
set_option maxRecDepth 100000 in
set_option maxHeartbeats 4000000 in
theorem ct_X11_clears (l : Launch) (g : zGeo) (h0 : Hp) (l0 l1 l2 : Int) (r : Hp) (hm : M_X11_clears h0 l0 l1 l2 = some r) : zM l yX11_clears cX11_clears 4 none 0 0 0 0 g h0 [qR g l0, qR g l1, qI l2] r none := by
  refine z_meth (by decide) (Nat.le_of_ble_eq_true rfl) ?_
  intro p e s m args below meth c H ls C hr hlocks hnm Hh hl
  have C : zC p m c cX11_clears 4 s args RX11 g := C
  have hnm : meth.name = "clears" := hnm
  have hx := C.1.1
  have hb := C.1.2.1
  have hl : lv_has ls 4 [(0, qR g l0), (1, qR g l1), (2, qI l2)] := hl
  unfold M_X11_clears at hm
  replace hm := (tk_inv hm).2
  generalize h0 = h at Hh hm
  have K28 : ∀ (h : Hp) (H : Heap) (locs : List Loc) (ls : Array Slot), zH g s h H locs → lv_has ls 4 [] → M_X11_clears_p28 h = some r → W p l e { frames := 0, cells := 0, slots := 0, locals := 0 } s m args below meth c H locs 0 0 (zQ below g r none args s 0 0) (F0 m 28 ls []) := by
    intro h  H locs ls Hh hl hm
    unfold M_X11_clears_p28 at hm
    exact z_vret C hr hlocks Hh dX11_clears_28 hm
  have KL8 : ∀ (n : Nat) (h : Hp) (l1 l2 l3 : Int) (H : Heap) (locs : List Loc) (ls : Array Slot), zH g s h H locs → lv_has ls 4 [(1, qR g l1), (2, qI l2), (3, qI l3)] → M_X11_clears_w8 n h l1 l2 l3 = some r → W p l e { frames := 0, cells := 0, slots := 0, locals := 0 } s m args below meth c H locs 0 0 (zQ below g r none args s 0 0) (F0 m 8 ls []) := by
    intro n
    induction n with
    | zero => intro h l1 l2 l3 H locs ls Hh hl hm; cases hm
    | succ n ih8 =>
      intro h l1 l2 l3 H locs ls Hh hl hm
      obtain ⟨z8, hm, hc8⟩ := wh_inv hm
      have hm : M_X11_clears_b8 h l1 l2 l3 = some z8 := hm
      unfold M_X11_clears_b8 at hm
      refine lv_iload_n hx hb dX11_clears_8 rfl (lv_at hl 2 rfl) ?_
      refine z_iconst C dX11_clears_9 ?_
      refine z_icmp_ge (tgt := 28) C dX11_clears_10 (by decide) rfl lq_p4 hm (fun _ hm => ?_) (fun _ hm => ?_)
      · cases hm
        exact K28 h _ _ _ Hh (lv_sub hl [] rfl) hc8
      · refine lv_aload_n hx hb dX11_clears_13 rfl (lv_at hl 0 rfl) ?_
        refine z_iconst C dX11_clears_14 ?_
        refine lv_iload_n hx hb dX11_clears_15 rfl (lv_at hl 1 rfl) ?_
        refine z_imul C dX11_clears_16 ?_
        refine lv_iload_n hx hb dX11_clears_17 rfl (lv_at hl 2 rfl) ?_
        refine z_iadd C dX11_clears_18 ?_
        refine z_bipush C dX11_clears_19 rfl ?_
        refine z_iast C Hh dX11_clears_21 hm (fun h H locs Hh hm => ?_)
        refine z_iinc (x := l3) (k := 2) (lv' := [(3, qI (l3 + 1)), (1, qR g l1), (2, qI l2)]) C dX11_clears_22 hl rfl (by decide) rfl (fun ls hl => ?_)
        refine lv_goto (tgt := 8) hx hb dX11_clears_25 (by decide) ?_
        cases hm
        exact ih8 h l1 l2 (l3 + 1) _ _ _ Hh (lv_sub hl [1, 2, 0] rfl) hc8
  refine lv_aload_n hx hb dX11_clears_0 rfl (lv_at hl 1 rfl) ?_
  refine z_iconst C dX11_clears_1 ?_
  refine lv_iload_n hx hb dX11_clears_2 rfl (lv_at hl 2 rfl) ?_
  refine z_imul C dX11_clears_3 ?_
  refine z_iconst C dX11_clears_4 ?_
  refine z_iast C Hh dX11_clears_5 hm (fun h H locs Hh hm => ?_)
  refine z_iconst C dX11_clears_6 ?_
  refine lv_istore_n (lv' := [(3, qI 1), (0, qR g l0), (1, qR g l1), (2, qI l2)]) hx hb dX11_clears_7 rfl hl (by decide) rfl (fun ls hl => ?_)
  exact KL8 FU h l1 l2 1 _ _ _ Hh (lv_sub hl [2, 3, 0] rfl) hm
theorem tg_X11_readTownLine {h : Hp} {l0 : Int} {r : Hp} (hm : M_X11_readTownLine h l0 = some r) : hT h l0 = 21 := (tk_inv hm).1
set_option maxRecDepth 100000 in
set_option maxHeartbeats 4000000 in
theorem ct_X11_readTownLine (l : Launch) (g : zGeo) (h0 : Hp) (l0 : Int) (r : Hp) (hm : M_X11_readTownLine h0 l0 = some r) : zM l yX11_readTownLine cX11_readTownLine 5 none 8 214 0 0 g h0 [qR g l0] r none := by
  refine z_meth (by decide) (Nat.le_of_ble_eq_true rfl) ?_
  intro p e s m args below meth c H ls C hr hlocks hnm Hh hl
  have C : zC p m c cX11_readTownLine 5 s args RX11 g := C
  have hnm : meth.name = "readTownLine" := hnm
  have hx := C.1.1
  have hb := C.1.2.1
  have hl : lv_has ls 5 [(0, qR g l0)] := hl
  unfold M_X11_readTownLine at hm
  replace hm := (tk_inv hm).2
  generalize h0 = h at Hh hm
  have K196 : ∀ (h : Hp) (l0 l1 : Int) (H : Heap) (locs : List Loc) (ls : Array Slot), zH g s h H locs → lv_has ls 5 [(0, qR g l0), (1, qJ l1)] → M_X11_readTownLine_p196 h l0 l1 = some r → W p l e { frames := 8, cells := 0, slots := 0, locals := 214 } s m args below meth c H locs 0 0 (zQ below g r none args s 0 0) (F0 m 196 ls []) := by
    intro h l0 l1  H locs ls Hh hl hm
    unfold M_X11_readTownLine_p196 at hm
    refine lv_aload_n hx hb dX11_readTownLine_196 rfl (lv_at hl 0 rfl) ?_
    refine z_getI C fl_11_110 Hh dX11_readTownLine_197 rfl hm (fun x1 hm => ?_)
    refine z_iconst C dX11_readTownLine_200 ?_
    refine z_icmp_ne (tgt := 205) C dX11_readTownLine_201 (by decide) rfl lq_p5 hm (fun _ hm => ?_) (fun _ hm => ?_)
    · refine lv_aload_n hx hb dX11_readTownLine_205 rfl (lv_at hl 0 rfl) ?_
      refine z_getR C fl_11_190 Hh dX11_readTownLine_206 rfl hm (fun x2 hm => ?_)
      refine z_getR C fl_11_265 Hh dX11_readTownLine_209 rfl hm (fun x3 hm => ?_)
      refine lv_aload_n hx hb dX11_readTownLine_212 rfl (lv_at hl 0 rfl) ?_
      refine z_getR C fl_11_190 Hh dX11_readTownLine_213 rfl hm (fun x4 hm => ?_)
      refine z_getI C fl_11_230 Hh dX11_readTownLine_216 rfl hm (fun x5 hm => ?_)
      refine lv_lload_n hx hb dX11_readTownLine_219 rfl (lv_at hl 1 rfl) ?_
      refine z_last C Hh dX11_readTownLine_220 hm (fun h H locs Hh hm => ?_)
      refine lv_aload_n hx hb dX11_readTownLine_221 rfl (lv_at hl 0 rfl) ?_
      refine z_getR C fl_11_190 Hh dX11_readTownLine_222 rfl hm (fun x6 hm => ?_)
      refine z_getR C fl_11_268 Hh dX11_readTownLine_225 rfl hm (fun x7 hm => ?_)
      refine lv_aload_n hx hb dX11_readTownLine_228 rfl (lv_at hl 0 rfl) ?_
      refine z_getR C fl_11_190 Hh dX11_readTownLine_229 rfl hm (fun x8 hm => ?_)
      refine z_getI C fl_11_230 Hh dX11_readTownLine_232 rfl hm (fun x9 hm => ?_)
      refine z_bipush C dX11_readTownLine_235 rfl ?_
      refine z_iast C Hh dX11_readTownLine_237 hm (fun h H locs Hh hm => ?_)
      refine lv_aload_n hx hb dX11_readTownLine_238 rfl (lv_at hl 0 rfl) ?_
      refine lv_aload_n hx hb dX11_readTownLine_239 rfl (lv_at hl 0 rfl) ?_
      refine z_getR C fl_11_190 Hh dX11_readTownLine_240 rfl hm (fun x10 hm => ?_)
      refine z_getR C fl_11_270 Hh dX11_readTownLine_243 rfl hm (fun x11 hm => ?_)
      refine lv_aload_n hx hb dX11_readTownLine_246 rfl (lv_at hl 0 rfl) ?_
      refine z_getR C fl_11_190 Hh dX11_readTownLine_247 rfl hm (fun x12 hm => ?_)
      refine z_getI C fl_11_230 Hh dX11_readTownLine_250 rfl hm (fun x13 hm => ?_)
      refine z_cVv (vs := [qR g x11, qI x13]) C (fun q hq => ct_X11_clears l g h l0 x11 x13 q hq) tw_1619 my_X11_clears (fun q hq => tg_X11_clears hq) rfl hl.1 Hh ⟨Nat.le_of_ble_eq_true rfl, Nat.le_of_ble_eq_true rfl, Nat.le_of_ble_eq_true rfl, Nat.le_of_ble_eq_true rfl⟩ (Nat.le_of_ble_eq_true rfl) dX11_readTownLine_253 rfl hm (fun h H locs Hh hm => ?_)
      refine lv_aload_n hx hb dX11_readTownLine_256 rfl (lv_at hl 0 rfl) ?_
      refine z_getR C fl_11_190 Hh dX11_readTownLine_257 rfl hm (fun x14 hm => ?_)
      refine lv_dup hx hb dX11_readTownLine_260 rfl ?_
      refine z_getI C fl_11_230 Hh dX11_readTownLine_261 rfl hm (fun x15 hm => ?_)
      refine z_iconst C dX11_readTownLine_264 ?_
      refine z_iadd C dX11_readTownLine_265 ?_
      refine z_putI C hnm pl_11_230 Hh dX11_readTownLine_266 rfl hm (fun h H locs Hh hm => ?_)
      exact z_vret C hr hlocks Hh dX11_readTownLine_269 hm
    · exact z_vret C hr hlocks Hh dX11_readTownLine_204 hm
  have KL56 : ∀ (n : Nat) (h : Hp) (l0 l1 l3 : Int) (H : Heap) (locs : List Loc) (ls : Array Slot), zH g s h H locs → lv_has ls 5 [(0, qR g l0), (1, qJ l1), (3, qI l3)] → M_X11_readTownLine_w56 n h l0 l1 l3 = some r → W p l e { frames := 8, cells := 0, slots := 0, locals := 214 } s m args below meth c H locs 0 0 (zQ below g r none args s 0 0) (F0 m 56 ls []) := by
    intro n
    induction n with
    | zero => intro h l0 l1 l3 H locs ls Hh hl hm; cases hm
    | succ n ih56 =>
      intro h l0 l1 l3 H locs ls Hh hl hm
      obtain ⟨z56, hm, hc56⟩ := wh_inv hm
      have hm : M_X11_readTownLine_b56 h l0 l1 l3 = some z56 := hm
      have K186 : ∀ (h : Hp) (l3 : Int) (H : Heap) (locs : List Loc) (ls : Array Slot), zH g s h H locs → lv_has ls 5 [(0, qR g l0), (1, qJ l1), (3, qI l3)] → M_X11_readTownLine_p186 h l0 l1 l3 = some z56 → W p l e { frames := 8, cells := 0, slots := 0, locals := 214 } s m args below meth c H locs 0 0 (zQ below g r none args s 0 0) (F0 m 186 ls []) := by
        intro h l3  H locs ls Hh hl hm
        unfold M_X11_readTownLine_p186 at hm
        refine lv_aload_n hx hb dX11_readTownLine_186 rfl (lv_at hl 0 rfl) ?_
        refine z_cVv (vs := []) C (fun q hq => ct_X11_goesOn l g h l0 q hq) tw_1522 my_X11_goesOn (fun q hq => tg_X11_goesOn hq) rfl hl.1 Hh ⟨Nat.le_of_ble_eq_true rfl, Nat.le_of_ble_eq_true rfl, Nat.le_of_ble_eq_true rfl, Nat.le_of_ble_eq_true rfl⟩ (Nat.le_of_ble_eq_true rfl) dX11_readTownLine_187 rfl hm (fun h H locs Hh hm => ?_)
        refine z_iinc (x := l3) (k := 2) (lv' := [(3, qI (l3 + 1)), (0, qR g l0), (1, qJ l1)]) C dX11_readTownLine_190 hl rfl (by decide) rfl (fun ls hl => ?_)
        refine lv_goto (tgt := 56) hx hb dX11_readTownLine_193 (by decide) ?_
        cases hm
        exact ih56 h l0 l1 (l3 + 1) _ _ _ Hh (lv_sub hl [1, 2, 0] rfl) hc56
      have KL131 : ∀ (n : Nat) (h : Hp) (l3 l4 : Int) (H : Heap) (locs : List Loc) (ls : Array Slot), zH g s h H locs → lv_has ls 5 [(0, qR g l0), (1, qJ l1), (3, qI l3), (4, qI l4)] → M_X11_readTownLine_w131 n h l0 l1 l3 l4 = some z56 → W p l e { frames := 8, cells := 0, slots := 0, locals := 214 } s m args below meth c H locs 0 0 (zQ below g r none args s 0 0) (F0 m 131 ls []) := by
        intro n
        induction n with
        | zero => intro h l3 l4 H locs ls Hh hl hm; cases hm
        | succ n ih131 =>
          intro h l3 l4 H locs ls Hh hl hm
          obtain ⟨z131, hm, hc131⟩ := wh_inv hm
          have hm : M_X11_readTownLine_b131 h l0 l1 l3 l4 = some z131 := hm
          unfold M_X11_readTownLine_b131 at hm
          refine lv_iload hx hb dX11_readTownLine_131 (lv_at hl 3 rfl) ?_
          refine lv_aload_n hx hb dX11_readTownLine_133 rfl (lv_at hl 0 rfl) ?_
          refine z_getR C fl_11_190 Hh dX11_readTownLine_134 rfl hm (fun x16 hm => ?_)
          refine z_getI C fl_11_194 Hh dX11_readTownLine_137 rfl hm (fun x17 hm => ?_)
          refine z_icmp_ge (tgt := 186) C dX11_readTownLine_140 (by decide) rfl rfl hm (fun _ hm => ?_) (fun _ hm => ?_)
          · cases hm
            exact K186 h l3 _ _ _ Hh (lv_sub hl [0, 1, 2] rfl) hc131
          · refine lv_aload_n hx hb dX11_readTownLine_143 rfl (lv_at hl 0 rfl) ?_
            refine z_getR C fl_11_190 Hh dX11_readTownLine_144 rfl hm (fun x18 hm => ?_)
            refine z_getR C fl_11_262 Hh dX11_readTownLine_147 rfl hm (fun x19 hm => ?_)
            refine z_bipush C dX11_readTownLine_150 rfl ?_
            refine lv_aload_n hx hb dX11_readTownLine_152 rfl (lv_at hl 0 rfl) ?_
            refine z_getR C fl_11_190 Hh dX11_readTownLine_153 rfl hm (fun x20 hm => ?_)
            refine z_getI C fl_11_230 Hh dX11_readTownLine_156 rfl hm (fun x21 hm => ?_)
            refine z_imul C dX11_readTownLine_159 ?_
            refine lv_iload_n hx hb dX11_readTownLine_160 rfl (lv_at hl 2 rfl) ?_
            refine lv_aload_n hx hb dX11_readTownLine_161 rfl (lv_at hl 0 rfl) ?_
            refine z_getR C fl_11_190 Hh dX11_readTownLine_162 rfl hm (fun x22 hm => ?_)
            refine z_getI C fl_11_194 Hh dX11_readTownLine_165 rfl hm (fun x23 hm => ?_)
            refine z_imul C dX11_readTownLine_168 ?_
            refine z_iadd C dX11_readTownLine_169 ?_
            refine lv_iload hx hb dX11_readTownLine_170 (lv_at hl 3 rfl) ?_
            refine z_iadd C dX11_readTownLine_172 ?_
            refine lv_aload_n hx hb dX11_readTownLine_173 rfl (lv_at hl 0 rfl) ?_
            refine lv_iload hx hb dX11_readTownLine_174 (lv_at hl 3 rfl) ?_
            refine z_cVIr (vs := [qI l4]) C (fun q hq => ct_X11_markAt l g h l0 l4 q hq) tw_1614 my_X11_markAt (fun q hq => tg_X11_markAt hq) rfl hl.1 Hh ⟨Nat.le_of_ble_eq_true rfl, Nat.le_of_ble_eq_true rfl, Nat.le_of_ble_eq_true rfl, Nat.le_of_ble_eq_true rfl⟩ (Nat.le_of_ble_eq_true rfl) dX11_readTownLine_176 rfl hm (fun x24 H locs Hh hm => ?_)
            refine z_iast C Hh dX11_readTownLine_179 hm (fun h H locs Hh hm => ?_)
            refine z_iinc (x := l4) (k := 3) (lv' := [(4, qI (l4 + 1)), (0, qR g l0), (1, qJ l1), (3, qI l3)]) C dX11_readTownLine_180 hl rfl (by decide) rfl (fun ls hl => ?_)
            refine lv_goto (tgt := 131) hx hb dX11_readTownLine_183 (by decide) ?_
            cases hm
            exact ih131 h l3 (l4 + 1) _ _ _ Hh (lv_sub hl [1, 2, 3, 0] rfl) hc131
      have K108 : ∀ (h : Hp) (l3 : Int) (H : Heap) (locs : List Loc) (ls : Array Slot), zH g s h H locs → lv_has ls 5 [(0, qR g l0), (1, qJ l1), (3, qI l3)] → M_X11_readTownLine_p108 h l0 l1 l3 = some z56 → W p l e { frames := 8, cells := 0, slots := 0, locals := 214 } s m args below meth c H locs 0 0 (zQ below g r none args s 0 0) (F0 m 108 ls []) := by
        intro h l3  H locs ls Hh hl hm
        unfold M_X11_readTownLine_p108 at hm
        refine lv_aload_n hx hb dX11_readTownLine_108 rfl (lv_at hl 0 rfl) ?_
        refine lv_aload_n hx hb dX11_readTownLine_109 rfl (lv_at hl 0 rfl) ?_
        refine z_getR C fl_11_190 Hh dX11_readTownLine_110 rfl hm (fun x25 hm => ?_)
        refine z_getI C fl_11_194 Hh dX11_readTownLine_113 rfl hm (fun x26 hm => ?_)
        refine z_cVv (vs := [qI x26]) C (fun q hq => ct_X11_checksMarks l g h l0 x26 q hq) tw_1610 my_X11_checksMarks (fun q hq => tg_X11_checksMarks hq) rfl hl.1 Hh ⟨Nat.le_of_ble_eq_true rfl, Nat.le_of_ble_eq_true rfl, Nat.le_of_ble_eq_true rfl, Nat.le_of_ble_eq_true rfl⟩ (Nat.le_of_ble_eq_true rfl) dX11_readTownLine_116 rfl hm (fun h H locs Hh hm => ?_)
        refine lv_aload_n hx hb dX11_readTownLine_119 rfl (lv_at hl 0 rfl) ?_
        refine z_getI C fl_11_110 Hh dX11_readTownLine_120 rfl hm (fun x27 hm => ?_)
        refine z_iconst C dX11_readTownLine_123 ?_
        refine z_icmp_ne (tgt := 128) C dX11_readTownLine_124 (by decide) rfl lq_p5 hm (fun _ hm => ?_) (fun _ hm => ?_)
        · refine z_iconst C dX11_readTownLine_128 ?_
          refine lv_istore (lv' := [(4, qI 0), (0, qR g l0), (1, qJ l1), (3, qI l3)]) hx hb dX11_readTownLine_129 hl (by decide) rfl (fun ls hl => ?_)
          exact KL131 FU h l3 0 _ _ _ Hh (lv_sub hl [1, 2, 3, 0] rfl) hm
        · cases hm
          have hm := hc56
          exact z_vret C hr hlocks Hh dX11_readTownLine_127 hm
      have K98 : ∀ (h : Hp) (s0 : Int) (H : Heap) (locs : List Loc) (ls : Array Slot), zH g s h H locs → lv_has ls 5 [] → M_X11_readTownLine_p98 h s0 = some z56 → W p l e { frames := 8, cells := 0, slots := 0, locals := 214 } s m args below meth c H locs 0 0 (zQ below g r none args s 0 0) (F0 m 98 ls [qR g s0]) := by
        intro h s0 H locs ls Hh hl hm
        unfold M_X11_readTownLine_p98 at hm
        refine z_bipush C dX11_readTownLine_98 rfl ?_
        refine lv_goto (tgt := 104) hx hb dX11_readTownLine_100 (by decide) ?_
        refine z_cVv (vs := [qI 6]) C (fun q hq => ct_X11_flaw l g h s0 6 q hq) tw_1559 my_X11_flaw (fun q hq => tg_X11_flaw hq) rfl hl.1 Hh ⟨Nat.le_of_ble_eq_true rfl, Nat.le_of_ble_eq_true rfl, Nat.le_of_ble_eq_true rfl, Nat.le_of_ble_eq_true rfl⟩ (Nat.le_of_ble_eq_true rfl) dX11_readTownLine_104 rfl hm (fun h H locs Hh hm => ?_)
        cases hm
        have hm := hc56
        exact z_vret C hr hlocks Hh dX11_readTownLine_107 hm
      unfold M_X11_readTownLine_b56 at hm
      refine lv_iload_n hx hb dX11_readTownLine_56 rfl (lv_at hl 2 rfl) ?_
      refine lv_aload_n hx hb dX11_readTownLine_57 rfl (lv_at hl 0 rfl) ?_
      refine z_getR C fl_11_190 Hh dX11_readTownLine_58 rfl hm (fun x28 hm => ?_)
      refine z_getI C fl_11_256 Hh dX11_readTownLine_61 rfl hm (fun x29 hm => ?_)
      refine z_icmp_ge (tgt := 196) C dX11_readTownLine_64 (by decide) rfl rfl hm (fun _ hm => ?_) (fun _ hm => ?_)
      · cases hm
        exact K196 h l0 l1 _ _ _ Hh (lv_sub hl [0, 1] rfl) hc56
      · refine lv_iload_n hx hb dX11_readTownLine_67 rfl (lv_at hl 2 rfl) ?_
        refine z_if_le (tgt := 108) C dX11_readTownLine_68 (by decide) rfl hm (fun _ hm => ?_) (fun _ hm => ?_)
        · exact K108 h l3 _ _ _ Hh (lv_sub hl [0, 1, 2] rfl) hm
        · refine lv_aload_n hx hb dX11_readTownLine_71 rfl (lv_at hl 0 rfl) ?_
          refine z_bipush C dX11_readTownLine_72 rfl ?_
          refine z_cVI (vs := [qI 44]) C (fun q hq => ct_X11_eatsSign l g h l0 44 q hq) tw_1602 my_X11_eatsSign (fun q hq => tg_X11_eatsSign hq) rfl hl.1 Hh ⟨Nat.le_of_ble_eq_true rfl, Nat.le_of_ble_eq_true rfl, Nat.le_of_ble_eq_true rfl, Nat.le_of_ble_eq_true rfl⟩ (Nat.le_of_ble_eq_true rfl) dX11_readTownLine_74 rfl hm (fun h x30 H locs Hh hm => ?_)
          refine z_if_ne (tgt := 108) C dX11_readTownLine_77 (by decide) rfl hm (fun _ hm => ?_) (fun _ hm => ?_)
          · exact K108 h l3 _ _ _ Hh (lv_sub hl [0, 1, 2] rfl) hm
          · refine lv_aload_n hx hb dX11_readTownLine_80 rfl (lv_at hl 0 rfl) ?_
            refine lv_aload_n hx hb dX11_readTownLine_81 rfl (lv_at hl 0 rfl) ?_
            refine z_bipush C dX11_readTownLine_82 rfl ?_
            refine z_cVIr (vs := [qI 59]) C (fun q hq => ct_X11_isSign l g h l0 59 q hq) tw_1606 my_X11_isSign (fun q hq => tg_X11_isSign hq) rfl hl.1 Hh ⟨Nat.le_of_ble_eq_true rfl, Nat.le_of_ble_eq_true rfl, Nat.le_of_ble_eq_true rfl, Nat.le_of_ble_eq_true rfl⟩ (Nat.le_of_ble_eq_true rfl) dX11_readTownLine_84 rfl hm (fun x31 H locs Hh hm => ?_)
            refine z_if_ne (tgt := 98) C dX11_readTownLine_87 (by decide) rfl hm (fun _ hm => ?_) (fun _ hm => ?_)
            · exact K98 h l0 _ _ _ Hh (lv_sub hl [] rfl) hm
            · refine lv_aload_n hx hb dX11_readTownLine_90 rfl (lv_at hl 0 rfl) ?_
              refine z_getI C fl_11_110 Hh dX11_readTownLine_91 rfl hm (fun x32 hm => ?_)
              refine z_iconst C dX11_readTownLine_94 ?_
              refine z_icmp_ne (tgt := 103) C dX11_readTownLine_95 (by decide) rfl lq_p1 hm (fun _ hm => ?_) (fun _ hm => ?_)
              · refine z_iconst C dX11_readTownLine_103 ?_
                refine z_cVv (vs := [qI 1]) C (fun q hq => ct_X11_flaw l g h l0 1 q hq) tw_1559 my_X11_flaw (fun q hq => tg_X11_flaw hq) rfl hl.1 Hh ⟨Nat.le_of_ble_eq_true rfl, Nat.le_of_ble_eq_true rfl, Nat.le_of_ble_eq_true rfl, Nat.le_of_ble_eq_true rfl⟩ (Nat.le_of_ble_eq_true rfl) dX11_readTownLine_104 rfl hm (fun h H locs Hh hm => ?_)
                cases hm
                have hm := hc56
                exact z_vret C hr hlocks Hh dX11_readTownLine_107 hm
              · exact K98 h l0 _ _ _ Hh (lv_sub hl [] rfl) hm
  have K45 : ∀ (h : Hp) (l0 : Int) (H : Heap) (locs : List Loc) (ls : Array Slot), zH g s h H locs → lv_has ls 5 [(0, qR g l0)] → M_X11_readTownLine_p45 h l0 = some r → W p l e { frames := 8, cells := 0, slots := 0, locals := 214 } s m args below meth c H locs 0 0 (zQ below g r none args s 0 0) (F0 m 45 ls []) := by
    intro h l0  H locs ls Hh hl hm
    unfold M_X11_readTownLine_p45 at hm
    refine lv_aload_n hx hb dX11_readTownLine_45 rfl (lv_at hl 0 rfl) ?_
    refine z_getJ C fl_11_129 Hh dX11_readTownLine_46 rfl hm (fun x33 hm => ?_)
    refine lv_lstore_n (lv' := [(1, qJ x33), (0, qR g l0)]) hx hb dX11_readTownLine_49 rfl hl (by decide) rfl (fun ls hl => ?_)
    refine lv_aload_n hx hb dX11_readTownLine_50 rfl (lv_at hl 1 rfl) ?_
    refine z_cVv (vs := []) C (fun q hq => ct_X11_goesOn l g h l0 q hq) tw_1522 my_X11_goesOn (fun q hq => tg_X11_goesOn hq) rfl hl.1 Hh ⟨Nat.le_of_ble_eq_true rfl, Nat.le_of_ble_eq_true rfl, Nat.le_of_ble_eq_true rfl, Nat.le_of_ble_eq_true rfl⟩ (Nat.le_of_ble_eq_true rfl) dX11_readTownLine_51 rfl hm (fun h H locs Hh hm => ?_)
    refine z_iconst C dX11_readTownLine_54 ?_
    refine lv_istore_n (lv' := [(3, qI 0), (1, qJ x33), (0, qR g l0)]) hx hb dX11_readTownLine_55 rfl hl (by decide) rfl (fun ls hl => ?_)
    exact KL56 FU h l0 x33 0 _ _ _ Hh (lv_sub hl [2, 1, 0] rfl) hm
  have K25 : ∀ (h : Hp) (l0 : Int) (H : Heap) (locs : List Loc) (ls : Array Slot), zH g s h H locs → lv_has ls 5 [(0, qR g l0)] → M_X11_readTownLine_p25 h l0 = some r → W p l e { frames := 8, cells := 0, slots := 0, locals := 214 } s m args below meth c H locs 0 0 (zQ below g r none args s 0 0) (F0 m 25 ls []) := by
    intro h l0  H locs ls Hh hl hm
    unfold M_X11_readTownLine_p25 at hm
    refine lv_aload_n hx hb dX11_readTownLine_25 rfl (lv_at hl 0 rfl) ?_
    refine z_getR C fl_11_190 Hh dX11_readTownLine_26 rfl hm (fun x34 hm => ?_)
    refine lv_aload_n hx hb dX11_readTownLine_29 rfl (lv_at hl 0 rfl) ?_
    refine z_getJ C fl_11_129 Hh dX11_readTownLine_30 rfl hm (fun x35 hm => ?_)
    refine z_cVIr (vs := [qJ x35]) C (fun q hq => ct_X10_find l g h x34 x35 q hq) tw_1598 my_X10_find (fun q hq => tg_X10_find hq) rfl hl.1 Hh ⟨Nat.le_of_ble_eq_true rfl, Nat.le_of_ble_eq_true rfl, Nat.le_of_ble_eq_true rfl, Nat.le_of_ble_eq_true rfl⟩ (Nat.le_of_ble_eq_true rfl) dX11_readTownLine_33 rfl hm (fun x36 H locs Hh hm => ?_)
    refine z_iconst C dX11_readTownLine_36 ?_
    refine z_icmp_eq (tgt := 45) C dX11_readTownLine_37 (by decide) rfl lq_m1 hm (fun _ hm => ?_) (fun _ hm => ?_)
    · exact K45 h l0 _ _ _ Hh (lv_sub hl [0] rfl) hm
    · refine lv_aload_n hx hb dX11_readTownLine_40 rfl (lv_at hl 0 rfl) ?_
      refine z_iconst C dX11_readTownLine_41 ?_
      refine z_cVv (vs := [qI 3]) C (fun q hq => ct_X11_flaw l g h l0 3 q hq) tw_1559 my_X11_flaw (fun q hq => tg_X11_flaw hq) rfl hl.1 Hh ⟨Nat.le_of_ble_eq_true rfl, Nat.le_of_ble_eq_true rfl, Nat.le_of_ble_eq_true rfl, Nat.le_of_ble_eq_true rfl⟩ (Nat.le_of_ble_eq_true rfl) dX11_readTownLine_42 rfl hm (fun h H locs Hh hm => ?_)
      exact K45 h l0 _ _ _ Hh (lv_sub hl [0] rfl) hm
  refine lv_aload_n hx hb dX11_readTownLine_0 rfl (lv_at hl 0 rfl) ?_
  refine lv_aload_n hx hb dX11_readTownLine_1 rfl (lv_at hl 0 rfl) ?_
  refine z_getR C fl_11_190 Hh dX11_readTownLine_2 rfl hm (fun x37 hm => ?_)
  refine z_getI C fl_11_230 Hh dX11_readTownLine_5 rfl hm (fun x38 hm => ?_)
  refine z_bipush C dX11_readTownLine_8 rfl ?_
  refine z_cVv (vs := [qI x38, qI 6]) C (fun q hq => ct_X11_begins l g h l0 x38 6 q hq) tw_1586 my_X11_begins (fun q hq => tg_X11_begins hq) rfl hl.1 Hh ⟨Nat.le_of_ble_eq_true rfl, Nat.le_of_ble_eq_true rfl, Nat.le_of_ble_eq_true rfl, Nat.le_of_ble_eq_true rfl⟩ (Nat.le_of_ble_eq_true rfl) dX11_readTownLine_10 rfl hm (fun h H locs Hh hm => ?_)
  refine lv_aload_n hx hb dX11_readTownLine_13 rfl (lv_at hl 0 rfl) ?_
  refine z_cVIr (vs := []) C (fun q hq => ct_X11_isName l g h l0 q hq) tw_1590 my_X11_isName (fun q hq => tg_X11_isName hq) rfl hl.1 Hh ⟨Nat.le_of_ble_eq_true rfl, Nat.le_of_ble_eq_true rfl, Nat.le_of_ble_eq_true rfl, Nat.le_of_ble_eq_true rfl⟩ (Nat.le_of_ble_eq_true rfl) dX11_readTownLine_14 rfl hm (fun x39 H locs Hh hm => ?_)
  refine z_if_ne (tgt := 25) C dX11_readTownLine_17 (by decide) rfl hm (fun _ hm => ?_) (fun _ hm => ?_)
  · exact K25 h l0 _ _ _ Hh (lv_sub hl [0] rfl) hm
  · refine lv_aload_n hx hb dX11_readTownLine_20 rfl (lv_at hl 0 rfl) ?_
    refine z_iconst C dX11_readTownLine_21 ?_
    refine z_cVv (vs := [qI 1]) C (fun q hq => ct_X11_flaw l g h l0 1 q hq) tw_1559 my_X11_flaw (fun q hq => tg_X11_flaw hq) rfl hl.1 Hh ⟨Nat.le_of_ble_eq_true rfl, Nat.le_of_ble_eq_true rfl, Nat.le_of_ble_eq_true rfl, Nat.le_of_ble_eq_true rfl⟩ (Nat.le_of_ble_eq_true rfl) dX11_readTownLine_22 rfl hm (fun h H locs Hh hm => ?_)
    exact K25 h l0 _ _ _ Hh (lv_sub hl [0] rfl) hm
theorem tg_X11_sortOfError {h : Hp} {l0 : Int} {r : Int} (hm : M_X11_sortOfError h l0 = some r) : hT h l0 = 21 := (tk_inv hm).1
set_option maxRecDepth 100000 in
set_option maxHeartbeats 4000000 in
theorem ct_X11_sortOfError (l : Launch) (g : zGeo) (h : Hp) (l0 : Int) (r : Int) (hm : M_X11_sortOfError h l0 = some r) : zM l yX11_sortOfError cX11_sortOfError 1 (some .int) 7 194 0 0 g h [qR g l0] h (some (qI r)) := by
  refine z_meth (by decide) (Nat.le_of_ble_eq_true rfl) ?_
  intro p e s m args below meth c H ls C hr hlocks hnm Hh hl
  have C : zC p m c cX11_sortOfError 1 s args RX11 g := C
  have hnm : meth.name = "sortOfError" := hnm
  have hx := C.1.1
  have hb := C.1.2.1
  have hl : lv_has ls 1 [(0, qR g l0)] := hl
  unfold M_X11_sortOfError at hm
  replace hm := (tk_inv hm).2
  refine lv_aload_n hx hb dX11_sortOfError_0 rfl (lv_at hl 0 rfl) ?_
  refine z_ldcwS (i := 9) (tx := "true") C dX11_sortOfError_1 (by decide) ?_
  refine z_cVIr (vs := [qS g 9]) C (fun q hq => ct_X11_isWord l g h l0 9 q hq) tw_1546 my_X11_isWord (fun q hq => tg_X11_isWord hq) rfl hl.1 Hh ⟨Nat.le_of_ble_eq_true rfl, Nat.le_of_ble_eq_true rfl, Nat.le_of_ble_eq_true rfl, Nat.le_of_ble_eq_true rfl⟩ (Nat.le_of_ble_eq_true rfl) dX11_sortOfError_4 rfl hm (fun x1 H locs Hh hm => ?_)
  refine z_if_eq (tgt := 12) C dX11_sortOfError_7 (by decide) rfl hm (fun _ hm => ?_) (fun _ hm => ?_)
  · refine lv_aload_n hx hb dX11_sortOfError_12 rfl (lv_at hl 0 rfl) ?_
    refine z_ldcwS (i := 10) (tx := "blot") C dX11_sortOfError_13 (by decide) ?_
    refine z_cVIr (vs := [qS g 10]) C (fun q hq => ct_X11_isWord l g h l0 10 q hq) tw_1546 my_X11_isWord (fun q hq => tg_X11_isWord hq) rfl hl.1 Hh ⟨Nat.le_of_ble_eq_true rfl, Nat.le_of_ble_eq_true rfl, Nat.le_of_ble_eq_true rfl, Nat.le_of_ble_eq_true rfl⟩ (Nat.le_of_ble_eq_true rfl) dX11_sortOfError_16 rfl hm (fun x2 H locs Hh hm => ?_)
    refine z_if_eq (tgt := 24) C dX11_sortOfError_19 (by decide) rfl hm (fun _ hm => ?_) (fun _ hm => ?_)
    · refine lv_aload_n hx hb dX11_sortOfError_24 rfl (lv_at hl 0 rfl) ?_
      refine z_ldcwS (i := 11) (tx := "fold") C dX11_sortOfError_25 (by decide) ?_
      refine z_cVIr (vs := [qS g 11]) C (fun q hq => ct_X11_isWord l g h l0 11 q hq) tw_1546 my_X11_isWord (fun q hq => tg_X11_isWord hq) rfl hl.1 Hh ⟨Nat.le_of_ble_eq_true rfl, Nat.le_of_ble_eq_true rfl, Nat.le_of_ble_eq_true rfl, Nat.le_of_ble_eq_true rfl⟩ (Nat.le_of_ble_eq_true rfl) dX11_sortOfError_28 rfl hm (fun x3 H locs Hh hm => ?_)
      refine z_if_eq (tgt := 36) C dX11_sortOfError_31 (by decide) rfl hm (fun _ hm => ?_) (fun _ hm => ?_)
      · refine lv_aload_n hx hb dX11_sortOfError_36 rfl (lv_at hl 0 rfl) ?_
        refine z_ldcwS (i := 12) (tx := "shift") C dX11_sortOfError_37 (by decide) ?_
        refine z_cVIr (vs := [qS g 12]) C (fun q hq => ct_X11_isWord l g h l0 12 q hq) tw_1546 my_X11_isWord (fun q hq => tg_X11_isWord hq) rfl hl.1 Hh ⟨Nat.le_of_ble_eq_true rfl, Nat.le_of_ble_eq_true rfl, Nat.le_of_ble_eq_true rfl, Nat.le_of_ble_eq_true rfl⟩ (Nat.le_of_ble_eq_true rfl) dX11_sortOfError_40 rfl hm (fun x4 H locs Hh hm => ?_)
        refine z_if_eq (tgt := 48) C dX11_sortOfError_43 (by decide) rfl hm (fun _ hm => ?_) (fun _ hm => ?_)
        · refine lv_aload_n hx hb dX11_sortOfError_48 rfl (lv_at hl 0 rfl) ?_
          refine z_ldcwS (i := 13) (tx := "turn") C dX11_sortOfError_49 (by decide) ?_
          refine z_cVIr (vs := [qS g 13]) C (fun q hq => ct_X11_isWord l g h l0 13 q hq) tw_1546 my_X11_isWord (fun q hq => tg_X11_isWord hq) rfl hl.1 Hh ⟨Nat.le_of_ble_eq_true rfl, Nat.le_of_ble_eq_true rfl, Nat.le_of_ble_eq_true rfl, Nat.le_of_ble_eq_true rfl⟩ (Nat.le_of_ble_eq_true rfl) dX11_sortOfError_52 rfl hm (fun x5 H locs Hh hm => ?_)
          refine z_if_eq (tgt := 60) C dX11_sortOfError_55 (by decide) rfl hm (fun _ hm => ?_) (fun _ hm => ?_)
          · refine lv_aload_n hx hb dX11_sortOfError_60 rfl (lv_at hl 0 rfl) ?_
            refine z_ldcwS (i := 14) (tx := "swap") C dX11_sortOfError_61 (by decide) ?_
            refine z_cVIr (vs := [qS g 14]) C (fun q hq => ct_X11_isWord l g h l0 14 q hq) tw_1546 my_X11_isWord (fun q hq => tg_X11_isWord hq) rfl hl.1 Hh ⟨Nat.le_of_ble_eq_true rfl, Nat.le_of_ble_eq_true rfl, Nat.le_of_ble_eq_true rfl, Nat.le_of_ble_eq_true rfl⟩ (Nat.le_of_ble_eq_true rfl) dX11_sortOfError_64 rfl hm (fun x6 H locs Hh hm => ?_)
            refine z_if_eq (tgt := 72) C dX11_sortOfError_67 (by decide) rfl hm (fun _ hm => ?_) (fun _ hm => ?_)
            · refine lv_aload_n hx hb dX11_sortOfError_72 rfl (lv_at hl 0 rfl) ?_
              refine z_ldcwS (i := 15) (tx := "stain") C dX11_sortOfError_73 (by decide) ?_
              refine z_cVIr (vs := [qS g 15]) C (fun q hq => ct_X11_isWord l g h l0 15 q hq) tw_1546 my_X11_isWord (fun q hq => tg_X11_isWord hq) rfl hl.1 Hh ⟨Nat.le_of_ble_eq_true rfl, Nat.le_of_ble_eq_true rfl, Nat.le_of_ble_eq_true rfl, Nat.le_of_ble_eq_true rfl⟩ (Nat.le_of_ble_eq_true rfl) dX11_sortOfError_76 rfl hm (fun x7 H locs Hh hm => ?_)
              refine z_if_eq (tgt := 85) C dX11_sortOfError_79 (by decide) rfl hm (fun _ hm => ?_) (fun _ hm => ?_)
              · refine lv_aload_n hx hb dX11_sortOfError_85 rfl (lv_at hl 0 rfl) ?_
                refine z_ldcwS (i := 16) (tx := "erase") C dX11_sortOfError_86 (by decide) ?_
                refine z_cVIr (vs := [qS g 16]) C (fun q hq => ct_X11_isWord l g h l0 16 q hq) tw_1546 my_X11_isWord (fun q hq => tg_X11_isWord hq) rfl hl.1 Hh ⟨Nat.le_of_ble_eq_true rfl, Nat.le_of_ble_eq_true rfl, Nat.le_of_ble_eq_true rfl, Nat.le_of_ble_eq_true rfl⟩ (Nat.le_of_ble_eq_true rfl) dX11_sortOfError_89 rfl hm (fun x8 H locs Hh hm => ?_)
                refine z_if_eq (tgt := 98) C dX11_sortOfError_92 (by decide) rfl hm (fun _ hm => ?_) (fun _ hm => ?_)
                · refine lv_aload_n hx hb dX11_sortOfError_98 rfl (lv_at hl 0 rfl) ?_
                  refine z_ldcwS (i := 17) (tx := "stretch") C dX11_sortOfError_99 (by decide) ?_
                  refine z_cVIr (vs := [qS g 17]) C (fun q hq => ct_X11_isWord l g h l0 17 q hq) tw_1546 my_X11_isWord (fun q hq => tg_X11_isWord hq) rfl hl.1 Hh ⟨Nat.le_of_ble_eq_true rfl, Nat.le_of_ble_eq_true rfl, Nat.le_of_ble_eq_true rfl, Nat.le_of_ble_eq_true rfl⟩ (Nat.le_of_ble_eq_true rfl) dX11_sortOfError_102 rfl hm (fun x9 H locs Hh hm => ?_)
                  refine z_if_eq (tgt := 111) C dX11_sortOfError_105 (by decide) rfl hm (fun _ hm => ?_) (fun _ hm => ?_)
                  · refine lv_aload_n hx hb dX11_sortOfError_111 rfl (lv_at hl 0 rfl) ?_
                    refine z_ldcwS (i := 18) (tx := "sneeze") C dX11_sortOfError_112 (by decide) ?_
                    refine z_cVIr (vs := [qS g 18]) C (fun q hq => ct_X11_isWord l g h l0 18 q hq) tw_1546 my_X11_isWord (fun q hq => tg_X11_isWord hq) rfl hl.1 Hh ⟨Nat.le_of_ble_eq_true rfl, Nat.le_of_ble_eq_true rfl, Nat.le_of_ble_eq_true rfl, Nat.le_of_ble_eq_true rfl⟩ (Nat.le_of_ble_eq_true rfl) dX11_sortOfError_115 rfl hm (fun x10 H locs Hh hm => ?_)
                    refine z_if_eq (tgt := 124) C dX11_sortOfError_118 (by decide) rfl hm (fun _ hm => ?_) (fun _ hm => ?_)
                    · refine lv_aload_n hx hb dX11_sortOfError_124 rfl (lv_at hl 0 rfl) ?_
                      refine z_ldcwS (i := 19) (tx := "unknown") C dX11_sortOfError_125 (by decide) ?_
                      refine z_cVIr (vs := [qS g 19]) C (fun q hq => ct_X11_isWord l g h l0 19 q hq) tw_1546 my_X11_isWord (fun q hq => tg_X11_isWord hq) rfl hl.1 Hh ⟨Nat.le_of_ble_eq_true rfl, Nat.le_of_ble_eq_true rfl, Nat.le_of_ble_eq_true rfl, Nat.le_of_ble_eq_true rfl⟩ (Nat.le_of_ble_eq_true rfl) dX11_sortOfError_128 rfl hm (fun x11 H locs Hh hm => ?_)
                      refine z_if_eq (tgt := 139) C dX11_sortOfError_131 (by decide) rfl hm (fun _ hm => ?_) (fun _ hm => ?_)
                      · refine z_iconst C dX11_sortOfError_139 ?_
                        exact z_iretR (h0 := h) C hr hlocks Hh dX11_sortOfError_140 hm
                      · refine z_bipush C dX11_sortOfError_134 rfl ?_
                        refine lv_goto (tgt := 140) hx hb dX11_sortOfError_136 (by decide) ?_
                        exact z_iretR (h0 := h) C hr hlocks Hh dX11_sortOfError_140 hm
                    · refine z_bipush C dX11_sortOfError_121 rfl ?_
                      exact z_iretR (h0 := h) C hr hlocks Hh dX11_sortOfError_123 hm
                  · refine z_bipush C dX11_sortOfError_108 rfl ?_
                    exact z_iretR (h0 := h) C hr hlocks Hh dX11_sortOfError_110 hm
                · refine z_bipush C dX11_sortOfError_95 rfl ?_
                  exact z_iretR (h0 := h) C hr hlocks Hh dX11_sortOfError_97 hm
              · refine z_bipush C dX11_sortOfError_82 rfl ?_
                exact z_iretR (h0 := h) C hr hlocks Hh dX11_sortOfError_84 hm
            · refine z_iconst C dX11_sortOfError_70 ?_
              exact z_iretR (h0 := h) C hr hlocks Hh dX11_sortOfError_71 hm
          · refine z_iconst C dX11_sortOfError_58 ?_
            exact z_iretR (h0 := h) C hr hlocks Hh dX11_sortOfError_59 hm
        · refine z_iconst C dX11_sortOfError_46 ?_
          exact z_iretR (h0 := h) C hr hlocks Hh dX11_sortOfError_47 hm
      · refine z_iconst C dX11_sortOfError_34 ?_
        exact z_iretR (h0 := h) C hr hlocks Hh dX11_sortOfError_35 hm
    · refine z_iconst C dX11_sortOfError_22 ?_
      exact z_iretR (h0 := h) C hr hlocks Hh dX11_sortOfError_23 hm
  · refine z_iconst C dX11_sortOfError_10 ?_
    exact z_iretR (h0 := h) C hr hlocks Hh dX11_sortOfError_11 hm
theorem tg_X11_readError {h : Hp} {l0 l1 l2 l3 : Int} {r : Hp} (hm : M_X11_readError h l0 l1 l2 l3 = some r) : hT h l0 = 21 := (tk_inv hm).1
set_option maxRecDepth 100000 in
set_option maxHeartbeats 4000000 in
theorem ct_X11_readError (l : Launch) (g : zGeo) (h0 : Hp) (l0 l1 l2 l3 : Int) (r : Hp) (hm : M_X11_readError h0 l0 l1 l2 l3 = some r) : zM l yX11_readError cX11_readError 8 none 8 214 0 0 g h0 [qR g l0, qR g l1, qI l2, qI l3] r none := by
  refine z_meth (by decide) (Nat.le_of_ble_eq_true rfl) ?_
  intro p e s m args below meth c H ls C hr hlocks hnm Hh hl
  have C : zC p m c cX11_readError 8 s args RX11 g := C
  have hnm : meth.name = "readError" := hnm
  have hx := C.1.1
  have hb := C.1.2.1
  have hl : lv_has ls 8 [(0, qR g l0), (1, qR g l1), (2, qI l2), (3, qI l3)] := hl
  unfold M_X11_readError at hm
  replace hm := (tk_inv hm).2
  generalize h0 = h at Hh hm
  have K244 : ∀ (h : Hp) (l0 l1 l2 l4 l5 l6 l7 : Int) (H : Heap) (locs : List Loc) (ls : Array Slot), zH g s h H locs → lv_has ls 8 [(0, qR g l0), (1, qR g l1), (2, qI l2), (4, qI l4), (5, qI l5), (6, qI l6), (7, qI l7)] → M_X11_readError_p244 h l0 l1 l2 l4 l5 l6 l7 = some r → W p l e { frames := 8, cells := 0, slots := 0, locals := 214 } s m args below meth c H locs 0 0 (zQ below g r none args s 0 0) (F0 m 244 ls []) := by
    intro h l0 l1 l2 l4 l5 l6 l7  H locs ls Hh hl hm
    unfold M_X11_readError_p244 at hm
    refine lv_aload_n hx hb dX11_readError_244 rfl (lv_at hl 0 rfl) ?_
    refine z_getI C fl_11_110 Hh dX11_readError_245 rfl hm (fun x1 hm => ?_)
    refine z_iconst C dX11_readError_248 ?_
    refine z_icmp_ne (tgt := 253) C dX11_readError_249 (by decide) rfl lq_p5 hm (fun _ hm => ?_) (fun _ hm => ?_)
    · refine lv_aload_n hx hb dX11_readError_253 rfl (lv_at hl 1 rfl) ?_
      refine z_iconst C dX11_readError_254 ?_
      refine lv_iload_n hx hb dX11_readError_255 rfl (lv_at hl 2 rfl) ?_
      refine z_imul C dX11_readError_256 ?_
      refine lv_iload hx hb dX11_readError_257 (lv_at hl 3 rfl) ?_
      refine z_iast C Hh dX11_readError_259 hm (fun h H locs Hh hm => ?_)
      refine lv_aload_n hx hb dX11_readError_260 rfl (lv_at hl 1 rfl) ?_
      refine z_iconst C dX11_readError_261 ?_
      refine lv_iload_n hx hb dX11_readError_262 rfl (lv_at hl 2 rfl) ?_
      refine z_imul C dX11_readError_263 ?_
      refine z_iconst C dX11_readError_264 ?_
      refine z_iadd C dX11_readError_265 ?_
      refine lv_iload hx hb dX11_readError_266 (lv_at hl 4 rfl) ?_
      refine z_iast C Hh dX11_readError_268 hm (fun h H locs Hh hm => ?_)
      refine lv_aload_n hx hb dX11_readError_269 rfl (lv_at hl 1 rfl) ?_
      refine z_iconst C dX11_readError_270 ?_
      refine lv_iload_n hx hb dX11_readError_271 rfl (lv_at hl 2 rfl) ?_
      refine z_imul C dX11_readError_272 ?_
      refine z_iconst C dX11_readError_273 ?_
      refine z_iadd C dX11_readError_274 ?_
      refine lv_iload hx hb dX11_readError_275 (lv_at hl 5 rfl) ?_
      refine z_iast C Hh dX11_readError_277 hm (fun h H locs Hh hm => ?_)
      refine lv_aload_n hx hb dX11_readError_278 rfl (lv_at hl 1 rfl) ?_
      refine z_iconst C dX11_readError_279 ?_
      refine lv_iload_n hx hb dX11_readError_280 rfl (lv_at hl 2 rfl) ?_
      refine z_imul C dX11_readError_281 ?_
      refine z_iconst C dX11_readError_282 ?_
      refine z_iadd C dX11_readError_283 ?_
      refine lv_iload hx hb dX11_readError_284 (lv_at hl 6 rfl) ?_
      refine z_iast C Hh dX11_readError_286 hm (fun h H locs Hh hm => ?_)
      refine lv_iload hx hb dX11_readError_287 (lv_at hl 3 rfl) ?_
      refine z_bipush C dX11_readError_289 rfl ?_
      refine z_icmp_ne (tgt := 307) C dX11_readError_291 (by decide) rfl lq_p10 hm (fun _ hm => ?_) (fun _ hm => ?_)
      · exact z_vret C hr hlocks Hh dX11_readError_307 hm
      · refine lv_aload_n hx hb dX11_readError_294 rfl (lv_at hl 0 rfl) ?_
        refine z_getR C fl_11_190 Hh dX11_readError_295 rfl hm (fun x2 hm => ?_)
        refine lv_dup hx hb dX11_readError_298 rfl ?_
        refine z_getI C fl_11_302 Hh dX11_readError_299 rfl hm (fun x3 hm => ?_)
        refine z_iconst C dX11_readError_302 ?_
        refine z_iadd C dX11_readError_303 ?_
        refine z_putI C hnm pl_11_302 Hh dX11_readError_304 rfl hm (fun h H locs Hh hm => ?_)
        exact z_vret C hr hlocks Hh dX11_readError_307 hm
    · exact z_vret C hr hlocks Hh dX11_readError_252 hm
  have K221 : ∀ (h : Hp) (l0 l1 l2 l4 l5 l6 l7 : Int) (H : Heap) (locs : List Loc) (ls : Array Slot), zH g s h H locs → lv_has ls 8 [(0, qR g l0), (1, qR g l1), (2, qI l2), (4, qI l4), (5, qI l5), (6, qI l6), (7, qI l7)] → M_X11_readError_p221 h l0 l1 l2 l4 l5 l6 l7 = some r → W p l e { frames := 8, cells := 0, slots := 0, locals := 214 } s m args below meth c H locs 0 0 (zQ below g r none args s 0 0) (F0 m 221 ls []) := by
    intro h l0 l1 l2 l4 l5 l6 l7  H locs ls Hh hl hm
    unfold M_X11_readError_p221 at hm
    refine lv_aload_n hx hb dX11_readError_221 rfl (lv_at hl 0 rfl) ?_
    refine z_cVv (vs := []) C (fun q hq => ct_X11_goesOn l g h l0 q hq) tw_1522 my_X11_goesOn (fun q hq => tg_X11_goesOn hq) rfl hl.1 Hh ⟨Nat.le_of_ble_eq_true rfl, Nat.le_of_ble_eq_true rfl, Nat.le_of_ble_eq_true rfl, Nat.le_of_ble_eq_true rfl⟩ (Nat.le_of_ble_eq_true rfl) dX11_readError_222 rfl hm (fun h H locs Hh hm => ?_)
    refine lv_goto (tgt := 244) hx hb dX11_readError_225 (by decide) ?_
    exact K244 h l0 l1 l2 l4 l5 l6 l7 _ _ _ Hh (lv_sub hl [0, 1, 2, 3, 4, 5, 6] rfl) hm
  have K106 : ∀ (h : Hp) (l0 l1 l2 l4 l5 l6 l7 : Int) (H : Heap) (locs : List Loc) (ls : Array Slot), zH g s h H locs → lv_has ls 8 [(0, qR g l0), (1, qR g l1), (2, qI l2), (4, qI l4), (5, qI l5), (6, qI l6), (7, qI l7)] → M_X11_readError_p106 h l0 l1 l2 l4 l5 l6 l7 = some r → W p l e { frames := 8, cells := 0, slots := 0, locals := 214 } s m args below meth c H locs 0 0 (zQ below g r none args s 0 0) (F0 m 106 ls []) := by
    intro h l0 l1 l2 l4 l5 l6 l7  H locs ls Hh hl hm
    unfold M_X11_readError_p106 at hm
    refine lv_iload hx hb dX11_readError_106 (lv_at hl 3 rfl) ?_
    refine z_iconst C dX11_readError_108 ?_
    refine z_icmp_ne (tgt := 147) C dX11_readError_109 (by decide) rfl lq_p1 hm (fun _ hm => ?_) (fun _ hm => ?_)
    · refine lv_iload hx hb dX11_readError_147 (lv_at hl 3 rfl) ?_
      refine z_iconst C dX11_readError_149 ?_
      refine z_icmp_ne (tgt := 172) C dX11_readError_150 (by decide) rfl lq_p2 hm (fun _ hm => ?_) (fun _ hm => ?_)
      · refine lv_iload hx hb dX11_readError_172 (lv_at hl 3 rfl) ?_
        refine z_iconst C dX11_readError_174 ?_
        refine z_icmp_ne (tgt := 197) C dX11_readError_175 (by decide) rfl lq_p3 hm (fun _ hm => ?_) (fun _ hm => ?_)
        · refine lv_iload hx hb dX11_readError_197 (lv_at hl 3 rfl) ?_
          refine z_iconst C dX11_readError_199 ?_
          refine z_icmp_ne (tgt := 228) C dX11_readError_200 (by decide) rfl lq_p5 hm (fun _ hm => ?_) (fun _ hm => ?_)
          · refine lv_iload hx hb dX11_readError_228 (lv_at hl 3 rfl) ?_
            refine z_bipush C dX11_readError_230 rfl ?_
            refine z_icmp_ne (tgt := 244) C dX11_readError_232 (by decide) rfl lq_p8 hm (fun _ hm => ?_) (fun _ hm => ?_)
            · exact K244 h l0 l1 l2 l4 l5 l6 l7 _ _ _ Hh (lv_sub hl [0, 1, 2, 3, 4, 5, 6] rfl) hm
            · refine lv_aload_n hx hb dX11_readError_235 rfl (lv_at hl 0 rfl) ?_
              refine z_iconst C dX11_readError_236 ?_
              refine z_bipush C dX11_readError_237 rfl ?_
              refine z_cVI (vs := [qI 5, qI 9]) C (fun q hq => ct_X11_readWhole l g h l0 5 9 q hq) tw_1572 my_X11_readWhole (fun q hq => tg_X11_readWhole hq) rfl hl.1 Hh ⟨Nat.le_of_ble_eq_true rfl, Nat.le_of_ble_eq_true rfl, Nat.le_of_ble_eq_true rfl, Nat.le_of_ble_eq_true rfl⟩ (Nat.le_of_ble_eq_true rfl) dX11_readError_239 rfl hm (fun h x4 H locs Hh hm => ?_)
              refine lv_istore (lv' := [(5, qI x4), (0, qR g l0), (1, qR g l1), (2, qI l2), (4, qI l4), (6, qI l6), (7, qI l7)]) hx hb dX11_readError_242 hl (by decide) rfl (fun ls hl => ?_)
              exact K244 h l0 l1 l2 l4 x4 l6 l7 _ _ _ Hh (lv_sub hl [1, 2, 3, 4, 0, 5, 6] rfl) hm
          · refine lv_aload_n hx hb dX11_readError_203 rfl (lv_at hl 0 rfl) ?_
            refine z_cVI (vs := []) C (fun q hq => ct_X11_knownMark l g h l0 q hq) tw_1658 my_X11_knownMark (fun q hq => tg_X11_knownMark hq) rfl hl.1 Hh ⟨Nat.le_of_ble_eq_true rfl, Nat.le_of_ble_eq_true rfl, Nat.le_of_ble_eq_true rfl, Nat.le_of_ble_eq_true rfl⟩ (Nat.le_of_ble_eq_true rfl) dX11_readError_204 rfl hm (fun h x5 H locs Hh hm => ?_)
            refine lv_istore (lv' := [(6, qI x5), (0, qR g l0), (1, qR g l1), (2, qI l2), (4, qI l4), (5, qI l5), (7, qI l7)]) hx hb dX11_readError_207 hl (by decide) rfl (fun ls hl => ?_)
            refine lv_iload hx hb dX11_readError_209 (lv_at hl 5 rfl) ?_
            refine lv_iload hx hb dX11_readError_211 (lv_at hl 0 rfl) ?_
            refine z_icmp_ne (tgt := 221) C dX11_readError_213 (by decide) rfl rfl hm (fun _ hm => ?_) (fun _ hm => ?_)
            · exact K221 h l0 l1 l2 l4 l5 x5 l7 _ _ _ Hh (lv_sub hl [1, 2, 3, 4, 5, 0, 6] rfl) hm
            · refine lv_aload_n hx hb dX11_readError_216 rfl (lv_at hl 1 rfl) ?_
              refine z_iconst C dX11_readError_217 ?_
              refine z_cVv (vs := [qI 3]) C (fun q hq => ct_X11_flaw l g h l0 3 q hq) tw_1559 my_X11_flaw (fun q hq => tg_X11_flaw hq) rfl hl.1 Hh ⟨Nat.le_of_ble_eq_true rfl, Nat.le_of_ble_eq_true rfl, Nat.le_of_ble_eq_true rfl, Nat.le_of_ble_eq_true rfl⟩ (Nat.le_of_ble_eq_true rfl) dX11_readError_218 rfl hm (fun h H locs Hh hm => ?_)
              exact K221 h l0 l1 l2 l4 l5 x5 l7 _ _ _ Hh (lv_sub hl [1, 2, 3, 4, 5, 0, 6] rfl) hm
        · refine lv_aload_n hx hb dX11_readError_178 rfl (lv_at hl 0 rfl) ?_
          refine z_iconst C dX11_readError_179 ?_
          refine z_iconst C dX11_readError_180 ?_
          refine z_cVI (vs := [qI 0, qI 5]) C (fun q hq => ct_X11_readWhole l g h l0 0 5 q hq) tw_1572 my_X11_readWhole (fun q hq => tg_X11_readWhole hq) rfl hl.1 Hh ⟨Nat.le_of_ble_eq_true rfl, Nat.le_of_ble_eq_true rfl, Nat.le_of_ble_eq_true rfl, Nat.le_of_ble_eq_true rfl⟩ (Nat.le_of_ble_eq_true rfl) dX11_readError_181 rfl hm (fun h x6 H locs Hh hm => ?_)
          refine lv_istore (lv' := [(5, qI x6), (0, qR g l0), (1, qR g l1), (2, qI l2), (4, qI l4), (6, qI l6), (7, qI l7)]) hx hb dX11_readError_184 hl (by decide) rfl (fun ls hl => ?_)
          refine lv_aload_n hx hb dX11_readError_186 rfl (lv_at hl 1 rfl) ?_
          refine z_iconst C dX11_readError_187 ?_
          refine z_iconst C dX11_readError_188 ?_
          refine z_cVI (vs := [qI 0, qI 5]) C (fun q hq => ct_X11_readWhole l g h l0 0 5 q hq) tw_1572 my_X11_readWhole (fun q hq => tg_X11_readWhole hq) rfl hl.1 Hh ⟨Nat.le_of_ble_eq_true rfl, Nat.le_of_ble_eq_true rfl, Nat.le_of_ble_eq_true rfl, Nat.le_of_ble_eq_true rfl⟩ (Nat.le_of_ble_eq_true rfl) dX11_readError_189 rfl hm (fun h x7 H locs Hh hm => ?_)
          refine lv_istore (lv' := [(6, qI x7), (5, qI x6), (0, qR g l0), (1, qR g l1), (2, qI l2), (4, qI l4), (7, qI l7)]) hx hb dX11_readError_192 hl (by decide) rfl (fun ls hl => ?_)
          refine lv_goto (tgt := 244) hx hb dX11_readError_194 (by decide) ?_
          exact K244 h l0 l1 l2 l4 x6 x7 l7 _ _ _ Hh (lv_sub hl [2, 3, 4, 5, 1, 0, 6] rfl) hm
      · refine lv_aload_n hx hb dX11_readError_153 rfl (lv_at hl 0 rfl) ?_
        refine z_iconst C dX11_readError_154 ?_
        refine lv_aload_n hx hb dX11_readError_155 rfl (lv_at hl 0 rfl) ?_
        refine z_getR C fl_11_190 Hh dX11_readError_156 rfl hm (fun x8 hm => ?_)
        refine z_getI C fl_11_194 Hh dX11_readError_159 rfl hm (fun x9 hm => ?_)
        refine z_iconst C dX11_readError_162 ?_
        refine z_isub C dX11_readError_163 ?_
        refine z_cVI (vs := [qI 1, qI (x9 - 1)]) C (fun q hq => ct_X11_readWhole l g h l0 1 (x9 - 1) q hq) tw_1572 my_X11_readWhole (fun q hq => tg_X11_readWhole hq) rfl hl.1 Hh ⟨Nat.le_of_ble_eq_true rfl, Nat.le_of_ble_eq_true rfl, Nat.le_of_ble_eq_true rfl, Nat.le_of_ble_eq_true rfl⟩ (Nat.le_of_ble_eq_true rfl) dX11_readError_164 rfl hm (fun h x10 H locs Hh hm => ?_)
        refine lv_istore (lv' := [(5, qI x10), (0, qR g l0), (1, qR g l1), (2, qI l2), (4, qI l4), (6, qI l6), (7, qI l7)]) hx hb dX11_readError_167 hl (by decide) rfl (fun ls hl => ?_)
        refine lv_goto (tgt := 244) hx hb dX11_readError_169 (by decide) ?_
        exact K244 h l0 l1 l2 l4 x10 l6 l7 _ _ _ Hh (lv_sub hl [1, 2, 3, 4, 0, 5, 6] rfl) hm
    · refine lv_aload_n hx hb dX11_readError_112 rfl (lv_at hl 0 rfl) ?_
      refine z_iconst C dX11_readError_113 ?_
      refine lv_aload_n hx hb dX11_readError_114 rfl (lv_at hl 0 rfl) ?_
      refine z_getR C fl_11_190 Hh dX11_readError_115 rfl hm (fun x11 hm => ?_)
      refine z_getI C fl_11_194 Hh dX11_readError_118 rfl hm (fun x12 hm => ?_)
      refine z_iconst C dX11_readError_121 ?_
      refine z_isub C dX11_readError_122 ?_
      refine z_cVI (vs := [qI 0, qI (x12 - 1)]) C (fun q hq => ct_X11_readWhole l g h l0 0 (x12 - 1) q hq) tw_1572 my_X11_readWhole (fun q hq => tg_X11_readWhole hq) rfl hl.1 Hh ⟨Nat.le_of_ble_eq_true rfl, Nat.le_of_ble_eq_true rfl, Nat.le_of_ble_eq_true rfl, Nat.le_of_ble_eq_true rfl⟩ (Nat.le_of_ble_eq_true rfl) dX11_readError_123 rfl hm (fun h x13 H locs Hh hm => ?_)
      refine lv_istore (lv' := [(6, qI x13), (0, qR g l0), (1, qR g l1), (2, qI l2), (4, qI l4), (5, qI l5), (7, qI l7)]) hx hb dX11_readError_126 hl (by decide) rfl (fun ls hl => ?_)
      refine lv_aload_n hx hb dX11_readError_128 rfl (lv_at hl 1 rfl) ?_
      refine z_iconst C dX11_readError_129 ?_
      refine lv_aload_n hx hb dX11_readError_130 rfl (lv_at hl 1 rfl) ?_
      refine z_getR C fl_11_190 Hh dX11_readError_131 rfl hm (fun x14 hm => ?_)
      refine z_getI C fl_11_256 Hh dX11_readError_134 rfl hm (fun x15 hm => ?_)
      refine z_iconst C dX11_readError_137 ?_
      refine z_isub C dX11_readError_138 ?_
      refine z_cVI (vs := [qI 0, qI (x15 - 1)]) C (fun q hq => ct_X11_readWhole l g h l0 0 (x15 - 1) q hq) tw_1572 my_X11_readWhole (fun q hq => tg_X11_readWhole hq) rfl hl.1 Hh ⟨Nat.le_of_ble_eq_true rfl, Nat.le_of_ble_eq_true rfl, Nat.le_of_ble_eq_true rfl, Nat.le_of_ble_eq_true rfl⟩ (Nat.le_of_ble_eq_true rfl) dX11_readError_139 rfl hm (fun h x16 H locs Hh hm => ?_)
      refine lv_istore (lv' := [(7, qI x16), (6, qI x13), (0, qR g l0), (1, qR g l1), (2, qI l2), (4, qI l4), (5, qI l5)]) hx hb dX11_readError_142 hl (by decide) rfl (fun ls hl => ?_)
      refine lv_goto (tgt := 244) hx hb dX11_readError_144 (by decide) ?_
      exact K244 h l0 l1 l2 l4 l5 x13 x16 _ _ _ Hh (lv_sub hl [2, 3, 4, 5, 6, 1, 0] rfl) hm
  have K100 : ∀ (h : Hp) (l0 l1 l2 l4 l6 l7 : Int) (H : Heap) (locs : List Loc) (ls : Array Slot), zH g s h H locs → lv_has ls 8 [(0, qR g l0), (1, qR g l1), (2, qI l2), (4, qI l4), (6, qI l6), (7, qI l7)] → M_X11_readError_p100 h l0 l1 l2 l4 l6 l7 = some r → W p l e { frames := 8, cells := 0, slots := 0, locals := 214 } s m args below meth c H locs 0 0 (zQ below g r none args s 0 0) (F0 m 100 ls []) := by
    intro h l0 l1 l2 l4 l6 l7  H locs ls Hh hl hm
    unfold M_X11_readError_p100 at hm
    refine lv_aload_n hx hb dX11_readError_100 rfl (lv_at hl 0 rfl) ?_
    refine z_cVI (vs := []) C (fun q hq => ct_X11_readMark l g h l0 q hq) tw_1654 my_X11_readMark (fun q hq => tg_X11_readMark hq) rfl hl.1 Hh ⟨Nat.le_of_ble_eq_true rfl, Nat.le_of_ble_eq_true rfl, Nat.le_of_ble_eq_true rfl, Nat.le_of_ble_eq_true rfl⟩ (Nat.le_of_ble_eq_true rfl) dX11_readError_101 rfl hm (fun h x17 H locs Hh hm => ?_)
    refine lv_istore (lv' := [(5, qI x17), (0, qR g l0), (1, qR g l1), (2, qI l2), (4, qI l4), (6, qI l6), (7, qI l7)]) hx hb dX11_readError_104 hl (by decide) rfl (fun ls hl => ?_)
    exact K106 h l0 l1 l2 l4 x17 l6 l7 _ _ _ Hh (lv_sub hl [1, 2, 3, 4, 0, 5, 6] rfl) hm
  have K51 : ∀ (h : Hp) (l0 l1 l2 l4 : Int) (H : Heap) (locs : List Loc) (ls : Array Slot), zH g s h H locs → lv_has ls 8 [(0, qR g l0), (1, qR g l1), (2, qI l2), (4, qI l4)] → M_X11_readError_p51 h l0 l1 l2 l4 = some r → W p l e { frames := 8, cells := 0, slots := 0, locals := 214 } s m args below meth c H locs 0 0 (zQ below g r none args s 0 0) (F0 m 51 ls []) := by
    intro h l0 l1 l2 l4  H locs ls Hh hl hm
    unfold M_X11_readError_p51 at hm
    refine lv_aload_n hx hb dX11_readError_51 rfl (lv_at hl 0 rfl) ?_
    refine z_cVv (vs := []) C (fun q hq => ct_X11_goesOn l g h l0 q hq) tw_1522 my_X11_goesOn (fun q hq => tg_X11_goesOn hq) rfl hl.1 Hh ⟨Nat.le_of_ble_eq_true rfl, Nat.le_of_ble_eq_true rfl, Nat.le_of_ble_eq_true rfl, Nat.le_of_ble_eq_true rfl⟩ (Nat.le_of_ble_eq_true rfl) dX11_readError_52 rfl hm (fun h H locs Hh hm => ?_)
    refine z_bipush C dX11_readError_55 rfl ?_
    refine lv_istore (lv' := [(5, qI (-2)), (0, qR g l0), (1, qR g l1), (2, qI l2), (4, qI l4)]) hx hb dX11_readError_57 hl (by decide) rfl (fun ls hl => ?_)
    refine z_bipush C dX11_readError_59 rfl ?_
    refine lv_istore (lv' := [(6, qI (-2)), (5, qI (-2)), (0, qR g l0), (1, qR g l1), (2, qI l2), (4, qI l4)]) hx hb dX11_readError_61 hl (by decide) rfl (fun ls hl => ?_)
    refine z_bipush C dX11_readError_63 rfl ?_
    refine lv_istore (lv' := [(7, qI (-2)), (6, qI (-2)), (5, qI (-2)), (0, qR g l0), (1, qR g l1), (2, qI l2), (4, qI l4)]) hx hb dX11_readError_65 hl (by decide) rfl (fun ls hl => ?_)
    refine lv_iload hx hb dX11_readError_67 (lv_at hl 6 rfl) ?_
    refine z_iconst C dX11_readError_69 ?_
    refine z_icmp_eq (tgt := 100) C dX11_readError_70 (by decide) rfl lq_p1 hm (fun _ hm => ?_) (fun _ hm => ?_)
    · exact K100 h l0 l1 l2 l4 (-2) (-2) _ _ _ Hh (lv_sub hl [3, 4, 5, 6, 1, 0] rfl) hm
    · refine lv_iload hx hb dX11_readError_73 (lv_at hl 6 rfl) ?_
      refine z_bipush C dX11_readError_75 rfl ?_
      refine z_icmp_eq (tgt := 100) C dX11_readError_77 (by decide) rfl lq_p6 hm (fun _ hm => ?_) (fun _ hm => ?_)
      · exact K100 h l0 l1 l2 l4 (-2) (-2) _ _ _ Hh (lv_sub hl [3, 4, 5, 6, 1, 0] rfl) hm
      · refine lv_iload hx hb dX11_readError_80 (lv_at hl 6 rfl) ?_
        refine z_bipush C dX11_readError_82 rfl ?_
        refine z_icmp_eq (tgt := 100) C dX11_readError_84 (by decide) rfl lq_p7 hm (fun _ hm => ?_) (fun _ hm => ?_)
        · exact K100 h l0 l1 l2 l4 (-2) (-2) _ _ _ Hh (lv_sub hl [3, 4, 5, 6, 1, 0] rfl) hm
        · refine lv_iload hx hb dX11_readError_87 (lv_at hl 6 rfl) ?_
          refine z_bipush C dX11_readError_89 rfl ?_
          refine z_icmp_eq (tgt := 100) C dX11_readError_91 (by decide) rfl lq_p9 hm (fun _ hm => ?_) (fun _ hm => ?_)
          · exact K100 h l0 l1 l2 l4 (-2) (-2) _ _ _ Hh (lv_sub hl [3, 4, 5, 6, 1, 0] rfl) hm
          · refine lv_iload hx hb dX11_readError_94 (lv_at hl 6 rfl) ?_
            refine z_iconst C dX11_readError_96 ?_
            refine z_icmp_ne (tgt := 106) C dX11_readError_97 (by decide) rfl lq_p5 hm (fun _ hm => ?_) (fun _ hm => ?_)
            · exact K106 h l0 l1 l2 l4 (-2) (-2) (-2) _ _ _ Hh (lv_sub hl [3, 4, 5, 6, 2, 1, 0] rfl) hm
            · exact K100 h l0 l1 l2 l4 (-2) (-2) _ _ _ Hh (lv_sub hl [3, 4, 5, 6, 1, 0] rfl) hm
  have K28 : ∀ (h : Hp) (l0 l1 l2 l4 : Int) (H : Heap) (locs : List Loc) (ls : Array Slot), zH g s h H locs → lv_has ls 8 [(0, qR g l0), (1, qR g l1), (2, qI l2), (4, qI l4)] → M_X11_readError_p28 h l0 l1 l2 l4 = some r → W p l e { frames := 8, cells := 0, slots := 0, locals := 214 } s m args below meth c H locs 0 0 (zQ below g r none args s 0 0) (F0 m 28 ls []) := by
    intro h l0 l1 l2 l4  H locs ls Hh hl hm
    unfold M_X11_readError_p28 at hm
    refine lv_iload hx hb dX11_readError_28 (lv_at hl 3 rfl) ?_
    refine z_bipush C dX11_readError_30 rfl ?_
    refine z_icmp_ne (tgt := 51) C dX11_readError_32 (by decide) rfl lq_p10 hm (fun _ hm => ?_) (fun _ hm => ?_)
    · exact K51 h l0 l1 l2 l4 _ _ _ Hh (lv_sub hl [0, 1, 2, 3] rfl) hm
    · refine lv_aload_n hx hb dX11_readError_35 rfl (lv_at hl 0 rfl) ?_
      refine z_getR C fl_11_190 Hh dX11_readError_36 rfl hm (fun x18 hm => ?_)
      refine z_getI C fl_11_302 Hh dX11_readError_39 rfl hm (fun x19 hm => ?_)
      refine z_iconst C dX11_readError_42 ?_
      refine z_icmp_ne (tgt := 51) C dX11_readError_43 (by decide) rfl lq_p4 hm (fun _ hm => ?_) (fun _ hm => ?_)
      · exact K51 h l0 l1 l2 l4 _ _ _ Hh (lv_sub hl [0, 1, 2, 3] rfl) hm
      · refine lv_aload_n hx hb dX11_readError_46 rfl (lv_at hl 0 rfl) ?_
        refine z_iconst C dX11_readError_47 ?_
        refine z_cVv (vs := [qI 5]) C (fun q hq => ct_X11_flaw l g h l0 5 q hq) tw_1559 my_X11_flaw (fun q hq => tg_X11_flaw hq) rfl hl.1 Hh ⟨Nat.le_of_ble_eq_true rfl, Nat.le_of_ble_eq_true rfl, Nat.le_of_ble_eq_true rfl, Nat.le_of_ble_eq_true rfl⟩ (Nat.le_of_ble_eq_true rfl) dX11_readError_48 rfl hm (fun h H locs Hh hm => ?_)
        exact K51 h l0 l1 l2 l4 _ _ _ Hh (lv_sub hl [0, 1, 2, 3] rfl) hm
  have K23 : ∀ (h : Hp) (l0 l1 l2 l4 : Int) (H : Heap) (locs : List Loc) (ls : Array Slot), zH g s h H locs → lv_has ls 8 [(0, qR g l0), (1, qR g l1), (2, qI l2), (4, qI l4)] → M_X11_readError_p23 h l0 l1 l2 l4 = some r → W p l e { frames := 8, cells := 0, slots := 0, locals := 214 } s m args below meth c H locs 0 0 (zQ below g r none args s 0 0) (F0 m 23 ls []) := by
    intro h l0 l1 l2 l4  H locs ls Hh hl hm
    unfold M_X11_readError_p23 at hm
    refine lv_aload_n hx hb dX11_readError_23 rfl (lv_at hl 0 rfl) ?_
    refine z_iconst C dX11_readError_24 ?_
    refine z_cVv (vs := [qI 1]) C (fun q hq => ct_X11_flaw l g h l0 1 q hq) tw_1559 my_X11_flaw (fun q hq => tg_X11_flaw hq) rfl hl.1 Hh ⟨Nat.le_of_ble_eq_true rfl, Nat.le_of_ble_eq_true rfl, Nat.le_of_ble_eq_true rfl, Nat.le_of_ble_eq_true rfl⟩ (Nat.le_of_ble_eq_true rfl) dX11_readError_25 rfl hm (fun h H locs Hh hm => ?_)
    exact K28 h l0 l1 l2 l4 _ _ _ Hh (lv_sub hl [0, 1, 2, 3] rfl) hm
  refine lv_aload_n hx hb dX11_readError_0 rfl (lv_at hl 0 rfl) ?_
  refine z_cVIr (vs := []) C (fun q hq => ct_X11_sortOfError l g h l0 q hq) tw_1639 my_X11_sortOfError (fun q hq => tg_X11_sortOfError hq) rfl hl.1 Hh ⟨Nat.le_of_ble_eq_true rfl, Nat.le_of_ble_eq_true rfl, Nat.le_of_ble_eq_true rfl, Nat.le_of_ble_eq_true rfl⟩ (Nat.le_of_ble_eq_true rfl) dX11_readError_1 rfl hm (fun x20 H locs Hh hm => ?_)
  refine lv_istore (lv' := [(4, qI x20), (0, qR g l0), (1, qR g l1), (2, qI l2), (3, qI l3)]) hx hb dX11_readError_4 hl (by decide) rfl (fun ls hl => ?_)
  refine lv_iload hx hb dX11_readError_6 (lv_at hl 0 rfl) ?_
  refine z_iconst C dX11_readError_8 ?_
  refine z_icmp_eq (tgt := 23) C dX11_readError_9 (by decide) rfl lq_m1 hm (fun _ hm => ?_) (fun _ hm => ?_)
  · exact K23 h l0 l1 l2 x20 _ _ _ Hh (lv_sub hl [1, 2, 3, 0] rfl) hm
  · refine lv_iload_n hx hb dX11_readError_12 rfl (lv_at hl 4 rfl) ?_
    refine z_if_eq (tgt := 28) C dX11_readError_13 (by decide) rfl hm (fun _ hm => ?_) (fun _ hm => ?_)
    · exact K28 h l0 l1 l2 x20 _ _ _ Hh (lv_sub hl [1, 2, 3, 0] rfl) hm
    · refine lv_iload hx hb dX11_readError_16 (lv_at hl 0 rfl) ?_
      refine z_bipush C dX11_readError_18 rfl ?_
      refine z_icmp_le (tgt := 28) C dX11_readError_20 (by decide) rfl lq_p8 hm (fun _ hm => ?_) (fun _ hm => ?_)
      · exact K28 h l0 l1 l2 x20 _ _ _ Hh (lv_sub hl [1, 2, 3, 0] rfl) hm
      · exact K23 h l0 l1 l2 x20 _ _ _ Hh (lv_sub hl [1, 2, 3, 0] rfl) hm
theorem tg_X11_readCopies {h : Hp} {l0 : Int} {r : Hp} (hm : M_X11_readCopies h l0 = some r) : hT h l0 = 21 := (tk_inv hm).1
set_option maxRecDepth 100000 in
set_option maxHeartbeats 4000000 in
theorem ct_X11_readCopies (l : Launch) (g : zGeo) (h0 : Hp) (l0 : Int) (r : Hp) (hm : M_X11_readCopies h0 l0 = some r) : zM l yX11_readCopies cX11_readCopies 3 none 10 256 0 0 g h0 [qR g l0] r none := by
  refine z_meth (by decide) (Nat.le_of_ble_eq_true rfl) ?_
  intro p e s m args below meth c H ls C hr hlocks hnm Hh hl
  have C : zC p m c cX11_readCopies 3 s args RX11 g := C
  have hnm : meth.name = "readCopies" := hnm
  have hx := C.1.1
  have hb := C.1.2.1
  have hl : lv_has ls 3 [(0, qR g l0)] := hl
  unfold M_X11_readCopies at hm
  replace hm := (tk_inv hm).2
  generalize h0 = h at Hh hm
  have K38 : ∀ (h : Hp) (l0 l1 : Int) (H : Heap) (locs : List Loc) (ls : Array Slot), zH g s h H locs → lv_has ls 3 [(0, qR g l0), (1, qI l1)] → M_X11_readCopies_p38 h l0 l1 = some r → W p l e { frames := 10, cells := 0, slots := 0, locals := 256 } s m args below meth c H locs 0 0 (zQ below g r none args s 0 0) (F0 m 38 ls []) := by
    intro h l0 l1  H locs ls Hh hl hm
    unfold M_X11_readCopies_p38 at hm
    refine lv_aload_n hx hb dX11_readCopies_38 rfl (lv_at hl 0 rfl) ?_
    refine z_cVv (vs := []) C (fun q hq => ct_X11_goesOn l g h l0 q hq) tw_1522 my_X11_goesOn (fun q hq => tg_X11_goesOn hq) rfl hl.1 Hh ⟨Nat.le_of_ble_eq_true rfl, Nat.le_of_ble_eq_true rfl, Nat.le_of_ble_eq_true rfl, Nat.le_of_ble_eq_true rfl⟩ (Nat.le_of_ble_eq_true rfl) dX11_readCopies_39 rfl hm (fun h H locs Hh hm => ?_)
    refine lv_aload_n hx hb dX11_readCopies_42 rfl (lv_at hl 0 rfl) ?_
    refine z_cVI (vs := []) C (fun q hq => ct_X11_readTown l g h l0 q hq) tw_1631 my_X11_readTown (fun q hq => tg_X11_readTown hq) rfl hl.1 Hh ⟨Nat.le_of_ble_eq_true rfl, Nat.le_of_ble_eq_true rfl, Nat.le_of_ble_eq_true rfl, Nat.le_of_ble_eq_true rfl⟩ (Nat.le_of_ble_eq_true rfl) dX11_readCopies_43 rfl hm (fun h x1 H locs Hh hm => ?_)
    refine lv_istore_n (lv' := [(2, qI x1), (0, qR g l0), (1, qI l1)]) hx hb dX11_readCopies_46 rfl hl (by decide) rfl (fun ls hl => ?_)
    refine lv_aload_n hx hb dX11_readCopies_47 rfl (lv_at hl 1 rfl) ?_
    refine z_ldcS (i := 8) (tx := "by") C dX11_readCopies_48 (by decide) ?_
    refine z_cVv (vs := [qS g 8]) C (fun q hq => ct_X11_needs l g h l0 8 q hq) tw_1568 my_X11_needs (fun q hq => tg_X11_needs hq) rfl hl.1 Hh ⟨Nat.le_of_ble_eq_true rfl, Nat.le_of_ble_eq_true rfl, Nat.le_of_ble_eq_true rfl, Nat.le_of_ble_eq_true rfl⟩ (Nat.le_of_ble_eq_true rfl) dX11_readCopies_50 rfl hm (fun h H locs Hh hm => ?_)
    refine lv_aload_n hx hb dX11_readCopies_53 rfl (lv_at hl 1 rfl) ?_
    refine lv_aload_n hx hb dX11_readCopies_54 rfl (lv_at hl 1 rfl) ?_
    refine z_getR C fl_11_190 Hh dX11_readCopies_55 rfl hm (fun x2 hm => ?_)
    refine z_getR C fl_11_270 Hh dX11_readCopies_58 rfl hm (fun x3 hm => ?_)
    refine lv_iload_n hx hb dX11_readCopies_61 rfl (lv_at hl 2 rfl) ?_
    refine z_iconst C dX11_readCopies_62 ?_
    refine z_cVv (vs := [qR g x3, qI l1, qI 0]) C (fun q hq => ct_X11_readError l g h l0 x3 l1 0 q hq) tw_1635 my_X11_readError (fun q hq => tg_X11_readError hq) rfl hl.1 Hh ⟨Nat.le_of_ble_eq_true rfl, Nat.le_of_ble_eq_true rfl, Nat.le_of_ble_eq_true rfl, Nat.le_of_ble_eq_true rfl⟩ (Nat.le_of_ble_eq_true rfl) dX11_readCopies_63 rfl hm (fun h H locs Hh hm => ?_)
    refine lv_aload_n hx hb dX11_readCopies_66 rfl (lv_at hl 1 rfl) ?_
    refine z_getI C fl_11_110 Hh dX11_readCopies_67 rfl hm (fun x4 hm => ?_)
    refine z_iconst C dX11_readCopies_70 ?_
    refine z_icmp_eq (tgt := 84) C dX11_readCopies_71 (by decide) rfl lq_p5 hm (fun _ hm => ?_) (fun _ hm => ?_)
    · exact z_vret C hr hlocks Hh dX11_readCopies_84 hm
    · refine lv_aload_n hx hb dX11_readCopies_74 rfl (lv_at hl 1 rfl) ?_
      refine z_getR C fl_11_190 Hh dX11_readCopies_75 rfl hm (fun x5 hm => ?_)
      refine z_getR C fl_11_268 Hh dX11_readCopies_78 rfl hm (fun x6 hm => ?_)
      refine lv_iload_n hx hb dX11_readCopies_81 rfl (lv_at hl 2 rfl) ?_
      refine lv_iload_n hx hb dX11_readCopies_82 rfl (lv_at hl 0 rfl) ?_
      refine z_iast C Hh dX11_readCopies_83 hm (fun h H locs Hh hm => ?_)
      exact z_vret C hr hlocks Hh dX11_readCopies_84 hm
  refine lv_aload_n hx hb dX11_readCopies_0 rfl (lv_at hl 0 rfl) ?_
  refine z_iconst C dX11_readCopies_1 ?_
  refine z_iconst C dX11_readCopies_2 ?_
  refine z_cVv (vs := [qI 0, qI 1]) C (fun q hq => ct_X11_begins l g h l0 0 1 q hq) tw_1586 my_X11_begins (fun q hq => tg_X11_begins hq) rfl hl.1 Hh ⟨Nat.le_of_ble_eq_true rfl, Nat.le_of_ble_eq_true rfl, Nat.le_of_ble_eq_true rfl, Nat.le_of_ble_eq_true rfl⟩ (Nat.le_of_ble_eq_true rfl) dX11_readCopies_3 rfl hm (fun h H locs Hh hm => ?_)
  refine lv_aload_n hx hb dX11_readCopies_6 rfl (lv_at hl 0 rfl) ?_
  refine z_cVI (vs := []) C (fun q hq => ct_X11_knownTown l g h l0 q hq) tw_1627 my_X11_knownTown (fun q hq => tg_X11_knownTown hq) rfl hl.1 Hh ⟨Nat.le_of_ble_eq_true rfl, Nat.le_of_ble_eq_true rfl, Nat.le_of_ble_eq_true rfl, Nat.le_of_ble_eq_true rfl⟩ (Nat.le_of_ble_eq_true rfl) dX11_readCopies_7 rfl hm (fun h x7 H locs Hh hm => ?_)
  refine lv_istore_n (lv' := [(1, qI x7), (0, qR g l0)]) hx hb dX11_readCopies_10 rfl hl (by decide) rfl (fun ls hl => ?_)
  refine lv_aload_n hx hb dX11_readCopies_11 rfl (lv_at hl 1 rfl) ?_
  refine z_getI C fl_11_110 Hh dX11_readCopies_12 rfl hm (fun x8 hm => ?_)
  refine z_iconst C dX11_readCopies_15 ?_
  refine z_icmp_eq (tgt := 38) C dX11_readCopies_16 (by decide) rfl lq_p5 hm (fun _ hm => ?_) (fun _ hm => ?_)
  · exact K38 h l0 x7 _ _ _ Hh (lv_sub hl [1, 0] rfl) hm
  · refine lv_aload_n hx hb dX11_readCopies_19 rfl (lv_at hl 1 rfl) ?_
    refine z_getR C fl_11_190 Hh dX11_readCopies_20 rfl hm (fun x9 hm => ?_)
    refine z_getR C fl_11_268 Hh dX11_readCopies_23 rfl hm (fun x10 hm => ?_)
    refine lv_iload_n hx hb dX11_readCopies_26 rfl (lv_at hl 0 rfl) ?_
    refine z_iald C Hh dX11_readCopies_27 hm (fun x11 hm => ?_)
    refine z_bipush C dX11_readCopies_28 rfl ?_
    refine z_icmp_eq (tgt := 38) C dX11_readCopies_30 (by decide) rfl lq_m2 hm (fun _ hm => ?_) (fun _ hm => ?_)
    · exact K38 h l0 x7 _ _ _ Hh (lv_sub hl [1, 0] rfl) hm
    · refine lv_aload_n hx hb dX11_readCopies_33 rfl (lv_at hl 1 rfl) ?_
      refine z_iconst C dX11_readCopies_34 ?_
      refine z_cVv (vs := [qI 3]) C (fun q hq => ct_X11_flaw l g h l0 3 q hq) tw_1559 my_X11_flaw (fun q hq => tg_X11_flaw hq) rfl hl.1 Hh ⟨Nat.le_of_ble_eq_true rfl, Nat.le_of_ble_eq_true rfl, Nat.le_of_ble_eq_true rfl, Nat.le_of_ble_eq_true rfl⟩ (Nat.le_of_ble_eq_true rfl) dX11_readCopies_35 rfl hm (fun h H locs Hh hm => ?_)
      exact K38 h l0 x7 _ _ _ Hh (lv_sub hl [1, 0] rfl) hm
theorem tg_X11_readGuess {h : Hp} {l0 : Int} {r : Hp} (hm : M_X11_readGuess h l0 = some r) : hT h l0 = 21 := (tk_inv hm).1
set_option maxRecDepth 100000 in
set_option maxHeartbeats 4000000 in
theorem ct_X11_readGuess (l : Launch) (g : zGeo) (h0 : Hp) (l0 : Int) (r : Hp) (hm : M_X11_readGuess h0 l0 = some r) : zM l yX11_readGuess cX11_readGuess 1 none 9 241 0 0 g h0 [qR g l0] r none := by
  refine z_meth (by decide) (Nat.le_of_ble_eq_true rfl) ?_
  intro p e s m args below meth c H ls C hr hlocks hnm Hh hl
  have C : zC p m c cX11_readGuess 1 s args RX11 g := C
  have hnm : meth.name = "readGuess" := hnm
  have hx := C.1.1
  have hb := C.1.2.1
  have hl : lv_has ls 1 [(0, qR g l0)] := hl
  unfold M_X11_readGuess at hm
  replace hm := (tk_inv hm).2
  generalize h0 = h at Hh hm
  refine lv_aload_n hx hb dX11_readGuess_0 rfl (lv_at hl 0 rfl) ?_
  refine lv_aload_n hx hb dX11_readGuess_1 rfl (lv_at hl 0 rfl) ?_
  refine z_getR C fl_11_190 Hh dX11_readGuess_2 rfl hm (fun x1 hm => ?_)
  refine z_getI C fl_11_314 Hh dX11_readGuess_5 rfl hm (fun x2 hm => ?_)
  refine z_iconst C dX11_readGuess_8 ?_
  refine z_cVv (vs := [qI x2, qI 5]) C (fun q hq => ct_X11_begins l g h l0 x2 5 q hq) tw_1586 my_X11_begins (fun q hq => tg_X11_begins hq) rfl hl.1 Hh ⟨Nat.le_of_ble_eq_true rfl, Nat.le_of_ble_eq_true rfl, Nat.le_of_ble_eq_true rfl, Nat.le_of_ble_eq_true rfl⟩ (Nat.le_of_ble_eq_true rfl) dX11_readGuess_9 rfl hm (fun h H locs Hh hm => ?_)
  refine lv_aload_n hx hb dX11_readGuess_12 rfl (lv_at hl 0 rfl) ?_
  refine z_getI C fl_11_110 Hh dX11_readGuess_13 rfl hm (fun x3 hm => ?_)
  refine z_iconst C dX11_readGuess_16 ?_
  refine z_icmp_ne (tgt := 21) C dX11_readGuess_17 (by decide) rfl lq_p5 hm (fun _ hm => ?_) (fun _ hm => ?_)
  · refine lv_aload_n hx hb dX11_readGuess_21 rfl (lv_at hl 0 rfl) ?_
    refine lv_aload_n hx hb dX11_readGuess_22 rfl (lv_at hl 0 rfl) ?_
    refine z_getR C fl_11_190 Hh dX11_readGuess_23 rfl hm (fun x4 hm => ?_)
    refine z_getR C fl_11_317 Hh dX11_readGuess_26 rfl hm (fun x5 hm => ?_)
    refine lv_aload_n hx hb dX11_readGuess_29 rfl (lv_at hl 0 rfl) ?_
    refine z_getR C fl_11_190 Hh dX11_readGuess_30 rfl hm (fun x6 hm => ?_)
    refine z_getI C fl_11_314 Hh dX11_readGuess_33 rfl hm (fun x7 hm => ?_)
    refine z_iconst C dX11_readGuess_36 ?_
    refine z_cVv (vs := [qR g x5, qI x7, qI 1]) C (fun q hq => ct_X11_readError l g h l0 x5 x7 1 q hq) tw_1635 my_X11_readError (fun q hq => tg_X11_readError hq) rfl hl.1 Hh ⟨Nat.le_of_ble_eq_true rfl, Nat.le_of_ble_eq_true rfl, Nat.le_of_ble_eq_true rfl, Nat.le_of_ble_eq_true rfl⟩ (Nat.le_of_ble_eq_true rfl) dX11_readGuess_37 rfl hm (fun h H locs Hh hm => ?_)
    refine lv_aload_n hx hb dX11_readGuess_40 rfl (lv_at hl 0 rfl) ?_
    refine z_getI C fl_11_110 Hh dX11_readGuess_41 rfl hm (fun x8 hm => ?_)
    refine z_iconst C dX11_readGuess_44 ?_
    refine z_icmp_eq (tgt := 61) C dX11_readGuess_45 (by decide) rfl lq_p5 hm (fun _ hm => ?_) (fun _ hm => ?_)
    · exact z_vret C hr hlocks Hh dX11_readGuess_61 hm
    · refine lv_aload_n hx hb dX11_readGuess_48 rfl (lv_at hl 0 rfl) ?_
      refine z_getR C fl_11_190 Hh dX11_readGuess_49 rfl hm (fun x9 hm => ?_)
      refine lv_dup hx hb dX11_readGuess_52 rfl ?_
      refine z_getI C fl_11_314 Hh dX11_readGuess_53 rfl hm (fun x10 hm => ?_)
      refine z_iconst C dX11_readGuess_56 ?_
      refine z_iadd C dX11_readGuess_57 ?_
      refine z_putI C hnm pl_11_314 Hh dX11_readGuess_58 rfl hm (fun h H locs Hh hm => ?_)
      exact z_vret C hr hlocks Hh dX11_readGuess_61 hm
  · exact z_vret C hr hlocks Hh dX11_readGuess_20 hm
theorem tg_X11_readSeen {h : Hp} {l0 : Int} {r : Hp} (hm : M_X11_readSeen h l0 = some r) : hT h l0 = 21 := (tk_inv hm).1
set_option maxRecDepth 100000 in
set_option maxHeartbeats 4000000 in
theorem ct_X11_readSeen (l : Launch) (g : zGeo) (h0 : Hp) (l0 : Int) (r : Hp) (hm : M_X11_readSeen h0 l0 = some r) : zM l yX11_readSeen cX11_readSeen 6 none 10 256 0 0 g h0 [qR g l0] r none := by
  refine z_meth (by decide) (Nat.le_of_ble_eq_true rfl) ?_
  intro p e s m args below meth c H ls C hr hlocks hnm Hh hl
  have C : zC p m c cX11_readSeen 6 s args RX11 g := C
  have hnm : meth.name = "readSeen" := hnm
  have hx := C.1.1
  have hb := C.1.2.1
  have hl : lv_has ls 6 [(0, qR g l0)] := hl
  unfold M_X11_readSeen at hm
  replace hm := (tk_inv hm).2
  generalize h0 = h at Hh hm
  refine lv_aload_n hx hb dX11_readSeen_0 rfl (lv_at hl 0 rfl) ?_
  refine lv_aload_n hx hb dX11_readSeen_1 rfl (lv_at hl 0 rfl) ?_
  refine z_getR C fl_11_190 Hh dX11_readSeen_2 rfl hm (fun x1 hm => ?_)
  refine z_getI C fl_11_319 Hh dX11_readSeen_5 rfl hm (fun x2 hm => ?_)
  refine z_bipush C dX11_readSeen_8 rfl ?_
  refine z_cVv (vs := [qI x2, qI 8]) C (fun q hq => ct_X11_begins l g h l0 x2 8 q hq) tw_1586 my_X11_begins (fun q hq => tg_X11_begins hq) rfl hl.1 Hh ⟨Nat.le_of_ble_eq_true rfl, Nat.le_of_ble_eq_true rfl, Nat.le_of_ble_eq_true rfl, Nat.le_of_ble_eq_true rfl⟩ (Nat.le_of_ble_eq_true rfl) dX11_readSeen_10 rfl hm (fun h H locs Hh hm => ?_)
  refine lv_aload_n hx hb dX11_readSeen_13 rfl (lv_at hl 0 rfl) ?_
  refine z_cVI (vs := []) C (fun q hq => ct_X11_readTown l g h l0 q hq) tw_1631 my_X11_readTown (fun q hq => tg_X11_readTown hq) rfl hl.1 Hh ⟨Nat.le_of_ble_eq_true rfl, Nat.le_of_ble_eq_true rfl, Nat.le_of_ble_eq_true rfl, Nat.le_of_ble_eq_true rfl⟩ (Nat.le_of_ble_eq_true rfl) dX11_readSeen_14 rfl hm (fun h x3 H locs Hh hm => ?_)
  refine lv_istore_n (lv' := [(1, qI x3), (0, qR g l0)]) hx hb dX11_readSeen_17 rfl hl (by decide) rfl (fun ls hl => ?_)
  refine lv_aload_n hx hb dX11_readSeen_18 rfl (lv_at hl 1 rfl) ?_
  refine z_iconst C dX11_readSeen_19 ?_
  refine z_bipush C dX11_readSeen_20 rfl ?_
  refine z_cVI (vs := [qI 1, qI 20]) C (fun q hq => ct_X11_readWhole l g h l0 1 20 q hq) tw_1572 my_X11_readWhole (fun q hq => tg_X11_readWhole hq) rfl hl.1 Hh ⟨Nat.le_of_ble_eq_true rfl, Nat.le_of_ble_eq_true rfl, Nat.le_of_ble_eq_true rfl, Nat.le_of_ble_eq_true rfl⟩ (Nat.le_of_ble_eq_true rfl) dX11_readSeen_22 rfl hm (fun h x4 H locs Hh hm => ?_)
  refine lv_istore_n (lv' := [(2, qI x4), (1, qI x3), (0, qR g l0)]) hx hb dX11_readSeen_25 rfl hl (by decide) rfl (fun ls hl => ?_)
  refine lv_aload_n hx hb dX11_readSeen_26 rfl (lv_at hl 2 rfl) ?_
  refine z_iconst C dX11_readSeen_27 ?_
  refine lv_aload_n hx hb dX11_readSeen_28 rfl (lv_at hl 2 rfl) ?_
  refine z_getR C fl_11_190 Hh dX11_readSeen_29 rfl hm (fun x5 hm => ?_)
  refine z_getI C fl_11_194 Hh dX11_readSeen_32 rfl hm (fun x6 hm => ?_)
  refine z_iconst C dX11_readSeen_35 ?_
  refine z_isub C dX11_readSeen_36 ?_
  refine z_cVI (vs := [qI 0, qI (x6 - 1)]) C (fun q hq => ct_X11_readWhole l g h l0 0 (x6 - 1) q hq) tw_1572 my_X11_readWhole (fun q hq => tg_X11_readWhole hq) rfl hl.1 Hh ⟨Nat.le_of_ble_eq_true rfl, Nat.le_of_ble_eq_true rfl, Nat.le_of_ble_eq_true rfl, Nat.le_of_ble_eq_true rfl⟩ (Nat.le_of_ble_eq_true rfl) dX11_readSeen_37 rfl hm (fun h x7 H locs Hh hm => ?_)
  refine lv_istore_n (lv' := [(3, qI x7), (2, qI x4), (1, qI x3), (0, qR g l0)]) hx hb dX11_readSeen_40 rfl hl (by decide) rfl (fun ls hl => ?_)
  refine lv_aload_n hx hb dX11_readSeen_41 rfl (lv_at hl 3 rfl) ?_
  refine z_iconst C dX11_readSeen_42 ?_
  refine lv_aload_n hx hb dX11_readSeen_43 rfl (lv_at hl 3 rfl) ?_
  refine z_getR C fl_11_190 Hh dX11_readSeen_44 rfl hm (fun x8 hm => ?_)
  refine z_getI C fl_11_256 Hh dX11_readSeen_47 rfl hm (fun x9 hm => ?_)
  refine z_iconst C dX11_readSeen_50 ?_
  refine z_isub C dX11_readSeen_51 ?_
  refine z_cVI (vs := [qI 0, qI (x9 - 1)]) C (fun q hq => ct_X11_readWhole l g h l0 0 (x9 - 1) q hq) tw_1572 my_X11_readWhole (fun q hq => tg_X11_readWhole hq) rfl hl.1 Hh ⟨Nat.le_of_ble_eq_true rfl, Nat.le_of_ble_eq_true rfl, Nat.le_of_ble_eq_true rfl, Nat.le_of_ble_eq_true rfl⟩ (Nat.le_of_ble_eq_true rfl) dX11_readSeen_52 rfl hm (fun h x10 H locs Hh hm => ?_)
  refine lv_istore (lv' := [(4, qI x10), (3, qI x7), (2, qI x4), (1, qI x3), (0, qR g l0)]) hx hb dX11_readSeen_55 hl (by decide) rfl (fun ls hl => ?_)
  refine lv_aload_n hx hb dX11_readSeen_57 rfl (lv_at hl 4 rfl) ?_
  refine z_cVI (vs := []) C (fun q hq => ct_X11_readMark l g h l0 q hq) tw_1654 my_X11_readMark (fun q hq => tg_X11_readMark hq) rfl hl.1 Hh ⟨Nat.le_of_ble_eq_true rfl, Nat.le_of_ble_eq_true rfl, Nat.le_of_ble_eq_true rfl, Nat.le_of_ble_eq_true rfl⟩ (Nat.le_of_ble_eq_true rfl) dX11_readSeen_58 rfl hm (fun h x11 H locs Hh hm => ?_)
  refine lv_istore (lv' := [(5, qI x11), (4, qI x10), (3, qI x7), (2, qI x4), (1, qI x3), (0, qR g l0)]) hx hb dX11_readSeen_61 hl (by decide) rfl (fun ls hl => ?_)
  refine lv_aload_n hx hb dX11_readSeen_63 rfl (lv_at hl 5 rfl) ?_
  refine z_getI C fl_11_110 Hh dX11_readSeen_64 rfl hm (fun x12 hm => ?_)
  refine z_iconst C dX11_readSeen_67 ?_
  refine z_icmp_ne (tgt := 72) C dX11_readSeen_68 (by decide) rfl lq_p5 hm (fun _ hm => ?_) (fun _ hm => ?_)
  · refine lv_aload_n hx hb dX11_readSeen_72 rfl (lv_at hl 5 rfl) ?_
    refine z_getR C fl_11_190 Hh dX11_readSeen_73 rfl hm (fun x13 hm => ?_)
    refine z_getR C fl_11_322 Hh dX11_readSeen_76 rfl hm (fun x14 hm => ?_)
    refine lv_aload_n hx hb dX11_readSeen_79 rfl (lv_at hl 5 rfl) ?_
    refine z_getR C fl_11_190 Hh dX11_readSeen_80 rfl hm (fun x15 hm => ?_)
    refine z_getI C fl_11_319 Hh dX11_readSeen_83 rfl hm (fun x16 hm => ?_)
    refine lv_iload_n hx hb dX11_readSeen_86 rfl (lv_at hl 4 rfl) ?_
    refine z_iast C Hh dX11_readSeen_87 hm (fun h H locs Hh hm => ?_)
    refine lv_aload_n hx hb dX11_readSeen_88 rfl (lv_at hl 5 rfl) ?_
    refine z_getR C fl_11_190 Hh dX11_readSeen_89 rfl hm (fun x17 hm => ?_)
    refine z_getR C fl_11_325 Hh dX11_readSeen_92 rfl hm (fun x18 hm => ?_)
    refine lv_aload_n hx hb dX11_readSeen_95 rfl (lv_at hl 5 rfl) ?_
    refine z_getR C fl_11_190 Hh dX11_readSeen_96 rfl hm (fun x19 hm => ?_)
    refine z_getI C fl_11_319 Hh dX11_readSeen_99 rfl hm (fun x20 hm => ?_)
    refine lv_iload_n hx hb dX11_readSeen_102 rfl (lv_at hl 3 rfl) ?_
    refine z_iast C Hh dX11_readSeen_103 hm (fun h H locs Hh hm => ?_)
    refine lv_aload_n hx hb dX11_readSeen_104 rfl (lv_at hl 5 rfl) ?_
    refine z_getR C fl_11_190 Hh dX11_readSeen_105 rfl hm (fun x21 hm => ?_)
    refine z_getR C fl_11_328 Hh dX11_readSeen_108 rfl hm (fun x22 hm => ?_)
    refine lv_aload_n hx hb dX11_readSeen_111 rfl (lv_at hl 5 rfl) ?_
    refine z_getR C fl_11_190 Hh dX11_readSeen_112 rfl hm (fun x23 hm => ?_)
    refine z_getI C fl_11_319 Hh dX11_readSeen_115 rfl hm (fun x24 hm => ?_)
    refine lv_iload hx hb dX11_readSeen_118 (lv_at hl 1 rfl) ?_
    refine lv_aload_n hx hb dX11_readSeen_120 rfl (lv_at hl 5 rfl) ?_
    refine z_getR C fl_11_190 Hh dX11_readSeen_121 rfl hm (fun x25 hm => ?_)
    refine z_getI C fl_11_194 Hh dX11_readSeen_124 rfl hm (fun x26 hm => ?_)
    refine z_imul C dX11_readSeen_127 ?_
    refine lv_iload_n hx hb dX11_readSeen_128 rfl (lv_at hl 2 rfl) ?_
    refine z_iadd C dX11_readSeen_129 ?_
    refine z_iast C Hh dX11_readSeen_130 hm (fun h H locs Hh hm => ?_)
    refine lv_aload_n hx hb dX11_readSeen_131 rfl (lv_at hl 5 rfl) ?_
    refine z_getR C fl_11_190 Hh dX11_readSeen_132 rfl hm (fun x27 hm => ?_)
    refine z_getR C fl_11_331 Hh dX11_readSeen_135 rfl hm (fun x28 hm => ?_)
    refine lv_aload_n hx hb dX11_readSeen_138 rfl (lv_at hl 5 rfl) ?_
    refine z_getR C fl_11_190 Hh dX11_readSeen_139 rfl hm (fun x29 hm => ?_)
    refine z_getI C fl_11_319 Hh dX11_readSeen_142 rfl hm (fun x30 hm => ?_)
    refine lv_iload hx hb dX11_readSeen_145 (lv_at hl 0 rfl) ?_
    refine z_iast C Hh dX11_readSeen_147 hm (fun h H locs Hh hm => ?_)
    refine lv_aload_n hx hb dX11_readSeen_148 rfl (lv_at hl 5 rfl) ?_
    refine z_getR C fl_11_190 Hh dX11_readSeen_149 rfl hm (fun x31 hm => ?_)
    refine lv_dup hx hb dX11_readSeen_152 rfl ?_
    refine z_getI C fl_11_319 Hh dX11_readSeen_153 rfl hm (fun x32 hm => ?_)
    refine z_iconst C dX11_readSeen_156 ?_
    refine z_iadd C dX11_readSeen_157 ?_
    refine z_putI C hnm pl_11_319 Hh dX11_readSeen_158 rfl hm (fun h H locs Hh hm => ?_)
    exact z_vret C hr hlocks Hh dX11_readSeen_161 hm
  · exact z_vret C hr hlocks Hh dX11_readSeen_71 hm
theorem tg_X11_readLine {h : Hp} {l0 : Int} {r : Hp} (hm : M_X11_readLine h l0 = some r) : hT h l0 = 21 := (tk_inv hm).1
set_option maxRecDepth 100000 in
set_option maxHeartbeats 4000000 in
theorem ct_X11_readLine (l : Launch) (g : zGeo) (h0 : Hp) (l0 : Int) (r : Hp) (hm : M_X11_readLine h0 l0 = some r) : zM l yX11_readLine cX11_readLine 1 none 11 281 0 0 g h0 [qR g l0] r none := by
  refine z_meth (by decide) (Nat.le_of_ble_eq_true rfl) ?_
  intro p e s m args below meth c H ls C hr hlocks hnm Hh hl
  have C : zC p m c cX11_readLine 1 s args RX11 g := C
  have hnm : meth.name = "readLine" := hnm
  have hx := C.1.1
  have hb := C.1.2.1
  have hl : lv_has ls 1 [(0, qR g l0)] := hl
  unfold M_X11_readLine at hm
  replace hm := (tk_inv hm).2
  generalize h0 = h at Hh hm
  refine lv_aload_n hx hb dX11_readLine_0 rfl (lv_at hl 0 rfl) ?_
  refine z_ldcS (i := 0) (tx := "ring") C dX11_readLine_1 (by decide) ?_
  refine z_cVIr (vs := [qS g 0]) C (fun q hq => ct_X11_isWord l g h l0 0 q hq) tw_1546 my_X11_isWord (fun q hq => tg_X11_isWord hq) rfl hl.1 Hh ⟨Nat.le_of_ble_eq_true rfl, Nat.le_of_ble_eq_true rfl, Nat.le_of_ble_eq_true rfl, Nat.le_of_ble_eq_true rfl⟩ (Nat.le_of_ble_eq_true rfl) dX11_readLine_3 rfl hm (fun x1 H locs Hh hm => ?_)
  refine z_if_eq (tgt := 16) C dX11_readLine_6 (by decide) rfl hm (fun _ hm => ?_) (fun _ hm => ?_)
  · refine lv_aload_n hx hb dX11_readLine_16 rfl (lv_at hl 0 rfl) ?_
    refine z_ldcS (i := 1) (tx := "town") C dX11_readLine_17 (by decide) ?_
    refine z_cVIr (vs := [qS g 1]) C (fun q hq => ct_X11_isWord l g h l0 1 q hq) tw_1546 my_X11_isWord (fun q hq => tg_X11_isWord hq) rfl hl.1 Hh ⟨Nat.le_of_ble_eq_true rfl, Nat.le_of_ble_eq_true rfl, Nat.le_of_ble_eq_true rfl, Nat.le_of_ble_eq_true rfl⟩ (Nat.le_of_ble_eq_true rfl) dX11_readLine_19 rfl hm (fun x2 H locs Hh hm => ?_)
    refine z_if_eq (tgt := 32) C dX11_readLine_22 (by decide) rfl hm (fun _ hm => ?_) (fun _ hm => ?_)
    · refine lv_aload_n hx hb dX11_readLine_32 rfl (lv_at hl 0 rfl) ?_
      refine z_ldcS (i := 2) (tx := "copies") C dX11_readLine_33 (by decide) ?_
      refine z_cVIr (vs := [qS g 2]) C (fun q hq => ct_X11_isWord l g h l0 2 q hq) tw_1546 my_X11_isWord (fun q hq => tg_X11_isWord hq) rfl hl.1 Hh ⟨Nat.le_of_ble_eq_true rfl, Nat.le_of_ble_eq_true rfl, Nat.le_of_ble_eq_true rfl, Nat.le_of_ble_eq_true rfl⟩ (Nat.le_of_ble_eq_true rfl) dX11_readLine_35 rfl hm (fun x3 H locs Hh hm => ?_)
      refine z_if_eq (tgt := 48) C dX11_readLine_38 (by decide) rfl hm (fun _ hm => ?_) (fun _ hm => ?_)
      · refine lv_aload_n hx hb dX11_readLine_48 rfl (lv_at hl 0 rfl) ?_
        refine z_ldcS (i := 3) (tx := "guess") C dX11_readLine_49 (by decide) ?_
        refine z_cVIr (vs := [qS g 3]) C (fun q hq => ct_X11_isWord l g h l0 3 q hq) tw_1546 my_X11_isWord (fun q hq => tg_X11_isWord hq) rfl hl.1 Hh ⟨Nat.le_of_ble_eq_true rfl, Nat.le_of_ble_eq_true rfl, Nat.le_of_ble_eq_true rfl, Nat.le_of_ble_eq_true rfl⟩ (Nat.le_of_ble_eq_true rfl) dX11_readLine_51 rfl hm (fun x4 H locs Hh hm => ?_)
        refine z_if_eq (tgt := 64) C dX11_readLine_54 (by decide) rfl hm (fun _ hm => ?_) (fun _ hm => ?_)
        · refine lv_aload_n hx hb dX11_readLine_64 rfl (lv_at hl 0 rfl) ?_
          refine z_ldcS (i := 4) (tx := "seen") C dX11_readLine_65 (by decide) ?_
          refine z_cVIr (vs := [qS g 4]) C (fun q hq => ct_X11_isWord l g h l0 4 q hq) tw_1546 my_X11_isWord (fun q hq => tg_X11_isWord hq) rfl hl.1 Hh ⟨Nat.le_of_ble_eq_true rfl, Nat.le_of_ble_eq_true rfl, Nat.le_of_ble_eq_true rfl, Nat.le_of_ble_eq_true rfl⟩ (Nat.le_of_ble_eq_true rfl) dX11_readLine_67 rfl hm (fun x5 H locs Hh hm => ?_)
          refine z_if_eq (tgt := 80) C dX11_readLine_70 (by decide) rfl hm (fun _ hm => ?_) (fun _ hm => ?_)
          · refine lv_aload_n hx hb dX11_readLine_80 rfl (lv_at hl 0 rfl) ?_
            refine z_iconst C dX11_readLine_81 ?_
            refine z_cVv (vs := [qI 1]) C (fun q hq => ct_X11_flaw l g h l0 1 q hq) tw_1559 my_X11_flaw (fun q hq => tg_X11_flaw hq) rfl hl.1 Hh ⟨Nat.le_of_ble_eq_true rfl, Nat.le_of_ble_eq_true rfl, Nat.le_of_ble_eq_true rfl, Nat.le_of_ble_eq_true rfl⟩ (Nat.le_of_ble_eq_true rfl) dX11_readLine_82 rfl hm (fun h H locs Hh hm => ?_)
            exact z_vret C hr hlocks Hh dX11_readLine_85 hm
          · refine lv_aload_n hx hb dX11_readLine_73 rfl (lv_at hl 0 rfl) ?_
            refine z_cVv (vs := []) C (fun q hq => ct_X11_readSeen l g h l0 q hq) tw_1666 my_X11_readSeen (fun q hq => tg_X11_readSeen hq) rfl hl.1 Hh ⟨Nat.le_of_ble_eq_true rfl, Nat.le_of_ble_eq_true rfl, Nat.le_of_ble_eq_true rfl, Nat.le_of_ble_eq_true rfl⟩ (Nat.le_of_ble_eq_true rfl) dX11_readLine_74 rfl hm (fun h H locs Hh hm => ?_)
            refine lv_goto (tgt := 85) hx hb dX11_readLine_77 (by decide) ?_
            exact z_vret C hr hlocks Hh dX11_readLine_85 hm
        · refine lv_aload_n hx hb dX11_readLine_57 rfl (lv_at hl 0 rfl) ?_
          refine z_cVv (vs := []) C (fun q hq => ct_X11_readGuess l g h l0 q hq) tw_1662 my_X11_readGuess (fun q hq => tg_X11_readGuess hq) rfl hl.1 Hh ⟨Nat.le_of_ble_eq_true rfl, Nat.le_of_ble_eq_true rfl, Nat.le_of_ble_eq_true rfl, Nat.le_of_ble_eq_true rfl⟩ (Nat.le_of_ble_eq_true rfl) dX11_readLine_58 rfl hm (fun h H locs Hh hm => ?_)
          refine lv_goto (tgt := 85) hx hb dX11_readLine_61 (by decide) ?_
          exact z_vret C hr hlocks Hh dX11_readLine_85 hm
      · refine lv_aload_n hx hb dX11_readLine_41 rfl (lv_at hl 0 rfl) ?_
        refine z_cVv (vs := []) C (fun q hq => ct_X11_readCopies l g h l0 q hq) tw_1623 my_X11_readCopies (fun q hq => tg_X11_readCopies hq) rfl hl.1 Hh ⟨Nat.le_of_ble_eq_true rfl, Nat.le_of_ble_eq_true rfl, Nat.le_of_ble_eq_true rfl, Nat.le_of_ble_eq_true rfl⟩ (Nat.le_of_ble_eq_true rfl) dX11_readLine_42 rfl hm (fun h H locs Hh hm => ?_)
        refine lv_goto (tgt := 85) hx hb dX11_readLine_45 (by decide) ?_
        exact z_vret C hr hlocks Hh dX11_readLine_85 hm
    · refine lv_aload_n hx hb dX11_readLine_25 rfl (lv_at hl 0 rfl) ?_
      refine z_cVv (vs := []) C (fun q hq => ct_X11_readTownLine l g h l0 q hq) tw_1582 my_X11_readTownLine (fun q hq => tg_X11_readTownLine hq) rfl hl.1 Hh ⟨Nat.le_of_ble_eq_true rfl, Nat.le_of_ble_eq_true rfl, Nat.le_of_ble_eq_true rfl, Nat.le_of_ble_eq_true rfl⟩ (Nat.le_of_ble_eq_true rfl) dX11_readLine_26 rfl hm (fun h H locs Hh hm => ?_)
      refine lv_goto (tgt := 85) hx hb dX11_readLine_29 (by decide) ?_
      exact z_vret C hr hlocks Hh dX11_readLine_85 hm
  · refine lv_aload_n hx hb dX11_readLine_9 rfl (lv_at hl 0 rfl) ?_
    refine z_cVv (vs := []) C (fun q hq => ct_X11_readRing l g h l0 q hq) tw_1555 my_X11_readRing (fun q hq => tg_X11_readRing hq) rfl hl.1 Hh ⟨Nat.le_of_ble_eq_true rfl, Nat.le_of_ble_eq_true rfl, Nat.le_of_ble_eq_true rfl, Nat.le_of_ble_eq_true rfl⟩ (Nat.le_of_ble_eq_true rfl) dX11_readLine_10 rfl hm (fun h H locs Hh hm => ?_)
    refine lv_goto (tgt := 85) hx hb dX11_readLine_13 (by decide) ?_
    exact z_vret C hr hlocks Hh dX11_readLine_85 hm
theorem tg_X11_readAll {h : Hp} {l0 : Int} {r : Hp} (hm : M_X11_readAll h l0 = some r) : hT h l0 = 21 := (tk_inv hm).1
set_option maxRecDepth 100000 in
set_option maxHeartbeats 4000000 in
theorem ct_X11_readAll (l : Launch) (g : zGeo) (h0 : Hp) (l0 : Int) (r : Hp) (hm : M_X11_readAll h0 l0 = some r) : zM l yX11_readAll cX11_readAll 2 none 12 301 0 0 g h0 [qR g l0] r none := by
  refine z_meth (by decide) (Nat.le_of_ble_eq_true rfl) ?_
  intro p e s m args below meth c H ls C hr hlocks hnm Hh hl
  have C : zC p m c cX11_readAll 2 s args RX11 g := C
  have hnm : meth.name = "readAll" := hnm
  have hx := C.1.1
  have hb := C.1.2.1
  have hl : lv_has ls 2 [(0, qR g l0)] := hl
  unfold M_X11_readAll at hm
  replace hm := (tk_inv hm).2
  generalize h0 = h at Hh hm
  have K33 : ∀ (h : Hp) (l0 : Int) (H : Heap) (locs : List Loc) (ls : Array Slot), zH g s h H locs → lv_has ls 2 [(0, qR g l0)] → M_X11_readAll_p33 h l0 = some r → W p l e { frames := 12, cells := 0, slots := 0, locals := 301 } s m args below meth c H locs 0 0 (zQ below g r none args s 0 0) (F0 m 33 ls []) := by
    intro h l0  H locs ls Hh hl hm
    unfold M_X11_readAll_p33 at hm
    refine lv_aload_n hx hb dX11_readAll_33 rfl (lv_at hl 0 rfl) ?_
    refine z_getR C fl_11_190 Hh dX11_readAll_34 rfl hm (fun x1 hm => ?_)
    refine z_getI C fl_11_230 Hh dX11_readAll_37 rfl hm (fun x2 hm => ?_)
    refine z_if_ne (tgt := 49) C dX11_readAll_40 (by decide) rfl hm (fun _ hm => ?_) (fun _ hm => ?_)
    · exact z_vret C hr hlocks Hh dX11_readAll_49 hm
    · refine lv_aload_n hx hb dX11_readAll_43 rfl (lv_at hl 0 rfl) ?_
      refine z_bipush C dX11_readAll_44 rfl ?_
      refine z_cVv (vs := [qI 6]) C (fun q hq => ct_X11_flaw l g h l0 6 q hq) tw_1559 my_X11_flaw (fun q hq => tg_X11_flaw hq) rfl hl.1 Hh ⟨Nat.le_of_ble_eq_true rfl, Nat.le_of_ble_eq_true rfl, Nat.le_of_ble_eq_true rfl, Nat.le_of_ble_eq_true rfl⟩ (Nat.le_of_ble_eq_true rfl) dX11_readAll_46 rfl hm (fun h H locs Hh hm => ?_)
      exact z_vret C hr hlocks Hh dX11_readAll_49 hm
  have K20 : ∀ (h : Hp) (l0 : Int) (H : Heap) (locs : List Loc) (ls : Array Slot), zH g s h H locs → lv_has ls 2 [(0, qR g l0)] → M_X11_readAll_p20 h l0 = some r → W p l e { frames := 12, cells := 0, slots := 0, locals := 301 } s m args below meth c H locs 0 0 (zQ below g r none args s 0 0) (F0 m 20 ls []) := by
    intro h l0  H locs ls Hh hl hm
    unfold M_X11_readAll_p20 at hm
    refine lv_aload_n hx hb dX11_readAll_20 rfl (lv_at hl 0 rfl) ?_
    refine z_getI C fl_11_110 Hh dX11_readAll_21 rfl hm (fun x3 hm => ?_)
    refine z_iconst C dX11_readAll_24 ?_
    refine z_icmp_eq (tgt := 33) C dX11_readAll_25 (by decide) rfl lq_p1 hm (fun _ hm => ?_) (fun _ hm => ?_)
    · exact K33 h l0 _ _ _ Hh (lv_sub hl [0] rfl) hm
    · refine lv_aload_n hx hb dX11_readAll_28 rfl (lv_at hl 0 rfl) ?_
      refine z_iconst C dX11_readAll_29 ?_
      refine z_cVv (vs := [qI 1]) C (fun q hq => ct_X11_flaw l g h l0 1 q hq) tw_1559 my_X11_flaw (fun q hq => tg_X11_flaw hq) rfl hl.1 Hh ⟨Nat.le_of_ble_eq_true rfl, Nat.le_of_ble_eq_true rfl, Nat.le_of_ble_eq_true rfl, Nat.le_of_ble_eq_true rfl⟩ (Nat.le_of_ble_eq_true rfl) dX11_readAll_30 rfl hm (fun h H locs Hh hm => ?_)
      exact K33 h l0 _ _ _ Hh (lv_sub hl [0] rfl) hm
  have KL2 : ∀ (n : Nat) (h : Hp) (l0 l1 : Int) (H : Heap) (locs : List Loc) (ls : Array Slot), zH g s h H locs → lv_has ls 2 [(0, qR g l0), (1, qI l1)] → M_X11_readAll_w2 n h l0 l1 = some r → W p l e { frames := 12, cells := 0, slots := 0, locals := 301 } s m args below meth c H locs 0 0 (zQ below g r none args s 0 0) (F0 m 2 ls []) := by
    intro n
    induction n with
    | zero => intro h l0 l1 H locs ls Hh hl hm; cases hm
    | succ n ih2 =>
      intro h l0 l1 H locs ls Hh hl hm
      obtain ⟨z2, hm, hc2⟩ := wh_inv hm
      have hm : M_X11_readAll_b2 h l0 l1 = some z2 := hm
      unfold M_X11_readAll_b2 at hm
      refine lv_iload_n hx hb dX11_readAll_2 rfl (lv_at hl 1 rfl) ?_
      refine z_if_eq (tgt := 20) C dX11_readAll_3 (by decide) rfl hm (fun _ hm => ?_) (fun _ hm => ?_)
      · cases hm
        exact K20 h l0 _ _ _ Hh (lv_sub hl [0] rfl) hc2
      · refine lv_aload_n hx hb dX11_readAll_6 rfl (lv_at hl 0 rfl) ?_
        refine z_cVv (vs := []) C (fun q hq => ct_X11_readLine l g h l0 q hq) tw_1541 my_X11_readLine (fun q hq => tg_X11_readLine hq) rfl hl.1 Hh ⟨Nat.le_of_ble_eq_true rfl, Nat.le_of_ble_eq_true rfl, Nat.le_of_ble_eq_true rfl, Nat.le_of_ble_eq_true rfl⟩ (Nat.le_of_ble_eq_true rfl) dX11_readAll_7 rfl hm (fun h H locs Hh hm => ?_)
        refine lv_aload_n hx hb dX11_readAll_10 rfl (lv_at hl 0 rfl) ?_
        refine z_bipush C dX11_readAll_11 rfl ?_
        refine z_cVI (vs := [qI 59]) C (fun q hq => ct_X11_eatsSign l g h l0 59 q hq) tw_1602 my_X11_eatsSign (fun q hq => tg_X11_eatsSign hq) rfl hl.1 Hh ⟨Nat.le_of_ble_eq_true rfl, Nat.le_of_ble_eq_true rfl, Nat.le_of_ble_eq_true rfl, Nat.le_of_ble_eq_true rfl⟩ (Nat.le_of_ble_eq_true rfl) dX11_readAll_13 rfl hm (fun h x4 H locs Hh hm => ?_)
        refine lv_istore_n (lv' := [(1, qI x4), (0, qR g l0)]) hx hb dX11_readAll_16 rfl hl (by decide) rfl (fun ls hl => ?_)
        refine lv_goto (tgt := 2) hx hb dX11_readAll_17 (by decide) ?_
        cases hm
        exact ih2 h l0 x4 _ _ _ Hh (lv_sub hl [1, 0] rfl) hc2
  refine z_iconst C dX11_readAll_0 ?_
  refine lv_istore_n (lv' := [(1, qI 1), (0, qR g l0)]) hx hb dX11_readAll_1 rfl hl (by decide) rfl (fun ls hl => ?_)
  exact KL2 FU h l0 1 _ _ _ Hh (lv_sub hl [1, 0] rfl) hm
theorem tg_X11_feed {h : Hp} {l0 l1 l2 l3 l4 l5 : Int} {r : Hp × Int} (hm : M_X11_feed h l0 l1 l2 l3 l4 l5 = some r) : hT h l0 = 21 := (tk_inv hm).1
set_option maxRecDepth 100000 in
set_option maxHeartbeats 4000000 in
theorem ct_X11_feed (l : Launch) (g : zGeo) (h0 : Hp) (l0 l1 l2 l3 l4 l5 : Int) (r : Hp × Int) (hm : M_X11_feed h0 l0 l1 l2 l3 l4 l5 = some r) : zM l yX11_feed cX11_feed 8 (some .int) 0 0 0 0 g h0 [qR g l0, qI l1, qI l2, qI l3, qI l4, qI l5] r.1 (some (qI r.2)) := by
  refine z_meth (by decide) (Nat.le_of_ble_eq_true rfl) ?_
  intro p e s m args below meth c H ls C hr hlocks hnm Hh hl
  have C : zC p m c cX11_feed 8 s args RX11 g := C
  have hnm : meth.name = "feed" := hnm
  have hx := C.1.1
  have hb := C.1.2.1
  have hl : lv_has ls 8 [(0, qR g l0), (1, qI l1), (2, qI l2), (3, qI l3), (4, qI l4), (5, qI l5)] := hl
  unfold M_X11_feed at hm
  replace hm := (tk_inv hm).2
  generalize h0 = h at Hh hm
  have K117 : ∀ (h : Hp) (l0 : Int) (H : Heap) (locs : List Loc) (ls : Array Slot), zH g s h H locs → lv_has ls 8 [(0, qR g l0)] → M_X11_feed_p117 h l0 = some r → W p l e { frames := 0, cells := 0, slots := 0, locals := 0 } s m args below meth c H locs 0 0 (zQ below g r.1 (some (qI r.2)) args s 0 0) (F0 m 117 ls []) := by
    intro h l0  H locs ls Hh hl hm
    unfold M_X11_feed_p117 at hm
    refine lv_aload_n hx hb dX11_feed_117 rfl (lv_at hl 0 rfl) ?_
    refine z_getI C fl_11_334 Hh dX11_feed_118 rfl hm (fun x1 hm => ?_)
    exact z_iret C hr hlocks Hh dX11_feed_121 hm
  have KL23 : ∀ (n : Nat) (h : Hp) (l0 l1 l2 l3 l4 l5 l6 : Int) (H : Heap) (locs : List Loc) (ls : Array Slot), zH g s h H locs → lv_has ls 8 [(0, qR g l0), (1, qI l1), (2, qI l2), (3, qI l3), (4, qI l4), (5, qI l5), (6, qI l6)] → M_X11_feed_w23 n h l0 l1 l2 l3 l4 l5 l6 = some r → W p l e { frames := 0, cells := 0, slots := 0, locals := 0 } s m args below meth c H locs 0 0 (zQ below g r.1 (some (qI r.2)) args s 0 0) (F0 m 23 ls []) := by
    intro n
    induction n with
    | zero => intro h l0 l1 l2 l3 l4 l5 l6 H locs ls Hh hl hm; cases hm
    | succ n ih23 =>
      intro h l0 l1 l2 l3 l4 l5 l6 H locs ls Hh hl hm
      obtain ⟨z23, hm, hc23⟩ := wh_inv hm
      have hm : M_X11_feed_b23 h l0 l1 l2 l3 l4 l5 l6 = some z23 := hm
      have K76 : ∀ (h : Hp) (l6 : Int) (s0 : Int) (H : Heap) (locs : List Loc) (ls : Array Slot), zH g s h H locs → lv_has ls 8 [(0, qR g l0), (1, qI l1), (2, qI l2), (3, qI l3), (4, qI l4), (5, qI l5), (6, qI l6)] → M_X11_feed_p76 h l0 l1 l2 l3 l4 l5 l6 s0 = some z23 → W p l e { frames := 0, cells := 0, slots := 0, locals := 0 } s m args below meth c H locs 0 0 (zQ below g r.1 (some (qI r.2)) args s 0 0) (F0 m 76 ls [qI s0]) := by
        intro h l6 s0 H locs ls Hh hl hm
        unfold M_X11_feed_p76 at hm
        refine lv_istore (lv' := [(7, qI s0), (0, qR g l0), (1, qI l1), (2, qI l2), (3, qI l3), (4, qI l4), (5, qI l5), (6, qI l6)]) hx hb dX11_feed_76 hl (by decide) rfl (fun ls hl => ?_)
        refine lv_aload_n hx hb dX11_feed_78 rfl (lv_at hl 1 rfl) ?_
        refine z_getR C fl_11_13 Hh dX11_feed_79 rfl hm (fun x2 hm => ?_)
        refine lv_aload_n hx hb dX11_feed_82 rfl (lv_at hl 1 rfl) ?_
        refine z_getI C fl_11_334 Hh dX11_feed_83 rfl hm (fun x3 hm => ?_)
        refine lv_iload hx hb dX11_feed_86 (lv_at hl 0 rfl) ?_
        refine z_bipush C dX11_feed_88 rfl ?_
        refine z_bipush C dX11_feed_90 rfl ?_
        refine lv_iload hx hb dX11_feed_92 (lv_at hl 7 rfl) ?_
        refine z_iconst C dX11_feed_94 ?_
        refine z_irem C dX11_feed_95 hm (fun x4 hm => ?_)
        refine z_imul C dX11_feed_96 ?_
        refine z_isub C dX11_feed_97 ?_
        refine z_ishr C dX11_feed_98 ?_
        refine z_i2b C dX11_feed_99 ?_
        refine z_bast C Hh dX11_feed_100 hm (fun h H locs Hh hm => ?_)
        refine lv_aload_n hx hb dX11_feed_101 rfl (lv_at hl 1 rfl) ?_
        refine lv_dup hx hb dX11_feed_102 rfl ?_
        refine z_getI C fl_11_334 Hh dX11_feed_103 rfl hm (fun x5 hm => ?_)
        refine z_iconst C dX11_feed_106 ?_
        refine z_iadd C dX11_feed_107 ?_
        refine z_putI C hnm pl_11_334 Hh dX11_feed_108 rfl hm (fun h H locs Hh hm => ?_)
        refine z_iinc (x := l6) (k := 7) (lv' := [(6, qI (l6 + 1)), (7, qI s0), (0, qR g l0), (1, qI l1), (2, qI l2), (3, qI l3), (4, qI l4), (5, qI l5)]) C dX11_feed_111 hl rfl (by decide) rfl (fun ls hl => ?_)
        refine lv_goto (tgt := 23) hx hb dX11_feed_114 (by decide) ?_
        cases hm
        exact ih23 h l0 l1 l2 l3 l4 l5 (l6 + 1) _ _ _ Hh (lv_sub hl [2, 3, 4, 5, 6, 7, 0] rfl) hc23
      unfold M_X11_feed_b23 at hm
      refine lv_iload hx hb dX11_feed_23 (lv_at hl 6 rfl) ?_
      refine z_bipush C dX11_feed_25 rfl ?_
      refine z_icmp_ge (tgt := 117) C dX11_feed_27 (by decide) rfl lq_p20 hm (fun _ hm => ?_) (fun _ hm => ?_)
      · cases hm
        exact K117 h l0 _ _ _ Hh (lv_sub hl [0] rfl) hc23
      · refine lv_iload hx hb dX11_feed_30 (lv_at hl 6 rfl) ?_
        refine z_iconst C dX11_feed_32 ?_
        refine z_icmp_ge (tgt := 40) C dX11_feed_33 (by decide) rfl lq_p4 hm (fun _ hm => ?_) (fun _ hm => ?_)
        · refine lv_iload hx hb dX11_feed_40 (lv_at hl 6 rfl) ?_
          refine z_bipush C dX11_feed_42 rfl ?_
          refine z_icmp_ge (tgt := 51) C dX11_feed_44 (by decide) rfl lq_p8 hm (fun _ hm => ?_) (fun _ hm => ?_)
          · refine lv_iload hx hb dX11_feed_51 (lv_at hl 6 rfl) ?_
            refine z_bipush C dX11_feed_53 rfl ?_
            refine z_icmp_ge (tgt := 62) C dX11_feed_55 (by decide) rfl lq_p12 hm (fun _ hm => ?_) (fun _ hm => ?_)
            · refine lv_iload hx hb dX11_feed_62 (lv_at hl 6 rfl) ?_
              refine z_bipush C dX11_feed_64 rfl ?_
              refine z_icmp_ge (tgt := 74) C dX11_feed_66 (by decide) rfl lq_p16 hm (fun _ hm => ?_) (fun _ hm => ?_)
              · refine lv_iload hx hb dX11_feed_74 (lv_at hl 5 rfl) ?_
                exact K76 h l6 l5 _ _ _ Hh (lv_sub hl [0, 1, 2, 3, 4, 5, 6] rfl) hm
              · refine lv_iload hx hb dX11_feed_69 (lv_at hl 4 rfl) ?_
                refine lv_goto (tgt := 76) hx hb dX11_feed_71 (by decide) ?_
                exact K76 h l6 l4 _ _ _ Hh (lv_sub hl [0, 1, 2, 3, 4, 5, 6] rfl) hm
            · refine lv_iload_n hx hb dX11_feed_58 rfl (lv_at hl 3 rfl) ?_
              refine lv_goto (tgt := 76) hx hb dX11_feed_59 (by decide) ?_
              exact K76 h l6 l3 _ _ _ Hh (lv_sub hl [0, 1, 2, 3, 4, 5, 6] rfl) hm
          · refine lv_iload_n hx hb dX11_feed_47 rfl (lv_at hl 2 rfl) ?_
            refine lv_goto (tgt := 76) hx hb dX11_feed_48 (by decide) ?_
            exact K76 h l6 l2 _ _ _ Hh (lv_sub hl [0, 1, 2, 3, 4, 5, 6] rfl) hm
        · refine lv_iload_n hx hb dX11_feed_36 rfl (lv_at hl 1 rfl) ?_
          refine lv_goto (tgt := 76) hx hb dX11_feed_37 (by decide) ?_
          exact K76 h l6 l1 _ _ _ Hh (lv_sub hl [0, 1, 2, 3, 4, 5, 6] rfl) hm
  refine lv_aload_n hx hb dX11_feed_0 rfl (lv_at hl 0 rfl) ?_
  refine z_iconst C dX11_feed_1 ?_
  refine z_putI C hnm pl_11_78 Hh dX11_feed_2 rfl hm (fun h H locs Hh hm => ?_)
  refine lv_aload_n hx hb dX11_feed_5 rfl (lv_at hl 0 rfl) ?_
  refine z_getI C fl_11_334 Hh dX11_feed_6 rfl hm (fun x6 hm => ?_)
  refine z_bipush C dX11_feed_9 rfl ?_
  refine z_iadd C dX11_feed_11 ?_
  refine z_sipush C dX11_feed_12 rfl ?_
  refine z_icmp_le (tgt := 20) C dX11_feed_15 (by decide) rfl lq_p900 hm (fun _ hm => ?_) (fun _ hm => ?_)
  · refine z_iconst C dX11_feed_20 ?_
    refine lv_istore (lv' := [(6, qI 0), (0, qR g l0), (1, qI l1), (2, qI l2), (3, qI l3), (4, qI l4), (5, qI l5)]) hx hb dX11_feed_21 hl (by decide) rfl (fun ls hl => ?_)
    exact KL23 FU h l0 l1 l2 l3 l4 l5 0 _ _ _ Hh (lv_sub hl [1, 2, 3, 4, 5, 6, 0] rfl) hm
  · refine z_iconst C dX11_feed_18 ?_
    exact z_iret C hr hlocks Hh dX11_feed_19 hm
