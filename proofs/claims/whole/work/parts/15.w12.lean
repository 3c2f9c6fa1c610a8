theorem tg_X11_steps {h : Hp} {l0 l1 : Int} {r : Hp} (hm : M_X11_steps h l0 l1 = some r) : hT h l0 = 21 := (tk_inv hm).1
set_option maxRecDepth 100000 in
set_option maxHeartbeats 4000000 in
theorem ct_X11_steps (l : Launch) (g : zGeo) (h0 : Hp) (l0 l1 : Int) (r : Hp) (hm : M_X11_steps h0 l0 l1 = some r) : zM l yX11_steps cX11_steps 3 none 5 123 0 0 g h0 [qR g l0, qI l1] r none := by
  refine z_meth (by decide) (Nat.le_of_ble_eq_true rfl) ?_
  intro p e s m args below meth c H ls C hr hlocks hnm Hh hl
  have C : zC p m c cX11_steps 3 s args RX11 g := C
  have hnm : meth.name = "steps" := hnm
  have hx := C.1.1
  have hb := C.1.2.1
  have hl : lv_has ls 3 [(0, qR g l0), (1, qI l1)] := hl
  unfold M_X11_steps at hm
  replace hm := (tk_inv hm).2
  generalize h0 = h at Hh hm
  have K18 : ∀ (h : Hp) (H : Heap) (locs : List Loc) (ls : Array Slot), zH g s h H locs → lv_has ls 3 [] → M_X11_steps_p18 h = some r → W p l e { frames := 5, cells := 0, slots := 0, locals := 123 } s m args below meth c H locs 0 0 (zQ below g r none args s 0 0) (F0 m 18 ls []) := by
    intro h  H locs ls Hh hl hm
    unfold M_X11_steps_p18 at hm
    exact z_vret C hr hlocks Hh dX11_steps_18 hm
  have KL2 : ∀ (n : Nat) (h : Hp) (l0 l1 l2 : Int) (H : Heap) (locs : List Loc) (ls : Array Slot), zH g s h H locs → lv_has ls 3 [(0, qR g l0), (1, qI l1), (2, qI l2)] → M_X11_steps_w2 n h l0 l1 l2 = some r → W p l e { frames := 5, cells := 0, slots := 0, locals := 123 } s m args below meth c H locs 0 0 (zQ below g r none args s 0 0) (F0 m 2 ls []) := by
    intro n
    induction n with
    | zero => intro h l0 l1 l2 H locs ls Hh hl hm; cases hm
    | succ n ih2 =>
      intro h l0 l1 l2 H locs ls Hh hl hm
      obtain ⟨z2, hm, hc2⟩ := wh_inv hm
      have hm : M_X11_steps_b2 h l0 l1 l2 = some z2 := hm
      unfold M_X11_steps_b2 at hm
      refine lv_iload_n hx hb dX11_steps_2 rfl (lv_at hl 2 rfl) ?_
      refine lv_iload_n hx hb dX11_steps_3 rfl (lv_at hl 1 rfl) ?_
      refine z_icmp_ge (tgt := 18) C dX11_steps_4 (by decide) rfl rfl hm (fun _ hm => ?_) (fun _ hm => ?_)
      · cases hm
        exact K18 h _ _ _ Hh (lv_sub hl [] rfl) hc2
      · refine lv_aload_n hx hb dX11_steps_7 rfl (lv_at hl 0 rfl) ?_
        refine lv_iload_n hx hb dX11_steps_8 rfl (lv_at hl 2 rfl) ?_
        refine z_cVv (vs := [qI l2]) C (fun q hq => ct_X11_step l g h l0 l2 q hq) tw_1726 my_X11_step (fun q hq => tg_X11_step hq) rfl hl.1 Hh ⟨Nat.le_of_ble_eq_true rfl, Nat.le_of_ble_eq_true rfl, Nat.le_of_ble_eq_true rfl, Nat.le_of_ble_eq_true rfl⟩ (Nat.le_of_ble_eq_true rfl) dX11_steps_9 rfl hm (fun h H locs Hh hm => ?_)
        refine z_iinc (x := l2) (k := 2) (lv' := [(2, qI (l2 + 1)), (0, qR g l0), (1, qI l1)]) C dX11_steps_12 hl rfl (by decide) rfl (fun ls hl => ?_)
        refine lv_goto (tgt := 2) hx hb dX11_steps_15 (by decide) ?_
        cases hm
        exact ih2 h l0 l1 (l2 + 1) _ _ _ Hh (lv_sub hl [1, 2, 0] rfl) hc2
  refine z_iconst C dX11_steps_0 ?_
  refine lv_istore_n (lv' := [(2, qI 0), (0, qR g l0), (1, qI l1)]) hx hb dX11_steps_1 rfl hl (by decide) rfl (fun ls hl => ?_)
  exact KL2 FU h l0 l1 0 _ _ _ Hh (lv_sub hl [1, 2, 0] rfl) hm
theorem tg_X11_behind {h : Hp} {l0 l1 l2 l3 : Int} {r : Int} (hm : M_X11_behind h l0 l1 l2 l3 = some r) : hT h l0 = 21 := (tk_inv hm).1
set_option maxRecDepth 100000 in
set_option maxHeartbeats 4000000 in
theorem ct_X11_behind (l : Launch) (g : zGeo) (h : Hp) (l0 l1 l2 l3 : Int) (r : Int) (hm : M_X11_behind h l0 l1 l2 l3 = some r) : zM l yX11_behind cX11_behind 4 (some .int) 0 0 0 0 g h [qR g l0, qI l1, qI l2, qI l3] h (some (qI r)) := by
  refine z_meth (by decide) (Nat.le_of_ble_eq_true rfl) ?_
  intro p e s m args below meth c H ls C hr hlocks hnm Hh hl
  have C : zC p m c cX11_behind 4 s args RX11 g := C
  have hnm : meth.name = "behind" := hnm
  have hx := C.1.1
  have hb := C.1.2.1
  have hl : lv_has ls 4 [(0, qR g l0), (1, qI l1), (2, qI l2), (3, qI l3)] := hl
  unfold M_X11_behind at hm
  replace hm := (tk_inv hm).2
  refine lv_aload_n hx hb dX11_behind_0 rfl (lv_at hl 0 rfl) ?_
  refine z_getR C fl_11_28 Hh dX11_behind_1 rfl hm (fun x1 hm => ?_)
  refine z_sipush C dX11_behind_4 rfl ?_
  refine lv_iload_n hx hb dX11_behind_7 rfl (lv_at hl 1 rfl) ?_
  refine z_imul C dX11_behind_8 ?_
  refine z_bipush C dX11_behind_9 rfl ?_
  refine lv_iload_n hx hb dX11_behind_11 rfl (lv_at hl 2 rfl) ?_
  refine z_imul C dX11_behind_12 ?_
  refine z_iadd C dX11_behind_13 ?_
  refine lv_iload_n hx hb dX11_behind_14 rfl (lv_at hl 3 rfl) ?_
  refine z_iadd C dX11_behind_15 ?_
  refine z_iald C Hh dX11_behind_16 hm (fun x2 hm => ?_)
  exact z_iretR (h0 := h) C hr hlocks Hh dX11_behind_17 hm
theorem tg_X11_copies {h : Hp} {l0 l1 : Int} {r : Hp × Int} (hm : M_X11_copies h l0 l1 = some r) : hT h l0 = 21 := (tk_inv hm).1
set_option maxRecDepth 100000 in
set_option maxHeartbeats 4000000 in
theorem ct_X11_copies (l : Launch) (g : zGeo) (h0 : Hp) (l0 l1 : Int) (r : Hp × Int) (hm : M_X11_copies h0 l0 l1 = some r) : zM l yX11_copies cX11_copies 2 (some .int) 1 21 0 0 g h0 [qR g l0, qI l1] r.1 (some (qI r.2)) := by
  refine z_meth (by decide) (Nat.le_of_ble_eq_true rfl) ?_
  intro p e s m args below meth c H ls C hr hlocks hnm Hh hl
  have C : zC p m c cX11_copies 2 s args RX11 g := C
  have hnm : meth.name = "copies" := hnm
  have hx := C.1.1
  have hb := C.1.2.1
  have hl : lv_has ls 2 [(0, qR g l0), (1, qI l1)] := hl
  unfold M_X11_copies at hm
  replace hm := (tk_inv hm).2
  generalize h0 = h at Hh hm
  refine lv_aload_n hx hb dX11_copies_0 rfl (lv_at hl 0 rfl) ?_
  refine z_iconst C dX11_copies_1 ?_
  refine z_putI C hnm pl_11_78 Hh dX11_copies_2 rfl hm (fun h H locs Hh hm => ?_)
  refine lv_aload_n hx hb dX11_copies_5 rfl (lv_at hl 0 rfl) ?_
  refine lv_iload_n hx hb dX11_copies_6 rfl (lv_at hl 1 rfl) ?_
  refine z_cVIr (vs := [qI l1]) C (fun q hq => ct_X11_isTown l g h l0 l1 q hq) tw_1686 my_X11_isTown (fun q hq => tg_X11_isTown hq) rfl hl.1 Hh ⟨Nat.le_of_ble_eq_true rfl, Nat.le_of_ble_eq_true rfl, Nat.le_of_ble_eq_true rfl, Nat.le_of_ble_eq_true rfl⟩ (Nat.le_of_ble_eq_true rfl) dX11_copies_7 rfl hm (fun x1 H locs Hh hm => ?_)
  refine z_if_eq (tgt := 30) C dX11_copies_10 (by decide) rfl hm (fun _ hm => ?_) (fun _ hm => ?_)
  · refine lv_aload_n hx hb dX11_copies_30 rfl (lv_at hl 0 rfl) ?_
    refine z_iconst C dX11_copies_31 ?_
    refine z_cVI (vs := [qI 1]) C (fun q hq => ct_X11_refused l g h l0 1 q hq) tw_1451 my_X11_refused (fun q hq => tg_X11_refused hq) rfl hl.1 Hh ⟨Nat.le_of_ble_eq_true rfl, Nat.le_of_ble_eq_true rfl, Nat.le_of_ble_eq_true rfl, Nat.le_of_ble_eq_true rfl⟩ (Nat.le_of_ble_eq_true rfl) dX11_copies_32 rfl hm (fun h x2 H locs Hh hm => ?_)
    exact z_iret C hr hlocks Hh dX11_copies_35 hm
  · refine lv_aload_n hx hb dX11_copies_13 rfl (lv_at hl 0 rfl) ?_
    refine lv_aload_n hx hb dX11_copies_14 rfl (lv_at hl 0 rfl) ?_
    refine z_getR C fl_11_17 Hh dX11_copies_15 rfl hm (fun x3 hm => ?_)
    refine z_sipush C dX11_copies_18 rfl ?_
    refine lv_iload_n hx hb dX11_copies_21 rfl (lv_at hl 1 rfl) ?_
    refine z_iadd C dX11_copies_22 ?_
    refine z_iald C Hh dX11_copies_23 hm (fun x4 hm => ?_)
    refine z_cVI (vs := [qI x4]) C (fun q hq => ct_X11_good l g h l0 x4 q hq) tw_1670 my_X11_good (fun q hq => tg_X11_good hq) rfl hl.1 Hh ⟨Nat.le_of_ble_eq_true rfl, Nat.le_of_ble_eq_true rfl, Nat.le_of_ble_eq_true rfl, Nat.le_of_ble_eq_true rfl⟩ (Nat.le_of_ble_eq_true rfl) dX11_copies_24 rfl hm (fun h x5 H locs Hh hm => ?_)
    refine lv_goto (tgt := 35) hx hb dX11_copies_27 (by decide) ?_
    exact z_iret C hr hlocks Hh dX11_copies_35 hm
theorem tg_X11_error {h : Hp} {l0 l1 l2 : Int} {r : Hp × Int} (hm : M_X11_error h l0 l1 l2 = some r) : hT h l0 = 21 := (tk_inv hm).1
set_option maxRecDepth 100000 in
set_option maxHeartbeats 4000000 in
theorem ct_X11_error (l : Launch) (g : zGeo) (h0 : Hp) (l0 l1 l2 : Int) (r : Hp × Int) (hm : M_X11_error h0 l0 l1 l2 = some r) : zM l yX11_error cX11_error 3 (some .int) 1 22 0 0 g h0 [qR g l0, qI l1, qI l2] r.1 (some (qI r.2)) := by
  refine z_meth (by decide) (Nat.le_of_ble_eq_true rfl) ?_
  intro p e s m args below meth c H ls C hr hlocks hnm Hh hl
  have C : zC p m c cX11_error 3 s args RX11 g := C
  have hnm : meth.name = "error" := hnm
  have hx := C.1.1
  have hb := C.1.2.1
  have hl : lv_has ls 3 [(0, qR g l0), (1, qI l1), (2, qI l2)] := hl
  unfold M_X11_error at hm
  replace hm := (tk_inv hm).2
  generalize h0 = h at Hh hm
  refine lv_aload_n hx hb dX11_error_0 rfl (lv_at hl 0 rfl) ?_
  refine z_iconst C dX11_error_1 ?_
  refine z_putI C hnm pl_11_78 Hh dX11_error_2 rfl hm (fun h H locs Hh hm => ?_)
  refine lv_aload_n hx hb dX11_error_5 rfl (lv_at hl 0 rfl) ?_
  refine lv_iload_n hx hb dX11_error_6 rfl (lv_at hl 1 rfl) ?_
  refine z_cVIr (vs := [qI l1]) C (fun q hq => ct_X11_isTown l g h l0 l1 q hq) tw_1686 my_X11_isTown (fun q hq => tg_X11_isTown hq) rfl hl.1 Hh ⟨Nat.le_of_ble_eq_true rfl, Nat.le_of_ble_eq_true rfl, Nat.le_of_ble_eq_true rfl, Nat.le_of_ble_eq_true rfl⟩ (Nat.le_of_ble_eq_true rfl) dX11_error_7 rfl hm (fun x1 H locs Hh hm => ?_)
  refine z_if_eq (tgt := 22) C dX11_error_10 (by decide) rfl hm (fun _ hm => ?_) (fun _ hm => ?_)
  · refine lv_aload_n hx hb dX11_error_22 rfl (lv_at hl 0 rfl) ?_
    refine z_iconst C dX11_error_23 ?_
    refine z_cVI (vs := [qI 1]) C (fun q hq => ct_X11_refused l g h l0 1 q hq) tw_1451 my_X11_refused (fun q hq => tg_X11_refused hq) rfl hl.1 Hh ⟨Nat.le_of_ble_eq_true rfl, Nat.le_of_ble_eq_true rfl, Nat.le_of_ble_eq_true rfl, Nat.le_of_ble_eq_true rfl⟩ (Nat.le_of_ble_eq_true rfl) dX11_error_24 rfl hm (fun h x2 H locs Hh hm => ?_)
    exact z_iret C hr hlocks Hh dX11_error_27 hm
  · refine lv_iload_n hx hb dX11_error_13 rfl (lv_at hl 2 rfl) ?_
    refine z_iconst C dX11_error_14 ?_
    refine z_iconst C dX11_error_15 ?_
    refine z_cSIr (vs := [qI l2, qI 0, qI 3]) C (fun q hq => ct_X11_in l g h l2 0 3 q hq) tw_1576 my_X11_in rfl hl.1 Hh ⟨Nat.le_of_ble_eq_true rfl, Nat.le_of_ble_eq_true rfl, Nat.le_of_ble_eq_true rfl, Nat.le_of_ble_eq_true rfl⟩ (Nat.le_of_ble_eq_true rfl) dX11_error_16 rfl hm (fun x3 H locs Hh hm => ?_)
    refine z_if_ne (tgt := 28) C dX11_error_19 (by decide) rfl hm (fun _ hm => ?_) (fun _ hm => ?_)
    · refine lv_aload_n hx hb dX11_error_28 rfl (lv_at hl 0 rfl) ?_
      refine z_getR C fl_11_17 Hh dX11_error_29 rfl hm (fun x4 hm => ?_)
      refine z_sipush C dX11_error_32 rfl ?_
      refine lv_iload_n hx hb dX11_error_35 rfl (lv_at hl 1 rfl) ?_
      refine z_iadd C dX11_error_36 ?_
      refine z_iald C Hh dX11_error_37 hm (fun x5 hm => ?_)
      refine z_bipush C dX11_error_38 rfl ?_
      refine z_icmp_ne (tgt := 58) C dX11_error_40 (by decide) rfl lq_m2 hm (fun _ hm => ?_) (fun _ hm => ?_)
      · refine lv_aload_n hx hb dX11_error_58 rfl (lv_at hl 0 rfl) ?_
        refine lv_aload_n hx hb dX11_error_59 rfl (lv_at hl 0 rfl) ?_
        refine z_getR C fl_11_17 Hh dX11_error_60 rfl hm (fun x6 hm => ?_)
        refine z_sipush C dX11_error_63 rfl ?_
        refine z_iconst C dX11_error_66 ?_
        refine lv_iload_n hx hb dX11_error_67 rfl (lv_at hl 1 rfl) ?_
        refine z_imul C dX11_error_68 ?_
        refine z_iadd C dX11_error_69 ?_
        refine lv_iload_n hx hb dX11_error_70 rfl (lv_at hl 2 rfl) ?_
        refine z_iadd C dX11_error_71 ?_
        refine z_iald C Hh dX11_error_72 hm (fun x7 hm => ?_)
        refine z_cVI (vs := [qI x7]) C (fun q hq => ct_X11_good l g h l0 x7 q hq) tw_1670 my_X11_good (fun q hq => tg_X11_good hq) rfl hl.1 Hh ⟨Nat.le_of_ble_eq_true rfl, Nat.le_of_ble_eq_true rfl, Nat.le_of_ble_eq_true rfl, Nat.le_of_ble_eq_true rfl⟩ (Nat.le_of_ble_eq_true rfl) dX11_error_73 rfl hm (fun h x8 H locs Hh hm => ?_)
        exact z_iret C hr hlocks Hh dX11_error_76 hm
      · refine lv_aload_n hx hb dX11_error_43 rfl (lv_at hl 0 rfl) ?_
        refine lv_iload_n hx hb dX11_error_44 rfl (lv_at hl 2 rfl) ?_
        refine z_if_ne (tgt := 52) C dX11_error_45 (by decide) rfl hm (fun _ hm => ?_) (fun _ hm => ?_)
        · refine z_bipush C dX11_error_52 rfl ?_
          refine z_cVI (vs := [qI (-2)]) C (fun q hq => ct_X11_good l g h l0 (-2) q hq) tw_1670 my_X11_good (fun q hq => tg_X11_good hq) rfl hl.1 Hh ⟨Nat.le_of_ble_eq_true rfl, Nat.le_of_ble_eq_true rfl, Nat.le_of_ble_eq_true rfl, Nat.le_of_ble_eq_true rfl⟩ (Nat.le_of_ble_eq_true rfl) dX11_error_54 rfl hm (fun h x9 H locs Hh hm => ?_)
          exact z_iret C hr hlocks Hh dX11_error_57 hm
        · refine z_iconst C dX11_error_48 ?_
          refine lv_goto (tgt := 54) hx hb dX11_error_49 (by decide) ?_
          refine z_cVI (vs := [qI 0]) C (fun q hq => ct_X11_good l g h l0 0 q hq) tw_1670 my_X11_good (fun q hq => tg_X11_good hq) rfl hl.1 Hh ⟨Nat.le_of_ble_eq_true rfl, Nat.le_of_ble_eq_true rfl, Nat.le_of_ble_eq_true rfl, Nat.le_of_ble_eq_true rfl⟩ (Nat.le_of_ble_eq_true rfl) dX11_error_54 rfl hm (fun h x10 H locs Hh hm => ?_)
          exact z_iret C hr hlocks Hh dX11_error_57 hm
    · refine lv_aload_n hx hb dX11_error_22 rfl (lv_at hl 0 rfl) ?_
      refine z_iconst C dX11_error_23 ?_
      refine z_cVI (vs := [qI 1]) C (fun q hq => ct_X11_refused l g h l0 1 q hq) tw_1451 my_X11_refused (fun q hq => tg_X11_refused hq) rfl hl.1 Hh ⟨Nat.le_of_ble_eq_true rfl, Nat.le_of_ble_eq_true rfl, Nat.le_of_ble_eq_true rfl, Nat.le_of_ble_eq_true rfl⟩ (Nat.le_of_ble_eq_true rfl) dX11_error_24 rfl hm (fun h x11 H locs Hh hm => ?_)
      exact z_iret C hr hlocks Hh dX11_error_27 hm
theorem tg_X11_cell {h : Hp} {l0 l1 l2 : Int} {r : Hp × Int} (hm : M_X11_cell h l0 l1 l2 = some r) : hT h l0 = 21 := (tk_inv hm).1
set_option maxRecDepth 100000 in
set_option maxHeartbeats 4000000 in
theorem ct_X11_cell (l : Launch) (g : zGeo) (h0 : Hp) (l0 l1 l2 : Int) (r : Hp × Int) (hm : M_X11_cell h0 l0 l1 l2 = some r) : zM l yX11_cell cX11_cell 3 (some .int) 2 45 0 0 g h0 [qR g l0, qI l1, qI l2] r.1 (some (qI r.2)) := by
  refine z_meth (by decide) (Nat.le_of_ble_eq_true rfl) ?_
  intro p e s m args below meth c H ls C hr hlocks hnm Hh hl
  have C : zC p m c cX11_cell 3 s args RX11 g := C
  have hnm : meth.name = "cell" := hnm
  have hx := C.1.1
  have hb := C.1.2.1
  have hl : lv_has ls 3 [(0, qR g l0), (1, qI l1), (2, qI l2)] := hl
  unfold M_X11_cell at hm
  replace hm := (tk_inv hm).2
  generalize h0 = h at Hh hm
  refine lv_aload_n hx hb dX11_cell_0 rfl (lv_at hl 0 rfl) ?_
  refine z_iconst C dX11_cell_1 ?_
  refine z_putI C hnm pl_11_78 Hh dX11_cell_2 rfl hm (fun h H locs Hh hm => ?_)
  refine lv_aload_n hx hb dX11_cell_5 rfl (lv_at hl 0 rfl) ?_
  refine lv_iload_n hx hb dX11_cell_6 rfl (lv_at hl 1 rfl) ?_
  refine lv_iload_n hx hb dX11_cell_7 rfl (lv_at hl 2 rfl) ?_
  refine z_cVIr (vs := [qI l1, qI l2]) C (fun q hq => ct_X11_isPlace l g h l0 l1 l2 q hq) tw_1698 my_X11_isPlace (fun q hq => tg_X11_isPlace hq) rfl hl.1 Hh ⟨Nat.le_of_ble_eq_true rfl, Nat.le_of_ble_eq_true rfl, Nat.le_of_ble_eq_true rfl, Nat.le_of_ble_eq_true rfl⟩ (Nat.le_of_ble_eq_true rfl) dX11_cell_8 rfl hm (fun x1 H locs Hh hm => ?_)
  refine z_if_eq (tgt := 36) C dX11_cell_11 (by decide) rfl hm (fun _ hm => ?_) (fun _ hm => ?_)
  · refine lv_aload_n hx hb dX11_cell_36 rfl (lv_at hl 0 rfl) ?_
    refine z_iconst C dX11_cell_37 ?_
    refine z_cVI (vs := [qI 1]) C (fun q hq => ct_X11_refused l g h l0 1 q hq) tw_1451 my_X11_refused (fun q hq => tg_X11_refused hq) rfl hl.1 Hh ⟨Nat.le_of_ble_eq_true rfl, Nat.le_of_ble_eq_true rfl, Nat.le_of_ble_eq_true rfl, Nat.le_of_ble_eq_true rfl⟩ (Nat.le_of_ble_eq_true rfl) dX11_cell_38 rfl hm (fun h x2 H locs Hh hm => ?_)
    exact z_iret C hr hlocks Hh dX11_cell_41 hm
  · refine lv_aload_n hx hb dX11_cell_14 rfl (lv_at hl 0 rfl) ?_
    refine lv_aload_n hx hb dX11_cell_15 rfl (lv_at hl 0 rfl) ?_
    refine z_getR C fl_11_17 Hh dX11_cell_16 rfl hm (fun x3 hm => ?_)
    refine z_bipush C dX11_cell_19 rfl ?_
    refine lv_iload_n hx hb dX11_cell_21 rfl (lv_at hl 1 rfl) ?_
    refine z_imul C dX11_cell_22 ?_
    refine lv_aload_n hx hb dX11_cell_23 rfl (lv_at hl 0 rfl) ?_
    refine lv_iload_n hx hb dX11_cell_24 rfl (lv_at hl 2 rfl) ?_
    refine z_cVIr (vs := [qI l2]) C (fun q hq => ct_X11_placeOf l g h l0 l2 q hq) tw_1702 my_X11_placeOf (fun q hq => tg_X11_placeOf hq) rfl hl.1 Hh ⟨Nat.le_of_ble_eq_true rfl, Nat.le_of_ble_eq_true rfl, Nat.le_of_ble_eq_true rfl, Nat.le_of_ble_eq_true rfl⟩ (Nat.le_of_ble_eq_true rfl) dX11_cell_25 rfl hm (fun x4 H locs Hh hm => ?_)
    refine z_iadd C dX11_cell_28 ?_
    refine z_iald C Hh dX11_cell_29 hm (fun x5 hm => ?_)
    refine z_cVI (vs := [qI x5]) C (fun q hq => ct_X11_good l g h l0 x5 q hq) tw_1670 my_X11_good (fun q hq => tg_X11_good hq) rfl hl.1 Hh ⟨Nat.le_of_ble_eq_true rfl, Nat.le_of_ble_eq_true rfl, Nat.le_of_ble_eq_true rfl, Nat.le_of_ble_eq_true rfl⟩ (Nat.le_of_ble_eq_true rfl) dX11_cell_30 rfl hm (fun h x6 H locs Hh hm => ?_)
    refine lv_goto (tgt := 41) hx hb dX11_cell_33 (by decide) ?_
    exact z_iret C hr hlocks Hh dX11_cell_41 hm
theorem tg_X11_first {h : Hp} {l0 l1 l2 : Int} {r : Hp × Int} (hm : M_X11_first h l0 l1 l2 = some r) : hT h l0 = 21 := (tk_inv hm).1
set_option maxRecDepth 100000 in
set_option maxHeartbeats 4000000 in
theorem ct_X11_first (l : Launch) (g : zGeo) (h0 : Hp) (l0 l1 l2 : Int) (r : Hp × Int) (hm : M_X11_first h0 l0 l1 l2 = some r) : zM l yX11_first cX11_first 3 (some .int) 2 45 0 0 g h0 [qR g l0, qI l1, qI l2] r.1 (some (qI r.2)) := by
  refine z_meth (by decide) (Nat.le_of_ble_eq_true rfl) ?_
  intro p e s m args below meth c H ls C hr hlocks hnm Hh hl
  have C : zC p m c cX11_first 3 s args RX11 g := C
  have hnm : meth.name = "first" := hnm
  have hx := C.1.1
  have hb := C.1.2.1
  have hl : lv_has ls 3 [(0, qR g l0), (1, qI l1), (2, qI l2)] := hl
  unfold M_X11_first at hm
  replace hm := (tk_inv hm).2
  generalize h0 = h at Hh hm
  refine lv_aload_n hx hb dX11_first_0 rfl (lv_at hl 0 rfl) ?_
  refine z_iconst C dX11_first_1 ?_
  refine z_putI C hnm pl_11_78 Hh dX11_first_2 rfl hm (fun h H locs Hh hm => ?_)
  refine lv_aload_n hx hb dX11_first_5 rfl (lv_at hl 0 rfl) ?_
  refine lv_iload_n hx hb dX11_first_6 rfl (lv_at hl 1 rfl) ?_
  refine lv_iload_n hx hb dX11_first_7 rfl (lv_at hl 2 rfl) ?_
  refine z_cVIr (vs := [qI l1, qI l2]) C (fun q hq => ct_X11_isPlace l g h l0 l1 l2 q hq) tw_1698 my_X11_isPlace (fun q hq => tg_X11_isPlace hq) rfl hl.1 Hh ⟨Nat.le_of_ble_eq_true rfl, Nat.le_of_ble_eq_true rfl, Nat.le_of_ble_eq_true rfl, Nat.le_of_ble_eq_true rfl⟩ (Nat.le_of_ble_eq_true rfl) dX11_first_8 rfl hm (fun x1 H locs Hh hm => ?_)
  refine z_if_eq (tgt := 39) C dX11_first_11 (by decide) rfl hm (fun _ hm => ?_) (fun _ hm => ?_)
  · refine lv_aload_n hx hb dX11_first_39 rfl (lv_at hl 0 rfl) ?_
    refine z_iconst C dX11_first_40 ?_
    refine z_cVI (vs := [qI 1]) C (fun q hq => ct_X11_refused l g h l0 1 q hq) tw_1451 my_X11_refused (fun q hq => tg_X11_refused hq) rfl hl.1 Hh ⟨Nat.le_of_ble_eq_true rfl, Nat.le_of_ble_eq_true rfl, Nat.le_of_ble_eq_true rfl, Nat.le_of_ble_eq_true rfl⟩ (Nat.le_of_ble_eq_true rfl) dX11_first_41 rfl hm (fun h x2 H locs Hh hm => ?_)
    exact z_iret C hr hlocks Hh dX11_first_44 hm
  · refine lv_aload_n hx hb dX11_first_14 rfl (lv_at hl 0 rfl) ?_
    refine lv_aload_n hx hb dX11_first_15 rfl (lv_at hl 0 rfl) ?_
    refine z_getR C fl_11_341 Hh dX11_first_16 rfl hm (fun x3 hm => ?_)
    refine z_getR C fl_11_262 Hh dX11_first_19 rfl hm (fun x4 hm => ?_)
    refine z_bipush C dX11_first_22 rfl ?_
    refine lv_iload_n hx hb dX11_first_24 rfl (lv_at hl 1 rfl) ?_
    refine z_imul C dX11_first_25 ?_
    refine lv_aload_n hx hb dX11_first_26 rfl (lv_at hl 0 rfl) ?_
    refine lv_iload_n hx hb dX11_first_27 rfl (lv_at hl 2 rfl) ?_
    refine z_cVIr (vs := [qI l2]) C (fun q hq => ct_X11_placeOf l g h l0 l2 q hq) tw_1702 my_X11_placeOf (fun q hq => tg_X11_placeOf hq) rfl hl.1 Hh ⟨Nat.le_of_ble_eq_true rfl, Nat.le_of_ble_eq_true rfl, Nat.le_of_ble_eq_true rfl, Nat.le_of_ble_eq_true rfl⟩ (Nat.le_of_ble_eq_true rfl) dX11_first_28 rfl hm (fun x5 H locs Hh hm => ?_)
    refine z_iadd C dX11_first_31 ?_
    refine z_iald C Hh dX11_first_32 hm (fun x6 hm => ?_)
    refine z_cVI (vs := [qI x6]) C (fun q hq => ct_X11_good l g h l0 x6 q hq) tw_1670 my_X11_good (fun q hq => tg_X11_good hq) rfl hl.1 Hh ⟨Nat.le_of_ble_eq_true rfl, Nat.le_of_ble_eq_true rfl, Nat.le_of_ble_eq_true rfl, Nat.le_of_ble_eq_true rfl⟩ (Nat.le_of_ble_eq_true rfl) dX11_first_33 rfl hm (fun h x7 H locs Hh hm => ?_)
    refine lv_goto (tgt := 44) hx hb dX11_first_36 (by decide) ?_
    exact z_iret C hr hlocks Hh dX11_first_44 hm
theorem tg_X11_asks {h : Hp} {l0 l1 l2 : Int} {r : Hp × Int} (hm : M_X11_asks h l0 l1 l2 = some r) : hT h l0 = 21 := (tk_inv hm).1
set_option maxRecDepth 100000 in
set_option maxHeartbeats 4000000 in
theorem ct_X11_asks (l : Launch) (g : zGeo) (h0 : Hp) (l0 l1 l2 : Int) (r : Hp × Int) (hm : M_X11_asks h0 l0 l1 l2 = some r) : zM l yX11_asks cX11_asks 3 (some .int) 6 145 0 0 g h0 [qR g l0, qI l1, qI l2] r.1 (some (qI r.2)) := by
  refine z_meth (by decide) (Nat.le_of_ble_eq_true rfl) ?_
  intro p e s m args below meth c H ls C hr hlocks hnm Hh hl
  have C : zC p m c cX11_asks 3 s args RX11 g := C
  have hnm : meth.name = "asks" := hnm
  have hx := C.1.1
  have hb := C.1.2.1
  have hl : lv_has ls 3 [(0, qR g l0), (1, qI l1), (2, qI l2)] := hl
  unfold M_X11_asks at hm
  replace hm := (tk_inv hm).2
  generalize h0 = h at Hh hm
  refine lv_iload_n hx hb dX11_asks_0 rfl (lv_at hl 1 rfl) ?_
  refine z_if_ne (tgt := 6) C dX11_asks_1 (by decide) rfl hm (fun _ hm => ?_) (fun _ hm => ?_)
  · refine lv_iload_n hx hb dX11_asks_6 rfl (lv_at hl 2 rfl) ?_
    refine z_iconst C dX11_asks_7 ?_
    refine z_bipush C dX11_asks_8 rfl ?_
    refine z_cSIr (vs := [qI l2, qI 0, qI 60]) C (fun q hq => ct_X11_in l g h l2 0 60 q hq) tw_1576 my_X11_in rfl hl.1 Hh ⟨Nat.le_of_ble_eq_true rfl, Nat.le_of_ble_eq_true rfl, Nat.le_of_ble_eq_true rfl, Nat.le_of_ble_eq_true rfl⟩ (Nat.le_of_ble_eq_true rfl) dX11_asks_10 rfl hm (fun x1 H locs Hh hm => ?_)
    refine z_if_ne (tgt := 18) C dX11_asks_13 (by decide) rfl hm (fun _ hm => ?_) (fun _ hm => ?_)
    · refine lv_aload_n hx hb dX11_asks_18 rfl (lv_at hl 0 rfl) ?_
      refine z_cVv (vs := []) C (fun q hq => ct_X11_starts l g h l0 q hq) tw_1718 my_X11_starts (fun q hq => tg_X11_starts hq) rfl hl.1 Hh ⟨Nat.le_of_ble_eq_true rfl, Nat.le_of_ble_eq_true rfl, Nat.le_of_ble_eq_true rfl, Nat.le_of_ble_eq_true rfl⟩ (Nat.le_of_ble_eq_true rfl) dX11_asks_19 rfl hm (fun h H locs Hh hm => ?_)
      refine lv_aload_n hx hb dX11_asks_22 rfl (lv_at hl 0 rfl) ?_
      refine lv_iload_n hx hb dX11_asks_23 rfl (lv_at hl 2 rfl) ?_
      refine z_cVv (vs := [qI l2]) C (fun q hq => ct_X11_steps l g h l0 l2 q hq) tw_1722 my_X11_steps (fun q hq => tg_X11_steps hq) rfl hl.1 Hh ⟨Nat.le_of_ble_eq_true rfl, Nat.le_of_ble_eq_true rfl, Nat.le_of_ble_eq_true rfl, Nat.le_of_ble_eq_true rfl⟩ (Nat.le_of_ble_eq_true rfl) dX11_asks_24 rfl hm (fun h H locs Hh hm => ?_)
      refine z_iconst C dX11_asks_27 ?_
      exact z_iret C hr hlocks Hh dX11_asks_28 hm
    · refine z_iconst C dX11_asks_16 ?_
      exact z_iret C hr hlocks Hh dX11_asks_17 hm
  · refine z_iconst C dX11_asks_4 ?_
    exact z_iret C hr hlocks Hh dX11_asks_5 hm
theorem tg_X11_after {h : Hp} {l0 l1 l2 l3 : Int} {r : Hp × Int} (hm : M_X11_after h l0 l1 l2 l3 = some r) : hT h l0 = 21 := (tk_inv hm).1
set_option maxRecDepth 100000 in
set_option maxHeartbeats 4000000 in
theorem ct_X11_after (l : Launch) (g : zGeo) (h0 : Hp) (l0 l1 l2 l3 : Int) (r : Hp × Int) (hm : M_X11_after h0 l0 l1 l2 l3 = some r) : zM l yX11_after cX11_after 5 (some .int) 7 167 0 0 g h0 [qR g l0, qI l1, qI l2, qI l3] r.1 (some (qI r.2)) := by
  refine z_meth (by decide) (Nat.le_of_ble_eq_true rfl) ?_
  intro p e s m args below meth c H ls C hr hlocks hnm Hh hl
  have C : zC p m c cX11_after 5 s args RX11 g := C
  have hnm : meth.name = "after" := hnm
  have hx := C.1.1
  have hb := C.1.2.1
  have hl : lv_has ls 5 [(0, qR g l0), (1, qI l1), (2, qI l2), (3, qI l3)] := hl
  unfold M_X11_after at hm
  replace hm := (tk_inv hm).2
  generalize h0 = h at Hh hm
  refine lv_aload_n hx hb dX11_after_0 rfl (lv_at hl 0 rfl) ?_
  refine z_iconst C dX11_after_1 ?_
  refine z_putI C hnm pl_11_78 Hh dX11_after_2 rfl hm (fun h H locs Hh hm => ?_)
  refine lv_aload_n hx hb dX11_after_5 rfl (lv_at hl 0 rfl) ?_
  refine lv_aload_n hx hb dX11_after_6 rfl (lv_at hl 0 rfl) ?_
  refine lv_iload_n hx hb dX11_after_7 rfl (lv_at hl 1 rfl) ?_
  refine lv_iload_n hx hb dX11_after_8 rfl (lv_at hl 2 rfl) ?_
  refine z_cVIr (vs := [qI l1, qI l2]) C (fun q hq => ct_X11_isPlace l g h l0 l1 l2 q hq) tw_1698 my_X11_isPlace (fun q hq => tg_X11_isPlace hq) rfl hl.1 Hh ⟨Nat.le_of_ble_eq_true rfl, Nat.le_of_ble_eq_true rfl, Nat.le_of_ble_eq_true rfl, Nat.le_of_ble_eq_true rfl⟩ (Nat.le_of_ble_eq_true rfl) dX11_after_9 rfl hm (fun x1 H locs Hh hm => ?_)
  refine lv_iload_n hx hb dX11_after_12 rfl (lv_at hl 3 rfl) ?_
  refine z_cVI (vs := [qI x1, qI l3]) C (fun q hq => ct_X11_asks l g h l0 x1 l3 q hq) tw_1714 my_X11_asks (fun q hq => tg_X11_asks hq) rfl hl.1 Hh ⟨Nat.le_of_ble_eq_true rfl, Nat.le_of_ble_eq_true rfl, Nat.le_of_ble_eq_true rfl, Nat.le_of_ble_eq_true rfl⟩ (Nat.le_of_ble_eq_true rfl) dX11_after_13 rfl hm (fun h x2 H locs Hh hm => ?_)
  refine lv_istore (lv' := [(4, qI x2), (0, qR g l0), (1, qI l1), (2, qI l2), (3, qI l3)]) hx hb dX11_after_16 hl (by decide) rfl (fun ls hl => ?_)
  refine lv_iload hx hb dX11_after_18 (lv_at hl 0 rfl) ?_
  refine z_if_le (tgt := 32) C dX11_after_20 (by decide) rfl hm (fun _ hm => ?_) (fun _ hm => ?_)
  · refine lv_aload_n hx hb dX11_after_32 rfl (lv_at hl 1 rfl) ?_
    refine lv_aload_n hx hb dX11_after_33 rfl (lv_at hl 1 rfl) ?_
    refine lv_iload_n hx hb dX11_after_34 rfl (lv_at hl 4 rfl) ?_
    refine lv_iload_n hx hb dX11_after_35 rfl (lv_at hl 2 rfl) ?_
    refine lv_aload_n hx hb dX11_after_36 rfl (lv_at hl 1 rfl) ?_
    refine lv_iload_n hx hb dX11_after_37 rfl (lv_at hl 3 rfl) ?_
    refine z_cVIr (vs := [qI l2]) C (fun q hq => ct_X11_placeOf l g h l0 l2 q hq) tw_1702 my_X11_placeOf (fun q hq => tg_X11_placeOf hq) rfl hl.1 Hh ⟨Nat.le_of_ble_eq_true rfl, Nat.le_of_ble_eq_true rfl, Nat.le_of_ble_eq_true rfl, Nat.le_of_ble_eq_true rfl⟩ (Nat.le_of_ble_eq_true rfl) dX11_after_38 rfl hm (fun x3 H locs Hh hm => ?_)
    refine z_cVIr (vs := [qI l3, qI l1, qI x3]) C (fun q hq => ct_X11_behind l g h l0 l3 l1 x3 q hq) tw_1765 my_X11_behind (fun q hq => tg_X11_behind hq) rfl hl.1 Hh ⟨Nat.le_of_ble_eq_true rfl, Nat.le_of_ble_eq_true rfl, Nat.le_of_ble_eq_true rfl, Nat.le_of_ble_eq_true rfl⟩ (Nat.le_of_ble_eq_true rfl) dX11_after_41 rfl hm (fun x4 H locs Hh hm => ?_)
    refine z_cVI (vs := [qI x4]) C (fun q hq => ct_X11_good l g h l0 x4 q hq) tw_1670 my_X11_good (fun q hq => tg_X11_good hq) rfl hl.1 Hh ⟨Nat.le_of_ble_eq_true rfl, Nat.le_of_ble_eq_true rfl, Nat.le_of_ble_eq_true rfl, Nat.le_of_ble_eq_true rfl⟩ (Nat.le_of_ble_eq_true rfl) dX11_after_44 rfl hm (fun h x5 H locs Hh hm => ?_)
    exact z_iret C hr hlocks Hh dX11_after_47 hm
  · refine lv_aload_n hx hb dX11_after_23 rfl (lv_at hl 1 rfl) ?_
    refine lv_iload hx hb dX11_after_24 (lv_at hl 0 rfl) ?_
    refine z_cVI (vs := [qI x2]) C (fun q hq => ct_X11_refused l g h l0 x2 q hq) tw_1451 my_X11_refused (fun q hq => tg_X11_refused hq) rfl hl.1 Hh ⟨Nat.le_of_ble_eq_true rfl, Nat.le_of_ble_eq_true rfl, Nat.le_of_ble_eq_true rfl, Nat.le_of_ble_eq_true rfl⟩ (Nat.le_of_ble_eq_true rfl) dX11_after_26 rfl hm (fun h x6 H locs Hh hm => ?_)
    refine lv_goto (tgt := 47) hx hb dX11_after_29 (by decide) ?_
    exact z_iret C hr hlocks Hh dX11_after_47 hm
theorem tg_X11_many {h : Hp} {l0 l1 l2 l3 : Int} {r : Hp × Int} (hm : M_X11_many h l0 l1 l2 l3 = some r) : hT h l0 = 21 := (tk_inv hm).1
set_option maxRecDepth 100000 in
set_option maxHeartbeats 4000000 in
theorem ct_X11_many (l : Launch) (g : zGeo) (h0 : Hp) (l0 l1 l2 l3 : Int) (r : Hp × Int) (hm : M_X11_many h0 l0 l1 l2 l3 = some r) : zM l yX11_many cX11_many 7 (some .int) 7 167 0 0 g h0 [qR g l0, qI l1, qI l2, qI l3] r.1 (some (qI r.2)) := by
  refine z_meth (by decide) (Nat.le_of_ble_eq_true rfl) ?_
  intro p e s m args below meth c H ls C hr hlocks hnm Hh hl
  have C : zC p m c cX11_many 7 s args RX11 g := C
  have hnm : meth.name = "many" := hnm
  have hx := C.1.1
  have hb := C.1.2.1
  have hl : lv_has ls 7 [(0, qR g l0), (1, qI l1), (2, qI l2), (3, qI l3)] := hl
  unfold M_X11_many at hm
  replace hm := (tk_inv hm).2
  generalize h0 = h at Hh hm
  have K91 : ∀ (h : Hp) (l0 l5 : Int) (H : Heap) (locs : List Loc) (ls : Array Slot), zH g s h H locs → lv_has ls 7 [(0, qR g l0), (5, qI l5)] → M_X11_many_p91 h l0 l5 = some r → W p l e { frames := 7, cells := 0, slots := 0, locals := 167 } s m args below meth c H locs 0 0 (zQ below g r.1 (some (qI r.2)) args s 0 0) (F0 m 91 ls []) := by
    intro h l0 l5  H locs ls Hh hl hm
    unfold M_X11_many_p91 at hm
    refine lv_aload_n hx hb dX11_many_91 rfl (lv_at hl 0 rfl) ?_
    refine lv_iload hx hb dX11_many_92 (lv_at hl 1 rfl) ?_
    refine z_cVI (vs := [qI l5]) C (fun q hq => ct_X11_good l g h l0 l5 q hq) tw_1670 my_X11_good (fun q hq => tg_X11_good hq) rfl hl.1 Hh ⟨Nat.le_of_ble_eq_true rfl, Nat.le_of_ble_eq_true rfl, Nat.le_of_ble_eq_true rfl, Nat.le_of_ble_eq_true rfl⟩ (Nat.le_of_ble_eq_true rfl) dX11_many_94 rfl hm (fun h x1 H locs Hh hm => ?_)
    exact z_iret C hr hlocks Hh dX11_many_97 hm
  have KL51 : ∀ (n : Nat) (h : Hp) (l0 l1 l2 l3 l5 l6 : Int) (H : Heap) (locs : List Loc) (ls : Array Slot), zH g s h H locs → lv_has ls 7 [(0, qR g l0), (1, qI l1), (2, qI l2), (3, qI l3), (5, qI l5), (6, qI l6)] → M_X11_many_w51 n h l0 l1 l2 l3 l5 l6 = some r → W p l e { frames := 7, cells := 0, slots := 0, locals := 167 } s m args below meth c H locs 0 0 (zQ below g r.1 (some (qI r.2)) args s 0 0) (F0 m 51 ls []) := by
    intro n
    induction n with
    | zero => intro h l0 l1 l2 l3 l5 l6 H locs ls Hh hl hm; cases hm
    | succ n ih51 =>
      intro h l0 l1 l2 l3 l5 l6 H locs ls Hh hl hm
      obtain ⟨z51, hm, hc51⟩ := wh_inv hm
      have hm : M_X11_many_b51 h l0 l1 l2 l3 l5 l6 = some z51 := hm
      have K82 : ∀  (l6 : Int) (s0 s1 : Int) (H : Heap) (locs : List Loc) (ls : Array Slot), zH g s h H locs → lv_has ls 7 [(0, qR g l0), (1, qI l1), (2, qI l2), (3, qI l3), (6, qI l6)] → M_X11_many_p82 h l0 l1 l2 l3 l6 s0 s1 = some z51 → W p l e { frames := 7, cells := 0, slots := 0, locals := 167 } s m args below meth c H locs 0 0 (zQ below g r.1 (some (qI r.2)) args s 0 0) (F0 m 82 ls [qI s1, qI s0]) := by
        intro l6 s0 s1 H locs ls Hh hl hm
        unfold M_X11_many_p82 at hm
        refine z_iadd C dX11_many_82 ?_
        refine lv_istore (lv' := [(5, qI (s0 + s1)), (0, qR g l0), (1, qI l1), (2, qI l2), (3, qI l3), (6, qI l6)]) hx hb dX11_many_83 hl (by decide) rfl (fun ls hl => ?_)
        refine z_iinc (x := l6) (k := 5) (lv' := [(6, qI (l6 + 1)), (5, qI (s0 + s1)), (0, qR g l0), (1, qI l1), (2, qI l2), (3, qI l3)]) C dX11_many_85 hl rfl (by decide) rfl (fun ls hl => ?_)
        refine lv_goto (tgt := 51) hx hb dX11_many_88 (by decide) ?_
        cases hm
        exact ih51 h l0 l1 l2 l3 (s0 + s1) (l6 + 1) _ _ _ Hh (lv_sub hl [2, 3, 4, 5, 1, 0] rfl) hc51
      unfold M_X11_many_b51 at hm
      refine lv_iload hx hb dX11_many_51 (lv_at hl 5 rfl) ?_
      refine lv_aload_n hx hb dX11_many_53 rfl (lv_at hl 0 rfl) ?_
      refine z_getR C fl_11_341 Hh dX11_many_54 rfl hm (fun x2 hm => ?_)
      refine z_cVIr (vs := []) C (fun q hq => ct_X10_all l g h x2 q hq) tw_1730 my_X10_all (fun q hq => tg_X10_all hq) rfl hl.1 Hh ⟨Nat.le_of_ble_eq_true rfl, Nat.le_of_ble_eq_true rfl, Nat.le_of_ble_eq_true rfl, Nat.le_of_ble_eq_true rfl⟩ (Nat.le_of_ble_eq_true rfl) dX11_many_57 rfl hm (fun x3 H locs Hh hm => ?_)
      refine z_icmp_ge (tgt := 91) C dX11_many_60 (by decide) rfl rfl hm (fun _ hm => ?_) (fun _ hm => ?_)
      · cases hm
        exact K91 h l0 l5 _ _ _ Hh (lv_sub hl [0, 4] rfl) hc51
      · refine lv_iload hx hb dX11_many_63 (lv_at hl 4 rfl) ?_
        refine lv_aload_n hx hb dX11_many_65 rfl (lv_at hl 0 rfl) ?_
        refine lv_iload_n hx hb dX11_many_66 rfl (lv_at hl 3 rfl) ?_
        refine lv_iload_n hx hb dX11_many_67 rfl (lv_at hl 1 rfl) ?_
        refine lv_iload hx hb dX11_many_68 (lv_at hl 5 rfl) ?_
        refine z_cVIr (vs := [qI l3, qI l1, qI l6]) C (fun q hq => ct_X11_behind l g h l0 l3 l1 l6 q hq) tw_1765 my_X11_behind (fun q hq => tg_X11_behind hq) rfl hl.1 Hh ⟨Nat.le_of_ble_eq_true rfl, Nat.le_of_ble_eq_true rfl, Nat.le_of_ble_eq_true rfl, Nat.le_of_ble_eq_true rfl⟩ (Nat.le_of_ble_eq_true rfl) dX11_many_70 rfl hm (fun x4 H locs Hh hm => ?_)
        refine lv_iload_n hx hb dX11_many_73 rfl (lv_at hl 2 rfl) ?_
        refine z_icmp_ne (tgt := 81) C dX11_many_74 (by decide) rfl rfl hm (fun _ hm => ?_) (fun _ hm => ?_)
        · refine z_iconst C dX11_many_81 ?_
          exact K82 l6 l5 0 _ _ _ Hh (lv_sub hl [0, 1, 2, 3, 5] rfl) hm
        · refine z_iconst C dX11_many_77 ?_
          refine lv_goto (tgt := 82) hx hb dX11_many_78 (by decide) ?_
          exact K82 l6 l5 1 _ _ _ Hh (lv_sub hl [0, 1, 2, 3, 5] rfl) hm
  have K27 : ∀ (h : Hp) (l0 l1 l2 l3 : Int) (s0 s1 : Int) (H : Heap) (locs : List Loc) (ls : Array Slot), zH g s h H locs → lv_has ls 7 [(0, qR g l0), (1, qI l1), (2, qI l2), (3, qI l3)] → M_X11_many_p27 h l0 l1 l2 l3 s0 s1 = some r → W p l e { frames := 7, cells := 0, slots := 0, locals := 167 } s m args below meth c H locs 0 0 (zQ below g r.1 (some (qI r.2)) args s 0 0) (F0 m 27 ls [qI s1, qR g s0]) := by
    intro h l0 l1 l2 l3 s0 s1 H locs ls Hh hl hm
    unfold M_X11_many_p27 at hm
    refine lv_iload_n hx hb dX11_many_27 rfl (lv_at hl 3 rfl) ?_
    refine z_cVI (vs := [qI s1, qI l3]) C (fun q hq => ct_X11_asks l g h s0 s1 l3 q hq) tw_1714 my_X11_asks (fun q hq => tg_X11_asks hq) rfl hl.1 Hh ⟨Nat.le_of_ble_eq_true rfl, Nat.le_of_ble_eq_true rfl, Nat.le_of_ble_eq_true rfl, Nat.le_of_ble_eq_true rfl⟩ (Nat.le_of_ble_eq_true rfl) dX11_many_28 rfl hm (fun h x5 H locs Hh hm => ?_)
    refine lv_istore (lv' := [(4, qI x5), (0, qR g l0), (1, qI l1), (2, qI l2), (3, qI l3)]) hx hb dX11_many_31 hl (by decide) rfl (fun ls hl => ?_)
    refine lv_iload hx hb dX11_many_33 (lv_at hl 0 rfl) ?_
    refine z_if_le (tgt := 45) C dX11_many_35 (by decide) rfl hm (fun _ hm => ?_) (fun _ hm => ?_)
    · refine z_iconst C dX11_many_45 ?_
      refine lv_istore (lv' := [(5, qI 0), (4, qI x5), (0, qR g l0), (1, qI l1), (2, qI l2), (3, qI l3)]) hx hb dX11_many_46 hl (by decide) rfl (fun ls hl => ?_)
      refine z_iconst C dX11_many_48 ?_
      refine lv_istore (lv' := [(6, qI 0), (5, qI 0), (4, qI x5), (0, qR g l0), (1, qI l1), (2, qI l2), (3, qI l3)]) hx hb dX11_many_49 hl (by decide) rfl (fun ls hl => ?_)
      exact KL51 FU h l0 l1 l2 l3 0 0 _ _ _ Hh (lv_sub hl [3, 4, 5, 6, 1, 0] rfl) hm
    · refine lv_aload_n hx hb dX11_many_38 rfl (lv_at hl 1 rfl) ?_
      refine lv_iload hx hb dX11_many_39 (lv_at hl 0 rfl) ?_
      refine z_cVI (vs := [qI x5]) C (fun q hq => ct_X11_refused l g h l0 x5 q hq) tw_1451 my_X11_refused (fun q hq => tg_X11_refused hq) rfl hl.1 Hh ⟨Nat.le_of_ble_eq_true rfl, Nat.le_of_ble_eq_true rfl, Nat.le_of_ble_eq_true rfl, Nat.le_of_ble_eq_true rfl⟩ (Nat.le_of_ble_eq_true rfl) dX11_many_41 rfl hm (fun h x6 H locs Hh hm => ?_)
      exact z_iret C hr hlocks Hh dX11_many_44 hm
  have K26 : ∀ (h : Hp) (l0 l1 l2 l3 : Int) (s0 : Int) (H : Heap) (locs : List Loc) (ls : Array Slot), zH g s h H locs → lv_has ls 7 [(0, qR g l0), (1, qI l1), (2, qI l2), (3, qI l3)] → M_X11_many_p26 h l0 l1 l2 l3 s0 = some r → W p l e { frames := 7, cells := 0, slots := 0, locals := 167 } s m args below meth c H locs 0 0 (zQ below g r.1 (some (qI r.2)) args s 0 0) (F0 m 26 ls [qR g s0]) := by
    intro h l0 l1 l2 l3 s0 H locs ls Hh hl hm
    unfold M_X11_many_p26 at hm
    refine z_iconst C dX11_many_26 ?_
    exact K27 h l0 l1 l2 l3 s0 0 _ _ _ Hh (lv_sub hl [0, 1, 2, 3] rfl) hm
  refine lv_aload_n hx hb dX11_many_0 rfl (lv_at hl 0 rfl) ?_
  refine z_iconst C dX11_many_1 ?_
  refine z_putI C hnm pl_11_78 Hh dX11_many_2 rfl hm (fun h H locs Hh hm => ?_)
  refine lv_aload_n hx hb dX11_many_5 rfl (lv_at hl 0 rfl) ?_
  refine lv_aload_n hx hb dX11_many_6 rfl (lv_at hl 0 rfl) ?_
  refine lv_iload_n hx hb dX11_many_7 rfl (lv_at hl 1 rfl) ?_
  refine z_cVIr (vs := [qI l1]) C (fun q hq => ct_X11_isTown l g h l0 l1 q hq) tw_1686 my_X11_isTown (fun q hq => tg_X11_isTown hq) rfl hl.1 Hh ⟨Nat.le_of_ble_eq_true rfl, Nat.le_of_ble_eq_true rfl, Nat.le_of_ble_eq_true rfl, Nat.le_of_ble_eq_true rfl⟩ (Nat.le_of_ble_eq_true rfl) dX11_many_8 rfl hm (fun x7 H locs Hh hm => ?_)
  refine z_if_eq (tgt := 26) C dX11_many_11 (by decide) rfl hm (fun _ hm => ?_) (fun _ hm => ?_)
  · exact K26 h l0 l1 l2 l3 l0 _ _ _ Hh (lv_sub hl [0, 1, 2, 3] rfl) hm
  · refine lv_aload_n hx hb dX11_many_14 rfl (lv_at hl 0 rfl) ?_
    refine lv_iload_n hx hb dX11_many_15 rfl (lv_at hl 2 rfl) ?_
    refine z_cVIr (vs := [qI l2]) C (fun q hq => ct_X11_isMark l g h l0 l2 q hq) tw_1773 my_X11_isMark (fun q hq => tg_X11_isMark hq) rfl hl.1 Hh ⟨Nat.le_of_ble_eq_true rfl, Nat.le_of_ble_eq_true rfl, Nat.le_of_ble_eq_true rfl, Nat.le_of_ble_eq_true rfl⟩ (Nat.le_of_ble_eq_true rfl) dX11_many_16 rfl hm (fun x8 H locs Hh hm => ?_)
    refine z_if_eq (tgt := 26) C dX11_many_19 (by decide) rfl hm (fun _ hm => ?_) (fun _ hm => ?_)
    · exact K26 h l0 l1 l2 l3 l0 _ _ _ Hh (lv_sub hl [0, 1, 2, 3] rfl) hm
    · refine z_iconst C dX11_many_22 ?_
      refine lv_goto (tgt := 27) hx hb dX11_many_23 (by decide) ?_
      exact K27 h l0 l1 l2 l3 l0 1 _ _ _ Hh (lv_sub hl [0, 1, 2, 3] rfl) hm
theorem tg_X11_unlike {h : Hp} {l0 l1 l2 l3 : Int} {r : Hp × Int} (hm : M_X11_unlike h l0 l1 l2 l3 = some r) : hT h l0 = 21 := (tk_inv hm).1
set_option maxRecDepth 100000 in
set_option maxHeartbeats 4000000 in
theorem ct_X11_unlike (l : Launch) (g : zGeo) (h0 : Hp) (l0 l1 l2 l3 : Int) (r : Hp × Int) (hm : M_X11_unlike h0 l0 l1 l2 l3 = some r) : zM l yX11_unlike cX11_unlike 7 (some .int) 7 167 0 0 g h0 [qR g l0, qI l1, qI l2, qI l3] r.1 (some (qI r.2)) := by
  refine z_meth (by decide) (Nat.le_of_ble_eq_true rfl) ?_
  intro p e s m args below meth c H ls C hr hlocks hnm Hh hl
  have C : zC p m c cX11_unlike 7 s args RX11 g := C
  have hnm : meth.name = "unlike" := hnm
  have hx := C.1.1
  have hb := C.1.2.1
  have hl : lv_has ls 7 [(0, qR g l0), (1, qI l1), (2, qI l2), (3, qI l3)] := hl
  unfold M_X11_unlike at hm
  replace hm := (tk_inv hm).2
  generalize h0 = h at Hh hm
  have K98 : ∀ (h : Hp) (l0 l5 : Int) (H : Heap) (locs : List Loc) (ls : Array Slot), zH g s h H locs → lv_has ls 7 [(0, qR g l0), (5, qI l5)] → M_X11_unlike_p98 h l0 l5 = some r → W p l e { frames := 7, cells := 0, slots := 0, locals := 167 } s m args below meth c H locs 0 0 (zQ below g r.1 (some (qI r.2)) args s 0 0) (F0 m 98 ls []) := by
    intro h l0 l5  H locs ls Hh hl hm
    unfold M_X11_unlike_p98 at hm
    refine lv_aload_n hx hb dX11_unlike_98 rfl (lv_at hl 0 rfl) ?_
    refine lv_iload hx hb dX11_unlike_99 (lv_at hl 1 rfl) ?_
    refine z_cVI (vs := [qI l5]) C (fun q hq => ct_X11_good l g h l0 l5 q hq) tw_1670 my_X11_good (fun q hq => tg_X11_good hq) rfl hl.1 Hh ⟨Nat.le_of_ble_eq_true rfl, Nat.le_of_ble_eq_true rfl, Nat.le_of_ble_eq_true rfl, Nat.le_of_ble_eq_true rfl⟩ (Nat.le_of_ble_eq_true rfl) dX11_unlike_101 rfl hm (fun h x1 H locs Hh hm => ?_)
    exact z_iret C hr hlocks Hh dX11_unlike_104 hm
  have KL51 : ∀ (n : Nat) (h : Hp) (l0 l1 l2 l3 l5 l6 : Int) (H : Heap) (locs : List Loc) (ls : Array Slot), zH g s h H locs → lv_has ls 7 [(0, qR g l0), (1, qI l1), (2, qI l2), (3, qI l3), (5, qI l5), (6, qI l6)] → M_X11_unlike_w51 n h l0 l1 l2 l3 l5 l6 = some r → W p l e { frames := 7, cells := 0, slots := 0, locals := 167 } s m args below meth c H locs 0 0 (zQ below g r.1 (some (qI r.2)) args s 0 0) (F0 m 51 ls []) := by
    intro n
    induction n with
    | zero => intro h l0 l1 l2 l3 l5 l6 H locs ls Hh hl hm; cases hm
    | succ n ih51 =>
      intro h l0 l1 l2 l3 l5 l6 H locs ls Hh hl hm
      obtain ⟨z51, hm, hc51⟩ := wh_inv hm
      have hm : M_X11_unlike_b51 h l0 l1 l2 l3 l5 l6 = some z51 := hm
      have K89 : ∀  (l6 : Int) (s0 s1 : Int) (H : Heap) (locs : List Loc) (ls : Array Slot), zH g s h H locs → lv_has ls 7 [(0, qR g l0), (1, qI l1), (2, qI l2), (3, qI l3), (6, qI l6)] → M_X11_unlike_p89 h l0 l1 l2 l3 l6 s0 s1 = some z51 → W p l e { frames := 7, cells := 0, slots := 0, locals := 167 } s m args below meth c H locs 0 0 (zQ below g r.1 (some (qI r.2)) args s 0 0) (F0 m 89 ls [qI s1, qI s0]) := by
        intro l6 s0 s1 H locs ls Hh hl hm
        unfold M_X11_unlike_p89 at hm
        refine z_iadd C dX11_unlike_89 ?_
        refine lv_istore (lv' := [(5, qI (s0 + s1)), (0, qR g l0), (1, qI l1), (2, qI l2), (3, qI l3), (6, qI l6)]) hx hb dX11_unlike_90 hl (by decide) rfl (fun ls hl => ?_)
        refine z_iinc (x := l6) (k := 5) (lv' := [(6, qI (l6 + 1)), (5, qI (s0 + s1)), (0, qR g l0), (1, qI l1), (2, qI l2), (3, qI l3)]) C dX11_unlike_92 hl rfl (by decide) rfl (fun ls hl => ?_)
        refine lv_goto (tgt := 51) hx hb dX11_unlike_95 (by decide) ?_
        cases hm
        exact ih51 h l0 l1 l2 l3 (s0 + s1) (l6 + 1) _ _ _ Hh (lv_sub hl [2, 3, 4, 5, 1, 0] rfl) hc51
      unfold M_X11_unlike_b51 at hm
      refine lv_iload hx hb dX11_unlike_51 (lv_at hl 5 rfl) ?_
      refine lv_aload_n hx hb dX11_unlike_53 rfl (lv_at hl 0 rfl) ?_
      refine z_getR C fl_11_341 Hh dX11_unlike_54 rfl hm (fun x2 hm => ?_)
      refine z_cVIr (vs := []) C (fun q hq => ct_X10_all l g h x2 q hq) tw_1730 my_X10_all (fun q hq => tg_X10_all hq) rfl hl.1 Hh ⟨Nat.le_of_ble_eq_true rfl, Nat.le_of_ble_eq_true rfl, Nat.le_of_ble_eq_true rfl, Nat.le_of_ble_eq_true rfl⟩ (Nat.le_of_ble_eq_true rfl) dX11_unlike_57 rfl hm (fun x3 H locs Hh hm => ?_)
      refine z_icmp_ge (tgt := 98) C dX11_unlike_60 (by decide) rfl rfl hm (fun _ hm => ?_) (fun _ hm => ?_)
      · cases hm
        exact K98 h l0 l5 _ _ _ Hh (lv_sub hl [0, 4] rfl) hc51
      · refine lv_iload hx hb dX11_unlike_63 (lv_at hl 4 rfl) ?_
        refine lv_aload_n hx hb dX11_unlike_65 rfl (lv_at hl 0 rfl) ?_
        refine lv_iload_n hx hb dX11_unlike_66 rfl (lv_at hl 3 rfl) ?_
        refine lv_iload_n hx hb dX11_unlike_67 rfl (lv_at hl 1 rfl) ?_
        refine lv_iload hx hb dX11_unlike_68 (lv_at hl 5 rfl) ?_
        refine z_cVIr (vs := [qI l3, qI l1, qI l6]) C (fun q hq => ct_X11_behind l g h l0 l3 l1 l6 q hq) tw_1765 my_X11_behind (fun q hq => tg_X11_behind hq) rfl hl.1 Hh ⟨Nat.le_of_ble_eq_true rfl, Nat.le_of_ble_eq_true rfl, Nat.le_of_ble_eq_true rfl, Nat.le_of_ble_eq_true rfl⟩ (Nat.le_of_ble_eq_true rfl) dX11_unlike_70 rfl hm (fun x4 H locs Hh hm => ?_)
        refine lv_aload_n hx hb dX11_unlike_73 rfl (lv_at hl 0 rfl) ?_
        refine lv_iload_n hx hb dX11_unlike_74 rfl (lv_at hl 3 rfl) ?_
        refine lv_iload_n hx hb dX11_unlike_75 rfl (lv_at hl 2 rfl) ?_
        refine lv_iload hx hb dX11_unlike_76 (lv_at hl 5 rfl) ?_
        refine z_cVIr (vs := [qI l3, qI l2, qI l6]) C (fun q hq => ct_X11_behind l g h l0 l3 l2 l6 q hq) tw_1765 my_X11_behind (fun q hq => tg_X11_behind hq) rfl hl.1 Hh ⟨Nat.le_of_ble_eq_true rfl, Nat.le_of_ble_eq_true rfl, Nat.le_of_ble_eq_true rfl, Nat.le_of_ble_eq_true rfl⟩ (Nat.le_of_ble_eq_true rfl) dX11_unlike_78 rfl hm (fun x5 H locs Hh hm => ?_)
        refine z_icmp_eq (tgt := 88) C dX11_unlike_81 (by decide) rfl rfl hm (fun _ hm => ?_) (fun _ hm => ?_)
        · refine z_iconst C dX11_unlike_88 ?_
          exact K89 l6 l5 0 _ _ _ Hh (lv_sub hl [0, 1, 2, 3, 5] rfl) hm
        · refine z_iconst C dX11_unlike_84 ?_
          refine lv_goto (tgt := 89) hx hb dX11_unlike_85 (by decide) ?_
          exact K89 l6 l5 1 _ _ _ Hh (lv_sub hl [0, 1, 2, 3, 5] rfl) hm
  have K27 : ∀ (h : Hp) (l0 l1 l2 l3 : Int) (s0 s1 : Int) (H : Heap) (locs : List Loc) (ls : Array Slot), zH g s h H locs → lv_has ls 7 [(0, qR g l0), (1, qI l1), (2, qI l2), (3, qI l3)] → M_X11_unlike_p27 h l0 l1 l2 l3 s0 s1 = some r → W p l e { frames := 7, cells := 0, slots := 0, locals := 167 } s m args below meth c H locs 0 0 (zQ below g r.1 (some (qI r.2)) args s 0 0) (F0 m 27 ls [qI s1, qR g s0]) := by
    intro h l0 l1 l2 l3 s0 s1 H locs ls Hh hl hm
    unfold M_X11_unlike_p27 at hm
    refine lv_iload_n hx hb dX11_unlike_27 rfl (lv_at hl 3 rfl) ?_
    refine z_cVI (vs := [qI s1, qI l3]) C (fun q hq => ct_X11_asks l g h s0 s1 l3 q hq) tw_1714 my_X11_asks (fun q hq => tg_X11_asks hq) rfl hl.1 Hh ⟨Nat.le_of_ble_eq_true rfl, Nat.le_of_ble_eq_true rfl, Nat.le_of_ble_eq_true rfl, Nat.le_of_ble_eq_true rfl⟩ (Nat.le_of_ble_eq_true rfl) dX11_unlike_28 rfl hm (fun h x6 H locs Hh hm => ?_)
    refine lv_istore (lv' := [(4, qI x6), (0, qR g l0), (1, qI l1), (2, qI l2), (3, qI l3)]) hx hb dX11_unlike_31 hl (by decide) rfl (fun ls hl => ?_)
    refine lv_iload hx hb dX11_unlike_33 (lv_at hl 0 rfl) ?_
    refine z_if_le (tgt := 45) C dX11_unlike_35 (by decide) rfl hm (fun _ hm => ?_) (fun _ hm => ?_)
    · refine z_iconst C dX11_unlike_45 ?_
      refine lv_istore (lv' := [(5, qI 0), (4, qI x6), (0, qR g l0), (1, qI l1), (2, qI l2), (3, qI l3)]) hx hb dX11_unlike_46 hl (by decide) rfl (fun ls hl => ?_)
      refine z_iconst C dX11_unlike_48 ?_
      refine lv_istore (lv' := [(6, qI 0), (5, qI 0), (4, qI x6), (0, qR g l0), (1, qI l1), (2, qI l2), (3, qI l3)]) hx hb dX11_unlike_49 hl (by decide) rfl (fun ls hl => ?_)
      exact KL51 FU h l0 l1 l2 l3 0 0 _ _ _ Hh (lv_sub hl [3, 4, 5, 6, 1, 0] rfl) hm
    · refine lv_aload_n hx hb dX11_unlike_38 rfl (lv_at hl 1 rfl) ?_
      refine lv_iload hx hb dX11_unlike_39 (lv_at hl 0 rfl) ?_
      refine z_cVI (vs := [qI x6]) C (fun q hq => ct_X11_refused l g h l0 x6 q hq) tw_1451 my_X11_refused (fun q hq => tg_X11_refused hq) rfl hl.1 Hh ⟨Nat.le_of_ble_eq_true rfl, Nat.le_of_ble_eq_true rfl, Nat.le_of_ble_eq_true rfl, Nat.le_of_ble_eq_true rfl⟩ (Nat.le_of_ble_eq_true rfl) dX11_unlike_41 rfl hm (fun h x7 H locs Hh hm => ?_)
      exact z_iret C hr hlocks Hh dX11_unlike_44 hm
  have K26 : ∀ (h : Hp) (l0 l1 l2 l3 : Int) (s0 : Int) (H : Heap) (locs : List Loc) (ls : Array Slot), zH g s h H locs → lv_has ls 7 [(0, qR g l0), (1, qI l1), (2, qI l2), (3, qI l3)] → M_X11_unlike_p26 h l0 l1 l2 l3 s0 = some r → W p l e { frames := 7, cells := 0, slots := 0, locals := 167 } s m args below meth c H locs 0 0 (zQ below g r.1 (some (qI r.2)) args s 0 0) (F0 m 26 ls [qR g s0]) := by
    intro h l0 l1 l2 l3 s0 H locs ls Hh hl hm
    unfold M_X11_unlike_p26 at hm
    refine z_iconst C dX11_unlike_26 ?_
    exact K27 h l0 l1 l2 l3 s0 0 _ _ _ Hh (lv_sub hl [0, 1, 2, 3] rfl) hm
  refine lv_aload_n hx hb dX11_unlike_0 rfl (lv_at hl 0 rfl) ?_
  refine z_iconst C dX11_unlike_1 ?_
  refine z_putI C hnm pl_11_78 Hh dX11_unlike_2 rfl hm (fun h H locs Hh hm => ?_)
  refine lv_aload_n hx hb dX11_unlike_5 rfl (lv_at hl 0 rfl) ?_
  refine lv_aload_n hx hb dX11_unlike_6 rfl (lv_at hl 0 rfl) ?_
  refine lv_iload_n hx hb dX11_unlike_7 rfl (lv_at hl 1 rfl) ?_
  refine z_cVIr (vs := [qI l1]) C (fun q hq => ct_X11_isTown l g h l0 l1 q hq) tw_1686 my_X11_isTown (fun q hq => tg_X11_isTown hq) rfl hl.1 Hh ⟨Nat.le_of_ble_eq_true rfl, Nat.le_of_ble_eq_true rfl, Nat.le_of_ble_eq_true rfl, Nat.le_of_ble_eq_true rfl⟩ (Nat.le_of_ble_eq_true rfl) dX11_unlike_8 rfl hm (fun x8 H locs Hh hm => ?_)
  refine z_if_eq (tgt := 26) C dX11_unlike_11 (by decide) rfl hm (fun _ hm => ?_) (fun _ hm => ?_)
  · exact K26 h l0 l1 l2 l3 l0 _ _ _ Hh (lv_sub hl [0, 1, 2, 3] rfl) hm
  · refine lv_aload_n hx hb dX11_unlike_14 rfl (lv_at hl 0 rfl) ?_
    refine lv_iload_n hx hb dX11_unlike_15 rfl (lv_at hl 2 rfl) ?_
    refine z_cVIr (vs := [qI l2]) C (fun q hq => ct_X11_isTown l g h l0 l2 q hq) tw_1686 my_X11_isTown (fun q hq => tg_X11_isTown hq) rfl hl.1 Hh ⟨Nat.le_of_ble_eq_true rfl, Nat.le_of_ble_eq_true rfl, Nat.le_of_ble_eq_true rfl, Nat.le_of_ble_eq_true rfl⟩ (Nat.le_of_ble_eq_true rfl) dX11_unlike_16 rfl hm (fun x9 H locs Hh hm => ?_)
    refine z_if_eq (tgt := 26) C dX11_unlike_19 (by decide) rfl hm (fun _ hm => ?_) (fun _ hm => ?_)
    · exact K26 h l0 l1 l2 l3 l0 _ _ _ Hh (lv_sub hl [0, 1, 2, 3] rfl) hm
    · refine z_iconst C dX11_unlike_22 ?_
      refine lv_goto (tgt := 27) hx hb dX11_unlike_23 (by decide) ?_
      exact K27 h l0 l1 l2 l3 l0 1 _ _ _ Hh (lv_sub hl [0, 1, 2, 3] rfl) hm
theorem tg_X11_trueOnes {h : Hp} {l0 l1 l2 : Int} {r : Hp × Int} (hm : M_X11_trueOnes h l0 l1 l2 = some r) : hT h l0 = 21 := (tk_inv hm).1
set_option maxRecDepth 100000 in
set_option maxHeartbeats 4000000 in
theorem ct_X11_trueOnes (l : Launch) (g : zGeo) (h0 : Hp) (l0 l1 l2 : Int) (r : Hp × Int) (hm : M_X11_trueOnes h0 l0 l1 l2 = some r) : zM l yX11_trueOnes cX11_trueOnes 6 (some .int) 7 167 0 0 g h0 [qR g l0, qI l1, qI l2] r.1 (some (qI r.2)) := by
  refine z_meth (by decide) (Nat.le_of_ble_eq_true rfl) ?_
  intro p e s m args below meth c H ls C hr hlocks hnm Hh hl
  have C : zC p m c cX11_trueOnes 6 s args RX11 g := C
  have hnm : meth.name = "trueOnes" := hnm
  have hx := C.1.1
  have hb := C.1.2.1
  have hl : lv_has ls 6 [(0, qR g l0), (1, qI l1), (2, qI l2)] := hl
  unfold M_X11_trueOnes at hm
  replace hm := (tk_inv hm).2
  generalize h0 = h at Hh hm
  have K86 : ∀ (h : Hp) (l0 l4 : Int) (H : Heap) (locs : List Loc) (ls : Array Slot), zH g s h H locs → lv_has ls 6 [(0, qR g l0), (4, qI l4)] → M_X11_trueOnes_p86 h l0 l4 = some r → W p l e { frames := 7, cells := 0, slots := 0, locals := 167 } s m args below meth c H locs 0 0 (zQ below g r.1 (some (qI r.2)) args s 0 0) (F0 m 86 ls []) := by
    intro h l0 l4  H locs ls Hh hl hm
    unfold M_X11_trueOnes_p86 at hm
    refine lv_aload_n hx hb dX11_trueOnes_86 rfl (lv_at hl 0 rfl) ?_
    refine lv_iload hx hb dX11_trueOnes_87 (lv_at hl 1 rfl) ?_
    refine z_cVI (vs := [qI l4]) C (fun q hq => ct_X11_good l g h l0 l4 q hq) tw_1670 my_X11_good (fun q hq => tg_X11_good hq) rfl hl.1 Hh ⟨Nat.le_of_ble_eq_true rfl, Nat.le_of_ble_eq_true rfl, Nat.le_of_ble_eq_true rfl, Nat.le_of_ble_eq_true rfl⟩ (Nat.le_of_ble_eq_true rfl) dX11_trueOnes_89 rfl hm (fun h x1 H locs Hh hm => ?_)
    exact z_iret C hr hlocks Hh dX11_trueOnes_92 hm
  have KL32 : ∀ (n : Nat) (h : Hp) (l0 l1 l2 l4 l5 : Int) (H : Heap) (locs : List Loc) (ls : Array Slot), zH g s h H locs → lv_has ls 6 [(0, qR g l0), (1, qI l1), (2, qI l2), (4, qI l4), (5, qI l5)] → M_X11_trueOnes_w32 n h l0 l1 l2 l4 l5 = some r → W p l e { frames := 7, cells := 0, slots := 0, locals := 167 } s m args below meth c H locs 0 0 (zQ below g r.1 (some (qI r.2)) args s 0 0) (F0 m 32 ls []) := by
    intro n
    induction n with
    | zero => intro h l0 l1 l2 l4 l5 H locs ls Hh hl hm; cases hm
    | succ n ih32 =>
      intro h l0 l1 l2 l4 l5 H locs ls Hh hl hm
      obtain ⟨z32, hm, hc32⟩ := wh_inv hm
      have hm : M_X11_trueOnes_b32 h l0 l1 l2 l4 l5 = some z32 := hm
      have K77 : ∀  (l5 : Int) (s0 s1 : Int) (H : Heap) (locs : List Loc) (ls : Array Slot), zH g s h H locs → lv_has ls 6 [(0, qR g l0), (1, qI l1), (2, qI l2), (5, qI l5)] → M_X11_trueOnes_p77 h l0 l1 l2 l5 s0 s1 = some z32 → W p l e { frames := 7, cells := 0, slots := 0, locals := 167 } s m args below meth c H locs 0 0 (zQ below g r.1 (some (qI r.2)) args s 0 0) (F0 m 77 ls [qI s1, qI s0]) := by
        intro l5 s0 s1 H locs ls Hh hl hm
        unfold M_X11_trueOnes_p77 at hm
        refine z_iadd C dX11_trueOnes_77 ?_
        refine lv_istore (lv' := [(4, qI (s0 + s1)), (0, qR g l0), (1, qI l1), (2, qI l2), (5, qI l5)]) hx hb dX11_trueOnes_78 hl (by decide) rfl (fun ls hl => ?_)
        refine z_iinc (x := l5) (k := 4) (lv' := [(5, qI (l5 + 1)), (4, qI (s0 + s1)), (0, qR g l0), (1, qI l1), (2, qI l2)]) C dX11_trueOnes_80 hl rfl (by decide) rfl (fun ls hl => ?_)
        refine lv_goto (tgt := 32) hx hb dX11_trueOnes_83 (by decide) ?_
        cases hm
        exact ih32 h l0 l1 l2 (s0 + s1) (l5 + 1) _ _ _ Hh (lv_sub hl [2, 3, 4, 1, 0] rfl) hc32
      unfold M_X11_trueOnes_b32 at hm
      refine lv_iload hx hb dX11_trueOnes_32 (lv_at hl 4 rfl) ?_
      refine lv_aload_n hx hb dX11_trueOnes_34 rfl (lv_at hl 0 rfl) ?_
      refine z_getR C fl_11_341 Hh dX11_trueOnes_35 rfl hm (fun x2 hm => ?_)
      refine z_cVIr (vs := []) C (fun q hq => ct_X10_all l g h x2 q hq) tw_1730 my_X10_all (fun q hq => tg_X10_all hq) rfl hl.1 Hh ⟨Nat.le_of_ble_eq_true rfl, Nat.le_of_ble_eq_true rfl, Nat.le_of_ble_eq_true rfl, Nat.le_of_ble_eq_true rfl⟩ (Nat.le_of_ble_eq_true rfl) dX11_trueOnes_38 rfl hm (fun x3 H locs Hh hm => ?_)
      refine z_icmp_ge (tgt := 86) C dX11_trueOnes_41 (by decide) rfl rfl hm (fun _ hm => ?_) (fun _ hm => ?_)
      · cases hm
        exact K86 h l0 l4 _ _ _ Hh (lv_sub hl [0, 3] rfl) hc32
      · refine lv_iload hx hb dX11_trueOnes_44 (lv_at hl 3 rfl) ?_
        refine lv_aload_n hx hb dX11_trueOnes_46 rfl (lv_at hl 0 rfl) ?_
        refine lv_iload_n hx hb dX11_trueOnes_47 rfl (lv_at hl 2 rfl) ?_
        refine lv_iload_n hx hb dX11_trueOnes_48 rfl (lv_at hl 1 rfl) ?_
        refine lv_iload hx hb dX11_trueOnes_49 (lv_at hl 4 rfl) ?_
        refine z_cVIr (vs := [qI l2, qI l1, qI l5]) C (fun q hq => ct_X11_behind l g h l0 l2 l1 l5 q hq) tw_1765 my_X11_behind (fun q hq => tg_X11_behind hq) rfl hl.1 Hh ⟨Nat.le_of_ble_eq_true rfl, Nat.le_of_ble_eq_true rfl, Nat.le_of_ble_eq_true rfl, Nat.le_of_ble_eq_true rfl⟩ (Nat.le_of_ble_eq_true rfl) dX11_trueOnes_51 rfl hm (fun x4 H locs Hh hm => ?_)
        refine lv_aload_n hx hb dX11_trueOnes_54 rfl (lv_at hl 0 rfl) ?_
        refine z_getR C fl_11_341 Hh dX11_trueOnes_55 rfl hm (fun x5 hm => ?_)
        refine z_getR C fl_11_262 Hh dX11_trueOnes_58 rfl hm (fun x6 hm => ?_)
        refine z_bipush C dX11_trueOnes_61 rfl ?_
        refine lv_iload_n hx hb dX11_trueOnes_63 rfl (lv_at hl 1 rfl) ?_
        refine z_imul C dX11_trueOnes_64 ?_
        refine lv_iload hx hb dX11_trueOnes_65 (lv_at hl 4 rfl) ?_
        refine z_iadd C dX11_trueOnes_67 ?_
        refine z_iald C Hh dX11_trueOnes_68 hm (fun x7 hm => ?_)
        refine z_icmp_ne (tgt := 76) C dX11_trueOnes_69 (by decide) rfl rfl hm (fun _ hm => ?_) (fun _ hm => ?_)
        · refine z_iconst C dX11_trueOnes_76 ?_
          exact K77 l5 l4 0 _ _ _ Hh (lv_sub hl [0, 1, 2, 4] rfl) hm
        · refine z_iconst C dX11_trueOnes_72 ?_
          refine lv_goto (tgt := 77) hx hb dX11_trueOnes_73 (by decide) ?_
          exact K77 l5 l4 1 _ _ _ Hh (lv_sub hl [0, 1, 2, 4] rfl) hm
  refine lv_aload_n hx hb dX11_trueOnes_0 rfl (lv_at hl 0 rfl) ?_
  refine z_iconst C dX11_trueOnes_1 ?_
  refine z_putI C hnm pl_11_78 Hh dX11_trueOnes_2 rfl hm (fun h H locs Hh hm => ?_)
  refine lv_aload_n hx hb dX11_trueOnes_5 rfl (lv_at hl 0 rfl) ?_
  refine lv_aload_n hx hb dX11_trueOnes_6 rfl (lv_at hl 0 rfl) ?_
  refine lv_iload_n hx hb dX11_trueOnes_7 rfl (lv_at hl 1 rfl) ?_
  refine z_cVIr (vs := [qI l1]) C (fun q hq => ct_X11_isTown l g h l0 l1 q hq) tw_1686 my_X11_isTown (fun q hq => tg_X11_isTown hq) rfl hl.1 Hh ⟨Nat.le_of_ble_eq_true rfl, Nat.le_of_ble_eq_true rfl, Nat.le_of_ble_eq_true rfl, Nat.le_of_ble_eq_true rfl⟩ (Nat.le_of_ble_eq_true rfl) dX11_trueOnes_8 rfl hm (fun x8 H locs Hh hm => ?_)
  refine lv_iload_n hx hb dX11_trueOnes_11 rfl (lv_at hl 2 rfl) ?_
  refine z_cVI (vs := [qI x8, qI l2]) C (fun q hq => ct_X11_asks l g h l0 x8 l2 q hq) tw_1714 my_X11_asks (fun q hq => tg_X11_asks hq) rfl hl.1 Hh ⟨Nat.le_of_ble_eq_true rfl, Nat.le_of_ble_eq_true rfl, Nat.le_of_ble_eq_true rfl, Nat.le_of_ble_eq_true rfl⟩ (Nat.le_of_ble_eq_true rfl) dX11_trueOnes_12 rfl hm (fun h x9 H locs Hh hm => ?_)
  refine lv_istore_n (lv' := [(3, qI x9), (0, qR g l0), (1, qI l1), (2, qI l2)]) hx hb dX11_trueOnes_15 rfl hl (by decide) rfl (fun ls hl => ?_)
  refine lv_iload_n hx hb dX11_trueOnes_16 rfl (lv_at hl 0 rfl) ?_
  refine z_if_le (tgt := 26) C dX11_trueOnes_17 (by decide) rfl hm (fun _ hm => ?_) (fun _ hm => ?_)
  · refine z_iconst C dX11_trueOnes_26 ?_
    refine lv_istore (lv' := [(4, qI 0), (3, qI x9), (0, qR g l0), (1, qI l1), (2, qI l2)]) hx hb dX11_trueOnes_27 hl (by decide) rfl (fun ls hl => ?_)
    refine z_iconst C dX11_trueOnes_29 ?_
    refine lv_istore (lv' := [(5, qI 0), (4, qI 0), (3, qI x9), (0, qR g l0), (1, qI l1), (2, qI l2)]) hx hb dX11_trueOnes_30 hl (by decide) rfl (fun ls hl => ?_)
    exact KL32 FU h l0 l1 l2 0 0 _ _ _ Hh (lv_sub hl [3, 4, 5, 1, 0] rfl) hm
  · refine lv_aload_n hx hb dX11_trueOnes_20 rfl (lv_at hl 1 rfl) ?_
    refine lv_iload_n hx hb dX11_trueOnes_21 rfl (lv_at hl 0 rfl) ?_
    refine z_cVI (vs := [qI x9]) C (fun q hq => ct_X11_refused l g h l0 x9 q hq) tw_1451 my_X11_refused (fun q hq => tg_X11_refused hq) rfl hl.1 Hh ⟨Nat.le_of_ble_eq_true rfl, Nat.le_of_ble_eq_true rfl, Nat.le_of_ble_eq_true rfl, Nat.le_of_ble_eq_true rfl⟩ (Nat.le_of_ble_eq_true rfl) dX11_trueOnes_22 rfl hm (fun h x10 H locs Hh hm => ?_)
    exact z_iret C hr hlocks Hh dX11_trueOnes_25 hm
theorem tg_X11_when {h : Hp} {l0 l1 l2 l3 : Int} {r : Hp × Int} (hm : M_X11_when h l0 l1 l2 l3 = some r) : hT h l0 = 21 := (tk_inv hm).1
set_option maxRecDepth 100000 in
set_option maxHeartbeats 4000000 in
theorem ct_X11_when (l : Launch) (g : zGeo) (h0 : Hp) (l0 l1 l2 l3 : Int) (r : Hp × Int) (hm : M_X11_when h0 l0 l1 l2 l3 = some r) : zM l yX11_when cX11_when 6 (some .int) 7 167 0 0 g h0 [qR g l0, qI l1, qI l2, qI l3] r.1 (some (qI r.2)) := by
  refine z_meth (by decide) (Nat.le_of_ble_eq_true rfl) ?_
  intro p e s m args below meth c H ls C hr hlocks hnm Hh hl
  have C : zC p m c cX11_when 6 s args RX11 g := C
  have hnm : meth.name = "when" := hnm
  have hx := C.1.1
  have hb := C.1.2.1
  have hl : lv_has ls 6 [(0, qR g l0), (1, qI l1), (2, qI l2), (3, qI l3)] := hl
  unfold M_X11_when at hm
  replace hm := (tk_inv hm).2
  generalize h0 = h at Hh hm
  have K86 : ∀ (h : Hp) (l0 : Int) (H : Heap) (locs : List Loc) (ls : Array Slot), zH g s h H locs → lv_has ls 6 [(0, qR g l0)] → M_X11_when_p86 h l0 = some r → W p l e { frames := 7, cells := 0, slots := 0, locals := 167 } s m args below meth c H locs 0 0 (zQ below g r.1 (some (qI r.2)) args s 0 0) (F0 m 86 ls []) := by
    intro h l0  H locs ls Hh hl hm
    unfold M_X11_when_p86 at hm
    refine lv_aload_n hx hb dX11_when_86 rfl (lv_at hl 0 rfl) ?_
    refine z_bipush C dX11_when_87 rfl ?_
    refine z_cVI (vs := [qI (-2)]) C (fun q hq => ct_X11_good l g h l0 (-2) q hq) tw_1670 my_X11_good (fun q hq => tg_X11_good hq) rfl hl.1 Hh ⟨Nat.le_of_ble_eq_true rfl, Nat.le_of_ble_eq_true rfl, Nat.le_of_ble_eq_true rfl, Nat.le_of_ble_eq_true rfl⟩ (Nat.le_of_ble_eq_true rfl) dX11_when_89 rfl hm (fun h x1 H locs Hh hm => ?_)
    exact z_iret C hr hlocks Hh dX11_when_92 hm
  have KL50 : ∀ (n : Nat) (h : Hp) (l0 l1 l2 l3 l5 : Int) (H : Heap) (locs : List Loc) (ls : Array Slot), zH g s h H locs → lv_has ls 6 [(0, qR g l0), (1, qI l1), (2, qI l2), (3, qI l3), (5, qI l5)] → M_X11_when_w50 n h l0 l1 l2 l3 l5 = some r → W p l e { frames := 7, cells := 0, slots := 0, locals := 167 } s m args below meth c H locs 0 0 (zQ below g r.1 (some (qI r.2)) args s 0 0) (F0 m 50 ls []) := by
    intro n
    induction n with
    | zero => intro h l0 l1 l2 l3 l5 H locs ls Hh hl hm; cases hm
    | succ n ih50 =>
      intro h l0 l1 l2 l3 l5 H locs ls Hh hl hm
      obtain ⟨z50, hm, hc50⟩ := wh_inv hm
      have hm : M_X11_when_b50 h l0 l1 l2 l3 l5 = some z50 := hm
      unfold M_X11_when_b50 at hm
      refine lv_iload hx hb dX11_when_50 (lv_at hl 4 rfl) ?_
      refine z_bipush C dX11_when_52 rfl ?_
      refine z_icmp_gt (tgt := 86) C dX11_when_54 (by decide) rfl lq_p60 hm (fun _ hm => ?_) (fun _ hm => ?_)
      · cases hm
        exact K86 h l0 _ _ _ Hh (lv_sub hl [0] rfl) hc50
      · refine lv_aload_n hx hb dX11_when_57 rfl (lv_at hl 0 rfl) ?_
        refine lv_iload hx hb dX11_when_58 (lv_at hl 4 rfl) ?_
        refine lv_iload_n hx hb dX11_when_60 rfl (lv_at hl 1 rfl) ?_
        refine lv_aload_n hx hb dX11_when_61 rfl (lv_at hl 0 rfl) ?_
        refine lv_iload_n hx hb dX11_when_62 rfl (lv_at hl 2 rfl) ?_
        refine z_cVIr (vs := [qI l2]) C (fun q hq => ct_X11_placeOf l g h l0 l2 q hq) tw_1702 my_X11_placeOf (fun q hq => tg_X11_placeOf hq) rfl hl.1 Hh ⟨Nat.le_of_ble_eq_true rfl, Nat.le_of_ble_eq_true rfl, Nat.le_of_ble_eq_true rfl, Nat.le_of_ble_eq_true rfl⟩ (Nat.le_of_ble_eq_true rfl) dX11_when_63 rfl hm (fun x2 H locs Hh hm => ?_)
        refine z_cVIr (vs := [qI l5, qI l1, qI x2]) C (fun q hq => ct_X11_behind l g h l0 l5 l1 x2 q hq) tw_1765 my_X11_behind (fun q hq => tg_X11_behind hq) rfl hl.1 Hh ⟨Nat.le_of_ble_eq_true rfl, Nat.le_of_ble_eq_true rfl, Nat.le_of_ble_eq_true rfl, Nat.le_of_ble_eq_true rfl⟩ (Nat.le_of_ble_eq_true rfl) dX11_when_66 rfl hm (fun x3 H locs Hh hm => ?_)
        refine lv_iload_n hx hb dX11_when_69 rfl (lv_at hl 3 rfl) ?_
        refine z_icmp_ne (tgt := 80) C dX11_when_70 (by decide) rfl rfl hm (fun _ hm => ?_) (fun _ hm => ?_)
        · refine z_iinc (x := l5) (k := 4) (lv' := [(5, qI (l5 + 1)), (0, qR g l0), (1, qI l1), (2, qI l2), (3, qI l3)]) C dX11_when_80 hl rfl (by decide) rfl (fun ls hl => ?_)
          refine lv_goto (tgt := 50) hx hb dX11_when_83 (by decide) ?_
          cases hm
          exact ih50 h l0 l1 l2 l3 (l5 + 1) _ _ _ Hh (lv_sub hl [1, 2, 3, 4, 0] rfl) hc50
        · refine lv_aload_n hx hb dX11_when_73 rfl (lv_at hl 0 rfl) ?_
          refine lv_iload hx hb dX11_when_74 (lv_at hl 4 rfl) ?_
          refine z_cVI (vs := [qI l5]) C (fun q hq => ct_X11_good l g h l0 l5 q hq) tw_1670 my_X11_good (fun q hq => tg_X11_good hq) rfl hl.1 Hh ⟨Nat.le_of_ble_eq_true rfl, Nat.le_of_ble_eq_true rfl, Nat.le_of_ble_eq_true rfl, Nat.le_of_ble_eq_true rfl⟩ (Nat.le_of_ble_eq_true rfl) dX11_when_76 rfl hm (fun h x4 H locs Hh hm => ?_)
          cases hm
          have hm := hc50
          exact z_iret C hr hlocks Hh dX11_when_79 hm
  have K28 : ∀ (h : Hp) (l0 l1 l2 l3 : Int) (s0 s1 : Int) (H : Heap) (locs : List Loc) (ls : Array Slot), zH g s h H locs → lv_has ls 6 [(0, qR g l0), (1, qI l1), (2, qI l2), (3, qI l3)] → M_X11_when_p28 h l0 l1 l2 l3 s0 s1 = some r → W p l e { frames := 7, cells := 0, slots := 0, locals := 167 } s m args below meth c H locs 0 0 (zQ below g r.1 (some (qI r.2)) args s 0 0) (F0 m 28 ls [qI s1, qR g s0]) := by
    intro h l0 l1 l2 l3 s0 s1 H locs ls Hh hl hm
    unfold M_X11_when_p28 at hm
    refine z_bipush C dX11_when_28 rfl ?_
    refine z_cVI (vs := [qI s1, qI 60]) C (fun q hq => ct_X11_asks l g h s0 s1 60 q hq) tw_1714 my_X11_asks (fun q hq => tg_X11_asks hq) rfl hl.1 Hh ⟨Nat.le_of_ble_eq_true rfl, Nat.le_of_ble_eq_true rfl, Nat.le_of_ble_eq_true rfl, Nat.le_of_ble_eq_true rfl⟩ (Nat.le_of_ble_eq_true rfl) dX11_when_30 rfl hm (fun h x5 H locs Hh hm => ?_)
    refine lv_istore (lv' := [(4, qI x5), (0, qR g l0), (1, qI l1), (2, qI l2), (3, qI l3)]) hx hb dX11_when_33 hl (by decide) rfl (fun ls hl => ?_)
    refine lv_iload hx hb dX11_when_35 (lv_at hl 0 rfl) ?_
    refine z_if_le (tgt := 47) C dX11_when_37 (by decide) rfl hm (fun _ hm => ?_) (fun _ hm => ?_)
    · refine z_iconst C dX11_when_47 ?_
      refine lv_istore (lv' := [(5, qI 0), (4, qI x5), (0, qR g l0), (1, qI l1), (2, qI l2), (3, qI l3)]) hx hb dX11_when_48 hl (by decide) rfl (fun ls hl => ?_)
      exact KL50 FU h l0 l1 l2 l3 0 _ _ _ Hh (lv_sub hl [2, 3, 4, 5, 0] rfl) hm
    · refine lv_aload_n hx hb dX11_when_40 rfl (lv_at hl 1 rfl) ?_
      refine lv_iload hx hb dX11_when_41 (lv_at hl 0 rfl) ?_
      refine z_cVI (vs := [qI x5]) C (fun q hq => ct_X11_refused l g h l0 x5 q hq) tw_1451 my_X11_refused (fun q hq => tg_X11_refused hq) rfl hl.1 Hh ⟨Nat.le_of_ble_eq_true rfl, Nat.le_of_ble_eq_true rfl, Nat.le_of_ble_eq_true rfl, Nat.le_of_ble_eq_true rfl⟩ (Nat.le_of_ble_eq_true rfl) dX11_when_43 rfl hm (fun h x6 H locs Hh hm => ?_)
      exact z_iret C hr hlocks Hh dX11_when_46 hm
  have K27 : ∀ (h : Hp) (l0 l1 l2 l3 : Int) (s0 : Int) (H : Heap) (locs : List Loc) (ls : Array Slot), zH g s h H locs → lv_has ls 6 [(0, qR g l0), (1, qI l1), (2, qI l2), (3, qI l3)] → M_X11_when_p27 h l0 l1 l2 l3 s0 = some r → W p l e { frames := 7, cells := 0, slots := 0, locals := 167 } s m args below meth c H locs 0 0 (zQ below g r.1 (some (qI r.2)) args s 0 0) (F0 m 27 ls [qR g s0]) := by
    intro h l0 l1 l2 l3 s0 H locs ls Hh hl hm
    unfold M_X11_when_p27 at hm
    refine z_iconst C dX11_when_27 ?_
    exact K28 h l0 l1 l2 l3 s0 0 _ _ _ Hh (lv_sub hl [0, 1, 2, 3] rfl) hm
  refine lv_aload_n hx hb dX11_when_0 rfl (lv_at hl 0 rfl) ?_
  refine z_iconst C dX11_when_1 ?_
  refine z_putI C hnm pl_11_78 Hh dX11_when_2 rfl hm (fun h H locs Hh hm => ?_)
  refine lv_aload_n hx hb dX11_when_5 rfl (lv_at hl 0 rfl) ?_
  refine lv_aload_n hx hb dX11_when_6 rfl (lv_at hl 0 rfl) ?_
  refine lv_iload_n hx hb dX11_when_7 rfl (lv_at hl 1 rfl) ?_
  refine lv_iload_n hx hb dX11_when_8 rfl (lv_at hl 2 rfl) ?_
  refine z_cVIr (vs := [qI l1, qI l2]) C (fun q hq => ct_X11_isPlace l g h l0 l1 l2 q hq) tw_1698 my_X11_isPlace (fun q hq => tg_X11_isPlace hq) rfl hl.1 Hh ⟨Nat.le_of_ble_eq_true rfl, Nat.le_of_ble_eq_true rfl, Nat.le_of_ble_eq_true rfl, Nat.le_of_ble_eq_true rfl⟩ (Nat.le_of_ble_eq_true rfl) dX11_when_9 rfl hm (fun x7 H locs Hh hm => ?_)
  refine z_if_eq (tgt := 27) C dX11_when_12 (by decide) rfl hm (fun _ hm => ?_) (fun _ hm => ?_)
  · exact K27 h l0 l1 l2 l3 l0 _ _ _ Hh (lv_sub hl [0, 1, 2, 3] rfl) hm
  · refine lv_aload_n hx hb dX11_when_15 rfl (lv_at hl 0 rfl) ?_
    refine lv_iload_n hx hb dX11_when_16 rfl (lv_at hl 3 rfl) ?_
    refine z_cVIr (vs := [qI l3]) C (fun q hq => ct_X11_isMark l g h l0 l3 q hq) tw_1773 my_X11_isMark (fun q hq => tg_X11_isMark hq) rfl hl.1 Hh ⟨Nat.le_of_ble_eq_true rfl, Nat.le_of_ble_eq_true rfl, Nat.le_of_ble_eq_true rfl, Nat.le_of_ble_eq_true rfl⟩ (Nat.le_of_ble_eq_true rfl) dX11_when_17 rfl hm (fun x8 H locs Hh hm => ?_)
    refine z_if_eq (tgt := 27) C dX11_when_20 (by decide) rfl hm (fun _ hm => ?_) (fun _ hm => ?_)
    · exact K27 h l0 l1 l2 l3 l0 _ _ _ Hh (lv_sub hl [0, 1, 2, 3] rfl) hm
    · refine z_iconst C dX11_when_23 ?_
      refine lv_goto (tgt := 28) hx hb dX11_when_24 (by decide) ?_
      exact K28 h l0 l1 l2 l3 l0 1 _ _ _ Hh (lv_sub hl [0, 1, 2, 3] rfl) hm
theorem tg_X11_areasOf {h : Hp} {l0 l1 l2 : Int} {r : Hp × Int} (hm : M_X11_areasOf h l0 l1 l2 = some r) : hT h l0 = 21 := (tk_inv hm).1
set_option maxRecDepth 100000 in
set_option maxHeartbeats 4000000 in
theorem ct_X11_areasOf (l : Launch) (g : zGeo) (h0 : Hp) (l0 l1 l2 : Int) (r : Hp × Int) (hm : M_X11_areasOf h0 l0 l1 l2 = some r) : zM l yX11_areasOf cX11_areasOf 9 (some .int) 2 46 0 0 g h0 [qR g l0, qI l1, qI l2] r.1 (some (qI r.2)) := by
  refine z_meth (by decide) (Nat.le_of_ble_eq_true rfl) ?_
  intro p e s m args below meth c H ls C hr hlocks hnm Hh hl
  have C : zC p m c cX11_areasOf 9 s args RX11 g := C
  have hnm : meth.name = "areasOf" := hnm
  have hx := C.1.1
  have hb := C.1.2.1
  have hl : lv_has ls 9 [(0, qR g l0), (1, qI l1), (2, qI l2)] := hl
  unfold M_X11_areasOf at hm
  replace hm := (tk_inv hm).2
  generalize h0 = h at Hh hm
  have K220 : ∀ (h : Hp) (l3 : Int) (H : Heap) (locs : List Loc) (ls : Array Slot), zH g s h H locs → lv_has ls 9 [(3, qI l3)] → M_X11_areasOf_p220 h l3 = some r → W p l e { frames := 2, cells := 0, slots := 0, locals := 46 } s m args below meth c H locs 0 0 (zQ below g r.1 (some (qI r.2)) args s 0 0) (F0 m 220 ls []) := by
    intro h l3  H locs ls Hh hl hm
    unfold M_X11_areasOf_p220 at hm
    refine lv_iload_n hx hb dX11_areasOf_220 rfl (lv_at hl 0 rfl) ?_
    exact z_iret C hr hlocks Hh dX11_areasOf_221 hm
  have KL34 : ∀ (n : Nat) (h : Hp) (l0 l1 l2 l3 l4 : Int) (H : Heap) (locs : List Loc) (ls : Array Slot), zH g s h H locs → lv_has ls 9 [(0, qR g l0), (1, qI l1), (2, qI l2), (3, qI l3), (4, qI l4)] → M_X11_areasOf_w34 n h l0 l1 l2 l3 l4 = some r → W p l e { frames := 2, cells := 0, slots := 0, locals := 46 } s m args below meth c H locs 0 0 (zQ below g r.1 (some (qI r.2)) args s 0 0) (F0 m 34 ls []) := by
    intro n
    induction n with
    | zero => intro h l0 l1 l2 l3 l4 H locs ls Hh hl hm; cases hm
    | succ n ih34 =>
      intro h l0 l1 l2 l3 l4 H locs ls Hh hl hm
      obtain ⟨z34, hm, hc34⟩ := wh_inv hm
      have hm : M_X11_areasOf_b34 h l0 l1 l2 l3 l4 = some z34 := hm
      have K214 : ∀ (h : Hp) (l3 l4 : Int) (H : Heap) (locs : List Loc) (ls : Array Slot), zH g s h H locs → lv_has ls 9 [(0, qR g l0), (1, qI l1), (2, qI l2), (3, qI l3), (4, qI l4)] → M_X11_areasOf_p214 h l0 l1 l2 l3 l4 = some z34 → W p l e { frames := 2, cells := 0, slots := 0, locals := 46 } s m args below meth c H locs 0 0 (zQ below g r.1 (some (qI r.2)) args s 0 0) (F0 m 214 ls []) := by
        intro h l3 l4  H locs ls Hh hl hm
        unfold M_X11_areasOf_p214 at hm
        refine z_iinc (x := l4) (k := 4) (lv' := [(4, qI (l4 + 1)), (0, qR g l0), (1, qI l1), (2, qI l2), (3, qI l3)]) C dX11_areasOf_214 hl rfl (by decide) rfl (fun ls hl => ?_)
        refine lv_goto (tgt := 34) hx hb dX11_areasOf_217 (by decide) ?_
        cases hm
        exact ih34 h l0 l1 l2 l3 (l4 + 1) _ _ _ Hh (lv_sub hl [1, 2, 3, 4, 0] rfl) hc34
      have K211 : ∀ (h : Hp) (l3 l4 : Int) (s0 s1 : Int) (H : Heap) (locs : List Loc) (ls : Array Slot), zH g s h H locs → lv_has ls 9 [(0, qR g l0), (1, qI l1), (2, qI l2), (3, qI l3), (4, qI l4)] → M_X11_areasOf_p211 h l0 l1 l2 l3 l4 s0 s1 = some z34 → W p l e { frames := 2, cells := 0, slots := 0, locals := 46 } s m args below meth c H locs 0 0 (zQ below g r.1 (some (qI r.2)) args s 0 0) (F0 m 211 ls [qI s1, qR g s0]) := by
        intro h l3 l4 s0 s1 H locs ls Hh hl hm
        unfold M_X11_areasOf_p211 at hm
        refine z_putI C hnm pl_11_412 Hh dX11_areasOf_211 rfl hm (fun h H locs Hh hm => ?_)
        exact K214 h l3 l4 _ _ _ Hh (lv_sub hl [0, 1, 2, 3, 4] rfl) hm
      have K192 : ∀ (h : Hp) (l3 l4 l5 : Int) (H : Heap) (locs : List Loc) (ls : Array Slot), zH g s h H locs → lv_has ls 9 [(0, qR g l0), (1, qI l1), (2, qI l2), (3, qI l3), (4, qI l4), (5, qI l5)] → M_X11_areasOf_p192 h l0 l1 l2 l3 l4 l5 = some z34 → W p l e { frames := 2, cells := 0, slots := 0, locals := 46 } s m args below meth c H locs 0 0 (zQ below g r.1 (some (qI r.2)) args s 0 0) (F0 m 192 ls []) := by
        intro h l3 l4 l5  H locs ls Hh hl hm
        unfold M_X11_areasOf_p192 at hm
        refine lv_aload_n hx hb dX11_areasOf_192 rfl (lv_at hl 0 rfl) ?_
        refine lv_iload hx hb dX11_areasOf_193 (lv_at hl 5 rfl) ?_
        refine lv_aload_n hx hb dX11_areasOf_195 rfl (lv_at hl 0 rfl) ?_
        refine z_getI C fl_11_412 Hh dX11_areasOf_196 rfl hm (fun x1 hm => ?_)
        refine z_icmp_le (tgt := 207) C dX11_areasOf_199 (by decide) rfl rfl hm (fun _ hm => ?_) (fun _ hm => ?_)
        · refine lv_aload_n hx hb dX11_areasOf_207 rfl (lv_at hl 0 rfl) ?_
          refine z_getI C fl_11_412 Hh dX11_areasOf_208 rfl hm (fun x2 hm => ?_)
          exact K211 h l3 l4 l0 x2 _ _ _ Hh (lv_sub hl [0, 1, 2, 3, 4] rfl) hm
        · refine lv_iload hx hb dX11_areasOf_202 (lv_at hl 5 rfl) ?_
          refine lv_goto (tgt := 211) hx hb dX11_areasOf_204 (by decide) ?_
          exact K211 h l3 l4 l0 l5 _ _ _ Hh (lv_sub hl [0, 1, 2, 3, 4] rfl) hm
      have KL97 : ∀ (n : Nat) (h : Hp) (l3 l4 l5 l6 : Int) (H : Heap) (locs : List Loc) (ls : Array Slot), zH g s h H locs → lv_has ls 9 [(0, qR g l0), (1, qI l1), (2, qI l2), (3, qI l3), (4, qI l4), (5, qI l5), (6, qI l6)] → M_X11_areasOf_w97 n h l0 l1 l2 l3 l4 l5 l6 = some z34 → W p l e { frames := 2, cells := 0, slots := 0, locals := 46 } s m args below meth c H locs 0 0 (zQ below g r.1 (some (qI r.2)) args s 0 0) (F0 m 97 ls []) := by
        intro n
        induction n with
        | zero => intro h l3 l4 l5 l6 H locs ls Hh hl hm; cases hm
        | succ n ih97 =>
          intro h l3 l4 l5 l6 H locs ls Hh hl hm
          obtain ⟨z97, hm, hc97⟩ := wh_inv hm
          have hm : M_X11_areasOf_b97 h l0 l1 l2 l3 l4 l5 l6 = some z97 := hm
          have K186 : ∀ (h : Hp) (l5 l6 : Int) (H : Heap) (locs : List Loc) (ls : Array Slot), zH g s h H locs → lv_has ls 9 [(0, qR g l0), (1, qI l1), (2, qI l2), (3, qI l3), (4, qI l4), (5, qI l5), (6, qI l6)] → M_X11_areasOf_p186 h l0 l1 l2 l3 l4 l5 l6 = some z97 → W p l e { frames := 2, cells := 0, slots := 0, locals := 46 } s m args below meth c H locs 0 0 (zQ below g r.1 (some (qI r.2)) args s 0 0) (F0 m 186 ls []) := by
            intro h l5 l6  H locs ls Hh hl hm
            unfold M_X11_areasOf_p186 at hm
            refine z_iinc (x := l6) (k := 6) (lv' := [(6, qI (l6 + 1)), (0, qR g l0), (1, qI l1), (2, qI l2), (3, qI l3), (4, qI l4), (5, qI l5)]) C dX11_areasOf_186 hl rfl (by decide) rfl (fun ls hl => ?_)
            refine lv_goto (tgt := 97) hx hb dX11_areasOf_189 (by decide) ?_
            cases hm
            exact ih97 h l3 l4 l5 (l6 + 1) _ _ _ Hh (lv_sub hl [1, 2, 3, 4, 5, 6, 0] rfl) hc97
          have KL107 : ∀ (n : Nat) (h : Hp) (l5 l6 l7 : Int) (H : Heap) (locs : List Loc) (ls : Array Slot), zH g s h H locs → lv_has ls 9 [(0, qR g l0), (1, qI l1), (2, qI l2), (3, qI l3), (4, qI l4), (5, qI l5), (6, qI l6), (7, qI l7)] → M_X11_areasOf_w107 n h l0 l1 l2 l3 l4 l5 l6 l7 = some z97 → W p l e { frames := 2, cells := 0, slots := 0, locals := 46 } s m args below meth c H locs 0 0 (zQ below g r.1 (some (qI r.2)) args s 0 0) (F0 m 107 ls []) := by
            intro n
            induction n with
            | zero => intro h l5 l6 l7 H locs ls Hh hl hm; cases hm
            | succ n ih107 =>
              intro h l5 l6 l7 H locs ls Hh hl hm
              obtain ⟨z107, hm, hc107⟩ := wh_inv hm
              have hm : M_X11_areasOf_b107 h l0 l1 l2 l3 l4 l6 l5 l7 = some z107 := hm
              have K180 : ∀ (h : Hp) (l5 l7 : Int) (H : Heap) (locs : List Loc) (ls : Array Slot), zH g s h H locs → lv_has ls 9 [(0, qR g l0), (1, qI l1), (2, qI l2), (3, qI l3), (4, qI l4), (5, qI l5), (6, qI l6), (7, qI l7)] → M_X11_areasOf_p180 h l0 l1 l2 l3 l4 l5 l6 l7 = some z107 → W p l e { frames := 2, cells := 0, slots := 0, locals := 46 } s m args below meth c H locs 0 0 (zQ below g r.1 (some (qI r.2)) args s 0 0) (F0 m 180 ls []) := by
                intro h l5 l7  H locs ls Hh hl hm
                unfold M_X11_areasOf_p180 at hm
                refine z_iinc (x := l7) (k := 7) (lv' := [(7, qI (l7 + 1)), (0, qR g l0), (1, qI l1), (2, qI l2), (3, qI l3), (4, qI l4), (5, qI l5), (6, qI l6)]) C dX11_areasOf_180 hl rfl (by decide) rfl (fun ls hl => ?_)
                refine lv_goto (tgt := 107) hx hb dX11_areasOf_183 (by decide) ?_
                cases hm
                exact ih107 h l5 l6 (l7 + 1) _ _ _ Hh (lv_sub hl [1, 2, 3, 4, 5, 6, 7, 0] rfl) hc107
              unfold M_X11_areasOf_b107 at hm
              refine lv_iload hx hb dX11_areasOf_107 (lv_at hl 7 rfl) ?_
              refine z_iconst C dX11_areasOf_109 ?_
              refine z_icmp_ge (tgt := 186) C dX11_areasOf_110 (by decide) rfl lq_p4 hm (fun _ hm => ?_) (fun _ hm => ?_)
              · cases hm
                exact K186 h l5 l6 _ _ _ Hh (lv_sub hl [0, 1, 2, 3, 4, 5, 6] rfl) hc107
              · refine lv_aload_n hx hb dX11_areasOf_113 rfl (lv_at hl 0 rfl) ?_
                refine lv_aload_n hx hb dX11_areasOf_114 rfl (lv_at hl 0 rfl) ?_
                refine z_getR C fl_11_44 Hh dX11_areasOf_115 rfl hm (fun x3 hm => ?_)
                refine lv_iload hx hb dX11_areasOf_118 (lv_at hl 6 rfl) ?_
                refine z_iald C Hh dX11_areasOf_120 hm (fun x4 hm => ?_)
                refine lv_iload hx hb dX11_areasOf_121 (lv_at hl 7 rfl) ?_
                refine z_cVIr (vs := [qI x4, qI l7]) C (fun q hq => ct_X11_beside l g h l0 x4 l7 q hq) tw_1758 my_X11_beside (fun q hq => tg_X11_beside hq) rfl hl.1 Hh ⟨Nat.le_of_ble_eq_true rfl, Nat.le_of_ble_eq_true rfl, Nat.le_of_ble_eq_true rfl, Nat.le_of_ble_eq_true rfl⟩ (Nat.le_of_ble_eq_true rfl) dX11_areasOf_123 rfl hm (fun x5 H locs Hh hm => ?_)
                refine lv_istore (lv' := [(8, qI x5), (0, qR g l0), (1, qI l1), (2, qI l2), (3, qI l3), (4, qI l4), (5, qI l5), (6, qI l6), (7, qI l7)]) hx hb dX11_areasOf_126 hl (by decide) rfl (fun ls hl => ?_)
                refine lv_iload hx hb dX11_areasOf_128 (lv_at hl 0 rfl) ?_
                refine z_iconst C dX11_areasOf_130 ?_
                refine z_icmp_eq (tgt := 180) C dX11_areasOf_131 (by decide) rfl lq_m1 hm (fun _ hm => ?_) (fun _ hm => ?_)
                · exact K180 h l5 l7 _ _ _ Hh (lv_sub hl [1, 2, 3, 4, 5, 6, 7, 8] rfl) hm
                · refine lv_aload_n hx hb dX11_areasOf_134 rfl (lv_at hl 1 rfl) ?_
                  refine z_getR C fl_11_40 Hh dX11_areasOf_135 rfl hm (fun x6 hm => ?_)
                  refine lv_iload hx hb dX11_areasOf_138 (lv_at hl 0 rfl) ?_
                  refine z_zald C Hh dX11_areasOf_140 hm (fun x7 hm => ?_)
                  refine z_if_ne (tgt := 180) C dX11_areasOf_141 (by decide) rfl hm (fun _ hm => ?_) (fun _ hm => ?_)
                  · exact K180 h l5 l7 _ _ _ Hh (lv_sub hl [1, 2, 3, 4, 5, 6, 7, 8] rfl) hm
                  · refine lv_aload_n hx hb dX11_areasOf_144 rfl (lv_at hl 1 rfl) ?_
                    refine z_getR C fl_11_28 Hh dX11_areasOf_145 rfl hm (fun x8 hm => ?_)
                    refine lv_iload_n hx hb dX11_areasOf_148 rfl (lv_at hl 2 rfl) ?_
                    refine lv_iload hx hb dX11_areasOf_149 (lv_at hl 0 rfl) ?_
                    refine z_iadd C dX11_areasOf_151 ?_
                    refine z_iald C Hh dX11_areasOf_152 hm (fun x9 hm => ?_)
                    refine lv_iload_n hx hb dX11_areasOf_153 rfl (lv_at hl 3 rfl) ?_
                    refine z_icmp_eq (tgt := 160) C dX11_areasOf_154 (by decide) rfl rfl hm (fun _ hm => ?_) (fun _ hm => ?_)
                    · refine lv_aload_n hx hb dX11_areasOf_160 rfl (lv_at hl 1 rfl) ?_
                      refine z_getR C fl_11_40 Hh dX11_areasOf_161 rfl hm (fun x10 hm => ?_)
                      refine lv_iload hx hb dX11_areasOf_164 (lv_at hl 0 rfl) ?_
                      refine z_iconst C dX11_areasOf_166 ?_
                      refine z_zast C Hh dX11_areasOf_167 hm (fun h H locs Hh hm => ?_)
                      refine lv_aload_n hx hb dX11_areasOf_168 rfl (lv_at hl 1 rfl) ?_
                      refine z_getR C fl_11_44 Hh dX11_areasOf_169 rfl hm (fun x11 hm => ?_)
                      refine lv_iload hx hb dX11_areasOf_172 (lv_at hl 6 rfl) ?_
                      refine lv_iload hx hb dX11_areasOf_174 (lv_at hl 0 rfl) ?_
                      refine z_iast C Hh dX11_areasOf_176 hm (fun h H locs Hh hm => ?_)
                      refine z_iinc (x := l5) (k := 6) (lv' := [(5, qI (l5 + 1)), (8, qI x5), (0, qR g l0), (1, qI l1), (2, qI l2), (3, qI l3), (4, qI l4), (6, qI l6), (7, qI l7)]) C dX11_areasOf_177 hl rfl (by decide) rfl (fun ls hl => ?_)
                      exact K180 h (l5 + 1) l7 _ _ _ Hh (lv_sub hl [2, 3, 4, 5, 6, 0, 7, 8] rfl) hm
                    · refine lv_goto (tgt := 180) hx hb dX11_areasOf_157 (by decide) ?_
                      exact K180 h l5 l7 _ _ _ Hh (lv_sub hl [1, 2, 3, 4, 5, 6, 7, 8] rfl) hm
          unfold M_X11_areasOf_b97 at hm
          refine lv_iload hx hb dX11_areasOf_97 (lv_at hl 6 rfl) ?_
          refine lv_iload hx hb dX11_areasOf_99 (lv_at hl 5 rfl) ?_
          refine z_icmp_ge (tgt := 192) C dX11_areasOf_101 (by decide) rfl rfl hm (fun _ hm => ?_) (fun _ hm => ?_)
          · cases hm
            exact K192 h l3 l4 l5 _ _ _ Hh (lv_sub hl [0, 1, 2, 3, 4, 5] rfl) hc97
          · refine z_iconst C dX11_areasOf_104 ?_
            refine lv_istore (lv' := [(7, qI 0), (0, qR g l0), (1, qI l1), (2, qI l2), (3, qI l3), (4, qI l4), (5, qI l5), (6, qI l6)]) hx hb dX11_areasOf_105 hl (by decide) rfl (fun ls hl => ?_)
            exact KL107 FU h l5 l6 0 _ _ _ Hh (lv_sub hl [1, 2, 3, 4, 5, 6, 7, 0] rfl) hm
      unfold M_X11_areasOf_b34 at hm
      refine lv_iload hx hb dX11_areasOf_34 (lv_at hl 4 rfl) ?_
      refine lv_aload_n hx hb dX11_areasOf_36 rfl (lv_at hl 0 rfl) ?_
      refine z_getR C fl_11_341 Hh dX11_areasOf_37 rfl hm (fun x12 hm => ?_)
      refine z_cVIr (vs := []) C (fun q hq => ct_X10_all l g h x12 q hq) tw_1730 my_X10_all (fun q hq => tg_X10_all hq) rfl hl.1 Hh ⟨Nat.le_of_ble_eq_true rfl, Nat.le_of_ble_eq_true rfl, Nat.le_of_ble_eq_true rfl, Nat.le_of_ble_eq_true rfl⟩ (Nat.le_of_ble_eq_true rfl) dX11_areasOf_40 rfl hm (fun x13 H locs Hh hm => ?_)
      refine z_icmp_ge (tgt := 220) C dX11_areasOf_43 (by decide) rfl rfl hm (fun _ hm => ?_) (fun _ hm => ?_)
      · cases hm
        exact K220 h l3 _ _ _ Hh (lv_sub hl [3] rfl) hc34
      · refine lv_aload_n hx hb dX11_areasOf_46 rfl (lv_at hl 0 rfl) ?_
        refine z_getR C fl_11_40 Hh dX11_areasOf_47 rfl hm (fun x14 hm => ?_)
        refine lv_iload hx hb dX11_areasOf_50 (lv_at hl 4 rfl) ?_
        refine z_zald C Hh dX11_areasOf_52 hm (fun x15 hm => ?_)
        refine z_if_ne (tgt := 214) C dX11_areasOf_53 (by decide) rfl hm (fun _ hm => ?_) (fun _ hm => ?_)
        · exact K214 h l3 l4 _ _ _ Hh (lv_sub hl [0, 1, 2, 3, 4] rfl) hm
        · refine lv_aload_n hx hb dX11_areasOf_56 rfl (lv_at hl 0 rfl) ?_
          refine z_getR C fl_11_28 Hh dX11_areasOf_57 rfl hm (fun x16 hm => ?_)
          refine lv_iload_n hx hb dX11_areasOf_60 rfl (lv_at hl 1 rfl) ?_
          refine lv_iload hx hb dX11_areasOf_61 (lv_at hl 4 rfl) ?_
          refine z_iadd C dX11_areasOf_63 ?_
          refine z_iald C Hh dX11_areasOf_64 hm (fun x17 hm => ?_)
          refine lv_iload_n hx hb dX11_areasOf_65 rfl (lv_at hl 2 rfl) ?_
          refine z_icmp_eq (tgt := 72) C dX11_areasOf_66 (by decide) rfl rfl hm (fun _ hm => ?_) (fun _ hm => ?_)
          · refine z_iinc (x := l3) (k := 3) (lv' := [(3, qI (l3 + 1)), (0, qR g l0), (1, qI l1), (2, qI l2), (4, qI l4)]) C dX11_areasOf_72 hl rfl (by decide) rfl (fun ls hl => ?_)
            refine z_iconst C dX11_areasOf_75 ?_
            refine lv_istore (lv' := [(5, qI 1), (3, qI (l3 + 1)), (0, qR g l0), (1, qI l1), (2, qI l2), (4, qI l4)]) hx hb dX11_areasOf_76 hl (by decide) rfl (fun ls hl => ?_)
            refine lv_aload_n hx hb dX11_areasOf_78 rfl (lv_at hl 2 rfl) ?_
            refine z_getR C fl_11_44 Hh dX11_areasOf_79 rfl hm (fun x18 hm => ?_)
            refine z_iconst C dX11_areasOf_82 ?_
            refine lv_iload hx hb dX11_areasOf_83 (lv_at hl 5 rfl) ?_
            refine z_iast C Hh dX11_areasOf_85 hm (fun h H locs Hh hm => ?_)
            refine lv_aload_n hx hb dX11_areasOf_86 rfl (lv_at hl 2 rfl) ?_
            refine z_getR C fl_11_40 Hh dX11_areasOf_87 rfl hm (fun x19 hm => ?_)
            refine lv_iload hx hb dX11_areasOf_90 (lv_at hl 5 rfl) ?_
            refine z_iconst C dX11_areasOf_92 ?_
            refine z_zast C Hh dX11_areasOf_93 hm (fun h H locs Hh hm => ?_)
            refine z_iconst C dX11_areasOf_94 ?_
            refine lv_istore (lv' := [(6, qI 0), (5, qI 1), (3, qI (l3 + 1)), (0, qR g l0), (1, qI l1), (2, qI l2), (4, qI l4)]) hx hb dX11_areasOf_95 hl (by decide) rfl (fun ls hl => ?_)
            exact KL97 FU h (l3 + 1) l4 1 0 _ _ _ Hh (lv_sub hl [3, 4, 5, 2, 6, 1, 0] rfl) hm
          · refine lv_goto (tgt := 214) hx hb dX11_areasOf_69 (by decide) ?_
            exact K214 h l3 l4 _ _ _ Hh (lv_sub hl [0, 1, 2, 3, 4] rfl) hm
  have K31 : ∀ (h : Hp) (l0 l1 l2 l3 : Int) (H : Heap) (locs : List Loc) (ls : Array Slot), zH g s h H locs → lv_has ls 9 [(0, qR g l0), (1, qI l1), (2, qI l2), (3, qI l3)] → M_X11_areasOf_p31 h l0 l1 l2 l3 = some r → W p l e { frames := 2, cells := 0, slots := 0, locals := 46 } s m args below meth c H locs 0 0 (zQ below g r.1 (some (qI r.2)) args s 0 0) (F0 m 31 ls []) := by
    intro h l0 l1 l2 l3  H locs ls Hh hl hm
    unfold M_X11_areasOf_p31 at hm
    refine z_iconst C dX11_areasOf_31 ?_
    refine lv_istore (lv' := [(4, qI 0), (0, qR g l0), (1, qI l1), (2, qI l2), (3, qI l3)]) hx hb dX11_areasOf_32 hl (by decide) rfl (fun ls hl => ?_)
    exact KL34 FU h l0 l1 l2 l3 0 _ _ _ Hh (lv_sub hl [1, 2, 3, 4, 0] rfl) hm
  have KL10 : ∀ (n : Nat) (h : Hp) (l0 l1 l2 l3 l4 : Int) (H : Heap) (locs : List Loc) (ls : Array Slot), zH g s h H locs → lv_has ls 9 [(0, qR g l0), (1, qI l1), (2, qI l2), (3, qI l3), (4, qI l4)] → M_X11_areasOf_w10 n h l0 l1 l2 l3 l4 = some r → W p l e { frames := 2, cells := 0, slots := 0, locals := 46 } s m args below meth c H locs 0 0 (zQ below g r.1 (some (qI r.2)) args s 0 0) (F0 m 10 ls []) := by
    intro n
    induction n with
    | zero => intro h l0 l1 l2 l3 l4 H locs ls Hh hl hm; cases hm
    | succ n ih10 =>
      intro h l0 l1 l2 l3 l4 H locs ls Hh hl hm
      obtain ⟨z10, hm, hc10⟩ := wh_inv hm
      have hm : M_X11_areasOf_b10 h l0 l1 l2 l3 l4 = some z10 := hm
      unfold M_X11_areasOf_b10 at hm
      refine lv_iload hx hb dX11_areasOf_10 (lv_at hl 4 rfl) ?_
      refine z_bipush C dX11_areasOf_12 rfl ?_
      refine z_icmp_ge (tgt := 31) C dX11_areasOf_14 (by decide) rfl lq_p36 hm (fun _ hm => ?_) (fun _ hm => ?_)
      · cases hm
        exact K31 h l0 l1 l2 l3 _ _ _ Hh (lv_sub hl [0, 1, 2, 3] rfl) hc10
      · refine lv_aload_n hx hb dX11_areasOf_17 rfl (lv_at hl 0 rfl) ?_
        refine z_getR C fl_11_40 Hh dX11_areasOf_18 rfl hm (fun x20 hm => ?_)
        refine lv_iload hx hb dX11_areasOf_21 (lv_at hl 4 rfl) ?_
        refine z_iconst C dX11_areasOf_23 ?_
        refine z_zast C Hh dX11_areasOf_24 hm (fun h H locs Hh hm => ?_)
        refine z_iinc (x := l4) (k := 4) (lv' := [(4, qI (l4 + 1)), (0, qR g l0), (1, qI l1), (2, qI l2), (3, qI l3)]) C dX11_areasOf_25 hl rfl (by decide) rfl (fun ls hl => ?_)
        refine lv_goto (tgt := 10) hx hb dX11_areasOf_28 (by decide) ?_
        cases hm
        exact ih10 h l0 l1 l2 l3 (l4 + 1) _ _ _ Hh (lv_sub hl [1, 2, 3, 4, 0] rfl) hc10
  refine z_iconst C dX11_areasOf_0 ?_
  refine lv_istore_n (lv' := [(3, qI 0), (0, qR g l0), (1, qI l1), (2, qI l2)]) hx hb dX11_areasOf_1 rfl hl (by decide) rfl (fun ls hl => ?_)
  refine lv_aload_n hx hb dX11_areasOf_2 rfl (lv_at hl 1 rfl) ?_
  refine z_iconst C dX11_areasOf_3 ?_
  refine z_putI C hnm pl_11_412 Hh dX11_areasOf_4 rfl hm (fun h H locs Hh hm => ?_)
  refine z_iconst C dX11_areasOf_7 ?_
  refine lv_istore (lv' := [(4, qI 0), (3, qI 0), (0, qR g l0), (1, qI l1), (2, qI l2)]) hx hb dX11_areasOf_8 hl (by decide) rfl (fun ls hl => ?_)
  exact KL10 FU h l0 l1 l2 0 0 _ _ _ Hh (lv_sub hl [2, 3, 4, 1, 0] rfl) hm
theorem tg_X11_areas {h : Hp} {l0 l1 l2 l3 : Int} {r : Hp × Int} (hm : M_X11_areas h l0 l1 l2 l3 = some r) : hT h l0 = 21 := (tk_inv hm).1
set_option maxRecDepth 100000 in
set_option maxHeartbeats 4000000 in
theorem ct_X11_areas (l : Launch) (g : zGeo) (h0 : Hp) (l0 l1 l2 l3 : Int) (r : Hp × Int) (hm : M_X11_areas h0 l0 l1 l2 l3 = some r) : zM l yX11_areas cX11_areas 5 (some .int) 7 167 0 0 g h0 [qR g l0, qI l1, qI l2, qI l3] r.1 (some (qI r.2)) := by
  refine z_meth (by decide) (Nat.le_of_ble_eq_true rfl) ?_
  intro p e s m args below meth c H ls C hr hlocks hnm Hh hl
  have C : zC p m c cX11_areas 5 s args RX11 g := C
  have hnm : meth.name = "areas" := hnm
  have hx := C.1.1
  have hb := C.1.2.1
  have hl : lv_has ls 5 [(0, qR g l0), (1, qI l1), (2, qI l2), (3, qI l3)] := hl
  unfold M_X11_areas at hm
  replace hm := (tk_inv hm).2
  generalize h0 = h at Hh hm
  have K27 : ∀ (h : Hp) (l0 l1 l2 l3 : Int) (s0 s1 : Int) (H : Heap) (locs : List Loc) (ls : Array Slot), zH g s h H locs → lv_has ls 5 [(0, qR g l0), (1, qI l1), (2, qI l2), (3, qI l3)] → M_X11_areas_p27 h l0 l1 l2 l3 s0 s1 = some r → W p l e { frames := 7, cells := 0, slots := 0, locals := 167 } s m args below meth c H locs 0 0 (zQ below g r.1 (some (qI r.2)) args s 0 0) (F0 m 27 ls [qI s1, qR g s0]) := by
    intro h l0 l1 l2 l3 s0 s1 H locs ls Hh hl hm
    unfold M_X11_areas_p27 at hm
    refine lv_iload_n hx hb dX11_areas_27 rfl (lv_at hl 3 rfl) ?_
    refine z_cVI (vs := [qI s1, qI l3]) C (fun q hq => ct_X11_asks l g h s0 s1 l3 q hq) tw_1714 my_X11_asks (fun q hq => tg_X11_asks hq) rfl hl.1 Hh ⟨Nat.le_of_ble_eq_true rfl, Nat.le_of_ble_eq_true rfl, Nat.le_of_ble_eq_true rfl, Nat.le_of_ble_eq_true rfl⟩ (Nat.le_of_ble_eq_true rfl) dX11_areas_28 rfl hm (fun h x1 H locs Hh hm => ?_)
    refine lv_istore (lv' := [(4, qI x1), (0, qR g l0), (1, qI l1), (2, qI l2), (3, qI l3)]) hx hb dX11_areas_31 hl (by decide) rfl (fun ls hl => ?_)
    refine lv_iload hx hb dX11_areas_33 (lv_at hl 0 rfl) ?_
    refine z_if_le (tgt := 47) C dX11_areas_35 (by decide) rfl hm (fun _ hm => ?_) (fun _ hm => ?_)
    · refine lv_aload_n hx hb dX11_areas_47 rfl (lv_at hl 1 rfl) ?_
      refine lv_aload_n hx hb dX11_areas_48 rfl (lv_at hl 1 rfl) ?_
      refine z_sipush C dX11_areas_49 rfl ?_
      refine lv_iload_n hx hb dX11_areas_52 rfl (lv_at hl 4 rfl) ?_
      refine z_imul C dX11_areas_53 ?_
      refine z_bipush C dX11_areas_54 rfl ?_
      refine lv_iload_n hx hb dX11_areas_56 rfl (lv_at hl 2 rfl) ?_
      refine z_imul C dX11_areas_57 ?_
      refine z_iadd C dX11_areas_58 ?_
      refine lv_iload_n hx hb dX11_areas_59 rfl (lv_at hl 3 rfl) ?_
      refine z_cVI (vs := [qI ((216 * l3) + (36 * l1)), qI l2]) C (fun q hq => ct_X11_areasOf l g h l0 ((216 * l3) + (36 * l1)) l2 q hq) tw_1793 my_X11_areasOf (fun q hq => tg_X11_areasOf hq) rfl hl.1 Hh ⟨Nat.le_of_ble_eq_true rfl, Nat.le_of_ble_eq_true rfl, Nat.le_of_ble_eq_true rfl, Nat.le_of_ble_eq_true rfl⟩ (Nat.le_of_ble_eq_true rfl) dX11_areas_60 rfl hm (fun h x2 H locs Hh hm => ?_)
      refine z_cVI (vs := [qI x2]) C (fun q hq => ct_X11_good l g h l0 x2 q hq) tw_1670 my_X11_good (fun q hq => tg_X11_good hq) rfl hl.1 Hh ⟨Nat.le_of_ble_eq_true rfl, Nat.le_of_ble_eq_true rfl, Nat.le_of_ble_eq_true rfl, Nat.le_of_ble_eq_true rfl⟩ (Nat.le_of_ble_eq_true rfl) dX11_areas_63 rfl hm (fun h x3 H locs Hh hm => ?_)
      exact z_iret C hr hlocks Hh dX11_areas_66 hm
    · refine lv_aload_n hx hb dX11_areas_38 rfl (lv_at hl 1 rfl) ?_
      refine lv_iload hx hb dX11_areas_39 (lv_at hl 0 rfl) ?_
      refine z_cVI (vs := [qI x1]) C (fun q hq => ct_X11_refused l g h l0 x1 q hq) tw_1451 my_X11_refused (fun q hq => tg_X11_refused hq) rfl hl.1 Hh ⟨Nat.le_of_ble_eq_true rfl, Nat.le_of_ble_eq_true rfl, Nat.le_of_ble_eq_true rfl, Nat.le_of_ble_eq_true rfl⟩ (Nat.le_of_ble_eq_true rfl) dX11_areas_41 rfl hm (fun h x4 H locs Hh hm => ?_)
      refine lv_goto (tgt := 66) hx hb dX11_areas_44 (by decide) ?_
      exact z_iret C hr hlocks Hh dX11_areas_66 hm
  have K26 : ∀ (h : Hp) (l0 l1 l2 l3 : Int) (s0 : Int) (H : Heap) (locs : List Loc) (ls : Array Slot), zH g s h H locs → lv_has ls 5 [(0, qR g l0), (1, qI l1), (2, qI l2), (3, qI l3)] → M_X11_areas_p26 h l0 l1 l2 l3 s0 = some r → W p l e { frames := 7, cells := 0, slots := 0, locals := 167 } s m args below meth c H locs 0 0 (zQ below g r.1 (some (qI r.2)) args s 0 0) (F0 m 26 ls [qR g s0]) := by
    intro h l0 l1 l2 l3 s0 H locs ls Hh hl hm
    unfold M_X11_areas_p26 at hm
    refine z_iconst C dX11_areas_26 ?_
    exact K27 h l0 l1 l2 l3 s0 0 _ _ _ Hh (lv_sub hl [0, 1, 2, 3] rfl) hm
  refine lv_aload_n hx hb dX11_areas_0 rfl (lv_at hl 0 rfl) ?_
  refine z_iconst C dX11_areas_1 ?_
  refine z_putI C hnm pl_11_78 Hh dX11_areas_2 rfl hm (fun h H locs Hh hm => ?_)
  refine lv_aload_n hx hb dX11_areas_5 rfl (lv_at hl 0 rfl) ?_
  refine lv_aload_n hx hb dX11_areas_6 rfl (lv_at hl 0 rfl) ?_
  refine lv_iload_n hx hb dX11_areas_7 rfl (lv_at hl 1 rfl) ?_
  refine z_cVIr (vs := [qI l1]) C (fun q hq => ct_X11_isTown l g h l0 l1 q hq) tw_1686 my_X11_isTown (fun q hq => tg_X11_isTown hq) rfl hl.1 Hh ⟨Nat.le_of_ble_eq_true rfl, Nat.le_of_ble_eq_true rfl, Nat.le_of_ble_eq_true rfl, Nat.le_of_ble_eq_true rfl⟩ (Nat.le_of_ble_eq_true rfl) dX11_areas_8 rfl hm (fun x5 H locs Hh hm => ?_)
  refine z_if_eq (tgt := 26) C dX11_areas_11 (by decide) rfl hm (fun _ hm => ?_) (fun _ hm => ?_)
  · exact K26 h l0 l1 l2 l3 l0 _ _ _ Hh (lv_sub hl [0, 1, 2, 3] rfl) hm
  · refine lv_aload_n hx hb dX11_areas_14 rfl (lv_at hl 0 rfl) ?_
    refine lv_iload_n hx hb dX11_areas_15 rfl (lv_at hl 2 rfl) ?_
    refine z_cVIr (vs := [qI l2]) C (fun q hq => ct_X11_isMark l g h l0 l2 q hq) tw_1773 my_X11_isMark (fun q hq => tg_X11_isMark hq) rfl hl.1 Hh ⟨Nat.le_of_ble_eq_true rfl, Nat.le_of_ble_eq_true rfl, Nat.le_of_ble_eq_true rfl, Nat.le_of_ble_eq_true rfl⟩ (Nat.le_of_ble_eq_true rfl) dX11_areas_16 rfl hm (fun x6 H locs Hh hm => ?_)
    refine z_if_eq (tgt := 26) C dX11_areas_19 (by decide) rfl hm (fun _ hm => ?_) (fun _ hm => ?_)
    · exact K26 h l0 l1 l2 l3 l0 _ _ _ Hh (lv_sub hl [0, 1, 2, 3] rfl) hm
    · refine z_iconst C dX11_areas_22 ?_
      refine lv_goto (tgt := 27) hx hb dX11_areas_23 (by decide) ?_
      exact K27 h l0 l1 l2 l3 l0 1 _ _ _ Hh (lv_sub hl [0, 1, 2, 3] rfl) hm
theorem tg_X11_largest {h : Hp} {l0 l1 l2 l3 : Int} {r : Hp × Int} (hm : M_X11_largest h l0 l1 l2 l3 = some r) : hT h l0 = 21 := (tk_inv hm).1
set_option maxRecDepth 100000 in
set_option maxHeartbeats 4000000 in
theorem ct_X11_largest (l : Launch) (g : zGeo) (h0 : Hp) (l0 l1 l2 l3 : Int) (r : Hp × Int) (hm : M_X11_largest h0 l0 l1 l2 l3 = some r) : zM l yX11_largest cX11_largest 5 (some .int) 7 167 0 0 g h0 [qR g l0, qI l1, qI l2, qI l3] r.1 (some (qI r.2)) := by
  refine z_meth (by decide) (Nat.le_of_ble_eq_true rfl) ?_
  intro p e s m args below meth c H ls C hr hlocks hnm Hh hl
  have C : zC p m c cX11_largest 5 s args RX11 g := C
  have hnm : meth.name = "largest" := hnm
  have hx := C.1.1
  have hb := C.1.2.1
  have hl : lv_has ls 5 [(0, qR g l0), (1, qI l1), (2, qI l2), (3, qI l3)] := hl
  unfold M_X11_largest at hm
  replace hm := (tk_inv hm).2
  generalize h0 = h at Hh hm
  have K27 : ∀ (h : Hp) (l0 l1 l2 l3 : Int) (s0 s1 : Int) (H : Heap) (locs : List Loc) (ls : Array Slot), zH g s h H locs → lv_has ls 5 [(0, qR g l0), (1, qI l1), (2, qI l2), (3, qI l3)] → M_X11_largest_p27 h l0 l1 l2 l3 s0 s1 = some r → W p l e { frames := 7, cells := 0, slots := 0, locals := 167 } s m args below meth c H locs 0 0 (zQ below g r.1 (some (qI r.2)) args s 0 0) (F0 m 27 ls [qI s1, qR g s0]) := by
    intro h l0 l1 l2 l3 s0 s1 H locs ls Hh hl hm
    unfold M_X11_largest_p27 at hm
    refine lv_iload_n hx hb dX11_largest_27 rfl (lv_at hl 3 rfl) ?_
    refine z_cVI (vs := [qI s1, qI l3]) C (fun q hq => ct_X11_asks l g h s0 s1 l3 q hq) tw_1714 my_X11_asks (fun q hq => tg_X11_asks hq) rfl hl.1 Hh ⟨Nat.le_of_ble_eq_true rfl, Nat.le_of_ble_eq_true rfl, Nat.le_of_ble_eq_true rfl, Nat.le_of_ble_eq_true rfl⟩ (Nat.le_of_ble_eq_true rfl) dX11_largest_28 rfl hm (fun h x1 H locs Hh hm => ?_)
    refine lv_istore (lv' := [(4, qI x1), (0, qR g l0), (1, qI l1), (2, qI l2), (3, qI l3)]) hx hb dX11_largest_31 hl (by decide) rfl (fun ls hl => ?_)
    refine lv_iload hx hb dX11_largest_33 (lv_at hl 0 rfl) ?_
    refine z_if_le (tgt := 45) C dX11_largest_35 (by decide) rfl hm (fun _ hm => ?_) (fun _ hm => ?_)
    · refine lv_aload_n hx hb dX11_largest_45 rfl (lv_at hl 1 rfl) ?_
      refine z_sipush C dX11_largest_46 rfl ?_
      refine lv_iload_n hx hb dX11_largest_49 rfl (lv_at hl 4 rfl) ?_
      refine z_imul C dX11_largest_50 ?_
      refine z_bipush C dX11_largest_51 rfl ?_
      refine lv_iload_n hx hb dX11_largest_53 rfl (lv_at hl 2 rfl) ?_
      refine z_imul C dX11_largest_54 ?_
      refine z_iadd C dX11_largest_55 ?_
      refine lv_iload_n hx hb dX11_largest_56 rfl (lv_at hl 3 rfl) ?_
      refine z_cVI (vs := [qI ((216 * l3) + (36 * l1)), qI l2]) C (fun q hq => ct_X11_areasOf l g h l0 ((216 * l3) + (36 * l1)) l2 q hq) tw_1793 my_X11_areasOf (fun q hq => tg_X11_areasOf hq) rfl hl.1 Hh ⟨Nat.le_of_ble_eq_true rfl, Nat.le_of_ble_eq_true rfl, Nat.le_of_ble_eq_true rfl, Nat.le_of_ble_eq_true rfl⟩ (Nat.le_of_ble_eq_true rfl) dX11_largest_57 rfl hm (fun h x2 H locs Hh hm => ?_)
      refine lv_pop hx hb dX11_largest_60 rfl ?_
      refine lv_aload_n hx hb dX11_largest_61 rfl (lv_at hl 1 rfl) ?_
      refine lv_aload_n hx hb dX11_largest_62 rfl (lv_at hl 1 rfl) ?_
      refine z_getI C fl_11_412 Hh dX11_largest_63 rfl hm (fun x3 hm => ?_)
      refine z_cVI (vs := [qI x3]) C (fun q hq => ct_X11_good l g h l0 x3 q hq) tw_1670 my_X11_good (fun q hq => tg_X11_good hq) rfl hl.1 Hh ⟨Nat.le_of_ble_eq_true rfl, Nat.le_of_ble_eq_true rfl, Nat.le_of_ble_eq_true rfl, Nat.le_of_ble_eq_true rfl⟩ (Nat.le_of_ble_eq_true rfl) dX11_largest_66 rfl hm (fun h x4 H locs Hh hm => ?_)
      exact z_iret C hr hlocks Hh dX11_largest_69 hm
    · refine lv_aload_n hx hb dX11_largest_38 rfl (lv_at hl 1 rfl) ?_
      refine lv_iload hx hb dX11_largest_39 (lv_at hl 0 rfl) ?_
      refine z_cVI (vs := [qI x1]) C (fun q hq => ct_X11_refused l g h l0 x1 q hq) tw_1451 my_X11_refused (fun q hq => tg_X11_refused hq) rfl hl.1 Hh ⟨Nat.le_of_ble_eq_true rfl, Nat.le_of_ble_eq_true rfl, Nat.le_of_ble_eq_true rfl, Nat.le_of_ble_eq_true rfl⟩ (Nat.le_of_ble_eq_true rfl) dX11_largest_41 rfl hm (fun h x5 H locs Hh hm => ?_)
      exact z_iret C hr hlocks Hh dX11_largest_44 hm
  have K26 : ∀ (h : Hp) (l0 l1 l2 l3 : Int) (s0 : Int) (H : Heap) (locs : List Loc) (ls : Array Slot), zH g s h H locs → lv_has ls 5 [(0, qR g l0), (1, qI l1), (2, qI l2), (3, qI l3)] → M_X11_largest_p26 h l0 l1 l2 l3 s0 = some r → W p l e { frames := 7, cells := 0, slots := 0, locals := 167 } s m args below meth c H locs 0 0 (zQ below g r.1 (some (qI r.2)) args s 0 0) (F0 m 26 ls [qR g s0]) := by
    intro h l0 l1 l2 l3 s0 H locs ls Hh hl hm
    unfold M_X11_largest_p26 at hm
    refine z_iconst C dX11_largest_26 ?_
    exact K27 h l0 l1 l2 l3 s0 0 _ _ _ Hh (lv_sub hl [0, 1, 2, 3] rfl) hm
  refine lv_aload_n hx hb dX11_largest_0 rfl (lv_at hl 0 rfl) ?_
  refine z_iconst C dX11_largest_1 ?_
  refine z_putI C hnm pl_11_78 Hh dX11_largest_2 rfl hm (fun h H locs Hh hm => ?_)
  refine lv_aload_n hx hb dX11_largest_5 rfl (lv_at hl 0 rfl) ?_
  refine lv_aload_n hx hb dX11_largest_6 rfl (lv_at hl 0 rfl) ?_
  refine lv_iload_n hx hb dX11_largest_7 rfl (lv_at hl 1 rfl) ?_
  refine z_cVIr (vs := [qI l1]) C (fun q hq => ct_X11_isTown l g h l0 l1 q hq) tw_1686 my_X11_isTown (fun q hq => tg_X11_isTown hq) rfl hl.1 Hh ⟨Nat.le_of_ble_eq_true rfl, Nat.le_of_ble_eq_true rfl, Nat.le_of_ble_eq_true rfl, Nat.le_of_ble_eq_true rfl⟩ (Nat.le_of_ble_eq_true rfl) dX11_largest_8 rfl hm (fun x6 H locs Hh hm => ?_)
  refine z_if_eq (tgt := 26) C dX11_largest_11 (by decide) rfl hm (fun _ hm => ?_) (fun _ hm => ?_)
  · exact K26 h l0 l1 l2 l3 l0 _ _ _ Hh (lv_sub hl [0, 1, 2, 3] rfl) hm
  · refine lv_aload_n hx hb dX11_largest_14 rfl (lv_at hl 0 rfl) ?_
    refine lv_iload_n hx hb dX11_largest_15 rfl (lv_at hl 2 rfl) ?_
    refine z_cVIr (vs := [qI l2]) C (fun q hq => ct_X11_isMark l g h l0 l2 q hq) tw_1773 my_X11_isMark (fun q hq => tg_X11_isMark hq) rfl hl.1 Hh ⟨Nat.le_of_ble_eq_true rfl, Nat.le_of_ble_eq_true rfl, Nat.le_of_ble_eq_true rfl, Nat.le_of_ble_eq_true rfl⟩ (Nat.le_of_ble_eq_true rfl) dX11_largest_16 rfl hm (fun x7 H locs Hh hm => ?_)
    refine z_if_eq (tgt := 26) C dX11_largest_19 (by decide) rfl hm (fun _ hm => ?_) (fun _ hm => ?_)
    · exact K26 h l0 l1 l2 l3 l0 _ _ _ Hh (lv_sub hl [0, 1, 2, 3] rfl) hm
    · refine z_iconst C dX11_largest_22 ?_
      refine lv_goto (tgt := 27) hx hb dX11_largest_23 (by decide) ?_
      exact K27 h l0 l1 l2 l3 l0 1 _ _ _ Hh (lv_sub hl [0, 1, 2, 3] rfl) hm
theorem tg_X11_scale {h : Hp} {l0 l1 l2 l3 : Int} {r : Hp × Int} (hm : M_X11_scale h l0 l1 l2 l3 = some r) : hT h l0 = 21 := (tk_inv hm).1
set_option maxRecDepth 100000 in
set_option maxHeartbeats 4000000 in
theorem ct_X11_scale (l : Launch) (g : zGeo) (h0 : Hp) (l0 l1 l2 l3 : Int) (r : Hp × Int) (hm : M_X11_scale h0 l0 l1 l2 l3 = some r) : zM l yX11_scale cX11_scale 10 (some .long) 2 54 0 0 g h0 [qR g l0, qI l1, qI l2, qI l3] r.1 (some (qJ r.2)) := by
  refine z_meth (by decide) (Nat.le_of_ble_eq_true rfl) ?_
  intro p e s m args below meth c H ls C hr hlocks hnm Hh hl
  have C : zC p m c cX11_scale 10 s args RX11 g := C
  have hnm : meth.name = "scale" := hnm
  have hx := C.1.1
  have hb := C.1.2.1
  have hl : lv_has ls 10 [(0, qR g l0), (1, qI l1), (2, qI l2), (3, qI l3)] := hl
  unfold M_X11_scale at hm
  replace hm := (tk_inv hm).2
  generalize h0 = h at Hh hm
  have K137 : ∀ (h : Hp) (l0 l3 l4 l6 : Int) (H : Heap) (locs : List Loc) (ls : Array Slot), zH g s h H locs → lv_has ls 10 [(0, qR g l0), (3, qI l3), (4, qJ l4), (6, qJ l6)] → M_X11_scale_p137 h l0 l3 l4 l6 = some r → W p l e { frames := 2, cells := 0, slots := 0, locals := 54 } s m args below meth c H locs 0 0 (zQ below g r.1 (some (qJ r.2)) args s 0 0) (F0 m 137 ls []) := by
    intro h l0 l3 l4 l6  H locs ls Hh hl hm
    unfold M_X11_scale_p137 at hm
    refine lv_aload_n hx hb dX11_scale_137 rfl (lv_at hl 0 rfl) ?_
    refine lv_lload hx hb dX11_scale_138 (lv_at hl 2 rfl) ?_
    refine lv_lload hx hb dX11_scale_140 (lv_at hl 3 rfl) ?_
    refine lv_iload_n hx hb dX11_scale_142 rfl (lv_at hl 1 rfl) ?_
    refine z_cVJ (vs := [qJ l4, qJ l6, qI l3]) C (fun q hq => ct_X11_fraction l g h l0 l4 l6 l3 q hq) tw_1806 my_X11_fraction (fun q hq => tg_X11_fraction hq) rfl hl.1 Hh ⟨Nat.le_of_ble_eq_true rfl, Nat.le_of_ble_eq_true rfl, Nat.le_of_ble_eq_true rfl, Nat.le_of_ble_eq_true rfl⟩ (Nat.le_of_ble_eq_true rfl) dX11_scale_143 rfl hm (fun h x1 H locs Hh hm => ?_)
    exact z_lret C hr hlocks Hh dX11_scale_146 hm
  have KL49 : ∀ (n : Nat) (h : Hp) (l0 l2 l3 l4 l6 l8 l9 : Int) (H : Heap) (locs : List Loc) (ls : Array Slot), zH g s h H locs → lv_has ls 10 [(0, qR g l0), (2, qI l2), (3, qI l3), (4, qJ l4), (6, qJ l6), (8, qI l8), (9, qI l9)] → M_X11_scale_w49 n h l0 l2 l3 l4 l6 l8 l9 = some r → W p l e { frames := 2, cells := 0, slots := 0, locals := 54 } s m args below meth c H locs 0 0 (zQ below g r.1 (some (qJ r.2)) args s 0 0) (F0 m 49 ls []) := by
    intro n
    induction n with
    | zero => intro h l0 l2 l3 l4 l6 l8 l9 H locs ls Hh hl hm; cases hm
    | succ n ih49 =>
      intro h l0 l2 l3 l4 l6 l8 l9 H locs ls Hh hl hm
      obtain ⟨z49, hm, hc49⟩ := wh_inv hm
      have hm : M_X11_scale_b49 h l0 l2 l3 l4 l6 l8 l9 = some z49 := hm
      have K118 : ∀  (l4 l6 l8 l9 : Int) (H : Heap) (locs : List Loc) (ls : Array Slot), zH g s h H locs → lv_has ls 10 [(0, qR g l0), (2, qI l2), (3, qI l3), (4, qJ l4), (6, qJ l6), (8, qI l8), (9, qI l9)] → M_X11_scale_p118 h l0 l2 l3 l4 l6 l8 l9 = some z49 → W p l e { frames := 2, cells := 0, slots := 0, locals := 54 } s m args below meth c H locs 0 0 (zQ below g r.1 (some (qJ r.2)) args s 0 0) (F0 m 118 ls []) := by
        intro l4 l6 l8 l9  H locs ls Hh hl hm
        unfold M_X11_scale_p118 at hm
        refine lv_aload_n hx hb dX11_scale_118 rfl (lv_at hl 0 rfl) ?_
        refine z_getR C fl_11_17 Hh dX11_scale_119 rfl hm (fun x2 hm => ?_)
        refine z_sipush C dX11_scale_122 rfl ?_
        refine lv_iload hx hb dX11_scale_125 (lv_at hl 5 rfl) ?_
        refine z_iadd C dX11_scale_127 ?_
        refine z_iald C Hh dX11_scale_128 hm (fun x3 hm => ?_)
        refine lv_istore (lv' := [(8, qI x3), (0, qR g l0), (2, qI l2), (3, qI l3), (4, qJ l4), (6, qJ l6), (9, qI l9)]) hx hb dX11_scale_129 hl (by decide) rfl (fun ls hl => ?_)
        refine z_iinc (x := l9) (k := 6) (lv' := [(9, qI (l9 + 1)), (8, qI x3), (0, qR g l0), (2, qI l2), (3, qI l3), (4, qJ l4), (6, qJ l6)]) C dX11_scale_131 hl rfl (by decide) rfl (fun ls hl => ?_)
        refine lv_goto (tgt := 49) hx hb dX11_scale_134 (by decide) ?_
        cases hm
        exact ih49 h l0 l2 l3 l4 l6 x3 (l9 + 1) _ _ _ Hh (lv_sub hl [2, 3, 4, 5, 6, 1, 0] rfl) hc49
      unfold M_X11_scale_b49 at hm
      refine lv_iload hx hb dX11_scale_49 (lv_at hl 6 rfl) ?_
      refine lv_iload_n hx hb dX11_scale_51 rfl (lv_at hl 1 rfl) ?_
      refine z_icmp_ge (tgt := 137) C dX11_scale_52 (by decide) rfl rfl hm (fun _ hm => ?_) (fun _ hm => ?_)
      · cases hm
        exact K137 h l0 l3 l4 l6 _ _ _ Hh (lv_sub hl [0, 2, 3, 4] rfl) hc49
      · refine lv_aload_n hx hb dX11_scale_55 rfl (lv_at hl 0 rfl) ?_
        refine z_getR C fl_11_17 Hh dX11_scale_56 rfl hm (fun x4 hm => ?_)
        refine z_sipush C dX11_scale_59 rfl ?_
        refine lv_iload hx hb dX11_scale_62 (lv_at hl 5 rfl) ?_
        refine z_iadd C dX11_scale_64 ?_
        refine z_iald C Hh dX11_scale_65 hm (fun x5 hm => ?_)
        refine z_bipush C dX11_scale_66 rfl ?_
        refine z_icmp_eq (tgt := 137) C dX11_scale_68 (by decide) rfl lq_m2 hm (fun _ hm => ?_) (fun _ hm => ?_)
        · cases hm
          exact K137 h l0 l3 l4 l6 _ _ _ Hh (lv_sub hl [0, 2, 3, 4] rfl) hc49
        · refine lv_aload_n hx hb dX11_scale_71 rfl (lv_at hl 0 rfl) ?_
          refine z_getR C fl_11_17 Hh dX11_scale_72 rfl hm (fun x6 hm => ?_)
          refine z_sipush C dX11_scale_75 rfl ?_
          refine z_iconst C dX11_scale_78 ?_
          refine lv_iload hx hb dX11_scale_79 (lv_at hl 5 rfl) ?_
          refine z_imul C dX11_scale_81 ?_
          refine z_iadd C dX11_scale_82 ?_
          refine z_iald C Hh dX11_scale_83 hm (fun x7 hm => ?_)
          refine z_bipush C dX11_scale_84 rfl ?_
          refine z_icmp_ne (tgt := 118) C dX11_scale_86 (by decide) rfl lq_p8 hm (fun _ hm => ?_) (fun _ hm => ?_)
          · exact K118 l4 l6 l8 l9 _ _ _ Hh (lv_sub hl [0, 1, 2, 3, 4, 5, 6] rfl) hm
          · refine lv_lload hx hb dX11_scale_89 (lv_at hl 3 rfl) ?_
            refine lv_aload_n hx hb dX11_scale_91 rfl (lv_at hl 0 rfl) ?_
            refine z_getR C fl_11_17 Hh dX11_scale_92 rfl hm (fun x8 hm => ?_)
            refine z_sipush C dX11_scale_95 rfl ?_
            refine z_iconst C dX11_scale_98 ?_
            refine lv_iload hx hb dX11_scale_99 (lv_at hl 5 rfl) ?_
            refine z_imul C dX11_scale_101 ?_
            refine z_iadd C dX11_scale_102 ?_
            refine z_iconst C dX11_scale_103 ?_
            refine z_iadd C dX11_scale_104 ?_
            refine z_iald C Hh dX11_scale_105 hm (fun x9 hm => ?_)
            refine z_i2l C dX11_scale_106 ?_
            refine z_lmul C dX11_scale_107 ?_
            refine lv_lstore (lv' := [(4, qJ (l4 * (w32 x9))), (0, qR g l0), (2, qI l2), (3, qI l3), (6, qJ l6), (8, qI l8), (9, qI l9)]) hx hb dX11_scale_108 hl (by decide) rfl (fun ls hl => ?_)
            refine lv_lload hx hb dX11_scale_110 (lv_at hl 4 rfl) ?_
            refine z_ldc2 (v := 10) C dX11_scale_112 tw_1805 rfl ?_
            refine z_lmul C dX11_scale_115 ?_
            refine lv_lstore (lv' := [(6, qJ (l6 * 10)), (4, qJ (l4 * (w32 x9))), (0, qR g l0), (2, qI l2), (3, qI l3), (8, qI l8), (9, qI l9)]) hx hb dX11_scale_116 hl (by decide) rfl (fun ls hl => ?_)
            exact K118 (l4 * (w32 x9)) (l6 * 10) l8 l9 _ _ _ Hh (lv_sub hl [2, 3, 4, 1, 0, 5, 6] rfl) hm
  refine lv_aload_n hx hb dX11_scale_0 rfl (lv_at hl 0 rfl) ?_
  refine z_iconst C dX11_scale_1 ?_
  refine z_putI C hnm pl_11_78 Hh dX11_scale_2 rfl hm (fun h H locs Hh hm => ?_)
  refine lv_aload_n hx hb dX11_scale_5 rfl (lv_at hl 0 rfl) ?_
  refine lv_iload_n hx hb dX11_scale_6 rfl (lv_at hl 1 rfl) ?_
  refine z_cVIr (vs := [qI l1]) C (fun q hq => ct_X11_isTown l g h l0 l1 q hq) tw_1686 my_X11_isTown (fun q hq => tg_X11_isTown hq) rfl hl.1 Hh ⟨Nat.le_of_ble_eq_true rfl, Nat.le_of_ble_eq_true rfl, Nat.le_of_ble_eq_true rfl, Nat.le_of_ble_eq_true rfl⟩ (Nat.le_of_ble_eq_true rfl) dX11_scale_7 rfl hm (fun x10 H locs Hh hm => ?_)
  refine z_if_ne (tgt := 20) C dX11_scale_10 (by decide) rfl hm (fun _ hm => ?_) (fun _ hm => ?_)
  · refine lv_iload_n hx hb dX11_scale_20 rfl (lv_at hl 2 rfl) ?_
    refine z_iconst C dX11_scale_21 ?_
    refine z_bipush C dX11_scale_22 rfl ?_
    refine z_cSIr (vs := [qI l2, qI 0, qI 12]) C (fun q hq => ct_X11_in l g h l2 0 12 q hq) tw_1576 my_X11_in rfl hl.1 Hh ⟨Nat.le_of_ble_eq_true rfl, Nat.le_of_ble_eq_true rfl, Nat.le_of_ble_eq_true rfl, Nat.le_of_ble_eq_true rfl⟩ (Nat.le_of_ble_eq_true rfl) dX11_scale_24 rfl hm (fun x11 H locs Hh hm => ?_)
    refine z_if_ne (tgt := 37) C dX11_scale_27 (by decide) rfl hm (fun _ hm => ?_) (fun _ hm => ?_)
    · refine z_lconst (v := 1) C dX11_scale_37 rfl ?_
      refine lv_lstore (lv' := [(4, qJ 1), (0, qR g l0), (1, qI l1), (2, qI l2), (3, qI l3)]) hx hb dX11_scale_38 hl (by decide) rfl (fun ls hl => ?_)
      refine z_lconst (v := 1) C dX11_scale_40 rfl ?_
      refine lv_lstore (lv' := [(6, qJ 1), (4, qJ 1), (0, qR g l0), (1, qI l1), (2, qI l2), (3, qI l3)]) hx hb dX11_scale_41 hl (by decide) rfl (fun ls hl => ?_)
      refine lv_iload_n hx hb dX11_scale_43 rfl (lv_at hl 3 rfl) ?_
      refine lv_istore (lv' := [(8, qI l1), (6, qJ 1), (4, qJ 1), (0, qR g l0), (1, qI l1), (2, qI l2), (3, qI l3)]) hx hb dX11_scale_44 hl (by decide) rfl (fun ls hl => ?_)
      refine z_iconst C dX11_scale_46 ?_
      refine lv_istore (lv' := [(9, qI 0), (8, qI l1), (6, qJ 1), (4, qJ 1), (0, qR g l0), (1, qI l1), (2, qI l2), (3, qI l3)]) hx hb dX11_scale_47 hl (by decide) rfl (fun ls hl => ?_)
      exact KL49 FU h l0 l2 l3 1 1 l1 0 _ _ _ Hh (lv_sub hl [4, 6, 7, 3, 2, 1, 0] rfl) hm
    · refine lv_aload_n hx hb dX11_scale_30 rfl (lv_at hl 0 rfl) ?_
      refine z_iconst C dX11_scale_31 ?_
      refine z_cVI (vs := [qI 2]) C (fun q hq => ct_X11_refused l g h l0 2 q hq) tw_1451 my_X11_refused (fun q hq => tg_X11_refused hq) rfl hl.1 Hh ⟨Nat.le_of_ble_eq_true rfl, Nat.le_of_ble_eq_true rfl, Nat.le_of_ble_eq_true rfl, Nat.le_of_ble_eq_true rfl⟩ (Nat.le_of_ble_eq_true rfl) dX11_scale_32 rfl hm (fun h x12 H locs Hh hm => ?_)
      refine z_i2l C dX11_scale_35 ?_
      exact z_lret C hr hlocks Hh dX11_scale_36 hm
  · refine lv_aload_n hx hb dX11_scale_13 rfl (lv_at hl 0 rfl) ?_
    refine z_iconst C dX11_scale_14 ?_
    refine z_cVI (vs := [qI 1]) C (fun q hq => ct_X11_refused l g h l0 1 q hq) tw_1451 my_X11_refused (fun q hq => tg_X11_refused hq) rfl hl.1 Hh ⟨Nat.le_of_ble_eq_true rfl, Nat.le_of_ble_eq_true rfl, Nat.le_of_ble_eq_true rfl, Nat.le_of_ble_eq_true rfl⟩ (Nat.le_of_ble_eq_true rfl) dX11_scale_15 rfl hm (fun h x13 H locs Hh hm => ?_)
    refine z_i2l C dX11_scale_18 ?_
    exact z_lret C hr hlocks Hh dX11_scale_19 hm
theorem tg_X11_isSame {h : Hp} {l0 l1 l2 : Int} {r : Int} (hm : M_X11_isSame h l0 l1 l2 = some r) : hT h l0 = 21 := (tk_inv hm).1
set_option maxRecDepth 100000 in
set_option maxHeartbeats 4000000 in
theorem ct_X11_isSame (l : Launch) (g : zGeo) (h : Hp) (l0 l1 l2 : Int) (r : Int) (hm : M_X11_isSame h l0 l1 l2 = some r) : zM l yX11_isSame cX11_isSame 5 (some .boolean) 1 23 0 0 g h [qR g l0, qI l1, qI l2] h (some (qI r)) := by
  refine z_meth (by decide) (Nat.le_of_ble_eq_true rfl) ?_
  intro p e s m args below meth c H ls C hr hlocks hnm Hh hl
  have C : zC p m c cX11_isSame 5 s args RX11 g := C
  have hnm : meth.name = "isSame" := hnm
  have hx := C.1.1
  have hb := C.1.2.1
  have hl : lv_has ls 5 [(0, qR g l0), (1, qI l1), (2, qI l2)] := hl
  unfold M_X11_isSame at hm
  replace hm := (tk_inv hm).2
  have K61 : ∀  (H : Heap) (locs : List Loc) (ls : Array Slot), zH g s h H locs → lv_has ls 5 [] → M_X11_isSame_p61 h = some r → W p l e { frames := 1, cells := 0, slots := 0, locals := 23 } s m args below meth c H locs 0 0 (zQ below g h (some (qI r)) args s 0 0) (F0 m 61 ls []) := by
    intro   H locs ls Hh hl hm
    unfold M_X11_isSame_p61 at hm
    refine z_iconst C dX11_isSame_61 ?_
    exact z_zretRC C hr hlocks Hh dX11_isSame_62 (by decide) hm
  have KL2 : ∀ (n : Nat)  (l0 l1 l2 l3 : Int) (H : Heap) (locs : List Loc) (ls : Array Slot), zH g s h H locs → lv_has ls 5 [(0, qR g l0), (1, qI l1), (2, qI l2), (3, qI l3)] → M_X11_isSame_w2 n h l0 l1 l2 l3 = some r → W p l e { frames := 1, cells := 0, slots := 0, locals := 23 } s m args below meth c H locs 0 0 (zQ below g h (some (qI r)) args s 0 0) (F0 m 2 ls []) := by
    intro n
    induction n with
    | zero => intro l0 l1 l2 l3 H locs ls Hh hl hm; cases hm
    | succ n ih2 =>
      intro l0 l1 l2 l3 H locs ls Hh hl hm
      obtain ⟨z2, hm, hc2⟩ := wh_inv hm
      have hm : M_X11_isSame_b2 h l0 l1 l2 l3 = some z2 := hm
      have K55 : ∀  (l3 : Int) (H : Heap) (locs : List Loc) (ls : Array Slot), zH g s h H locs → lv_has ls 5 [(0, qR g l0), (1, qI l1), (2, qI l2), (3, qI l3)] → M_X11_isSame_p55 h l0 l1 l2 l3 = some z2 → W p l e { frames := 1, cells := 0, slots := 0, locals := 23 } s m args below meth c H locs 0 0 (zQ below g h (some (qI r)) args s 0 0) (F0 m 55 ls []) := by
        intro l3  H locs ls Hh hl hm
        unfold M_X11_isSame_p55 at hm
        refine z_iinc (x := l3) (k := 3) (lv' := [(3, qI (l3 + 1)), (0, qR g l0), (1, qI l1), (2, qI l2)]) C dX11_isSame_55 hl rfl (by decide) rfl (fun ls hl => ?_)
        refine lv_goto (tgt := 2) hx hb dX11_isSame_58 (by decide) ?_
        cases hm
        exact ih2 l0 l1 l2 (l3 + 1) _ _ _ Hh (lv_sub hl [1, 2, 3, 0] rfl) hc2
      have KL16 : ∀ (n : Nat)  (l3 l4 : Int) (H : Heap) (locs : List Loc) (ls : Array Slot), zH g s h H locs → lv_has ls 5 [(0, qR g l0), (1, qI l1), (2, qI l2), (3, qI l3), (4, qI l4)] → M_X11_isSame_w16 n h l0 l1 l2 l3 l4 = some z2 → W p l e { frames := 1, cells := 0, slots := 0, locals := 23 } s m args below meth c H locs 0 0 (zQ below g h (some (qI r)) args s 0 0) (F0 m 16 ls []) := by
        intro n
        induction n with
        | zero => intro l3 l4 H locs ls Hh hl hm; cases hm
        | succ n ih16 =>
          intro l3 l4 H locs ls Hh hl hm
          obtain ⟨z16, hm, hc16⟩ := wh_inv hm
          have hm : M_X11_isSame_b16 h l0 l1 l2 l3 l4 = some z16 := hm
          unfold M_X11_isSame_b16 at hm
          refine lv_iload hx hb dX11_isSame_16 (lv_at hl 4 rfl) ?_
          refine lv_aload_n hx hb dX11_isSame_18 rfl (lv_at hl 0 rfl) ?_
          refine z_getR C fl_11_341 Hh dX11_isSame_19 rfl hm (fun x1 hm => ?_)
          refine z_cVIr (vs := []) C (fun q hq => ct_X10_all l g h x1 q hq) tw_1730 my_X10_all (fun q hq => tg_X10_all hq) rfl hl.1 Hh ⟨Nat.le_of_ble_eq_true rfl, Nat.le_of_ble_eq_true rfl, Nat.le_of_ble_eq_true rfl, Nat.le_of_ble_eq_true rfl⟩ (Nat.le_of_ble_eq_true rfl) dX11_isSame_22 rfl hm (fun x2 H locs Hh hm => ?_)
          refine z_icmp_ge (tgt := 55) C dX11_isSame_25 (by decide) rfl rfl hm (fun _ hm => ?_) (fun _ hm => ?_)
          · cases hm
            exact K55 l3 _ _ _ Hh (lv_sub hl [0, 1, 2, 3] rfl) hc16
          · refine lv_aload_n hx hb dX11_isSame_28 rfl (lv_at hl 0 rfl) ?_
            refine lv_iload_n hx hb dX11_isSame_29 rfl (lv_at hl 1 rfl) ?_
            refine lv_iload_n hx hb dX11_isSame_30 rfl (lv_at hl 3 rfl) ?_
            refine lv_iload hx hb dX11_isSame_31 (lv_at hl 4 rfl) ?_
            refine z_cVIr (vs := [qI l1, qI l3, qI l4]) C (fun q hq => ct_X11_behind l g h l0 l1 l3 l4 q hq) tw_1765 my_X11_behind (fun q hq => tg_X11_behind hq) rfl hl.1 Hh ⟨Nat.le_of_ble_eq_true rfl, Nat.le_of_ble_eq_true rfl, Nat.le_of_ble_eq_true rfl, Nat.le_of_ble_eq_true rfl⟩ (Nat.le_of_ble_eq_true rfl) dX11_isSame_33 rfl hm (fun x3 H locs Hh hm => ?_)
            refine lv_aload_n hx hb dX11_isSame_36 rfl (lv_at hl 0 rfl) ?_
            refine lv_iload_n hx hb dX11_isSame_37 rfl (lv_at hl 2 rfl) ?_
            refine lv_iload_n hx hb dX11_isSame_38 rfl (lv_at hl 3 rfl) ?_
            refine lv_iload hx hb dX11_isSame_39 (lv_at hl 4 rfl) ?_
            refine z_cVIr (vs := [qI l2, qI l3, qI l4]) C (fun q hq => ct_X11_behind l g h l0 l2 l3 l4 q hq) tw_1765 my_X11_behind (fun q hq => tg_X11_behind hq) rfl hl.1 Hh ⟨Nat.le_of_ble_eq_true rfl, Nat.le_of_ble_eq_true rfl, Nat.le_of_ble_eq_true rfl, Nat.le_of_ble_eq_true rfl⟩ (Nat.le_of_ble_eq_true rfl) dX11_isSame_41 rfl hm (fun x4 H locs Hh hm => ?_)
            refine z_icmp_eq (tgt := 49) C dX11_isSame_44 (by decide) rfl rfl hm (fun _ hm => ?_) (fun _ hm => ?_)
            · refine z_iinc (x := l4) (k := 4) (lv' := [(4, qI (l4 + 1)), (0, qR g l0), (1, qI l1), (2, qI l2), (3, qI l3)]) C dX11_isSame_49 hl rfl (by decide) rfl (fun ls hl => ?_)
              refine lv_goto (tgt := 16) hx hb dX11_isSame_52 (by decide) ?_
              cases hm
              exact ih16 l3 (l4 + 1) _ _ _ Hh (lv_sub hl [1, 2, 3, 4, 0] rfl) hc16
            · refine z_iconst C dX11_isSame_47 ?_
              cases hm
              have hm := hc16
              change some _ = some z2 at hm
              cases hm
              have hm := hc2
              exact z_zretRC C hr hlocks Hh dX11_isSame_48 (by decide) hm
      unfold M_X11_isSame_b2 at hm
      refine lv_iload_n hx hb dX11_isSame_2 rfl (lv_at hl 3 rfl) ?_
      refine lv_aload_n hx hb dX11_isSame_3 rfl (lv_at hl 0 rfl) ?_
      refine z_getR C fl_11_341 Hh dX11_isSame_4 rfl hm (fun x5 hm => ?_)
      refine z_getI C fl_11_230 Hh dX11_isSame_7 rfl hm (fun x6 hm => ?_)
      refine z_icmp_ge (tgt := 61) C dX11_isSame_10 (by decide) rfl rfl hm (fun _ hm => ?_) (fun _ hm => ?_)
      · cases hm
        exact K61  _ _ _ Hh (lv_sub hl [] rfl) hc2
      · refine z_iconst C dX11_isSame_13 ?_
        refine lv_istore (lv' := [(4, qI 0), (0, qR g l0), (1, qI l1), (2, qI l2), (3, qI l3)]) hx hb dX11_isSame_14 hl (by decide) rfl (fun ls hl => ?_)
        exact KL16 FU l3 0 _ _ _ Hh (lv_sub hl [1, 2, 3, 4, 0] rfl) hm
  refine z_iconst C dX11_isSame_0 ?_
  refine lv_istore_n (lv' := [(3, qI 0), (0, qR g l0), (1, qI l1), (2, qI l2)]) hx hb dX11_isSame_1 rfl hl (by decide) rfl (fun ls hl => ?_)
  exact KL2 FU l0 l1 l2 0 _ _ _ Hh (lv_sub hl [1, 2, 3, 0] rfl) hm
