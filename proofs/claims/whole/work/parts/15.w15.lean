theorem tg_X11_refusesFits {h : Hp} {l0 : Int} {r : Int} (hm : M_X11_refusesFits h l0 = some r) : hT h l0 = 21 := (tk_inv hm).1
set_option maxRecDepth 100000 in
set_option maxHeartbeats 4000000 in
theorem ct_X11_refusesFits (l : Launch) (g : zGeo) (h : Hp) (l0 : Int) (r : Int) (hm : M_X11_refusesFits h l0 = some r) : zM l yX11_refusesFits cX11_refusesFits 1 (some .int) 0 0 0 0 g h [qR g l0] h (some (qI r)) := by
  refine z_meth (by decide) (Nat.le_of_ble_eq_true rfl) ?_
  intro p e s m args below meth c H ls C hr hlocks hnm Hh hl
  have C : zC p m c cX11_refusesFits 1 s args RX11 g := C
  have hnm : meth.name = "refusesFits" := hnm
  have hx := C.1.1
  have hb := C.1.2.1
  have hl : lv_has ls 1 [(0, qR g l0)] := hl
  unfold M_X11_refusesFits at hm
  replace hm := (tk_inv hm).2
  refine lv_aload_n hx hb dX11_refusesFits_0 rfl (lv_at hl 0 rfl) ?_
  refine z_getNonnull (tgt := 11) C fl_11_341 Hh dX11_refusesFits_1 rfl dX11_refusesFits_4 (by decide) hm (fun x1 q hm => ?_) (fun x1 q hm => ?_)
  · rw [if_pos q] at hm
    refine z_iconst C dX11_refusesFits_7 ?_
    refine lv_goto (tgt := 37) hx hb dX11_refusesFits_8 (by decide) ?_
    exact z_iretR (h0 := h) C hr hlocks Hh dX11_refusesFits_37 hm
  · rw [if_neg q] at hm
    refine lv_aload_n hx hb dX11_refusesFits_11 rfl (lv_at hl 0 rfl) ?_
    refine z_getR C fl_11_341 Hh dX11_refusesFits_12 rfl hm (fun x2 hm => ?_)
    refine z_getI C fl_11_302 Hh dX11_refusesFits_15 rfl hm (fun x3 hm => ?_)
    refine z_if_eq (tgt := 31) C dX11_refusesFits_18 (by decide) rfl hm (fun _ hm => ?_) (fun _ hm => ?_)
    · refine z_bipush C dX11_refusesFits_31 rfl ?_
      refine lv_goto (tgt := 37) hx hb dX11_refusesFits_33 (by decide) ?_
      exact z_iretR (h0 := h) C hr hlocks Hh dX11_refusesFits_37 hm
    · refine lv_aload_n hx hb dX11_refusesFits_21 rfl (lv_at hl 0 rfl) ?_
      refine z_getR C fl_11_341 Hh dX11_refusesFits_22 rfl hm (fun x4 hm => ?_)
      refine z_getI C fl_11_314 Hh dX11_refusesFits_25 rfl hm (fun x5 hm => ?_)
      refine z_if_ne (tgt := 36) C dX11_refusesFits_28 (by decide) rfl hm (fun _ hm => ?_) (fun _ hm => ?_)
      · refine z_iconst C dX11_refusesFits_36 ?_
        exact z_iretR (h0 := h) C hr hlocks Hh dX11_refusesFits_37 hm
      · refine z_bipush C dX11_refusesFits_31 rfl ?_
        refine lv_goto (tgt := 37) hx hb dX11_refusesFits_33 (by decide) ?_
        exact z_iretR (h0 := h) C hr hlocks Hh dX11_refusesFits_37 hm
theorem tg_X11_fits {h : Hp} {l0 : Int} {r : Hp × Int} (hm : M_X11_fits h l0 = some r) : hT h l0 = 21 := (tk_inv hm).1
set_option maxRecDepth 100000 in
set_option maxHeartbeats 4000000 in
theorem ct_X11_fits (l : Launch) (g : zGeo) (h0 : Hp) (l0 : Int) (r : Hp × Int) (hm : M_X11_fits h0 l0 = some r) : zM l yX11_fits cX11_fits 2 (some .int) 7 170 0 0 g h0 [qR g l0] r.1 (some (qI r.2)) := by
  refine z_meth (by decide) (Nat.le_of_ble_eq_true rfl) ?_
  intro p e s m args below meth c H ls C hr hlocks hnm Hh hl
  have C : zC p m c cX11_fits 2 s args RX11 g := C
  have hnm : meth.name = "fits" := hnm
  have hx := C.1.1
  have hb := C.1.2.1
  have hl : lv_has ls 2 [(0, qR g l0)] := hl
  unfold M_X11_fits at hm
  replace hm := (tk_inv hm).2
  generalize h0 = h at Hh hm
  refine lv_aload_n hx hb dX11_fits_0 rfl (lv_at hl 0 rfl) ?_
  refine z_iconst C dX11_fits_1 ?_
  refine z_putI C hnm pl_11_78 Hh dX11_fits_2 rfl hm (fun h H locs Hh hm => ?_)
  refine lv_aload_n hx hb dX11_fits_5 rfl (lv_at hl 0 rfl) ?_
  refine z_cVIr (vs := []) C (fun q hq => ct_X11_refusesFits l g h l0 q hq) tw_1910 my_X11_refusesFits (fun q hq => tg_X11_refusesFits hq) rfl hl.1 Hh ⟨Nat.le_of_ble_eq_true rfl, Nat.le_of_ble_eq_true rfl, Nat.le_of_ble_eq_true rfl, Nat.le_of_ble_eq_true rfl⟩ (Nat.le_of_ble_eq_true rfl) dX11_fits_6 rfl hm (fun x1 H locs Hh hm => ?_)
  refine lv_istore_n (lv' := [(1, qI x1), (0, qR g l0)]) hx hb dX11_fits_9 rfl hl (by decide) rfl (fun ls hl => ?_)
  refine lv_iload_n hx hb dX11_fits_10 rfl (lv_at hl 0 rfl) ?_
  refine z_if_le (tgt := 22) C dX11_fits_11 (by decide) rfl hm (fun _ hm => ?_) (fun _ hm => ?_)
  · refine lv_aload_n hx hb dX11_fits_22 rfl (lv_at hl 1 rfl) ?_
    refine lv_aload_n hx hb dX11_fits_23 rfl (lv_at hl 1 rfl) ?_
    refine z_iconst C dX11_fits_24 ?_
    refine z_cVI (vs := [qI (-1)]) C (fun q hq => ct_X11_fitting l g h l0 (-1) q hq) tw_1914 my_X11_fitting (fun q hq => tg_X11_fitting hq) rfl hl.1 Hh ⟨Nat.le_of_ble_eq_true rfl, Nat.le_of_ble_eq_true rfl, Nat.le_of_ble_eq_true rfl, Nat.le_of_ble_eq_true rfl⟩ (Nat.le_of_ble_eq_true rfl) dX11_fits_25 rfl hm (fun h x2 H locs Hh hm => ?_)
    refine z_cVI (vs := [qI x2]) C (fun q hq => ct_X11_good l g h l0 x2 q hq) tw_1670 my_X11_good (fun q hq => tg_X11_good hq) rfl hl.1 Hh ⟨Nat.le_of_ble_eq_true rfl, Nat.le_of_ble_eq_true rfl, Nat.le_of_ble_eq_true rfl, Nat.le_of_ble_eq_true rfl⟩ (Nat.le_of_ble_eq_true rfl) dX11_fits_28 rfl hm (fun h x3 H locs Hh hm => ?_)
    exact z_iret C hr hlocks Hh dX11_fits_31 hm
  · refine lv_aload_n hx hb dX11_fits_14 rfl (lv_at hl 1 rfl) ?_
    refine lv_iload_n hx hb dX11_fits_15 rfl (lv_at hl 0 rfl) ?_
    refine z_cVI (vs := [qI x1]) C (fun q hq => ct_X11_refused l g h l0 x1 q hq) tw_1451 my_X11_refused (fun q hq => tg_X11_refused hq) rfl hl.1 Hh ⟨Nat.le_of_ble_eq_true rfl, Nat.le_of_ble_eq_true rfl, Nat.le_of_ble_eq_true rfl, Nat.le_of_ble_eq_true rfl⟩ (Nat.le_of_ble_eq_true rfl) dX11_fits_16 rfl hm (fun h x4 H locs Hh hm => ?_)
    refine lv_goto (tgt := 31) hx hb dX11_fits_19 (by decide) ?_
    exact z_iret C hr hlocks Hh dX11_fits_31 hm
theorem tg_X11_fit {h : Hp} {l0 l1 l2 : Int} {r : Hp × Int} (hm : M_X11_fit h l0 l1 l2 = some r) : hT h l0 = 21 := (tk_inv hm).1
set_option maxRecDepth 100000 in
set_option maxHeartbeats 4000000 in
theorem ct_X11_fit (l : Launch) (g : zGeo) (h0 : Hp) (l0 l1 l2 : Int) (r : Hp × Int) (hm : M_X11_fit h0 l0 l1 l2 = some r) : zM l yX11_fit cX11_fit 4 (some .int) 7 170 0 0 g h0 [qR g l0, qI l1, qI l2] r.1 (some (qI r.2)) := by
  refine z_meth (by decide) (Nat.le_of_ble_eq_true rfl) ?_
  intro p e s m args below meth c H ls C hr hlocks hnm Hh hl
  have C : zC p m c cX11_fit 4 s args RX11 g := C
  have hnm : meth.name = "fit" := hnm
  have hx := C.1.1
  have hb := C.1.2.1
  have hl : lv_has ls 4 [(0, qR g l0), (1, qI l1), (2, qI l2)] := hl
  unfold M_X11_fit at hm
  replace hm := (tk_inv hm).2
  generalize h0 = h at Hh hm
  refine lv_aload_n hx hb dX11_fit_0 rfl (lv_at hl 0 rfl) ?_
  refine z_iconst C dX11_fit_1 ?_
  refine z_putI C hnm pl_11_78 Hh dX11_fit_2 rfl hm (fun h H locs Hh hm => ?_)
  refine lv_aload_n hx hb dX11_fit_5 rfl (lv_at hl 0 rfl) ?_
  refine z_cVIr (vs := []) C (fun q hq => ct_X11_refusesFits l g h l0 q hq) tw_1910 my_X11_refusesFits (fun q hq => tg_X11_refusesFits hq) rfl hl.1 Hh ⟨Nat.le_of_ble_eq_true rfl, Nat.le_of_ble_eq_true rfl, Nat.le_of_ble_eq_true rfl, Nat.le_of_ble_eq_true rfl⟩ (Nat.le_of_ble_eq_true rfl) dX11_fit_6 rfl hm (fun x1 H locs Hh hm => ?_)
  refine lv_istore_n (lv' := [(3, qI x1), (0, qR g l0), (1, qI l1), (2, qI l2)]) hx hb dX11_fit_9 rfl hl (by decide) rfl (fun ls hl => ?_)
  refine lv_iload_n hx hb dX11_fit_10 rfl (lv_at hl 0 rfl) ?_
  refine z_if_le (tgt := 20) C dX11_fit_11 (by decide) rfl hm (fun _ hm => ?_) (fun _ hm => ?_)
  · refine lv_aload_n hx hb dX11_fit_20 rfl (lv_at hl 1 rfl) ?_
    refine lv_iload_n hx hb dX11_fit_21 rfl (lv_at hl 3 rfl) ?_
    refine z_cVIr (vs := [qI l2]) C (fun q hq => ct_X11_isTown l g h l0 l2 q hq) tw_1686 my_X11_isTown (fun q hq => tg_X11_isTown hq) rfl hl.1 Hh ⟨Nat.le_of_ble_eq_true rfl, Nat.le_of_ble_eq_true rfl, Nat.le_of_ble_eq_true rfl, Nat.le_of_ble_eq_true rfl⟩ (Nat.le_of_ble_eq_true rfl) dX11_fit_22 rfl hm (fun x2 H locs Hh hm => ?_)
    refine z_if_eq (tgt := 49) C dX11_fit_25 (by decide) rfl hm (fun _ hm => ?_) (fun _ hm => ?_)
    · refine lv_aload_n hx hb dX11_fit_49 rfl (lv_at hl 1 rfl) ?_
      refine z_iconst C dX11_fit_50 ?_
      refine z_cVI (vs := [qI 1]) C (fun q hq => ct_X11_refused l g h l0 1 q hq) tw_1451 my_X11_refused (fun q hq => tg_X11_refused hq) rfl hl.1 Hh ⟨Nat.le_of_ble_eq_true rfl, Nat.le_of_ble_eq_true rfl, Nat.le_of_ble_eq_true rfl, Nat.le_of_ble_eq_true rfl⟩ (Nat.le_of_ble_eq_true rfl) dX11_fit_51 rfl hm (fun h x3 H locs Hh hm => ?_)
      exact z_iret C hr hlocks Hh dX11_fit_54 hm
    · refine lv_aload_n hx hb dX11_fit_28 rfl (lv_at hl 1 rfl) ?_
      refine lv_iload_n hx hb dX11_fit_29 rfl (lv_at hl 3 rfl) ?_
      refine z_cVIr (vs := [qI l2]) C (fun q hq => ct_X11_isUnknown l g h l0 l2 q hq) tw_1918 my_X11_isUnknown (fun q hq => tg_X11_isUnknown hq) rfl hl.1 Hh ⟨Nat.le_of_ble_eq_true rfl, Nat.le_of_ble_eq_true rfl, Nat.le_of_ble_eq_true rfl, Nat.le_of_ble_eq_true rfl⟩ (Nat.le_of_ble_eq_true rfl) dX11_fit_30 rfl hm (fun x4 H locs Hh hm => ?_)
      refine z_if_eq (tgt := 49) C dX11_fit_33 (by decide) rfl hm (fun _ hm => ?_) (fun _ hm => ?_)
      · refine lv_aload_n hx hb dX11_fit_49 rfl (lv_at hl 1 rfl) ?_
        refine z_iconst C dX11_fit_50 ?_
        refine z_cVI (vs := [qI 1]) C (fun q hq => ct_X11_refused l g h l0 1 q hq) tw_1451 my_X11_refused (fun q hq => tg_X11_refused hq) rfl hl.1 Hh ⟨Nat.le_of_ble_eq_true rfl, Nat.le_of_ble_eq_true rfl, Nat.le_of_ble_eq_true rfl, Nat.le_of_ble_eq_true rfl⟩ (Nat.le_of_ble_eq_true rfl) dX11_fit_51 rfl hm (fun h x5 H locs Hh hm => ?_)
        exact z_iret C hr hlocks Hh dX11_fit_54 hm
      · refine lv_iload_n hx hb dX11_fit_36 rfl (lv_at hl 2 rfl) ?_
        refine z_if_lt (tgt := 49) C dX11_fit_37 (by decide) rfl hm (fun _ hm => ?_) (fun _ hm => ?_)
        · refine lv_aload_n hx hb dX11_fit_49 rfl (lv_at hl 1 rfl) ?_
          refine z_iconst C dX11_fit_50 ?_
          refine z_cVI (vs := [qI 1]) C (fun q hq => ct_X11_refused l g h l0 1 q hq) tw_1451 my_X11_refused (fun q hq => tg_X11_refused hq) rfl hl.1 Hh ⟨Nat.le_of_ble_eq_true rfl, Nat.le_of_ble_eq_true rfl, Nat.le_of_ble_eq_true rfl, Nat.le_of_ble_eq_true rfl⟩ (Nat.le_of_ble_eq_true rfl) dX11_fit_51 rfl hm (fun h x6 H locs Hh hm => ?_)
          exact z_iret C hr hlocks Hh dX11_fit_54 hm
        · refine lv_iload_n hx hb dX11_fit_40 rfl (lv_at hl 2 rfl) ?_
          refine lv_aload_n hx hb dX11_fit_41 rfl (lv_at hl 1 rfl) ?_
          refine lv_iload_n hx hb dX11_fit_42 rfl (lv_at hl 2 rfl) ?_
          refine z_cVI (vs := [qI l1]) C (fun q hq => ct_X11_fitting l g h l0 l1 q hq) tw_1914 my_X11_fitting (fun q hq => tg_X11_fitting hq) rfl hl.1 Hh ⟨Nat.le_of_ble_eq_true rfl, Nat.le_of_ble_eq_true rfl, Nat.le_of_ble_eq_true rfl, Nat.le_of_ble_eq_true rfl⟩ (Nat.le_of_ble_eq_true rfl) dX11_fit_43 rfl hm (fun h x7 H locs Hh hm => ?_)
          refine z_icmp_lt (tgt := 55) C dX11_fit_46 (by decide) rfl rfl hm (fun _ hm => ?_) (fun _ hm => ?_)
          · refine lv_aload_n hx hb dX11_fit_55 rfl (lv_at hl 1 rfl) ?_
            refine lv_aload_n hx hb dX11_fit_56 rfl (lv_at hl 1 rfl) ?_
            refine z_getR C fl_11_72 Hh dX11_fit_57 rfl hm (fun x8 hm => ?_)
            refine lv_iload_n hx hb dX11_fit_60 rfl (lv_at hl 3 rfl) ?_
            refine z_iald C Hh dX11_fit_61 hm (fun x9 hm => ?_)
            refine z_cVI (vs := [qI x9]) C (fun q hq => ct_X11_good l g h l0 x9 q hq) tw_1670 my_X11_good (fun q hq => tg_X11_good hq) rfl hl.1 Hh ⟨Nat.le_of_ble_eq_true rfl, Nat.le_of_ble_eq_true rfl, Nat.le_of_ble_eq_true rfl, Nat.le_of_ble_eq_true rfl⟩ (Nat.le_of_ble_eq_true rfl) dX11_fit_62 rfl hm (fun h x10 H locs Hh hm => ?_)
            exact z_iret C hr hlocks Hh dX11_fit_65 hm
          · refine lv_aload_n hx hb dX11_fit_49 rfl (lv_at hl 1 rfl) ?_
            refine z_iconst C dX11_fit_50 ?_
            refine z_cVI (vs := [qI 1]) C (fun q hq => ct_X11_refused l g h l0 1 q hq) tw_1451 my_X11_refused (fun q hq => tg_X11_refused hq) rfl hl.1 Hh ⟨Nat.le_of_ble_eq_true rfl, Nat.le_of_ble_eq_true rfl, Nat.le_of_ble_eq_true rfl, Nat.le_of_ble_eq_true rfl⟩ (Nat.le_of_ble_eq_true rfl) dX11_fit_51 rfl hm (fun h x11 H locs Hh hm => ?_)
            exact z_iret C hr hlocks Hh dX11_fit_54 hm
  · refine lv_aload_n hx hb dX11_fit_14 rfl (lv_at hl 1 rfl) ?_
    refine lv_iload_n hx hb dX11_fit_15 rfl (lv_at hl 0 rfl) ?_
    refine z_cVI (vs := [qI x1]) C (fun q hq => ct_X11_refused l g h l0 x1 q hq) tw_1451 my_X11_refused (fun q hq => tg_X11_refused hq) rfl hl.1 Hh ⟨Nat.le_of_ble_eq_true rfl, Nat.le_of_ble_eq_true rfl, Nat.le_of_ble_eq_true rfl, Nat.le_of_ble_eq_true rfl⟩ (Nat.le_of_ble_eq_true rfl) dX11_fit_16 rfl hm (fun h x12 H locs Hh hm => ?_)
    exact z_iret C hr hlocks Hh dX11_fit_19 hm
theorem tg_X11_surely {h : Hp} {l0 l1 : Int} {r : Hp × Int} (hm : M_X11_surely h l0 l1 = some r) : hT h l0 = 21 := (tk_inv hm).1
set_option maxRecDepth 100000 in
set_option maxHeartbeats 4000000 in
theorem ct_X11_surely (l : Launch) (g : zGeo) (h0 : Hp) (l0 l1 : Int) (r : Hp × Int) (hm : M_X11_surely h0 l0 l1 = some r) : zM l yX11_surely cX11_surely 4 (some .int) 7 170 0 0 g h0 [qR g l0, qI l1] r.1 (some (qI r.2)) := by
  refine z_meth (by decide) (Nat.le_of_ble_eq_true rfl) ?_
  intro p e s m args below meth c H ls C hr hlocks hnm Hh hl
  have C : zC p m c cX11_surely 4 s args RX11 g := C
  have hnm : meth.name = "surely" := hnm
  have hx := C.1.1
  have hb := C.1.2.1
  have hl : lv_has ls 4 [(0, qR g l0), (1, qI l1)] := hl
  unfold M_X11_surely at hm
  replace hm := (tk_inv hm).2
  generalize h0 = h at Hh hm
  have K85 : ∀ (h : Hp) (l0 : Int) (H : Heap) (locs : List Loc) (ls : Array Slot), zH g s h H locs → lv_has ls 4 [(0, qR g l0)] → M_X11_surely_p85 h l0 = some r → W p l e { frames := 7, cells := 0, slots := 0, locals := 170 } s m args below meth c H locs 0 0 (zQ below g r.1 (some (qI r.2)) args s 0 0) (F0 m 85 ls []) := by
    intro h l0  H locs ls Hh hl hm
    unfold M_X11_surely_p85 at hm
    refine lv_aload_n hx hb dX11_surely_85 rfl (lv_at hl 0 rfl) ?_
    refine z_bipush C dX11_surely_86 rfl ?_
    refine z_cVI (vs := [qI (-2)]) C (fun q hq => ct_X11_good l g h l0 (-2) q hq) tw_1670 my_X11_good (fun q hq => tg_X11_good hq) rfl hl.1 Hh ⟨Nat.le_of_ble_eq_true rfl, Nat.le_of_ble_eq_true rfl, Nat.le_of_ble_eq_true rfl, Nat.le_of_ble_eq_true rfl⟩ (Nat.le_of_ble_eq_true rfl) dX11_surely_88 rfl hm (fun h x1 H locs Hh hm => ?_)
    exact z_iret C hr hlocks Hh dX11_surely_91 hm
  have KL50 : ∀ (n : Nat) (h : Hp) (l0 l1 l3 : Int) (H : Heap) (locs : List Loc) (ls : Array Slot), zH g s h H locs → lv_has ls 4 [(0, qR g l0), (1, qI l1), (3, qI l3)] → M_X11_surely_w50 n h l0 l1 l3 = some r → W p l e { frames := 7, cells := 0, slots := 0, locals := 170 } s m args below meth c H locs 0 0 (zQ below g r.1 (some (qI r.2)) args s 0 0) (F0 m 50 ls []) := by
    intro n
    induction n with
    | zero => intro h l0 l1 l3 H locs ls Hh hl hm; cases hm
    | succ n ih50 =>
      intro h l0 l1 l3 H locs ls Hh hl hm
      obtain ⟨z50, hm, hc50⟩ := wh_inv hm
      have hm : M_X11_surely_b50 h l0 l1 l3 = some z50 := hm
      unfold M_X11_surely_b50 at hm
      refine lv_iload_n hx hb dX11_surely_50 rfl (lv_at hl 2 rfl) ?_
      refine lv_aload_n hx hb dX11_surely_51 rfl (lv_at hl 0 rfl) ?_
      refine z_getR C fl_11_341 Hh dX11_surely_52 rfl hm (fun x2 hm => ?_)
      refine z_getI C fl_11_314 Hh dX11_surely_55 rfl hm (fun x3 hm => ?_)
      refine z_icmp_ge (tgt := 85) C dX11_surely_58 (by decide) rfl rfl hm (fun _ hm => ?_) (fun _ hm => ?_)
      · cases hm
        exact K85 h l0 _ _ _ Hh (lv_sub hl [0] rfl) hc50
      · refine lv_aload_n hx hb dX11_surely_61 rfl (lv_at hl 0 rfl) ?_
        refine z_getR C fl_11_75 Hh dX11_surely_62 rfl hm (fun x4 hm => ?_)
        refine lv_iload_n hx hb dX11_surely_65 rfl (lv_at hl 1 rfl) ?_
        refine z_iald C Hh dX11_surely_66 hm (fun x5 hm => ?_)
        refine z_iconst C dX11_surely_67 ?_
        refine lv_iload_n hx hb dX11_surely_68 rfl (lv_at hl 2 rfl) ?_
        refine z_ishl C dX11_surely_69 ?_
        refine z_icmp_ne (tgt := 79) C dX11_surely_70 (by decide) rfl rfl hm (fun _ hm => ?_) (fun _ hm => ?_)
        · refine z_iinc (x := l3) (k := 2) (lv' := [(3, qI (l3 + 1)), (0, qR g l0), (1, qI l1)]) C dX11_surely_79 hl rfl (by decide) rfl (fun ls hl => ?_)
          refine lv_goto (tgt := 50) hx hb dX11_surely_82 (by decide) ?_
          cases hm
          exact ih50 h l0 l1 (l3 + 1) _ _ _ Hh (lv_sub hl [1, 2, 0] rfl) hc50
        · refine lv_aload_n hx hb dX11_surely_73 rfl (lv_at hl 0 rfl) ?_
          refine lv_iload_n hx hb dX11_surely_74 rfl (lv_at hl 2 rfl) ?_
          refine z_cVI (vs := [qI l3]) C (fun q hq => ct_X11_good l g h l0 l3 q hq) tw_1670 my_X11_good (fun q hq => tg_X11_good hq) rfl hl.1 Hh ⟨Nat.le_of_ble_eq_true rfl, Nat.le_of_ble_eq_true rfl, Nat.le_of_ble_eq_true rfl, Nat.le_of_ble_eq_true rfl⟩ (Nat.le_of_ble_eq_true rfl) dX11_surely_75 rfl hm (fun h x6 H locs Hh hm => ?_)
          cases hm
          have hm := hc50
          exact z_iret C hr hlocks Hh dX11_surely_78 hm
  refine lv_aload_n hx hb dX11_surely_0 rfl (lv_at hl 0 rfl) ?_
  refine z_iconst C dX11_surely_1 ?_
  refine z_putI C hnm pl_11_78 Hh dX11_surely_2 rfl hm (fun h H locs Hh hm => ?_)
  refine lv_aload_n hx hb dX11_surely_5 rfl (lv_at hl 0 rfl) ?_
  refine z_cVIr (vs := []) C (fun q hq => ct_X11_refusesFits l g h l0 q hq) tw_1910 my_X11_refusesFits (fun q hq => tg_X11_refusesFits hq) rfl hl.1 Hh ⟨Nat.le_of_ble_eq_true rfl, Nat.le_of_ble_eq_true rfl, Nat.le_of_ble_eq_true rfl, Nat.le_of_ble_eq_true rfl⟩ (Nat.le_of_ble_eq_true rfl) dX11_surely_6 rfl hm (fun x7 H locs Hh hm => ?_)
  refine lv_istore_n (lv' := [(2, qI x7), (0, qR g l0), (1, qI l1)]) hx hb dX11_surely_9 rfl hl (by decide) rfl (fun ls hl => ?_)
  refine lv_iload_n hx hb dX11_surely_10 rfl (lv_at hl 0 rfl) ?_
  refine z_if_le (tgt := 20) C dX11_surely_11 (by decide) rfl hm (fun _ hm => ?_) (fun _ hm => ?_)
  · refine lv_aload_n hx hb dX11_surely_20 rfl (lv_at hl 1 rfl) ?_
    refine lv_iload_n hx hb dX11_surely_21 rfl (lv_at hl 2 rfl) ?_
    refine z_cVIr (vs := [qI l1]) C (fun q hq => ct_X11_isTown l g h l0 l1 q hq) tw_1686 my_X11_isTown (fun q hq => tg_X11_isTown hq) rfl hl.1 Hh ⟨Nat.le_of_ble_eq_true rfl, Nat.le_of_ble_eq_true rfl, Nat.le_of_ble_eq_true rfl, Nat.le_of_ble_eq_true rfl⟩ (Nat.le_of_ble_eq_true rfl) dX11_surely_22 rfl hm (fun x8 H locs Hh hm => ?_)
    refine z_if_eq (tgt := 36) C dX11_surely_25 (by decide) rfl hm (fun _ hm => ?_) (fun _ hm => ?_)
    · refine lv_aload_n hx hb dX11_surely_36 rfl (lv_at hl 1 rfl) ?_
      refine z_iconst C dX11_surely_37 ?_
      refine z_cVI (vs := [qI 1]) C (fun q hq => ct_X11_refused l g h l0 1 q hq) tw_1451 my_X11_refused (fun q hq => tg_X11_refused hq) rfl hl.1 Hh ⟨Nat.le_of_ble_eq_true rfl, Nat.le_of_ble_eq_true rfl, Nat.le_of_ble_eq_true rfl, Nat.le_of_ble_eq_true rfl⟩ (Nat.le_of_ble_eq_true rfl) dX11_surely_38 rfl hm (fun h x9 H locs Hh hm => ?_)
      exact z_iret C hr hlocks Hh dX11_surely_41 hm
    · refine lv_aload_n hx hb dX11_surely_28 rfl (lv_at hl 1 rfl) ?_
      refine lv_iload_n hx hb dX11_surely_29 rfl (lv_at hl 2 rfl) ?_
      refine z_cVIr (vs := [qI l1]) C (fun q hq => ct_X11_isUnknown l g h l0 l1 q hq) tw_1918 my_X11_isUnknown (fun q hq => tg_X11_isUnknown hq) rfl hl.1 Hh ⟨Nat.le_of_ble_eq_true rfl, Nat.le_of_ble_eq_true rfl, Nat.le_of_ble_eq_true rfl, Nat.le_of_ble_eq_true rfl⟩ (Nat.le_of_ble_eq_true rfl) dX11_surely_30 rfl hm (fun x10 H locs Hh hm => ?_)
      refine z_if_ne (tgt := 42) C dX11_surely_33 (by decide) rfl hm (fun _ hm => ?_) (fun _ hm => ?_)
      · refine lv_aload_n hx hb dX11_surely_42 rfl (lv_at hl 1 rfl) ?_
        refine z_iconst C dX11_surely_43 ?_
        refine z_cVI (vs := [qI (-1)]) C (fun q hq => ct_X11_fitting l g h l0 (-1) q hq) tw_1914 my_X11_fitting (fun q hq => tg_X11_fitting hq) rfl hl.1 Hh ⟨Nat.le_of_ble_eq_true rfl, Nat.le_of_ble_eq_true rfl, Nat.le_of_ble_eq_true rfl, Nat.le_of_ble_eq_true rfl⟩ (Nat.le_of_ble_eq_true rfl) dX11_surely_44 rfl hm (fun h x11 H locs Hh hm => ?_)
        refine lv_pop hx hb dX11_surely_47 rfl ?_
        refine z_iconst C dX11_surely_48 ?_
        refine lv_istore_n (lv' := [(3, qI 0), (2, qI x7), (0, qR g l0), (1, qI l1)]) hx hb dX11_surely_49 rfl hl (by decide) rfl (fun ls hl => ?_)
        exact KL50 FU h l0 l1 0 _ _ _ Hh (lv_sub hl [2, 3, 0] rfl) hm
      · refine lv_aload_n hx hb dX11_surely_36 rfl (lv_at hl 1 rfl) ?_
        refine z_iconst C dX11_surely_37 ?_
        refine z_cVI (vs := [qI 1]) C (fun q hq => ct_X11_refused l g h l0 1 q hq) tw_1451 my_X11_refused (fun q hq => tg_X11_refused hq) rfl hl.1 Hh ⟨Nat.le_of_ble_eq_true rfl, Nat.le_of_ble_eq_true rfl, Nat.le_of_ble_eq_true rfl, Nat.le_of_ble_eq_true rfl⟩ (Nat.le_of_ble_eq_true rfl) dX11_surely_38 rfl hm (fun h x12 H locs Hh hm => ?_)
        exact z_iret C hr hlocks Hh dX11_surely_41 hm
  · refine lv_aload_n hx hb dX11_surely_14 rfl (lv_at hl 1 rfl) ?_
    refine lv_iload_n hx hb dX11_surely_15 rfl (lv_at hl 0 rfl) ?_
    refine z_cVI (vs := [qI x7]) C (fun q hq => ct_X11_refused l g h l0 x7 q hq) tw_1451 my_X11_refused (fun q hq => tg_X11_refused hq) rfl hl.1 Hh ⟨Nat.le_of_ble_eq_true rfl, Nat.le_of_ble_eq_true rfl, Nat.le_of_ble_eq_true rfl, Nat.le_of_ble_eq_true rfl⟩ (Nat.le_of_ble_eq_true rfl) dX11_surely_16 rfl hm (fun h x13 H locs Hh hm => ?_)
    exact z_iret C hr hlocks Hh dX11_surely_19 hm
theorem tg_X11_remembers {h : Hp} {l0 : Int} {r : Hp} (hm : M_X11_remembers h l0 = some r) : hT h l0 = 21 := (tk_inv hm).1
set_option maxRecDepth 100000 in
set_option maxHeartbeats 4000000 in
theorem ct_X11_remembers (l : Launch) (g : zGeo) (h0 : Hp) (l0 : Int) (r : Hp) (hm : M_X11_remembers h0 l0 = some r) : zM l yX11_remembers cX11_remembers 2 none 0 0 0 0 g h0 [qR g l0] r none := by
  refine z_meth (by decide) (Nat.le_of_ble_eq_true rfl) ?_
  intro p e s m args below meth c H ls C hr hlocks hnm Hh hl
  have C : zC p m c cX11_remembers 2 s args RX11 g := C
  have hnm : meth.name = "remembers" := hnm
  have hx := C.1.1
  have hb := C.1.2.1
  have hl : lv_has ls 2 [(0, qR g l0)] := hl
  unfold M_X11_remembers at hm
  replace hm := (tk_inv hm).2
  generalize h0 = h at Hh hm
  have K86 : ∀ (h : Hp) (l0 : Int) (H : Heap) (locs : List Loc) (ls : Array Slot), zH g s h H locs → lv_has ls 2 [(0, qR g l0)] → M_X11_remembers_p86 h l0 = some r → W p l e { frames := 0, cells := 0, slots := 0, locals := 0 } s m args below meth c H locs 0 0 (zQ below g r none args s 0 0) (F0 m 86 ls []) := by
    intro h l0  H locs ls Hh hl hm
    unfold M_X11_remembers_p86 at hm
    refine lv_aload_n hx hb dX11_remembers_86 rfl (lv_at hl 0 rfl) ?_
    refine lv_dup hx hb dX11_remembers_87 rfl ?_
    refine z_getI C fl_11_343 Hh dX11_remembers_88 rfl hm (fun x1 hm => ?_)
    refine z_iconst C dX11_remembers_91 ?_
    refine z_iadd C dX11_remembers_92 ?_
    refine z_putI C hnm pl_11_343 Hh dX11_remembers_93 rfl hm (fun h H locs Hh hm => ?_)
    exact z_vret C hr hlocks Hh dX11_remembers_96 hm
  have KL52 : ∀ (n : Nat) (h : Hp) (l0 l1 : Int) (H : Heap) (locs : List Loc) (ls : Array Slot), zH g s h H locs → lv_has ls 2 [(0, qR g l0), (1, qI l1)] → M_X11_remembers_w52 n h l0 l1 = some r → W p l e { frames := 0, cells := 0, slots := 0, locals := 0 } s m args below meth c H locs 0 0 (zQ below g r none args s 0 0) (F0 m 52 ls []) := by
    intro n
    induction n with
    | zero => intro h l0 l1 H locs ls Hh hl hm; cases hm
    | succ n ih52 =>
      intro h l0 l1 H locs ls Hh hl hm
      obtain ⟨z52, hm, hc52⟩ := wh_inv hm
      have hm : M_X11_remembers_b52 h l0 l1 = some z52 := hm
      unfold M_X11_remembers_b52 at hm
      refine lv_iload_n hx hb dX11_remembers_52 rfl (lv_at hl 1 rfl) ?_
      refine z_sipush C dX11_remembers_53 rfl ?_
      refine z_icmp_ge (tgt := 86) C dX11_remembers_56 (by decide) rfl lq_p248 hm (fun _ hm => ?_) (fun _ hm => ?_)
      · cases hm
        exact K86 h l0 _ _ _ Hh (lv_sub hl [0] rfl) hc52
      · refine lv_aload_n hx hb dX11_remembers_59 rfl (lv_at hl 0 rfl) ?_
        refine z_getR C fl_11_21 Hh dX11_remembers_60 rfl hm (fun x2 hm => ?_)
        refine z_sipush C dX11_remembers_63 rfl ?_
        refine lv_aload_n hx hb dX11_remembers_66 rfl (lv_at hl 0 rfl) ?_
        refine z_getI C fl_11_343 Hh dX11_remembers_67 rfl hm (fun x3 hm => ?_)
        refine z_imul C dX11_remembers_70 ?_
        refine lv_iload_n hx hb dX11_remembers_71 rfl (lv_at hl 1 rfl) ?_
        refine z_iadd C dX11_remembers_72 ?_
        refine lv_aload_n hx hb dX11_remembers_73 rfl (lv_at hl 0 rfl) ?_
        refine z_getR C fl_11_17 Hh dX11_remembers_74 rfl hm (fun x4 hm => ?_)
        refine lv_iload_n hx hb dX11_remembers_77 rfl (lv_at hl 1 rfl) ?_
        refine z_iald C Hh dX11_remembers_78 hm (fun x5 hm => ?_)
        refine z_iast C Hh dX11_remembers_79 hm (fun h H locs Hh hm => ?_)
        refine z_iinc (x := l1) (k := 1) (lv' := [(1, qI (l1 + 1)), (0, qR g l0)]) C dX11_remembers_80 hl rfl (by decide) rfl (fun ls hl => ?_)
        refine lv_goto (tgt := 52) hx hb dX11_remembers_83 (by decide) ?_
        cases hm
        exact ih52 h l0 (l1 + 1) _ _ _ Hh (lv_sub hl [1, 0] rfl) hc52
  have K50 : ∀ (h : Hp) (l0 : Int) (H : Heap) (locs : List Loc) (ls : Array Slot), zH g s h H locs → lv_has ls 2 [(0, qR g l0)] → M_X11_remembers_p50 h l0 = some r → W p l e { frames := 0, cells := 0, slots := 0, locals := 0 } s m args below meth c H locs 0 0 (zQ below g r none args s 0 0) (F0 m 50 ls []) := by
    intro h l0  H locs ls Hh hl hm
    unfold M_X11_remembers_p50 at hm
    refine z_iconst C dX11_remembers_50 ?_
    refine lv_istore_n (lv' := [(1, qI 0), (0, qR g l0)]) hx hb dX11_remembers_51 rfl hl (by decide) rfl (fun ls hl => ?_)
    exact KL52 FU h l0 0 _ _ _ Hh (lv_sub hl [1, 0] rfl) hm
  have K40 : ∀ (h : Hp) (l0 : Int) (H : Heap) (locs : List Loc) (ls : Array Slot), zH g s h H locs → lv_has ls 2 [(0, qR g l0)] → M_X11_remembers_p40 h l0 = some r → W p l e { frames := 0, cells := 0, slots := 0, locals := 0 } s m args below meth c H locs 0 0 (zQ below g r none args s 0 0) (F0 m 40 ls []) := by
    intro h l0  H locs ls Hh hl hm
    unfold M_X11_remembers_p40 at hm
    refine lv_aload_n hx hb dX11_remembers_40 rfl (lv_at hl 0 rfl) ?_
    refine lv_dup hx hb dX11_remembers_41 rfl ?_
    refine z_getI C fl_11_343 Hh dX11_remembers_42 rfl hm (fun x6 hm => ?_)
    refine z_iconst C dX11_remembers_45 ?_
    refine z_isub C dX11_remembers_46 ?_
    refine z_putI C hnm pl_11_343 Hh dX11_remembers_47 rfl hm (fun h H locs Hh hm => ?_)
    exact K50 h l0 _ _ _ Hh (lv_sub hl [0] rfl) hm
  have KL11 : ∀ (n : Nat) (h : Hp) (l0 l1 : Int) (H : Heap) (locs : List Loc) (ls : Array Slot), zH g s h H locs → lv_has ls 2 [(0, qR g l0), (1, qI l1)] → M_X11_remembers_w11 n h l0 l1 = some r → W p l e { frames := 0, cells := 0, slots := 0, locals := 0 } s m args below meth c H locs 0 0 (zQ below g r none args s 0 0) (F0 m 11 ls []) := by
    intro n
    induction n with
    | zero => intro h l0 l1 H locs ls Hh hl hm; cases hm
    | succ n ih11 =>
      intro h l0 l1 H locs ls Hh hl hm
      obtain ⟨z11, hm, hc11⟩ := wh_inv hm
      have hm : M_X11_remembers_b11 h l0 l1 = some z11 := hm
      unfold M_X11_remembers_b11 at hm
      refine lv_iload_n hx hb dX11_remembers_11 rfl (lv_at hl 1 rfl) ?_
      refine z_sipush C dX11_remembers_12 rfl ?_
      refine z_icmp_ge (tgt := 40) C dX11_remembers_15 (by decide) rfl lq_p2728 hm (fun _ hm => ?_) (fun _ hm => ?_)
      · cases hm
        exact K40 h l0 _ _ _ Hh (lv_sub hl [0] rfl) hc11
      · refine lv_aload_n hx hb dX11_remembers_18 rfl (lv_at hl 0 rfl) ?_
        refine z_getR C fl_11_21 Hh dX11_remembers_19 rfl hm (fun x7 hm => ?_)
        refine lv_iload_n hx hb dX11_remembers_22 rfl (lv_at hl 1 rfl) ?_
        refine lv_aload_n hx hb dX11_remembers_23 rfl (lv_at hl 0 rfl) ?_
        refine z_getR C fl_11_21 Hh dX11_remembers_24 rfl hm (fun x8 hm => ?_)
        refine lv_iload_n hx hb dX11_remembers_27 rfl (lv_at hl 1 rfl) ?_
        refine z_sipush C dX11_remembers_28 rfl ?_
        refine z_iadd C dX11_remembers_31 ?_
        refine z_iald C Hh dX11_remembers_32 hm (fun x9 hm => ?_)
        refine z_iast C Hh dX11_remembers_33 hm (fun h H locs Hh hm => ?_)
        refine z_iinc (x := l1) (k := 1) (lv' := [(1, qI (l1 + 1)), (0, qR g l0)]) C dX11_remembers_34 hl rfl (by decide) rfl (fun ls hl => ?_)
        refine lv_goto (tgt := 11) hx hb dX11_remembers_37 (by decide) ?_
        cases hm
        exact ih11 h l0 (l1 + 1) _ _ _ Hh (lv_sub hl [1, 0] rfl) hc11
  refine lv_aload_n hx hb dX11_remembers_0 rfl (lv_at hl 0 rfl) ?_
  refine z_getI C fl_11_343 Hh dX11_remembers_1 rfl hm (fun x10 hm => ?_)
  refine z_bipush C dX11_remembers_4 rfl ?_
  refine z_icmp_ne (tgt := 50) C dX11_remembers_6 (by decide) rfl lq_p12 hm (fun _ hm => ?_) (fun _ hm => ?_)
  · exact K50 h l0 _ _ _ Hh (lv_sub hl [0] rfl) hm
  · refine z_iconst C dX11_remembers_9 ?_
    refine lv_istore_n (lv' := [(1, qI 0), (0, qR g l0)]) hx hb dX11_remembers_10 rfl hl (by decide) rfl (fun ls hl => ?_)
    exact KL11 FU h l0 0 _ _ _ Hh (lv_sub hl [1, 0] rfl) hm
theorem tg_X11_rounds {h : Hp} {l0 l1 : Int} {r : Hp × Int} (hm : M_X11_rounds h l0 l1 = some r) : hT h l0 = 21 := (tk_inv hm).1
set_option maxRecDepth 100000 in
set_option maxHeartbeats 4000000 in
theorem ct_X11_rounds (l : Launch) (g : zGeo) (h0 : Hp) (l0 l1 : Int) (r : Hp × Int) (hm : M_X11_rounds h0 l0 l1 = some r) : zM l yX11_rounds cX11_rounds 3 (some .int) 6 145 0 0 g h0 [qR g l0, qI l1] r.1 (some (qI r.2)) := by
  refine z_meth (by decide) (Nat.le_of_ble_eq_true rfl) ?_
  intro p e s m args below meth c H ls C hr hlocks hnm Hh hl
  have C : zC p m c cX11_rounds 3 s args RX11 g := C
  have hnm : meth.name = "rounds" := hnm
  have hx := C.1.1
  have hb := C.1.2.1
  have hl : lv_has ls 3 [(0, qR g l0), (1, qI l1)] := hl
  unfold M_X11_rounds at hm
  replace hm := (tk_inv hm).2
  generalize h0 = h at Hh hm
  have K80 : ∀ (h : Hp) (l0 l1 : Int) (H : Heap) (locs : List Loc) (ls : Array Slot), zH g s h H locs → lv_has ls 3 [(0, qR g l0), (1, qI l1)] → M_X11_rounds_p80 h l0 l1 = some r → W p l e { frames := 6, cells := 0, slots := 0, locals := 145 } s m args below meth c H locs 0 0 (zQ below g r.1 (some (qI r.2)) args s 0 0) (F0 m 80 ls []) := by
    intro h l0 l1  H locs ls Hh hl hm
    unfold M_X11_rounds_p80 at hm
    refine lv_aload_n hx hb dX11_rounds_80 rfl (lv_at hl 0 rfl) ?_
    refine z_getR C fl_11_17 Hh dX11_rounds_81 rfl hm (fun x1 hm => ?_)
    refine z_sipush C dX11_rounds_84 rfl ?_
    refine lv_aload_n hx hb dX11_rounds_87 rfl (lv_at hl 0 rfl) ?_
    refine z_getI C fl_11_355 Hh dX11_rounds_88 rfl hm (fun x2 hm => ?_)
    refine z_iast C Hh dX11_rounds_91 hm (fun h H locs Hh hm => ?_)
    refine lv_aload_n hx hb dX11_rounds_92 rfl (lv_at hl 0 rfl) ?_
    refine z_getR C fl_11_17 Hh dX11_rounds_93 rfl hm (fun x3 hm => ?_)
    refine z_sipush C dX11_rounds_96 rfl ?_
    refine lv_dup2_11 hx hb dX11_rounds_99 rfl rfl ?_
    refine z_iald C Hh dX11_rounds_100 hm (fun x4 hm => ?_)
    refine lv_iload_n hx hb dX11_rounds_101 rfl (lv_at hl 1 rfl) ?_
    refine z_iadd C dX11_rounds_102 ?_
    refine z_iast C Hh dX11_rounds_103 hm (fun h H locs Hh hm => ?_)
    refine lv_aload_n hx hb dX11_rounds_104 rfl (lv_at hl 0 rfl) ?_
    refine lv_aload_n hx hb dX11_rounds_105 rfl (lv_at hl 0 rfl) ?_
    refine z_getR C fl_11_17 Hh dX11_rounds_106 rfl hm (fun x5 hm => ?_)
    refine z_sipush C dX11_rounds_109 rfl ?_
    refine z_iald C Hh dX11_rounds_112 hm (fun x6 hm => ?_)
    refine z_cVI (vs := [qI x6]) C (fun q hq => ct_X11_good l g h l0 x6 q hq) tw_1670 my_X11_good (fun q hq => tg_X11_good hq) rfl hl.1 Hh ⟨Nat.le_of_ble_eq_true rfl, Nat.le_of_ble_eq_true rfl, Nat.le_of_ble_eq_true rfl, Nat.le_of_ble_eq_true rfl⟩ (Nat.le_of_ble_eq_true rfl) dX11_rounds_113 rfl hm (fun h x7 H locs Hh hm => ?_)
    exact z_iret C hr hlocks Hh dX11_rounds_116 hm
  have KL49 : ∀ (n : Nat) (h : Hp) (l0 l1 l2 : Int) (H : Heap) (locs : List Loc) (ls : Array Slot), zH g s h H locs → lv_has ls 3 [(0, qR g l0), (1, qI l1), (2, qI l2)] → M_X11_rounds_w49 n h l0 l1 l2 = some r → W p l e { frames := 6, cells := 0, slots := 0, locals := 145 } s m args below meth c H locs 0 0 (zQ below g r.1 (some (qI r.2)) args s 0 0) (F0 m 49 ls []) := by
    intro n
    induction n with
    | zero => intro h l0 l1 l2 H locs ls Hh hl hm; cases hm
    | succ n ih49 =>
      intro h l0 l1 l2 H locs ls Hh hl hm
      obtain ⟨z49, hm, hc49⟩ := wh_inv hm
      have hm : M_X11_rounds_b49 h l0 l1 l2 = some z49 := hm
      unfold M_X11_rounds_b49 at hm
      refine lv_iload_n hx hb dX11_rounds_49 rfl (lv_at hl 2 rfl) ?_
      refine z_sipush C dX11_rounds_50 rfl ?_
      refine z_icmp_ge (tgt := 80) C dX11_rounds_53 (by decide) rfl lq_p216 hm (fun _ hm => ?_) (fun _ hm => ?_)
      · cases hm
        exact K80 h l0 l1 _ _ _ Hh (lv_sub hl [0, 1] rfl) hc49
      · refine lv_aload_n hx hb dX11_rounds_56 rfl (lv_at hl 0 rfl) ?_
        refine z_getR C fl_11_17 Hh dX11_rounds_57 rfl hm (fun x8 hm => ?_)
        refine lv_iload_n hx hb dX11_rounds_60 rfl (lv_at hl 2 rfl) ?_
        refine lv_aload_n hx hb dX11_rounds_61 rfl (lv_at hl 0 rfl) ?_
        refine z_getR C fl_11_28 Hh dX11_rounds_62 rfl hm (fun x9 hm => ?_)
        refine z_sipush C dX11_rounds_65 rfl ?_
        refine lv_iload_n hx hb dX11_rounds_68 rfl (lv_at hl 1 rfl) ?_
        refine z_imul C dX11_rounds_69 ?_
        refine lv_iload_n hx hb dX11_rounds_70 rfl (lv_at hl 2 rfl) ?_
        refine z_iadd C dX11_rounds_71 ?_
        refine z_iald C Hh dX11_rounds_72 hm (fun x10 hm => ?_)
        refine z_iast C Hh dX11_rounds_73 hm (fun h H locs Hh hm => ?_)
        refine z_iinc (x := l2) (k := 2) (lv' := [(2, qI (l2 + 1)), (0, qR g l0), (1, qI l1)]) C dX11_rounds_74 hl rfl (by decide) rfl (fun ls hl => ?_)
        refine lv_goto (tgt := 49) hx hb dX11_rounds_77 (by decide) ?_
        cases hm
        exact ih49 h l0 l1 (l2 + 1) _ _ _ Hh (lv_sub hl [1, 2, 0] rfl) hc49
  refine lv_aload_n hx hb dX11_rounds_0 rfl (lv_at hl 0 rfl) ?_
  refine z_iconst C dX11_rounds_1 ?_
  refine z_putI C hnm pl_11_78 Hh dX11_rounds_2 rfl hm (fun h H locs Hh hm => ?_)
  refine lv_aload_n hx hb dX11_rounds_5 rfl (lv_at hl 0 rfl) ?_
  refine z_getNonnull (tgt := 18) C fl_11_341 Hh dX11_rounds_6 rfl dX11_rounds_9 (by decide) hm (fun x11 q hm => ?_) (fun x11 q hm => ?_)
  · rw [if_pos q] at hm
    refine lv_aload_n hx hb dX11_rounds_12 rfl (lv_at hl 0 rfl) ?_
    refine z_iconst C dX11_rounds_13 ?_
    refine z_cVI (vs := [qI 1]) C (fun q hq => ct_X11_refused l g h l0 1 q hq) tw_1451 my_X11_refused (fun q hq => tg_X11_refused hq) rfl hl.1 Hh ⟨Nat.le_of_ble_eq_true rfl, Nat.le_of_ble_eq_true rfl, Nat.le_of_ble_eq_true rfl, Nat.le_of_ble_eq_true rfl⟩ (Nat.le_of_ble_eq_true rfl) dX11_rounds_14 rfl hm (fun h x12 H locs Hh hm => ?_)
    exact z_iret C hr hlocks Hh dX11_rounds_17 hm
  · rw [if_neg q] at hm
    refine lv_iload_n hx hb dX11_rounds_18 rfl (lv_at hl 1 rfl) ?_
    refine z_iconst C dX11_rounds_19 ?_
    refine z_bipush C dX11_rounds_20 rfl ?_
    refine z_cSIr (vs := [qI l1, qI 1, qI 60]) C (fun q hq => ct_X11_in l g h l1 1 60 q hq) tw_1576 my_X11_in rfl hl.1 Hh ⟨Nat.le_of_ble_eq_true rfl, Nat.le_of_ble_eq_true rfl, Nat.le_of_ble_eq_true rfl, Nat.le_of_ble_eq_true rfl⟩ (Nat.le_of_ble_eq_true rfl) dX11_rounds_22 rfl hm (fun x13 H locs Hh hm => ?_)
    refine z_if_ne (tgt := 34) C dX11_rounds_25 (by decide) rfl hm (fun _ hm => ?_) (fun _ hm => ?_)
    · refine lv_aload_n hx hb dX11_rounds_34 rfl (lv_at hl 0 rfl) ?_
      refine z_cVv (vs := []) C (fun q hq => ct_X11_remembers l g h l0 q hq) tw_1938 my_X11_remembers (fun q hq => tg_X11_remembers hq) rfl hl.1 Hh ⟨Nat.le_of_ble_eq_true rfl, Nat.le_of_ble_eq_true rfl, Nat.le_of_ble_eq_true rfl, Nat.le_of_ble_eq_true rfl⟩ (Nat.le_of_ble_eq_true rfl) dX11_rounds_35 rfl hm (fun h H locs Hh hm => ?_)
      refine lv_aload_n hx hb dX11_rounds_38 rfl (lv_at hl 0 rfl) ?_
      refine z_cVv (vs := []) C (fun q hq => ct_X11_starts l g h l0 q hq) tw_1718 my_X11_starts (fun q hq => tg_X11_starts hq) rfl hl.1 Hh ⟨Nat.le_of_ble_eq_true rfl, Nat.le_of_ble_eq_true rfl, Nat.le_of_ble_eq_true rfl, Nat.le_of_ble_eq_true rfl⟩ (Nat.le_of_ble_eq_true rfl) dX11_rounds_39 rfl hm (fun h H locs Hh hm => ?_)
      refine lv_aload_n hx hb dX11_rounds_42 rfl (lv_at hl 0 rfl) ?_
      refine lv_iload_n hx hb dX11_rounds_43 rfl (lv_at hl 1 rfl) ?_
      refine z_cVv (vs := [qI l1]) C (fun q hq => ct_X11_steps l g h l0 l1 q hq) tw_1722 my_X11_steps (fun q hq => tg_X11_steps hq) rfl hl.1 Hh ⟨Nat.le_of_ble_eq_true rfl, Nat.le_of_ble_eq_true rfl, Nat.le_of_ble_eq_true rfl, Nat.le_of_ble_eq_true rfl⟩ (Nat.le_of_ble_eq_true rfl) dX11_rounds_44 rfl hm (fun h H locs Hh hm => ?_)
      refine z_iconst C dX11_rounds_47 ?_
      refine lv_istore_n (lv' := [(2, qI 0), (0, qR g l0), (1, qI l1)]) hx hb dX11_rounds_48 rfl hl (by decide) rfl (fun ls hl => ?_)
      exact KL49 FU h l0 l1 0 _ _ _ Hh (lv_sub hl [1, 2, 0] rfl) hm
    · refine lv_aload_n hx hb dX11_rounds_28 rfl (lv_at hl 0 rfl) ?_
      refine z_iconst C dX11_rounds_29 ?_
      refine z_cVI (vs := [qI 2]) C (fun q hq => ct_X11_refused l g h l0 2 q hq) tw_1451 my_X11_refused (fun q hq => tg_X11_refused hq) rfl hl.1 Hh ⟨Nat.le_of_ble_eq_true rfl, Nat.le_of_ble_eq_true rfl, Nat.le_of_ble_eq_true rfl, Nat.le_of_ble_eq_true rfl⟩ (Nat.le_of_ble_eq_true rfl) dX11_rounds_30 rfl hm (fun h x14 H locs Hh hm => ?_)
      exact z_iret C hr hlocks Hh dX11_rounds_33 hm
theorem tg_X11_draw {h : Hp} {l0 l1 l2 l3 : Int} {r : Hp × Int} (hm : M_X11_draw h l0 l1 l2 l3 = some r) : hT h l0 = 21 := (tk_inv hm).1
set_option maxRecDepth 100000 in
set_option maxHeartbeats 4000000 in
theorem ct_X11_draw (l : Launch) (g : zGeo) (h0 : Hp) (l0 l1 l2 l3 : Int) (r : Hp × Int) (hm : M_X11_draw h0 l0 l1 l2 l3 = some r) : zM l yX11_draw cX11_draw 4 (some .boolean) 2 45 0 0 g h0 [qR g l0, qI l1, qI l2, qI l3] r.1 (some (qI r.2)) := by
  refine z_meth (by decide) (Nat.le_of_ble_eq_true rfl) ?_
  intro p e s m args below meth c H ls C hr hlocks hnm Hh hl
  have C : zC p m c cX11_draw 4 s args RX11 g := C
  have hnm : meth.name = "draw" := hnm
  have hx := C.1.1
  have hb := C.1.2.1
  have hl : lv_has ls 4 [(0, qR g l0), (1, qI l1), (2, qI l2), (3, qI l3)] := hl
  unfold M_X11_draw at hm
  replace hm := (tk_inv hm).2
  generalize h0 = h at Hh hm
  refine lv_aload_n hx hb dX11_draw_0 rfl (lv_at hl 0 rfl) ?_
  refine z_iconst C dX11_draw_1 ?_
  refine z_putI C hnm pl_11_78 Hh dX11_draw_2 rfl hm (fun h H locs Hh hm => ?_)
  refine lv_aload_n hx hb dX11_draw_5 rfl (lv_at hl 0 rfl) ?_
  refine lv_iload_n hx hb dX11_draw_6 rfl (lv_at hl 1 rfl) ?_
  refine lv_iload_n hx hb dX11_draw_7 rfl (lv_at hl 2 rfl) ?_
  refine z_cVIr (vs := [qI l1, qI l2]) C (fun q hq => ct_X11_isPlace l g h l0 l1 l2 q hq) tw_1698 my_X11_isPlace (fun q hq => tg_X11_isPlace hq) rfl hl.1 Hh ⟨Nat.le_of_ble_eq_true rfl, Nat.le_of_ble_eq_true rfl, Nat.le_of_ble_eq_true rfl, Nat.le_of_ble_eq_true rfl⟩ (Nat.le_of_ble_eq_true rfl) dX11_draw_8 rfl hm (fun x1 H locs Hh hm => ?_)
  refine z_if_eq (tgt := 22) C dX11_draw_11 (by decide) rfl hm (fun _ hm => ?_) (fun _ hm => ?_)
  · refine lv_aload_n hx hb dX11_draw_22 rfl (lv_at hl 0 rfl) ?_
    refine z_iconst C dX11_draw_23 ?_
    refine z_cVI (vs := [qI 1]) C (fun q hq => ct_X11_denied l g h l0 1 q hq) tw_1946 my_X11_denied (fun q hq => tg_X11_denied hq) rfl hl.1 Hh ⟨Nat.le_of_ble_eq_true rfl, Nat.le_of_ble_eq_true rfl, Nat.le_of_ble_eq_true rfl, Nat.le_of_ble_eq_true rfl⟩ (Nat.le_of_ble_eq_true rfl) dX11_draw_24 rfl hm (fun h x2 H locs Hh hm => ?_)
    obtain ⟨hz, hm⟩ := zb1_inv hm
    exact z_zretC C hr hlocks Hh dX11_draw_27 hz hm
  · refine lv_aload_n hx hb dX11_draw_14 rfl (lv_at hl 0 rfl) ?_
    refine lv_iload_n hx hb dX11_draw_15 rfl (lv_at hl 3 rfl) ?_
    refine z_cVIr (vs := [qI l3]) C (fun q hq => ct_X11_isMark l g h l0 l3 q hq) tw_1773 my_X11_isMark (fun q hq => tg_X11_isMark hq) rfl hl.1 Hh ⟨Nat.le_of_ble_eq_true rfl, Nat.le_of_ble_eq_true rfl, Nat.le_of_ble_eq_true rfl, Nat.le_of_ble_eq_true rfl⟩ (Nat.le_of_ble_eq_true rfl) dX11_draw_16 rfl hm (fun x4 H locs Hh hm => ?_)
    refine z_if_ne (tgt := 28) C dX11_draw_19 (by decide) rfl hm (fun _ hm => ?_) (fun _ hm => ?_)
    · refine lv_aload_n hx hb dX11_draw_28 rfl (lv_at hl 0 rfl) ?_
      refine z_getR C fl_11_17 Hh dX11_draw_29 rfl hm (fun x5 hm => ?_)
      refine z_bipush C dX11_draw_32 rfl ?_
      refine lv_iload_n hx hb dX11_draw_34 rfl (lv_at hl 1 rfl) ?_
      refine z_imul C dX11_draw_35 ?_
      refine lv_aload_n hx hb dX11_draw_36 rfl (lv_at hl 0 rfl) ?_
      refine lv_iload_n hx hb dX11_draw_37 rfl (lv_at hl 2 rfl) ?_
      refine z_cVIr (vs := [qI l2]) C (fun q hq => ct_X11_placeOf l g h l0 l2 q hq) tw_1702 my_X11_placeOf (fun q hq => tg_X11_placeOf hq) rfl hl.1 Hh ⟨Nat.le_of_ble_eq_true rfl, Nat.le_of_ble_eq_true rfl, Nat.le_of_ble_eq_true rfl, Nat.le_of_ble_eq_true rfl⟩ (Nat.le_of_ble_eq_true rfl) dX11_draw_38 rfl hm (fun x6 H locs Hh hm => ?_)
      refine z_iadd C dX11_draw_41 ?_
      refine z_iald C Hh dX11_draw_42 hm (fun x7 hm => ?_)
      refine lv_iload_n hx hb dX11_draw_43 rfl (lv_at hl 3 rfl) ?_
      refine z_icmp_ne (tgt := 53) C dX11_draw_44 (by decide) rfl rfl hm (fun _ hm => ?_) (fun _ hm => ?_)
      · refine lv_aload_n hx hb dX11_draw_53 rfl (lv_at hl 0 rfl) ?_
        refine z_cVv (vs := []) C (fun q hq => ct_X11_remembers l g h l0 q hq) tw_1938 my_X11_remembers (fun q hq => tg_X11_remembers hq) rfl hl.1 Hh ⟨Nat.le_of_ble_eq_true rfl, Nat.le_of_ble_eq_true rfl, Nat.le_of_ble_eq_true rfl, Nat.le_of_ble_eq_true rfl⟩ (Nat.le_of_ble_eq_true rfl) dX11_draw_54 rfl hm (fun h H locs Hh hm => ?_)
        refine lv_aload_n hx hb dX11_draw_57 rfl (lv_at hl 0 rfl) ?_
        refine z_getR C fl_11_17 Hh dX11_draw_58 rfl hm (fun x8 hm => ?_)
        refine z_bipush C dX11_draw_61 rfl ?_
        refine lv_iload_n hx hb dX11_draw_63 rfl (lv_at hl 1 rfl) ?_
        refine z_imul C dX11_draw_64 ?_
        refine lv_aload_n hx hb dX11_draw_65 rfl (lv_at hl 0 rfl) ?_
        refine lv_iload_n hx hb dX11_draw_66 rfl (lv_at hl 2 rfl) ?_
        refine z_cVIr (vs := [qI l2]) C (fun q hq => ct_X11_placeOf l g h l0 l2 q hq) tw_1702 my_X11_placeOf (fun q hq => tg_X11_placeOf hq) rfl hl.1 Hh ⟨Nat.le_of_ble_eq_true rfl, Nat.le_of_ble_eq_true rfl, Nat.le_of_ble_eq_true rfl, Nat.le_of_ble_eq_true rfl⟩ (Nat.le_of_ble_eq_true rfl) dX11_draw_67 rfl hm (fun x9 H locs Hh hm => ?_)
        refine z_iadd C dX11_draw_70 ?_
        refine lv_iload_n hx hb dX11_draw_71 rfl (lv_at hl 3 rfl) ?_
        refine z_iast C Hh dX11_draw_72 hm (fun h H locs Hh hm => ?_)
        refine lv_aload_n hx hb dX11_draw_73 rfl (lv_at hl 0 rfl) ?_
        refine z_cVI (vs := []) C (fun q hq => ct_X11_granted l g h l0 q hq) tw_1950 my_X11_granted (fun q hq => tg_X11_granted hq) rfl hl.1 Hh ⟨Nat.le_of_ble_eq_true rfl, Nat.le_of_ble_eq_true rfl, Nat.le_of_ble_eq_true rfl, Nat.le_of_ble_eq_true rfl⟩ (Nat.le_of_ble_eq_true rfl) dX11_draw_74 rfl hm (fun h x10 H locs Hh hm => ?_)
        obtain ⟨hz, hm⟩ := zb1_inv hm
        exact z_zretC C hr hlocks Hh dX11_draw_77 hz hm
      · refine lv_aload_n hx hb dX11_draw_47 rfl (lv_at hl 0 rfl) ?_
        refine z_iconst C dX11_draw_48 ?_
        refine z_cVI (vs := [qI 5]) C (fun q hq => ct_X11_denied l g h l0 5 q hq) tw_1946 my_X11_denied (fun q hq => tg_X11_denied hq) rfl hl.1 Hh ⟨Nat.le_of_ble_eq_true rfl, Nat.le_of_ble_eq_true rfl, Nat.le_of_ble_eq_true rfl, Nat.le_of_ble_eq_true rfl⟩ (Nat.le_of_ble_eq_true rfl) dX11_draw_49 rfl hm (fun h x12 H locs Hh hm => ?_)
        obtain ⟨hz, hm⟩ := zb1_inv hm
        exact z_zretC C hr hlocks Hh dX11_draw_52 hz hm
    · refine lv_aload_n hx hb dX11_draw_22 rfl (lv_at hl 0 rfl) ?_
      refine z_iconst C dX11_draw_23 ?_
      refine z_cVI (vs := [qI 1]) C (fun q hq => ct_X11_denied l g h l0 1 q hq) tw_1946 my_X11_denied (fun q hq => tg_X11_denied hq) rfl hl.1 Hh ⟨Nat.le_of_ble_eq_true rfl, Nat.le_of_ble_eq_true rfl, Nat.le_of_ble_eq_true rfl, Nat.le_of_ble_eq_true rfl⟩ (Nat.le_of_ble_eq_true rfl) dX11_draw_24 rfl hm (fun h x14 H locs Hh hm => ?_)
      obtain ⟨hz, hm⟩ := zb1_inv hm
      exact z_zretC C hr hlocks Hh dX11_draw_27 hz hm
theorem tg_X11_mend {h : Hp} {l0 l1 : Int} {r : Hp × Int} (hm : M_X11_mend h l0 l1 = some r) : hT h l0 = 21 := (tk_inv hm).1
set_option maxRecDepth 100000 in
set_option maxHeartbeats 4000000 in
theorem ct_X11_mend (l : Launch) (g : zGeo) (h0 : Hp) (l0 l1 : Int) (r : Hp × Int) (hm : M_X11_mend h0 l0 l1 = some r) : zM l yX11_mend cX11_mend 3 (some .boolean) 2 42 0 0 g h0 [qR g l0, qI l1] r.1 (some (qI r.2)) := by
  refine z_meth (by decide) (Nat.le_of_ble_eq_true rfl) ?_
  intro p e s m args below meth c H ls C hr hlocks hnm Hh hl
  have C : zC p m c cX11_mend 3 s args RX11 g := C
  have hnm : meth.name = "mend" := hnm
  have hx := C.1.1
  have hb := C.1.2.1
  have hl : lv_has ls 3 [(0, qR g l0), (1, qI l1)] := hl
  unfold M_X11_mend at hm
  replace hm := (tk_inv hm).2
  generalize h0 = h at Hh hm
  have K101 : ∀ (h : Hp) (l0 : Int) (H : Heap) (locs : List Loc) (ls : Array Slot), zH g s h H locs → lv_has ls 3 [(0, qR g l0)] → M_X11_mend_p101 h l0 = some r → W p l e { frames := 2, cells := 0, slots := 0, locals := 42 } s m args below meth c H locs 0 0 (zQ below g r.1 (some (qI r.2)) args s 0 0) (F0 m 101 ls []) := by
    intro h l0  H locs ls Hh hl hm
    unfold M_X11_mend_p101 at hm
    refine lv_aload_n hx hb dX11_mend_101 rfl (lv_at hl 0 rfl) ?_
    refine z_cVI (vs := []) C (fun q hq => ct_X11_granted l g h l0 q hq) tw_1950 my_X11_granted (fun q hq => tg_X11_granted hq) rfl hl.1 Hh ⟨Nat.le_of_ble_eq_true rfl, Nat.le_of_ble_eq_true rfl, Nat.le_of_ble_eq_true rfl, Nat.le_of_ble_eq_true rfl⟩ (Nat.le_of_ble_eq_true rfl) dX11_mend_102 rfl hm (fun h x1 H locs Hh hm => ?_)
    obtain ⟨hz, hm⟩ := zb1_inv hm
    exact z_zretC C hr hlocks Hh dX11_mend_105 hz hm
  have KL74 : ∀ (n : Nat) (h : Hp) (l0 l1 l2 : Int) (H : Heap) (locs : List Loc) (ls : Array Slot), zH g s h H locs → lv_has ls 3 [(0, qR g l0), (1, qI l1), (2, qI l2)] → M_X11_mend_w74 n h l0 l1 l2 = some r → W p l e { frames := 2, cells := 0, slots := 0, locals := 42 } s m args below meth c H locs 0 0 (zQ below g r.1 (some (qI r.2)) args s 0 0) (F0 m 74 ls []) := by
    intro n
    induction n with
    | zero => intro h l0 l1 l2 H locs ls Hh hl hm; cases hm
    | succ n ih74 =>
      intro h l0 l1 l2 H locs ls Hh hl hm
      obtain ⟨z74, hm, hc74⟩ := wh_inv hm
      have hm : M_X11_mend_b74 h l0 l1 l2 = some z74 := hm
      unfold M_X11_mend_b74 at hm
      refine lv_iload_n hx hb dX11_mend_74 rfl (lv_at hl 2 rfl) ?_
      refine z_iconst C dX11_mend_75 ?_
      refine z_icmp_ge (tgt := 101) C dX11_mend_76 (by decide) rfl lq_p4 hm (fun _ hm => ?_) (fun _ hm => ?_)
      · cases hm
        exact K101 h l0 _ _ _ Hh (lv_sub hl [0] rfl) hc74
      · refine lv_aload_n hx hb dX11_mend_79 rfl (lv_at hl 0 rfl) ?_
        refine z_getR C fl_11_17 Hh dX11_mend_80 rfl hm (fun x3 hm => ?_)
        refine z_sipush C dX11_mend_83 rfl ?_
        refine z_iconst C dX11_mend_86 ?_
        refine lv_iload_n hx hb dX11_mend_87 rfl (lv_at hl 1 rfl) ?_
        refine z_imul C dX11_mend_88 ?_
        refine z_iadd C dX11_mend_89 ?_
        refine lv_iload_n hx hb dX11_mend_90 rfl (lv_at hl 2 rfl) ?_
        refine z_iadd C dX11_mend_91 ?_
        refine z_bipush C dX11_mend_92 rfl ?_
        refine z_iast C Hh dX11_mend_94 hm (fun h H locs Hh hm => ?_)
        refine z_iinc (x := l2) (k := 2) (lv' := [(2, qI (l2 + 1)), (0, qR g l0), (1, qI l1)]) C dX11_mend_95 hl rfl (by decide) rfl (fun ls hl => ?_)
        refine lv_goto (tgt := 74) hx hb dX11_mend_98 (by decide) ?_
        cases hm
        exact ih74 h l0 l1 (l2 + 1) _ _ _ Hh (lv_sub hl [1, 2, 0] rfl) hc74
  refine lv_aload_n hx hb dX11_mend_0 rfl (lv_at hl 0 rfl) ?_
  refine z_iconst C dX11_mend_1 ?_
  refine z_putI C hnm pl_11_78 Hh dX11_mend_2 rfl hm (fun h H locs Hh hm => ?_)
  refine lv_aload_n hx hb dX11_mend_5 rfl (lv_at hl 0 rfl) ?_
  refine lv_iload_n hx hb dX11_mend_6 rfl (lv_at hl 1 rfl) ?_
  refine z_cVIr (vs := [qI l1]) C (fun q hq => ct_X11_isTown l g h l0 l1 q hq) tw_1686 my_X11_isTown (fun q hq => tg_X11_isTown hq) rfl hl.1 Hh ⟨Nat.le_of_ble_eq_true rfl, Nat.le_of_ble_eq_true rfl, Nat.le_of_ble_eq_true rfl, Nat.le_of_ble_eq_true rfl⟩ (Nat.le_of_ble_eq_true rfl) dX11_mend_7 rfl hm (fun x4 H locs Hh hm => ?_)
  refine z_if_ne (tgt := 19) C dX11_mend_10 (by decide) rfl hm (fun _ hm => ?_) (fun _ hm => ?_)
  · refine lv_aload_n hx hb dX11_mend_19 rfl (lv_at hl 0 rfl) ?_
    refine z_getR C fl_11_17 Hh dX11_mend_20 rfl hm (fun x5 hm => ?_)
    refine z_sipush C dX11_mend_23 rfl ?_
    refine lv_iload_n hx hb dX11_mend_26 rfl (lv_at hl 1 rfl) ?_
    refine z_iadd C dX11_mend_27 ?_
    refine z_iald C Hh dX11_mend_28 hm (fun x6 hm => ?_)
    refine z_bipush C dX11_mend_29 rfl ?_
    refine z_icmp_eq (tgt := 49) C dX11_mend_31 (by decide) rfl lq_m2 hm (fun _ hm => ?_) (fun _ hm => ?_)
    · refine lv_aload_n hx hb dX11_mend_49 rfl (lv_at hl 0 rfl) ?_
      refine z_iconst C dX11_mend_50 ?_
      refine z_cVI (vs := [qI 5]) C (fun q hq => ct_X11_denied l g h l0 5 q hq) tw_1946 my_X11_denied (fun q hq => tg_X11_denied hq) rfl hl.1 Hh ⟨Nat.le_of_ble_eq_true rfl, Nat.le_of_ble_eq_true rfl, Nat.le_of_ble_eq_true rfl, Nat.le_of_ble_eq_true rfl⟩ (Nat.le_of_ble_eq_true rfl) dX11_mend_51 rfl hm (fun h x7 H locs Hh hm => ?_)
      obtain ⟨hz, hm⟩ := zb1_inv hm
      exact z_zretC C hr hlocks Hh dX11_mend_54 hz hm
    · refine lv_aload_n hx hb dX11_mend_34 rfl (lv_at hl 0 rfl) ?_
      refine z_getR C fl_11_17 Hh dX11_mend_35 rfl hm (fun x9 hm => ?_)
      refine z_sipush C dX11_mend_38 rfl ?_
      refine z_iconst C dX11_mend_41 ?_
      refine lv_iload_n hx hb dX11_mend_42 rfl (lv_at hl 1 rfl) ?_
      refine z_imul C dX11_mend_43 ?_
      refine z_iadd C dX11_mend_44 ?_
      refine z_iald C Hh dX11_mend_45 hm (fun x10 hm => ?_)
      refine z_if_ne (tgt := 55) C dX11_mend_46 (by decide) rfl hm (fun _ hm => ?_) (fun _ hm => ?_)
      · refine lv_aload_n hx hb dX11_mend_55 rfl (lv_at hl 0 rfl) ?_
        refine z_cVv (vs := []) C (fun q hq => ct_X11_remembers l g h l0 q hq) tw_1938 my_X11_remembers (fun q hq => tg_X11_remembers hq) rfl hl.1 Hh ⟨Nat.le_of_ble_eq_true rfl, Nat.le_of_ble_eq_true rfl, Nat.le_of_ble_eq_true rfl, Nat.le_of_ble_eq_true rfl⟩ (Nat.le_of_ble_eq_true rfl) dX11_mend_56 rfl hm (fun h H locs Hh hm => ?_)
        refine lv_aload_n hx hb dX11_mend_59 rfl (lv_at hl 0 rfl) ?_
        refine z_getR C fl_11_17 Hh dX11_mend_60 rfl hm (fun x11 hm => ?_)
        refine z_sipush C dX11_mend_63 rfl ?_
        refine z_iconst C dX11_mend_66 ?_
        refine lv_iload_n hx hb dX11_mend_67 rfl (lv_at hl 1 rfl) ?_
        refine z_imul C dX11_mend_68 ?_
        refine z_iadd C dX11_mend_69 ?_
        refine z_iconst C dX11_mend_70 ?_
        refine z_iast C Hh dX11_mend_71 hm (fun h H locs Hh hm => ?_)
        refine z_iconst C dX11_mend_72 ?_
        refine lv_istore_n (lv' := [(2, qI 1), (0, qR g l0), (1, qI l1)]) hx hb dX11_mend_73 rfl hl (by decide) rfl (fun ls hl => ?_)
        exact KL74 FU h l0 l1 1 _ _ _ Hh (lv_sub hl [1, 2, 0] rfl) hm
      · refine lv_aload_n hx hb dX11_mend_49 rfl (lv_at hl 0 rfl) ?_
        refine z_iconst C dX11_mend_50 ?_
        refine z_cVI (vs := [qI 5]) C (fun q hq => ct_X11_denied l g h l0 5 q hq) tw_1946 my_X11_denied (fun q hq => tg_X11_denied hq) rfl hl.1 Hh ⟨Nat.le_of_ble_eq_true rfl, Nat.le_of_ble_eq_true rfl, Nat.le_of_ble_eq_true rfl, Nat.le_of_ble_eq_true rfl⟩ (Nat.le_of_ble_eq_true rfl) dX11_mend_51 rfl hm (fun h x12 H locs Hh hm => ?_)
        obtain ⟨hz, hm⟩ := zb1_inv hm
        exact z_zretC C hr hlocks Hh dX11_mend_54 hz hm
  · refine lv_aload_n hx hb dX11_mend_13 rfl (lv_at hl 0 rfl) ?_
    refine z_iconst C dX11_mend_14 ?_
    refine z_cVI (vs := [qI 1]) C (fun q hq => ct_X11_denied l g h l0 1 q hq) tw_1946 my_X11_denied (fun q hq => tg_X11_denied hq) rfl hl.1 Hh ⟨Nat.le_of_ble_eq_true rfl, Nat.le_of_ble_eq_true rfl, Nat.le_of_ble_eq_true rfl, Nat.le_of_ble_eq_true rfl⟩ (Nat.le_of_ble_eq_true rfl) dX11_mend_15 rfl hm (fun h x14 H locs Hh hm => ?_)
    obtain ⟨hz, hm⟩ := zb1_inv hm
    exact z_zretC C hr hlocks Hh dX11_mend_18 hz hm
theorem tg_X11_copy {h : Hp} {l0 l1 l2 : Int} {r : Hp × Int} (hm : M_X11_copy h l0 l1 l2 = some r) : hT h l0 = 21 := (tk_inv hm).1
set_option maxRecDepth 100000 in
set_option maxHeartbeats 4000000 in
theorem ct_X11_copy (l : Launch) (g : zGeo) (h0 : Hp) (l0 l1 l2 : Int) (r : Hp × Int) (hm : M_X11_copy h0 l0 l1 l2 = some r) : zM l yX11_copy cX11_copy 3 (some .boolean) 2 42 0 0 g h0 [qR g l0, qI l1, qI l2] r.1 (some (qI r.2)) := by
  refine z_meth (by decide) (Nat.le_of_ble_eq_true rfl) ?_
  intro p e s m args below meth c H ls C hr hlocks hnm Hh hl
  have C : zC p m c cX11_copy 3 s args RX11 g := C
  have hnm : meth.name = "copy" := hnm
  have hx := C.1.1
  have hb := C.1.2.1
  have hl : lv_has ls 3 [(0, qR g l0), (1, qI l1), (2, qI l2)] := hl
  unfold M_X11_copy at hm
  replace hm := (tk_inv hm).2
  generalize h0 = h at Hh hm
  refine lv_aload_n hx hb dX11_copy_0 rfl (lv_at hl 0 rfl) ?_
  refine z_iconst C dX11_copy_1 ?_
  refine z_putI C hnm pl_11_78 Hh dX11_copy_2 rfl hm (fun h H locs Hh hm => ?_)
  refine lv_aload_n hx hb dX11_copy_5 rfl (lv_at hl 0 rfl) ?_
  refine lv_iload_n hx hb dX11_copy_6 rfl (lv_at hl 1 rfl) ?_
  refine z_cVIr (vs := [qI l1]) C (fun q hq => ct_X11_isTown l g h l0 l1 q hq) tw_1686 my_X11_isTown (fun q hq => tg_X11_isTown hq) rfl hl.1 Hh ⟨Nat.le_of_ble_eq_true rfl, Nat.le_of_ble_eq_true rfl, Nat.le_of_ble_eq_true rfl, Nat.le_of_ble_eq_true rfl⟩ (Nat.le_of_ble_eq_true rfl) dX11_copy_7 rfl hm (fun x1 H locs Hh hm => ?_)
  refine z_if_eq (tgt := 21) C dX11_copy_10 (by decide) rfl hm (fun _ hm => ?_) (fun _ hm => ?_)
  · refine lv_aload_n hx hb dX11_copy_21 rfl (lv_at hl 0 rfl) ?_
    refine z_iconst C dX11_copy_22 ?_
    refine z_cVI (vs := [qI 1]) C (fun q hq => ct_X11_denied l g h l0 1 q hq) tw_1946 my_X11_denied (fun q hq => tg_X11_denied hq) rfl hl.1 Hh ⟨Nat.le_of_ble_eq_true rfl, Nat.le_of_ble_eq_true rfl, Nat.le_of_ble_eq_true rfl, Nat.le_of_ble_eq_true rfl⟩ (Nat.le_of_ble_eq_true rfl) dX11_copy_23 rfl hm (fun h x2 H locs Hh hm => ?_)
    obtain ⟨hz, hm⟩ := zb1_inv hm
    exact z_zretC C hr hlocks Hh dX11_copy_26 hz hm
  · refine lv_aload_n hx hb dX11_copy_13 rfl (lv_at hl 0 rfl) ?_
    refine lv_iload_n hx hb dX11_copy_14 rfl (lv_at hl 2 rfl) ?_
    refine z_cVIr (vs := [qI l2]) C (fun q hq => ct_X11_isTown l g h l0 l2 q hq) tw_1686 my_X11_isTown (fun q hq => tg_X11_isTown hq) rfl hl.1 Hh ⟨Nat.le_of_ble_eq_true rfl, Nat.le_of_ble_eq_true rfl, Nat.le_of_ble_eq_true rfl, Nat.le_of_ble_eq_true rfl⟩ (Nat.le_of_ble_eq_true rfl) dX11_copy_15 rfl hm (fun x4 H locs Hh hm => ?_)
    refine z_if_ne (tgt := 27) C dX11_copy_18 (by decide) rfl hm (fun _ hm => ?_) (fun _ hm => ?_)
    · refine lv_aload_n hx hb dX11_copy_27 rfl (lv_at hl 0 rfl) ?_
      refine z_getR C fl_11_17 Hh dX11_copy_28 rfl hm (fun x5 hm => ?_)
      refine z_sipush C dX11_copy_31 rfl ?_
      refine lv_iload_n hx hb dX11_copy_34 rfl (lv_at hl 1 rfl) ?_
      refine z_iadd C dX11_copy_35 ?_
      refine z_iald C Hh dX11_copy_36 hm (fun x6 hm => ?_)
      refine lv_iload_n hx hb dX11_copy_37 rfl (lv_at hl 2 rfl) ?_
      refine z_icmp_ne (tgt := 47) C dX11_copy_38 (by decide) rfl rfl hm (fun _ hm => ?_) (fun _ hm => ?_)
      · refine lv_aload_n hx hb dX11_copy_47 rfl (lv_at hl 0 rfl) ?_
        refine z_cVv (vs := []) C (fun q hq => ct_X11_remembers l g h l0 q hq) tw_1938 my_X11_remembers (fun q hq => tg_X11_remembers hq) rfl hl.1 Hh ⟨Nat.le_of_ble_eq_true rfl, Nat.le_of_ble_eq_true rfl, Nat.le_of_ble_eq_true rfl, Nat.le_of_ble_eq_true rfl⟩ (Nat.le_of_ble_eq_true rfl) dX11_copy_48 rfl hm (fun h H locs Hh hm => ?_)
        refine lv_aload_n hx hb dX11_copy_51 rfl (lv_at hl 0 rfl) ?_
        refine z_getR C fl_11_17 Hh dX11_copy_52 rfl hm (fun x7 hm => ?_)
        refine z_sipush C dX11_copy_55 rfl ?_
        refine lv_iload_n hx hb dX11_copy_58 rfl (lv_at hl 1 rfl) ?_
        refine z_iadd C dX11_copy_59 ?_
        refine lv_iload_n hx hb dX11_copy_60 rfl (lv_at hl 2 rfl) ?_
        refine z_iast C Hh dX11_copy_61 hm (fun h H locs Hh hm => ?_)
        refine lv_aload_n hx hb dX11_copy_62 rfl (lv_at hl 0 rfl) ?_
        refine z_cVI (vs := []) C (fun q hq => ct_X11_granted l g h l0 q hq) tw_1950 my_X11_granted (fun q hq => tg_X11_granted hq) rfl hl.1 Hh ⟨Nat.le_of_ble_eq_true rfl, Nat.le_of_ble_eq_true rfl, Nat.le_of_ble_eq_true rfl, Nat.le_of_ble_eq_true rfl⟩ (Nat.le_of_ble_eq_true rfl) dX11_copy_63 rfl hm (fun h x8 H locs Hh hm => ?_)
        obtain ⟨hz, hm⟩ := zb1_inv hm
        exact z_zretC C hr hlocks Hh dX11_copy_66 hz hm
      · refine lv_aload_n hx hb dX11_copy_41 rfl (lv_at hl 0 rfl) ?_
        refine z_iconst C dX11_copy_42 ?_
        refine z_cVI (vs := [qI 5]) C (fun q hq => ct_X11_denied l g h l0 5 q hq) tw_1946 my_X11_denied (fun q hq => tg_X11_denied hq) rfl hl.1 Hh ⟨Nat.le_of_ble_eq_true rfl, Nat.le_of_ble_eq_true rfl, Nat.le_of_ble_eq_true rfl, Nat.le_of_ble_eq_true rfl⟩ (Nat.le_of_ble_eq_true rfl) dX11_copy_43 rfl hm (fun h x10 H locs Hh hm => ?_)
        obtain ⟨hz, hm⟩ := zb1_inv hm
        exact z_zretC C hr hlocks Hh dX11_copy_46 hz hm
    · refine lv_aload_n hx hb dX11_copy_21 rfl (lv_at hl 0 rfl) ?_
      refine z_iconst C dX11_copy_22 ?_
      refine z_cVI (vs := [qI 1]) C (fun q hq => ct_X11_denied l g h l0 1 q hq) tw_1946 my_X11_denied (fun q hq => tg_X11_denied hq) rfl hl.1 Hh ⟨Nat.le_of_ble_eq_true rfl, Nat.le_of_ble_eq_true rfl, Nat.le_of_ble_eq_true rfl, Nat.le_of_ble_eq_true rfl⟩ (Nat.le_of_ble_eq_true rfl) dX11_copy_23 rfl hm (fun h x12 H locs Hh hm => ?_)
      obtain ⟨hz, hm⟩ := zb1_inv hm
      exact z_zretC C hr hlocks Hh dX11_copy_26 hz hm
theorem tg_X11_seed {h : Hp} {l0 l1 : Int} {r : Hp × Int} (hm : M_X11_seed h l0 l1 = some r) : hT h l0 = 21 := (tk_inv hm).1
set_option maxRecDepth 100000 in
set_option maxHeartbeats 4000000 in
theorem ct_X11_seed (l : Launch) (g : zGeo) (h0 : Hp) (l0 l1 : Int) (r : Hp × Int) (hm : M_X11_seed h0 l0 l1 = some r) : zM l yX11_seed cX11_seed 2 (some .boolean) 2 42 0 0 g h0 [qR g l0, qI l1] r.1 (some (qI r.2)) := by
  refine z_meth (by decide) (Nat.le_of_ble_eq_true rfl) ?_
  intro p e s m args below meth c H ls C hr hlocks hnm Hh hl
  have C : zC p m c cX11_seed 2 s args RX11 g := C
  have hnm : meth.name = "seed" := hnm
  have hx := C.1.1
  have hb := C.1.2.1
  have hl : lv_has ls 2 [(0, qR g l0), (1, qI l1)] := hl
  unfold M_X11_seed at hm
  replace hm := (tk_inv hm).2
  generalize h0 = h at Hh hm
  refine lv_aload_n hx hb dX11_seed_0 rfl (lv_at hl 0 rfl) ?_
  refine z_iconst C dX11_seed_1 ?_
  refine z_putI C hnm pl_11_78 Hh dX11_seed_2 rfl hm (fun h H locs Hh hm => ?_)
  refine lv_aload_n hx hb dX11_seed_5 rfl (lv_at hl 0 rfl) ?_
  refine z_getNonnull (tgt := 18) C fl_11_341 Hh dX11_seed_6 rfl dX11_seed_9 (by decide) hm (fun x1 q hm => ?_) (fun x1 q hm => ?_)
  · rw [if_pos q] at hm
    refine lv_aload_n hx hb dX11_seed_12 rfl (lv_at hl 0 rfl) ?_
    refine z_iconst C dX11_seed_13 ?_
    refine z_cVI (vs := [qI 1]) C (fun q hq => ct_X11_denied l g h l0 1 q hq) tw_1946 my_X11_denied (fun q hq => tg_X11_denied hq) rfl hl.1 Hh ⟨Nat.le_of_ble_eq_true rfl, Nat.le_of_ble_eq_true rfl, Nat.le_of_ble_eq_true rfl, Nat.le_of_ble_eq_true rfl⟩ (Nat.le_of_ble_eq_true rfl) dX11_seed_14 rfl hm (fun h x2 H locs Hh hm => ?_)
    obtain ⟨hz, hm⟩ := zb1_inv hm
    exact z_zretC C hr hlocks Hh dX11_seed_17 hz hm
  · rw [if_neg q] at hm
    refine lv_iload_n hx hb dX11_seed_18 rfl (lv_at hl 1 rfl) ?_
    refine z_iconst C dX11_seed_19 ?_
    refine z_ldcw (v := 65536) C dX11_seed_20 tw_1966 rfl ?_
    refine z_cSIr (vs := [qI l1, qI 0, qI 65536]) C (fun q hq => ct_X11_in l g h l1 0 65536 q hq) tw_1576 my_X11_in rfl hl.1 Hh ⟨Nat.le_of_ble_eq_true rfl, Nat.le_of_ble_eq_true rfl, Nat.le_of_ble_eq_true rfl, Nat.le_of_ble_eq_true rfl⟩ (Nat.le_of_ble_eq_true rfl) dX11_seed_23 rfl hm (fun x4 H locs Hh hm => ?_)
    refine z_if_ne (tgt := 35) C dX11_seed_26 (by decide) rfl hm (fun _ hm => ?_) (fun _ hm => ?_)
    · refine lv_aload_n hx hb dX11_seed_35 rfl (lv_at hl 0 rfl) ?_
      refine z_getR C fl_11_17 Hh dX11_seed_36 rfl hm (fun x5 hm => ?_)
      refine z_sipush C dX11_seed_39 rfl ?_
      refine lv_iload_n hx hb dX11_seed_42 rfl (lv_at hl 1 rfl) ?_
      refine z_iast C Hh dX11_seed_43 hm (fun h H locs Hh hm => ?_)
      refine lv_aload_n hx hb dX11_seed_44 rfl (lv_at hl 0 rfl) ?_
      refine z_cVI (vs := []) C (fun q hq => ct_X11_granted l g h l0 q hq) tw_1950 my_X11_granted (fun q hq => tg_X11_granted hq) rfl hl.1 Hh ⟨Nat.le_of_ble_eq_true rfl, Nat.le_of_ble_eq_true rfl, Nat.le_of_ble_eq_true rfl, Nat.le_of_ble_eq_true rfl⟩ (Nat.le_of_ble_eq_true rfl) dX11_seed_45 rfl hm (fun h x6 H locs Hh hm => ?_)
      obtain ⟨hz, hm⟩ := zb1_inv hm
      exact z_zretC C hr hlocks Hh dX11_seed_48 hz hm
    · refine lv_aload_n hx hb dX11_seed_29 rfl (lv_at hl 0 rfl) ?_
      refine z_iconst C dX11_seed_30 ?_
      refine z_cVI (vs := [qI 2]) C (fun q hq => ct_X11_denied l g h l0 2 q hq) tw_1946 my_X11_denied (fun q hq => tg_X11_denied hq) rfl hl.1 Hh ⟨Nat.le_of_ble_eq_true rfl, Nat.le_of_ble_eq_true rfl, Nat.le_of_ble_eq_true rfl, Nat.le_of_ble_eq_true rfl⟩ (Nat.le_of_ble_eq_true rfl) dX11_seed_31 rfl hm (fun h x8 H locs Hh hm => ?_)
      obtain ⟨hz, hm⟩ := zb1_inv hm
      exact z_zretC C hr hlocks Hh dX11_seed_34 hz hm
theorem tg_X11_undo {h : Hp} {l0 : Int} {r : Hp × Int} (hm : M_X11_undo h l0 = some r) : hT h l0 = 21 := (tk_inv hm).1
set_option maxRecDepth 100000 in
set_option maxHeartbeats 4000000 in
theorem ct_X11_undo (l : Launch) (g : zGeo) (h0 : Hp) (l0 : Int) (r : Hp × Int) (hm : M_X11_undo h0 l0 = some r) : zM l yX11_undo cX11_undo 2 (some .boolean) 2 42 0 0 g h0 [qR g l0] r.1 (some (qI r.2)) := by
  refine z_meth (by decide) (Nat.le_of_ble_eq_true rfl) ?_
  intro p e s m args below meth c H ls C hr hlocks hnm Hh hl
  have C : zC p m c cX11_undo 2 s args RX11 g := C
  have hnm : meth.name = "undo" := hnm
  have hx := C.1.1
  have hb := C.1.2.1
  have hl : lv_has ls 2 [(0, qR g l0)] := hl
  unfold M_X11_undo at hm
  replace hm := (tk_inv hm).2
  generalize h0 = h at Hh hm
  have K72 : ∀ (h : Hp) (l0 : Int) (H : Heap) (locs : List Loc) (ls : Array Slot), zH g s h H locs → lv_has ls 2 [(0, qR g l0)] → M_X11_undo_p72 h l0 = some r → W p l e { frames := 2, cells := 0, slots := 0, locals := 42 } s m args below meth c H locs 0 0 (zQ below g r.1 (some (qI r.2)) args s 0 0) (F0 m 72 ls []) := by
    intro h l0  H locs ls Hh hl hm
    unfold M_X11_undo_p72 at hm
    refine lv_aload_n hx hb dX11_undo_72 rfl (lv_at hl 0 rfl) ?_
    refine z_cVI (vs := []) C (fun q hq => ct_X11_granted l g h l0 q hq) tw_1950 my_X11_granted (fun q hq => tg_X11_granted hq) rfl hl.1 Hh ⟨Nat.le_of_ble_eq_true rfl, Nat.le_of_ble_eq_true rfl, Nat.le_of_ble_eq_true rfl, Nat.le_of_ble_eq_true rfl⟩ (Nat.le_of_ble_eq_true rfl) dX11_undo_73 rfl hm (fun h x1 H locs Hh hm => ?_)
    obtain ⟨hz, hm⟩ := zb1_inv hm
    exact z_zretC C hr hlocks Hh dX11_undo_76 hz hm
  have KL38 : ∀ (n : Nat) (h : Hp) (l0 l1 : Int) (H : Heap) (locs : List Loc) (ls : Array Slot), zH g s h H locs → lv_has ls 2 [(0, qR g l0), (1, qI l1)] → M_X11_undo_w38 n h l0 l1 = some r → W p l e { frames := 2, cells := 0, slots := 0, locals := 42 } s m args below meth c H locs 0 0 (zQ below g r.1 (some (qI r.2)) args s 0 0) (F0 m 38 ls []) := by
    intro n
    induction n with
    | zero => intro h l0 l1 H locs ls Hh hl hm; cases hm
    | succ n ih38 =>
      intro h l0 l1 H locs ls Hh hl hm
      obtain ⟨z38, hm, hc38⟩ := wh_inv hm
      have hm : M_X11_undo_b38 h l0 l1 = some z38 := hm
      unfold M_X11_undo_b38 at hm
      refine lv_iload_n hx hb dX11_undo_38 rfl (lv_at hl 1 rfl) ?_
      refine z_sipush C dX11_undo_39 rfl ?_
      refine z_icmp_ge (tgt := 72) C dX11_undo_42 (by decide) rfl lq_p248 hm (fun _ hm => ?_) (fun _ hm => ?_)
      · cases hm
        exact K72 h l0 _ _ _ Hh (lv_sub hl [0] rfl) hc38
      · refine lv_aload_n hx hb dX11_undo_45 rfl (lv_at hl 0 rfl) ?_
        refine z_getR C fl_11_17 Hh dX11_undo_46 rfl hm (fun x3 hm => ?_)
        refine lv_iload_n hx hb dX11_undo_49 rfl (lv_at hl 1 rfl) ?_
        refine lv_aload_n hx hb dX11_undo_50 rfl (lv_at hl 0 rfl) ?_
        refine z_getR C fl_11_21 Hh dX11_undo_51 rfl hm (fun x4 hm => ?_)
        refine z_sipush C dX11_undo_54 rfl ?_
        refine lv_aload_n hx hb dX11_undo_57 rfl (lv_at hl 0 rfl) ?_
        refine z_getI C fl_11_343 Hh dX11_undo_58 rfl hm (fun x5 hm => ?_)
        refine z_imul C dX11_undo_61 ?_
        refine lv_iload_n hx hb dX11_undo_62 rfl (lv_at hl 1 rfl) ?_
        refine z_iadd C dX11_undo_63 ?_
        refine z_iald C Hh dX11_undo_64 hm (fun x6 hm => ?_)
        refine z_iast C Hh dX11_undo_65 hm (fun h H locs Hh hm => ?_)
        refine z_iinc (x := l1) (k := 1) (lv' := [(1, qI (l1 + 1)), (0, qR g l0)]) C dX11_undo_66 hl rfl (by decide) rfl (fun ls hl => ?_)
        refine lv_goto (tgt := 38) hx hb dX11_undo_69 (by decide) ?_
        cases hm
        exact ih38 h l0 (l1 + 1) _ _ _ Hh (lv_sub hl [1, 0] rfl) hc38
  refine lv_aload_n hx hb dX11_undo_0 rfl (lv_at hl 0 rfl) ?_
  refine z_iconst C dX11_undo_1 ?_
  refine z_putI C hnm pl_11_78 Hh dX11_undo_2 rfl hm (fun h H locs Hh hm => ?_)
  refine lv_aload_n hx hb dX11_undo_5 rfl (lv_at hl 0 rfl) ?_
  refine z_getNull (tgt := 19) C fl_11_341 Hh dX11_undo_6 rfl dX11_undo_9 (by decide) hm (fun x7 q hm => ?_) (fun x7 q hm => ?_)
  · rw [if_pos q] at hm
    refine lv_aload_n hx hb dX11_undo_19 rfl (lv_at hl 0 rfl) ?_
    refine z_bipush C dX11_undo_20 rfl ?_
    refine z_cVI (vs := [qI 6]) C (fun q hq => ct_X11_denied l g h l0 6 q hq) tw_1946 my_X11_denied (fun q hq => tg_X11_denied hq) rfl hl.1 Hh ⟨Nat.le_of_ble_eq_true rfl, Nat.le_of_ble_eq_true rfl, Nat.le_of_ble_eq_true rfl, Nat.le_of_ble_eq_true rfl⟩ (Nat.le_of_ble_eq_true rfl) dX11_undo_22 rfl hm (fun h x8 H locs Hh hm => ?_)
    obtain ⟨hz, hm⟩ := zb1_inv hm
    exact z_zretC C hr hlocks Hh dX11_undo_25 hz hm
  · rw [if_neg q] at hm
    refine lv_aload_n hx hb dX11_undo_12 rfl (lv_at hl 0 rfl) ?_
    refine z_getI C fl_11_343 Hh dX11_undo_13 rfl hm (fun x10 hm => ?_)
    refine z_if_ne (tgt := 26) C dX11_undo_16 (by decide) rfl hm (fun _ hm => ?_) (fun _ hm => ?_)
    · refine lv_aload_n hx hb dX11_undo_26 rfl (lv_at hl 0 rfl) ?_
      refine lv_dup hx hb dX11_undo_27 rfl ?_
      refine z_getI C fl_11_343 Hh dX11_undo_28 rfl hm (fun x11 hm => ?_)
      refine z_iconst C dX11_undo_31 ?_
      refine z_isub C dX11_undo_32 ?_
      refine z_putI C hnm pl_11_343 Hh dX11_undo_33 rfl hm (fun h H locs Hh hm => ?_)
      refine z_iconst C dX11_undo_36 ?_
      refine lv_istore_n (lv' := [(1, qI 0), (0, qR g l0)]) hx hb dX11_undo_37 rfl hl (by decide) rfl (fun ls hl => ?_)
      exact KL38 FU h l0 0 _ _ _ Hh (lv_sub hl [1, 0] rfl) hm
    · refine lv_aload_n hx hb dX11_undo_19 rfl (lv_at hl 0 rfl) ?_
      refine z_bipush C dX11_undo_20 rfl ?_
      refine z_cVI (vs := [qI 6]) C (fun q hq => ct_X11_denied l g h l0 6 q hq) tw_1946 my_X11_denied (fun q hq => tg_X11_denied hq) rfl hl.1 Hh ⟨Nat.le_of_ble_eq_true rfl, Nat.le_of_ble_eq_true rfl, Nat.le_of_ble_eq_true rfl, Nat.le_of_ble_eq_true rfl⟩ (Nat.le_of_ble_eq_true rfl) dX11_undo_22 rfl hm (fun h x12 H locs Hh hm => ?_)
      obtain ⟨hz, hm⟩ := zb1_inv hm
      exact z_zretC C hr hlocks Hh dX11_undo_25 hz hm
theorem tg_X11_keep {h : Hp} {l0 : Int} {r : Hp × Int} (hm : M_X11_keep h l0 = some r) : hT h l0 = 21 := (tk_inv hm).1
set_option maxRecDepth 100000 in
set_option maxHeartbeats 4000000 in
theorem ct_X11_keep (l : Launch) (g : zGeo) (h0 : Hp) (l0 : Int) (r : Hp × Int) (hm : M_X11_keep h0 l0 = some r) : zM l yX11_keep cX11_keep 2 (some .int) 1 21 0 0 g h0 [qR g l0] r.1 (some (qI r.2)) := by
  refine z_meth (by decide) (Nat.le_of_ble_eq_true rfl) ?_
  intro p e s m args below meth c H ls C hr hlocks hnm Hh hl
  have C : zC p m c cX11_keep 2 s args RX11 g := C
  have hnm : meth.name = "keep" := hnm
  have hx := C.1.1
  have hb := C.1.2.1
  have hl : lv_has ls 2 [(0, qR g l0)] := hl
  unfold M_X11_keep at hm
  replace hm := (tk_inv hm).2
  generalize h0 = h at Hh hm
  have K68 : ∀ (h : Hp) (l0 : Int) (H : Heap) (locs : List Loc) (ls : Array Slot), zH g s h H locs → lv_has ls 2 [(0, qR g l0)] → M_X11_keep_p68 h l0 = some r → W p l e { frames := 1, cells := 0, slots := 0, locals := 21 } s m args below meth c H locs 0 0 (zQ below g r.1 (some (qI r.2)) args s 0 0) (F0 m 68 ls []) := by
    intro h l0  H locs ls Hh hl hm
    unfold M_X11_keep_p68 at hm
    refine lv_aload_n hx hb dX11_keep_68 rfl (lv_at hl 0 rfl) ?_
    refine lv_dup hx hb dX11_keep_69 rfl ?_
    refine z_getI C fl_11_346 Hh dX11_keep_70 rfl hm (fun x1 hm => ?_)
    refine z_iconst C dX11_keep_73 ?_
    refine z_iadd C dX11_keep_74 ?_
    refine z_putI C hnm pl_11_346 Hh dX11_keep_75 rfl hm (fun h H locs Hh hm => ?_)
    refine lv_aload_n hx hb dX11_keep_78 rfl (lv_at hl 0 rfl) ?_
    refine lv_aload_n hx hb dX11_keep_79 rfl (lv_at hl 0 rfl) ?_
    refine z_getI C fl_11_346 Hh dX11_keep_80 rfl hm (fun x2 hm => ?_)
    refine z_iconst C dX11_keep_83 ?_
    refine z_isub C dX11_keep_84 ?_
    refine z_cVI (vs := [qI (x2 - 1)]) C (fun q hq => ct_X11_good l g h l0 (x2 - 1) q hq) tw_1670 my_X11_good (fun q hq => tg_X11_good hq) rfl hl.1 Hh ⟨Nat.le_of_ble_eq_true rfl, Nat.le_of_ble_eq_true rfl, Nat.le_of_ble_eq_true rfl, Nat.le_of_ble_eq_true rfl⟩ (Nat.le_of_ble_eq_true rfl) dX11_keep_85 rfl hm (fun h x3 H locs Hh hm => ?_)
    exact z_iret C hr hlocks Hh dX11_keep_88 hm
  have KL34 : ∀ (n : Nat) (h : Hp) (l0 l1 : Int) (H : Heap) (locs : List Loc) (ls : Array Slot), zH g s h H locs → lv_has ls 2 [(0, qR g l0), (1, qI l1)] → M_X11_keep_w34 n h l0 l1 = some r → W p l e { frames := 1, cells := 0, slots := 0, locals := 21 } s m args below meth c H locs 0 0 (zQ below g r.1 (some (qI r.2)) args s 0 0) (F0 m 34 ls []) := by
    intro n
    induction n with
    | zero => intro h l0 l1 H locs ls Hh hl hm; cases hm
    | succ n ih34 =>
      intro h l0 l1 H locs ls Hh hl hm
      obtain ⟨z34, hm, hc34⟩ := wh_inv hm
      have hm : M_X11_keep_b34 h l0 l1 = some z34 := hm
      unfold M_X11_keep_b34 at hm
      refine lv_iload_n hx hb dX11_keep_34 rfl (lv_at hl 1 rfl) ?_
      refine z_sipush C dX11_keep_35 rfl ?_
      refine z_icmp_ge (tgt := 68) C dX11_keep_38 (by decide) rfl lq_p248 hm (fun _ hm => ?_) (fun _ hm => ?_)
      · cases hm
        exact K68 h l0 _ _ _ Hh (lv_sub hl [0] rfl) hc34
      · refine lv_aload_n hx hb dX11_keep_41 rfl (lv_at hl 0 rfl) ?_
        refine z_getR C fl_11_24 Hh dX11_keep_42 rfl hm (fun x4 hm => ?_)
        refine z_sipush C dX11_keep_45 rfl ?_
        refine lv_aload_n hx hb dX11_keep_48 rfl (lv_at hl 0 rfl) ?_
        refine z_getI C fl_11_346 Hh dX11_keep_49 rfl hm (fun x5 hm => ?_)
        refine z_imul C dX11_keep_52 ?_
        refine lv_iload_n hx hb dX11_keep_53 rfl (lv_at hl 1 rfl) ?_
        refine z_iadd C dX11_keep_54 ?_
        refine lv_aload_n hx hb dX11_keep_55 rfl (lv_at hl 0 rfl) ?_
        refine z_getR C fl_11_17 Hh dX11_keep_56 rfl hm (fun x6 hm => ?_)
        refine lv_iload_n hx hb dX11_keep_59 rfl (lv_at hl 1 rfl) ?_
        refine z_iald C Hh dX11_keep_60 hm (fun x7 hm => ?_)
        refine z_iast C Hh dX11_keep_61 hm (fun h H locs Hh hm => ?_)
        refine z_iinc (x := l1) (k := 1) (lv' := [(1, qI (l1 + 1)), (0, qR g l0)]) C dX11_keep_62 hl rfl (by decide) rfl (fun ls hl => ?_)
        refine lv_goto (tgt := 34) hx hb dX11_keep_65 (by decide) ?_
        cases hm
        exact ih34 h l0 (l1 + 1) _ _ _ Hh (lv_sub hl [1, 0] rfl) hc34
  refine lv_aload_n hx hb dX11_keep_0 rfl (lv_at hl 0 rfl) ?_
  refine z_iconst C dX11_keep_1 ?_
  refine z_putI C hnm pl_11_78 Hh dX11_keep_2 rfl hm (fun h H locs Hh hm => ?_)
  refine lv_aload_n hx hb dX11_keep_5 rfl (lv_at hl 0 rfl) ?_
  refine z_getNonnull (tgt := 18) C fl_11_341 Hh dX11_keep_6 rfl dX11_keep_9 (by decide) hm (fun x8 q hm => ?_) (fun x8 q hm => ?_)
  · rw [if_pos q] at hm
    refine lv_aload_n hx hb dX11_keep_12 rfl (lv_at hl 0 rfl) ?_
    refine z_iconst C dX11_keep_13 ?_
    refine z_cVI (vs := [qI 1]) C (fun q hq => ct_X11_refused l g h l0 1 q hq) tw_1451 my_X11_refused (fun q hq => tg_X11_refused hq) rfl hl.1 Hh ⟨Nat.le_of_ble_eq_true rfl, Nat.le_of_ble_eq_true rfl, Nat.le_of_ble_eq_true rfl, Nat.le_of_ble_eq_true rfl⟩ (Nat.le_of_ble_eq_true rfl) dX11_keep_14 rfl hm (fun h x9 H locs Hh hm => ?_)
    exact z_iret C hr hlocks Hh dX11_keep_17 hm
  · rw [if_neg q] at hm
    refine lv_aload_n hx hb dX11_keep_18 rfl (lv_at hl 0 rfl) ?_
    refine z_getI C fl_11_346 Hh dX11_keep_19 rfl hm (fun x10 hm => ?_)
    refine z_iconst C dX11_keep_22 ?_
    refine z_icmp_ne (tgt := 32) C dX11_keep_23 (by decide) rfl lq_p3 hm (fun _ hm => ?_) (fun _ hm => ?_)
    · refine z_iconst C dX11_keep_32 ?_
      refine lv_istore_n (lv' := [(1, qI 0), (0, qR g l0)]) hx hb dX11_keep_33 rfl hl (by decide) rfl (fun ls hl => ?_)
      exact KL34 FU h l0 0 _ _ _ Hh (lv_sub hl [1, 0] rfl) hm
    · refine lv_aload_n hx hb dX11_keep_26 rfl (lv_at hl 0 rfl) ?_
      refine z_iconst C dX11_keep_27 ?_
      refine z_cVI (vs := [qI 3]) C (fun q hq => ct_X11_refused l g h l0 3 q hq) tw_1451 my_X11_refused (fun q hq => tg_X11_refused hq) rfl hl.1 Hh ⟨Nat.le_of_ble_eq_true rfl, Nat.le_of_ble_eq_true rfl, Nat.le_of_ble_eq_true rfl, Nat.le_of_ble_eq_true rfl⟩ (Nat.le_of_ble_eq_true rfl) dX11_keep_28 rfl hm (fun h x11 H locs Hh hm => ?_)
      exact z_iret C hr hlocks Hh dX11_keep_31 hm
theorem tg_X11_back {h : Hp} {l0 l1 : Int} {r : Hp × Int} (hm : M_X11_back h l0 l1 = some r) : hT h l0 = 21 := (tk_inv hm).1
set_option maxRecDepth 100000 in
set_option maxHeartbeats 4000000 in
theorem ct_X11_back (l : Launch) (g : zGeo) (h0 : Hp) (l0 l1 : Int) (r : Hp × Int) (hm : M_X11_back h0 l0 l1 = some r) : zM l yX11_back cX11_back 3 (some .boolean) 2 42 0 0 g h0 [qR g l0, qI l1] r.1 (some (qI r.2)) := by
  refine z_meth (by decide) (Nat.le_of_ble_eq_true rfl) ?_
  intro p e s m args below meth c H ls C hr hlocks hnm Hh hl
  have C : zC p m c cX11_back 3 s args RX11 g := C
  have hnm : meth.name = "back" := hnm
  have hx := C.1.1
  have hb := C.1.2.1
  have hl : lv_has ls 3 [(0, qR g l0), (1, qI l1)] := hl
  unfold M_X11_back at hm
  replace hm := (tk_inv hm).2
  generalize h0 = h at Hh hm
  have K63 : ∀ (h : Hp) (l0 : Int) (H : Heap) (locs : List Loc) (ls : Array Slot), zH g s h H locs → lv_has ls 3 [(0, qR g l0)] → M_X11_back_p63 h l0 = some r → W p l e { frames := 2, cells := 0, slots := 0, locals := 42 } s m args below meth c H locs 0 0 (zQ below g r.1 (some (qI r.2)) args s 0 0) (F0 m 63 ls []) := by
    intro h l0  H locs ls Hh hl hm
    unfold M_X11_back_p63 at hm
    refine lv_aload_n hx hb dX11_back_63 rfl (lv_at hl 0 rfl) ?_
    refine z_iconst C dX11_back_64 ?_
    refine z_putI C hnm pl_11_343 Hh dX11_back_65 rfl hm (fun h H locs Hh hm => ?_)
    refine lv_aload_n hx hb dX11_back_68 rfl (lv_at hl 0 rfl) ?_
    refine z_cVI (vs := []) C (fun q hq => ct_X11_granted l g h l0 q hq) tw_1950 my_X11_granted (fun q hq => tg_X11_granted hq) rfl hl.1 Hh ⟨Nat.le_of_ble_eq_true rfl, Nat.le_of_ble_eq_true rfl, Nat.le_of_ble_eq_true rfl, Nat.le_of_ble_eq_true rfl⟩ (Nat.le_of_ble_eq_true rfl) dX11_back_69 rfl hm (fun h x1 H locs Hh hm => ?_)
    obtain ⟨hz, hm⟩ := zb1_inv hm
    exact z_zretC C hr hlocks Hh dX11_back_72 hz hm
  have KL32 : ∀ (n : Nat) (h : Hp) (l0 l1 l2 : Int) (H : Heap) (locs : List Loc) (ls : Array Slot), zH g s h H locs → lv_has ls 3 [(0, qR g l0), (1, qI l1), (2, qI l2)] → M_X11_back_w32 n h l0 l1 l2 = some r → W p l e { frames := 2, cells := 0, slots := 0, locals := 42 } s m args below meth c H locs 0 0 (zQ below g r.1 (some (qI r.2)) args s 0 0) (F0 m 32 ls []) := by
    intro n
    induction n with
    | zero => intro h l0 l1 l2 H locs ls Hh hl hm; cases hm
    | succ n ih32 =>
      intro h l0 l1 l2 H locs ls Hh hl hm
      obtain ⟨z32, hm, hc32⟩ := wh_inv hm
      have hm : M_X11_back_b32 h l0 l1 l2 = some z32 := hm
      unfold M_X11_back_b32 at hm
      refine lv_iload_n hx hb dX11_back_32 rfl (lv_at hl 2 rfl) ?_
      refine z_sipush C dX11_back_33 rfl ?_
      refine z_icmp_ge (tgt := 63) C dX11_back_36 (by decide) rfl lq_p248 hm (fun _ hm => ?_) (fun _ hm => ?_)
      · cases hm
        exact K63 h l0 _ _ _ Hh (lv_sub hl [0] rfl) hc32
      · refine lv_aload_n hx hb dX11_back_39 rfl (lv_at hl 0 rfl) ?_
        refine z_getR C fl_11_17 Hh dX11_back_40 rfl hm (fun x3 hm => ?_)
        refine lv_iload_n hx hb dX11_back_43 rfl (lv_at hl 2 rfl) ?_
        refine lv_aload_n hx hb dX11_back_44 rfl (lv_at hl 0 rfl) ?_
        refine z_getR C fl_11_24 Hh dX11_back_45 rfl hm (fun x4 hm => ?_)
        refine z_sipush C dX11_back_48 rfl ?_
        refine lv_iload_n hx hb dX11_back_51 rfl (lv_at hl 1 rfl) ?_
        refine z_imul C dX11_back_52 ?_
        refine lv_iload_n hx hb dX11_back_53 rfl (lv_at hl 2 rfl) ?_
        refine z_iadd C dX11_back_54 ?_
        refine z_iald C Hh dX11_back_55 hm (fun x5 hm => ?_)
        refine z_iast C Hh dX11_back_56 hm (fun h H locs Hh hm => ?_)
        refine z_iinc (x := l2) (k := 2) (lv' := [(2, qI (l2 + 1)), (0, qR g l0), (1, qI l1)]) C dX11_back_57 hl rfl (by decide) rfl (fun ls hl => ?_)
        refine lv_goto (tgt := 32) hx hb dX11_back_60 (by decide) ?_
        cases hm
        exact ih32 h l0 l1 (l2 + 1) _ _ _ Hh (lv_sub hl [1, 2, 0] rfl) hc32
  refine lv_aload_n hx hb dX11_back_0 rfl (lv_at hl 0 rfl) ?_
  refine z_iconst C dX11_back_1 ?_
  refine z_putI C hnm pl_11_78 Hh dX11_back_2 rfl hm (fun h H locs Hh hm => ?_)
  refine lv_aload_n hx hb dX11_back_5 rfl (lv_at hl 0 rfl) ?_
  refine z_getNull (tgt := 24) C fl_11_341 Hh dX11_back_6 rfl dX11_back_9 (by decide) hm (fun x6 q hm => ?_) (fun x6 q hm => ?_)
  · rw [if_pos q] at hm
    refine lv_aload_n hx hb dX11_back_24 rfl (lv_at hl 0 rfl) ?_
    refine z_iconst C dX11_back_25 ?_
    refine z_cVI (vs := [qI 1]) C (fun q hq => ct_X11_denied l g h l0 1 q hq) tw_1946 my_X11_denied (fun q hq => tg_X11_denied hq) rfl hl.1 Hh ⟨Nat.le_of_ble_eq_true rfl, Nat.le_of_ble_eq_true rfl, Nat.le_of_ble_eq_true rfl, Nat.le_of_ble_eq_true rfl⟩ (Nat.le_of_ble_eq_true rfl) dX11_back_26 rfl hm (fun h x7 H locs Hh hm => ?_)
    obtain ⟨hz, hm⟩ := zb1_inv hm
    exact z_zretC C hr hlocks Hh dX11_back_29 hz hm
  · rw [if_neg q] at hm
    refine lv_iload_n hx hb dX11_back_12 rfl (lv_at hl 1 rfl) ?_
    refine z_if_lt (tgt := 24) C dX11_back_13 (by decide) rfl hm (fun _ hm => ?_) (fun _ hm => ?_)
    · refine lv_aload_n hx hb dX11_back_24 rfl (lv_at hl 0 rfl) ?_
      refine z_iconst C dX11_back_25 ?_
      refine z_cVI (vs := [qI 1]) C (fun q hq => ct_X11_denied l g h l0 1 q hq) tw_1946 my_X11_denied (fun q hq => tg_X11_denied hq) rfl hl.1 Hh ⟨Nat.le_of_ble_eq_true rfl, Nat.le_of_ble_eq_true rfl, Nat.le_of_ble_eq_true rfl, Nat.le_of_ble_eq_true rfl⟩ (Nat.le_of_ble_eq_true rfl) dX11_back_26 rfl hm (fun h x9 H locs Hh hm => ?_)
      obtain ⟨hz, hm⟩ := zb1_inv hm
      exact z_zretC C hr hlocks Hh dX11_back_29 hz hm
    · refine lv_iload_n hx hb dX11_back_16 rfl (lv_at hl 1 rfl) ?_
      refine lv_aload_n hx hb dX11_back_17 rfl (lv_at hl 0 rfl) ?_
      refine z_getI C fl_11_346 Hh dX11_back_18 rfl hm (fun x11 hm => ?_)
      refine z_icmp_lt (tgt := 30) C dX11_back_21 (by decide) rfl rfl hm (fun _ hm => ?_) (fun _ hm => ?_)
      · refine z_iconst C dX11_back_30 ?_
        refine lv_istore_n (lv' := [(2, qI 0), (0, qR g l0), (1, qI l1)]) hx hb dX11_back_31 rfl hl (by decide) rfl (fun ls hl => ?_)
        exact KL32 FU h l0 l1 0 _ _ _ Hh (lv_sub hl [1, 2, 0] rfl) hm
      · refine lv_aload_n hx hb dX11_back_24 rfl (lv_at hl 0 rfl) ?_
        refine z_iconst C dX11_back_25 ?_
        refine z_cVI (vs := [qI 1]) C (fun q hq => ct_X11_denied l g h l0 1 q hq) tw_1946 my_X11_denied (fun q hq => tg_X11_denied hq) rfl hl.1 Hh ⟨Nat.le_of_ble_eq_true rfl, Nat.le_of_ble_eq_true rfl, Nat.le_of_ble_eq_true rfl, Nat.le_of_ble_eq_true rfl⟩ (Nat.le_of_ble_eq_true rfl) dX11_back_26 rfl hm (fun h x12 H locs Hh hm => ?_)
        obtain ⟨hz, hm⟩ := zb1_inv hm
        exact z_zretC C hr hlocks Hh dX11_back_29 hz hm
theorem tg_X11_isAsFirst {h : Hp} {l0 l1 : Int} {r : Int} (hm : M_X11_isAsFirst h l0 l1 = some r) : hT h l0 = 21 := (tk_inv hm).1
set_option maxRecDepth 100000 in
set_option maxHeartbeats 4000000 in
theorem ct_X11_isAsFirst (l : Launch) (g : zGeo) (h : Hp) (l0 l1 : Int) (r : Int) (hm : M_X11_isAsFirst h l0 l1 = some r) : zM l yX11_isAsFirst cX11_isAsFirst 3 (some .boolean) 1 20 0 0 g h [qR g l0, qI l1] h (some (qI r)) := by
  refine z_meth (by decide) (Nat.le_of_ble_eq_true rfl) ?_
  intro p e s m args below meth c H ls C hr hlocks hnm Hh hl
  have C : zC p m c cX11_isAsFirst 3 s args RX11 g := C
  have hnm : meth.name = "isAsFirst" := hnm
  have hx := C.1.1
  have hb := C.1.2.1
  have hl : lv_has ls 3 [(0, qR g l0), (1, qI l1)] := hl
  unfold M_X11_isAsFirst at hm
  replace hm := (tk_inv hm).2
  have K49 : ∀  (H : Heap) (locs : List Loc) (ls : Array Slot), zH g s h H locs → lv_has ls 3 [] → M_X11_isAsFirst_p49 h = some r → W p l e { frames := 1, cells := 0, slots := 0, locals := 20 } s m args below meth c H locs 0 0 (zQ below g h (some (qI r)) args s 0 0) (F0 m 49 ls []) := by
    intro   H locs ls Hh hl hm
    unfold M_X11_isAsFirst_p49 at hm
    refine z_iconst C dX11_isAsFirst_49 ?_
    exact z_zretRC C hr hlocks Hh dX11_isAsFirst_50 (by decide) hm
  have KL2 : ∀ (n : Nat)  (l0 l1 l2 : Int) (H : Heap) (locs : List Loc) (ls : Array Slot), zH g s h H locs → lv_has ls 3 [(0, qR g l0), (1, qI l1), (2, qI l2)] → M_X11_isAsFirst_w2 n h l0 l1 l2 = some r → W p l e { frames := 1, cells := 0, slots := 0, locals := 20 } s m args below meth c H locs 0 0 (zQ below g h (some (qI r)) args s 0 0) (F0 m 2 ls []) := by
    intro n
    induction n with
    | zero => intro l0 l1 l2 H locs ls Hh hl hm; cases hm
    | succ n ih2 =>
      intro l0 l1 l2 H locs ls Hh hl hm
      obtain ⟨z2, hm, hc2⟩ := wh_inv hm
      have hm : M_X11_isAsFirst_b2 h l0 l1 l2 = some z2 := hm
      unfold M_X11_isAsFirst_b2 at hm
      refine lv_iload_n hx hb dX11_isAsFirst_2 rfl (lv_at hl 2 rfl) ?_
      refine lv_aload_n hx hb dX11_isAsFirst_3 rfl (lv_at hl 0 rfl) ?_
      refine z_getR C fl_11_341 Hh dX11_isAsFirst_4 rfl hm (fun x1 hm => ?_)
      refine z_cVIr (vs := []) C (fun q hq => ct_X10_all l g h x1 q hq) tw_1730 my_X10_all (fun q hq => tg_X10_all hq) rfl hl.1 Hh ⟨Nat.le_of_ble_eq_true rfl, Nat.le_of_ble_eq_true rfl, Nat.le_of_ble_eq_true rfl, Nat.le_of_ble_eq_true rfl⟩ (Nat.le_of_ble_eq_true rfl) dX11_isAsFirst_7 rfl hm (fun x2 H locs Hh hm => ?_)
      refine z_icmp_ge (tgt := 49) C dX11_isAsFirst_10 (by decide) rfl rfl hm (fun _ hm => ?_) (fun _ hm => ?_)
      · cases hm
        exact K49  _ _ _ Hh (lv_sub hl [] rfl) hc2
      · refine lv_aload_n hx hb dX11_isAsFirst_13 rfl (lv_at hl 0 rfl) ?_
        refine z_getR C fl_11_17 Hh dX11_isAsFirst_14 rfl hm (fun x3 hm => ?_)
        refine z_bipush C dX11_isAsFirst_17 rfl ?_
        refine lv_iload_n hx hb dX11_isAsFirst_19 rfl (lv_at hl 1 rfl) ?_
        refine z_imul C dX11_isAsFirst_20 ?_
        refine lv_iload_n hx hb dX11_isAsFirst_21 rfl (lv_at hl 2 rfl) ?_
        refine z_iadd C dX11_isAsFirst_22 ?_
        refine z_iald C Hh dX11_isAsFirst_23 hm (fun x4 hm => ?_)
        refine lv_aload_n hx hb dX11_isAsFirst_24 rfl (lv_at hl 0 rfl) ?_
        refine z_getR C fl_11_341 Hh dX11_isAsFirst_25 rfl hm (fun x5 hm => ?_)
        refine z_getR C fl_11_262 Hh dX11_isAsFirst_28 rfl hm (fun x6 hm => ?_)
        refine z_bipush C dX11_isAsFirst_31 rfl ?_
        refine lv_iload_n hx hb dX11_isAsFirst_33 rfl (lv_at hl 1 rfl) ?_
        refine z_imul C dX11_isAsFirst_34 ?_
        refine lv_iload_n hx hb dX11_isAsFirst_35 rfl (lv_at hl 2 rfl) ?_
        refine z_iadd C dX11_isAsFirst_36 ?_
        refine z_iald C Hh dX11_isAsFirst_37 hm (fun x7 hm => ?_)
        refine z_icmp_eq (tgt := 43) C dX11_isAsFirst_38 (by decide) rfl rfl hm (fun _ hm => ?_) (fun _ hm => ?_)
        · refine z_iinc (x := l2) (k := 2) (lv' := [(2, qI (l2 + 1)), (0, qR g l0), (1, qI l1)]) C dX11_isAsFirst_43 hl rfl (by decide) rfl (fun ls hl => ?_)
          refine lv_goto (tgt := 2) hx hb dX11_isAsFirst_46 (by decide) ?_
          cases hm
          exact ih2 l0 l1 (l2 + 1) _ _ _ Hh (lv_sub hl [1, 2, 0] rfl) hc2
        · refine z_iconst C dX11_isAsFirst_41 ?_
          cases hm
          have hm := hc2
          exact z_zretRC C hr hlocks Hh dX11_isAsFirst_42 (by decide) hm
  refine z_iconst C dX11_isAsFirst_0 ?_
  refine lv_istore_n (lv' := [(2, qI 0), (0, qR g l0), (1, qI l1)]) hx hb dX11_isAsFirst_1 rfl hl (by decide) rfl (fun ls hl => ?_)
  exact KL2 FU l0 l1 0 _ _ _ Hh (lv_sub hl [1, 2, 0] rfl) hm
theorem tg_X11_led {h : Hp} {l0 l1 : Int} {r : Hp × Int} (hm : M_X11_led h l0 l1 = some r) : hT h l0 = 21 := (tk_inv hm).1
set_option maxRecDepth 100000 in
set_option maxHeartbeats 4000000 in
theorem ct_X11_led (l : Launch) (g : zGeo) (h0 : Hp) (l0 l1 : Int) (r : Hp × Int) (hm : M_X11_led h0 l0 l1 = some r) : zM l yX11_led cX11_led 4 (some .int) 2 42 0 0 g h0 [qR g l0, qI l1] r.1 (some (qI r.2)) := by
  refine z_meth (by decide) (Nat.le_of_ble_eq_true rfl) ?_
  intro p e s m args below meth c H ls C hr hlocks hnm Hh hl
  have C : zC p m c cX11_led 4 s args RX11 g := C
  have hnm : meth.name = "led" := hnm
  have hx := C.1.1
  have hb := C.1.2.1
  have hl : lv_has ls 4 [(0, qR g l0), (1, qI l1)] := hl
  unfold M_X11_led at hm
  replace hm := (tk_inv hm).2
  generalize h0 = h at Hh hm
  have K54 : ∀ (h : Hp) (l0 : Int) (H : Heap) (locs : List Loc) (ls : Array Slot), zH g s h H locs → lv_has ls 4 [(0, qR g l0)] → M_X11_led_p54 h l0 = some r → W p l e { frames := 2, cells := 0, slots := 0, locals := 42 } s m args below meth c H locs 0 0 (zQ below g r.1 (some (qI r.2)) args s 0 0) (F0 m 54 ls []) := by
    intro h l0  H locs ls Hh hl hm
    unfold M_X11_led_p54 at hm
    refine lv_aload_n hx hb dX11_led_54 rfl (lv_at hl 0 rfl) ?_
    refine z_iconst C dX11_led_55 ?_
    refine z_putI C hnm pl_11_78 Hh dX11_led_56 rfl hm (fun h H locs Hh hm => ?_)
    refine z_iconst C dX11_led_59 ?_
    exact z_iret C hr hlocks Hh dX11_led_60 hm
  have KL9 : ∀ (n : Nat) (h : Hp) (l0 l1 l2 l3 : Int) (H : Heap) (locs : List Loc) (ls : Array Slot), zH g s h H locs → lv_has ls 4 [(0, qR g l0), (1, qI l1), (2, qI l2), (3, qI l3)] → M_X11_led_w9 n h l0 l1 l2 l3 = some r → W p l e { frames := 2, cells := 0, slots := 0, locals := 42 } s m args below meth c H locs 0 0 (zQ below g r.1 (some (qI r.2)) args s 0 0) (F0 m 9 ls []) := by
    intro n
    induction n with
    | zero => intro h l0 l1 l2 l3 H locs ls Hh hl hm; cases hm
    | succ n ih9 =>
      intro h l0 l1 l2 l3 H locs ls Hh hl hm
      obtain ⟨z9, hm, hc9⟩ := wh_inv hm
      have hm : M_X11_led_b9 h l0 l1 l2 l3 = some z9 := hm
      have K48 : ∀  (l2 l3 : Int) (H : Heap) (locs : List Loc) (ls : Array Slot), zH g s h H locs → lv_has ls 4 [(0, qR g l0), (1, qI l1), (2, qI l2), (3, qI l3)] → M_X11_led_p48 h l0 l1 l2 l3 = some z9 → W p l e { frames := 2, cells := 0, slots := 0, locals := 42 } s m args below meth c H locs 0 0 (zQ below g r.1 (some (qI r.2)) args s 0 0) (F0 m 48 ls []) := by
        intro l2 l3  H locs ls Hh hl hm
        unfold M_X11_led_p48 at hm
        refine z_iinc (x := l3) (k := 3) (lv' := [(3, qI (l3 + 1)), (0, qR g l0), (1, qI l1), (2, qI l2)]) C dX11_led_48 hl rfl (by decide) rfl (fun ls hl => ?_)
        refine lv_goto (tgt := 9) hx hb dX11_led_51 (by decide) ?_
        cases hm
        exact ih9 h l0 l1 l2 (l3 + 1) _ _ _ Hh (lv_sub hl [1, 2, 3, 0] rfl) hc9
      unfold M_X11_led_b9 at hm
      refine lv_aload_n hx hb dX11_led_9 rfl (lv_at hl 0 rfl) ?_
      refine z_getNull (tgt := 54) C fl_11_341 Hh dX11_led_10 rfl dX11_led_13 (by decide) hm (fun x1 q hm => ?_) (fun x1 q hm => ?_)
      · rw [if_pos q] at hm
        cases hm
        exact K54 h l0 _ _ _ Hh (lv_sub hl [0] rfl) hc9
      · rw [if_neg q] at hm
        refine lv_iload_n hx hb dX11_led_16 rfl (lv_at hl 3 rfl) ?_
        refine lv_aload_n hx hb dX11_led_17 rfl (lv_at hl 0 rfl) ?_
        refine z_getR C fl_11_341 Hh dX11_led_18 rfl hm (fun x2 hm => ?_)
        refine z_getI C fl_11_230 Hh dX11_led_21 rfl hm (fun x3 hm => ?_)
        refine z_icmp_ge (tgt := 54) C dX11_led_24 (by decide) rfl rfl hm (fun _ hm => ?_) (fun _ hm => ?_)
        · cases hm
          exact K54 h l0 _ _ _ Hh (lv_sub hl [0] rfl) hc9
        · refine lv_aload_n hx hb dX11_led_27 rfl (lv_at hl 0 rfl) ?_
          refine lv_iload_n hx hb dX11_led_28 rfl (lv_at hl 3 rfl) ?_
          refine z_cVIr (vs := [qI l3]) C (fun q hq => ct_X11_isAsFirst l g h l0 l3 q hq) tw_1983 my_X11_isAsFirst (fun q hq => tg_X11_isAsFirst hq) rfl hl.1 Hh ⟨Nat.le_of_ble_eq_true rfl, Nat.le_of_ble_eq_true rfl, Nat.le_of_ble_eq_true rfl, Nat.le_of_ble_eq_true rfl⟩ (Nat.le_of_ble_eq_true rfl) dX11_led_29 rfl hm (fun x4 H locs Hh hm => ?_)
          refine z_if_eq (tgt := 38) C dX11_led_32 (by decide) rfl hm (fun _ hm => ?_) (fun _ hm => ?_)
          · refine lv_iload_n hx hb dX11_led_38 rfl (lv_at hl 2 rfl) ?_
            refine lv_iload_n hx hb dX11_led_39 rfl (lv_at hl 1 rfl) ?_
            refine z_icmp_ne (tgt := 45) C dX11_led_40 (by decide) rfl rfl hm (fun _ hm => ?_) (fun _ hm => ?_)
            · refine z_iinc (x := l2) (k := 2) (lv' := [(2, qI (l2 + 1)), (0, qR g l0), (1, qI l1), (3, qI l3)]) C dX11_led_45 hl rfl (by decide) rfl (fun ls hl => ?_)
              exact K48 (l2 + 1) l3 _ _ _ Hh (lv_sub hl [1, 2, 0, 3] rfl) hm
            · refine lv_iload_n hx hb dX11_led_43 rfl (lv_at hl 3 rfl) ?_
              cases hm
              have hm := hc9
              exact z_iret C hr hlocks Hh dX11_led_44 hm
          · refine lv_goto (tgt := 48) hx hb dX11_led_35 (by decide) ?_
            exact K48 l2 l3 _ _ _ Hh (lv_sub hl [0, 1, 2, 3] rfl) hm
  refine lv_aload_n hx hb dX11_led_0 rfl (lv_at hl 0 rfl) ?_
  refine z_iconst C dX11_led_1 ?_
  refine z_putI C hnm pl_11_78 Hh dX11_led_2 rfl hm (fun h H locs Hh hm => ?_)
  refine z_iconst C dX11_led_5 ?_
  refine lv_istore_n (lv' := [(2, qI 0), (0, qR g l0), (1, qI l1)]) hx hb dX11_led_6 rfl hl (by decide) rfl (fun ls hl => ?_)
  refine z_iconst C dX11_led_7 ?_
  refine lv_istore_n (lv' := [(3, qI 0), (2, qI 0), (0, qR g l0), (1, qI l1)]) hx hb dX11_led_8 rfl hl (by decide) rfl (fun ls hl => ?_)
  exact KL9 FU h l0 l1 0 0 _ _ _ Hh (lv_sub hl [2, 3, 1, 0] rfl) hm
theorem tg_X11_copiers {h : Hp} {l0 : Int} {r : Int} (hm : M_X11_copiers h l0 = some r) : hT h l0 = 21 := (tk_inv hm).1
set_option maxRecDepth 100000 in
set_option maxHeartbeats 4000000 in
theorem ct_X11_copiers (l : Launch) (g : zGeo) (h : Hp) (l0 : Int) (r : Int) (hm : M_X11_copiers h l0 = some r) : zM l yX11_copiers cX11_copiers 3 (some .int) 0 0 0 0 g h [qR g l0] h (some (qI r)) := by
  refine z_meth (by decide) (Nat.le_of_ble_eq_true rfl) ?_
  intro p e s m args below meth c H ls C hr hlocks hnm Hh hl
  have C : zC p m c cX11_copiers 3 s args RX11 g := C
  have hnm : meth.name = "copiers" := hnm
  have hx := C.1.1
  have hb := C.1.2.1
  have hl : lv_has ls 3 [(0, qR g l0)] := hl
  unfold M_X11_copiers at hm
  replace hm := (tk_inv hm).2
  have K44 : ∀  (l1 : Int) (H : Heap) (locs : List Loc) (ls : Array Slot), zH g s h H locs → lv_has ls 3 [(1, qI l1)] → M_X11_copiers_p44 h l1 = some r → W p l e { frames := 0, cells := 0, slots := 0, locals := 0 } s m args below meth c H locs 0 0 (zQ below g h (some (qI r)) args s 0 0) (F0 m 44 ls []) := by
    intro l1  H locs ls Hh hl hm
    unfold M_X11_copiers_p44 at hm
    refine lv_iload_n hx hb dX11_copiers_44 rfl (lv_at hl 0 rfl) ?_
    exact z_iretR (h0 := h) C hr hlocks Hh dX11_copiers_45 hm
  have KL4 : ∀ (n : Nat)  (l0 l1 l2 : Int) (H : Heap) (locs : List Loc) (ls : Array Slot), zH g s h H locs → lv_has ls 3 [(0, qR g l0), (1, qI l1), (2, qI l2)] → M_X11_copiers_w4 n h l0 l1 l2 = some r → W p l e { frames := 0, cells := 0, slots := 0, locals := 0 } s m args below meth c H locs 0 0 (zQ below g h (some (qI r)) args s 0 0) (F0 m 4 ls []) := by
    intro n
    induction n with
    | zero => intro l0 l1 l2 H locs ls Hh hl hm; cases hm
    | succ n ih4 =>
      intro l0 l1 l2 H locs ls Hh hl hm
      obtain ⟨z4, hm, hc4⟩ := wh_inv hm
      have hm : M_X11_copiers_b4 h l0 l1 l2 = some z4 := hm
      have K36 : ∀  (l2 : Int) (s0 s1 : Int) (H : Heap) (locs : List Loc) (ls : Array Slot), zH g s h H locs → lv_has ls 3 [(0, qR g l0), (2, qI l2)] → M_X11_copiers_p36 h l0 l2 s0 s1 = some z4 → W p l e { frames := 0, cells := 0, slots := 0, locals := 0 } s m args below meth c H locs 0 0 (zQ below g h (some (qI r)) args s 0 0) (F0 m 36 ls [qI s1, qI s0]) := by
        intro l2 s0 s1 H locs ls Hh hl hm
        unfold M_X11_copiers_p36 at hm
        refine z_iadd C dX11_copiers_36 ?_
        refine lv_istore_n (lv' := [(1, qI (s0 + s1)), (0, qR g l0), (2, qI l2)]) hx hb dX11_copiers_37 rfl hl (by decide) rfl (fun ls hl => ?_)
        refine z_iinc (x := l2) (k := 2) (lv' := [(2, qI (l2 + 1)), (1, qI (s0 + s1)), (0, qR g l0)]) C dX11_copiers_38 hl rfl (by decide) rfl (fun ls hl => ?_)
        refine lv_goto (tgt := 4) hx hb dX11_copiers_41 (by decide) ?_
        cases hm
        exact ih4 l0 (s0 + s1) (l2 + 1) _ _ _ Hh (lv_sub hl [2, 1, 0] rfl) hc4
      unfold M_X11_copiers_b4 at hm
      refine lv_iload_n hx hb dX11_copiers_4 rfl (lv_at hl 2 rfl) ?_
      refine lv_aload_n hx hb dX11_copiers_5 rfl (lv_at hl 0 rfl) ?_
      refine z_getR C fl_11_341 Hh dX11_copiers_6 rfl hm (fun x1 hm => ?_)
      refine z_getI C fl_11_230 Hh dX11_copiers_9 rfl hm (fun x2 hm => ?_)
      refine z_icmp_ge (tgt := 44) C dX11_copiers_12 (by decide) rfl rfl hm (fun _ hm => ?_) (fun _ hm => ?_)
      · cases hm
        exact K44 l1 _ _ _ Hh (lv_sub hl [1] rfl) hc4
      · refine lv_iload_n hx hb dX11_copiers_15 rfl (lv_at hl 1 rfl) ?_
        refine lv_aload_n hx hb dX11_copiers_16 rfl (lv_at hl 0 rfl) ?_
        refine z_getR C fl_11_17 Hh dX11_copiers_17 rfl hm (fun x3 hm => ?_)
        refine z_sipush C dX11_copiers_20 rfl ?_
        refine lv_iload_n hx hb dX11_copiers_23 rfl (lv_at hl 2 rfl) ?_
        refine z_iadd C dX11_copiers_24 ?_
        refine z_iald C Hh dX11_copiers_25 hm (fun x4 hm => ?_)
        refine z_bipush C dX11_copiers_26 rfl ?_
        refine z_icmp_ne (tgt := 35) C dX11_copiers_28 (by decide) rfl lq_m2 hm (fun _ hm => ?_) (fun _ hm => ?_)
        · refine z_iconst C dX11_copiers_35 ?_
          exact K36 l2 l1 1 _ _ _ Hh (lv_sub hl [0, 2] rfl) hm
        · refine z_iconst C dX11_copiers_31 ?_
          refine lv_goto (tgt := 36) hx hb dX11_copiers_32 (by decide) ?_
          exact K36 l2 l1 0 _ _ _ Hh (lv_sub hl [0, 2] rfl) hm
  refine z_iconst C dX11_copiers_0 ?_
  refine lv_istore_n (lv' := [(1, qI 0), (0, qR g l0)]) hx hb dX11_copiers_1 rfl hl (by decide) rfl (fun ls hl => ?_)
  refine z_iconst C dX11_copiers_2 ?_
  refine lv_istore_n (lv' := [(2, qI 0), (1, qI 0), (0, qR g l0)]) hx hb dX11_copiers_3 rfl hl (by decide) rfl (fun ls hl => ?_)
  exact KL4 FU l0 0 0 _ _ _ Hh (lv_sub hl [2, 1, 0] rfl) hm
theorem tg_X11_size {h : Hp} {l0 l1 : Int} {r : Hp × Int} (hm : M_X11_size h l0 l1 = some r) : hT h l0 = 21 := (tk_inv hm).1
set_option maxRecDepth 100000 in
set_option maxHeartbeats 4000000 in
theorem ct_X11_size (l : Launch) (g : zGeo) (h0 : Hp) (l0 l1 : Int) (r : Hp × Int) (hm : M_X11_size h0 l0 l1 = some r) : zM l yX11_size cX11_size 2 (some .int) 1 22 0 0 g h0 [qR g l0, qI l1] r.1 (some (qI r.2)) := by
  refine z_meth (by decide) (Nat.le_of_ble_eq_true rfl) ?_
  intro p e s m args below meth c H ls C hr hlocks hnm Hh hl
  have C : zC p m c cX11_size 2 s args RX11 g := C
  have hnm : meth.name = "size" := hnm
  have hx := C.1.1
  have hb := C.1.2.1
  have hl : lv_has ls 2 [(0, qR g l0), (1, qI l1)] := hl
  unfold M_X11_size at hm
  replace hm := (tk_inv hm).2
  generalize h0 = h at Hh hm
  refine lv_aload_n hx hb dX11_size_0 rfl (lv_at hl 0 rfl) ?_
  refine z_iconst C dX11_size_1 ?_
  refine z_putI C hnm pl_11_78 Hh dX11_size_2 rfl hm (fun h H locs Hh hm => ?_)
  refine lv_iload_n hx hb dX11_size_5 rfl (lv_at hl 1 rfl) ?_
  refine z_bipush C dX11_size_6 rfl ?_
  refine z_icmp_ne (tgt := 16) C dX11_size_8 (by decide) rfl lq_p11 hm (fun _ hm => ?_) (fun _ hm => ?_)
  · refine lv_iload_n hx hb dX11_size_16 rfl (lv_at hl 1 rfl) ?_
    refine z_iconst C dX11_size_17 ?_
    refine z_bipush C dX11_size_18 rfl ?_
    refine z_cSIr (vs := [qI l1, qI 0, qI 10]) C (fun q hq => ct_X11_in l g h l1 0 10 q hq) tw_1576 my_X11_in rfl hl.1 Hh ⟨Nat.le_of_ble_eq_true rfl, Nat.le_of_ble_eq_true rfl, Nat.le_of_ble_eq_true rfl, Nat.le_of_ble_eq_true rfl⟩ (Nat.le_of_ble_eq_true rfl) dX11_size_20 rfl hm (fun x1 H locs Hh hm => ?_)
    refine z_if_ne (tgt := 28) C dX11_size_23 (by decide) rfl hm (fun _ hm => ?_) (fun _ hm => ?_)
    · refine lv_aload_n hx hb dX11_size_28 rfl (lv_at hl 0 rfl) ?_
      refine z_getNonnull (tgt := 37) C fl_11_341 Hh dX11_size_29 rfl dX11_size_32 (by decide) hm (fun x2 q hm => ?_) (fun x2 q hm => ?_)
      · rw [if_pos q] at hm
        refine z_iconst C dX11_size_35 ?_
        exact z_iret C hr hlocks Hh dX11_size_36 hm
      · rw [if_neg q] at hm
        refine lv_iload_n hx hb dX11_size_37 rfl (lv_at hl 1 rfl) ?_
        refine z_sw hm (fun q hm => ?_) (fun q0 hm => ?_)
        · refine z_tin (tgt := 92) (off := 54) C dX11_size_38 q (by decide) (by decide) rfl (by decide) ?_
          refine lv_aload_n hx hb dX11_size_92 rfl (lv_at hl 0 rfl) ?_
          refine z_getR C fl_11_341 Hh dX11_size_93 rfl hm (fun x3 hm => ?_)
          refine z_getI C fl_11_194 Hh dX11_size_96 rfl hm (fun x4 hm => ?_)
          exact z_iret C hr hlocks Hh dX11_size_99 hm
        refine z_sw hm (fun q hm => ?_) (fun q1 hm => ?_)
        · refine z_tin (tgt := 100) (off := 62) C dX11_size_38 q (by decide) (by decide) rfl (by decide) ?_
          refine lv_aload_n hx hb dX11_size_100 rfl (lv_at hl 0 rfl) ?_
          refine z_getR C fl_11_341 Hh dX11_size_101 rfl hm (fun x5 hm => ?_)
          refine z_getI C fl_11_256 Hh dX11_size_104 rfl hm (fun x6 hm => ?_)
          exact z_iret C hr hlocks Hh dX11_size_107 hm
        refine z_sw hm (fun q hm => ?_) (fun q2 hm => ?_)
        · refine z_tin (tgt := 108) (off := 70) C dX11_size_38 q (by decide) (by decide) rfl (by decide) ?_
          refine lv_aload_n hx hb dX11_size_108 rfl (lv_at hl 0 rfl) ?_
          refine z_getR C fl_11_341 Hh dX11_size_109 rfl hm (fun x7 hm => ?_)
          refine z_getI C fl_11_215 Hh dX11_size_112 rfl hm (fun x8 hm => ?_)
          exact z_iret C hr hlocks Hh dX11_size_115 hm
        refine z_sw hm (fun q hm => ?_) (fun q3 hm => ?_)
        · refine z_tin (tgt := 116) (off := 78) C dX11_size_38 q (by decide) (by decide) rfl (by decide) ?_
          refine lv_aload_n hx hb dX11_size_116 rfl (lv_at hl 0 rfl) ?_
          refine z_getR C fl_11_341 Hh dX11_size_117 rfl hm (fun x9 hm => ?_)
          refine z_getI C fl_11_230 Hh dX11_size_120 rfl hm (fun x10 hm => ?_)
          exact z_iret C hr hlocks Hh dX11_size_123 hm
        refine z_sw hm (fun q hm => ?_) (fun q4 hm => ?_)
        · refine z_tin (tgt := 124) (off := 86) C dX11_size_38 q (by decide) (by decide) rfl (by decide) ?_
          refine lv_aload_n hx hb dX11_size_124 rfl (lv_at hl 0 rfl) ?_
          refine z_cVIr (vs := []) C (fun q hq => ct_X11_copiers l g h l0 q hq) tw_1991 my_X11_copiers (fun q hq => tg_X11_copiers hq) rfl hl.1 Hh ⟨Nat.le_of_ble_eq_true rfl, Nat.le_of_ble_eq_true rfl, Nat.le_of_ble_eq_true rfl, Nat.le_of_ble_eq_true rfl⟩ (Nat.le_of_ble_eq_true rfl) dX11_size_125 rfl hm (fun x11 H locs Hh hm => ?_)
          exact z_iret C hr hlocks Hh dX11_size_128 hm
        refine z_sw hm (fun q hm => ?_) (fun q5 hm => ?_)
        · refine z_tin (tgt := 129) (off := 91) C dX11_size_38 q (by decide) (by decide) rfl (by decide) ?_
          refine lv_aload_n hx hb dX11_size_129 rfl (lv_at hl 0 rfl) ?_
          refine z_getR C fl_11_341 Hh dX11_size_130 rfl hm (fun x12 hm => ?_)
          refine z_getI C fl_11_314 Hh dX11_size_133 rfl hm (fun x13 hm => ?_)
          exact z_iret C hr hlocks Hh dX11_size_136 hm
        refine z_sw hm (fun q hm => ?_) (fun q6 hm => ?_)
        · refine z_tin (tgt := 137) (off := 99) C dX11_size_38 q (by decide) (by decide) rfl (by decide) ?_
          refine lv_aload_n hx hb dX11_size_137 rfl (lv_at hl 0 rfl) ?_
          refine z_getR C fl_11_341 Hh dX11_size_138 rfl hm (fun x14 hm => ?_)
          refine z_getI C fl_11_319 Hh dX11_size_141 rfl hm (fun x15 hm => ?_)
          exact z_iret C hr hlocks Hh dX11_size_144 hm
        refine z_sw hm (fun q hm => ?_) (fun q7 hm => ?_)
        · refine z_tin (tgt := 145) (off := 107) C dX11_size_38 q (by decide) (by decide) rfl (by decide) ?_
          refine lv_aload_n hx hb dX11_size_145 rfl (lv_at hl 0 rfl) ?_
          refine z_getR C fl_11_17 Hh dX11_size_146 rfl hm (fun x16 hm => ?_)
          refine z_sipush C dX11_size_149 rfl ?_
          refine z_iald C Hh dX11_size_152 hm (fun x17 hm => ?_)
          exact z_iret C hr hlocks Hh dX11_size_153 hm
        refine z_sw hm (fun q hm => ?_) (fun q8 hm => ?_)
        · refine z_tin (tgt := 154) (off := 116) C dX11_size_38 q (by decide) (by decide) rfl (by decide) ?_
          refine lv_aload_n hx hb dX11_size_154 rfl (lv_at hl 0 rfl) ?_
          refine z_getR C fl_11_17 Hh dX11_size_155 rfl hm (fun x18 hm => ?_)
          refine z_sipush C dX11_size_158 rfl ?_
          refine z_iald C Hh dX11_size_161 hm (fun x19 hm => ?_)
          exact z_iret C hr hlocks Hh dX11_size_162 hm
        refine z_sw hm (fun q hm => ?_) (fun q9 hm => ?_)
        · refine z_tin (tgt := 163) (off := 125) C dX11_size_38 q (by decide) (by decide) rfl (by decide) ?_
          refine lv_aload_n hx hb dX11_size_163 rfl (lv_at hl 0 rfl) ?_
          refine z_getI C fl_11_343 Hh dX11_size_164 rfl hm (fun x20 hm => ?_)
          exact z_iret C hr hlocks Hh dX11_size_167 hm
        refine z_tout (tgt := 168) C dX11_size_38 (by omega) (by decide) ?_
        refine lv_aload_n hx hb dX11_size_168 rfl (lv_at hl 0 rfl) ?_
        refine z_getI C fl_11_346 Hh dX11_size_169 rfl hm (fun x21 hm => ?_)
        exact z_iret C hr hlocks Hh dX11_size_172 hm
    · refine z_iconst C dX11_size_26 ?_
      exact z_iret C hr hlocks Hh dX11_size_27 hm
  · refine lv_aload_n hx hb dX11_size_11 rfl (lv_at hl 0 rfl) ?_
    refine z_getI C fl_11_334 Hh dX11_size_12 rfl hm (fun x22 hm => ?_)
    exact z_iret C hr hlocks Hh dX11_size_15 hm
