theorem tg_X11_nextStrokes {h : Hp} {l0 l1 : Int} {r : Hp × Int} (hm : M_X11_nextStrokes h l0 l1 = some r) : hT h l0 = 21 := (tk_inv hm).1
set_option maxRecDepth 100000 in
set_option maxHeartbeats 4000000 in
theorem ct_X11_nextStrokes (l : Launch) (g : zGeo) (h0 : Hp) (l0 l1 : Int) (r : Hp × Int) (hm : M_X11_nextStrokes h0 l0 l1 = some r) : zM l yX11_nextStrokes cX11_nextStrokes 4 (some .boolean) 0 0 0 0 g h0 [qR g l0, qI l1] r.1 (some (qI r.2)) := by
  refine z_meth (by decide) (Nat.le_of_ble_eq_true rfl) ?_
  intro p e s m args below meth c H ls C hr hlocks hnm Hh hl
  have C : zC p m c cX11_nextStrokes 4 s args RX11 g := C
  have hnm : meth.name = "nextStrokes" := hnm
  have hx := C.1.1
  have hb := C.1.2.1
  have hl : lv_has ls 4 [(0, qR g l0), (1, qI l1)] := hl
  unfold M_X11_nextStrokes at hm
  replace hm := (tk_inv hm).2
  generalize h0 = h at Hh hm
  have K78 : ∀ (h : Hp) (H : Heap) (locs : List Loc) (ls : Array Slot), zH g s h H locs → lv_has ls 4 [] → M_X11_nextStrokes_p78 h = some r → W p l e { frames := 0, cells := 0, slots := 0, locals := 0 } s m args below meth c H locs 0 0 (zQ below g r.1 (some (qI r.2)) args s 0 0) (F0 m 78 ls []) := by
    intro h  H locs ls Hh hl hm
    unfold M_X11_nextStrokes_p78 at hm
    refine z_iconst C dX11_nextStrokes_78 ?_
    exact z_zretC C hr hlocks Hh dX11_nextStrokes_79 (by decide) hm
  have KL51 : ∀ (n : Nat) (h : Hp) (l0 l1 l3 : Int) (H : Heap) (locs : List Loc) (ls : Array Slot), zH g s h H locs → lv_has ls 4 [(0, qR g l0), (1, qI l1), (3, qI l3)] → M_X11_nextStrokes_w51 n h l0 l1 l3 = some r → W p l e { frames := 0, cells := 0, slots := 0, locals := 0 } s m args below meth c H locs 0 0 (zQ below g r.1 (some (qI r.2)) args s 0 0) (F0 m 51 ls []) := by
    intro n
    induction n with
    | zero => intro h l0 l1 l3 H locs ls Hh hl hm; cases hm
    | succ n ih51 =>
      intro h l0 l1 l3 H locs ls Hh hl hm
      obtain ⟨z51, hm, hc51⟩ := wh_inv hm
      have hm : M_X11_nextStrokes_b51 h l0 l1 l3 = some z51 := hm
      unfold M_X11_nextStrokes_b51 at hm
      refine lv_iload_n hx hb dX11_nextStrokes_51 rfl (lv_at hl 2 rfl) ?_
      refine lv_iload_n hx hb dX11_nextStrokes_52 rfl (lv_at hl 1 rfl) ?_
      refine z_icmp_ge (tgt := 78) C dX11_nextStrokes_53 (by decide) rfl rfl hm (fun _ hm => ?_) (fun _ hm => ?_)
      · cases hm
        exact K78 h _ _ _ Hh (lv_sub hl [] rfl) hc51
      · refine lv_aload_n hx hb dX11_nextStrokes_56 rfl (lv_at hl 0 rfl) ?_
        refine z_getR C fl_11_54 Hh dX11_nextStrokes_57 rfl hm (fun x1 hm => ?_)
        refine lv_iload_n hx hb dX11_nextStrokes_60 rfl (lv_at hl 2 rfl) ?_
        refine lv_aload_n hx hb dX11_nextStrokes_61 rfl (lv_at hl 0 rfl) ?_
        refine z_getR C fl_11_54 Hh dX11_nextStrokes_62 rfl hm (fun x2 hm => ?_)
        refine lv_iload_n hx hb dX11_nextStrokes_65 rfl (lv_at hl 2 rfl) ?_
        refine z_iconst C dX11_nextStrokes_66 ?_
        refine z_isub C dX11_nextStrokes_67 ?_
        refine z_iald C Hh dX11_nextStrokes_68 hm (fun x3 hm => ?_)
        refine z_iconst C dX11_nextStrokes_69 ?_
        refine z_iadd C dX11_nextStrokes_70 ?_
        refine z_iast C Hh dX11_nextStrokes_71 hm (fun h H locs Hh hm => ?_)
        refine z_iinc (x := l3) (k := 2) (lv' := [(3, qI (l3 + 1)), (0, qR g l0), (1, qI l1)]) C dX11_nextStrokes_72 hl rfl (by decide) rfl (fun ls hl => ?_)
        refine lv_goto (tgt := 51) hx hb dX11_nextStrokes_75 (by decide) ?_
        cases hm
        exact ih51 h l0 l1 (l3 + 1) _ _ _ Hh (lv_sub hl [1, 2, 0] rfl) hc51
  have K31 : ∀ (h : Hp) (l0 l1 l2 : Int) (H : Heap) (locs : List Loc) (ls : Array Slot), zH g s h H locs → lv_has ls 4 [(0, qR g l0), (1, qI l1), (2, qI l2)] → M_X11_nextStrokes_p31 h l0 l1 l2 = some r → W p l e { frames := 0, cells := 0, slots := 0, locals := 0 } s m args below meth c H locs 0 0 (zQ below g r.1 (some (qI r.2)) args s 0 0) (F0 m 31 ls []) := by
    intro h l0 l1 l2  H locs ls Hh hl hm
    unfold M_X11_nextStrokes_p31 at hm
    refine lv_iload_n hx hb dX11_nextStrokes_31 rfl (lv_at hl 2 rfl) ?_
    refine z_if_ge (tgt := 37) C dX11_nextStrokes_32 (by decide) rfl hm (fun _ hm => ?_) (fun _ hm => ?_)
    · refine lv_aload_n hx hb dX11_nextStrokes_37 rfl (lv_at hl 0 rfl) ?_
      refine z_getR C fl_11_54 Hh dX11_nextStrokes_38 rfl hm (fun x4 hm => ?_)
      refine lv_iload_n hx hb dX11_nextStrokes_41 rfl (lv_at hl 2 rfl) ?_
      refine lv_dup2_11 hx hb dX11_nextStrokes_42 rfl rfl ?_
      refine z_iald C Hh dX11_nextStrokes_43 hm (fun x5 hm => ?_)
      refine z_iconst C dX11_nextStrokes_44 ?_
      refine z_iadd C dX11_nextStrokes_45 ?_
      refine z_iast C Hh dX11_nextStrokes_46 hm (fun h H locs Hh hm => ?_)
      refine lv_iload_n hx hb dX11_nextStrokes_47 rfl (lv_at hl 2 rfl) ?_
      refine z_iconst C dX11_nextStrokes_48 ?_
      refine z_iadd C dX11_nextStrokes_49 ?_
      refine lv_istore_n (lv' := [(3, qI (l2 + 1)), (0, qR g l0), (1, qI l1), (2, qI l2)]) hx hb dX11_nextStrokes_50 rfl hl (by decide) rfl (fun ls hl => ?_)
      exact KL51 FU h l0 l1 (l2 + 1) _ _ _ Hh (lv_sub hl [1, 2, 0] rfl) hm
    · refine z_iconst C dX11_nextStrokes_35 ?_
      exact z_zretC C hr hlocks Hh dX11_nextStrokes_36 (by decide) hm
  have KL4 : ∀ (n : Nat) (h : Hp) (l0 l1 l2 : Int) (H : Heap) (locs : List Loc) (ls : Array Slot), zH g s h H locs → lv_has ls 4 [(0, qR g l0), (1, qI l1), (2, qI l2)] → M_X11_nextStrokes_w4 n h l0 l1 l2 = some r → W p l e { frames := 0, cells := 0, slots := 0, locals := 0 } s m args below meth c H locs 0 0 (zQ below g r.1 (some (qI r.2)) args s 0 0) (F0 m 4 ls []) := by
    intro n
    induction n with
    | zero => intro h l0 l1 l2 H locs ls Hh hl hm; cases hm
    | succ n ih4 =>
      intro h l0 l1 l2 H locs ls Hh hl hm
      obtain ⟨z4, hm, hc4⟩ := wh_inv hm
      have hm : M_X11_nextStrokes_b4 h l0 l1 l2 = some z4 := hm
      unfold M_X11_nextStrokes_b4 at hm
      refine lv_iload_n hx hb dX11_nextStrokes_4 rfl (lv_at hl 2 rfl) ?_
      refine z_if_lt (tgt := 31) C dX11_nextStrokes_5 (by decide) rfl hm (fun _ hm => ?_) (fun _ hm => ?_)
      · cases hm
        exact K31 h l0 l1 l2 _ _ _ Hh (lv_sub hl [0, 1, 2] rfl) hc4
      · refine lv_aload_n hx hb dX11_nextStrokes_8 rfl (lv_at hl 0 rfl) ?_
        refine z_getR C fl_11_54 Hh dX11_nextStrokes_9 rfl hm (fun x6 hm => ?_)
        refine lv_iload_n hx hb dX11_nextStrokes_12 rfl (lv_at hl 2 rfl) ?_
        refine z_iald C Hh dX11_nextStrokes_13 hm (fun x7 hm => ?_)
        refine lv_aload_n hx hb dX11_nextStrokes_14 rfl (lv_at hl 0 rfl) ?_
        refine z_getI C fl_11_442 Hh dX11_nextStrokes_15 rfl hm (fun x8 hm => ?_)
        refine lv_iload_n hx hb dX11_nextStrokes_18 rfl (lv_at hl 1 rfl) ?_
        refine z_isub C dX11_nextStrokes_19 ?_
        refine lv_iload_n hx hb dX11_nextStrokes_20 rfl (lv_at hl 2 rfl) ?_
        refine z_iadd C dX11_nextStrokes_21 ?_
        refine z_icmp_ne (tgt := 31) C dX11_nextStrokes_22 (by decide) rfl rfl hm (fun _ hm => ?_) (fun _ hm => ?_)
        · cases hm
          exact K31 h l0 l1 l2 _ _ _ Hh (lv_sub hl [0, 1, 2] rfl) hc4
        · refine z_iinc (x := l2) (k := 2) (lv' := [(2, qI (l2 + (-1))), (0, qR g l0), (1, qI l1)]) C dX11_nextStrokes_25 hl rfl (by decide) rfl (fun ls hl => ?_)
          refine lv_goto (tgt := 4) hx hb dX11_nextStrokes_28 (by decide) ?_
          cases hm
          exact ih4 h l0 l1 (l2 + (-1)) _ _ _ Hh (lv_sub hl [1, 2, 0] rfl) hc4
  refine lv_iload_n hx hb dX11_nextStrokes_0 rfl (lv_at hl 1 rfl) ?_
  refine z_iconst C dX11_nextStrokes_1 ?_
  refine z_isub C dX11_nextStrokes_2 ?_
  refine lv_istore_n (lv' := [(2, qI (l1 - 1)), (0, qR g l0), (1, qI l1)]) hx hb dX11_nextStrokes_3 rfl hl (by decide) rfl (fun ls hl => ?_)
  exact KL4 FU h l0 l1 (l1 - 1) _ _ _ Hh (lv_sub hl [1, 2, 0] rfl) hm
theorem tg_X11_strokesOf {h : Hp} {l0 l1 l2 l3 l4 l5 l6 : Int} {r : Hp × Int} (hm : M_X11_strokesOf h l0 l1 l2 l3 l4 l5 l6 = some r) : hT h l0 = 21 := (tk_inv hm).1
set_option maxRecDepth 100000 in
set_option maxHeartbeats 4000000 in
theorem ct_X11_strokesOf (l : Launch) (g : zGeo) (h0 : Hp) (l0 l1 l2 l3 l4 l5 l6 : Int) (r : Hp × Int) (hm : M_X11_strokesOf h0 l0 l1 l2 l3 l4 l5 l6 = some r) : zM l yX11_strokesOf cX11_strokesOf 10 (some .int) 7 173 0 0 g h0 [qR g l0, qI l1, qI l2, qI l3, qI l4, qI l5, qI l6] r.1 (some (qI r.2)) := by
  refine z_meth (by decide) (Nat.le_of_ble_eq_true rfl) ?_
  intro p e s m args below meth c H ls C hr hlocks hnm Hh hl
  have C : zC p m c cX11_strokesOf 10 s args RX11 g := C
  have hnm : meth.name = "strokesOf" := hnm
  have hx := C.1.1
  have hb := C.1.2.1
  have hl : lv_has ls 10 [(0, qR g l0), (1, qI l1), (2, qI l2), (3, qI l3), (4, qI l4), (5, qI l5), (6, qI l6)] := hl
  unfold M_X11_strokesOf at hm
  replace hm := (tk_inv hm).2
  generalize h0 = h at Hh hm
  have K142 : ∀ (h : Hp) (H : Heap) (locs : List Loc) (ls : Array Slot), zH g s h H locs → lv_has ls 10 [] → M_X11_strokesOf_p142 h = some r → W p l e { frames := 7, cells := 0, slots := 0, locals := 173 } s m args below meth c H locs 0 0 (zQ below g r.1 (some (qI r.2)) args s 0 0) (F0 m 142 ls []) := by
    intro h  H locs ls Hh hl hm
    unfold M_X11_strokesOf_p142 at hm
    refine z_iconst C dX11_strokesOf_142 ?_
    exact z_iret C hr hlocks Hh dX11_strokesOf_143 hm
  have KL17 : ∀ (n : Nat) (h : Hp) (l0 l1 l2 l3 l4 l5 l6 l7 : Int) (H : Heap) (locs : List Loc) (ls : Array Slot), zH g s h H locs → lv_has ls 10 [(0, qR g l0), (1, qI l1), (2, qI l2), (3, qI l3), (4, qI l4), (5, qI l5), (6, qI l6), (7, qI l7)] → M_X11_strokesOf_w17 n h l0 l1 l2 l3 l4 l5 l6 l7 = some r → W p l e { frames := 7, cells := 0, slots := 0, locals := 173 } s m args below meth c H locs 0 0 (zQ below g r.1 (some (qI r.2)) args s 0 0) (F0 m 17 ls []) := by
    intro n
    induction n with
    | zero => intro h l0 l1 l2 l3 l4 l5 l6 l7 H locs ls Hh hl hm; cases hm
    | succ n ih17 =>
      intro h l0 l1 l2 l3 l4 l5 l6 l7 H locs ls Hh hl hm
      obtain ⟨z17, hm, hc17⟩ := wh_inv hm
      have hm : M_X11_strokesOf_b17 h l0 l1 l2 l3 l4 l5 l6 l7 = some z17 := hm
      have K136 : ∀ (h : Hp) (l7 : Int) (H : Heap) (locs : List Loc) (ls : Array Slot), zH g s h H locs → lv_has ls 10 [(0, qR g l0), (1, qI l1), (2, qI l2), (3, qI l3), (4, qI l4), (5, qI l5), (6, qI l6), (7, qI l7)] → M_X11_strokesOf_p136 h l0 l1 l2 l3 l4 l5 l6 l7 = some z17 → W p l e { frames := 7, cells := 0, slots := 0, locals := 173 } s m args below meth c H locs 0 0 (zQ below g r.1 (some (qI r.2)) args s 0 0) (F0 m 136 ls []) := by
        intro h l7  H locs ls Hh hl hm
        unfold M_X11_strokesOf_p136 at hm
        refine z_iinc (x := l7) (k := 7) (lv' := [(7, qI (l7 + 1)), (0, qR g l0), (1, qI l1), (2, qI l2), (3, qI l3), (4, qI l4), (5, qI l5), (6, qI l6)]) C dX11_strokesOf_136 hl rfl (by decide) rfl (fun ls hl => ?_)
        refine lv_goto (tgt := 17) hx hb dX11_strokesOf_139 (by decide) ?_
        cases hm
        exact ih17 h l0 l1 l2 l3 l4 l5 l6 (l7 + 1) _ _ _ Hh (lv_sub hl [1, 2, 3, 4, 5, 6, 7, 0] rfl) hc17
      have KL60 : ∀ (n : Nat) (h : Hp) (l7 l8 : Int) (H : Heap) (locs : List Loc) (ls : Array Slot), zH g s h H locs → lv_has ls 10 [(0, qR g l0), (1, qI l1), (2, qI l2), (3, qI l3), (4, qI l4), (5, qI l5), (6, qI l6), (7, qI l7), (8, qI l8)] → M_X11_strokesOf_w60 n h l0 l1 l2 l3 l4 l5 l6 l7 l8 = some z17 → W p l e { frames := 7, cells := 0, slots := 0, locals := 173 } s m args below meth c H locs 0 0 (zQ below g r.1 (some (qI r.2)) args s 0 0) (F0 m 60 ls []) := by
        intro n
        induction n with
        | zero => intro h l7 l8 H locs ls Hh hl hm; cases hm
        | succ n ih60 =>
          intro h l7 l8 H locs ls Hh hl hm
          obtain ⟨z60, hm, hc60⟩ := wh_inv hm
          have hm : M_X11_strokesOf_b60 h l0 l1 l2 l3 l4 l5 l6 l7 l8 = some z60 := hm
          have K122 : ∀ (h : Hp) (H : Heap) (locs : List Loc) (ls : Array Slot), zH g s h H locs → lv_has ls 10 [(7, qI l7)] → M_X11_strokesOf_p122 h l7 = some z60 → W p l e { frames := 7, cells := 0, slots := 0, locals := 173 } s m args below meth c H locs 0 0 (zQ below g r.1 (some (qI r.2)) args s 0 0) (F0 m 122 ls []) := by
            intro h  H locs ls Hh hl hm
            unfold M_X11_strokesOf_p122 at hm
            refine lv_iload hx hb dX11_strokesOf_122 (lv_at hl 0 rfl) ?_
            cases hm
            have hm := hc60
            change some _ = some z17 at hm
            cases hm
            have hm := hc17
            exact z_iret C hr hlocks Hh dX11_strokesOf_124 hm
          have KL86 : ∀ (n : Nat) (h : Hp) (l9 : Int) (H : Heap) (locs : List Loc) (ls : Array Slot), zH g s h H locs → lv_has ls 10 [(0, qR g l0), (7, qI l7), (9, qI l9)] → M_X11_strokesOf_w86 n h l0 l7 l9 = some z60 → W p l e { frames := 7, cells := 0, slots := 0, locals := 173 } s m args below meth c H locs 0 0 (zQ below g r.1 (some (qI r.2)) args s 0 0) (F0 m 86 ls []) := by
            intro n
            induction n with
            | zero => intro h l9 H locs ls Hh hl hm; cases hm
            | succ n ih86 =>
              intro h l9 H locs ls Hh hl hm
              obtain ⟨z86, hm, hc86⟩ := wh_inv hm
              have hm : M_X11_strokesOf_b86 h l0 l7 l9 = some z86 := hm
              unfold M_X11_strokesOf_b86 at hm
              refine lv_iload hx hb dX11_strokesOf_86 (lv_at hl 2 rfl) ?_
              refine lv_iload hx hb dX11_strokesOf_88 (lv_at hl 1 rfl) ?_
              refine z_icmp_ge (tgt := 122) C dX11_strokesOf_90 (by decide) rfl rfl hm (fun _ hm => ?_) (fun _ hm => ?_)
              · cases hm
                exact K122 h _ _ _ Hh (lv_sub hl [1] rfl) hc86
              · refine lv_aload_n hx hb dX11_strokesOf_93 rfl (lv_at hl 0 rfl) ?_
                refine z_getR C fl_11_57 Hh dX11_strokesOf_94 rfl hm (fun x1 hm => ?_)
                refine lv_iload hx hb dX11_strokesOf_97 (lv_at hl 2 rfl) ?_
                refine lv_aload_n hx hb dX11_strokesOf_99 rfl (lv_at hl 0 rfl) ?_
                refine lv_aload_n hx hb dX11_strokesOf_100 rfl (lv_at hl 0 rfl) ?_
                refine z_getR C fl_11_51 Hh dX11_strokesOf_101 rfl hm (fun x2 hm => ?_)
                refine lv_aload_n hx hb dX11_strokesOf_104 rfl (lv_at hl 0 rfl) ?_
                refine z_getR C fl_11_54 Hh dX11_strokesOf_105 rfl hm (fun x3 hm => ?_)
                refine lv_iload hx hb dX11_strokesOf_108 (lv_at hl 2 rfl) ?_
                refine z_iald C Hh dX11_strokesOf_110 hm (fun x4 hm => ?_)
                refine z_iald C Hh dX11_strokesOf_111 hm (fun x5 hm => ?_)
                refine z_cVIr (vs := [qI x5]) C (fun q hq => ct_X11_told l g h l0 x5 q hq) tw_1834 my_X11_told (fun q hq => tg_X11_told hq) rfl hl.1 Hh ⟨Nat.le_of_ble_eq_true rfl, Nat.le_of_ble_eq_true rfl, Nat.le_of_ble_eq_true rfl, Nat.le_of_ble_eq_true rfl⟩ (Nat.le_of_ble_eq_true rfl) dX11_strokesOf_112 rfl hm (fun x6 H locs Hh hm => ?_)
                refine z_iast C Hh dX11_strokesOf_115 hm (fun h H locs Hh hm => ?_)
                refine z_iinc (x := l9) (k := 2) (lv' := [(9, qI (l9 + 1)), (0, qR g l0), (7, qI l7)]) C dX11_strokesOf_116 hl rfl (by decide) rfl (fun ls hl => ?_)
                refine lv_goto (tgt := 86) hx hb dX11_strokesOf_119 (by decide) ?_
                cases hm
                exact ih86 h (l9 + 1) _ _ _ Hh (lv_sub hl [1, 2, 0] rfl) hc86
          unfold M_X11_strokesOf_b60 at hm
          refine lv_iload hx hb dX11_strokesOf_60 (lv_at hl 8 rfl) ?_
          refine z_if_eq (tgt := 136) C dX11_strokesOf_62 (by decide) rfl hm (fun _ hm => ?_) (fun _ hm => ?_)
          · cases hm
            exact K136 h l7 _ _ _ Hh (lv_sub hl [0, 1, 2, 3, 4, 5, 6, 7] rfl) hc60
          · refine lv_aload_n hx hb dX11_strokesOf_65 rfl (lv_at hl 0 rfl) ?_
            refine lv_iload_n hx hb dX11_strokesOf_66 rfl (lv_at hl 1 rfl) ?_
            refine lv_iload_n hx hb dX11_strokesOf_67 rfl (lv_at hl 2 rfl) ?_
            refine lv_iload hx hb dX11_strokesOf_68 (lv_at hl 7 rfl) ?_
            refine lv_iload_n hx hb dX11_strokesOf_70 rfl (lv_at hl 3 rfl) ?_
            refine lv_iload hx hb dX11_strokesOf_71 (lv_at hl 4 rfl) ?_
            refine lv_iload hx hb dX11_strokesOf_73 (lv_at hl 5 rfl) ?_
            refine lv_iload hx hb dX11_strokesOf_75 (lv_at hl 6 rfl) ?_
            refine z_cVI (vs := [qI l1, qI l2, qI l7, qI l3, qI l4, qI l5, qI l6]) C (fun q hq => ct_X11_isDrawn l g h l0 l1 l2 l7 l3 l4 l5 l6 q hq) tw_1870 my_X11_isDrawn (fun q hq => tg_X11_isDrawn hq) rfl hl.1 Hh ⟨Nat.le_of_ble_eq_true rfl, Nat.le_of_ble_eq_true rfl, Nat.le_of_ble_eq_true rfl, Nat.le_of_ble_eq_true rfl⟩ (Nat.le_of_ble_eq_true rfl) dX11_strokesOf_77 rfl hm (fun h x7 H locs Hh hm => ?_)
            refine z_if_eq (tgt := 125) C dX11_strokesOf_80 (by decide) rfl hm (fun _ hm => ?_) (fun _ hm => ?_)
            · refine lv_aload_n hx hb dX11_strokesOf_125 rfl (lv_at hl 0 rfl) ?_
              refine lv_iload hx hb dX11_strokesOf_126 (lv_at hl 7 rfl) ?_
              refine z_cVI (vs := [qI l7]) C (fun q hq => ct_X11_nextStrokes l g h l0 l7 q hq) tw_1874 my_X11_nextStrokes (fun q hq => tg_X11_nextStrokes hq) rfl hl.1 Hh ⟨Nat.le_of_ble_eq_true rfl, Nat.le_of_ble_eq_true rfl, Nat.le_of_ble_eq_true rfl, Nat.le_of_ble_eq_true rfl⟩ (Nat.le_of_ble_eq_true rfl) dX11_strokesOf_128 rfl hm (fun h x8 H locs Hh hm => ?_)
              refine lv_istore (lv' := [(8, qI x8), (0, qR g l0), (1, qI l1), (2, qI l2), (3, qI l3), (4, qI l4), (5, qI l5), (6, qI l6), (7, qI l7)]) hx hb dX11_strokesOf_131 hl (by decide) rfl (fun ls hl => ?_)
              refine lv_goto (tgt := 60) hx hb dX11_strokesOf_133 (by decide) ?_
              cases hm
              exact ih60 h l7 x8 _ _ _ Hh (lv_sub hl [1, 2, 3, 4, 5, 6, 7, 8, 0] rfl) hc60
            · refine z_iconst C dX11_strokesOf_83 ?_
              refine lv_istore (lv' := [(9, qI 0), (0, qR g l0), (1, qI l1), (2, qI l2), (3, qI l3), (4, qI l4), (5, qI l5), (6, qI l6), (7, qI l7), (8, qI l8)]) hx hb dX11_strokesOf_84 hl (by decide) rfl (fun ls hl => ?_)
              exact KL86 FU h 0 _ _ _ Hh (lv_sub hl [1, 8, 0] rfl) hm
      have K57 : ∀ (h : Hp) (l7 : Int) (H : Heap) (locs : List Loc) (ls : Array Slot), zH g s h H locs → lv_has ls 10 [(0, qR g l0), (1, qI l1), (2, qI l2), (3, qI l3), (4, qI l4), (5, qI l5), (6, qI l6), (7, qI l7)] → M_X11_strokesOf_p57 h l0 l1 l2 l3 l4 l5 l6 l7 = some z17 → W p l e { frames := 7, cells := 0, slots := 0, locals := 173 } s m args below meth c H locs 0 0 (zQ below g r.1 (some (qI r.2)) args s 0 0) (F0 m 57 ls []) := by
        intro h l7  H locs ls Hh hl hm
        unfold M_X11_strokesOf_p57 at hm
        refine z_iconst C dX11_strokesOf_57 ?_
        refine lv_istore (lv' := [(8, qI 1), (0, qR g l0), (1, qI l1), (2, qI l2), (3, qI l3), (4, qI l4), (5, qI l5), (6, qI l6), (7, qI l7)]) hx hb dX11_strokesOf_58 hl (by decide) rfl (fun ls hl => ?_)
        exact KL60 FU h l7 1 _ _ _ Hh (lv_sub hl [1, 2, 3, 4, 5, 6, 7, 8, 0] rfl) hm
      have KL35 : ∀ (n : Nat) (h : Hp) (l7 l8 : Int) (H : Heap) (locs : List Loc) (ls : Array Slot), zH g s h H locs → lv_has ls 10 [(0, qR g l0), (1, qI l1), (2, qI l2), (3, qI l3), (4, qI l4), (5, qI l5), (6, qI l6), (7, qI l7), (8, qI l8)] → M_X11_strokesOf_w35 n h l0 l1 l2 l3 l4 l5 l6 l7 l8 = some z17 → W p l e { frames := 7, cells := 0, slots := 0, locals := 173 } s m args below meth c H locs 0 0 (zQ below g r.1 (some (qI r.2)) args s 0 0) (F0 m 35 ls []) := by
        intro n
        induction n with
        | zero => intro h l7 l8 H locs ls Hh hl hm; cases hm
        | succ n ih35 =>
          intro h l7 l8 H locs ls Hh hl hm
          obtain ⟨z35, hm, hc35⟩ := wh_inv hm
          have hm : M_X11_strokesOf_b35 h l0 l1 l2 l3 l4 l5 l6 l7 l8 = some z35 := hm
          unfold M_X11_strokesOf_b35 at hm
          refine lv_iload hx hb dX11_strokesOf_35 (lv_at hl 8 rfl) ?_
          refine lv_iload hx hb dX11_strokesOf_37 (lv_at hl 7 rfl) ?_
          refine z_icmp_ge (tgt := 57) C dX11_strokesOf_39 (by decide) rfl rfl hm (fun _ hm => ?_) (fun _ hm => ?_)
          · cases hm
            exact K57 h l7 _ _ _ Hh (lv_sub hl [0, 1, 2, 3, 4, 5, 6, 7] rfl) hc35
          · refine lv_aload_n hx hb dX11_strokesOf_42 rfl (lv_at hl 0 rfl) ?_
            refine z_getR C fl_11_54 Hh dX11_strokesOf_43 rfl hm (fun x9 hm => ?_)
            refine lv_iload hx hb dX11_strokesOf_46 (lv_at hl 8 rfl) ?_
            refine lv_iload hx hb dX11_strokesOf_48 (lv_at hl 8 rfl) ?_
            refine z_iast C Hh dX11_strokesOf_50 hm (fun h H locs Hh hm => ?_)
            refine z_iinc (x := l8) (k := 8) (lv' := [(8, qI (l8 + 1)), (0, qR g l0), (1, qI l1), (2, qI l2), (3, qI l3), (4, qI l4), (5, qI l5), (6, qI l6), (7, qI l7)]) C dX11_strokesOf_51 hl rfl (by decide) rfl (fun ls hl => ?_)
            refine lv_goto (tgt := 35) hx hb dX11_strokesOf_54 (by decide) ?_
            cases hm
            exact ih35 h l7 (l8 + 1) _ _ _ Hh (lv_sub hl [1, 2, 3, 4, 5, 6, 7, 8, 0] rfl) hc35
      unfold M_X11_strokesOf_b17 at hm
      refine lv_iload hx hb dX11_strokesOf_17 (lv_at hl 7 rfl) ?_
      refine z_iconst C dX11_strokesOf_19 ?_
      refine z_icmp_gt (tgt := 142) C dX11_strokesOf_20 (by decide) rfl lq_p3 hm (fun _ hm => ?_) (fun _ hm => ?_)
      · cases hm
        exact K142 h _ _ _ Hh (lv_sub hl [] rfl) hc17
      · refine lv_iload hx hb dX11_strokesOf_23 (lv_at hl 7 rfl) ?_
        refine lv_aload_n hx hb dX11_strokesOf_25 rfl (lv_at hl 0 rfl) ?_
        refine z_getI C fl_11_442 Hh dX11_strokesOf_26 rfl hm (fun x10 hm => ?_)
        refine z_icmp_gt (tgt := 142) C dX11_strokesOf_29 (by decide) rfl rfl hm (fun _ hm => ?_) (fun _ hm => ?_)
        · cases hm
          exact K142 h _ _ _ Hh (lv_sub hl [] rfl) hc17
        · refine z_iconst C dX11_strokesOf_32 ?_
          refine lv_istore (lv' := [(8, qI 0), (0, qR g l0), (1, qI l1), (2, qI l2), (3, qI l3), (4, qI l4), (5, qI l5), (6, qI l6), (7, qI l7)]) hx hb dX11_strokesOf_33 hl (by decide) rfl (fun ls hl => ?_)
          exact KL35 FU h l7 0 _ _ _ Hh (lv_sub hl [1, 2, 3, 4, 5, 6, 7, 8, 0] rfl) hm
  refine lv_aload_n hx hb dX11_strokesOf_0 rfl (lv_at hl 0 rfl) ?_
  refine z_cVv (vs := []) C (fun q hq => ct_X11_starts l g h l0 q hq) tw_1718 my_X11_starts (fun q hq => tg_X11_starts hq) rfl hl.1 Hh ⟨Nat.le_of_ble_eq_true rfl, Nat.le_of_ble_eq_true rfl, Nat.le_of_ble_eq_true rfl, Nat.le_of_ble_eq_true rfl⟩ (Nat.le_of_ble_eq_true rfl) dX11_strokesOf_1 rfl hm (fun h H locs Hh hm => ?_)
  refine lv_aload_n hx hb dX11_strokesOf_4 rfl (lv_at hl 0 rfl) ?_
  refine lv_iload_n hx hb dX11_strokesOf_5 rfl (lv_at hl 1 rfl) ?_
  refine lv_iload_n hx hb dX11_strokesOf_6 rfl (lv_at hl 3 rfl) ?_
  refine lv_iload hx hb dX11_strokesOf_7 (lv_at hl 4 rfl) ?_
  refine lv_iload hx hb dX11_strokesOf_9 (lv_at hl 6 rfl) ?_
  refine z_cVv (vs := [qI l1, qI l3, qI l4, qI l6]) C (fun q hq => ct_X11_laysBears l g h l0 l1 l3 l4 l6 q hq) tw_1862 my_X11_laysBears (fun q hq => tg_X11_laysBears hq) rfl hl.1 Hh ⟨Nat.le_of_ble_eq_true rfl, Nat.le_of_ble_eq_true rfl, Nat.le_of_ble_eq_true rfl, Nat.le_of_ble_eq_true rfl⟩ (Nat.le_of_ble_eq_true rfl) dX11_strokesOf_11 rfl hm (fun h H locs Hh hm => ?_)
  refine z_iconst C dX11_strokesOf_14 ?_
  refine lv_istore (lv' := [(7, qI 0), (0, qR g l0), (1, qI l1), (2, qI l2), (3, qI l3), (4, qI l4), (5, qI l5), (6, qI l6)]) hx hb dX11_strokesOf_15 hl (by decide) rfl (fun ls hl => ?_)
  exact KL17 FU h l0 l1 l2 l3 l4 l5 l6 0 _ _ _ Hh (lv_sub hl [1, 2, 3, 4, 5, 6, 7, 0] rfl) hm
theorem tg_X11_refusesStrokes {h : Hp} {l0 l1 l2 l3 l4 l5 l6 : Int} {r : Int} (hm : M_X11_refusesStrokes h l0 l1 l2 l3 l4 l5 l6 = some r) : hT h l0 = 21 := (tk_inv hm).1
set_option maxRecDepth 100000 in
set_option maxHeartbeats 4000000 in
theorem ct_X11_refusesStrokes (l : Launch) (g : zGeo) (h : Hp) (l0 l1 l2 l3 l4 l5 l6 : Int) (r : Int) (hm : M_X11_refusesStrokes h l0 l1 l2 l3 l4 l5 l6 = some r) : zM l yX11_refusesStrokes cX11_refusesStrokes 7 (some .int) 2 45 0 0 g h [qR g l0, qI l1, qI l2, qI l3, qI l4, qI l5, qI l6] h (some (qI r)) := by
  refine z_meth (by decide) (Nat.le_of_ble_eq_true rfl) ?_
  intro p e s m args below meth c H ls C hr hlocks hnm Hh hl
  have C : zC p m c cX11_refusesStrokes 7 s args RX11 g := C
  have hnm : meth.name = "refusesStrokes" := hnm
  have hx := C.1.1
  have hb := C.1.2.1
  have hl : lv_has ls 7 [(0, qR g l0), (1, qI l1), (2, qI l2), (3, qI l3), (4, qI l4), (5, qI l5), (6, qI l6)] := hl
  unfold M_X11_refusesStrokes at hm
  replace hm := (tk_inv hm).2
  refine lv_aload_n hx hb dX11_refusesStrokes_0 rfl (lv_at hl 0 rfl) ?_
  refine lv_iload_n hx hb dX11_refusesStrokes_1 rfl (lv_at hl 1 rfl) ?_
  refine z_cVIr (vs := [qI l1]) C (fun q hq => ct_X11_isTown l g h l0 l1 q hq) tw_1686 my_X11_isTown (fun q hq => tg_X11_isTown hq) rfl hl.1 Hh ⟨Nat.le_of_ble_eq_true rfl, Nat.le_of_ble_eq_true rfl, Nat.le_of_ble_eq_true rfl, Nat.le_of_ble_eq_true rfl⟩ (Nat.le_of_ble_eq_true rfl) dX11_refusesStrokes_2 rfl hm (fun x1 H locs Hh hm => ?_)
  refine z_if_eq (tgt := 35) C dX11_refusesStrokes_5 (by decide) rfl hm (fun _ hm => ?_) (fun _ hm => ?_)
  · refine z_iconst C dX11_refusesStrokes_35 ?_
    exact z_iretR (h0 := h) C hr hlocks Hh dX11_refusesStrokes_36 hm
  · refine lv_aload_n hx hb dX11_refusesStrokes_8 rfl (lv_at hl 0 rfl) ?_
    refine lv_iload_n hx hb dX11_refusesStrokes_9 rfl (lv_at hl 3 rfl) ?_
    refine lv_iload hx hb dX11_refusesStrokes_10 (lv_at hl 4 rfl) ?_
    refine z_cVIr (vs := [qI l3, qI l4]) C (fun q hq => ct_X11_isPlace l g h l0 l3 l4 q hq) tw_1698 my_X11_isPlace (fun q hq => tg_X11_isPlace hq) rfl hl.1 Hh ⟨Nat.le_of_ble_eq_true rfl, Nat.le_of_ble_eq_true rfl, Nat.le_of_ble_eq_true rfl, Nat.le_of_ble_eq_true rfl⟩ (Nat.le_of_ble_eq_true rfl) dX11_refusesStrokes_12 rfl hm (fun x2 H locs Hh hm => ?_)
    refine z_if_eq (tgt := 35) C dX11_refusesStrokes_15 (by decide) rfl hm (fun _ hm => ?_) (fun _ hm => ?_)
    · refine z_iconst C dX11_refusesStrokes_35 ?_
      exact z_iretR (h0 := h) C hr hlocks Hh dX11_refusesStrokes_36 hm
    · refine lv_aload_n hx hb dX11_refusesStrokes_18 rfl (lv_at hl 0 rfl) ?_
      refine lv_iload_n hx hb dX11_refusesStrokes_19 rfl (lv_at hl 2 rfl) ?_
      refine z_cVIr (vs := [qI l2]) C (fun q hq => ct_X11_isMark l g h l0 l2 q hq) tw_1773 my_X11_isMark (fun q hq => tg_X11_isMark hq) rfl hl.1 Hh ⟨Nat.le_of_ble_eq_true rfl, Nat.le_of_ble_eq_true rfl, Nat.le_of_ble_eq_true rfl, Nat.le_of_ble_eq_true rfl⟩ (Nat.le_of_ble_eq_true rfl) dX11_refusesStrokes_20 rfl hm (fun x3 H locs Hh hm => ?_)
      refine z_if_eq (tgt := 35) C dX11_refusesStrokes_23 (by decide) rfl hm (fun _ hm => ?_) (fun _ hm => ?_)
      · refine z_iconst C dX11_refusesStrokes_35 ?_
        exact z_iretR (h0 := h) C hr hlocks Hh dX11_refusesStrokes_36 hm
      · refine lv_aload_n hx hb dX11_refusesStrokes_26 rfl (lv_at hl 0 rfl) ?_
        refine lv_iload hx hb dX11_refusesStrokes_27 (lv_at hl 5 rfl) ?_
        refine z_cVIr (vs := [qI l5]) C (fun q hq => ct_X11_isMark l g h l0 l5 q hq) tw_1773 my_X11_isMark (fun q hq => tg_X11_isMark hq) rfl hl.1 Hh ⟨Nat.le_of_ble_eq_true rfl, Nat.le_of_ble_eq_true rfl, Nat.le_of_ble_eq_true rfl, Nat.le_of_ble_eq_true rfl⟩ (Nat.le_of_ble_eq_true rfl) dX11_refusesStrokes_29 rfl hm (fun x4 H locs Hh hm => ?_)
        refine z_if_ne (tgt := 37) C dX11_refusesStrokes_32 (by decide) rfl hm (fun _ hm => ?_) (fun _ hm => ?_)
        · refine lv_iload hx hb dX11_refusesStrokes_37 (lv_at hl 6 rfl) ?_
          refine z_iconst C dX11_refusesStrokes_39 ?_
          refine z_bipush C dX11_refusesStrokes_40 rfl ?_
          refine z_cSIr (vs := [qI l6, qI 0, qI 12]) C (fun q hq => ct_X11_in l g h l6 0 12 q hq) tw_1576 my_X11_in rfl hl.1 Hh ⟨Nat.le_of_ble_eq_true rfl, Nat.le_of_ble_eq_true rfl, Nat.le_of_ble_eq_true rfl, Nat.le_of_ble_eq_true rfl⟩ (Nat.le_of_ble_eq_true rfl) dX11_refusesStrokes_42 rfl hm (fun x5 H locs Hh hm => ?_)
          refine z_if_eq (tgt := 52) C dX11_refusesStrokes_45 (by decide) rfl hm (fun _ hm => ?_) (fun _ hm => ?_)
          · refine z_iconst C dX11_refusesStrokes_52 ?_
            exact z_iretR (h0 := h) C hr hlocks Hh dX11_refusesStrokes_53 hm
          · refine z_iconst C dX11_refusesStrokes_48 ?_
            refine lv_goto (tgt := 53) hx hb dX11_refusesStrokes_49 (by decide) ?_
            exact z_iretR (h0 := h) C hr hlocks Hh dX11_refusesStrokes_53 hm
        · refine z_iconst C dX11_refusesStrokes_35 ?_
          exact z_iretR (h0 := h) C hr hlocks Hh dX11_refusesStrokes_36 hm
theorem tg_X11_strokes {h : Hp} {l0 l1 l2 l3 l4 l5 l6 : Int} {r : Hp × Int} (hm : M_X11_strokes h l0 l1 l2 l3 l4 l5 l6 = some r) : hT h l0 = 21 := (tk_inv hm).1
set_option maxRecDepth 100000 in
set_option maxHeartbeats 4000000 in
theorem ct_X11_strokes (l : Launch) (g : zGeo) (h0 : Hp) (l0 l1 l2 l3 l4 l5 l6 : Int) (r : Hp × Int) (hm : M_X11_strokes h0 l0 l1 l2 l3 l4 l5 l6 = some r) : zM l yX11_strokes cX11_strokes 9 (some .int) 8 202 0 0 g h0 [qR g l0, qI l1, qI l2, qI l3, qI l4, qI l5, qI l6] r.1 (some (qI r.2)) := by
  refine z_meth (by decide) (Nat.le_of_ble_eq_true rfl) ?_
  intro p e s m args below meth c H ls C hr hlocks hnm Hh hl
  have C : zC p m c cX11_strokes 9 s args RX11 g := C
  have hnm : meth.name = "strokes" := hnm
  have hx := C.1.1
  have hb := C.1.2.1
  have hl : lv_has ls 9 [(0, qR g l0), (1, qI l1), (2, qI l2), (3, qI l3), (4, qI l4), (5, qI l5), (6, qI l6)] := hl
  unfold M_X11_strokes at hm
  replace hm := (tk_inv hm).2
  generalize h0 = h at Hh hm
  refine lv_aload_n hx hb dX11_strokes_0 rfl (lv_at hl 0 rfl) ?_
  refine z_iconst C dX11_strokes_1 ?_
  refine z_putI C hnm pl_11_78 Hh dX11_strokes_2 rfl hm (fun h H locs Hh hm => ?_)
  refine lv_aload_n hx hb dX11_strokes_5 rfl (lv_at hl 0 rfl) ?_
  refine lv_iload_n hx hb dX11_strokes_6 rfl (lv_at hl 1 rfl) ?_
  refine lv_iload_n hx hb dX11_strokes_7 rfl (lv_at hl 2 rfl) ?_
  refine lv_iload_n hx hb dX11_strokes_8 rfl (lv_at hl 3 rfl) ?_
  refine lv_iload hx hb dX11_strokes_9 (lv_at hl 4 rfl) ?_
  refine lv_iload hx hb dX11_strokes_11 (lv_at hl 5 rfl) ?_
  refine lv_iload hx hb dX11_strokes_13 (lv_at hl 6 rfl) ?_
  refine z_cVIr (vs := [qI l1, qI l2, qI l3, qI l4, qI l5, qI l6]) C (fun q hq => ct_X11_refusesStrokes l g h l0 l1 l2 l3 l4 l5 l6 q hq) tw_1854 my_X11_refusesStrokes (fun q hq => tg_X11_refusesStrokes hq) rfl hl.1 Hh ⟨Nat.le_of_ble_eq_true rfl, Nat.le_of_ble_eq_true rfl, Nat.le_of_ble_eq_true rfl, Nat.le_of_ble_eq_true rfl⟩ (Nat.le_of_ble_eq_true rfl) dX11_strokes_15 rfl hm (fun x1 H locs Hh hm => ?_)
  refine lv_istore (lv' := [(7, qI x1), (0, qR g l0), (1, qI l1), (2, qI l2), (3, qI l3), (4, qI l4), (5, qI l5), (6, qI l6)]) hx hb dX11_strokes_18 hl (by decide) rfl (fun ls hl => ?_)
  refine lv_iload hx hb dX11_strokes_20 (lv_at hl 0 rfl) ?_
  refine z_if_le (tgt := 32) C dX11_strokes_22 (by decide) rfl hm (fun _ hm => ?_) (fun _ hm => ?_)
  · refine lv_aload_n hx hb dX11_strokes_32 rfl (lv_at hl 1 rfl) ?_
    refine lv_iload_n hx hb dX11_strokes_33 rfl (lv_at hl 2 rfl) ?_
    refine lv_iload_n hx hb dX11_strokes_34 rfl (lv_at hl 3 rfl) ?_
    refine lv_iload_n hx hb dX11_strokes_35 rfl (lv_at hl 4 rfl) ?_
    refine lv_aload_n hx hb dX11_strokes_36 rfl (lv_at hl 1 rfl) ?_
    refine lv_iload hx hb dX11_strokes_37 (lv_at hl 5 rfl) ?_
    refine z_cVIr (vs := [qI l4]) C (fun q hq => ct_X11_placeOf l g h l0 l4 q hq) tw_1702 my_X11_placeOf (fun q hq => tg_X11_placeOf hq) rfl hl.1 Hh ⟨Nat.le_of_ble_eq_true rfl, Nat.le_of_ble_eq_true rfl, Nat.le_of_ble_eq_true rfl, Nat.le_of_ble_eq_true rfl⟩ (Nat.le_of_ble_eq_true rfl) dX11_strokes_39 rfl hm (fun x2 H locs Hh hm => ?_)
    refine lv_iload hx hb dX11_strokes_42 (lv_at hl 6 rfl) ?_
    refine lv_iload hx hb dX11_strokes_44 (lv_at hl 7 rfl) ?_
    refine z_cVI (vs := [qI l1, qI l2, qI l3, qI x2, qI l5, qI l6]) C (fun q hq => ct_X11_strokesOf l g h l0 l1 l2 l3 x2 l5 l6 q hq) tw_1858 my_X11_strokesOf (fun q hq => tg_X11_strokesOf hq) rfl hl.1 Hh ⟨Nat.le_of_ble_eq_true rfl, Nat.le_of_ble_eq_true rfl, Nat.le_of_ble_eq_true rfl, Nat.le_of_ble_eq_true rfl⟩ (Nat.le_of_ble_eq_true rfl) dX11_strokes_46 rfl hm (fun h x3 H locs Hh hm => ?_)
    refine lv_istore (lv' := [(8, qI x3), (7, qI x1), (0, qR g l0), (1, qI l1), (2, qI l2), (3, qI l3), (4, qI l4), (5, qI l5), (6, qI l6)]) hx hb dX11_strokes_49 hl (by decide) rfl (fun ls hl => ?_)
    refine lv_aload_n hx hb dX11_strokes_51 rfl (lv_at hl 2 rfl) ?_
    refine lv_iload hx hb dX11_strokes_52 (lv_at hl 0 rfl) ?_
    refine z_iconst C dX11_strokes_54 ?_
    refine z_icmp_ne (tgt := 63) C dX11_strokes_55 (by decide) rfl lq_m1 hm (fun _ hm => ?_) (fun _ hm => ?_)
    · refine lv_iload hx hb dX11_strokes_63 (lv_at hl 0 rfl) ?_
      refine z_cVI (vs := [qI x3]) C (fun q hq => ct_X11_good l g h l0 x3 q hq) tw_1670 my_X11_good (fun q hq => tg_X11_good hq) rfl hl.1 Hh ⟨Nat.le_of_ble_eq_true rfl, Nat.le_of_ble_eq_true rfl, Nat.le_of_ble_eq_true rfl, Nat.le_of_ble_eq_true rfl⟩ (Nat.le_of_ble_eq_true rfl) dX11_strokes_65 rfl hm (fun h x4 H locs Hh hm => ?_)
      exact z_iret C hr hlocks Hh dX11_strokes_68 hm
    · refine z_bipush C dX11_strokes_58 rfl ?_
      refine lv_goto (tgt := 65) hx hb dX11_strokes_60 (by decide) ?_
      refine z_cVI (vs := [qI (-2)]) C (fun q hq => ct_X11_good l g h l0 (-2) q hq) tw_1670 my_X11_good (fun q hq => tg_X11_good hq) rfl hl.1 Hh ⟨Nat.le_of_ble_eq_true rfl, Nat.le_of_ble_eq_true rfl, Nat.le_of_ble_eq_true rfl, Nat.le_of_ble_eq_true rfl⟩ (Nat.le_of_ble_eq_true rfl) dX11_strokes_65 rfl hm (fun h x5 H locs Hh hm => ?_)
      exact z_iret C hr hlocks Hh dX11_strokes_68 hm
  · refine lv_aload_n hx hb dX11_strokes_25 rfl (lv_at hl 1 rfl) ?_
    refine lv_iload hx hb dX11_strokes_26 (lv_at hl 0 rfl) ?_
    refine z_cVI (vs := [qI x1]) C (fun q hq => ct_X11_refused l g h l0 x1 q hq) tw_1451 my_X11_refused (fun q hq => tg_X11_refused hq) rfl hl.1 Hh ⟨Nat.le_of_ble_eq_true rfl, Nat.le_of_ble_eq_true rfl, Nat.le_of_ble_eq_true rfl, Nat.le_of_ble_eq_true rfl⟩ (Nat.le_of_ble_eq_true rfl) dX11_strokes_28 rfl hm (fun h x6 H locs Hh hm => ?_)
    exact z_iret C hr hlocks Hh dX11_strokes_31 hm
theorem tg_X11_strokeAt {h : Hp} {l0 l1 l2 l3 l4 l5 l6 l7 : Int} {r : Hp × Int} (hm : M_X11_strokeAt h l0 l1 l2 l3 l4 l5 l6 l7 = some r) : hT h l0 = 21 := (tk_inv hm).1
set_option maxRecDepth 100000 in
set_option maxHeartbeats 4000000 in
theorem ct_X11_strokeAt (l : Launch) (g : zGeo) (h0 : Hp) (l0 l1 l2 l3 l4 l5 l6 l7 : Int) (r : Hp × Int) (hm : M_X11_strokeAt h0 l0 l1 l2 l3 l4 l5 l6 l7 = some r) : zM l yX11_strokeAt cX11_strokeAt 9 (some .int) 8 202 0 0 g h0 [qR g l0, qI l1, qI l2, qI l3, qI l4, qI l5, qI l6, qI l7] r.1 (some (qI r.2)) := by
  refine z_meth (by decide) (Nat.le_of_ble_eq_true rfl) ?_
  intro p e s m args below meth c H ls C hr hlocks hnm Hh hl
  have C : zC p m c cX11_strokeAt 9 s args RX11 g := C
  have hnm : meth.name = "strokeAt" := hnm
  have hx := C.1.1
  have hb := C.1.2.1
  have hl : lv_has ls 9 [(0, qR g l0), (1, qI l1), (2, qI l2), (3, qI l3), (4, qI l4), (5, qI l5), (6, qI l6), (7, qI l7)] := hl
  unfold M_X11_strokeAt at hm
  replace hm := (tk_inv hm).2
  generalize h0 = h at Hh hm
  refine lv_aload_n hx hb dX11_strokeAt_0 rfl (lv_at hl 0 rfl) ?_
  refine z_iconst C dX11_strokeAt_1 ?_
  refine z_putI C hnm pl_11_78 Hh dX11_strokeAt_2 rfl hm (fun h H locs Hh hm => ?_)
  refine lv_aload_n hx hb dX11_strokeAt_5 rfl (lv_at hl 0 rfl) ?_
  refine lv_iload_n hx hb dX11_strokeAt_6 rfl (lv_at hl 1 rfl) ?_
  refine lv_iload_n hx hb dX11_strokeAt_7 rfl (lv_at hl 2 rfl) ?_
  refine lv_iload_n hx hb dX11_strokeAt_8 rfl (lv_at hl 3 rfl) ?_
  refine lv_iload hx hb dX11_strokeAt_9 (lv_at hl 4 rfl) ?_
  refine lv_iload hx hb dX11_strokeAt_11 (lv_at hl 5 rfl) ?_
  refine lv_iload hx hb dX11_strokeAt_13 (lv_at hl 6 rfl) ?_
  refine z_cVIr (vs := [qI l1, qI l2, qI l3, qI l4, qI l5, qI l6]) C (fun q hq => ct_X11_refusesStrokes l g h l0 l1 l2 l3 l4 l5 l6 q hq) tw_1854 my_X11_refusesStrokes (fun q hq => tg_X11_refusesStrokes hq) rfl hl.1 Hh ⟨Nat.le_of_ble_eq_true rfl, Nat.le_of_ble_eq_true rfl, Nat.le_of_ble_eq_true rfl, Nat.le_of_ble_eq_true rfl⟩ (Nat.le_of_ble_eq_true rfl) dX11_strokeAt_15 rfl hm (fun x1 H locs Hh hm => ?_)
  refine lv_istore (lv' := [(8, qI x1), (0, qR g l0), (1, qI l1), (2, qI l2), (3, qI l3), (4, qI l4), (5, qI l5), (6, qI l6), (7, qI l7)]) hx hb dX11_strokeAt_18 hl (by decide) rfl (fun ls hl => ?_)
  refine lv_iload hx hb dX11_strokeAt_20 (lv_at hl 0 rfl) ?_
  refine z_if_le (tgt := 32) C dX11_strokeAt_22 (by decide) rfl hm (fun _ hm => ?_) (fun _ hm => ?_)
  · refine lv_iload hx hb dX11_strokeAt_32 (lv_at hl 8 rfl) ?_
    refine z_if_lt (tgt := 73) C dX11_strokeAt_34 (by decide) rfl hm (fun _ hm => ?_) (fun _ hm => ?_)
    · refine lv_aload_n hx hb dX11_strokeAt_73 rfl (lv_at hl 1 rfl) ?_
      refine z_iconst C dX11_strokeAt_74 ?_
      refine z_cVI (vs := [qI 1]) C (fun q hq => ct_X11_refused l g h l0 1 q hq) tw_1451 my_X11_refused (fun q hq => tg_X11_refused hq) rfl hl.1 Hh ⟨Nat.le_of_ble_eq_true rfl, Nat.le_of_ble_eq_true rfl, Nat.le_of_ble_eq_true rfl, Nat.le_of_ble_eq_true rfl⟩ (Nat.le_of_ble_eq_true rfl) dX11_strokeAt_75 rfl hm (fun h x2 H locs Hh hm => ?_)
      exact z_iret C hr hlocks Hh dX11_strokeAt_78 hm
    · refine lv_iload hx hb dX11_strokeAt_37 (lv_at hl 8 rfl) ?_
      refine lv_aload_n hx hb dX11_strokeAt_39 rfl (lv_at hl 1 rfl) ?_
      refine lv_iload_n hx hb dX11_strokeAt_40 rfl (lv_at hl 2 rfl) ?_
      refine lv_iload_n hx hb dX11_strokeAt_41 rfl (lv_at hl 3 rfl) ?_
      refine lv_iload_n hx hb dX11_strokeAt_42 rfl (lv_at hl 4 rfl) ?_
      refine lv_aload_n hx hb dX11_strokeAt_43 rfl (lv_at hl 1 rfl) ?_
      refine lv_iload hx hb dX11_strokeAt_44 (lv_at hl 5 rfl) ?_
      refine z_cVIr (vs := [qI l4]) C (fun q hq => ct_X11_placeOf l g h l0 l4 q hq) tw_1702 my_X11_placeOf (fun q hq => tg_X11_placeOf hq) rfl hl.1 Hh ⟨Nat.le_of_ble_eq_true rfl, Nat.le_of_ble_eq_true rfl, Nat.le_of_ble_eq_true rfl, Nat.le_of_ble_eq_true rfl⟩ (Nat.le_of_ble_eq_true rfl) dX11_strokeAt_46 rfl hm (fun x3 H locs Hh hm => ?_)
      refine lv_iload hx hb dX11_strokeAt_49 (lv_at hl 6 rfl) ?_
      refine lv_iload hx hb dX11_strokeAt_51 (lv_at hl 7 rfl) ?_
      refine z_cVI (vs := [qI l1, qI l2, qI l3, qI x3, qI l5, qI l6]) C (fun q hq => ct_X11_strokesOf l g h l0 l1 l2 l3 x3 l5 l6 q hq) tw_1858 my_X11_strokesOf (fun q hq => tg_X11_strokesOf hq) rfl hl.1 Hh ⟨Nat.le_of_ble_eq_true rfl, Nat.le_of_ble_eq_true rfl, Nat.le_of_ble_eq_true rfl, Nat.le_of_ble_eq_true rfl⟩ (Nat.le_of_ble_eq_true rfl) dX11_strokeAt_53 rfl hm (fun h x4 H locs Hh hm => ?_)
      refine z_icmp_ge (tgt := 73) C dX11_strokeAt_56 (by decide) rfl rfl hm (fun _ hm => ?_) (fun _ hm => ?_)
      · refine lv_aload_n hx hb dX11_strokeAt_73 rfl (lv_at hl 1 rfl) ?_
        refine z_iconst C dX11_strokeAt_74 ?_
        refine z_cVI (vs := [qI 1]) C (fun q hq => ct_X11_refused l g h l0 1 q hq) tw_1451 my_X11_refused (fun q hq => tg_X11_refused hq) rfl hl.1 Hh ⟨Nat.le_of_ble_eq_true rfl, Nat.le_of_ble_eq_true rfl, Nat.le_of_ble_eq_true rfl, Nat.le_of_ble_eq_true rfl⟩ (Nat.le_of_ble_eq_true rfl) dX11_strokeAt_75 rfl hm (fun h x5 H locs Hh hm => ?_)
        exact z_iret C hr hlocks Hh dX11_strokeAt_78 hm
      · refine lv_aload_n hx hb dX11_strokeAt_59 rfl (lv_at hl 1 rfl) ?_
        refine lv_aload_n hx hb dX11_strokeAt_60 rfl (lv_at hl 1 rfl) ?_
        refine z_getR C fl_11_57 Hh dX11_strokeAt_61 rfl hm (fun x6 hm => ?_)
        refine lv_iload hx hb dX11_strokeAt_64 (lv_at hl 8 rfl) ?_
        refine z_iald C Hh dX11_strokeAt_66 hm (fun x7 hm => ?_)
        refine z_cVI (vs := [qI x7]) C (fun q hq => ct_X11_good l g h l0 x7 q hq) tw_1670 my_X11_good (fun q hq => tg_X11_good hq) rfl hl.1 Hh ⟨Nat.le_of_ble_eq_true rfl, Nat.le_of_ble_eq_true rfl, Nat.le_of_ble_eq_true rfl, Nat.le_of_ble_eq_true rfl⟩ (Nat.le_of_ble_eq_true rfl) dX11_strokeAt_67 rfl hm (fun h x8 H locs Hh hm => ?_)
        refine lv_goto (tgt := 78) hx hb dX11_strokeAt_70 (by decide) ?_
        exact z_iret C hr hlocks Hh dX11_strokeAt_78 hm
  · refine lv_aload_n hx hb dX11_strokeAt_25 rfl (lv_at hl 1 rfl) ?_
    refine lv_iload hx hb dX11_strokeAt_26 (lv_at hl 0 rfl) ?_
    refine z_cVI (vs := [qI x1]) C (fun q hq => ct_X11_refused l g h l0 x1 q hq) tw_1451 my_X11_refused (fun q hq => tg_X11_refused hq) rfl hl.1 Hh ⟨Nat.le_of_ble_eq_true rfl, Nat.le_of_ble_eq_true rfl, Nat.le_of_ble_eq_true rfl, Nat.le_of_ble_eq_true rfl⟩ (Nat.le_of_ble_eq_true rfl) dX11_strokeAt_28 rfl hm (fun h x9 H locs Hh hm => ?_)
    exact z_iret C hr hlocks Hh dX11_strokeAt_31 hm
theorem tg_X11_isEdge {h : Hp} {l0 l1 : Int} {r : Int} (hm : M_X11_isEdge h l0 l1 = some r) : hT h l0 = 21 := (tk_inv hm).1
set_option maxRecDepth 100000 in
set_option maxHeartbeats 4000000 in
theorem ct_X11_isEdge (l : Launch) (g : zGeo) (h : Hp) (l0 l1 : Int) (r : Int) (hm : M_X11_isEdge h l0 l1 = some r) : zM l yX11_isEdge cX11_isEdge 2 (some .boolean) 1 21 0 0 g h [qR g l0, qI l1] h (some (qI r)) := by
  refine z_meth (by decide) (Nat.le_of_ble_eq_true rfl) ?_
  intro p e s m args below meth c H ls C hr hlocks hnm Hh hl
  have C : zC p m c cX11_isEdge 2 s args RX11 g := C
  have hnm : meth.name = "isEdge" := hnm
  have hx := C.1.1
  have hb := C.1.2.1
  have hl : lv_has ls 2 [(0, qR g l0), (1, qI l1)] := hl
  unfold M_X11_isEdge at hm
  replace hm := (tk_inv hm).2
  refine lv_aload_n hx hb dX11_isEdge_0 rfl (lv_at hl 0 rfl) ?_
  refine lv_iload_n hx hb dX11_isEdge_1 rfl (lv_at hl 1 rfl) ?_
  refine z_cVIr (vs := [qI l1]) C (fun q hq => ct_X11_column l g h l0 l1 q hq) tw_1742 my_X11_column (fun q hq => tg_X11_column hq) rfl hl.1 Hh ⟨Nat.le_of_ble_eq_true rfl, Nat.le_of_ble_eq_true rfl, Nat.le_of_ble_eq_true rfl, Nat.le_of_ble_eq_true rfl⟩ (Nat.le_of_ble_eq_true rfl) dX11_isEdge_2 rfl hm (fun x1 H locs Hh hm => ?_)
  refine z_if_eq (tgt := 50) C dX11_isEdge_5 (by decide) rfl hm (fun _ hm => ?_) (fun _ hm => ?_)
  · refine z_iconst C dX11_isEdge_50 ?_
    refine lv_goto (tgt := 55) hx hb dX11_isEdge_51 (by decide) ?_
    exact z_zretRC C hr hlocks Hh dX11_isEdge_55 (by decide) hm
  · refine lv_aload_n hx hb dX11_isEdge_8 rfl (lv_at hl 0 rfl) ?_
    refine lv_iload_n hx hb dX11_isEdge_9 rfl (lv_at hl 1 rfl) ?_
    refine z_cVIr (vs := [qI l1]) C (fun q hq => ct_X11_column l g h l0 l1 q hq) tw_1742 my_X11_column (fun q hq => tg_X11_column hq) rfl hl.1 Hh ⟨Nat.le_of_ble_eq_true rfl, Nat.le_of_ble_eq_true rfl, Nat.le_of_ble_eq_true rfl, Nat.le_of_ble_eq_true rfl⟩ (Nat.le_of_ble_eq_true rfl) dX11_isEdge_10 rfl hm (fun x2 H locs Hh hm => ?_)
    refine lv_aload_n hx hb dX11_isEdge_13 rfl (lv_at hl 0 rfl) ?_
    refine z_getR C fl_11_341 Hh dX11_isEdge_14 rfl hm (fun x3 hm => ?_)
    refine z_getI C fl_11_194 Hh dX11_isEdge_17 rfl hm (fun x4 hm => ?_)
    refine z_iconst C dX11_isEdge_20 ?_
    refine z_isub C dX11_isEdge_21 ?_
    refine z_icmp_eq (tgt := 50) C dX11_isEdge_22 (by decide) rfl rfl hm (fun _ hm => ?_) (fun _ hm => ?_)
    · refine z_iconst C dX11_isEdge_50 ?_
      refine lv_goto (tgt := 55) hx hb dX11_isEdge_51 (by decide) ?_
      exact z_zretRC C hr hlocks Hh dX11_isEdge_55 (by decide) hm
    · refine lv_aload_n hx hb dX11_isEdge_25 rfl (lv_at hl 0 rfl) ?_
      refine lv_iload_n hx hb dX11_isEdge_26 rfl (lv_at hl 1 rfl) ?_
      refine z_cVIr (vs := [qI l1]) C (fun q hq => ct_X11_rowOf l g h l0 l1 q hq) tw_1746 my_X11_rowOf (fun q hq => tg_X11_rowOf hq) rfl hl.1 Hh ⟨Nat.le_of_ble_eq_true rfl, Nat.le_of_ble_eq_true rfl, Nat.le_of_ble_eq_true rfl, Nat.le_of_ble_eq_true rfl⟩ (Nat.le_of_ble_eq_true rfl) dX11_isEdge_27 rfl hm (fun x5 H locs Hh hm => ?_)
      refine z_if_eq (tgt := 50) C dX11_isEdge_30 (by decide) rfl hm (fun _ hm => ?_) (fun _ hm => ?_)
      · refine z_iconst C dX11_isEdge_50 ?_
        refine lv_goto (tgt := 55) hx hb dX11_isEdge_51 (by decide) ?_
        exact z_zretRC C hr hlocks Hh dX11_isEdge_55 (by decide) hm
      · refine lv_aload_n hx hb dX11_isEdge_33 rfl (lv_at hl 0 rfl) ?_
        refine lv_iload_n hx hb dX11_isEdge_34 rfl (lv_at hl 1 rfl) ?_
        refine z_cVIr (vs := [qI l1]) C (fun q hq => ct_X11_rowOf l g h l0 l1 q hq) tw_1746 my_X11_rowOf (fun q hq => tg_X11_rowOf hq) rfl hl.1 Hh ⟨Nat.le_of_ble_eq_true rfl, Nat.le_of_ble_eq_true rfl, Nat.le_of_ble_eq_true rfl, Nat.le_of_ble_eq_true rfl⟩ (Nat.le_of_ble_eq_true rfl) dX11_isEdge_35 rfl hm (fun x6 H locs Hh hm => ?_)
        refine lv_aload_n hx hb dX11_isEdge_38 rfl (lv_at hl 0 rfl) ?_
        refine z_getR C fl_11_341 Hh dX11_isEdge_39 rfl hm (fun x7 hm => ?_)
        refine z_getI C fl_11_256 Hh dX11_isEdge_42 rfl hm (fun x8 hm => ?_)
        refine z_iconst C dX11_isEdge_45 ?_
        refine z_isub C dX11_isEdge_46 ?_
        refine z_icmp_ne (tgt := 54) C dX11_isEdge_47 (by decide) rfl rfl hm (fun _ hm => ?_) (fun _ hm => ?_)
        · refine z_iconst C dX11_isEdge_54 ?_
          exact z_zretRC C hr hlocks Hh dX11_isEdge_55 (by decide) hm
        · refine z_iconst C dX11_isEdge_50 ?_
          refine lv_goto (tgt := 55) hx hb dX11_isEdge_51 (by decide) ?_
          exact z_zretRC C hr hlocks Hh dX11_isEdge_55 (by decide) hm
theorem tg_X11_ink {h : Hp} {l0 l1 l2 l3 : Int} {r : Hp × Int} (hm : M_X11_ink h l0 l1 l2 l3 = some r) : hT h l0 = 21 := (tk_inv hm).1
set_option maxRecDepth 100000 in
set_option maxHeartbeats 4000000 in
theorem ct_X11_ink (l : Launch) (g : zGeo) (h0 : Hp) (l0 l1 l2 l3 : Int) (r : Hp × Int) (hm : M_X11_ink h0 l0 l1 l2 l3 = some r) : zM l yX11_ink cX11_ink 11 (some .int) 2 46 0 0 g h0 [qR g l0, qI l1, qI l2, qI l3] r.1 (some (qI r.2)) := by
  refine z_meth (by decide) (Nat.le_of_ble_eq_true rfl) ?_
  intro p e s m args below meth c H ls C hr hlocks hnm Hh hl
  have C : zC p m c cX11_ink 11 s args RX11 g := C
  have hnm : meth.name = "ink" := hnm
  have hx := C.1.1
  have hb := C.1.2.1
  have hl : lv_has ls 11 [(0, qR g l0), (1, qI l1), (2, qI l2), (3, qI l3)] := hl
  unfold M_X11_ink at hm
  replace hm := (tk_inv hm).2
  generalize h0 = h at Hh hm
  have K273 : ∀ (h : Hp) (l0 l6 : Int) (H : Heap) (locs : List Loc) (ls : Array Slot), zH g s h H locs → lv_has ls 11 [(0, qR g l0), (6, qI l6)] → M_X11_ink_p273 h l0 l6 = some r → W p l e { frames := 2, cells := 0, slots := 0, locals := 46 } s m args below meth c H locs 0 0 (zQ below g r.1 (some (qI r.2)) args s 0 0) (F0 m 273 ls []) := by
    intro h l0 l6  H locs ls Hh hl hm
    unfold M_X11_ink_p273 at hm
    refine lv_aload_n hx hb dX11_ink_273 rfl (lv_at hl 0 rfl) ?_
    refine lv_iload hx hb dX11_ink_274 (lv_at hl 1 rfl) ?_
    refine z_cVI (vs := [qI l6]) C (fun q hq => ct_X11_good l g h l0 l6 q hq) tw_1670 my_X11_good (fun q hq => tg_X11_good hq) rfl hl.1 Hh ⟨Nat.le_of_ble_eq_true rfl, Nat.le_of_ble_eq_true rfl, Nat.le_of_ble_eq_true rfl, Nat.le_of_ble_eq_true rfl⟩ (Nat.le_of_ble_eq_true rfl) dX11_ink_276 rfl hm (fun h x1 H locs Hh hm => ?_)
    exact z_iret C hr hlocks Hh dX11_ink_279 hm
  have KL225 : ∀ (n : Nat) (h : Hp) (l0 l6 l7 : Int) (H : Heap) (locs : List Loc) (ls : Array Slot), zH g s h H locs → lv_has ls 11 [(0, qR g l0), (6, qI l6), (7, qI l7)] → M_X11_ink_w225 n h l0 l6 l7 = some r → W p l e { frames := 2, cells := 0, slots := 0, locals := 46 } s m args below meth c H locs 0 0 (zQ below g r.1 (some (qI r.2)) args s 0 0) (F0 m 225 ls []) := by
    intro n
    induction n with
    | zero => intro h l0 l6 l7 H locs ls Hh hl hm; cases hm
    | succ n ih225 =>
      intro h l0 l6 l7 H locs ls Hh hl hm
      obtain ⟨z225, hm, hc225⟩ := wh_inv hm
      have hm : M_X11_ink_b225 h l0 l6 l7 = some z225 := hm
      have K267 : ∀  (l6 l7 : Int) (H : Heap) (locs : List Loc) (ls : Array Slot), zH g s h H locs → lv_has ls 11 [(0, qR g l0), (6, qI l6), (7, qI l7)] → M_X11_ink_p267 h l0 l6 l7 = some z225 → W p l e { frames := 2, cells := 0, slots := 0, locals := 46 } s m args below meth c H locs 0 0 (zQ below g r.1 (some (qI r.2)) args s 0 0) (F0 m 267 ls []) := by
        intro l6 l7  H locs ls Hh hl hm
        unfold M_X11_ink_p267 at hm
        refine z_iinc (x := l7) (k := 2) (lv' := [(7, qI (l7 + 1)), (0, qR g l0), (6, qI l6)]) C dX11_ink_267 hl rfl (by decide) rfl (fun ls hl => ?_)
        refine lv_goto (tgt := 225) hx hb dX11_ink_270 (by decide) ?_
        cases hm
        exact ih225 h l0 l6 (l7 + 1) _ _ _ Hh (lv_sub hl [1, 2, 0] rfl) hc225
      unfold M_X11_ink_b225 at hm
      refine lv_iload hx hb dX11_ink_225 (lv_at hl 2 rfl) ?_
      refine lv_aload_n hx hb dX11_ink_227 rfl (lv_at hl 0 rfl) ?_
      refine z_getR C fl_11_341 Hh dX11_ink_228 rfl hm (fun x2 hm => ?_)
      refine z_cVIr (vs := []) C (fun q hq => ct_X10_all l g h x2 q hq) tw_1730 my_X10_all (fun q hq => tg_X10_all hq) rfl hl.1 Hh ⟨Nat.le_of_ble_eq_true rfl, Nat.le_of_ble_eq_true rfl, Nat.le_of_ble_eq_true rfl, Nat.le_of_ble_eq_true rfl⟩ (Nat.le_of_ble_eq_true rfl) dX11_ink_231 rfl hm (fun x3 H locs Hh hm => ?_)
      refine z_icmp_ge (tgt := 273) C dX11_ink_234 (by decide) rfl rfl hm (fun _ hm => ?_) (fun _ hm => ?_)
      · cases hm
        exact K273 h l0 l6 _ _ _ Hh (lv_sub hl [0, 1] rfl) hc225
      · refine lv_aload_n hx hb dX11_ink_237 rfl (lv_at hl 0 rfl) ?_
        refine lv_iload hx hb dX11_ink_238 (lv_at hl 2 rfl) ?_
        refine z_cVIr (vs := [qI l7]) C (fun q hq => ct_X11_isEdge l g h l0 l7 q hq) tw_1886 my_X11_isEdge (fun q hq => tg_X11_isEdge hq) rfl hl.1 Hh ⟨Nat.le_of_ble_eq_true rfl, Nat.le_of_ble_eq_true rfl, Nat.le_of_ble_eq_true rfl, Nat.le_of_ble_eq_true rfl⟩ (Nat.le_of_ble_eq_true rfl) dX11_ink_240 rfl hm (fun x4 H locs Hh hm => ?_)
        refine z_if_eq (tgt := 267) C dX11_ink_243 (by decide) rfl hm (fun _ hm => ?_) (fun _ hm => ?_)
        · exact K267 l6 l7 _ _ _ Hh (lv_sub hl [0, 1, 2] rfl) hm
        · refine lv_aload_n hx hb dX11_ink_246 rfl (lv_at hl 0 rfl) ?_
          refine z_getR C fl_11_66 Hh dX11_ink_247 rfl hm (fun x5 hm => ?_)
          refine lv_iload hx hb dX11_ink_250 (lv_at hl 2 rfl) ?_
          refine z_iald C Hh dX11_ink_252 hm (fun x6 hm => ?_)
          refine lv_iload hx hb dX11_ink_253 (lv_at hl 1 rfl) ?_
          refine z_icmp_ge (tgt := 267) C dX11_ink_255 (by decide) rfl rfl hm (fun _ hm => ?_) (fun _ hm => ?_)
          · exact K267 l6 l7 _ _ _ Hh (lv_sub hl [0, 1, 2] rfl) hm
          · refine lv_aload_n hx hb dX11_ink_258 rfl (lv_at hl 0 rfl) ?_
            refine z_getR C fl_11_66 Hh dX11_ink_259 rfl hm (fun x7 hm => ?_)
            refine lv_iload hx hb dX11_ink_262 (lv_at hl 2 rfl) ?_
            refine z_iald C Hh dX11_ink_264 hm (fun x8 hm => ?_)
            refine lv_istore (lv' := [(6, qI x8), (0, qR g l0), (7, qI l7)]) hx hb dX11_ink_265 hl (by decide) rfl (fun ls hl => ?_)
            exact K267 x8 l7 _ _ _ Hh (lv_sub hl [1, 0, 2] rfl) hm
  have K218 : ∀ (h : Hp) (l0 : Int) (H : Heap) (locs : List Loc) (ls : Array Slot), zH g s h H locs → lv_has ls 11 [(0, qR g l0)] → M_X11_ink_p218 h l0 = some r → W p l e { frames := 2, cells := 0, slots := 0, locals := 46 } s m args below meth c H locs 0 0 (zQ below g r.1 (some (qI r.2)) args s 0 0) (F0 m 218 ls []) := by
    intro h l0  H locs ls Hh hl hm
    unfold M_X11_ink_p218 at hm
    refine z_bipush C dX11_ink_218 rfl ?_
    refine lv_istore (lv' := [(6, qI 99), (0, qR g l0)]) hx hb dX11_ink_220 hl (by decide) rfl (fun ls hl => ?_)
    refine z_iconst C dX11_ink_222 ?_
    refine lv_istore (lv' := [(7, qI 0), (6, qI 99), (0, qR g l0)]) hx hb dX11_ink_223 hl (by decide) rfl (fun ls hl => ?_)
    exact KL225 FU h l0 99 0 _ _ _ Hh (lv_sub hl [2, 1, 0] rfl) hm
  have KL95 : ∀ (n : Nat) (h : Hp) (l0 l3 l4 l6 : Int) (H : Heap) (locs : List Loc) (ls : Array Slot), zH g s h H locs → lv_has ls 11 [(0, qR g l0), (3, qI l3), (4, qI l4), (6, qI l6)] → M_X11_ink_w95 n h l0 l3 l4 l6 = some r → W p l e { frames := 2, cells := 0, slots := 0, locals := 46 } s m args below meth c H locs 0 0 (zQ below g r.1 (some (qI r.2)) args s 0 0) (F0 m 95 ls []) := by
    intro n
    induction n with
    | zero => intro h l0 l3 l4 l6 H locs ls Hh hl hm; cases hm
    | succ n ih95 =>
      intro h l0 l3 l4 l6 H locs ls Hh hl hm
      obtain ⟨z95, hm, hc95⟩ := wh_inv hm
      have hm : M_X11_ink_b95 h l0 l3 l4 l6 = some z95 := hm
      have K212 : ∀ (h : Hp) (l6 : Int) (H : Heap) (locs : List Loc) (ls : Array Slot), zH g s h H locs → lv_has ls 11 [(0, qR g l0), (3, qI l3), (4, qI l4), (6, qI l6)] → M_X11_ink_p212 h l0 l3 l4 l6 = some z95 → W p l e { frames := 2, cells := 0, slots := 0, locals := 46 } s m args below meth c H locs 0 0 (zQ below g r.1 (some (qI r.2)) args s 0 0) (F0 m 212 ls []) := by
        intro h l6  H locs ls Hh hl hm
        unfold M_X11_ink_p212 at hm
        refine z_iinc (x := l6) (k := 3) (lv' := [(6, qI (l6 + 1)), (0, qR g l0), (3, qI l3), (4, qI l4)]) C dX11_ink_212 hl rfl (by decide) rfl (fun ls hl => ?_)
        refine lv_goto (tgt := 95) hx hb dX11_ink_215 (by decide) ?_
        cases hm
        exact ih95 h l0 l3 l4 (l6 + 1) _ _ _ Hh (lv_sub hl [1, 2, 3, 0] rfl) hc95
      have KL110 : ∀ (n : Nat) (h : Hp) (l6 l7 : Int) (H : Heap) (locs : List Loc) (ls : Array Slot), zH g s h H locs → lv_has ls 11 [(0, qR g l0), (3, qI l3), (4, qI l4), (6, qI l6), (7, qI l7)] → M_X11_ink_w110 n h l0 l3 l4 l6 l7 = some z95 → W p l e { frames := 2, cells := 0, slots := 0, locals := 46 } s m args below meth c H locs 0 0 (zQ below g r.1 (some (qI r.2)) args s 0 0) (F0 m 110 ls []) := by
        intro n
        induction n with
        | zero => intro h l6 l7 H locs ls Hh hl hm; cases hm
        | succ n ih110 =>
          intro h l6 l7 H locs ls Hh hl hm
          obtain ⟨z110, hm, hc110⟩ := wh_inv hm
          have hm : M_X11_ink_b110 h l0 l3 l4 l6 l7 = some z110 := hm
          have K206 : ∀ (h : Hp) (l7 : Int) (H : Heap) (locs : List Loc) (ls : Array Slot), zH g s h H locs → lv_has ls 11 [(0, qR g l0), (3, qI l3), (4, qI l4), (6, qI l6), (7, qI l7)] → M_X11_ink_p206 h l0 l3 l4 l6 l7 = some z110 → W p l e { frames := 2, cells := 0, slots := 0, locals := 46 } s m args below meth c H locs 0 0 (zQ below g r.1 (some (qI r.2)) args s 0 0) (F0 m 206 ls []) := by
            intro h l7  H locs ls Hh hl hm
            unfold M_X11_ink_p206 at hm
            refine z_iinc (x := l7) (k := 4) (lv' := [(7, qI (l7 + 1)), (0, qR g l0), (3, qI l3), (4, qI l4), (6, qI l6)]) C dX11_ink_206 hl rfl (by decide) rfl (fun ls hl => ?_)
            refine lv_goto (tgt := 110) hx hb dX11_ink_209 (by decide) ?_
            cases hm
            exact ih110 h l6 (l7 + 1) _ _ _ Hh (lv_sub hl [1, 2, 3, 4, 0] rfl) hc110
          have KL125 : ∀ (n : Nat) (h : Hp) (l7 l8 : Int) (H : Heap) (locs : List Loc) (ls : Array Slot), zH g s h H locs → lv_has ls 11 [(0, qR g l0), (3, qI l3), (4, qI l4), (6, qI l6), (7, qI l7), (8, qI l8)] → M_X11_ink_w125 n h l0 l3 l4 l6 l7 l8 = some z110 → W p l e { frames := 2, cells := 0, slots := 0, locals := 46 } s m args below meth c H locs 0 0 (zQ below g r.1 (some (qI r.2)) args s 0 0) (F0 m 125 ls []) := by
            intro n
            induction n with
            | zero => intro h l7 l8 H locs ls Hh hl hm; cases hm
            | succ n ih125 =>
              intro h l7 l8 H locs ls Hh hl hm
              obtain ⟨z125, hm, hc125⟩ := wh_inv hm
              have hm : M_X11_ink_b125 h l0 l3 l4 l6 l7 l8 = some z125 := hm
              have K200 : ∀ (h : Hp) (l8 : Int) (H : Heap) (locs : List Loc) (ls : Array Slot), zH g s h H locs → lv_has ls 11 [(0, qR g l0), (3, qI l3), (4, qI l4), (6, qI l6), (7, qI l7), (8, qI l8)] → M_X11_ink_p200 h l0 l3 l4 l6 l7 l8 = some z125 → W p l e { frames := 2, cells := 0, slots := 0, locals := 46 } s m args below meth c H locs 0 0 (zQ below g r.1 (some (qI r.2)) args s 0 0) (F0 m 200 ls []) := by
                intro h l8  H locs ls Hh hl hm
                unfold M_X11_ink_p200 at hm
                refine z_iinc (x := l8) (k := 5) (lv' := [(8, qI (l8 + 1)), (0, qR g l0), (3, qI l3), (4, qI l4), (6, qI l6), (7, qI l7)]) C dX11_ink_200 hl rfl (by decide) rfl (fun ls hl => ?_)
                refine lv_goto (tgt := 125) hx hb dX11_ink_203 (by decide) ?_
                cases hm
                exact ih125 h l7 (l8 + 1) _ _ _ Hh (lv_sub hl [1, 2, 3, 4, 5, 0] rfl) hc125
              have K176 : ∀ (h : Hp) (l8 l9 : Int) (s0 s1 : Int) (H : Heap) (locs : List Loc) (ls : Array Slot), zH g s h H locs → lv_has ls 11 [(0, qR g l0), (3, qI l3), (4, qI l4), (6, qI l6), (7, qI l7), (8, qI l8), (9, qI l9)] → M_X11_ink_p176 h l0 l3 l4 l6 l7 l8 l9 s0 s1 = some z125 → W p l e { frames := 2, cells := 0, slots := 0, locals := 46 } s m args below meth c H locs 0 0 (zQ below g r.1 (some (qI r.2)) args s 0 0) (F0 m 176 ls [qI s1, qI s0]) := by
                intro h l8 l9 s0 s1 H locs ls Hh hl hm
                unfold M_X11_ink_p176 at hm
                refine z_iadd C dX11_ink_176 ?_
                refine lv_istore (lv' := [(10, qI (s0 + s1)), (0, qR g l0), (3, qI l3), (4, qI l4), (6, qI l6), (7, qI l7), (8, qI l8), (9, qI l9)]) hx hb dX11_ink_177 hl (by decide) rfl (fun ls hl => ?_)
                refine lv_iload hx hb dX11_ink_179 (lv_at hl 0 rfl) ?_
                refine lv_aload_n hx hb dX11_ink_181 rfl (lv_at hl 1 rfl) ?_
                refine z_getR C fl_11_66 Hh dX11_ink_182 rfl hm (fun x9 hm => ?_)
                refine lv_iload hx hb dX11_ink_185 (lv_at hl 7 rfl) ?_
                refine z_iald C Hh dX11_ink_187 hm (fun x10 hm => ?_)
                refine z_icmp_ge (tgt := 200) C dX11_ink_188 (by decide) rfl rfl hm (fun _ hm => ?_) (fun _ hm => ?_)
                · exact K200 h l8 _ _ _ Hh (lv_sub hl [1, 2, 3, 4, 5, 6] rfl) hm
                · refine lv_aload_n hx hb dX11_ink_191 rfl (lv_at hl 1 rfl) ?_
                  refine z_getR C fl_11_66 Hh dX11_ink_192 rfl hm (fun x11 hm => ?_)
                  refine lv_iload hx hb dX11_ink_195 (lv_at hl 7 rfl) ?_
                  refine lv_iload hx hb dX11_ink_197 (lv_at hl 0 rfl) ?_
                  refine z_iast C Hh dX11_ink_199 hm (fun h H locs Hh hm => ?_)
                  exact K200 h l8 _ _ _ Hh (lv_sub hl [1, 2, 3, 4, 5, 6] rfl) hm
              unfold M_X11_ink_b125 at hm
              refine lv_iload hx hb dX11_ink_125 (lv_at hl 5 rfl) ?_
              refine z_iconst C dX11_ink_127 ?_
              refine z_icmp_ge (tgt := 206) C dX11_ink_128 (by decide) rfl lq_p4 hm (fun _ hm => ?_) (fun _ hm => ?_)
              · cases hm
                exact K206 h l7 _ _ _ Hh (lv_sub hl [0, 1, 2, 3, 4] rfl) hc125
              · refine lv_aload_n hx hb dX11_ink_131 rfl (lv_at hl 0 rfl) ?_
                refine lv_iload hx hb dX11_ink_132 (lv_at hl 4 rfl) ?_
                refine lv_iload hx hb dX11_ink_134 (lv_at hl 5 rfl) ?_
                refine z_cVIr (vs := [qI l7, qI l8]) C (fun q hq => ct_X11_beside l g h l0 l7 l8 q hq) tw_1758 my_X11_beside (fun q hq => tg_X11_beside hq) rfl hl.1 Hh ⟨Nat.le_of_ble_eq_true rfl, Nat.le_of_ble_eq_true rfl, Nat.le_of_ble_eq_true rfl, Nat.le_of_ble_eq_true rfl⟩ (Nat.le_of_ble_eq_true rfl) dX11_ink_136 rfl hm (fun x12 H locs Hh hm => ?_)
                refine lv_istore (lv' := [(9, qI x12), (0, qR g l0), (3, qI l3), (4, qI l4), (6, qI l6), (7, qI l7), (8, qI l8)]) hx hb dX11_ink_139 hl (by decide) rfl (fun ls hl => ?_)
                refine lv_iload hx hb dX11_ink_141 (lv_at hl 0 rfl) ?_
                refine z_iconst C dX11_ink_143 ?_
                refine z_icmp_ne (tgt := 150) C dX11_ink_144 (by decide) rfl lq_m1 hm (fun _ hm => ?_) (fun _ hm => ?_)
                · refine lv_aload_n hx hb dX11_ink_150 rfl (lv_at hl 1 rfl) ?_
                  refine z_getR C fl_11_66 Hh dX11_ink_151 rfl hm (fun x13 hm => ?_)
                  refine lv_iload hx hb dX11_ink_154 (lv_at hl 5 rfl) ?_
                  refine z_iald C Hh dX11_ink_156 hm (fun x14 hm => ?_)
                  refine lv_aload_n hx hb dX11_ink_157 rfl (lv_at hl 1 rfl) ?_
                  refine z_getR C fl_11_17 Hh dX11_ink_158 rfl hm (fun x15 hm => ?_)
                  refine lv_iload hx hb dX11_ink_161 (lv_at hl 3 rfl) ?_
                  refine lv_iload hx hb dX11_ink_163 (lv_at hl 0 rfl) ?_
                  refine z_iadd C dX11_ink_165 ?_
                  refine z_iald C Hh dX11_ink_166 hm (fun x16 hm => ?_)
                  refine lv_iload_n hx hb dX11_ink_167 rfl (lv_at hl 2 rfl) ?_
                  refine z_icmp_ne (tgt := 175) C dX11_ink_168 (by decide) rfl rfl hm (fun _ hm => ?_) (fun _ hm => ?_)
                  · refine z_iconst C dX11_ink_175 ?_
                    exact K176 h l8 x12 x14 1 _ _ _ Hh (lv_sub hl [1, 2, 3, 4, 5, 6, 0] rfl) hm
                  · refine z_iconst C dX11_ink_171 ?_
                    refine lv_goto (tgt := 176) hx hb dX11_ink_172 (by decide) ?_
                    exact K176 h l8 x12 x14 0 _ _ _ Hh (lv_sub hl [1, 2, 3, 4, 5, 6, 0] rfl) hm
                · refine lv_goto (tgt := 200) hx hb dX11_ink_147 (by decide) ?_
                  exact K200 h l8 _ _ _ Hh (lv_sub hl [1, 2, 3, 4, 5, 6] rfl) hm
          unfold M_X11_ink_b110 at hm
          refine lv_iload hx hb dX11_ink_110 (lv_at hl 4 rfl) ?_
          refine lv_aload_n hx hb dX11_ink_112 rfl (lv_at hl 0 rfl) ?_
          refine z_getR C fl_11_341 Hh dX11_ink_113 rfl hm (fun x17 hm => ?_)
          refine z_cVIr (vs := []) C (fun q hq => ct_X10_all l g h x17 q hq) tw_1730 my_X10_all (fun q hq => tg_X10_all hq) rfl hl.1 Hh ⟨Nat.le_of_ble_eq_true rfl, Nat.le_of_ble_eq_true rfl, Nat.le_of_ble_eq_true rfl, Nat.le_of_ble_eq_true rfl⟩ (Nat.le_of_ble_eq_true rfl) dX11_ink_116 rfl hm (fun x18 H locs Hh hm => ?_)
          refine z_icmp_ge (tgt := 212) C dX11_ink_119 (by decide) rfl rfl hm (fun _ hm => ?_) (fun _ hm => ?_)
          · cases hm
            exact K212 h l6 _ _ _ Hh (lv_sub hl [0, 1, 2, 3] rfl) hc110
          · refine z_iconst C dX11_ink_122 ?_
            refine lv_istore (lv' := [(8, qI 0), (0, qR g l0), (3, qI l3), (4, qI l4), (6, qI l6), (7, qI l7)]) hx hb dX11_ink_123 hl (by decide) rfl (fun ls hl => ?_)
            exact KL125 FU h l7 0 _ _ _ Hh (lv_sub hl [1, 2, 3, 4, 5, 0] rfl) hm
      unfold M_X11_ink_b95 at hm
      refine lv_iload hx hb dX11_ink_95 (lv_at hl 3 rfl) ?_
      refine lv_aload_n hx hb dX11_ink_97 rfl (lv_at hl 0 rfl) ?_
      refine z_getR C fl_11_341 Hh dX11_ink_98 rfl hm (fun x19 hm => ?_)
      refine z_cVIr (vs := []) C (fun q hq => ct_X10_all l g h x19 q hq) tw_1730 my_X10_all (fun q hq => tg_X10_all hq) rfl hl.1 Hh ⟨Nat.le_of_ble_eq_true rfl, Nat.le_of_ble_eq_true rfl, Nat.le_of_ble_eq_true rfl, Nat.le_of_ble_eq_true rfl⟩ (Nat.le_of_ble_eq_true rfl) dX11_ink_101 rfl hm (fun x20 H locs Hh hm => ?_)
      refine z_icmp_ge (tgt := 218) C dX11_ink_104 (by decide) rfl rfl hm (fun _ hm => ?_) (fun _ hm => ?_)
      · cases hm
        exact K218 h l0 _ _ _ Hh (lv_sub hl [0] rfl) hc95
      · refine z_iconst C dX11_ink_107 ?_
        refine lv_istore (lv' := [(7, qI 0), (0, qR g l0), (3, qI l3), (4, qI l4), (6, qI l6)]) hx hb dX11_ink_108 hl (by decide) rfl (fun ls hl => ?_)
        exact KL110 FU h l6 0 _ _ _ Hh (lv_sub hl [1, 2, 3, 4, 0] rfl) hm
  have K91 : ∀ (h : Hp) (l0 l3 l4 : Int) (s0 s1 s2 : Int) (H : Heap) (locs : List Loc) (ls : Array Slot), zH g s h H locs → lv_has ls 11 [(0, qR g l0), (3, qI l3), (4, qI l4)] → M_X11_ink_p91 h l0 l3 l4 s0 s1 s2 = some r → W p l e { frames := 2, cells := 0, slots := 0, locals := 46 } s m args below meth c H locs 0 0 (zQ below g r.1 (some (qI r.2)) args s 0 0) (F0 m 91 ls [qI s2, qI s1, qR g s0]) := by
    intro h l0 l3 l4 s0 s1 s2 H locs ls Hh hl hm
    unfold M_X11_ink_p91 at hm
    refine z_iast C Hh dX11_ink_91 hm (fun h H locs Hh hm => ?_)
    refine z_iconst C dX11_ink_92 ?_
    refine lv_istore (lv' := [(6, qI 0), (0, qR g l0), (3, qI l3), (4, qI l4)]) hx hb dX11_ink_93 hl (by decide) rfl (fun ls hl => ?_)
    exact KL95 FU h l0 l3 l4 0 _ _ _ Hh (lv_sub hl [1, 2, 3, 0] rfl) hm
  have K59 : ∀ (h : Hp) (l0 l2 l3 l4 : Int) (H : Heap) (locs : List Loc) (ls : Array Slot), zH g s h H locs → lv_has ls 11 [(0, qR g l0), (2, qI l2), (3, qI l3), (4, qI l4)] → M_X11_ink_p59 h l0 l2 l3 l4 = some r → W p l e { frames := 2, cells := 0, slots := 0, locals := 46 } s m args below meth c H locs 0 0 (zQ below g r.1 (some (qI r.2)) args s 0 0) (F0 m 59 ls []) := by
    intro h l0 l2 l3 l4  H locs ls Hh hl hm
    unfold M_X11_ink_p59 at hm
    refine lv_aload_n hx hb dX11_ink_59 rfl (lv_at hl 0 rfl) ?_
    refine lv_iload_n hx hb dX11_ink_60 rfl (lv_at hl 1 rfl) ?_
    refine z_cVIr (vs := [qI l2]) C (fun q hq => ct_X11_placeOf l g h l0 l2 q hq) tw_1702 my_X11_placeOf (fun q hq => tg_X11_placeOf hq) rfl hl.1 Hh ⟨Nat.le_of_ble_eq_true rfl, Nat.le_of_ble_eq_true rfl, Nat.le_of_ble_eq_true rfl, Nat.le_of_ble_eq_true rfl⟩ (Nat.le_of_ble_eq_true rfl) dX11_ink_61 rfl hm (fun x21 H locs Hh hm => ?_)
    refine lv_istore (lv' := [(5, qI x21), (0, qR g l0), (2, qI l2), (3, qI l3), (4, qI l4)]) hx hb dX11_ink_64 hl (by decide) rfl (fun ls hl => ?_)
    refine lv_aload_n hx hb dX11_ink_66 rfl (lv_at hl 1 rfl) ?_
    refine z_getR C fl_11_66 Hh dX11_ink_67 rfl hm (fun x22 hm => ?_)
    refine lv_iload hx hb dX11_ink_70 (lv_at hl 0 rfl) ?_
    refine lv_aload_n hx hb dX11_ink_72 rfl (lv_at hl 1 rfl) ?_
    refine z_getR C fl_11_17 Hh dX11_ink_73 rfl hm (fun x23 hm => ?_)
    refine lv_iload hx hb dX11_ink_76 (lv_at hl 4 rfl) ?_
    refine lv_iload hx hb dX11_ink_78 (lv_at hl 0 rfl) ?_
    refine z_iadd C dX11_ink_80 ?_
    refine z_iald C Hh dX11_ink_81 hm (fun x24 hm => ?_)
    refine lv_iload_n hx hb dX11_ink_82 rfl (lv_at hl 3 rfl) ?_
    refine z_icmp_ne (tgt := 90) C dX11_ink_83 (by decide) rfl rfl hm (fun _ hm => ?_) (fun _ hm => ?_)
    · refine z_iconst C dX11_ink_90 ?_
      exact K91 h l0 l3 l4 x22 x21 1 _ _ _ Hh (lv_sub hl [1, 3, 4] rfl) hm
    · refine z_iconst C dX11_ink_86 ?_
      refine lv_goto (tgt := 91) hx hb dX11_ink_87 (by decide) ?_
      exact K91 h l0 l3 l4 x22 x21 0 _ _ _ Hh (lv_sub hl [1, 3, 4] rfl) hm
  have KL37 : ∀ (n : Nat) (h : Hp) (l0 l2 l3 l4 l5 : Int) (H : Heap) (locs : List Loc) (ls : Array Slot), zH g s h H locs → lv_has ls 11 [(0, qR g l0), (2, qI l2), (3, qI l3), (4, qI l4), (5, qI l5)] → M_X11_ink_w37 n h l0 l2 l3 l4 l5 = some r → W p l e { frames := 2, cells := 0, slots := 0, locals := 46 } s m args below meth c H locs 0 0 (zQ below g r.1 (some (qI r.2)) args s 0 0) (F0 m 37 ls []) := by
    intro n
    induction n with
    | zero => intro h l0 l2 l3 l4 l5 H locs ls Hh hl hm; cases hm
    | succ n ih37 =>
      intro h l0 l2 l3 l4 l5 H locs ls Hh hl hm
      obtain ⟨z37, hm, hc37⟩ := wh_inv hm
      have hm : M_X11_ink_b37 h l0 l2 l3 l4 l5 = some z37 := hm
      unfold M_X11_ink_b37 at hm
      refine lv_iload hx hb dX11_ink_37 (lv_at hl 4 rfl) ?_
      refine z_bipush C dX11_ink_39 rfl ?_
      refine z_icmp_ge (tgt := 59) C dX11_ink_41 (by decide) rfl lq_p36 hm (fun _ hm => ?_) (fun _ hm => ?_)
      · cases hm
        exact K59 h l0 l2 l3 l4 _ _ _ Hh (lv_sub hl [0, 1, 2, 3] rfl) hc37
      · refine lv_aload_n hx hb dX11_ink_44 rfl (lv_at hl 0 rfl) ?_
        refine z_getR C fl_11_66 Hh dX11_ink_45 rfl hm (fun x25 hm => ?_)
        refine lv_iload hx hb dX11_ink_48 (lv_at hl 4 rfl) ?_
        refine z_bipush C dX11_ink_50 rfl ?_
        refine z_iast C Hh dX11_ink_52 hm (fun h H locs Hh hm => ?_)
        refine z_iinc (x := l5) (k := 4) (lv' := [(5, qI (l5 + 1)), (0, qR g l0), (2, qI l2), (3, qI l3), (4, qI l4)]) C dX11_ink_53 hl rfl (by decide) rfl (fun ls hl => ?_)
        refine lv_goto (tgt := 37) hx hb dX11_ink_56 (by decide) ?_
        cases hm
        exact ih37 h l0 l2 l3 l4 (l5 + 1) _ _ _ Hh (lv_sub hl [1, 2, 3, 4, 0] rfl) hc37
  refine lv_aload_n hx hb dX11_ink_0 rfl (lv_at hl 0 rfl) ?_
  refine z_iconst C dX11_ink_1 ?_
  refine z_putI C hnm pl_11_78 Hh dX11_ink_2 rfl hm (fun h H locs Hh hm => ?_)
  refine lv_aload_n hx hb dX11_ink_5 rfl (lv_at hl 0 rfl) ?_
  refine lv_iload_n hx hb dX11_ink_6 rfl (lv_at hl 1 rfl) ?_
  refine lv_iload_n hx hb dX11_ink_7 rfl (lv_at hl 2 rfl) ?_
  refine z_cVIr (vs := [qI l1, qI l2]) C (fun q hq => ct_X11_isPlace l g h l0 l1 l2 q hq) tw_1698 my_X11_isPlace (fun q hq => tg_X11_isPlace hq) rfl hl.1 Hh ⟨Nat.le_of_ble_eq_true rfl, Nat.le_of_ble_eq_true rfl, Nat.le_of_ble_eq_true rfl, Nat.le_of_ble_eq_true rfl⟩ (Nat.le_of_ble_eq_true rfl) dX11_ink_8 rfl hm (fun x26 H locs Hh hm => ?_)
  refine z_if_eq (tgt := 22) C dX11_ink_11 (by decide) rfl hm (fun _ hm => ?_) (fun _ hm => ?_)
  · refine lv_aload_n hx hb dX11_ink_22 rfl (lv_at hl 0 rfl) ?_
    refine z_iconst C dX11_ink_23 ?_
    refine z_cVI (vs := [qI 1]) C (fun q hq => ct_X11_refused l g h l0 1 q hq) tw_1451 my_X11_refused (fun q hq => tg_X11_refused hq) rfl hl.1 Hh ⟨Nat.le_of_ble_eq_true rfl, Nat.le_of_ble_eq_true rfl, Nat.le_of_ble_eq_true rfl, Nat.le_of_ble_eq_true rfl⟩ (Nat.le_of_ble_eq_true rfl) dX11_ink_24 rfl hm (fun h x27 H locs Hh hm => ?_)
    exact z_iret C hr hlocks Hh dX11_ink_27 hm
  · refine lv_aload_n hx hb dX11_ink_14 rfl (lv_at hl 0 rfl) ?_
    refine lv_iload_n hx hb dX11_ink_15 rfl (lv_at hl 3 rfl) ?_
    refine z_cVIr (vs := [qI l3]) C (fun q hq => ct_X11_isMark l g h l0 l3 q hq) tw_1773 my_X11_isMark (fun q hq => tg_X11_isMark hq) rfl hl.1 Hh ⟨Nat.le_of_ble_eq_true rfl, Nat.le_of_ble_eq_true rfl, Nat.le_of_ble_eq_true rfl, Nat.le_of_ble_eq_true rfl⟩ (Nat.le_of_ble_eq_true rfl) dX11_ink_16 rfl hm (fun x28 H locs Hh hm => ?_)
    refine z_if_ne (tgt := 28) C dX11_ink_19 (by decide) rfl hm (fun _ hm => ?_) (fun _ hm => ?_)
    · refine z_bipush C dX11_ink_28 rfl ?_
      refine lv_iload_n hx hb dX11_ink_30 rfl (lv_at hl 1 rfl) ?_
      refine z_imul C dX11_ink_31 ?_
      refine lv_istore (lv' := [(4, qI (36 * l1)), (0, qR g l0), (1, qI l1), (2, qI l2), (3, qI l3)]) hx hb dX11_ink_32 hl (by decide) rfl (fun ls hl => ?_)
      refine z_iconst C dX11_ink_34 ?_
      refine lv_istore (lv' := [(5, qI 0), (4, qI (36 * l1)), (0, qR g l0), (1, qI l1), (2, qI l2), (3, qI l3)]) hx hb dX11_ink_35 hl (by decide) rfl (fun ls hl => ?_)
      exact KL37 FU h l0 l2 l3 (36 * l1) 0 _ _ _ Hh (lv_sub hl [2, 4, 5, 1, 0] rfl) hm
    · refine lv_aload_n hx hb dX11_ink_22 rfl (lv_at hl 0 rfl) ?_
      refine z_iconst C dX11_ink_23 ?_
      refine z_cVI (vs := [qI 1]) C (fun q hq => ct_X11_refused l g h l0 1 q hq) tw_1451 my_X11_refused (fun q hq => tg_X11_refused hq) rfl hl.1 Hh ⟨Nat.le_of_ble_eq_true rfl, Nat.le_of_ble_eq_true rfl, Nat.le_of_ble_eq_true rfl, Nat.le_of_ble_eq_true rfl⟩ (Nat.le_of_ble_eq_true rfl) dX11_ink_24 rfl hm (fun h x29 H locs Hh hm => ?_)
      exact z_iret C hr hlocks Hh dX11_ink_27 hm
theorem tg_X11_firstUnseen {h : Hp} {l0 : Int} {r : Int} (hm : M_X11_firstUnseen h l0 = some r) : hT h l0 = 21 := (tk_inv hm).1
set_option maxRecDepth 100000 in
set_option maxHeartbeats 4000000 in
theorem ct_X11_firstUnseen (l : Launch) (g : zGeo) (h : Hp) (l0 : Int) (r : Int) (hm : M_X11_firstUnseen h l0 = some r) : zM l yX11_firstUnseen cX11_firstUnseen 2 (some .int) 1 23 0 0 g h [qR g l0] h (some (qI r)) := by
  refine z_meth (by decide) (Nat.le_of_ble_eq_true rfl) ?_
  intro p e s m args below meth c H ls C hr hlocks hnm Hh hl
  have C : zC p m c cX11_firstUnseen 2 s args RX11 g := C
  have hnm : meth.name = "firstUnseen" := hnm
  have hx := C.1.1
  have hb := C.1.2.1
  have hl : lv_has ls 2 [(0, qR g l0)] := hl
  unfold M_X11_firstUnseen at hm
  replace hm := (tk_inv hm).2
  have K64 : ∀  (H : Heap) (locs : List Loc) (ls : Array Slot), zH g s h H locs → lv_has ls 2 [] → M_X11_firstUnseen_p64 h = some r → W p l e { frames := 1, cells := 0, slots := 0, locals := 23 } s m args below meth c H locs 0 0 (zQ below g h (some (qI r)) args s 0 0) (F0 m 64 ls []) := by
    intro   H locs ls Hh hl hm
    unfold M_X11_firstUnseen_p64 at hm
    refine z_bipush C dX11_firstUnseen_64 rfl ?_
    exact z_iretR (h0 := h) C hr hlocks Hh dX11_firstUnseen_66 hm
  have KL2 : ∀ (n : Nat)  (l0 l1 : Int) (H : Heap) (locs : List Loc) (ls : Array Slot), zH g s h H locs → lv_has ls 2 [(0, qR g l0), (1, qI l1)] → M_X11_firstUnseen_w2 n h l0 l1 = some r → W p l e { frames := 1, cells := 0, slots := 0, locals := 23 } s m args below meth c H locs 0 0 (zQ below g h (some (qI r)) args s 0 0) (F0 m 2 ls []) := by
    intro n
    induction n with
    | zero => intro l0 l1 H locs ls Hh hl hm; cases hm
    | succ n ih2 =>
      intro l0 l1 H locs ls Hh hl hm
      obtain ⟨z2, hm, hc2⟩ := wh_inv hm
      have hm : M_X11_firstUnseen_b2 h l0 l1 = some z2 := hm
      unfold M_X11_firstUnseen_b2 at hm
      refine lv_iload_n hx hb dX11_firstUnseen_2 rfl (lv_at hl 1 rfl) ?_
      refine lv_aload_n hx hb dX11_firstUnseen_3 rfl (lv_at hl 0 rfl) ?_
      refine z_getR C fl_11_341 Hh dX11_firstUnseen_4 rfl hm (fun x1 hm => ?_)
      refine z_getI C fl_11_319 Hh dX11_firstUnseen_7 rfl hm (fun x2 hm => ?_)
      refine z_icmp_ge (tgt := 64) C dX11_firstUnseen_10 (by decide) rfl rfl hm (fun _ hm => ?_) (fun _ hm => ?_)
      · cases hm
        exact K64  _ _ _ Hh (lv_sub hl [] rfl) hc2
      · refine lv_aload_n hx hb dX11_firstUnseen_13 rfl (lv_at hl 0 rfl) ?_
        refine lv_aload_n hx hb dX11_firstUnseen_14 rfl (lv_at hl 0 rfl) ?_
        refine z_getR C fl_11_341 Hh dX11_firstUnseen_15 rfl hm (fun x3 hm => ?_)
        refine z_getR C fl_11_325 Hh dX11_firstUnseen_18 rfl hm (fun x4 hm => ?_)
        refine lv_iload_n hx hb dX11_firstUnseen_21 rfl (lv_at hl 1 rfl) ?_
        refine z_iald C Hh dX11_firstUnseen_22 hm (fun x5 hm => ?_)
        refine lv_aload_n hx hb dX11_firstUnseen_23 rfl (lv_at hl 0 rfl) ?_
        refine z_getR C fl_11_341 Hh dX11_firstUnseen_24 rfl hm (fun x6 hm => ?_)
        refine z_getR C fl_11_322 Hh dX11_firstUnseen_27 rfl hm (fun x7 hm => ?_)
        refine lv_iload_n hx hb dX11_firstUnseen_30 rfl (lv_at hl 1 rfl) ?_
        refine z_iald C Hh dX11_firstUnseen_31 hm (fun x8 hm => ?_)
        refine lv_aload_n hx hb dX11_firstUnseen_32 rfl (lv_at hl 0 rfl) ?_
        refine z_getR C fl_11_341 Hh dX11_firstUnseen_33 rfl hm (fun x9 hm => ?_)
        refine z_getR C fl_11_328 Hh dX11_firstUnseen_36 rfl hm (fun x10 hm => ?_)
        refine lv_iload_n hx hb dX11_firstUnseen_39 rfl (lv_at hl 1 rfl) ?_
        refine z_iald C Hh dX11_firstUnseen_40 hm (fun x11 hm => ?_)
        refine z_cVIr (vs := [qI x5, qI x8, qI x11]) C (fun q hq => ct_X11_behind l g h l0 x5 x8 x11 q hq) tw_1765 my_X11_behind (fun q hq => tg_X11_behind hq) rfl hl.1 Hh ⟨Nat.le_of_ble_eq_true rfl, Nat.le_of_ble_eq_true rfl, Nat.le_of_ble_eq_true rfl, Nat.le_of_ble_eq_true rfl⟩ (Nat.le_of_ble_eq_true rfl) dX11_firstUnseen_41 rfl hm (fun x12 H locs Hh hm => ?_)
        refine lv_aload_n hx hb dX11_firstUnseen_44 rfl (lv_at hl 0 rfl) ?_
        refine z_getR C fl_11_341 Hh dX11_firstUnseen_45 rfl hm (fun x13 hm => ?_)
        refine z_getR C fl_11_331 Hh dX11_firstUnseen_48 rfl hm (fun x14 hm => ?_)
        refine lv_iload_n hx hb dX11_firstUnseen_51 rfl (lv_at hl 1 rfl) ?_
        refine z_iald C Hh dX11_firstUnseen_52 hm (fun x15 hm => ?_)
        refine z_icmp_eq (tgt := 58) C dX11_firstUnseen_53 (by decide) rfl rfl hm (fun _ hm => ?_) (fun _ hm => ?_)
        · refine z_iinc (x := l1) (k := 1) (lv' := [(1, qI (l1 + 1)), (0, qR g l0)]) C dX11_firstUnseen_58 hl rfl (by decide) rfl (fun ls hl => ?_)
          refine lv_goto (tgt := 2) hx hb dX11_firstUnseen_61 (by decide) ?_
          cases hm
          exact ih2 l0 (l1 + 1) _ _ _ Hh (lv_sub hl [1, 0] rfl) hc2
        · refine lv_iload_n hx hb dX11_firstUnseen_56 rfl (lv_at hl 1 rfl) ?_
          cases hm
          have hm := hc2
          exact z_iretR (h0 := h) C hr hlocks Hh dX11_firstUnseen_57 hm
  refine z_iconst C dX11_firstUnseen_0 ?_
  refine lv_istore_n (lv' := [(1, qI 0), (0, qR g l0)]) hx hb dX11_firstUnseen_1 rfl hl (by decide) rfl (fun ls hl => ?_)
  exact KL2 FU l0 0 _ _ _ Hh (lv_sub hl [1, 0] rfl) hm
theorem tg_X11_latestSeen {h : Hp} {l0 : Int} {r : Int} (hm : M_X11_latestSeen h l0 = some r) : hT h l0 = 21 := (tk_inv hm).1
set_option maxRecDepth 100000 in
set_option maxHeartbeats 4000000 in
theorem ct_X11_latestSeen (l : Launch) (g : zGeo) (h : Hp) (l0 : Int) (r : Int) (hm : M_X11_latestSeen h l0 = some r) : zM l yX11_latestSeen cX11_latestSeen 3 (some .int) 0 0 0 0 g h [qR g l0] h (some (qI r)) := by
  refine z_meth (by decide) (Nat.le_of_ble_eq_true rfl) ?_
  intro p e s m args below meth c H ls C hr hlocks hnm Hh hl
  have C : zC p m c cX11_latestSeen 3 s args RX11 g := C
  have hnm : meth.name = "latestSeen" := hnm
  have hx := C.1.1
  have hb := C.1.2.1
  have hl : lv_has ls 3 [(0, qR g l0)] := hl
  unfold M_X11_latestSeen at hm
  replace hm := (tk_inv hm).2
  have K48 : ∀  (l1 : Int) (H : Heap) (locs : List Loc) (ls : Array Slot), zH g s h H locs → lv_has ls 3 [(1, qI l1)] → M_X11_latestSeen_p48 h l1 = some r → W p l e { frames := 0, cells := 0, slots := 0, locals := 0 } s m args below meth c H locs 0 0 (zQ below g h (some (qI r)) args s 0 0) (F0 m 48 ls []) := by
    intro l1  H locs ls Hh hl hm
    unfold M_X11_latestSeen_p48 at hm
    refine lv_iload_n hx hb dX11_latestSeen_48 rfl (lv_at hl 0 rfl) ?_
    exact z_iretR (h0 := h) C hr hlocks Hh dX11_latestSeen_49 hm
  have KL4 : ∀ (n : Nat)  (l0 l1 l2 : Int) (H : Heap) (locs : List Loc) (ls : Array Slot), zH g s h H locs → lv_has ls 3 [(0, qR g l0), (1, qI l1), (2, qI l2)] → M_X11_latestSeen_w4 n h l0 l1 l2 = some r → W p l e { frames := 0, cells := 0, slots := 0, locals := 0 } s m args below meth c H locs 0 0 (zQ below g h (some (qI r)) args s 0 0) (F0 m 4 ls []) := by
    intro n
    induction n with
    | zero => intro l0 l1 l2 H locs ls Hh hl hm; cases hm
    | succ n ih4 =>
      intro l0 l1 l2 H locs ls Hh hl hm
      obtain ⟨z4, hm, hc4⟩ := wh_inv hm
      have hm : M_X11_latestSeen_b4 h l0 l1 l2 = some z4 := hm
      have K41 : ∀  (l2 : Int) (s0 : Int) (H : Heap) (locs : List Loc) (ls : Array Slot), zH g s h H locs → lv_has ls 3 [(0, qR g l0), (2, qI l2)] → M_X11_latestSeen_p41 h l0 l2 s0 = some z4 → W p l e { frames := 0, cells := 0, slots := 0, locals := 0 } s m args below meth c H locs 0 0 (zQ below g h (some (qI r)) args s 0 0) (F0 m 41 ls [qI s0]) := by
        intro l2 s0 H locs ls Hh hl hm
        unfold M_X11_latestSeen_p41 at hm
        refine lv_istore_n (lv' := [(1, qI s0), (0, qR g l0), (2, qI l2)]) hx hb dX11_latestSeen_41 rfl hl (by decide) rfl (fun ls hl => ?_)
        refine z_iinc (x := l2) (k := 2) (lv' := [(2, qI (l2 + 1)), (1, qI s0), (0, qR g l0)]) C dX11_latestSeen_42 hl rfl (by decide) rfl (fun ls hl => ?_)
        refine lv_goto (tgt := 4) hx hb dX11_latestSeen_45 (by decide) ?_
        cases hm
        exact ih4 l0 s0 (l2 + 1) _ _ _ Hh (lv_sub hl [2, 1, 0] rfl) hc4
      unfold M_X11_latestSeen_b4 at hm
      refine lv_iload_n hx hb dX11_latestSeen_4 rfl (lv_at hl 2 rfl) ?_
      refine lv_aload_n hx hb dX11_latestSeen_5 rfl (lv_at hl 0 rfl) ?_
      refine z_getR C fl_11_341 Hh dX11_latestSeen_6 rfl hm (fun x1 hm => ?_)
      refine z_getI C fl_11_319 Hh dX11_latestSeen_9 rfl hm (fun x2 hm => ?_)
      refine z_icmp_ge (tgt := 48) C dX11_latestSeen_12 (by decide) rfl rfl hm (fun _ hm => ?_) (fun _ hm => ?_)
      · cases hm
        exact K48 l1 _ _ _ Hh (lv_sub hl [1] rfl) hc4
      · refine lv_aload_n hx hb dX11_latestSeen_15 rfl (lv_at hl 0 rfl) ?_
        refine z_getR C fl_11_341 Hh dX11_latestSeen_16 rfl hm (fun x3 hm => ?_)
        refine z_getR C fl_11_325 Hh dX11_latestSeen_19 rfl hm (fun x4 hm => ?_)
        refine lv_iload_n hx hb dX11_latestSeen_22 rfl (lv_at hl 2 rfl) ?_
        refine z_iald C Hh dX11_latestSeen_23 hm (fun x5 hm => ?_)
        refine lv_iload_n hx hb dX11_latestSeen_24 rfl (lv_at hl 1 rfl) ?_
        refine z_icmp_le (tgt := 40) C dX11_latestSeen_25 (by decide) rfl rfl hm (fun _ hm => ?_) (fun _ hm => ?_)
        · refine lv_iload_n hx hb dX11_latestSeen_40 rfl (lv_at hl 1 rfl) ?_
          exact K41 l2 l1 _ _ _ Hh (lv_sub hl [0, 2] rfl) hm
        · refine lv_aload_n hx hb dX11_latestSeen_28 rfl (lv_at hl 0 rfl) ?_
          refine z_getR C fl_11_341 Hh dX11_latestSeen_29 rfl hm (fun x6 hm => ?_)
          refine z_getR C fl_11_325 Hh dX11_latestSeen_32 rfl hm (fun x7 hm => ?_)
          refine lv_iload_n hx hb dX11_latestSeen_35 rfl (lv_at hl 2 rfl) ?_
          refine z_iald C Hh dX11_latestSeen_36 hm (fun x8 hm => ?_)
          refine lv_goto (tgt := 41) hx hb dX11_latestSeen_37 (by decide) ?_
          exact K41 l2 x8 _ _ _ Hh (lv_sub hl [0, 2] rfl) hm
  refine z_iconst C dX11_latestSeen_0 ?_
  refine lv_istore_n (lv' := [(1, qI 0), (0, qR g l0)]) hx hb dX11_latestSeen_1 rfl hl (by decide) rfl (fun ls hl => ?_)
  refine z_iconst C dX11_latestSeen_2 ?_
  refine lv_istore_n (lv' := [(2, qI 0), (1, qI 0), (0, qR g l0)]) hx hb dX11_latestSeen_3 rfl hl (by decide) rfl (fun ls hl => ?_)
  exact KL4 FU l0 0 0 _ _ _ Hh (lv_sub hl [2, 1, 0] rfl) hm
theorem tg_X11_judge {h : Hp} {l0 : Int} {r : Hp × Int} (hm : M_X11_judge h l0 = some r) : hT h l0 = 21 := (tk_inv hm).1
set_option maxRecDepth 100000 in
set_option maxHeartbeats 4000000 in
theorem ct_X11_judge (l : Launch) (g : zGeo) (h0 : Hp) (l0 : Int) (r : Hp × Int) (hm : M_X11_judge h0 l0 = some r) : zM l yX11_judge cX11_judge 1 (some .int) 6 145 0 0 g h0 [qR g l0] r.1 (some (qI r.2)) := by
  refine z_meth (by decide) (Nat.le_of_ble_eq_true rfl) ?_
  intro p e s m args below meth c H ls C hr hlocks hnm Hh hl
  have C : zC p m c cX11_judge 1 s args RX11 g := C
  have hnm : meth.name = "judge" := hnm
  have hx := C.1.1
  have hb := C.1.2.1
  have hl : lv_has ls 1 [(0, qR g l0)] := hl
  unfold M_X11_judge at hm
  replace hm := (tk_inv hm).2
  generalize h0 = h at Hh hm
  refine lv_aload_n hx hb dX11_judge_0 rfl (lv_at hl 0 rfl) ?_
  refine z_iconst C dX11_judge_1 ?_
  refine z_putI C hnm pl_11_78 Hh dX11_judge_2 rfl hm (fun h H locs Hh hm => ?_)
  refine lv_aload_n hx hb dX11_judge_5 rfl (lv_at hl 0 rfl) ?_
  refine z_getNonnull (tgt := 18) C fl_11_341 Hh dX11_judge_6 rfl dX11_judge_9 (by decide) hm (fun x1 q hm => ?_) (fun x1 q hm => ?_)
  · rw [if_pos q] at hm
    refine lv_aload_n hx hb dX11_judge_12 rfl (lv_at hl 0 rfl) ?_
    refine z_iconst C dX11_judge_13 ?_
    refine z_cVI (vs := [qI 1]) C (fun q hq => ct_X11_refused l g h l0 1 q hq) tw_1451 my_X11_refused (fun q hq => tg_X11_refused hq) rfl hl.1 Hh ⟨Nat.le_of_ble_eq_true rfl, Nat.le_of_ble_eq_true rfl, Nat.le_of_ble_eq_true rfl, Nat.le_of_ble_eq_true rfl⟩ (Nat.le_of_ble_eq_true rfl) dX11_judge_14 rfl hm (fun h x2 H locs Hh hm => ?_)
    exact z_iret C hr hlocks Hh dX11_judge_17 hm
  · rw [if_neg q] at hm
    refine lv_aload_n hx hb dX11_judge_18 rfl (lv_at hl 0 rfl) ?_
    refine z_cVv (vs := []) C (fun q hq => ct_X11_startsTold l g h l0 q hq) tw_1894 my_X11_startsTold (fun q hq => tg_X11_startsTold hq) rfl hl.1 Hh ⟨Nat.le_of_ble_eq_true rfl, Nat.le_of_ble_eq_true rfl, Nat.le_of_ble_eq_true rfl, Nat.le_of_ble_eq_true rfl⟩ (Nat.le_of_ble_eq_true rfl) dX11_judge_19 rfl hm (fun h H locs Hh hm => ?_)
    refine lv_aload_n hx hb dX11_judge_22 rfl (lv_at hl 0 rfl) ?_
    refine lv_aload_n hx hb dX11_judge_23 rfl (lv_at hl 0 rfl) ?_
    refine z_cVIr (vs := []) C (fun q hq => ct_X11_latestSeen l g h l0 q hq) tw_1898 my_X11_latestSeen (fun q hq => tg_X11_latestSeen hq) rfl hl.1 Hh ⟨Nat.le_of_ble_eq_true rfl, Nat.le_of_ble_eq_true rfl, Nat.le_of_ble_eq_true rfl, Nat.le_of_ble_eq_true rfl⟩ (Nat.le_of_ble_eq_true rfl) dX11_judge_24 rfl hm (fun x3 H locs Hh hm => ?_)
    refine z_cVv (vs := [qI x3]) C (fun q hq => ct_X11_steps l g h l0 x3 q hq) tw_1722 my_X11_steps (fun q hq => tg_X11_steps hq) rfl hl.1 Hh ⟨Nat.le_of_ble_eq_true rfl, Nat.le_of_ble_eq_true rfl, Nat.le_of_ble_eq_true rfl, Nat.le_of_ble_eq_true rfl⟩ (Nat.le_of_ble_eq_true rfl) dX11_judge_27 rfl hm (fun h H locs Hh hm => ?_)
    refine lv_aload_n hx hb dX11_judge_30 rfl (lv_at hl 0 rfl) ?_
    refine lv_aload_n hx hb dX11_judge_31 rfl (lv_at hl 0 rfl) ?_
    refine z_cVIr (vs := []) C (fun q hq => ct_X11_firstUnseen l g h l0 q hq) tw_1902 my_X11_firstUnseen (fun q hq => tg_X11_firstUnseen hq) rfl hl.1 Hh ⟨Nat.le_of_ble_eq_true rfl, Nat.le_of_ble_eq_true rfl, Nat.le_of_ble_eq_true rfl, Nat.le_of_ble_eq_true rfl⟩ (Nat.le_of_ble_eq_true rfl) dX11_judge_32 rfl hm (fun x4 H locs Hh hm => ?_)
    refine z_cVI (vs := [qI x4]) C (fun q hq => ct_X11_good l g h l0 x4 q hq) tw_1670 my_X11_good (fun q hq => tg_X11_good hq) rfl hl.1 Hh ⟨Nat.le_of_ble_eq_true rfl, Nat.le_of_ble_eq_true rfl, Nat.le_of_ble_eq_true rfl, Nat.le_of_ble_eq_true rfl⟩ (Nat.le_of_ble_eq_true rfl) dX11_judge_35 rfl hm (fun h x5 H locs Hh hm => ?_)
    exact z_iret C hr hlocks Hh dX11_judge_38 hm
theorem tg_X11_isUnknown {h : Hp} {l0 l1 : Int} {r : Int} (hm : M_X11_isUnknown h l0 l1 = some r) : hT h l0 = 21 := (tk_inv hm).1
set_option maxRecDepth 100000 in
set_option maxHeartbeats 4000000 in
theorem ct_X11_isUnknown (l : Launch) (g : zGeo) (h : Hp) (l0 l1 : Int) (r : Int) (hm : M_X11_isUnknown h l0 l1 = some r) : zM l yX11_isUnknown cX11_isUnknown 2 (some .boolean) 0 0 0 0 g h [qR g l0, qI l1] h (some (qI r)) := by
  refine z_meth (by decide) (Nat.le_of_ble_eq_true rfl) ?_
  intro p e s m args below meth c H ls C hr hlocks hnm Hh hl
  have C : zC p m c cX11_isUnknown 2 s args RX11 g := C
  have hnm : meth.name = "isUnknown" := hnm
  have hx := C.1.1
  have hb := C.1.2.1
  have hl : lv_has ls 2 [(0, qR g l0), (1, qI l1)] := hl
  unfold M_X11_isUnknown at hm
  replace hm := (tk_inv hm).2
  refine lv_aload_n hx hb dX11_isUnknown_0 rfl (lv_at hl 0 rfl) ?_
  refine z_getR C fl_11_341 Hh dX11_isUnknown_1 rfl hm (fun x1 hm => ?_)
  refine z_getR C fl_11_268 Hh dX11_isUnknown_4 rfl hm (fun x2 hm => ?_)
  refine lv_iload_n hx hb dX11_isUnknown_7 rfl (lv_at hl 1 rfl) ?_
  refine z_iald C Hh dX11_isUnknown_8 hm (fun x3 hm => ?_)
  refine z_bipush C dX11_isUnknown_9 rfl ?_
  refine z_icmp_eq (tgt := 34) C dX11_isUnknown_11 (by decide) rfl lq_m2 hm (fun _ hm => ?_) (fun _ hm => ?_)
  · refine z_iconst C dX11_isUnknown_34 ?_
    exact z_zretRC C hr hlocks Hh dX11_isUnknown_35 (by decide) hm
  · refine lv_aload_n hx hb dX11_isUnknown_14 rfl (lv_at hl 0 rfl) ?_
    refine z_getR C fl_11_341 Hh dX11_isUnknown_15 rfl hm (fun x4 hm => ?_)
    refine z_getR C fl_11_270 Hh dX11_isUnknown_18 rfl hm (fun x5 hm => ?_)
    refine z_iconst C dX11_isUnknown_21 ?_
    refine lv_iload_n hx hb dX11_isUnknown_22 rfl (lv_at hl 1 rfl) ?_
    refine z_imul C dX11_isUnknown_23 ?_
    refine z_iald C Hh dX11_isUnknown_24 hm (fun x6 hm => ?_)
    refine z_bipush C dX11_isUnknown_25 rfl ?_
    refine z_icmp_ne (tgt := 34) C dX11_isUnknown_27 (by decide) rfl lq_p10 hm (fun _ hm => ?_) (fun _ hm => ?_)
    · refine z_iconst C dX11_isUnknown_34 ?_
      exact z_zretRC C hr hlocks Hh dX11_isUnknown_35 (by decide) hm
    · refine z_iconst C dX11_isUnknown_30 ?_
      refine lv_goto (tgt := 35) hx hb dX11_isUnknown_31 (by decide) ?_
      exact z_zretRC C hr hlocks Hh dX11_isUnknown_35 (by decide) hm
theorem tg_X11_nextRow {h : Hp} {l0 : Int} {r : Hp × Int} (hm : M_X11_nextRow h l0 = some r) : hT h l0 = 21 := (tk_inv hm).1
set_option maxRecDepth 100000 in
set_option maxHeartbeats 4000000 in
theorem ct_X11_nextRow (l : Launch) (g : zGeo) (h0 : Hp) (l0 : Int) (r : Hp × Int) (hm : M_X11_nextRow h0 l0 = some r) : zM l yX11_nextRow cX11_nextRow 2 (some .boolean) 1 21 0 0 g h0 [qR g l0] r.1 (some (qI r.2)) := by
  refine z_meth (by decide) (Nat.le_of_ble_eq_true rfl) ?_
  intro p e s m args below meth c H ls C hr hlocks hnm Hh hl
  have C : zC p m c cX11_nextRow 2 s args RX11 g := C
  have hnm : meth.name = "nextRow" := hnm
  have hx := C.1.1
  have hb := C.1.2.1
  have hl : lv_has ls 2 [(0, qR g l0)] := hl
  unfold M_X11_nextRow at hm
  replace hm := (tk_inv hm).2
  generalize h0 = h at Hh hm
  have K66 : ∀ (h : Hp) (H : Heap) (locs : List Loc) (ls : Array Slot), zH g s h H locs → lv_has ls 2 [] → M_X11_nextRow_p66 h = some r → W p l e { frames := 1, cells := 0, slots := 0, locals := 21 } s m args below meth c H locs 0 0 (zQ below g r.1 (some (qI r.2)) args s 0 0) (F0 m 66 ls []) := by
    intro h  H locs ls Hh hl hm
    unfold M_X11_nextRow_p66 at hm
    refine z_iconst C dX11_nextRow_66 ?_
    exact z_zretC C hr hlocks Hh dX11_nextRow_67 (by decide) hm
  have KL10 : ∀ (n : Nat) (h : Hp) (l0 l1 : Int) (H : Heap) (locs : List Loc) (ls : Array Slot), zH g s h H locs → lv_has ls 2 [(0, qR g l0), (1, qI l1)] → M_X11_nextRow_w10 n h l0 l1 = some r → W p l e { frames := 1, cells := 0, slots := 0, locals := 21 } s m args below meth c H locs 0 0 (zQ below g r.1 (some (qI r.2)) args s 0 0) (F0 m 10 ls []) := by
    intro n
    induction n with
    | zero => intro h l0 l1 H locs ls Hh hl hm; cases hm
    | succ n ih10 =>
      intro h l0 l1 H locs ls Hh hl hm
      obtain ⟨z10, hm, hc10⟩ := wh_inv hm
      have hm : M_X11_nextRow_b10 h l0 l1 = some z10 := hm
      have K60 : ∀ (h : Hp) (l1 : Int) (H : Heap) (locs : List Loc) (ls : Array Slot), zH g s h H locs → lv_has ls 2 [(0, qR g l0), (1, qI l1)] → M_X11_nextRow_p60 h l0 l1 = some z10 → W p l e { frames := 1, cells := 0, slots := 0, locals := 21 } s m args below meth c H locs 0 0 (zQ below g r.1 (some (qI r.2)) args s 0 0) (F0 m 60 ls []) := by
        intro h l1  H locs ls Hh hl hm
        unfold M_X11_nextRow_p60 at hm
        refine z_iinc (x := l1) (k := 1) (lv' := [(1, qI (l1 + (-1))), (0, qR g l0)]) C dX11_nextRow_60 hl rfl (by decide) rfl (fun ls hl => ?_)
        refine lv_goto (tgt := 10) hx hb dX11_nextRow_63 (by decide) ?_
        cases hm
        exact ih10 h l0 (l1 + (-1)) _ _ _ Hh (lv_sub hl [1, 0] rfl) hc10
      unfold M_X11_nextRow_b10 at hm
      refine lv_iload_n hx hb dX11_nextRow_10 rfl (lv_at hl 1 rfl) ?_
      refine z_if_lt (tgt := 66) C dX11_nextRow_11 (by decide) rfl hm (fun _ hm => ?_) (fun _ hm => ?_)
      · cases hm
        exact K66 h _ _ _ Hh (lv_sub hl [] rfl) hc10
      · refine lv_aload_n hx hb dX11_nextRow_14 rfl (lv_at hl 0 rfl) ?_
        refine lv_iload_n hx hb dX11_nextRow_15 rfl (lv_at hl 1 rfl) ?_
        refine z_cVIr (vs := [qI l1]) C (fun q hq => ct_X11_isUnknown l g h l0 l1 q hq) tw_1918 my_X11_isUnknown (fun q hq => tg_X11_isUnknown hq) rfl hl.1 Hh ⟨Nat.le_of_ble_eq_true rfl, Nat.le_of_ble_eq_true rfl, Nat.le_of_ble_eq_true rfl, Nat.le_of_ble_eq_true rfl⟩ (Nat.le_of_ble_eq_true rfl) dX11_nextRow_16 rfl hm (fun x1 H locs Hh hm => ?_)
        refine z_if_ne (tgt := 25) C dX11_nextRow_19 (by decide) rfl hm (fun _ hm => ?_) (fun _ hm => ?_)
        · refine lv_aload_n hx hb dX11_nextRow_25 rfl (lv_at hl 0 rfl) ?_
          refine z_getR C fl_11_69 Hh dX11_nextRow_26 rfl hm (fun x2 hm => ?_)
          refine lv_iload_n hx hb dX11_nextRow_29 rfl (lv_at hl 1 rfl) ?_
          refine lv_dup2_11 hx hb dX11_nextRow_30 rfl rfl ?_
          refine z_iald C Hh dX11_nextRow_31 hm (fun x3 hm => ?_)
          refine z_iconst C dX11_nextRow_32 ?_
          refine z_iadd C dX11_nextRow_33 ?_
          refine z_iast C Hh dX11_nextRow_34 hm (fun h H locs Hh hm => ?_)
          refine lv_aload_n hx hb dX11_nextRow_35 rfl (lv_at hl 0 rfl) ?_
          refine z_getR C fl_11_69 Hh dX11_nextRow_36 rfl hm (fun x4 hm => ?_)
          refine lv_iload_n hx hb dX11_nextRow_39 rfl (lv_at hl 1 rfl) ?_
          refine z_iald C Hh dX11_nextRow_40 hm (fun x5 hm => ?_)
          refine lv_aload_n hx hb dX11_nextRow_41 rfl (lv_at hl 0 rfl) ?_
          refine z_getR C fl_11_341 Hh dX11_nextRow_42 rfl hm (fun x6 hm => ?_)
          refine z_getI C fl_11_314 Hh dX11_nextRow_45 rfl hm (fun x7 hm => ?_)
          refine z_icmp_ge (tgt := 53) C dX11_nextRow_48 (by decide) rfl rfl hm (fun _ hm => ?_) (fun _ hm => ?_)
          · refine lv_aload_n hx hb dX11_nextRow_53 rfl (lv_at hl 0 rfl) ?_
            refine z_getR C fl_11_69 Hh dX11_nextRow_54 rfl hm (fun x8 hm => ?_)
            refine lv_iload_n hx hb dX11_nextRow_57 rfl (lv_at hl 1 rfl) ?_
            refine z_iconst C dX11_nextRow_58 ?_
            refine z_iast C Hh dX11_nextRow_59 hm (fun h H locs Hh hm => ?_)
            exact K60 h l1 _ _ _ Hh (lv_sub hl [0, 1] rfl) hm
          · refine z_iconst C dX11_nextRow_51 ?_
            cases hm
            have hm := hc10
            exact z_zretC C hr hlocks Hh dX11_nextRow_52 (by decide) hm
        · refine lv_goto (tgt := 60) hx hb dX11_nextRow_22 (by decide) ?_
          exact K60 h l1 _ _ _ Hh (lv_sub hl [0, 1] rfl) hm
  refine lv_aload_n hx hb dX11_nextRow_0 rfl (lv_at hl 0 rfl) ?_
  refine z_getR C fl_11_341 Hh dX11_nextRow_1 rfl hm (fun x9 hm => ?_)
  refine z_getI C fl_11_230 Hh dX11_nextRow_4 rfl hm (fun x10 hm => ?_)
  refine z_iconst C dX11_nextRow_7 ?_
  refine z_isub C dX11_nextRow_8 ?_
  refine lv_istore_n (lv' := [(1, qI (x10 - 1)), (0, qR g l0)]) hx hb dX11_nextRow_9 rfl hl (by decide) rfl (fun ls hl => ?_)
  exact KL10 FU h l0 (x10 - 1) _ _ _ Hh (lv_sub hl [1, 0] rfl) hm
theorem tg_X11_fitting {h : Hp} {l0 l1 : Int} {r : Hp × Int} (hm : M_X11_fitting h l0 l1 = some r) : hT h l0 = 21 := (tk_inv hm).1
set_option maxRecDepth 100000 in
set_option maxHeartbeats 4000000 in
theorem ct_X11_fitting (l : Launch) (g : zGeo) (h0 : Hp) (l0 l1 : Int) (r : Hp × Int) (hm : M_X11_fitting h0 l0 l1 = some r) : zM l yX11_fitting cX11_fitting 6 (some .int) 6 145 0 0 g h0 [qR g l0, qI l1] r.1 (some (qI r.2)) := by
  refine z_meth (by decide) (Nat.le_of_ble_eq_true rfl) ?_
  intro p e s m args below meth c H ls C hr hlocks hnm Hh hl
  have C : zC p m c cX11_fitting 6 s args RX11 g := C
  have hnm : meth.name = "fitting" := hnm
  have hx := C.1.1
  have hb := C.1.2.1
  have hl : lv_has ls 6 [(0, qR g l0), (1, qI l1)] := hl
  unfold M_X11_fitting at hm
  replace hm := (tk_inv hm).2
  generalize h0 = h at Hh hm
  have K203 : ∀ (h : Hp) (l2 : Int) (H : Heap) (locs : List Loc) (ls : Array Slot), zH g s h H locs → lv_has ls 6 [(2, qI l2)] → M_X11_fitting_p203 h l2 = some r → W p l e { frames := 6, cells := 0, slots := 0, locals := 145 } s m args below meth c H locs 0 0 (zQ below g r.1 (some (qI r.2)) args s 0 0) (F0 m 203 ls []) := by
    intro h l2  H locs ls Hh hl hm
    unfold M_X11_fitting_p203 at hm
    refine lv_iload_n hx hb dX11_fitting_203 rfl (lv_at hl 0 rfl) ?_
    exact z_iret C hr hlocks Hh dX11_fitting_204 hm
  have KL36 : ∀ (n : Nat) (h : Hp) (l0 l1 l2 l3 : Int) (H : Heap) (locs : List Loc) (ls : Array Slot), zH g s h H locs → lv_has ls 6 [(0, qR g l0), (1, qI l1), (2, qI l2), (3, qI l3)] → M_X11_fitting_w36 n h l0 l1 l2 l3 = some r → W p l e { frames := 6, cells := 0, slots := 0, locals := 145 } s m args below meth c H locs 0 0 (zQ below g r.1 (some (qI r.2)) args s 0 0) (F0 m 36 ls []) := by
    intro n
    induction n with
    | zero => intro h l0 l1 l2 l3 H locs ls Hh hl hm; cases hm
    | succ n ih36 =>
      intro h l0 l1 l2 l3 H locs ls Hh hl hm
      obtain ⟨z36, hm, hc36⟩ := wh_inv hm
      have hm : M_X11_fitting_b36 h l0 l1 l2 l3 = some z36 := hm
      have K195 : ∀ (h : Hp) (l2 : Int) (H : Heap) (locs : List Loc) (ls : Array Slot), zH g s h H locs → lv_has ls 6 [(0, qR g l0), (1, qI l1), (2, qI l2)] → M_X11_fitting_p195 h l0 l1 l2 = some z36 → W p l e { frames := 6, cells := 0, slots := 0, locals := 145 } s m args below meth c H locs 0 0 (zQ below g r.1 (some (qI r.2)) args s 0 0) (F0 m 195 ls []) := by
        intro h l2  H locs ls Hh hl hm
        unfold M_X11_fitting_p195 at hm
        refine lv_aload_n hx hb dX11_fitting_195 rfl (lv_at hl 0 rfl) ?_
        refine z_cVI (vs := []) C (fun q hq => ct_X11_nextRow l g h l0 q hq) tw_1922 my_X11_nextRow (fun q hq => tg_X11_nextRow hq) rfl hl.1 Hh ⟨Nat.le_of_ble_eq_true rfl, Nat.le_of_ble_eq_true rfl, Nat.le_of_ble_eq_true rfl, Nat.le_of_ble_eq_true rfl⟩ (Nat.le_of_ble_eq_true rfl) dX11_fitting_196 rfl hm (fun h x1 H locs Hh hm => ?_)
        refine lv_istore_n (lv' := [(3, qI x1), (0, qR g l0), (1, qI l1), (2, qI l2)]) hx hb dX11_fitting_199 rfl hl (by decide) rfl (fun ls hl => ?_)
        refine lv_goto (tgt := 36) hx hb dX11_fitting_200 (by decide) ?_
        cases hm
        exact ih36 h l0 l1 l2 x1 _ _ _ Hh (lv_sub hl [1, 2, 3, 0] rfl) hc36
      have K192 : ∀ (h : Hp) (l2 : Int) (H : Heap) (locs : List Loc) (ls : Array Slot), zH g s h H locs → lv_has ls 6 [(0, qR g l0), (1, qI l1), (2, qI l2)] → M_X11_fitting_p192 h l0 l1 l2 = some z36 → W p l e { frames := 6, cells := 0, slots := 0, locals := 145 } s m args below meth c H locs 0 0 (zQ below g r.1 (some (qI r.2)) args s 0 0) (F0 m 192 ls []) := by
        intro h l2  H locs ls Hh hl hm
        unfold M_X11_fitting_p192 at hm
        refine z_iinc (x := l2) (k := 2) (lv' := [(2, qI (l2 + 1)), (0, qR g l0), (1, qI l1)]) C dX11_fitting_192 hl rfl (by decide) rfl (fun ls hl => ?_)
        exact K195 h (l2 + 1) _ _ _ Hh (lv_sub hl [1, 2, 0] rfl) hm
      have KL141 : ∀ (n : Nat) (h : Hp) (l2 l4 : Int) (H : Heap) (locs : List Loc) (ls : Array Slot), zH g s h H locs → lv_has ls 6 [(0, qR g l0), (1, qI l1), (2, qI l2), (4, qI l4)] → M_X11_fitting_w141 n h l0 l1 l2 l4 = some z36 → W p l e { frames := 6, cells := 0, slots := 0, locals := 145 } s m args below meth c H locs 0 0 (zQ below g r.1 (some (qI r.2)) args s 0 0) (F0 m 141 ls []) := by
        intro n
        induction n with
        | zero => intro h l2 l4 H locs ls Hh hl hm; cases hm
        | succ n ih141 =>
          intro h l2 l4 H locs ls Hh hl hm
          obtain ⟨z141, hm, hc141⟩ := wh_inv hm
          have hm : M_X11_fitting_b141 h l0 l1 l2 l4 = some z141 := hm
          have K186 : ∀ (h : Hp) (l4 : Int) (H : Heap) (locs : List Loc) (ls : Array Slot), zH g s h H locs → lv_has ls 6 [(0, qR g l0), (1, qI l1), (2, qI l2), (4, qI l4)] → M_X11_fitting_p186 h l0 l1 l2 l4 = some z141 → W p l e { frames := 6, cells := 0, slots := 0, locals := 145 } s m args below meth c H locs 0 0 (zQ below g r.1 (some (qI r.2)) args s 0 0) (F0 m 186 ls []) := by
            intro h l4  H locs ls Hh hl hm
            unfold M_X11_fitting_p186 at hm
            refine z_iinc (x := l4) (k := 3) (lv' := [(4, qI (l4 + 1)), (0, qR g l0), (1, qI l1), (2, qI l2)]) C dX11_fitting_186 hl rfl (by decide) rfl (fun ls hl => ?_)
            refine lv_goto (tgt := 141) hx hb dX11_fitting_189 (by decide) ?_
            cases hm
            exact ih141 h l2 (l4 + 1) _ _ _ Hh (lv_sub hl [1, 2, 3, 0] rfl) hc141
          unfold M_X11_fitting_b141 at hm
          refine lv_iload hx hb dX11_fitting_141 (lv_at hl 3 rfl) ?_
          refine z_bipush C dX11_fitting_143 rfl ?_
          refine z_icmp_ge (tgt := 192) C dX11_fitting_145 (by decide) rfl lq_p6 hm (fun _ hm => ?_) (fun _ hm => ?_)
          · cases hm
            exact K192 h l2 _ _ _ Hh (lv_sub hl [0, 1, 2] rfl) hc141
          · refine lv_aload_n hx hb dX11_fitting_148 rfl (lv_at hl 0 rfl) ?_
            refine z_getR C fl_11_75 Hh dX11_fitting_149 rfl hm (fun x2 hm => ?_)
            refine lv_iload hx hb dX11_fitting_152 (lv_at hl 3 rfl) ?_
            refine lv_dup2_11 hx hb dX11_fitting_154 rfl rfl ?_
            refine z_iald C Hh dX11_fitting_155 hm (fun x3 hm => ?_)
            refine z_iconst C dX11_fitting_156 ?_
            refine lv_aload_n hx hb dX11_fitting_157 rfl (lv_at hl 0 rfl) ?_
            refine z_getR C fl_11_69 Hh dX11_fitting_158 rfl hm (fun x4 hm => ?_)
            refine lv_iload hx hb dX11_fitting_161 (lv_at hl 3 rfl) ?_
            refine z_iald C Hh dX11_fitting_163 hm (fun x5 hm => ?_)
            refine z_ishl C dX11_fitting_164 ?_
            refine z_ior C dX11_fitting_165 ?_
            refine z_iast C Hh dX11_fitting_166 hm (fun h H locs Hh hm => ?_)
            refine lv_iload_n hx hb dX11_fitting_167 rfl (lv_at hl 2 rfl) ?_
            refine lv_iload_n hx hb dX11_fitting_168 rfl (lv_at hl 1 rfl) ?_
            refine z_icmp_ne (tgt := 186) C dX11_fitting_169 (by decide) rfl rfl hm (fun _ hm => ?_) (fun _ hm => ?_)
            · exact K186 h l4 _ _ _ Hh (lv_sub hl [0, 1, 2, 3] rfl) hm
            · refine lv_aload_n hx hb dX11_fitting_172 rfl (lv_at hl 0 rfl) ?_
              refine z_getR C fl_11_72 Hh dX11_fitting_173 rfl hm (fun x6 hm => ?_)
              refine lv_iload hx hb dX11_fitting_176 (lv_at hl 3 rfl) ?_
              refine lv_aload_n hx hb dX11_fitting_178 rfl (lv_at hl 0 rfl) ?_
              refine z_getR C fl_11_69 Hh dX11_fitting_179 rfl hm (fun x7 hm => ?_)
              refine lv_iload hx hb dX11_fitting_182 (lv_at hl 3 rfl) ?_
              refine z_iald C Hh dX11_fitting_184 hm (fun x8 hm => ?_)
              refine z_iast C Hh dX11_fitting_185 hm (fun h H locs Hh hm => ?_)
              exact K186 h l4 _ _ _ Hh (lv_sub hl [0, 1, 2, 3] rfl) hm
      have K121 : ∀ (h : Hp) (l2 : Int) (H : Heap) (locs : List Loc) (ls : Array Slot), zH g s h H locs → lv_has ls 6 [(0, qR g l0), (1, qI l1), (2, qI l2)] → M_X11_fitting_p121 h l0 l1 l2 = some z36 → W p l e { frames := 6, cells := 0, slots := 0, locals := 145 } s m args below meth c H locs 0 0 (zQ below g r.1 (some (qI r.2)) args s 0 0) (F0 m 121 ls []) := by
        intro h l2  H locs ls Hh hl hm
        unfold M_X11_fitting_p121 at hm
        refine lv_aload_n hx hb dX11_fitting_121 rfl (lv_at hl 0 rfl) ?_
        refine lv_aload_n hx hb dX11_fitting_122 rfl (lv_at hl 0 rfl) ?_
        refine z_cVIr (vs := []) C (fun q hq => ct_X11_latestSeen l g h l0 q hq) tw_1898 my_X11_latestSeen (fun q hq => tg_X11_latestSeen hq) rfl hl.1 Hh ⟨Nat.le_of_ble_eq_true rfl, Nat.le_of_ble_eq_true rfl, Nat.le_of_ble_eq_true rfl, Nat.le_of_ble_eq_true rfl⟩ (Nat.le_of_ble_eq_true rfl) dX11_fitting_123 rfl hm (fun x9 H locs Hh hm => ?_)
        refine z_cVv (vs := [qI x9]) C (fun q hq => ct_X11_steps l g h l0 x9 q hq) tw_1722 my_X11_steps (fun q hq => tg_X11_steps hq) rfl hl.1 Hh ⟨Nat.le_of_ble_eq_true rfl, Nat.le_of_ble_eq_true rfl, Nat.le_of_ble_eq_true rfl, Nat.le_of_ble_eq_true rfl⟩ (Nat.le_of_ble_eq_true rfl) dX11_fitting_126 rfl hm (fun h H locs Hh hm => ?_)
        refine lv_aload_n hx hb dX11_fitting_129 rfl (lv_at hl 0 rfl) ?_
        refine z_cVIr (vs := []) C (fun q hq => ct_X11_firstUnseen l g h l0 q hq) tw_1902 my_X11_firstUnseen (fun q hq => tg_X11_firstUnseen hq) rfl hl.1 Hh ⟨Nat.le_of_ble_eq_true rfl, Nat.le_of_ble_eq_true rfl, Nat.le_of_ble_eq_true rfl, Nat.le_of_ble_eq_true rfl⟩ (Nat.le_of_ble_eq_true rfl) dX11_fitting_130 rfl hm (fun x10 H locs Hh hm => ?_)
        refine z_bipush C dX11_fitting_133 rfl ?_
        refine z_icmp_ne (tgt := 195) C dX11_fitting_135 (by decide) rfl lq_m2 hm (fun _ hm => ?_) (fun _ hm => ?_)
        · exact K195 h l2 _ _ _ Hh (lv_sub hl [0, 1, 2] rfl) hm
        · refine z_iconst C dX11_fitting_138 ?_
          refine lv_istore (lv' := [(4, qI 0), (0, qR g l0), (1, qI l1), (2, qI l2)]) hx hb dX11_fitting_139 hl (by decide) rfl (fun ls hl => ?_)
          exact KL141 FU h l2 0 _ _ _ Hh (lv_sub hl [1, 2, 3, 0] rfl) hm
      have KL47 : ∀ (n : Nat) (h : Hp) (l2 l4 : Int) (H : Heap) (locs : List Loc) (ls : Array Slot), zH g s h H locs → lv_has ls 6 [(0, qR g l0), (1, qI l1), (2, qI l2), (4, qI l4)] → M_X11_fitting_w47 n h l0 l1 l2 l4 = some z36 → W p l e { frames := 6, cells := 0, slots := 0, locals := 145 } s m args below meth c H locs 0 0 (zQ below g r.1 (some (qI r.2)) args s 0 0) (F0 m 47 ls []) := by
        intro n
        induction n with
        | zero => intro h l2 l4 H locs ls Hh hl hm; cases hm
        | succ n ih47 =>
          intro h l2 l4 H locs ls Hh hl hm
          obtain ⟨z47, hm, hc47⟩ := wh_inv hm
          have hm : M_X11_fitting_b47 h l0 l1 l2 l4 = some z47 := hm
          have K115 : ∀ (h : Hp) (l4 : Int) (H : Heap) (locs : List Loc) (ls : Array Slot), zH g s h H locs → lv_has ls 6 [(0, qR g l0), (1, qI l1), (2, qI l2), (4, qI l4)] → M_X11_fitting_p115 h l0 l1 l2 l4 = some z47 → W p l e { frames := 6, cells := 0, slots := 0, locals := 145 } s m args below meth c H locs 0 0 (zQ below g r.1 (some (qI r.2)) args s 0 0) (F0 m 115 ls []) := by
            intro h l4  H locs ls Hh hl hm
            unfold M_X11_fitting_p115 at hm
            refine z_iinc (x := l4) (k := 3) (lv' := [(4, qI (l4 + 1)), (0, qR g l0), (1, qI l1), (2, qI l2)]) C dX11_fitting_115 hl rfl (by decide) rfl (fun ls hl => ?_)
            refine lv_goto (tgt := 47) hx hb dX11_fitting_118 (by decide) ?_
            cases hm
            exact ih47 h l2 (l4 + 1) _ _ _ Hh (lv_sub hl [1, 2, 3, 0] rfl) hc47
          have KL62 : ∀ (n : Nat) (h : Hp) (l4 l5 : Int) (H : Heap) (locs : List Loc) (ls : Array Slot), zH g s h H locs → lv_has ls 6 [(0, qR g l0), (1, qI l1), (2, qI l2), (4, qI l4), (5, qI l5)] → M_X11_fitting_w62 n h l0 l1 l2 l4 l5 = some z47 → W p l e { frames := 6, cells := 0, slots := 0, locals := 145 } s m args below meth c H locs 0 0 (zQ below g r.1 (some (qI r.2)) args s 0 0) (F0 m 62 ls []) := by
            intro n
            induction n with
            | zero => intro h l4 l5 H locs ls Hh hl hm; cases hm
            | succ n ih62 =>
              intro h l4 l5 H locs ls Hh hl hm
              obtain ⟨z62, hm, hc62⟩ := wh_inv hm
              have hm : M_X11_fitting_b62 h l0 l1 l2 l4 l5 = some z62 := hm
              unfold M_X11_fitting_b62 at hm
              refine lv_iload hx hb dX11_fitting_62 (lv_at hl 4 rfl) ?_
              refine z_iconst C dX11_fitting_64 ?_
              refine z_icmp_ge (tgt := 115) C dX11_fitting_65 (by decide) rfl lq_p4 hm (fun _ hm => ?_) (fun _ hm => ?_)
              · cases hm
                exact K115 h l4 _ _ _ Hh (lv_sub hl [0, 1, 2, 3] rfl) hc62
              · refine lv_aload_n hx hb dX11_fitting_68 rfl (lv_at hl 0 rfl) ?_
                refine lv_iload hx hb dX11_fitting_69 (lv_at hl 3 rfl) ?_
                refine z_cVIr (vs := [qI l4]) C (fun q hq => ct_X11_isUnknown l g h l0 l4 q hq) tw_1918 my_X11_isUnknown (fun q hq => tg_X11_isUnknown hq) rfl hl.1 Hh ⟨Nat.le_of_ble_eq_true rfl, Nat.le_of_ble_eq_true rfl, Nat.le_of_ble_eq_true rfl, Nat.le_of_ble_eq_true rfl⟩ (Nat.le_of_ble_eq_true rfl) dX11_fitting_71 rfl hm (fun x11 H locs Hh hm => ?_)
                refine z_if_eq (tgt := 115) C dX11_fitting_74 (by decide) rfl hm (fun _ hm => ?_) (fun _ hm => ?_)
                · cases hm
                  exact K115 h l4 _ _ _ Hh (lv_sub hl [0, 1, 2, 3] rfl) hc62
                · refine lv_aload_n hx hb dX11_fitting_77 rfl (lv_at hl 0 rfl) ?_
                  refine z_getR C fl_11_34 Hh dX11_fitting_78 rfl hm (fun x12 hm => ?_)
                  refine z_iconst C dX11_fitting_81 ?_
                  refine lv_iload hx hb dX11_fitting_82 (lv_at hl 3 rfl) ?_
                  refine z_imul C dX11_fitting_84 ?_
                  refine lv_iload hx hb dX11_fitting_85 (lv_at hl 4 rfl) ?_
                  refine z_iadd C dX11_fitting_87 ?_
                  refine lv_aload_n hx hb dX11_fitting_88 rfl (lv_at hl 0 rfl) ?_
                  refine z_getR C fl_11_341 Hh dX11_fitting_89 rfl hm (fun x13 hm => ?_)
                  refine z_getR C fl_11_317 Hh dX11_fitting_92 rfl hm (fun x14 hm => ?_)
                  refine z_iconst C dX11_fitting_95 ?_
                  refine lv_aload_n hx hb dX11_fitting_96 rfl (lv_at hl 0 rfl) ?_
                  refine z_getR C fl_11_69 Hh dX11_fitting_97 rfl hm (fun x15 hm => ?_)
                  refine lv_iload hx hb dX11_fitting_100 (lv_at hl 3 rfl) ?_
                  refine z_iald C Hh dX11_fitting_102 hm (fun x16 hm => ?_)
                  refine z_imul C dX11_fitting_103 ?_
                  refine lv_iload hx hb dX11_fitting_104 (lv_at hl 4 rfl) ?_
                  refine z_iadd C dX11_fitting_106 ?_
                  refine z_iald C Hh dX11_fitting_107 hm (fun x17 hm => ?_)
                  refine z_iast C Hh dX11_fitting_108 hm (fun h H locs Hh hm => ?_)
                  refine z_iinc (x := l5) (k := 4) (lv' := [(5, qI (l5 + 1)), (0, qR g l0), (1, qI l1), (2, qI l2), (4, qI l4)]) C dX11_fitting_109 hl rfl (by decide) rfl (fun ls hl => ?_)
                  refine lv_goto (tgt := 62) hx hb dX11_fitting_112 (by decide) ?_
                  cases hm
                  exact ih62 h l4 (l5 + 1) _ _ _ Hh (lv_sub hl [1, 2, 3, 4, 0] rfl) hc62
          unfold M_X11_fitting_b47 at hm
          refine lv_iload hx hb dX11_fitting_47 (lv_at hl 3 rfl) ?_
          refine lv_aload_n hx hb dX11_fitting_49 rfl (lv_at hl 0 rfl) ?_
          refine z_getR C fl_11_341 Hh dX11_fitting_50 rfl hm (fun x18 hm => ?_)
          refine z_getI C fl_11_230 Hh dX11_fitting_53 rfl hm (fun x19 hm => ?_)
          refine z_icmp_ge (tgt := 121) C dX11_fitting_56 (by decide) rfl rfl hm (fun _ hm => ?_) (fun _ hm => ?_)
          · cases hm
            exact K121 h l2 _ _ _ Hh (lv_sub hl [0, 1, 2] rfl) hc47
          · refine z_iconst C dX11_fitting_59 ?_
            refine lv_istore (lv' := [(5, qI 0), (0, qR g l0), (1, qI l1), (2, qI l2), (4, qI l4)]) hx hb dX11_fitting_60 hl (by decide) rfl (fun ls hl => ?_)
            exact KL62 FU h l4 0 _ _ _ Hh (lv_sub hl [1, 2, 3, 4, 0] rfl) hm
      unfold M_X11_fitting_b36 at hm
      refine lv_iload_n hx hb dX11_fitting_36 rfl (lv_at hl 3 rfl) ?_
      refine z_if_eq (tgt := 203) C dX11_fitting_37 (by decide) rfl hm (fun _ hm => ?_) (fun _ hm => ?_)
      · cases hm
        exact K203 h l2 _ _ _ Hh (lv_sub hl [2] rfl) hc36
      · refine lv_aload_n hx hb dX11_fitting_40 rfl (lv_at hl 0 rfl) ?_
        refine z_cVv (vs := []) C (fun q hq => ct_X11_startsTold l g h l0 q hq) tw_1894 my_X11_startsTold (fun q hq => tg_X11_startsTold hq) rfl hl.1 Hh ⟨Nat.le_of_ble_eq_true rfl, Nat.le_of_ble_eq_true rfl, Nat.le_of_ble_eq_true rfl, Nat.le_of_ble_eq_true rfl⟩ (Nat.le_of_ble_eq_true rfl) dX11_fitting_41 rfl hm (fun h H locs Hh hm => ?_)
        refine z_iconst C dX11_fitting_44 ?_
        refine lv_istore (lv' := [(4, qI 0), (0, qR g l0), (1, qI l1), (2, qI l2), (3, qI l3)]) hx hb dX11_fitting_45 hl (by decide) rfl (fun ls hl => ?_)
        exact KL47 FU h l2 0 _ _ _ Hh (lv_sub hl [1, 2, 3, 0] rfl) hm
  have KL7 : ∀ (n : Nat) (h : Hp) (l0 l1 l2 l3 l4 : Int) (H : Heap) (locs : List Loc) (ls : Array Slot), zH g s h H locs → lv_has ls 6 [(0, qR g l0), (1, qI l1), (2, qI l2), (3, qI l3), (4, qI l4)] → M_X11_fitting_w7 n h l0 l1 l2 l3 l4 = some r → W p l e { frames := 6, cells := 0, slots := 0, locals := 145 } s m args below meth c H locs 0 0 (zQ below g r.1 (some (qI r.2)) args s 0 0) (F0 m 7 ls []) := by
    intro n
    induction n with
    | zero => intro h l0 l1 l2 l3 l4 H locs ls Hh hl hm; cases hm
    | succ n ih7 =>
      intro h l0 l1 l2 l3 l4 H locs ls Hh hl hm
      obtain ⟨z7, hm, hc7⟩ := wh_inv hm
      have hm : M_X11_fitting_b7 h l0 l1 l2 l3 l4 = some z7 := hm
      unfold M_X11_fitting_b7 at hm
      refine lv_iload hx hb dX11_fitting_7 (lv_at hl 4 rfl) ?_
      refine z_bipush C dX11_fitting_9 rfl ?_
      refine z_icmp_ge (tgt := 36) C dX11_fitting_11 (by decide) rfl lq_p6 hm (fun _ hm => ?_) (fun _ hm => ?_)
      · cases hm
        exact KL36 FU h l0 l1 l2 l3 _ _ _ Hh (lv_sub hl [0, 1, 2, 3] rfl) hc7
      · refine lv_aload_n hx hb dX11_fitting_14 rfl (lv_at hl 0 rfl) ?_
        refine z_getR C fl_11_69 Hh dX11_fitting_15 rfl hm (fun x20 hm => ?_)
        refine lv_iload hx hb dX11_fitting_18 (lv_at hl 4 rfl) ?_
        refine z_iconst C dX11_fitting_20 ?_
        refine z_iast C Hh dX11_fitting_21 hm (fun h H locs Hh hm => ?_)
        refine lv_aload_n hx hb dX11_fitting_22 rfl (lv_at hl 0 rfl) ?_
        refine z_getR C fl_11_75 Hh dX11_fitting_23 rfl hm (fun x21 hm => ?_)
        refine lv_iload hx hb dX11_fitting_26 (lv_at hl 4 rfl) ?_
        refine z_iconst C dX11_fitting_28 ?_
        refine z_iast C Hh dX11_fitting_29 hm (fun h H locs Hh hm => ?_)
        refine z_iinc (x := l4) (k := 4) (lv' := [(4, qI (l4 + 1)), (0, qR g l0), (1, qI l1), (2, qI l2), (3, qI l3)]) C dX11_fitting_30 hl rfl (by decide) rfl (fun ls hl => ?_)
        refine lv_goto (tgt := 7) hx hb dX11_fitting_33 (by decide) ?_
        cases hm
        exact ih7 h l0 l1 l2 l3 (l4 + 1) _ _ _ Hh (lv_sub hl [1, 2, 3, 4, 0] rfl) hc7
  refine z_iconst C dX11_fitting_0 ?_
  refine lv_istore_n (lv' := [(2, qI 0), (0, qR g l0), (1, qI l1)]) hx hb dX11_fitting_1 rfl hl (by decide) rfl (fun ls hl => ?_)
  refine z_iconst C dX11_fitting_2 ?_
  refine lv_istore_n (lv' := [(3, qI 1), (2, qI 0), (0, qR g l0), (1, qI l1)]) hx hb dX11_fitting_3 rfl hl (by decide) rfl (fun ls hl => ?_)
  refine z_iconst C dX11_fitting_4 ?_
  refine lv_istore (lv' := [(4, qI 0), (3, qI 1), (2, qI 0), (0, qR g l0), (1, qI l1)]) hx hb dX11_fitting_5 hl (by decide) rfl (fun ls hl => ?_)
  exact KL7 FU h l0 l1 0 1 0 _ _ _ Hh (lv_sub hl [3, 4, 2, 1, 0] rfl) hm
