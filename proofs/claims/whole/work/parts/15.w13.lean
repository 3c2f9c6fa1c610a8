theorem tg_X11_sumOf {h : Hp} {l0 l1 : Int} {r : Int} (hm : M_X11_sumOf h l0 l1 = some r) : hT h l0 = 21 := (tk_inv hm).1
set_option maxRecDepth 100000 in
set_option maxHeartbeats 4000000 in
theorem ct_X11_sumOf (l : Launch) (g : zGeo) (h : Hp) (l0 l1 : Int) (r : Int) (hm : M_X11_sumOf h l0 l1 = some r) : zM l yX11_sumOf cX11_sumOf 6 (some .long) 1 23 0 0 g h [qR g l0, qI l1] h (some (qJ r)) := by
  refine z_meth (by decide) (Nat.le_of_ble_eq_true rfl) ?_
  intro p e s m args below meth c H ls C hr hlocks hnm Hh hl
  have C : zC p m c cX11_sumOf 6 s args RX11 g := C
  have hnm : meth.name = "sumOf" := hnm
  have hx := C.1.1
  have hb := C.1.2.1
  have hl : lv_has ls 6 [(0, qR g l0), (1, qI l1)] := hl
  unfold M_X11_sumOf at hm
  replace hm := (tk_inv hm).2
  have K63 : ∀  (l2 : Int) (H : Heap) (locs : List Loc) (ls : Array Slot), zH g s h H locs → lv_has ls 6 [(2, qJ l2)] → M_X11_sumOf_p63 h l2 = some r → W p l e { frames := 1, cells := 0, slots := 0, locals := 23 } s m args below meth c H locs 0 0 (zQ below g h (some (qJ r)) args s 0 0) (F0 m 63 ls []) := by
    intro l2  H locs ls Hh hl hm
    unfold M_X11_sumOf_p63 at hm
    refine lv_lload_n hx hb dX11_sumOf_63 rfl (lv_at hl 0 rfl) ?_
    exact z_lretR C hr hlocks Hh dX11_sumOf_64 hm
  have KL7 : ∀ (n : Nat)  (l0 l1 l2 l4 : Int) (H : Heap) (locs : List Loc) (ls : Array Slot), zH g s h H locs → lv_has ls 6 [(0, qR g l0), (1, qI l1), (2, qJ l2), (4, qI l4)] → M_X11_sumOf_w7 n h l0 l1 l2 l4 = some r → W p l e { frames := 1, cells := 0, slots := 0, locals := 23 } s m args below meth c H locs 0 0 (zQ below g h (some (qJ r)) args s 0 0) (F0 m 7 ls []) := by
    intro n
    induction n with
    | zero => intro l0 l1 l2 l4 H locs ls Hh hl hm; cases hm
    | succ n ih7 =>
      intro l0 l1 l2 l4 H locs ls Hh hl hm
      obtain ⟨z7, hm, hc7⟩ := wh_inv hm
      have hm : M_X11_sumOf_b7 h l0 l1 l2 l4 = some z7 := hm
      have K57 : ∀  (l2 l4 : Int) (H : Heap) (locs : List Loc) (ls : Array Slot), zH g s h H locs → lv_has ls 6 [(0, qR g l0), (1, qI l1), (2, qJ l2), (4, qI l4)] → M_X11_sumOf_p57 h l0 l1 l2 l4 = some z7 → W p l e { frames := 1, cells := 0, slots := 0, locals := 23 } s m args below meth c H locs 0 0 (zQ below g h (some (qJ r)) args s 0 0) (F0 m 57 ls []) := by
        intro l2 l4  H locs ls Hh hl hm
        unfold M_X11_sumOf_p57 at hm
        refine z_iinc (x := l4) (k := 3) (lv' := [(4, qI (l4 + 1)), (0, qR g l0), (1, qI l1), (2, qJ l2)]) C dX11_sumOf_57 hl rfl (by decide) rfl (fun ls hl => ?_)
        refine lv_goto (tgt := 7) hx hb dX11_sumOf_60 (by decide) ?_
        cases hm
        exact ih7 l0 l1 l2 (l4 + 1) _ _ _ Hh (lv_sub hl [1, 2, 3, 0] rfl) hc7
      have KL22 : ∀ (n : Nat)  (l2 l4 l5 : Int) (H : Heap) (locs : List Loc) (ls : Array Slot), zH g s h H locs → lv_has ls 6 [(0, qR g l0), (1, qI l1), (2, qJ l2), (4, qI l4), (5, qI l5)] → M_X11_sumOf_w22 n h l0 l1 l2 l4 l5 = some z7 → W p l e { frames := 1, cells := 0, slots := 0, locals := 23 } s m args below meth c H locs 0 0 (zQ below g h (some (qJ r)) args s 0 0) (F0 m 22 ls []) := by
        intro n
        induction n with
        | zero => intro l2 l4 l5 H locs ls Hh hl hm; cases hm
        | succ n ih22 =>
          intro l2 l4 l5 H locs ls Hh hl hm
          obtain ⟨z22, hm, hc22⟩ := wh_inv hm
          have hm : M_X11_sumOf_b22 h l0 l1 l4 l2 l5 = some z22 := hm
          unfold M_X11_sumOf_b22 at hm
          refine lv_iload hx hb dX11_sumOf_22 (lv_at hl 4 rfl) ?_
          refine lv_aload_n hx hb dX11_sumOf_24 rfl (lv_at hl 0 rfl) ?_
          refine z_getR C fl_11_341 Hh dX11_sumOf_25 rfl hm (fun x1 hm => ?_)
          refine z_cVIr (vs := []) C (fun q hq => ct_X10_all l g h x1 q hq) tw_1730 my_X10_all (fun q hq => tg_X10_all hq) rfl hl.1 Hh ⟨Nat.le_of_ble_eq_true rfl, Nat.le_of_ble_eq_true rfl, Nat.le_of_ble_eq_true rfl, Nat.le_of_ble_eq_true rfl⟩ (Nat.le_of_ble_eq_true rfl) dX11_sumOf_28 rfl hm (fun x2 H locs Hh hm => ?_)
          refine z_icmp_ge (tgt := 57) C dX11_sumOf_31 (by decide) rfl rfl hm (fun _ hm => ?_) (fun _ hm => ?_)
          · cases hm
            exact K57 l2 l4 _ _ _ Hh (lv_sub hl [0, 1, 2, 3] rfl) hc22
          · refine z_ldc2 (v := 31) C dX11_sumOf_34 tw_1618 rfl ?_
            refine lv_lload_n hx hb dX11_sumOf_37 rfl (lv_at hl 2 rfl) ?_
            refine z_lmul C dX11_sumOf_38 ?_
            refine lv_aload_n hx hb dX11_sumOf_39 rfl (lv_at hl 0 rfl) ?_
            refine lv_iload_n hx hb dX11_sumOf_40 rfl (lv_at hl 1 rfl) ?_
            refine lv_iload hx hb dX11_sumOf_41 (lv_at hl 3 rfl) ?_
            refine lv_iload hx hb dX11_sumOf_43 (lv_at hl 4 rfl) ?_
            refine z_cVIr (vs := [qI l1, qI l4, qI l5]) C (fun q hq => ct_X11_behind l g h l0 l1 l4 l5 q hq) tw_1765 my_X11_behind (fun q hq => tg_X11_behind hq) rfl hl.1 Hh ⟨Nat.le_of_ble_eq_true rfl, Nat.le_of_ble_eq_true rfl, Nat.le_of_ble_eq_true rfl, Nat.le_of_ble_eq_true rfl⟩ (Nat.le_of_ble_eq_true rfl) dX11_sumOf_45 rfl hm (fun x3 H locs Hh hm => ?_)
            refine z_i2l C dX11_sumOf_48 ?_
            refine z_ladd C dX11_sumOf_49 ?_
            refine lv_lstore_n (lv' := [(2, qJ ((31 * l2) + (w32 x3))), (0, qR g l0), (1, qI l1), (4, qI l4), (5, qI l5)]) hx hb dX11_sumOf_50 rfl hl (by decide) rfl (fun ls hl => ?_)
            refine z_iinc (x := l5) (k := 4) (lv' := [(5, qI (l5 + 1)), (2, qJ ((31 * l2) + (w32 x3))), (0, qR g l0), (1, qI l1), (4, qI l4)]) C dX11_sumOf_51 hl rfl (by decide) rfl (fun ls hl => ?_)
            refine lv_goto (tgt := 22) hx hb dX11_sumOf_54 (by decide) ?_
            cases hm
            exact ih22 ((31 * l2) + (w32 x3)) l4 (l5 + 1) _ _ _ Hh (lv_sub hl [2, 3, 1, 4, 0] rfl) hc22
      unfold M_X11_sumOf_b7 at hm
      refine lv_iload hx hb dX11_sumOf_7 (lv_at hl 3 rfl) ?_
      refine lv_aload_n hx hb dX11_sumOf_9 rfl (lv_at hl 0 rfl) ?_
      refine z_getR C fl_11_341 Hh dX11_sumOf_10 rfl hm (fun x4 hm => ?_)
      refine z_getI C fl_11_230 Hh dX11_sumOf_13 rfl hm (fun x5 hm => ?_)
      refine z_icmp_ge (tgt := 63) C dX11_sumOf_16 (by decide) rfl rfl hm (fun _ hm => ?_) (fun _ hm => ?_)
      · cases hm
        exact K63 l2 _ _ _ Hh (lv_sub hl [2] rfl) hc7
      · refine z_iconst C dX11_sumOf_19 ?_
        refine lv_istore (lv' := [(5, qI 0), (0, qR g l0), (1, qI l1), (2, qJ l2), (4, qI l4)]) hx hb dX11_sumOf_20 hl (by decide) rfl (fun ls hl => ?_)
        exact KL22 FU l2 l4 0 _ _ _ Hh (lv_sub hl [1, 2, 3, 4, 0] rfl) hm
  refine z_ldc2 (v := 7) C dX11_sumOf_0 tw_1821 rfl ?_
  refine lv_lstore_n (lv' := [(2, qJ 7), (0, qR g l0), (1, qI l1)]) hx hb dX11_sumOf_3 rfl hl (by decide) rfl (fun ls hl => ?_)
  refine z_iconst C dX11_sumOf_4 ?_
  refine lv_istore (lv' := [(4, qI 0), (2, qJ 7), (0, qR g l0), (1, qI l1)]) hx hb dX11_sumOf_5 hl (by decide) rfl (fun ls hl => ?_)
  exact KL7 FU l0 l1 7 0 _ _ _ Hh (lv_sub hl [2, 3, 1, 0] rfl) hm
theorem tg_X11_round {h : Hp} {l0 l1 : Int} {r : Hp × Int} (hm : M_X11_round h l0 l1 = some r) : hT h l0 = 21 := (tk_inv hm).1
set_option maxRecDepth 100000 in
set_option maxHeartbeats 4000000 in
theorem ct_X11_round (l : Launch) (g : zGeo) (h0 : Hp) (l0 l1 : Int) (r : Hp × Int) (hm : M_X11_round h0 l0 l1 = some r) : zM l yX11_round cX11_round 4 (some .int) 5 123 0 0 g h0 [qR g l0, qI l1] r.1 (some (qI r.2)) := by
  refine z_meth (by decide) (Nat.le_of_ble_eq_true rfl) ?_
  intro p e s m args below meth c H ls C hr hlocks hnm Hh hl
  have C : zC p m c cX11_round 4 s args RX11 g := C
  have hnm : meth.name = "round" := hnm
  have hx := C.1.1
  have hb := C.1.2.1
  have hl : lv_has ls 4 [(0, qR g l0), (1, qI l1)] := hl
  unfold M_X11_round at hm
  replace hm := (tk_inv hm).2
  generalize h0 = h at Hh hm
  have K178 : ∀ (h : Hp) (l0 : Int) (H : Heap) (locs : List Loc) (ls : Array Slot), zH g s h H locs → lv_has ls 4 [(0, qR g l0)] → M_X11_round_p178 h l0 = some r → W p l e { frames := 5, cells := 0, slots := 0, locals := 123 } s m args below meth c H locs 0 0 (zQ below g r.1 (some (qI r.2)) args s 0 0) (F0 m 178 ls []) := by
    intro h l0  H locs ls Hh hl hm
    unfold M_X11_round_p178 at hm
    refine lv_aload_n hx hb dX11_round_178 rfl (lv_at hl 0 rfl) ?_
    refine z_bipush C dX11_round_179 rfl ?_
    refine z_cVI (vs := [qI (-2)]) C (fun q hq => ct_X11_good l g h l0 (-2) q hq) tw_1670 my_X11_good (fun q hq => tg_X11_good hq) rfl hl.1 Hh ⟨Nat.le_of_ble_eq_true rfl, Nat.le_of_ble_eq_true rfl, Nat.le_of_ble_eq_true rfl, Nat.le_of_ble_eq_true rfl⟩ (Nat.le_of_ble_eq_true rfl) dX11_round_181 rfl hm (fun h x1 H locs Hh hm => ?_)
    exact z_iret C hr hlocks Hh dX11_round_184 hm
  have KL93 : ∀ (n : Nat) (h : Hp) (l0 l1 l2 : Int) (H : Heap) (locs : List Loc) (ls : Array Slot), zH g s h H locs → lv_has ls 4 [(0, qR g l0), (1, qI l1), (2, qI l2)] → M_X11_round_w93 n h l0 l1 l2 = some r → W p l e { frames := 5, cells := 0, slots := 0, locals := 123 } s m args below meth c H locs 0 0 (zQ below g r.1 (some (qI r.2)) args s 0 0) (F0 m 93 ls []) := by
    intro n
    induction n with
    | zero => intro h l0 l1 l2 H locs ls Hh hl hm; cases hm
    | succ n ih93 =>
      intro h l0 l1 l2 H locs ls Hh hl hm
      obtain ⟨z93, hm, hc93⟩ := wh_inv hm
      have hm : M_X11_round_b93 h l0 l1 l2 = some z93 := hm
      have K172 : ∀ (h : Hp) (l2 : Int) (H : Heap) (locs : List Loc) (ls : Array Slot), zH g s h H locs → lv_has ls 4 [(0, qR g l0), (1, qI l1), (2, qI l2)] → M_X11_round_p172 h l0 l1 l2 = some z93 → W p l e { frames := 5, cells := 0, slots := 0, locals := 123 } s m args below meth c H locs 0 0 (zQ below g r.1 (some (qI r.2)) args s 0 0) (F0 m 172 ls []) := by
        intro h l2  H locs ls Hh hl hm
        unfold M_X11_round_p172 at hm
        refine z_iinc (x := l2) (k := 2) (lv' := [(2, qI (l2 + 1)), (0, qR g l0), (1, qI l1)]) C dX11_round_172 hl rfl (by decide) rfl (fun ls hl => ?_)
        refine lv_goto (tgt := 93) hx hb dX11_round_175 (by decide) ?_
        cases hm
        exact ih93 h l0 l1 (l2 + 1) _ _ _ Hh (lv_sub hl [1, 2, 0] rfl) hc93
      have KL120 : ∀ (n : Nat) (h : Hp) (l2 l3 : Int) (H : Heap) (locs : List Loc) (ls : Array Slot), zH g s h H locs → lv_has ls 4 [(0, qR g l0), (1, qI l1), (2, qI l2), (3, qI l3)] → M_X11_round_w120 n h l0 l1 l2 l3 = some z93 → W p l e { frames := 5, cells := 0, slots := 0, locals := 123 } s m args below meth c H locs 0 0 (zQ below g r.1 (some (qI r.2)) args s 0 0) (F0 m 120 ls []) := by
        intro n
        induction n with
        | zero => intro h l2 l3 H locs ls Hh hl hm; cases hm
        | succ n ih120 =>
          intro h l2 l3 H locs ls Hh hl hm
          obtain ⟨z120, hm, hc120⟩ := wh_inv hm
          have hm : M_X11_round_b120 h l0 l1 l2 l3 = some z120 := hm
          have K166 : ∀  (l3 : Int) (H : Heap) (locs : List Loc) (ls : Array Slot), zH g s h H locs → lv_has ls 4 [(0, qR g l0), (1, qI l1), (2, qI l2), (3, qI l3)] → M_X11_round_p166 h l0 l1 l2 l3 = some z120 → W p l e { frames := 5, cells := 0, slots := 0, locals := 123 } s m args below meth c H locs 0 0 (zQ below g r.1 (some (qI r.2)) args s 0 0) (F0 m 166 ls []) := by
            intro l3  H locs ls Hh hl hm
            unfold M_X11_round_p166 at hm
            refine z_iinc (x := l3) (k := 3) (lv' := [(3, qI (l3 + 1)), (0, qR g l0), (1, qI l1), (2, qI l2)]) C dX11_round_166 hl rfl (by decide) rfl (fun ls hl => ?_)
            refine lv_goto (tgt := 120) hx hb dX11_round_169 (by decide) ?_
            cases hm
            exact ih120 h l2 (l3 + 1) _ _ _ Hh (lv_sub hl [1, 2, 3, 0] rfl) hc120
          unfold M_X11_round_b120 at hm
          refine lv_iload_n hx hb dX11_round_120 rfl (lv_at hl 3 rfl) ?_
          refine lv_iload_n hx hb dX11_round_121 rfl (lv_at hl 2 rfl) ?_
          refine z_icmp_ge (tgt := 172) C dX11_round_122 (by decide) rfl rfl hm (fun _ hm => ?_) (fun _ hm => ?_)
          · cases hm
            exact K172 h l2 _ _ _ Hh (lv_sub hl [0, 1, 2] rfl) hc120
          · refine lv_aload_n hx hb dX11_round_125 rfl (lv_at hl 0 rfl) ?_
            refine z_getR C fl_11_47 Hh dX11_round_126 rfl hm (fun x2 hm => ?_)
            refine lv_iload_n hx hb dX11_round_129 rfl (lv_at hl 3 rfl) ?_
            refine z_lald C Hh dX11_round_130 hm (fun x3 hm => ?_)
            refine lv_aload_n hx hb dX11_round_131 rfl (lv_at hl 0 rfl) ?_
            refine z_getR C fl_11_47 Hh dX11_round_132 rfl hm (fun x4 hm => ?_)
            refine lv_iload_n hx hb dX11_round_135 rfl (lv_at hl 2 rfl) ?_
            refine z_lald C Hh dX11_round_136 hm (fun x5 hm => ?_)
            refine z_lcmp C dX11_round_137 ?_
            refine z_if_ne (tgt := 166) C dX11_round_138 (by decide) rfl hm (fun _ hm => ?_) (fun _ hm => ?_)
            · exact K166 l3 _ _ _ Hh (lv_sub hl [0, 1, 2, 3] rfl) hm
            · refine lv_aload_n hx hb dX11_round_141 rfl (lv_at hl 0 rfl) ?_
              refine lv_iload_n hx hb dX11_round_142 rfl (lv_at hl 3 rfl) ?_
              refine lv_iload_n hx hb dX11_round_143 rfl (lv_at hl 2 rfl) ?_
              refine z_cVIr (vs := [qI l3, qI l2]) C (fun q hq => ct_X11_isSame l g h l0 l3 l2 q hq) tw_1822 my_X11_isSame (fun q hq => tg_X11_isSame hq) rfl hl.1 Hh ⟨Nat.le_of_ble_eq_true rfl, Nat.le_of_ble_eq_true rfl, Nat.le_of_ble_eq_true rfl, Nat.le_of_ble_eq_true rfl⟩ (Nat.le_of_ble_eq_true rfl) dX11_round_144 rfl hm (fun x6 H locs Hh hm => ?_)
              refine z_if_eq (tgt := 166) C dX11_round_147 (by decide) rfl hm (fun _ hm => ?_) (fun _ hm => ?_)
              · exact K166 l3 _ _ _ Hh (lv_sub hl [0, 1, 2, 3] rfl) hm
              · refine lv_aload_n hx hb dX11_round_150 rfl (lv_at hl 0 rfl) ?_
                refine lv_iload_n hx hb dX11_round_151 rfl (lv_at hl 1 rfl) ?_
                refine z_if_eq (tgt := 159) C dX11_round_152 (by decide) rfl hm (fun _ hm => ?_) (fun _ hm => ?_)
                · refine lv_iload_n hx hb dX11_round_159 rfl (lv_at hl 2 rfl) ?_
                  refine lv_iload_n hx hb dX11_round_160 rfl (lv_at hl 3 rfl) ?_
                  refine z_isub C dX11_round_161 ?_
                  refine z_cVI (vs := [qI (l2 - l3)]) C (fun q hq => ct_X11_good l g h l0 (l2 - l3) q hq) tw_1670 my_X11_good (fun q hq => tg_X11_good hq) rfl hl.1 Hh ⟨Nat.le_of_ble_eq_true rfl, Nat.le_of_ble_eq_true rfl, Nat.le_of_ble_eq_true rfl, Nat.le_of_ble_eq_true rfl⟩ (Nat.le_of_ble_eq_true rfl) dX11_round_162 rfl hm (fun h x7 H locs Hh hm => ?_)
                  cases hm
                  have hm := hc120
                  change some _ = some z93 at hm
                  cases hm
                  have hm := hc93
                  exact z_iret C hr hlocks Hh dX11_round_165 hm
                · refine lv_iload_n hx hb dX11_round_155 rfl (lv_at hl 3 rfl) ?_
                  refine lv_goto (tgt := 162) hx hb dX11_round_156 (by decide) ?_
                  refine z_cVI (vs := [qI l3]) C (fun q hq => ct_X11_good l g h l0 l3 q hq) tw_1670 my_X11_good (fun q hq => tg_X11_good hq) rfl hl.1 Hh ⟨Nat.le_of_ble_eq_true rfl, Nat.le_of_ble_eq_true rfl, Nat.le_of_ble_eq_true rfl, Nat.le_of_ble_eq_true rfl⟩ (Nat.le_of_ble_eq_true rfl) dX11_round_162 rfl hm (fun h x8 H locs Hh hm => ?_)
                  cases hm
                  have hm := hc120
                  change some _ = some z93 at hm
                  cases hm
                  have hm := hc93
                  exact z_iret C hr hlocks Hh dX11_round_165 hm
      unfold M_X11_round_b93 at hm
      refine lv_iload_n hx hb dX11_round_93 rfl (lv_at hl 2 rfl) ?_
      refine z_sipush C dX11_round_94 rfl ?_
      refine z_icmp_gt (tgt := 178) C dX11_round_97 (by decide) rfl lq_p400 hm (fun _ hm => ?_) (fun _ hm => ?_)
      · cases hm
        exact K178 h l0 _ _ _ Hh (lv_sub hl [0] rfl) hc93
      · refine lv_aload_n hx hb dX11_round_100 rfl (lv_at hl 0 rfl) ?_
        refine lv_iload_n hx hb dX11_round_101 rfl (lv_at hl 2 rfl) ?_
        refine z_iconst C dX11_round_102 ?_
        refine z_isub C dX11_round_103 ?_
        refine z_cVv (vs := [qI (l2 - 1)]) C (fun q hq => ct_X11_step l g h l0 (l2 - 1) q hq) tw_1726 my_X11_step (fun q hq => tg_X11_step hq) rfl hl.1 Hh ⟨Nat.le_of_ble_eq_true rfl, Nat.le_of_ble_eq_true rfl, Nat.le_of_ble_eq_true rfl, Nat.le_of_ble_eq_true rfl⟩ (Nat.le_of_ble_eq_true rfl) dX11_round_104 rfl hm (fun h H locs Hh hm => ?_)
        refine lv_aload_n hx hb dX11_round_107 rfl (lv_at hl 0 rfl) ?_
        refine z_getR C fl_11_47 Hh dX11_round_108 rfl hm (fun x9 hm => ?_)
        refine lv_iload_n hx hb dX11_round_111 rfl (lv_at hl 2 rfl) ?_
        refine lv_aload_n hx hb dX11_round_112 rfl (lv_at hl 0 rfl) ?_
        refine lv_iload_n hx hb dX11_round_113 rfl (lv_at hl 2 rfl) ?_
        refine z_cVJr (vs := [qI l2]) C (fun q hq => ct_X11_sumOf l g h l0 l2 q hq) tw_1817 my_X11_sumOf (fun q hq => tg_X11_sumOf hq) rfl hl.1 Hh ⟨Nat.le_of_ble_eq_true rfl, Nat.le_of_ble_eq_true rfl, Nat.le_of_ble_eq_true rfl, Nat.le_of_ble_eq_true rfl⟩ (Nat.le_of_ble_eq_true rfl) dX11_round_114 rfl hm (fun x10 H locs Hh hm => ?_)
        refine z_last C Hh dX11_round_117 hm (fun h H locs Hh hm => ?_)
        refine z_iconst C dX11_round_118 ?_
        refine lv_istore_n (lv' := [(3, qI 0), (0, qR g l0), (1, qI l1), (2, qI l2)]) hx hb dX11_round_119 rfl hl (by decide) rfl (fun ls hl => ?_)
        exact KL120 FU h l2 0 _ _ _ Hh (lv_sub hl [1, 2, 3, 0] rfl) hm
  have K76 : ∀ (h : Hp) (l0 l1 : Int) (H : Heap) (locs : List Loc) (ls : Array Slot), zH g s h H locs → lv_has ls 4 [(0, qR g l0), (1, qI l1)] → M_X11_round_p76 h l0 l1 = some r → W p l e { frames := 5, cells := 0, slots := 0, locals := 123 } s m args below meth c H locs 0 0 (zQ below g r.1 (some (qI r.2)) args s 0 0) (F0 m 76 ls []) := by
    intro h l0 l1  H locs ls Hh hl hm
    unfold M_X11_round_p76 at hm
    refine lv_aload_n hx hb dX11_round_76 rfl (lv_at hl 0 rfl) ?_
    refine z_cVv (vs := []) C (fun q hq => ct_X11_starts l g h l0 q hq) tw_1718 my_X11_starts (fun q hq => tg_X11_starts hq) rfl hl.1 Hh ⟨Nat.le_of_ble_eq_true rfl, Nat.le_of_ble_eq_true rfl, Nat.le_of_ble_eq_true rfl, Nat.le_of_ble_eq_true rfl⟩ (Nat.le_of_ble_eq_true rfl) dX11_round_77 rfl hm (fun h H locs Hh hm => ?_)
    refine lv_aload_n hx hb dX11_round_80 rfl (lv_at hl 0 rfl) ?_
    refine z_getR C fl_11_47 Hh dX11_round_81 rfl hm (fun x11 hm => ?_)
    refine z_iconst C dX11_round_84 ?_
    refine lv_aload_n hx hb dX11_round_85 rfl (lv_at hl 0 rfl) ?_
    refine z_iconst C dX11_round_86 ?_
    refine z_cVJr (vs := [qI 0]) C (fun q hq => ct_X11_sumOf l g h l0 0 q hq) tw_1817 my_X11_sumOf (fun q hq => tg_X11_sumOf hq) rfl hl.1 Hh ⟨Nat.le_of_ble_eq_true rfl, Nat.le_of_ble_eq_true rfl, Nat.le_of_ble_eq_true rfl, Nat.le_of_ble_eq_true rfl⟩ (Nat.le_of_ble_eq_true rfl) dX11_round_87 rfl hm (fun x12 H locs Hh hm => ?_)
    refine z_last C Hh dX11_round_90 hm (fun h H locs Hh hm => ?_)
    refine z_iconst C dX11_round_91 ?_
    refine lv_istore_n (lv' := [(2, qI 1), (0, qR g l0), (1, qI l1)]) hx hb dX11_round_92 rfl hl (by decide) rfl (fun ls hl => ?_)
    exact KL93 FU h l0 l1 1 _ _ _ Hh (lv_sub hl [1, 2, 0] rfl) hm
  have KL20 : ∀ (n : Nat) (h : Hp) (l0 l1 l2 : Int) (H : Heap) (locs : List Loc) (ls : Array Slot), zH g s h H locs → lv_has ls 4 [(0, qR g l0), (1, qI l1), (2, qI l2)] → M_X11_round_w20 n h l0 l1 l2 = some r → W p l e { frames := 5, cells := 0, slots := 0, locals := 123 } s m args below meth c H locs 0 0 (zQ below g r.1 (some (qI r.2)) args s 0 0) (F0 m 20 ls []) := by
    intro n
    induction n with
    | zero => intro h l0 l1 l2 H locs ls Hh hl hm; cases hm
    | succ n ih20 =>
      intro h l0 l1 l2 H locs ls Hh hl hm
      obtain ⟨z20, hm, hc20⟩ := wh_inv hm
      have hm : M_X11_round_b20 h l0 l1 l2 = some z20 := hm
      have K70 : ∀  (l2 : Int) (H : Heap) (locs : List Loc) (ls : Array Slot), zH g s h H locs → lv_has ls 4 [(0, qR g l0), (1, qI l1), (2, qI l2)] → M_X11_round_p70 h l0 l1 l2 = some z20 → W p l e { frames := 5, cells := 0, slots := 0, locals := 123 } s m args below meth c H locs 0 0 (zQ below g r.1 (some (qI r.2)) args s 0 0) (F0 m 70 ls []) := by
        intro l2  H locs ls Hh hl hm
        unfold M_X11_round_p70 at hm
        refine z_iinc (x := l2) (k := 2) (lv' := [(2, qI (l2 + 1)), (0, qR g l0), (1, qI l1)]) C dX11_round_70 hl rfl (by decide) rfl (fun ls hl => ?_)
        refine lv_goto (tgt := 20) hx hb dX11_round_73 (by decide) ?_
        cases hm
        exact ih20 h l0 l1 (l2 + 1) _ _ _ Hh (lv_sub hl [1, 2, 0] rfl) hc20
      unfold M_X11_round_b20 at hm
      refine lv_iload_n hx hb dX11_round_20 rfl (lv_at hl 2 rfl) ?_
      refine lv_aload_n hx hb dX11_round_21 rfl (lv_at hl 0 rfl) ?_
      refine z_getR C fl_11_341 Hh dX11_round_22 rfl hm (fun x13 hm => ?_)
      refine z_getI C fl_11_230 Hh dX11_round_25 rfl hm (fun x14 hm => ?_)
      refine z_icmp_ge (tgt := 76) C dX11_round_28 (by decide) rfl rfl hm (fun _ hm => ?_) (fun _ hm => ?_)
      · cases hm
        exact K76 h l0 l1 _ _ _ Hh (lv_sub hl [0, 1] rfl) hc20
      · refine lv_aload_n hx hb dX11_round_31 rfl (lv_at hl 0 rfl) ?_
        refine z_getR C fl_11_17 Hh dX11_round_32 rfl hm (fun x15 hm => ?_)
        refine z_sipush C dX11_round_35 rfl ?_
        refine lv_iload_n hx hb dX11_round_38 rfl (lv_at hl 2 rfl) ?_
        refine z_iadd C dX11_round_39 ?_
        refine z_iald C Hh dX11_round_40 hm (fun x16 hm => ?_)
        refine z_bipush C dX11_round_41 rfl ?_
        refine z_icmp_eq (tgt := 70) C dX11_round_43 (by decide) rfl lq_m2 hm (fun _ hm => ?_) (fun _ hm => ?_)
        · exact K70 l2 _ _ _ Hh (lv_sub hl [0, 1, 2] rfl) hm
        · refine lv_aload_n hx hb dX11_round_46 rfl (lv_at hl 0 rfl) ?_
          refine z_getR C fl_11_17 Hh dX11_round_47 rfl hm (fun x17 hm => ?_)
          refine z_sipush C dX11_round_50 rfl ?_
          refine z_iconst C dX11_round_53 ?_
          refine lv_iload_n hx hb dX11_round_54 rfl (lv_at hl 2 rfl) ?_
          refine z_imul C dX11_round_55 ?_
          refine z_iadd C dX11_round_56 ?_
          refine z_iald C Hh dX11_round_57 hm (fun x18 hm => ?_)
          refine z_bipush C dX11_round_58 rfl ?_
          refine z_icmp_ne (tgt := 70) C dX11_round_60 (by decide) rfl lq_p9 hm (fun _ hm => ?_) (fun _ hm => ?_)
          · exact K70 l2 _ _ _ Hh (lv_sub hl [0, 1, 2] rfl) hm
          · refine lv_aload_n hx hb dX11_round_63 rfl (lv_at hl 0 rfl) ?_
            refine z_bipush C dX11_round_64 rfl ?_
            refine z_cVI (vs := [qI 6]) C (fun q hq => ct_X11_refused l g h l0 6 q hq) tw_1451 my_X11_refused (fun q hq => tg_X11_refused hq) rfl hl.1 Hh ⟨Nat.le_of_ble_eq_true rfl, Nat.le_of_ble_eq_true rfl, Nat.le_of_ble_eq_true rfl, Nat.le_of_ble_eq_true rfl⟩ (Nat.le_of_ble_eq_true rfl) dX11_round_66 rfl hm (fun h x19 H locs Hh hm => ?_)
            cases hm
            have hm := hc20
            exact z_iret C hr hlocks Hh dX11_round_69 hm
  refine lv_aload_n hx hb dX11_round_0 rfl (lv_at hl 0 rfl) ?_
  refine z_iconst C dX11_round_1 ?_
  refine z_putI C hnm pl_11_78 Hh dX11_round_2 rfl hm (fun h H locs Hh hm => ?_)
  refine lv_aload_n hx hb dX11_round_5 rfl (lv_at hl 0 rfl) ?_
  refine z_getNonnull (tgt := 18) C fl_11_341 Hh dX11_round_6 rfl dX11_round_9 (by decide) hm (fun x20 q hm => ?_) (fun x20 q hm => ?_)
  · rw [if_pos q] at hm
    refine lv_aload_n hx hb dX11_round_12 rfl (lv_at hl 0 rfl) ?_
    refine z_iconst C dX11_round_13 ?_
    refine z_cVI (vs := [qI 1]) C (fun q hq => ct_X11_refused l g h l0 1 q hq) tw_1451 my_X11_refused (fun q hq => tg_X11_refused hq) rfl hl.1 Hh ⟨Nat.le_of_ble_eq_true rfl, Nat.le_of_ble_eq_true rfl, Nat.le_of_ble_eq_true rfl, Nat.le_of_ble_eq_true rfl⟩ (Nat.le_of_ble_eq_true rfl) dX11_round_14 rfl hm (fun h x21 H locs Hh hm => ?_)
    exact z_iret C hr hlocks Hh dX11_round_17 hm
  · rw [if_neg q] at hm
    refine z_iconst C dX11_round_18 ?_
    refine lv_istore_n (lv' := [(2, qI 0), (0, qR g l0), (1, qI l1)]) hx hb dX11_round_19 rfl hl (by decide) rfl (fun ls hl => ?_)
    exact KL20 FU h l0 l1 0 _ _ _ Hh (lv_sub hl [1, 2, 0] rfl) hm
theorem tg_X11_cameFrom {h : Hp} {l0 l1 l2 l3 : Int} {r : Int} (hm : M_X11_cameFrom h l0 l1 l2 l3 = some r) : hT h l0 = 21 := (tk_inv hm).1
set_option maxRecDepth 100000 in
set_option maxHeartbeats 4000000 in
theorem ct_X11_cameFrom (l : Launch) (g : zGeo) (h : Hp) (l0 l1 l2 l3 : Int) (r : Int) (hm : M_X11_cameFrom h l0 l1 l2 l3 = some r) : zM l yX11_cameFrom cX11_cameFrom 6 (some .int) 3 71 0 0 g h [qR g l0, qI l1, qI l2, qI l3] h (some (qI r)) := by
  refine z_meth (by decide) (Nat.le_of_ble_eq_true rfl) ?_
  intro p e s m args below meth c H ls C hr hlocks hnm Hh hl
  have C : zC p m c cX11_cameFrom 6 s args RX11 g := C
  have hnm : meth.name = "cameFrom" := hnm
  have hx := C.1.1
  have hb := C.1.2.1
  have hl : lv_has ls 6 [(0, qR g l0), (1, qI l1), (2, qI l2), (3, qI l3)] := hl
  unfold M_X11_cameFrom at hm
  replace hm := (tk_inv hm).2
  refine z_sipush C dX11_cameFrom_0 rfl ?_
  refine lv_iload_n hx hb dX11_cameFrom_3 rfl (lv_at hl 1 rfl) ?_
  refine z_imul C dX11_cameFrom_4 ?_
  refine z_bipush C dX11_cameFrom_5 rfl ?_
  refine lv_aload_n hx hb dX11_cameFrom_7 rfl (lv_at hl 0 rfl) ?_
  refine z_getR C fl_11_31 Hh dX11_cameFrom_8 rfl hm (fun x1 hm => ?_)
  refine lv_iload_n hx hb dX11_cameFrom_11 rfl (lv_at hl 2 rfl) ?_
  refine z_iald C Hh dX11_cameFrom_12 hm (fun x2 hm => ?_)
  refine z_imul C dX11_cameFrom_13 ?_
  refine z_iadd C dX11_cameFrom_14 ?_
  refine lv_istore (lv' := [(4, qI ((216 * l1) + (36 * x2))), (0, qR g l0), (1, qI l1), (2, qI l2), (3, qI l3)]) hx hb dX11_cameFrom_15 hl (by decide) rfl (fun ls hl => ?_)
  refine lv_aload_n hx hb dX11_cameFrom_17 rfl (lv_at hl 1 rfl) ?_
  refine z_getR C fl_11_34 Hh dX11_cameFrom_18 rfl hm (fun x3 hm => ?_)
  refine z_iconst C dX11_cameFrom_21 ?_
  refine lv_iload_n hx hb dX11_cameFrom_22 rfl (lv_at hl 3 rfl) ?_
  refine z_imul C dX11_cameFrom_23 ?_
  refine z_iconst C dX11_cameFrom_24 ?_
  refine z_iadd C dX11_cameFrom_25 ?_
  refine z_iald C Hh dX11_cameFrom_26 hm (fun x4 hm => ?_)
  refine lv_istore (lv' := [(5, qI x4), (4, qI ((216 * l1) + (36 * x2))), (0, qR g l0), (1, qI l1), (2, qI l2), (3, qI l3)]) hx hb dX11_cameFrom_27 hl (by decide) rfl (fun ls hl => ?_)
  refine lv_aload_n hx hb dX11_cameFrom_29 rfl (lv_at hl 2 rfl) ?_
  refine z_getR C fl_11_34 Hh dX11_cameFrom_30 rfl hm (fun x5 hm => ?_)
  refine z_iconst C dX11_cameFrom_33 ?_
  refine lv_iload_n hx hb dX11_cameFrom_34 rfl (lv_at hl 4 rfl) ?_
  refine z_imul C dX11_cameFrom_35 ?_
  refine z_iald C Hh dX11_cameFrom_36 hm (fun x6 hm => ?_)
  refine z_sw hm (fun q hm => ?_) (fun q0 hm => ?_)
  · refine z_tin (tgt := 88) (off := 51) C dX11_cameFrom_37 q (by decide) (by decide) rfl (by decide) ?_
    refine lv_iload_n hx hb dX11_cameFrom_88 rfl (lv_at hl 5 rfl) ?_
    refine lv_aload_n hx hb dX11_cameFrom_89 rfl (lv_at hl 2 rfl) ?_
    refine lv_aload_n hx hb dX11_cameFrom_90 rfl (lv_at hl 2 rfl) ?_
    refine z_getR C fl_11_34 Hh dX11_cameFrom_91 rfl hm (fun x7 hm => ?_)
    refine z_iconst C dX11_cameFrom_94 ?_
    refine lv_iload_n hx hb dX11_cameFrom_95 rfl (lv_at hl 4 rfl) ?_
    refine z_imul C dX11_cameFrom_96 ?_
    refine z_iconst C dX11_cameFrom_97 ?_
    refine z_iadd C dX11_cameFrom_98 ?_
    refine z_iald C Hh dX11_cameFrom_99 hm (fun x8 hm => ?_)
    refine lv_aload_n hx hb dX11_cameFrom_100 rfl (lv_at hl 2 rfl) ?_
    refine z_getR C fl_11_34 Hh dX11_cameFrom_101 rfl hm (fun x9 hm => ?_)
    refine z_iconst C dX11_cameFrom_104 ?_
    refine lv_iload_n hx hb dX11_cameFrom_105 rfl (lv_at hl 4 rfl) ?_
    refine z_imul C dX11_cameFrom_106 ?_
    refine z_iconst C dX11_cameFrom_107 ?_
    refine z_iadd C dX11_cameFrom_108 ?_
    refine z_iald C Hh dX11_cameFrom_109 hm (fun x10 hm => ?_)
    refine z_cVIr (vs := [qI x8, qI x10]) C (fun q hq => ct_X11_at l g h l0 x8 x10 q hq) tw_1750 my_X11_at (fun q hq => tg_X11_at hq) rfl hl.1 Hh ⟨Nat.le_of_ble_eq_true rfl, Nat.le_of_ble_eq_true rfl, Nat.le_of_ble_eq_true rfl, Nat.le_of_ble_eq_true rfl⟩ (Nat.le_of_ble_eq_true rfl) dX11_cameFrom_110 rfl hm (fun x11 H locs Hh hm => ?_)
    refine z_icmp_ne (tgt := 121) C dX11_cameFrom_113 (by decide) rfl rfl hm (fun _ hm => ?_) (fun _ hm => ?_)
    · refine lv_iload_n hx hb dX11_cameFrom_121 rfl (lv_at hl 5 rfl) ?_
      exact z_iretR (h0 := h) C hr hlocks Hh dX11_cameFrom_122 hm
    · refine z_bipush C dX11_cameFrom_116 rfl ?_
      refine lv_goto (tgt := 122) hx hb dX11_cameFrom_118 (by decide) ?_
      exact z_iretR (h0 := h) C hr hlocks Hh dX11_cameFrom_122 hm
  refine z_sw hm (fun q hm => ?_) (fun q1 hm => ?_)
  · refine z_tin (tgt := 123) (off := 86) C dX11_cameFrom_37 q (by decide) (by decide) rfl (by decide) ?_
    refine lv_aload_n hx hb dX11_cameFrom_123 rfl (lv_at hl 2 rfl) ?_
    refine lv_iload hx hb dX11_cameFrom_124 (lv_at hl 1 rfl) ?_
    refine lv_iload hx hb dX11_cameFrom_126 (lv_at hl 0 rfl) ?_
    refine lv_iload_n hx hb dX11_cameFrom_128 rfl (lv_at hl 5 rfl) ?_
    refine z_cVIr (vs := [qI ((216 * l1) + (36 * x2)), qI x4, qI l3]) C (fun q hq => ct_X11_stainedBy l g h l0 ((216 * l1) + (36 * x2)) x4 l3 q hq) tw_1754 my_X11_stainedBy (fun q hq => tg_X11_stainedBy hq) rfl hl.1 Hh ⟨Nat.le_of_ble_eq_true rfl, Nat.le_of_ble_eq_true rfl, Nat.le_of_ble_eq_true rfl, Nat.le_of_ble_eq_true rfl⟩ (Nat.le_of_ble_eq_true rfl) dX11_cameFrom_129 rfl hm (fun x12 H locs Hh hm => ?_)
    exact z_iretR (h0 := h) C hr hlocks Hh dX11_cameFrom_132 hm
  refine z_sw hm (fun q hm => ?_) (fun q2 hm => ?_)
  · refine z_tin (tgt := 133) (off := 96) C dX11_cameFrom_37 q (by decide) (by decide) rfl (by decide) ?_
    refine lv_aload_n hx hb dX11_cameFrom_133 rfl (lv_at hl 2 rfl) ?_
    refine z_getR C fl_11_28 Hh dX11_cameFrom_134 rfl hm (fun x13 hm => ?_)
    refine lv_iload hx hb dX11_cameFrom_137 (lv_at hl 1 rfl) ?_
    refine lv_iload_n hx hb dX11_cameFrom_139 rfl (lv_at hl 5 rfl) ?_
    refine z_iadd C dX11_cameFrom_140 ?_
    refine z_iald C Hh dX11_cameFrom_141 hm (fun x14 hm => ?_)
    refine lv_iload hx hb dX11_cameFrom_142 (lv_at hl 0 rfl) ?_
    refine z_icmp_ne (tgt := 152) C dX11_cameFrom_144 (by decide) rfl rfl hm (fun _ hm => ?_) (fun _ hm => ?_)
    · refine lv_iload_n hx hb dX11_cameFrom_152 rfl (lv_at hl 5 rfl) ?_
      exact z_iretR (h0 := h) C hr hlocks Hh dX11_cameFrom_153 hm
    · refine z_bipush C dX11_cameFrom_147 rfl ?_
      refine lv_goto (tgt := 153) hx hb dX11_cameFrom_149 (by decide) ?_
      exact z_iretR (h0 := h) C hr hlocks Hh dX11_cameFrom_153 hm
  refine z_sw hm (fun q hm => ?_) (fun q3 hm => ?_)
  · refine z_tin (tgt := 154) (off := 117) C dX11_cameFrom_37 q (by decide) (by decide) rfl (by decide) ?_
    refine lv_aload_n hx hb dX11_cameFrom_154 rfl (lv_at hl 2 rfl) ?_
    refine z_getR C fl_11_37 Hh dX11_cameFrom_155 rfl hm (fun x15 hm => ?_)
    refine z_bipush C dX11_cameFrom_158 rfl ?_
    refine lv_iload_n hx hb dX11_cameFrom_160 rfl (lv_at hl 3 rfl) ?_
    refine z_imul C dX11_cameFrom_161 ?_
    refine lv_iload_n hx hb dX11_cameFrom_162 rfl (lv_at hl 4 rfl) ?_
    refine z_iadd C dX11_cameFrom_163 ?_
    refine z_iald C Hh dX11_cameFrom_164 hm (fun x16 hm => ?_)
    refine lv_iload_n hx hb dX11_cameFrom_165 rfl (lv_at hl 5 rfl) ?_
    refine z_icmp_ne (tgt := 174) C dX11_cameFrom_166 (by decide) rfl rfl hm (fun _ hm => ?_) (fun _ hm => ?_)
    · refine lv_iload_n hx hb dX11_cameFrom_174 rfl (lv_at hl 5 rfl) ?_
      exact z_iretR (h0 := h) C hr hlocks Hh dX11_cameFrom_175 hm
    · refine z_bipush C dX11_cameFrom_169 rfl ?_
      refine lv_goto (tgt := 175) hx hb dX11_cameFrom_171 (by decide) ?_
      exact z_iretR (h0 := h) C hr hlocks Hh dX11_cameFrom_175 hm
  have hdf : (w32 x6 < 1 ∨ 9 < w32 x6) ∨ ∃ k : Int, w32 x6 = k ∧ 1 ≤ k ∧ k ≤ 9 ∧ (#[51, 139, 139, 139, 139, 86, 96, 139, 117] : Array Int)[(k - 1).toNat]? = some 139 := by
    have q : (w32 x6 < 1 ∨ 9 < w32 x6) ∨ w32 x6 = 2 ∨ w32 x6 = 3 ∨ w32 x6 = 4 ∨ w32 x6 = 5 ∨ w32 x6 = 8 := by omega
    rcases q with q | q | q | q | q | q
    · exact Or.inl q
    · exact Or.inr ⟨_, q, by decide, by decide, rfl⟩
    · exact Or.inr ⟨_, q, by decide, by decide, rfl⟩
    · exact Or.inr ⟨_, q, by decide, by decide, rfl⟩
    · exact Or.inr ⟨_, q, by decide, by decide, rfl⟩
    · exact Or.inr ⟨_, q, by decide, by decide, rfl⟩
  refine z_tdef (tgt := 176) C dX11_cameFrom_37 hdf (by decide) ?_
  refine lv_aload_n hx hb dX11_cameFrom_176 rfl (lv_at hl 2 rfl) ?_
  refine lv_iload_n hx hb dX11_cameFrom_177 rfl (lv_at hl 4 rfl) ?_
  refine lv_iload_n hx hb dX11_cameFrom_178 rfl (lv_at hl 5 rfl) ?_
  refine z_cVIr (vs := [qI l2, qI l3]) C (fun q hq => ct_X11_from l g h l0 l2 l3 q hq) tw_1738 my_X11_from (fun q hq => tg_X11_from hq) rfl hl.1 Hh ⟨Nat.le_of_ble_eq_true rfl, Nat.le_of_ble_eq_true rfl, Nat.le_of_ble_eq_true rfl, Nat.le_of_ble_eq_true rfl⟩ (Nat.le_of_ble_eq_true rfl) dX11_cameFrom_179 rfl hm (fun x17 H locs Hh hm => ?_)
  exact z_iretR (h0 := h) C hr hlocks Hh dX11_cameFrom_182 hm
theorem tg_X11_origin {h : Hp} {l0 l1 l2 l3 : Int} {r : Hp × Int} (hm : M_X11_origin h l0 l1 l2 l3 = some r) : hT h l0 = 21 := (tk_inv hm).1
set_option maxRecDepth 100000 in
set_option maxHeartbeats 4000000 in
theorem ct_X11_origin (l : Launch) (g : zGeo) (h0 : Hp) (l0 l1 l2 l3 : Int) (r : Hp × Int) (hm : M_X11_origin h0 l0 l1 l2 l3 = some r) : zM l yX11_origin cX11_origin 8 (some .int) 7 167 0 0 g h0 [qR g l0, qI l1, qI l2, qI l3] r.1 (some (qI r.2)) := by
  refine z_meth (by decide) (Nat.le_of_ble_eq_true rfl) ?_
  intro p e s m args below meth c H ls C hr hlocks hnm Hh hl
  have C : zC p m c cX11_origin 8 s args RX11 g := C
  have hnm : meth.name = "origin" := hnm
  have hx := C.1.1
  have hb := C.1.2.1
  have hl : lv_has ls 8 [(0, qR g l0), (1, qI l1), (2, qI l2), (3, qI l3)] := hl
  unfold M_X11_origin at hm
  replace hm := (tk_inv hm).2
  generalize h0 = h at Hh hm
  have K99 : ∀ (h : Hp) (l0 l5 l6 : Int) (H : Heap) (locs : List Loc) (ls : Array Slot), zH g s h H locs → lv_has ls 8 [(0, qR g l0), (5, qI l5), (6, qI l6)] → M_X11_origin_p99 h l0 l5 l6 = some r → W p l e { frames := 7, cells := 0, slots := 0, locals := 167 } s m args below meth c H locs 0 0 (zQ below g r.1 (some (qI r.2)) args s 0 0) (F0 m 99 ls []) := by
    intro h l0 l5 l6  H locs ls Hh hl hm
    unfold M_X11_origin_p99 at hm
    refine lv_aload_n hx hb dX11_origin_99 rfl (lv_at hl 0 rfl) ?_
    refine lv_iload hx hb dX11_origin_100 (lv_at hl 2 rfl) ?_
    refine z_bipush C dX11_origin_102 rfl ?_
    refine z_icmp_ne (tgt := 112) C dX11_origin_104 (by decide) rfl lq_m2 hm (fun _ hm => ?_) (fun _ hm => ?_)
    · refine z_bipush C dX11_origin_112 rfl ?_
      refine lv_iload hx hb dX11_origin_114 (lv_at hl 1 rfl) ?_
      refine z_imul C dX11_origin_116 ?_
      refine lv_aload_n hx hb dX11_origin_117 rfl (lv_at hl 0 rfl) ?_
      refine lv_iload hx hb dX11_origin_118 (lv_at hl 2 rfl) ?_
      refine z_cVIr (vs := [qI l6]) C (fun q hq => ct_X11_told l g h l0 l6 q hq) tw_1834 my_X11_told (fun q hq => tg_X11_told hq) rfl hl.1 Hh ⟨Nat.le_of_ble_eq_true rfl, Nat.le_of_ble_eq_true rfl, Nat.le_of_ble_eq_true rfl, Nat.le_of_ble_eq_true rfl⟩ (Nat.le_of_ble_eq_true rfl) dX11_origin_120 rfl hm (fun x1 H locs Hh hm => ?_)
      refine z_iadd C dX11_origin_123 ?_
      refine z_cVI (vs := [qI ((100 * l5) + x1)]) C (fun q hq => ct_X11_good l g h l0 ((100 * l5) + x1) q hq) tw_1670 my_X11_good (fun q hq => tg_X11_good hq) rfl hl.1 Hh ⟨Nat.le_of_ble_eq_true rfl, Nat.le_of_ble_eq_true rfl, Nat.le_of_ble_eq_true rfl, Nat.le_of_ble_eq_true rfl⟩ (Nat.le_of_ble_eq_true rfl) dX11_origin_124 rfl hm (fun h x2 H locs Hh hm => ?_)
      exact z_iret C hr hlocks Hh dX11_origin_127 hm
    · refine z_bipush C dX11_origin_107 rfl ?_
      refine lv_goto (tgt := 124) hx hb dX11_origin_109 (by decide) ?_
      refine z_cVI (vs := [qI (-2)]) C (fun q hq => ct_X11_good l g h l0 (-2) q hq) tw_1670 my_X11_good (fun q hq => tg_X11_good hq) rfl hl.1 Hh ⟨Nat.le_of_ble_eq_true rfl, Nat.le_of_ble_eq_true rfl, Nat.le_of_ble_eq_true rfl, Nat.le_of_ble_eq_true rfl⟩ (Nat.le_of_ble_eq_true rfl) dX11_origin_124 rfl hm (fun h x3 H locs Hh hm => ?_)
      exact z_iret C hr hlocks Hh dX11_origin_127 hm
  have KL45 : ∀ (n : Nat) (h : Hp) (l0 l5 l6 l7 : Int) (H : Heap) (locs : List Loc) (ls : Array Slot), zH g s h H locs → lv_has ls 8 [(0, qR g l0), (5, qI l5), (6, qI l6), (7, qI l7)] → M_X11_origin_w45 n h l0 l5 l6 l7 = some r → W p l e { frames := 7, cells := 0, slots := 0, locals := 167 } s m args below meth c H locs 0 0 (zQ below g r.1 (some (qI r.2)) args s 0 0) (F0 m 45 ls []) := by
    intro n
    induction n with
    | zero => intro h l0 l5 l6 l7 H locs ls Hh hl hm; cases hm
    | succ n ih45 =>
      intro h l0 l5 l6 l7 H locs ls Hh hl hm
      obtain ⟨z45, hm, hc45⟩ := wh_inv hm
      have hm : M_X11_origin_b45 h l0 l5 l6 l7 = some z45 := hm
      have K93 : ∀  (l5 l6 l7 : Int) (H : Heap) (locs : List Loc) (ls : Array Slot), zH g s h H locs → lv_has ls 8 [(0, qR g l0), (5, qI l5), (6, qI l6), (7, qI l7)] → M_X11_origin_p93 h l0 l5 l6 l7 = some z45 → W p l e { frames := 7, cells := 0, slots := 0, locals := 167 } s m args below meth c H locs 0 0 (zQ below g r.1 (some (qI r.2)) args s 0 0) (F0 m 93 ls []) := by
        intro l5 l6 l7  H locs ls Hh hl hm
        unfold M_X11_origin_p93 at hm
        refine z_iinc (x := l7) (k := 3) (lv' := [(7, qI (l7 + (-1))), (0, qR g l0), (5, qI l5), (6, qI l6)]) C dX11_origin_93 hl rfl (by decide) rfl (fun ls hl => ?_)
        refine lv_goto (tgt := 45) hx hb dX11_origin_96 (by decide) ?_
        cases hm
        exact ih45 h l0 l5 l6 (l7 + (-1)) _ _ _ Hh (lv_sub hl [1, 2, 3, 0] rfl) hc45
      unfold M_X11_origin_b45 at hm
      refine lv_iload hx hb dX11_origin_45 (lv_at hl 3 rfl) ?_
      refine z_if_lt (tgt := 99) C dX11_origin_47 (by decide) rfl hm (fun _ hm => ?_) (fun _ hm => ?_)
      · cases hm
        exact K99 h l0 l5 l6 _ _ _ Hh (lv_sub hl [0, 1, 2] rfl) hc45
      · refine lv_iload hx hb dX11_origin_50 (lv_at hl 2 rfl) ?_
        refine z_bipush C dX11_origin_52 rfl ?_
        refine z_icmp_eq (tgt := 99) C dX11_origin_54 (by decide) rfl lq_m2 hm (fun _ hm => ?_) (fun _ hm => ?_)
        · cases hm
          exact K99 h l0 l5 l6 _ _ _ Hh (lv_sub hl [0, 1, 2] rfl) hc45
        · refine lv_aload_n hx hb dX11_origin_57 rfl (lv_at hl 0 rfl) ?_
          refine z_getR C fl_11_31 Hh dX11_origin_58 rfl hm (fun x4 hm => ?_)
          refine lv_iload hx hb dX11_origin_61 (lv_at hl 1 rfl) ?_
          refine z_iald C Hh dX11_origin_63 hm (fun x5 hm => ?_)
          refine z_bipush C dX11_origin_64 rfl ?_
          refine z_icmp_ne (tgt := 72) C dX11_origin_66 (by decide) rfl lq_m2 hm (fun _ hm => ?_) (fun _ hm => ?_)
          · refine lv_aload_n hx hb dX11_origin_72 rfl (lv_at hl 0 rfl) ?_
            refine lv_iload hx hb dX11_origin_73 (lv_at hl 3 rfl) ?_
            refine lv_iload hx hb dX11_origin_75 (lv_at hl 1 rfl) ?_
            refine lv_iload hx hb dX11_origin_77 (lv_at hl 2 rfl) ?_
            refine z_cVIr (vs := [qI l7, qI l5, qI l6]) C (fun q hq => ct_X11_cameFrom l g h l0 l7 l5 l6 q hq) tw_1830 my_X11_cameFrom (fun q hq => tg_X11_cameFrom hq) rfl hl.1 Hh ⟨Nat.le_of_ble_eq_true rfl, Nat.le_of_ble_eq_true rfl, Nat.le_of_ble_eq_true rfl, Nat.le_of_ble_eq_true rfl⟩ (Nat.le_of_ble_eq_true rfl) dX11_origin_79 rfl hm (fun x6 H locs Hh hm => ?_)
            refine lv_istore (lv' := [(6, qI x6), (0, qR g l0), (5, qI l5), (7, qI l7)]) hx hb dX11_origin_82 hl (by decide) rfl (fun ls hl => ?_)
            refine lv_aload_n hx hb dX11_origin_84 rfl (lv_at hl 1 rfl) ?_
            refine z_getR C fl_11_31 Hh dX11_origin_85 rfl hm (fun x7 hm => ?_)
            refine lv_iload hx hb dX11_origin_88 (lv_at hl 2 rfl) ?_
            refine z_iald C Hh dX11_origin_90 hm (fun x8 hm => ?_)
            refine lv_istore (lv' := [(5, qI x8), (6, qI x6), (0, qR g l0), (7, qI l7)]) hx hb dX11_origin_91 hl (by decide) rfl (fun ls hl => ?_)
            exact K93 x8 x6 l7 _ _ _ Hh (lv_sub hl [2, 0, 1, 3] rfl) hm
          · refine lv_goto (tgt := 93) hx hb dX11_origin_69 (by decide) ?_
            exact K93 l5 l6 l7 _ _ _ Hh (lv_sub hl [0, 1, 2, 3] rfl) hm
  refine lv_aload_n hx hb dX11_origin_0 rfl (lv_at hl 0 rfl) ?_
  refine z_iconst C dX11_origin_1 ?_
  refine z_putI C hnm pl_11_78 Hh dX11_origin_2 rfl hm (fun h H locs Hh hm => ?_)
  refine lv_aload_n hx hb dX11_origin_5 rfl (lv_at hl 0 rfl) ?_
  refine lv_aload_n hx hb dX11_origin_6 rfl (lv_at hl 0 rfl) ?_
  refine lv_iload_n hx hb dX11_origin_7 rfl (lv_at hl 1 rfl) ?_
  refine lv_iload_n hx hb dX11_origin_8 rfl (lv_at hl 2 rfl) ?_
  refine z_cVIr (vs := [qI l1, qI l2]) C (fun q hq => ct_X11_isPlace l g h l0 l1 l2 q hq) tw_1698 my_X11_isPlace (fun q hq => tg_X11_isPlace hq) rfl hl.1 Hh ⟨Nat.le_of_ble_eq_true rfl, Nat.le_of_ble_eq_true rfl, Nat.le_of_ble_eq_true rfl, Nat.le_of_ble_eq_true rfl⟩ (Nat.le_of_ble_eq_true rfl) dX11_origin_9 rfl hm (fun x9 H locs Hh hm => ?_)
  refine lv_iload_n hx hb dX11_origin_12 rfl (lv_at hl 3 rfl) ?_
  refine z_cVI (vs := [qI x9, qI l3]) C (fun q hq => ct_X11_asks l g h l0 x9 l3 q hq) tw_1714 my_X11_asks (fun q hq => tg_X11_asks hq) rfl hl.1 Hh ⟨Nat.le_of_ble_eq_true rfl, Nat.le_of_ble_eq_true rfl, Nat.le_of_ble_eq_true rfl, Nat.le_of_ble_eq_true rfl⟩ (Nat.le_of_ble_eq_true rfl) dX11_origin_13 rfl hm (fun h x10 H locs Hh hm => ?_)
  refine lv_istore (lv' := [(4, qI x10), (0, qR g l0), (1, qI l1), (2, qI l2), (3, qI l3)]) hx hb dX11_origin_16 hl (by decide) rfl (fun ls hl => ?_)
  refine lv_iload hx hb dX11_origin_18 (lv_at hl 0 rfl) ?_
  refine z_if_le (tgt := 30) C dX11_origin_20 (by decide) rfl hm (fun _ hm => ?_) (fun _ hm => ?_)
  · refine lv_iload_n hx hb dX11_origin_30 rfl (lv_at hl 2 rfl) ?_
    refine lv_istore (lv' := [(5, qI l1), (4, qI x10), (0, qR g l0), (1, qI l1), (2, qI l2), (3, qI l3)]) hx hb dX11_origin_31 hl (by decide) rfl (fun ls hl => ?_)
    refine lv_aload_n hx hb dX11_origin_33 rfl (lv_at hl 2 rfl) ?_
    refine lv_iload_n hx hb dX11_origin_34 rfl (lv_at hl 4 rfl) ?_
    refine z_cVIr (vs := [qI l2]) C (fun q hq => ct_X11_placeOf l g h l0 l2 q hq) tw_1702 my_X11_placeOf (fun q hq => tg_X11_placeOf hq) rfl hl.1 Hh ⟨Nat.le_of_ble_eq_true rfl, Nat.le_of_ble_eq_true rfl, Nat.le_of_ble_eq_true rfl, Nat.le_of_ble_eq_true rfl⟩ (Nat.le_of_ble_eq_true rfl) dX11_origin_35 rfl hm (fun x11 H locs Hh hm => ?_)
    refine lv_istore (lv' := [(6, qI x11), (5, qI l1), (4, qI x10), (0, qR g l0), (1, qI l1), (2, qI l2), (3, qI l3)]) hx hb dX11_origin_38 hl (by decide) rfl (fun ls hl => ?_)
    refine lv_iload_n hx hb dX11_origin_40 rfl (lv_at hl 6 rfl) ?_
    refine z_iconst C dX11_origin_41 ?_
    refine z_isub C dX11_origin_42 ?_
    refine lv_istore (lv' := [(7, qI (l3 - 1)), (6, qI x11), (5, qI l1), (4, qI x10), (0, qR g l0), (1, qI l1), (2, qI l2), (3, qI l3)]) hx hb dX11_origin_43 hl (by decide) rfl (fun ls hl => ?_)
    exact KL45 FU h l0 l1 x11 (l3 - 1) _ _ _ Hh (lv_sub hl [4, 2, 1, 0] rfl) hm
  · refine lv_aload_n hx hb dX11_origin_23 rfl (lv_at hl 1 rfl) ?_
    refine lv_iload hx hb dX11_origin_24 (lv_at hl 0 rfl) ?_
    refine z_cVI (vs := [qI x10]) C (fun q hq => ct_X11_refused l g h l0 x10 q hq) tw_1451 my_X11_refused (fun q hq => tg_X11_refused hq) rfl hl.1 Hh ⟨Nat.le_of_ble_eq_true rfl, Nat.le_of_ble_eq_true rfl, Nat.le_of_ble_eq_true rfl, Nat.le_of_ble_eq_true rfl⟩ (Nat.le_of_ble_eq_true rfl) dX11_origin_26 rfl hm (fun h x12 H locs Hh hm => ?_)
    exact z_iret C hr hlocks Hh dX11_origin_29 hm
theorem tg_X11_blame {h : Hp} {l0 l1 l2 l3 : Int} {r : Hp × Int} (hm : M_X11_blame h l0 l1 l2 l3 = some r) : hT h l0 = 21 := (tk_inv hm).1
set_option maxRecDepth 100000 in
set_option maxHeartbeats 4000000 in
theorem ct_X11_blame (l : Launch) (g : zGeo) (h0 : Hp) (l0 l1 l2 l3 : Int) (r : Hp × Int) (hm : M_X11_blame h0 l0 l1 l2 l3 = some r) : zM l yX11_blame cX11_blame 8 (some .int) 7 167 0 0 g h0 [qR g l0, qI l1, qI l2, qI l3] r.1 (some (qI r.2)) := by
  refine z_meth (by decide) (Nat.le_of_ble_eq_true rfl) ?_
  intro p e s m args below meth c H ls C hr hlocks hnm Hh hl
  have C : zC p m c cX11_blame 8 s args RX11 g := C
  have hnm : meth.name = "blame" := hnm
  have hx := C.1.1
  have hb := C.1.2.1
  have hl : lv_has ls 8 [(0, qR g l0), (1, qI l1), (2, qI l2), (3, qI l3)] := hl
  unfold M_X11_blame at hm
  replace hm := (tk_inv hm).2
  generalize h0 = h at Hh hm
  have K115 : ∀ (h : Hp) (l0 l6 : Int) (H : Heap) (locs : List Loc) (ls : Array Slot), zH g s h H locs → lv_has ls 8 [(0, qR g l0), (6, qI l6)] → M_X11_blame_p115 h l0 l6 = some r → W p l e { frames := 7, cells := 0, slots := 0, locals := 167 } s m args below meth c H locs 0 0 (zQ below g r.1 (some (qI r.2)) args s 0 0) (F0 m 115 ls []) := by
    intro h l0 l6  H locs ls Hh hl hm
    unfold M_X11_blame_p115 at hm
    refine lv_aload_n hx hb dX11_blame_115 rfl (lv_at hl 0 rfl) ?_
    refine lv_iload hx hb dX11_blame_116 (lv_at hl 1 rfl) ?_
    refine z_cVI (vs := [qI l6]) C (fun q hq => ct_X11_good l g h l0 l6 q hq) tw_1670 my_X11_good (fun q hq => tg_X11_good hq) rfl hl.1 Hh ⟨Nat.le_of_ble_eq_true rfl, Nat.le_of_ble_eq_true rfl, Nat.le_of_ble_eq_true rfl, Nat.le_of_ble_eq_true rfl⟩ (Nat.le_of_ble_eq_true rfl) dX11_blame_118 rfl hm (fun h x1 H locs Hh hm => ?_)
    exact z_iret C hr hlocks Hh dX11_blame_121 hm
  have KL49 : ∀ (n : Nat) (h : Hp) (l0 l1 l2 l3 l5 l6 l7 : Int) (H : Heap) (locs : List Loc) (ls : Array Slot), zH g s h H locs → lv_has ls 8 [(0, qR g l0), (1, qI l1), (2, qI l2), (3, qI l3), (5, qI l5), (6, qI l6), (7, qI l7)] → M_X11_blame_w49 n h l0 l1 l2 l3 l5 l6 l7 = some r → W p l e { frames := 7, cells := 0, slots := 0, locals := 167 } s m args below meth c H locs 0 0 (zQ below g r.1 (some (qI r.2)) args s 0 0) (F0 m 49 ls []) := by
    intro n
    induction n with
    | zero => intro h l0 l1 l2 l3 l5 l6 l7 H locs ls Hh hl hm; cases hm
    | succ n ih49 =>
      intro h l0 l1 l2 l3 l5 l6 l7 H locs ls Hh hl hm
      obtain ⟨z49, hm, hc49⟩ := wh_inv hm
      have hm : M_X11_blame_b49 h l0 l1 l2 l3 l5 l6 l7 = some z49 := hm
      have K106 : ∀ (h : Hp) (l7 : Int) (s0 s1 : Int) (H : Heap) (locs : List Loc) (ls : Array Slot), zH g s h H locs → lv_has ls 8 [(0, qR g l0), (1, qI l1), (2, qI l2), (3, qI l3), (5, qI l5), (7, qI l7)] → M_X11_blame_p106 h l0 l1 l2 l3 l5 l7 s0 s1 = some z49 → W p l e { frames := 7, cells := 0, slots := 0, locals := 167 } s m args below meth c H locs 0 0 (zQ below g r.1 (some (qI r.2)) args s 0 0) (F0 m 106 ls [qI s1, qI s0]) := by
        intro h l7 s0 s1 H locs ls Hh hl hm
        unfold M_X11_blame_p106 at hm
        refine z_ior C dX11_blame_106 ?_
        refine lv_istore (lv' := [(6, qI (ior s0 s1)), (0, qR g l0), (1, qI l1), (2, qI l2), (3, qI l3), (5, qI l5), (7, qI l7)]) hx hb dX11_blame_107 hl (by decide) rfl (fun ls hl => ?_)
        refine z_iinc (x := l7) (k := 6) (lv' := [(7, qI (l7 + 1)), (6, qI (ior s0 s1)), (0, qR g l0), (1, qI l1), (2, qI l2), (3, qI l3), (5, qI l5)]) C dX11_blame_109 hl rfl (by decide) rfl (fun ls hl => ?_)
        refine lv_goto (tgt := 49) hx hb dX11_blame_112 (by decide) ?_
        cases hm
        exact ih49 h l0 l1 l2 l3 l5 (ior s0 s1) (l7 + 1) _ _ _ Hh (lv_sub hl [2, 3, 4, 5, 6, 1, 0] rfl) hc49
      unfold M_X11_blame_b49 at hm
      refine lv_iload hx hb dX11_blame_49 (lv_at hl 6 rfl) ?_
      refine lv_aload_n hx hb dX11_blame_51 rfl (lv_at hl 0 rfl) ?_
      refine z_getR C fl_11_341 Hh dX11_blame_52 rfl hm (fun x2 hm => ?_)
      refine z_getI C fl_11_230 Hh dX11_blame_55 rfl hm (fun x3 hm => ?_)
      refine z_icmp_ge (tgt := 115) C dX11_blame_58 (by decide) rfl rfl hm (fun _ hm => ?_) (fun _ hm => ?_)
      · cases hm
        exact K115 h l0 l6 _ _ _ Hh (lv_sub hl [0, 5] rfl) hc49
      · refine lv_aload_n hx hb dX11_blame_61 rfl (lv_at hl 0 rfl) ?_
        refine z_cVv (vs := []) C (fun q hq => ct_X11_starts l g h l0 q hq) tw_1718 my_X11_starts (fun q hq => tg_X11_starts hq) rfl hl.1 Hh ⟨Nat.le_of_ble_eq_true rfl, Nat.le_of_ble_eq_true rfl, Nat.le_of_ble_eq_true rfl, Nat.le_of_ble_eq_true rfl⟩ (Nat.le_of_ble_eq_true rfl) dX11_blame_62 rfl hm (fun h H locs Hh hm => ?_)
        refine lv_aload_n hx hb dX11_blame_65 rfl (lv_at hl 0 rfl) ?_
        refine z_getR C fl_11_34 Hh dX11_blame_66 rfl hm (fun x4 hm => ?_)
        refine z_iconst C dX11_blame_69 ?_
        refine lv_iload hx hb dX11_blame_70 (lv_at hl 6 rfl) ?_
        refine z_imul C dX11_blame_72 ?_
        refine z_iconst C dX11_blame_73 ?_
        refine z_iast C Hh dX11_blame_74 hm (fun h H locs Hh hm => ?_)
        refine lv_aload_n hx hb dX11_blame_75 rfl (lv_at hl 0 rfl) ?_
        refine lv_iload_n hx hb dX11_blame_76 rfl (lv_at hl 3 rfl) ?_
        refine z_cVv (vs := [qI l3]) C (fun q hq => ct_X11_steps l g h l0 l3 q hq) tw_1722 my_X11_steps (fun q hq => tg_X11_steps hq) rfl hl.1 Hh ⟨Nat.le_of_ble_eq_true rfl, Nat.le_of_ble_eq_true rfl, Nat.le_of_ble_eq_true rfl, Nat.le_of_ble_eq_true rfl⟩ (Nat.le_of_ble_eq_true rfl) dX11_blame_77 rfl hm (fun h H locs Hh hm => ?_)
        refine lv_iload hx hb dX11_blame_80 (lv_at hl 5 rfl) ?_
        refine lv_aload_n hx hb dX11_blame_82 rfl (lv_at hl 0 rfl) ?_
        refine lv_iload_n hx hb dX11_blame_83 rfl (lv_at hl 3 rfl) ?_
        refine lv_iload_n hx hb dX11_blame_84 rfl (lv_at hl 1 rfl) ?_
        refine lv_aload_n hx hb dX11_blame_85 rfl (lv_at hl 0 rfl) ?_
        refine lv_iload_n hx hb dX11_blame_86 rfl (lv_at hl 2 rfl) ?_
        refine z_cVIr (vs := [qI l2]) C (fun q hq => ct_X11_placeOf l g h l0 l2 q hq) tw_1702 my_X11_placeOf (fun q hq => tg_X11_placeOf hq) rfl hl.1 Hh ⟨Nat.le_of_ble_eq_true rfl, Nat.le_of_ble_eq_true rfl, Nat.le_of_ble_eq_true rfl, Nat.le_of_ble_eq_true rfl⟩ (Nat.le_of_ble_eq_true rfl) dX11_blame_87 rfl hm (fun x5 H locs Hh hm => ?_)
        refine z_cVIr (vs := [qI l3, qI l1, qI x5]) C (fun q hq => ct_X11_behind l g h l0 l3 l1 x5 q hq) tw_1765 my_X11_behind (fun q hq => tg_X11_behind hq) rfl hl.1 Hh ⟨Nat.le_of_ble_eq_true rfl, Nat.le_of_ble_eq_true rfl, Nat.le_of_ble_eq_true rfl, Nat.le_of_ble_eq_true rfl⟩ (Nat.le_of_ble_eq_true rfl) dX11_blame_90 rfl hm (fun x6 H locs Hh hm => ?_)
        refine lv_iload hx hb dX11_blame_93 (lv_at hl 4 rfl) ?_
        refine z_icmp_eq (tgt := 105) C dX11_blame_95 (by decide) rfl rfl hm (fun _ hm => ?_) (fun _ hm => ?_)
        · refine z_iconst C dX11_blame_105 ?_
          exact K106 h l7 l6 0 _ _ _ Hh (lv_sub hl [0, 1, 2, 3, 4, 6] rfl) hm
        · refine z_iconst C dX11_blame_98 ?_
          refine lv_iload hx hb dX11_blame_99 (lv_at hl 6 rfl) ?_
          refine z_ishl C dX11_blame_101 ?_
          refine lv_goto (tgt := 106) hx hb dX11_blame_102 (by decide) ?_
          exact K106 h l7 l6 (ishl 1 l7) _ _ _ Hh (lv_sub hl [0, 1, 2, 3, 4, 6] rfl) hm
  refine lv_aload_n hx hb dX11_blame_0 rfl (lv_at hl 0 rfl) ?_
  refine z_iconst C dX11_blame_1 ?_
  refine z_putI C hnm pl_11_78 Hh dX11_blame_2 rfl hm (fun h H locs Hh hm => ?_)
  refine lv_aload_n hx hb dX11_blame_5 rfl (lv_at hl 0 rfl) ?_
  refine lv_aload_n hx hb dX11_blame_6 rfl (lv_at hl 0 rfl) ?_
  refine lv_iload_n hx hb dX11_blame_7 rfl (lv_at hl 1 rfl) ?_
  refine lv_iload_n hx hb dX11_blame_8 rfl (lv_at hl 2 rfl) ?_
  refine z_cVIr (vs := [qI l1, qI l2]) C (fun q hq => ct_X11_isPlace l g h l0 l1 l2 q hq) tw_1698 my_X11_isPlace (fun q hq => tg_X11_isPlace hq) rfl hl.1 Hh ⟨Nat.le_of_ble_eq_true rfl, Nat.le_of_ble_eq_true rfl, Nat.le_of_ble_eq_true rfl, Nat.le_of_ble_eq_true rfl⟩ (Nat.le_of_ble_eq_true rfl) dX11_blame_9 rfl hm (fun x7 H locs Hh hm => ?_)
  refine lv_iload_n hx hb dX11_blame_12 rfl (lv_at hl 3 rfl) ?_
  refine z_cVI (vs := [qI x7, qI l3]) C (fun q hq => ct_X11_asks l g h l0 x7 l3 q hq) tw_1714 my_X11_asks (fun q hq => tg_X11_asks hq) rfl hl.1 Hh ⟨Nat.le_of_ble_eq_true rfl, Nat.le_of_ble_eq_true rfl, Nat.le_of_ble_eq_true rfl, Nat.le_of_ble_eq_true rfl⟩ (Nat.le_of_ble_eq_true rfl) dX11_blame_13 rfl hm (fun h x8 H locs Hh hm => ?_)
  refine lv_istore (lv' := [(4, qI x8), (0, qR g l0), (1, qI l1), (2, qI l2), (3, qI l3)]) hx hb dX11_blame_16 hl (by decide) rfl (fun ls hl => ?_)
  refine lv_iload hx hb dX11_blame_18 (lv_at hl 0 rfl) ?_
  refine z_if_le (tgt := 30) C dX11_blame_20 (by decide) rfl hm (fun _ hm => ?_) (fun _ hm => ?_)
  · refine lv_aload_n hx hb dX11_blame_30 rfl (lv_at hl 1 rfl) ?_
    refine lv_iload_n hx hb dX11_blame_31 rfl (lv_at hl 4 rfl) ?_
    refine lv_iload_n hx hb dX11_blame_32 rfl (lv_at hl 2 rfl) ?_
    refine lv_aload_n hx hb dX11_blame_33 rfl (lv_at hl 1 rfl) ?_
    refine lv_iload_n hx hb dX11_blame_34 rfl (lv_at hl 3 rfl) ?_
    refine z_cVIr (vs := [qI l2]) C (fun q hq => ct_X11_placeOf l g h l0 l2 q hq) tw_1702 my_X11_placeOf (fun q hq => tg_X11_placeOf hq) rfl hl.1 Hh ⟨Nat.le_of_ble_eq_true rfl, Nat.le_of_ble_eq_true rfl, Nat.le_of_ble_eq_true rfl, Nat.le_of_ble_eq_true rfl⟩ (Nat.le_of_ble_eq_true rfl) dX11_blame_35 rfl hm (fun x9 H locs Hh hm => ?_)
    refine z_cVIr (vs := [qI l3, qI l1, qI x9]) C (fun q hq => ct_X11_behind l g h l0 l3 l1 x9 q hq) tw_1765 my_X11_behind (fun q hq => tg_X11_behind hq) rfl hl.1 Hh ⟨Nat.le_of_ble_eq_true rfl, Nat.le_of_ble_eq_true rfl, Nat.le_of_ble_eq_true rfl, Nat.le_of_ble_eq_true rfl⟩ (Nat.le_of_ble_eq_true rfl) dX11_blame_38 rfl hm (fun x10 H locs Hh hm => ?_)
    refine lv_istore (lv' := [(5, qI x10), (4, qI x8), (0, qR g l0), (1, qI l1), (2, qI l2), (3, qI l3)]) hx hb dX11_blame_41 hl (by decide) rfl (fun ls hl => ?_)
    refine z_iconst C dX11_blame_43 ?_
    refine lv_istore (lv' := [(6, qI 0), (5, qI x10), (4, qI x8), (0, qR g l0), (1, qI l1), (2, qI l2), (3, qI l3)]) hx hb dX11_blame_44 hl (by decide) rfl (fun ls hl => ?_)
    refine z_iconst C dX11_blame_46 ?_
    refine lv_istore (lv' := [(7, qI 0), (6, qI 0), (5, qI x10), (4, qI x8), (0, qR g l0), (1, qI l1), (2, qI l2), (3, qI l3)]) hx hb dX11_blame_47 hl (by decide) rfl (fun ls hl => ?_)
    exact KL49 FU h l0 l1 l2 l3 x10 0 0 _ _ _ Hh (lv_sub hl [4, 5, 6, 7, 2, 1, 0] rfl) hm
  · refine lv_aload_n hx hb dX11_blame_23 rfl (lv_at hl 1 rfl) ?_
    refine lv_iload hx hb dX11_blame_24 (lv_at hl 0 rfl) ?_
    refine z_cVI (vs := [qI x8]) C (fun q hq => ct_X11_refused l g h l0 x8 q hq) tw_1451 my_X11_refused (fun q hq => tg_X11_refused hq) rfl hl.1 Hh ⟨Nat.le_of_ble_eq_true rfl, Nat.le_of_ble_eq_true rfl, Nat.le_of_ble_eq_true rfl, Nat.le_of_ble_eq_true rfl⟩ (Nat.le_of_ble_eq_true rfl) dX11_blame_26 rfl hm (fun h x11 H locs Hh hm => ?_)
    exact z_iret C hr hlocks Hh dX11_blame_29 hm
theorem tg_X11_loop {h : Hp} {l0 l1 : Int} {r : Hp × Int} (hm : M_X11_loop h l0 l1 = some r) : hT h l0 = 21 := (tk_inv hm).1
set_option maxRecDepth 100000 in
set_option maxHeartbeats 4000000 in
theorem ct_X11_loop (l : Launch) (g : zGeo) (h0 : Hp) (l0 l1 : Int) (r : Hp × Int) (hm : M_X11_loop h0 l0 l1 = some r) : zM l yX11_loop cX11_loop 4 (some .int) 1 21 0 0 g h0 [qR g l0, qI l1] r.1 (some (qI r.2)) := by
  refine z_meth (by decide) (Nat.le_of_ble_eq_true rfl) ?_
  intro p e s m args below meth c H ls C hr hlocks hnm Hh hl
  have C : zC p m c cX11_loop 4 s args RX11 g := C
  have hnm : meth.name = "loop" := hnm
  have hx := C.1.1
  have hb := C.1.2.1
  have hl : lv_has ls 4 [(0, qR g l0), (1, qI l1)] := hl
  unfold M_X11_loop at hm
  replace hm := (tk_inv hm).2
  generalize h0 = h at Hh hm
  have K74 : ∀ (h : Hp) (l0 : Int) (H : Heap) (locs : List Loc) (ls : Array Slot), zH g s h H locs → lv_has ls 4 [(0, qR g l0)] → M_X11_loop_p74 h l0 = some r → W p l e { frames := 1, cells := 0, slots := 0, locals := 21 } s m args below meth c H locs 0 0 (zQ below g r.1 (some (qI r.2)) args s 0 0) (F0 m 74 ls []) := by
    intro h l0  H locs ls Hh hl hm
    unfold M_X11_loop_p74 at hm
    refine lv_aload_n hx hb dX11_loop_74 rfl (lv_at hl 0 rfl) ?_
    refine z_iconst C dX11_loop_75 ?_
    refine z_cVI (vs := [qI 0]) C (fun q hq => ct_X11_good l g h l0 0 q hq) tw_1670 my_X11_good (fun q hq => tg_X11_good hq) rfl hl.1 Hh ⟨Nat.le_of_ble_eq_true rfl, Nat.le_of_ble_eq_true rfl, Nat.le_of_ble_eq_true rfl, Nat.le_of_ble_eq_true rfl⟩ (Nat.le_of_ble_eq_true rfl) dX11_loop_76 rfl hm (fun h x1 H locs Hh hm => ?_)
    exact z_iret C hr hlocks Hh dX11_loop_79 hm
  have KL23 : ∀ (n : Nat) (h : Hp) (l0 l1 l2 l3 : Int) (H : Heap) (locs : List Loc) (ls : Array Slot), zH g s h H locs → lv_has ls 4 [(0, qR g l0), (1, qI l1), (2, qI l2), (3, qI l3)] → M_X11_loop_w23 n h l0 l1 l2 l3 = some r → W p l e { frames := 1, cells := 0, slots := 0, locals := 21 } s m args below meth c H locs 0 0 (zQ below g r.1 (some (qI r.2)) args s 0 0) (F0 m 23 ls []) := by
    intro n
    induction n with
    | zero => intro h l0 l1 l2 l3 H locs ls Hh hl hm; cases hm
    | succ n ih23 =>
      intro h l0 l1 l2 l3 H locs ls Hh hl hm
      obtain ⟨z23, hm, hc23⟩ := wh_inv hm
      have hm : M_X11_loop_b23 h l0 l1 l2 l3 = some z23 := hm
      unfold M_X11_loop_b23 at hm
      refine lv_iload_n hx hb dX11_loop_23 rfl (lv_at hl 3 rfl) ?_
      refine lv_aload_n hx hb dX11_loop_24 rfl (lv_at hl 0 rfl) ?_
      refine z_getR C fl_11_341 Hh dX11_loop_25 rfl hm (fun x2 hm => ?_)
      refine z_getI C fl_11_230 Hh dX11_loop_28 rfl hm (fun x3 hm => ?_)
      refine z_icmp_gt (tgt := 74) C dX11_loop_31 (by decide) rfl rfl hm (fun _ hm => ?_) (fun _ hm => ?_)
      · cases hm
        exact K74 h l0 _ _ _ Hh (lv_sub hl [0] rfl) hc23
      · refine lv_aload_n hx hb dX11_loop_34 rfl (lv_at hl 0 rfl) ?_
        refine z_getR C fl_11_17 Hh dX11_loop_35 rfl hm (fun x4 hm => ?_)
        refine z_sipush C dX11_loop_38 rfl ?_
        refine lv_iload_n hx hb dX11_loop_41 rfl (lv_at hl 2 rfl) ?_
        refine z_iadd C dX11_loop_42 ?_
        refine z_iald C Hh dX11_loop_43 hm (fun x5 hm => ?_)
        refine lv_istore_n (lv' := [(2, qI x5), (0, qR g l0), (1, qI l1), (3, qI l3)]) hx hb dX11_loop_44 rfl hl (by decide) rfl (fun ls hl => ?_)
        refine lv_iload_n hx hb dX11_loop_45 rfl (lv_at hl 0 rfl) ?_
        refine lv_iload_n hx hb dX11_loop_46 rfl (lv_at hl 2 rfl) ?_
        refine z_icmp_ne (tgt := 56) C dX11_loop_47 (by decide) rfl rfl hm (fun _ hm => ?_) (fun _ hm => ?_)
        · refine lv_iload_n hx hb dX11_loop_56 rfl (lv_at hl 0 rfl) ?_
          refine z_bipush C dX11_loop_57 rfl ?_
          refine z_icmp_ne (tgt := 68) C dX11_loop_59 (by decide) rfl lq_m2 hm (fun _ hm => ?_) (fun _ hm => ?_)
          · refine z_iinc (x := l3) (k := 3) (lv' := [(3, qI (l3 + 1)), (2, qI x5), (0, qR g l0), (1, qI l1)]) C dX11_loop_68 hl rfl (by decide) rfl (fun ls hl => ?_)
            refine lv_goto (tgt := 23) hx hb dX11_loop_71 (by decide) ?_
            cases hm
            exact ih23 h l0 l1 x5 (l3 + 1) _ _ _ Hh (lv_sub hl [2, 3, 1, 0] rfl) hc23
          · refine lv_aload_n hx hb dX11_loop_62 rfl (lv_at hl 1 rfl) ?_
            refine z_iconst C dX11_loop_63 ?_
            refine z_cVI (vs := [qI 0]) C (fun q hq => ct_X11_good l g h l0 0 q hq) tw_1670 my_X11_good (fun q hq => tg_X11_good hq) rfl hl.1 Hh ⟨Nat.le_of_ble_eq_true rfl, Nat.le_of_ble_eq_true rfl, Nat.le_of_ble_eq_true rfl, Nat.le_of_ble_eq_true rfl⟩ (Nat.le_of_ble_eq_true rfl) dX11_loop_64 rfl hm (fun h x6 H locs Hh hm => ?_)
            cases hm
            have hm := hc23
            exact z_iret C hr hlocks Hh dX11_loop_67 hm
        · refine lv_aload_n hx hb dX11_loop_50 rfl (lv_at hl 1 rfl) ?_
          refine lv_iload_n hx hb dX11_loop_51 rfl (lv_at hl 3 rfl) ?_
          refine z_cVI (vs := [qI l3]) C (fun q hq => ct_X11_good l g h l0 l3 q hq) tw_1670 my_X11_good (fun q hq => tg_X11_good hq) rfl hl.1 Hh ⟨Nat.le_of_ble_eq_true rfl, Nat.le_of_ble_eq_true rfl, Nat.le_of_ble_eq_true rfl, Nat.le_of_ble_eq_true rfl⟩ (Nat.le_of_ble_eq_true rfl) dX11_loop_52 rfl hm (fun h x7 H locs Hh hm => ?_)
          cases hm
          have hm := hc23
          exact z_iret C hr hlocks Hh dX11_loop_55 hm
  refine lv_aload_n hx hb dX11_loop_0 rfl (lv_at hl 0 rfl) ?_
  refine z_iconst C dX11_loop_1 ?_
  refine z_putI C hnm pl_11_78 Hh dX11_loop_2 rfl hm (fun h H locs Hh hm => ?_)
  refine lv_aload_n hx hb dX11_loop_5 rfl (lv_at hl 0 rfl) ?_
  refine lv_iload_n hx hb dX11_loop_6 rfl (lv_at hl 1 rfl) ?_
  refine z_cVIr (vs := [qI l1]) C (fun q hq => ct_X11_isTown l g h l0 l1 q hq) tw_1686 my_X11_isTown (fun q hq => tg_X11_isTown hq) rfl hl.1 Hh ⟨Nat.le_of_ble_eq_true rfl, Nat.le_of_ble_eq_true rfl, Nat.le_of_ble_eq_true rfl, Nat.le_of_ble_eq_true rfl⟩ (Nat.le_of_ble_eq_true rfl) dX11_loop_7 rfl hm (fun x8 H locs Hh hm => ?_)
  refine z_if_ne (tgt := 19) C dX11_loop_10 (by decide) rfl hm (fun _ hm => ?_) (fun _ hm => ?_)
  · refine lv_iload_n hx hb dX11_loop_19 rfl (lv_at hl 1 rfl) ?_
    refine lv_istore_n (lv' := [(2, qI l1), (0, qR g l0), (1, qI l1)]) hx hb dX11_loop_20 rfl hl (by decide) rfl (fun ls hl => ?_)
    refine z_iconst C dX11_loop_21 ?_
    refine lv_istore_n (lv' := [(3, qI 1), (2, qI l1), (0, qR g l0), (1, qI l1)]) hx hb dX11_loop_22 rfl hl (by decide) rfl (fun ls hl => ?_)
    exact KL23 FU h l0 l1 l1 1 _ _ _ Hh (lv_sub hl [2, 3, 1, 0] rfl) hm
  · refine lv_aload_n hx hb dX11_loop_13 rfl (lv_at hl 0 rfl) ?_
    refine z_iconst C dX11_loop_14 ?_
    refine z_cVI (vs := [qI 1]) C (fun q hq => ct_X11_refused l g h l0 1 q hq) tw_1451 my_X11_refused (fun q hq => tg_X11_refused hq) rfl hl.1 Hh ⟨Nat.le_of_ble_eq_true rfl, Nat.le_of_ble_eq_true rfl, Nat.le_of_ble_eq_true rfl, Nat.le_of_ble_eq_true rfl⟩ (Nat.le_of_ble_eq_true rfl) dX11_loop_15 rfl hm (fun h x9 H locs Hh hm => ?_)
    exact z_iret C hr hlocks Hh dX11_loop_18 hm
theorem tg_X11_depth {h : Hp} {l0 l1 : Int} {r : Hp × Int} (hm : M_X11_depth h l0 l1 = some r) : hT h l0 = 21 := (tk_inv hm).1
set_option maxRecDepth 100000 in
set_option maxHeartbeats 4000000 in
theorem ct_X11_depth (l : Launch) (g : zGeo) (h0 : Hp) (l0 l1 : Int) (r : Hp × Int) (hm : M_X11_depth h0 l0 l1 = some r) : zM l yX11_depth cX11_depth 4 (some .int) 1 21 0 0 g h0 [qR g l0, qI l1] r.1 (some (qI r.2)) := by
  refine z_meth (by decide) (Nat.le_of_ble_eq_true rfl) ?_
  intro p e s m args below meth c H ls C hr hlocks hnm Hh hl
  have C : zC p m c cX11_depth 4 s args RX11 g := C
  have hnm : meth.name = "depth" := hnm
  have hx := C.1.1
  have hb := C.1.2.1
  have hl : lv_has ls 4 [(0, qR g l0), (1, qI l1)] := hl
  unfold M_X11_depth at hm
  replace hm := (tk_inv hm).2
  generalize h0 = h at Hh hm
  have K72 : ∀ (h : Hp) (l0 : Int) (H : Heap) (locs : List Loc) (ls : Array Slot), zH g s h H locs → lv_has ls 4 [(0, qR g l0)] → M_X11_depth_p72 h l0 = some r → W p l e { frames := 1, cells := 0, slots := 0, locals := 21 } s m args below meth c H locs 0 0 (zQ below g r.1 (some (qI r.2)) args s 0 0) (F0 m 72 ls []) := by
    intro h l0  H locs ls Hh hl hm
    unfold M_X11_depth_p72 at hm
    refine lv_aload_n hx hb dX11_depth_72 rfl (lv_at hl 0 rfl) ?_
    refine z_bipush C dX11_depth_73 rfl ?_
    refine z_cVI (vs := [qI (-2)]) C (fun q hq => ct_X11_good l g h l0 (-2) q hq) tw_1670 my_X11_good (fun q hq => tg_X11_good hq) rfl hl.1 Hh ⟨Nat.le_of_ble_eq_true rfl, Nat.le_of_ble_eq_true rfl, Nat.le_of_ble_eq_true rfl, Nat.le_of_ble_eq_true rfl⟩ (Nat.le_of_ble_eq_true rfl) dX11_depth_75 rfl hm (fun h x1 H locs Hh hm => ?_)
    exact z_iret C hr hlocks Hh dX11_depth_78 hm
  have KL23 : ∀ (n : Nat) (h : Hp) (l0 l2 l3 : Int) (H : Heap) (locs : List Loc) (ls : Array Slot), zH g s h H locs → lv_has ls 4 [(0, qR g l0), (2, qI l2), (3, qI l3)] → M_X11_depth_w23 n h l0 l2 l3 = some r → W p l e { frames := 1, cells := 0, slots := 0, locals := 21 } s m args below meth c H locs 0 0 (zQ below g r.1 (some (qI r.2)) args s 0 0) (F0 m 23 ls []) := by
    intro n
    induction n with
    | zero => intro h l0 l2 l3 H locs ls Hh hl hm; cases hm
    | succ n ih23 =>
      intro h l0 l2 l3 H locs ls Hh hl hm
      obtain ⟨z23, hm, hc23⟩ := wh_inv hm
      have hm : M_X11_depth_b23 h l0 l2 l3 = some z23 := hm
      unfold M_X11_depth_b23 at hm
      refine lv_iload_n hx hb dX11_depth_23 rfl (lv_at hl 2 rfl) ?_
      refine lv_aload_n hx hb dX11_depth_24 rfl (lv_at hl 0 rfl) ?_
      refine z_getR C fl_11_341 Hh dX11_depth_25 rfl hm (fun x2 hm => ?_)
      refine z_getI C fl_11_230 Hh dX11_depth_28 rfl hm (fun x3 hm => ?_)
      refine z_icmp_gt (tgt := 72) C dX11_depth_31 (by decide) rfl rfl hm (fun _ hm => ?_) (fun _ hm => ?_)
      · cases hm
        exact K72 h l0 _ _ _ Hh (lv_sub hl [0] rfl) hc23
      · refine lv_aload_n hx hb dX11_depth_34 rfl (lv_at hl 0 rfl) ?_
        refine z_getR C fl_11_17 Hh dX11_depth_35 rfl hm (fun x4 hm => ?_)
        refine z_sipush C dX11_depth_38 rfl ?_
        refine lv_iload_n hx hb dX11_depth_41 rfl (lv_at hl 1 rfl) ?_
        refine z_iadd C dX11_depth_42 ?_
        refine z_iald C Hh dX11_depth_43 hm (fun x5 hm => ?_)
        refine z_bipush C dX11_depth_44 rfl ?_
        refine z_icmp_ne (tgt := 55) C dX11_depth_46 (by decide) rfl lq_m2 hm (fun _ hm => ?_) (fun _ hm => ?_)
        · refine lv_aload_n hx hb dX11_depth_55 rfl (lv_at hl 0 rfl) ?_
          refine z_getR C fl_11_17 Hh dX11_depth_56 rfl hm (fun x6 hm => ?_)
          refine z_sipush C dX11_depth_59 rfl ?_
          refine lv_iload_n hx hb dX11_depth_62 rfl (lv_at hl 1 rfl) ?_
          refine z_iadd C dX11_depth_63 ?_
          refine z_iald C Hh dX11_depth_64 hm (fun x7 hm => ?_)
          refine lv_istore_n (lv' := [(2, qI x7), (0, qR g l0), (3, qI l3)]) hx hb dX11_depth_65 rfl hl (by decide) rfl (fun ls hl => ?_)
          refine z_iinc (x := l3) (k := 2) (lv' := [(3, qI (l3 + 1)), (2, qI x7), (0, qR g l0)]) C dX11_depth_66 hl rfl (by decide) rfl (fun ls hl => ?_)
          refine lv_goto (tgt := 23) hx hb dX11_depth_69 (by decide) ?_
          cases hm
          exact ih23 h l0 x7 (l3 + 1) _ _ _ Hh (lv_sub hl [2, 1, 0] rfl) hc23
        · refine lv_aload_n hx hb dX11_depth_49 rfl (lv_at hl 0 rfl) ?_
          refine lv_iload_n hx hb dX11_depth_50 rfl (lv_at hl 2 rfl) ?_
          refine z_cVI (vs := [qI l3]) C (fun q hq => ct_X11_good l g h l0 l3 q hq) tw_1670 my_X11_good (fun q hq => tg_X11_good hq) rfl hl.1 Hh ⟨Nat.le_of_ble_eq_true rfl, Nat.le_of_ble_eq_true rfl, Nat.le_of_ble_eq_true rfl, Nat.le_of_ble_eq_true rfl⟩ (Nat.le_of_ble_eq_true rfl) dX11_depth_51 rfl hm (fun h x8 H locs Hh hm => ?_)
          cases hm
          have hm := hc23
          exact z_iret C hr hlocks Hh dX11_depth_54 hm
  refine lv_aload_n hx hb dX11_depth_0 rfl (lv_at hl 0 rfl) ?_
  refine z_iconst C dX11_depth_1 ?_
  refine z_putI C hnm pl_11_78 Hh dX11_depth_2 rfl hm (fun h H locs Hh hm => ?_)
  refine lv_aload_n hx hb dX11_depth_5 rfl (lv_at hl 0 rfl) ?_
  refine lv_iload_n hx hb dX11_depth_6 rfl (lv_at hl 1 rfl) ?_
  refine z_cVIr (vs := [qI l1]) C (fun q hq => ct_X11_isTown l g h l0 l1 q hq) tw_1686 my_X11_isTown (fun q hq => tg_X11_isTown hq) rfl hl.1 Hh ⟨Nat.le_of_ble_eq_true rfl, Nat.le_of_ble_eq_true rfl, Nat.le_of_ble_eq_true rfl, Nat.le_of_ble_eq_true rfl⟩ (Nat.le_of_ble_eq_true rfl) dX11_depth_7 rfl hm (fun x9 H locs Hh hm => ?_)
  refine z_if_ne (tgt := 19) C dX11_depth_10 (by decide) rfl hm (fun _ hm => ?_) (fun _ hm => ?_)
  · refine lv_iload_n hx hb dX11_depth_19 rfl (lv_at hl 1 rfl) ?_
    refine lv_istore_n (lv' := [(2, qI l1), (0, qR g l0), (1, qI l1)]) hx hb dX11_depth_20 rfl hl (by decide) rfl (fun ls hl => ?_)
    refine z_iconst C dX11_depth_21 ?_
    refine lv_istore_n (lv' := [(3, qI 0), (2, qI l1), (0, qR g l0), (1, qI l1)]) hx hb dX11_depth_22 rfl hl (by decide) rfl (fun ls hl => ?_)
    exact KL23 FU h l0 l1 0 _ _ _ Hh (lv_sub hl [2, 1, 0] rfl) hm
  · refine lv_aload_n hx hb dX11_depth_13 rfl (lv_at hl 0 rfl) ?_
    refine z_iconst C dX11_depth_14 ?_
    refine z_cVI (vs := [qI 1]) C (fun q hq => ct_X11_refused l g h l0 1 q hq) tw_1451 my_X11_refused (fun q hq => tg_X11_refused hq) rfl hl.1 Hh ⟨Nat.le_of_ble_eq_true rfl, Nat.le_of_ble_eq_true rfl, Nat.le_of_ble_eq_true rfl, Nat.le_of_ble_eq_true rfl⟩ (Nat.le_of_ble_eq_true rfl) dX11_depth_15 rfl hm (fun h x10 H locs Hh hm => ?_)
    exact z_iret C hr hlocks Hh dX11_depth_18 hm
theorem tg_X11_hangsBy {h : Hp} {l0 l1 l2 : Int} {r : Hp} (hm : M_X11_hangsBy h l0 l1 l2 = some r) : hT h l0 = 21 := (tk_inv hm).1
set_option maxRecDepth 100000 in
set_option maxHeartbeats 4000000 in
theorem ct_X11_hangsBy (l : Launch) (g : zGeo) (h0 : Hp) (l0 l1 l2 : Int) (r : Hp) (hm : M_X11_hangsBy h0 l0 l1 l2 = some r) : zM l yX11_hangsBy cX11_hangsBy 5 none 2 48 0 0 g h0 [qR g l0, qI l1, qI l2] r none := by
  refine z_meth (by decide) (Nat.le_of_ble_eq_true rfl) ?_
  intro p e s m args below meth c H ls C hr hlocks hnm Hh hl
  have C : zC p m c cX11_hangsBy 5 s args RX11 g := C
  have hnm : meth.name = "hangsBy" := hnm
  have hx := C.1.1
  have hb := C.1.2.1
  have hl : lv_has ls 5 [(0, qR g l0), (1, qI l1), (2, qI l2)] := hl
  unfold M_X11_hangsBy at hm
  replace hm := (tk_inv hm).2
  generalize h0 = h at Hh hm
  have K103 : ∀ (h : Hp) (H : Heap) (locs : List Loc) (ls : Array Slot), zH g s h H locs → lv_has ls 5 [] → M_X11_hangsBy_p103 h = some r → W p l e { frames := 2, cells := 0, slots := 0, locals := 48 } s m args below meth c H locs 0 0 (zQ below g r none args s 0 0) (F0 m 103 ls []) := by
    intro h  H locs ls Hh hl hm
    unfold M_X11_hangsBy_p103 at hm
    exact z_vret C hr hlocks Hh dX11_hangsBy_103 hm
  have KL65 : ∀ (n : Nat) (h : Hp) (l0 l2 l3 l4 : Int) (H : Heap) (locs : List Loc) (ls : Array Slot), zH g s h H locs → lv_has ls 5 [(0, qR g l0), (2, qI l2), (3, qI l3), (4, qI l4)] → M_X11_hangsBy_w65 n h l0 l2 l3 l4 = some r → W p l e { frames := 2, cells := 0, slots := 0, locals := 48 } s m args below meth c H locs 0 0 (zQ below g r none args s 0 0) (F0 m 65 ls []) := by
    intro n
    induction n with
    | zero => intro h l0 l2 l3 l4 H locs ls Hh hl hm; cases hm
    | succ n ih65 =>
      intro h l0 l2 l3 l4 H locs ls Hh hl hm
      obtain ⟨z65, hm, hc65⟩ := wh_inv hm
      have hm : M_X11_hangsBy_b65 h l0 l2 l3 l4 = some z65 := hm
      have K97 : ∀ (h : Hp) (l4 : Int) (H : Heap) (locs : List Loc) (ls : Array Slot), zH g s h H locs → lv_has ls 5 [(0, qR g l0), (2, qI l2), (3, qI l3), (4, qI l4)] → M_X11_hangsBy_p97 h l0 l2 l3 l4 = some z65 → W p l e { frames := 2, cells := 0, slots := 0, locals := 48 } s m args below meth c H locs 0 0 (zQ below g r none args s 0 0) (F0 m 97 ls []) := by
        intro h l4  H locs ls Hh hl hm
        unfold M_X11_hangsBy_p97 at hm
        refine z_iinc (x := l4) (k := 3) (lv' := [(4, qI (l4 + 1)), (0, qR g l0), (2, qI l2), (3, qI l3)]) C dX11_hangsBy_97 hl rfl (by decide) rfl (fun ls hl => ?_)
        refine lv_goto (tgt := 65) hx hb dX11_hangsBy_100 (by decide) ?_
        cases hm
        exact ih65 h l0 l2 l3 (l4 + 1) _ _ _ Hh (lv_sub hl [1, 2, 3, 0] rfl) hc65
      unfold M_X11_hangsBy_b65 at hm
      refine lv_iload hx hb dX11_hangsBy_65 (lv_at hl 3 rfl) ?_
      refine z_iconst C dX11_hangsBy_67 ?_
      refine z_icmp_ge (tgt := 103) C dX11_hangsBy_68 (by decide) rfl lq_p4 hm (fun _ hm => ?_) (fun _ hm => ?_)
      · cases hm
        exact K103 h _ _ _ Hh (lv_sub hl [] rfl) hc65
      · refine lv_aload_n hx hb dX11_hangsBy_71 rfl (lv_at hl 0 rfl) ?_
        refine lv_iload_n hx hb dX11_hangsBy_72 rfl (lv_at hl 1 rfl) ?_
        refine lv_iload hx hb dX11_hangsBy_73 (lv_at hl 3 rfl) ?_
        refine z_cVIr (vs := [qI l2, qI l4]) C (fun q hq => ct_X11_beside l g h l0 l2 l4 q hq) tw_1758 my_X11_beside (fun q hq => tg_X11_beside hq) rfl hl.1 Hh ⟨Nat.le_of_ble_eq_true rfl, Nat.le_of_ble_eq_true rfl, Nat.le_of_ble_eq_true rfl, Nat.le_of_ble_eq_true rfl⟩ (Nat.le_of_ble_eq_true rfl) dX11_hangsBy_75 rfl hm (fun x1 H locs Hh hm => ?_)
        refine z_iconst C dX11_hangsBy_78 ?_
        refine z_icmp_eq (tgt := 97) C dX11_hangsBy_79 (by decide) rfl lq_m1 hm (fun _ hm => ?_) (fun _ hm => ?_)
        · exact K97 h l4 _ _ _ Hh (lv_sub hl [0, 1, 2, 3] rfl) hm
        · refine lv_aload_n hx hb dX11_hangsBy_82 rfl (lv_at hl 0 rfl) ?_
          refine z_getR C fl_11_60 Hh dX11_hangsBy_83 rfl hm (fun x2 hm => ?_)
          refine lv_iload_n hx hb dX11_hangsBy_86 rfl (lv_at hl 2 rfl) ?_
          refine lv_aload_n hx hb dX11_hangsBy_87 rfl (lv_at hl 0 rfl) ?_
          refine lv_iload_n hx hb dX11_hangsBy_88 rfl (lv_at hl 1 rfl) ?_
          refine lv_iload hx hb dX11_hangsBy_89 (lv_at hl 3 rfl) ?_
          refine z_cVIr (vs := [qI l2, qI l4]) C (fun q hq => ct_X11_beside l g h l0 l2 l4 q hq) tw_1758 my_X11_beside (fun q hq => tg_X11_beside hq) rfl hl.1 Hh ⟨Nat.le_of_ble_eq_true rfl, Nat.le_of_ble_eq_true rfl, Nat.le_of_ble_eq_true rfl, Nat.le_of_ble_eq_true rfl⟩ (Nat.le_of_ble_eq_true rfl) dX11_hangsBy_91 rfl hm (fun x3 H locs Hh hm => ?_)
          refine z_iadd C dX11_hangsBy_94 ?_
          refine z_iconst C dX11_hangsBy_95 ?_
          refine z_zast C Hh dX11_hangsBy_96 hm (fun h H locs Hh hm => ?_)
          exact K97 h l4 _ _ _ Hh (lv_sub hl [0, 1, 2, 3] rfl) hm
  refine lv_aload_n hx hb dX11_hangsBy_0 rfl (lv_at hl 0 rfl) ?_
  refine z_getR C fl_11_31 Hh dX11_hangsBy_1 rfl hm (fun x4 hm => ?_)
  refine lv_iload_n hx hb dX11_hangsBy_4 rfl (lv_at hl 1 rfl) ?_
  refine z_iald C Hh dX11_hangsBy_5 hm (fun x5 hm => ?_)
  refine z_bipush C dX11_hangsBy_6 rfl ?_
  refine z_icmp_ne (tgt := 24) C dX11_hangsBy_8 (by decide) rfl lq_m2 hm (fun _ hm => ?_) (fun _ hm => ?_)
  · refine z_bipush C dX11_hangsBy_24 rfl ?_
    refine lv_aload_n hx hb dX11_hangsBy_26 rfl (lv_at hl 0 rfl) ?_
    refine z_getR C fl_11_31 Hh dX11_hangsBy_27 rfl hm (fun x6 hm => ?_)
    refine lv_iload_n hx hb dX11_hangsBy_30 rfl (lv_at hl 1 rfl) ?_
    refine z_iald C Hh dX11_hangsBy_31 hm (fun x7 hm => ?_)
    refine z_imul C dX11_hangsBy_32 ?_
    refine lv_istore_n (lv' := [(3, qI (36 * x7)), (0, qR g l0), (1, qI l1), (2, qI l2)]) hx hb dX11_hangsBy_33 rfl hl (by decide) rfl (fun ls hl => ?_)
    refine lv_aload_n hx hb dX11_hangsBy_34 rfl (lv_at hl 1 rfl) ?_
    refine z_getR C fl_11_60 Hh dX11_hangsBy_35 rfl hm (fun x8 hm => ?_)
    refine lv_iload_n hx hb dX11_hangsBy_38 rfl (lv_at hl 0 rfl) ?_
    refine lv_aload_n hx hb dX11_hangsBy_39 rfl (lv_at hl 1 rfl) ?_
    refine lv_iload_n hx hb dX11_hangsBy_40 rfl (lv_at hl 2 rfl) ?_
    refine lv_iload_n hx hb dX11_hangsBy_41 rfl (lv_at hl 3 rfl) ?_
    refine z_cVIr (vs := [qI l1, qI l2]) C (fun q hq => ct_X11_from l g h l0 l1 l2 q hq) tw_1738 my_X11_from (fun q hq => tg_X11_from hq) rfl hl.1 Hh ⟨Nat.le_of_ble_eq_true rfl, Nat.le_of_ble_eq_true rfl, Nat.le_of_ble_eq_true rfl, Nat.le_of_ble_eq_true rfl⟩ (Nat.le_of_ble_eq_true rfl) dX11_hangsBy_42 rfl hm (fun x9 H locs Hh hm => ?_)
    refine z_iadd C dX11_hangsBy_45 ?_
    refine z_iconst C dX11_hangsBy_46 ?_
    refine z_zast C Hh dX11_hangsBy_47 hm (fun h H locs Hh hm => ?_)
    refine lv_aload_n hx hb dX11_hangsBy_48 rfl (lv_at hl 1 rfl) ?_
    refine z_getR C fl_11_34 Hh dX11_hangsBy_49 rfl hm (fun x10 hm => ?_)
    refine z_iconst C dX11_hangsBy_52 ?_
    refine lv_iload_n hx hb dX11_hangsBy_53 rfl (lv_at hl 2 rfl) ?_
    refine z_imul C dX11_hangsBy_54 ?_
    refine z_iald C Hh dX11_hangsBy_55 hm (fun x11 hm => ?_)
    refine z_bipush C dX11_hangsBy_56 rfl ?_
    refine z_icmp_eq (tgt := 62) C dX11_hangsBy_58 (by decide) rfl lq_p6 hm (fun _ hm => ?_) (fun _ hm => ?_)
    · refine z_iconst C dX11_hangsBy_62 ?_
      refine lv_istore (lv' := [(4, qI 0), (3, qI (36 * x7)), (0, qR g l0), (1, qI l1), (2, qI l2)]) hx hb dX11_hangsBy_63 hl (by decide) rfl (fun ls hl => ?_)
      exact KL65 FU h l0 l2 (36 * x7) 0 _ _ _ Hh (lv_sub hl [2, 4, 1, 0] rfl) hm
    · exact z_vret C hr hlocks Hh dX11_hangsBy_61 hm
  · refine lv_aload_n hx hb dX11_hangsBy_11 rfl (lv_at hl 0 rfl) ?_
    refine z_getR C fl_11_60 Hh dX11_hangsBy_12 rfl hm (fun x12 hm => ?_)
    refine z_bipush C dX11_hangsBy_15 rfl ?_
    refine lv_iload_n hx hb dX11_hangsBy_17 rfl (lv_at hl 1 rfl) ?_
    refine z_imul C dX11_hangsBy_18 ?_
    refine lv_iload_n hx hb dX11_hangsBy_19 rfl (lv_at hl 2 rfl) ?_
    refine z_iadd C dX11_hangsBy_20 ?_
    refine z_iconst C dX11_hangsBy_21 ?_
    refine z_zast C Hh dX11_hangsBy_22 hm (fun h H locs Hh hm => ?_)
    exact z_vret C hr hlocks Hh dX11_hangsBy_23 hm
theorem tg_X11_laysBears {h : Hp} {l0 l1 l2 l3 l4 : Int} {r : Hp} (hm : M_X11_laysBears h l0 l1 l2 l3 l4 = some r) : hT h l0 = 21 := (tk_inv hm).1
set_option maxRecDepth 100000 in
set_option maxHeartbeats 4000000 in
theorem ct_X11_laysBears (l : Launch) (g : zGeo) (h0 : Hp) (l0 l1 l2 l3 l4 : Int) (r : Hp) (hm : M_X11_laysBears h0 l0 l1 l2 l3 l4 = some r) : zM l yX11_laysBears cX11_laysBears 8 none 3 72 0 0 g h0 [qR g l0, qI l1, qI l2, qI l3, qI l4] r none := by
  refine z_meth (by decide) (Nat.le_of_ble_eq_true rfl) ?_
  intro p e s m args below meth c H ls C hr hlocks hnm Hh hl
  have C : zC p m c cX11_laysBears 8 s args RX11 g := C
  have hnm : meth.name = "laysBears" := hnm
  have hx := C.1.1
  have hb := C.1.2.1
  have hl : lv_has ls 8 [(0, qR g l0), (1, qI l1), (2, qI l2), (3, qI l3), (4, qI l4)] := hl
  unfold M_X11_laysBears at hm
  replace hm := (tk_inv hm).2
  generalize h0 = h at Hh hm
  have K256 : ∀ (h : Hp) (H : Heap) (locs : List Loc) (ls : Array Slot), zH g s h H locs → lv_has ls 8 [] → M_X11_laysBears_p256 h = some r → W p l e { frames := 3, cells := 0, slots := 0, locals := 72 } s m args below meth c H locs 0 0 (zQ below g r none args s 0 0) (F0 m 256 ls []) := by
    intro h  H locs ls Hh hl hm
    unfold M_X11_laysBears_p256 at hm
    exact z_vret C hr hlocks Hh dX11_laysBears_256 hm
  have KL166 : ∀ (n : Nat) (h : Hp) (l0 l1 l5 : Int) (H : Heap) (locs : List Loc) (ls : Array Slot), zH g s h H locs → lv_has ls 8 [(0, qR g l0), (1, qI l1), (5, qI l5)] → M_X11_laysBears_w166 n h l0 l1 l5 = some r → W p l e { frames := 3, cells := 0, slots := 0, locals := 72 } s m args below meth c H locs 0 0 (zQ below g r none args s 0 0) (F0 m 166 ls []) := by
    intro n
    induction n with
    | zero => intro h l0 l1 l5 H locs ls Hh hl hm; cases hm
    | succ n ih166 =>
      intro h l0 l1 l5 H locs ls Hh hl hm
      obtain ⟨z166, hm, hc166⟩ := wh_inv hm
      have hm : M_X11_laysBears_b166 h l0 l1 l5 = some z166 := hm
      have K250 : ∀ (h : Hp) (l5 : Int) (H : Heap) (locs : List Loc) (ls : Array Slot), zH g s h H locs → lv_has ls 8 [(0, qR g l0), (1, qI l1), (5, qI l5)] → M_X11_laysBears_p250 h l0 l1 l5 = some z166 → W p l e { frames := 3, cells := 0, slots := 0, locals := 72 } s m args below meth c H locs 0 0 (zQ below g r none args s 0 0) (F0 m 250 ls []) := by
        intro h l5  H locs ls Hh hl hm
        unfold M_X11_laysBears_p250 at hm
        refine z_iinc (x := l5) (k := 2) (lv' := [(5, qI (l5 + 1)), (0, qR g l0), (1, qI l1)]) C dX11_laysBears_250 hl rfl (by decide) rfl (fun ls hl => ?_)
        refine lv_goto (tgt := 166) hx hb dX11_laysBears_253 (by decide) ?_
        cases hm
        exact ih166 h l0 l1 (l5 + 1) _ _ _ Hh (lv_sub hl [1, 2, 0] rfl) hc166
      have KL181 : ∀ (n : Nat) (h : Hp) (l5 l6 : Int) (H : Heap) (locs : List Loc) (ls : Array Slot), zH g s h H locs → lv_has ls 8 [(0, qR g l0), (1, qI l1), (5, qI l5), (6, qI l6)] → M_X11_laysBears_w181 n h l0 l1 l5 l6 = some z166 → W p l e { frames := 3, cells := 0, slots := 0, locals := 72 } s m args below meth c H locs 0 0 (zQ below g r none args s 0 0) (F0 m 181 ls []) := by
        intro n
        induction n with
        | zero => intro h l5 l6 H locs ls Hh hl hm; cases hm
        | succ n ih181 =>
          intro h l5 l6 H locs ls Hh hl hm
          obtain ⟨z181, hm, hc181⟩ := wh_inv hm
          have hm : M_X11_laysBears_b181 h l0 l1 l5 l6 = some z181 := hm
          have K244 : ∀ (h : Hp) (l6 : Int) (H : Heap) (locs : List Loc) (ls : Array Slot), zH g s h H locs → lv_has ls 8 [(0, qR g l0), (1, qI l1), (5, qI l5), (6, qI l6)] → M_X11_laysBears_p244 h l0 l1 l5 l6 = some z181 → W p l e { frames := 3, cells := 0, slots := 0, locals := 72 } s m args below meth c H locs 0 0 (zQ below g r none args s 0 0) (F0 m 244 ls []) := by
            intro h l6  H locs ls Hh hl hm
            unfold M_X11_laysBears_p244 at hm
            refine z_iinc (x := l6) (k := 3) (lv' := [(6, qI (l6 + 1)), (0, qR g l0), (1, qI l1), (5, qI l5)]) C dX11_laysBears_244 hl rfl (by decide) rfl (fun ls hl => ?_)
            refine lv_goto (tgt := 181) hx hb dX11_laysBears_247 (by decide) ?_
            cases hm
            exact ih181 h l5 (l6 + 1) _ _ _ Hh (lv_sub hl [1, 2, 3, 0] rfl) hc181
          unfold M_X11_laysBears_b181 at hm
          refine lv_iload hx hb dX11_laysBears_181 (lv_at hl 3 rfl) ?_
          refine lv_aload_n hx hb dX11_laysBears_183 rfl (lv_at hl 0 rfl) ?_
          refine z_getR C fl_11_341 Hh dX11_laysBears_184 rfl hm (fun x1 hm => ?_)
          refine z_getI C fl_11_256 Hh dX11_laysBears_187 rfl hm (fun x2 hm => ?_)
          refine z_icmp_ge (tgt := 250) C dX11_laysBears_190 (by decide) rfl rfl hm (fun _ hm => ?_) (fun _ hm => ?_)
          · cases hm
            exact K250 h l5 _ _ _ Hh (lv_sub hl [0, 1, 2] rfl) hc181
          · refine lv_aload_n hx hb dX11_laysBears_193 rfl (lv_at hl 0 rfl) ?_
            refine z_getR C fl_11_60 Hh dX11_laysBears_194 rfl hm (fun x3 hm => ?_)
            refine z_bipush C dX11_laysBears_197 rfl ?_
            refine lv_iload_n hx hb dX11_laysBears_199 rfl (lv_at hl 1 rfl) ?_
            refine z_imul C dX11_laysBears_200 ?_
            refine lv_aload_n hx hb dX11_laysBears_201 rfl (lv_at hl 0 rfl) ?_
            refine lv_iload hx hb dX11_laysBears_202 (lv_at hl 2 rfl) ?_
            refine lv_iload hx hb dX11_laysBears_204 (lv_at hl 3 rfl) ?_
            refine z_cVIr (vs := [qI l5, qI l6]) C (fun q hq => ct_X11_at l g h l0 l5 l6 q hq) tw_1750 my_X11_at (fun q hq => tg_X11_at hq) rfl hl.1 Hh ⟨Nat.le_of_ble_eq_true rfl, Nat.le_of_ble_eq_true rfl, Nat.le_of_ble_eq_true rfl, Nat.le_of_ble_eq_true rfl⟩ (Nat.le_of_ble_eq_true rfl) dX11_laysBears_206 rfl hm (fun x4 H locs Hh hm => ?_)
            refine z_iadd C dX11_laysBears_209 ?_
            refine z_zald C Hh dX11_laysBears_210 hm (fun x5 hm => ?_)
            refine z_if_ne (tgt := 217) C dX11_laysBears_211 (by decide) rfl hm (fun _ hm => ?_) (fun _ hm => ?_)
            · refine lv_aload_n hx hb dX11_laysBears_217 rfl (lv_at hl 0 rfl) ?_
              refine z_getR C fl_11_51 Hh dX11_laysBears_218 rfl hm (fun x6 hm => ?_)
              refine lv_aload_n hx hb dX11_laysBears_221 rfl (lv_at hl 0 rfl) ?_
              refine z_getI C fl_11_442 Hh dX11_laysBears_222 rfl hm (fun x7 hm => ?_)
              refine lv_aload_n hx hb dX11_laysBears_225 rfl (lv_at hl 0 rfl) ?_
              refine lv_iload hx hb dX11_laysBears_226 (lv_at hl 2 rfl) ?_
              refine lv_iload hx hb dX11_laysBears_228 (lv_at hl 3 rfl) ?_
              refine z_cVIr (vs := [qI l5, qI l6]) C (fun q hq => ct_X11_at l g h l0 l5 l6 q hq) tw_1750 my_X11_at (fun q hq => tg_X11_at hq) rfl hl.1 Hh ⟨Nat.le_of_ble_eq_true rfl, Nat.le_of_ble_eq_true rfl, Nat.le_of_ble_eq_true rfl, Nat.le_of_ble_eq_true rfl⟩ (Nat.le_of_ble_eq_true rfl) dX11_laysBears_230 rfl hm (fun x8 H locs Hh hm => ?_)
              refine z_iast C Hh dX11_laysBears_233 hm (fun h H locs Hh hm => ?_)
              refine lv_aload_n hx hb dX11_laysBears_234 rfl (lv_at hl 0 rfl) ?_
              refine lv_dup hx hb dX11_laysBears_235 rfl ?_
              refine z_getI C fl_11_442 Hh dX11_laysBears_236 rfl hm (fun x9 hm => ?_)
              refine z_iconst C dX11_laysBears_239 ?_
              refine z_iadd C dX11_laysBears_240 ?_
              refine z_putI C hnm pl_11_442 Hh dX11_laysBears_241 rfl hm (fun h H locs Hh hm => ?_)
              exact K244 h l6 _ _ _ Hh (lv_sub hl [0, 1, 2, 3] rfl) hm
            · refine lv_goto (tgt := 244) hx hb dX11_laysBears_214 (by decide) ?_
              exact K244 h l6 _ _ _ Hh (lv_sub hl [0, 1, 2, 3] rfl) hm
      unfold M_X11_laysBears_b166 at hm
      refine lv_iload hx hb dX11_laysBears_166 (lv_at hl 2 rfl) ?_
      refine lv_aload_n hx hb dX11_laysBears_168 rfl (lv_at hl 0 rfl) ?_
      refine z_getR C fl_11_341 Hh dX11_laysBears_169 rfl hm (fun x10 hm => ?_)
      refine z_getI C fl_11_194 Hh dX11_laysBears_172 rfl hm (fun x11 hm => ?_)
      refine z_icmp_ge (tgt := 256) C dX11_laysBears_175 (by decide) rfl rfl hm (fun _ hm => ?_) (fun _ hm => ?_)
      · cases hm
        exact K256 h _ _ _ Hh (lv_sub hl [] rfl) hc166
      · refine z_iconst C dX11_laysBears_178 ?_
        refine lv_istore (lv' := [(6, qI 0), (0, qR g l0), (1, qI l1), (5, qI l5)]) hx hb dX11_laysBears_179 hl (by decide) rfl (fun ls hl => ?_)
        exact KL181 FU h l5 0 _ _ _ Hh (lv_sub hl [1, 2, 3, 0] rfl) hm
  have K158 : ∀ (h : Hp) (l0 l1 : Int) (H : Heap) (locs : List Loc) (ls : Array Slot), zH g s h H locs → lv_has ls 8 [(0, qR g l0), (1, qI l1)] → M_X11_laysBears_p158 h l0 l1 = some r → W p l e { frames := 3, cells := 0, slots := 0, locals := 72 } s m args below meth c H locs 0 0 (zQ below g r none args s 0 0) (F0 m 158 ls []) := by
    intro h l0 l1  H locs ls Hh hl hm
    unfold M_X11_laysBears_p158 at hm
    refine lv_aload_n hx hb dX11_laysBears_158 rfl (lv_at hl 0 rfl) ?_
    refine z_iconst C dX11_laysBears_159 ?_
    refine z_putI C hnm pl_11_442 Hh dX11_laysBears_160 rfl hm (fun h H locs Hh hm => ?_)
    refine z_iconst C dX11_laysBears_163 ?_
    refine lv_istore (lv' := [(5, qI 0), (0, qR g l0), (1, qI l1)]) hx hb dX11_laysBears_164 hl (by decide) rfl (fun ls hl => ?_)
    exact KL166 FU h l0 l1 0 _ _ _ Hh (lv_sub hl [1, 2, 0] rfl) hm
  have KL40 : ∀ (n : Nat) (h : Hp) (l0 l1 l4 l5 : Int) (H : Heap) (locs : List Loc) (ls : Array Slot), zH g s h H locs → lv_has ls 8 [(0, qR g l0), (1, qI l1), (4, qI l4), (5, qI l5)] → M_X11_laysBears_w40 n h l0 l1 l4 l5 = some r → W p l e { frames := 3, cells := 0, slots := 0, locals := 72 } s m args below meth c H locs 0 0 (zQ below g r none args s 0 0) (F0 m 40 ls []) := by
    intro n
    induction n with
    | zero => intro h l0 l1 l4 l5 H locs ls Hh hl hm; cases hm
    | succ n ih40 =>
      intro h l0 l1 l4 l5 H locs ls Hh hl hm
      obtain ⟨z40, hm, hc40⟩ := wh_inv hm
      have hm : M_X11_laysBears_b40 h l0 l1 l4 l5 = some z40 := hm
      have K152 : ∀ (h : Hp) (l5 : Int) (H : Heap) (locs : List Loc) (ls : Array Slot), zH g s h H locs → lv_has ls 8 [(0, qR g l0), (1, qI l1), (4, qI l4), (5, qI l5)] → M_X11_laysBears_p152 h l0 l1 l4 l5 = some z40 → W p l e { frames := 3, cells := 0, slots := 0, locals := 72 } s m args below meth c H locs 0 0 (zQ below g r none args s 0 0) (F0 m 152 ls []) := by
        intro h l5  H locs ls Hh hl hm
        unfold M_X11_laysBears_p152 at hm
        refine z_iinc (x := l5) (k := 3) (lv' := [(5, qI (l5 + 1)), (0, qR g l0), (1, qI l1), (4, qI l4)]) C dX11_laysBears_152 hl rfl (by decide) rfl (fun ls hl => ?_)
        refine lv_goto (tgt := 40) hx hb dX11_laysBears_155 (by decide) ?_
        cases hm
        exact ih40 h l0 l1 l4 (l5 + 1) _ _ _ Hh (lv_sub hl [1, 2, 3, 0] rfl) hc40
      have KL89 : ∀ (n : Nat) (h : Hp) (l5 l6 : Int) (H : Heap) (locs : List Loc) (ls : Array Slot), zH g s h H locs → lv_has ls 8 [(0, qR g l0), (1, qI l1), (4, qI l4), (5, qI l5), (6, qI l6)] → M_X11_laysBears_w89 n h l0 l1 l4 l5 l6 = some z40 → W p l e { frames := 3, cells := 0, slots := 0, locals := 72 } s m args below meth c H locs 0 0 (zQ below g r none args s 0 0) (F0 m 89 ls []) := by
        intro n
        induction n with
        | zero => intro h l5 l6 H locs ls Hh hl hm; cases hm
        | succ n ih89 =>
          intro h l5 l6 H locs ls Hh hl hm
          obtain ⟨z89, hm, hc89⟩ := wh_inv hm
          have hm : M_X11_laysBears_b89 h l0 l1 l4 l5 l6 = some z89 := hm
          have K146 : ∀ (h : Hp) (l6 : Int) (H : Heap) (locs : List Loc) (ls : Array Slot), zH g s h H locs → lv_has ls 8 [(0, qR g l0), (1, qI l1), (4, qI l4), (5, qI l5), (6, qI l6)] → M_X11_laysBears_p146 h l0 l1 l4 l5 l6 = some z89 → W p l e { frames := 3, cells := 0, slots := 0, locals := 72 } s m args below meth c H locs 0 0 (zQ below g r none args s 0 0) (F0 m 146 ls []) := by
            intro h l6  H locs ls Hh hl hm
            unfold M_X11_laysBears_p146 at hm
            refine z_iinc (x := l6) (k := 4) (lv' := [(6, qI (l6 + 1)), (0, qR g l0), (1, qI l1), (4, qI l4), (5, qI l5)]) C dX11_laysBears_146 hl rfl (by decide) rfl (fun ls hl => ?_)
            refine lv_goto (tgt := 89) hx hb dX11_laysBears_149 (by decide) ?_
            cases hm
            exact ih89 h l5 (l6 + 1) _ _ _ Hh (lv_sub hl [1, 2, 3, 4, 0] rfl) hc89
          have KL104 : ∀ (n : Nat) (h : Hp) (l6 l7 : Int) (H : Heap) (locs : List Loc) (ls : Array Slot), zH g s h H locs → lv_has ls 8 [(0, qR g l0), (1, qI l1), (4, qI l4), (5, qI l5), (6, qI l6), (7, qI l7)] → M_X11_laysBears_w104 n h l0 l1 l4 l5 l6 l7 = some z89 → W p l e { frames := 3, cells := 0, slots := 0, locals := 72 } s m args below meth c H locs 0 0 (zQ below g r none args s 0 0) (F0 m 104 ls []) := by
            intro n
            induction n with
            | zero => intro h l6 l7 H locs ls Hh hl hm; cases hm
            | succ n ih104 =>
              intro h l6 l7 H locs ls Hh hl hm
              obtain ⟨z104, hm, hc104⟩ := wh_inv hm
              have hm : M_X11_laysBears_b104 h l0 l1 l4 l5 l6 l7 = some z104 := hm
              have K140 : ∀ (h : Hp) (l7 : Int) (H : Heap) (locs : List Loc) (ls : Array Slot), zH g s h H locs → lv_has ls 8 [(0, qR g l0), (1, qI l1), (4, qI l4), (5, qI l5), (6, qI l6), (7, qI l7)] → M_X11_laysBears_p140 h l0 l1 l4 l5 l6 l7 = some z104 → W p l e { frames := 3, cells := 0, slots := 0, locals := 72 } s m args below meth c H locs 0 0 (zQ below g r none args s 0 0) (F0 m 140 ls []) := by
                intro h l7  H locs ls Hh hl hm
                unfold M_X11_laysBears_p140 at hm
                refine z_iinc (x := l7) (k := 5) (lv' := [(7, qI (l7 + 1)), (0, qR g l0), (1, qI l1), (4, qI l4), (5, qI l5), (6, qI l6)]) C dX11_laysBears_140 hl rfl (by decide) rfl (fun ls hl => ?_)
                refine lv_goto (tgt := 104) hx hb dX11_laysBears_143 (by decide) ?_
                cases hm
                exact ih104 h l6 (l7 + 1) _ _ _ Hh (lv_sub hl [1, 2, 3, 4, 5, 0] rfl) hc104
              unfold M_X11_laysBears_b104 at hm
              refine lv_iload hx hb dX11_laysBears_104 (lv_at hl 5 rfl) ?_
              refine lv_aload_n hx hb dX11_laysBears_106 rfl (lv_at hl 0 rfl) ?_
              refine z_getR C fl_11_341 Hh dX11_laysBears_107 rfl hm (fun x12 hm => ?_)
              refine z_cVIr (vs := []) C (fun q hq => ct_X10_all l g h x12 q hq) tw_1730 my_X10_all (fun q hq => tg_X10_all hq) rfl hl.1 Hh ⟨Nat.le_of_ble_eq_true rfl, Nat.le_of_ble_eq_true rfl, Nat.le_of_ble_eq_true rfl, Nat.le_of_ble_eq_true rfl⟩ (Nat.le_of_ble_eq_true rfl) dX11_laysBears_110 rfl hm (fun x13 H locs Hh hm => ?_)
              refine z_icmp_ge (tgt := 146) C dX11_laysBears_113 (by decide) rfl rfl hm (fun _ hm => ?_) (fun _ hm => ?_)
              · cases hm
                exact K146 h l6 _ _ _ Hh (lv_sub hl [0, 1, 2, 3, 4] rfl) hc104
              · refine lv_aload_n hx hb dX11_laysBears_116 rfl (lv_at hl 0 rfl) ?_
                refine z_getR C fl_11_63 Hh dX11_laysBears_117 rfl hm (fun x14 hm => ?_)
                refine z_bipush C dX11_laysBears_120 rfl ?_
                refine lv_iload hx hb dX11_laysBears_122 (lv_at hl 4 rfl) ?_
                refine z_imul C dX11_laysBears_124 ?_
                refine lv_iload hx hb dX11_laysBears_125 (lv_at hl 5 rfl) ?_
                refine z_iadd C dX11_laysBears_127 ?_
                refine z_zald C Hh dX11_laysBears_128 hm (fun x15 hm => ?_)
                refine z_if_eq (tgt := 140) C dX11_laysBears_129 (by decide) rfl hm (fun _ hm => ?_) (fun _ hm => ?_)
                · exact K140 h l7 _ _ _ Hh (lv_sub hl [0, 1, 2, 3, 4, 5] rfl) hm
                · refine lv_aload_n hx hb dX11_laysBears_132 rfl (lv_at hl 0 rfl) ?_
                  refine lv_iload hx hb dX11_laysBears_133 (lv_at hl 4 rfl) ?_
                  refine lv_iload hx hb dX11_laysBears_135 (lv_at hl 5 rfl) ?_
                  refine z_cVv (vs := [qI l6, qI l7]) C (fun q hq => ct_X11_hangsBy l g h l0 l6 l7 q hq) tw_1866 my_X11_hangsBy (fun q hq => tg_X11_hangsBy hq) rfl hl.1 Hh ⟨Nat.le_of_ble_eq_true rfl, Nat.le_of_ble_eq_true rfl, Nat.le_of_ble_eq_true rfl, Nat.le_of_ble_eq_true rfl⟩ (Nat.le_of_ble_eq_true rfl) dX11_laysBears_137 rfl hm (fun h H locs Hh hm => ?_)
                  exact K140 h l7 _ _ _ Hh (lv_sub hl [0, 1, 2, 3, 4, 5] rfl) hm
          unfold M_X11_laysBears_b89 at hm
          refine lv_iload hx hb dX11_laysBears_89 (lv_at hl 4 rfl) ?_
          refine lv_aload_n hx hb dX11_laysBears_91 rfl (lv_at hl 0 rfl) ?_
          refine z_getR C fl_11_341 Hh dX11_laysBears_92 rfl hm (fun x16 hm => ?_)
          refine z_getI C fl_11_230 Hh dX11_laysBears_95 rfl hm (fun x17 hm => ?_)
          refine z_icmp_ge (tgt := 152) C dX11_laysBears_98 (by decide) rfl rfl hm (fun _ hm => ?_) (fun _ hm => ?_)
          · cases hm
            exact K152 h l5 _ _ _ Hh (lv_sub hl [0, 1, 2, 3] rfl) hc89
          · refine z_iconst C dX11_laysBears_101 ?_
            refine lv_istore (lv' := [(7, qI 0), (0, qR g l0), (1, qI l1), (4, qI l4), (5, qI l5), (6, qI l6)]) hx hb dX11_laysBears_102 hl (by decide) rfl (fun ls hl => ?_)
            exact KL104 FU h l6 0 _ _ _ Hh (lv_sub hl [1, 2, 3, 4, 5, 0] rfl) hm
      have K86 : ∀ (h : Hp) (l5 : Int) (H : Heap) (locs : List Loc) (ls : Array Slot), zH g s h H locs → lv_has ls 8 [(0, qR g l0), (1, qI l1), (4, qI l4), (5, qI l5)] → M_X11_laysBears_p86 h l0 l1 l4 l5 = some z40 → W p l e { frames := 3, cells := 0, slots := 0, locals := 72 } s m args below meth c H locs 0 0 (zQ below g r none args s 0 0) (F0 m 86 ls []) := by
        intro h l5  H locs ls Hh hl hm
        unfold M_X11_laysBears_p86 at hm
        refine z_iconst C dX11_laysBears_86 ?_
        refine lv_istore (lv' := [(6, qI 0), (0, qR g l0), (1, qI l1), (4, qI l4), (5, qI l5)]) hx hb dX11_laysBears_87 hl (by decide) rfl (fun ls hl => ?_)
        exact KL89 FU h l5 0 _ _ _ Hh (lv_sub hl [1, 2, 3, 4, 0] rfl) hm
      have KL50 : ∀ (n : Nat) (h : Hp) (l5 l6 : Int) (H : Heap) (locs : List Loc) (ls : Array Slot), zH g s h H locs → lv_has ls 8 [(0, qR g l0), (1, qI l1), (4, qI l4), (5, qI l5), (6, qI l6)] → M_X11_laysBears_w50 n h l0 l1 l4 l5 l6 = some z40 → W p l e { frames := 3, cells := 0, slots := 0, locals := 72 } s m args below meth c H locs 0 0 (zQ below g r none args s 0 0) (F0 m 50 ls []) := by
        intro n
        induction n with
        | zero => intro h l5 l6 H locs ls Hh hl hm; cases hm
        | succ n ih50 =>
          intro h l5 l6 H locs ls Hh hl hm
          obtain ⟨z50, hm, hc50⟩ := wh_inv hm
          have hm : M_X11_laysBears_b50 h l0 l1 l4 l5 l6 = some z50 := hm
          unfold M_X11_laysBears_b50 at hm
          refine lv_iload hx hb dX11_laysBears_50 (lv_at hl 4 rfl) ?_
          refine z_sipush C dX11_laysBears_52 rfl ?_
          refine z_icmp_ge (tgt := 86) C dX11_laysBears_55 (by decide) rfl lq_p216 hm (fun _ hm => ?_) (fun _ hm => ?_)
          · cases hm
            exact K86 h l5 _ _ _ Hh (lv_sub hl [0, 1, 2, 3] rfl) hc50
          · refine lv_aload_n hx hb dX11_laysBears_58 rfl (lv_at hl 0 rfl) ?_
            refine z_getR C fl_11_63 Hh dX11_laysBears_59 rfl hm (fun x18 hm => ?_)
            refine lv_iload hx hb dX11_laysBears_62 (lv_at hl 4 rfl) ?_
            refine lv_aload_n hx hb dX11_laysBears_64 rfl (lv_at hl 0 rfl) ?_
            refine z_getR C fl_11_60 Hh dX11_laysBears_65 rfl hm (fun x19 hm => ?_)
            refine lv_iload hx hb dX11_laysBears_68 (lv_at hl 4 rfl) ?_
            refine z_zald C Hh dX11_laysBears_70 hm (fun x20 hm => ?_)
            refine z_zast C Hh dX11_laysBears_71 hm (fun h H locs Hh hm => ?_)
            refine lv_aload_n hx hb dX11_laysBears_72 rfl (lv_at hl 0 rfl) ?_
            refine z_getR C fl_11_60 Hh dX11_laysBears_73 rfl hm (fun x21 hm => ?_)
            refine lv_iload hx hb dX11_laysBears_76 (lv_at hl 4 rfl) ?_
            refine z_iconst C dX11_laysBears_78 ?_
            refine z_zast C Hh dX11_laysBears_79 hm (fun h H locs Hh hm => ?_)
            refine z_iinc (x := l6) (k := 4) (lv' := [(6, qI (l6 + 1)), (0, qR g l0), (1, qI l1), (4, qI l4), (5, qI l5)]) C dX11_laysBears_80 hl rfl (by decide) rfl (fun ls hl => ?_)
            refine lv_goto (tgt := 50) hx hb dX11_laysBears_83 (by decide) ?_
            cases hm
            exact ih50 h l5 (l6 + 1) _ _ _ Hh (lv_sub hl [1, 2, 3, 4, 0] rfl) hc50
      unfold M_X11_laysBears_b40 at hm
      refine lv_iload hx hb dX11_laysBears_40 (lv_at hl 3 rfl) ?_
      refine lv_iload hx hb dX11_laysBears_42 (lv_at hl 2 rfl) ?_
      refine z_icmp_ge (tgt := 158) C dX11_laysBears_44 (by decide) rfl rfl hm (fun _ hm => ?_) (fun _ hm => ?_)
      · cases hm
        exact K158 h l0 l1 _ _ _ Hh (lv_sub hl [0, 1] rfl) hc40
      · refine z_iconst C dX11_laysBears_47 ?_
        refine lv_istore (lv' := [(6, qI 0), (0, qR g l0), (1, qI l1), (4, qI l4), (5, qI l5)]) hx hb dX11_laysBears_48 hl (by decide) rfl (fun ls hl => ?_)
        exact KL50 FU h l5 0 _ _ _ Hh (lv_sub hl [1, 2, 3, 4, 0] rfl) hm
  have K25 : ∀ (h : Hp) (l0 l1 l2 l3 l4 : Int) (H : Heap) (locs : List Loc) (ls : Array Slot), zH g s h H locs → lv_has ls 8 [(0, qR g l0), (1, qI l1), (2, qI l2), (3, qI l3), (4, qI l4)] → M_X11_laysBears_p25 h l0 l1 l2 l3 l4 = some r → W p l e { frames := 3, cells := 0, slots := 0, locals := 72 } s m args below meth c H locs 0 0 (zQ below g r none args s 0 0) (F0 m 25 ls []) := by
    intro h l0 l1 l2 l3 l4  H locs ls Hh hl hm
    unfold M_X11_laysBears_p25 at hm
    refine lv_aload_n hx hb dX11_laysBears_25 rfl (lv_at hl 0 rfl) ?_
    refine z_getR C fl_11_60 Hh dX11_laysBears_26 rfl hm (fun x22 hm => ?_)
    refine z_bipush C dX11_laysBears_29 rfl ?_
    refine lv_iload_n hx hb dX11_laysBears_31 rfl (lv_at hl 2 rfl) ?_
    refine z_imul C dX11_laysBears_32 ?_
    refine lv_iload_n hx hb dX11_laysBears_33 rfl (lv_at hl 3 rfl) ?_
    refine z_iadd C dX11_laysBears_34 ?_
    refine z_iconst C dX11_laysBears_35 ?_
    refine z_zast C Hh dX11_laysBears_36 hm (fun h H locs Hh hm => ?_)
    refine z_iconst C dX11_laysBears_37 ?_
    refine lv_istore (lv' := [(5, qI 0), (0, qR g l0), (1, qI l1), (2, qI l2), (3, qI l3), (4, qI l4)]) hx hb dX11_laysBears_38 hl (by decide) rfl (fun ls hl => ?_)
    exact KL40 FU h l0 l1 l4 0 _ _ _ Hh (lv_sub hl [1, 2, 5, 0] rfl) hm
  have KL3 : ∀ (n : Nat) (h : Hp) (l0 l1 l2 l3 l4 l5 : Int) (H : Heap) (locs : List Loc) (ls : Array Slot), zH g s h H locs → lv_has ls 8 [(0, qR g l0), (1, qI l1), (2, qI l2), (3, qI l3), (4, qI l4), (5, qI l5)] → M_X11_laysBears_w3 n h l0 l1 l2 l3 l4 l5 = some r → W p l e { frames := 3, cells := 0, slots := 0, locals := 72 } s m args below meth c H locs 0 0 (zQ below g r none args s 0 0) (F0 m 3 ls []) := by
    intro n
    induction n with
    | zero => intro h l0 l1 l2 l3 l4 l5 H locs ls Hh hl hm; cases hm
    | succ n ih3 =>
      intro h l0 l1 l2 l3 l4 l5 H locs ls Hh hl hm
      obtain ⟨z3, hm, hc3⟩ := wh_inv hm
      have hm : M_X11_laysBears_b3 h l0 l1 l2 l3 l4 l5 = some z3 := hm
      unfold M_X11_laysBears_b3 at hm
      refine lv_iload hx hb dX11_laysBears_3 (lv_at hl 5 rfl) ?_
      refine z_sipush C dX11_laysBears_5 rfl ?_
      refine z_icmp_ge (tgt := 25) C dX11_laysBears_8 (by decide) rfl lq_p216 hm (fun _ hm => ?_) (fun _ hm => ?_)
      · cases hm
        exact K25 h l0 l1 l2 l3 l4 _ _ _ Hh (lv_sub hl [0, 1, 2, 3, 4] rfl) hc3
      · refine lv_aload_n hx hb dX11_laysBears_11 rfl (lv_at hl 0 rfl) ?_
        refine z_getR C fl_11_60 Hh dX11_laysBears_12 rfl hm (fun x23 hm => ?_)
        refine lv_iload hx hb dX11_laysBears_15 (lv_at hl 5 rfl) ?_
        refine z_iconst C dX11_laysBears_17 ?_
        refine z_zast C Hh dX11_laysBears_18 hm (fun h H locs Hh hm => ?_)
        refine z_iinc (x := l5) (k := 5) (lv' := [(5, qI (l5 + 1)), (0, qR g l0), (1, qI l1), (2, qI l2), (3, qI l3), (4, qI l4)]) C dX11_laysBears_19 hl rfl (by decide) rfl (fun ls hl => ?_)
        refine lv_goto (tgt := 3) hx hb dX11_laysBears_22 (by decide) ?_
        cases hm
        exact ih3 h l0 l1 l2 l3 l4 (l5 + 1) _ _ _ Hh (lv_sub hl [1, 2, 3, 4, 5, 0] rfl) hc3
  refine z_iconst C dX11_laysBears_0 ?_
  refine lv_istore (lv' := [(5, qI 0), (0, qR g l0), (1, qI l1), (2, qI l2), (3, qI l3), (4, qI l4)]) hx hb dX11_laysBears_1 hl (by decide) rfl (fun ls hl => ?_)
  exact KL3 FU h l0 l1 l2 l3 l4 0 _ _ _ Hh (lv_sub hl [1, 2, 3, 4, 5, 0] rfl) hm
theorem tg_X11_isDrawn {h : Hp} {l0 l1 l2 l3 l4 l5 l6 l7 : Int} {r : Hp × Int} (hm : M_X11_isDrawn h l0 l1 l2 l3 l4 l5 l6 l7 = some r) : hT h l0 = 21 := (tk_inv hm).1
set_option maxRecDepth 100000 in
set_option maxHeartbeats 4000000 in
theorem ct_X11_isDrawn (l : Launch) (g : zGeo) (h0 : Hp) (l0 l1 l2 l3 l4 l5 l6 l7 : Int) (r : Hp × Int) (hm : M_X11_isDrawn h0 l0 l1 l2 l3 l4 l5 l6 l7 = some r) : zM l yX11_isDrawn cX11_isDrawn 9 (some .boolean) 6 145 0 0 g h0 [qR g l0, qI l1, qI l2, qI l3, qI l4, qI l5, qI l6, qI l7] r.1 (some (qI r.2)) := by
  refine z_meth (by decide) (Nat.le_of_ble_eq_true rfl) ?_
  intro p e s m args below meth c H ls C hr hlocks hnm Hh hl
  have C : zC p m c cX11_isDrawn 9 s args RX11 g := C
  have hnm : meth.name = "isDrawn" := hnm
  have hx := C.1.1
  have hb := C.1.2.1
  have hl : lv_has ls 9 [(0, qR g l0), (1, qI l1), (2, qI l2), (3, qI l3), (4, qI l4), (5, qI l5), (6, qI l6), (7, qI l7)] := hl
  unfold M_X11_isDrawn at hm
  replace hm := (tk_inv hm).2
  generalize h0 = h at Hh hm
  have K42 : ∀ (h : Hp) (l0 l4 l5 l6 l7 : Int) (H : Heap) (locs : List Loc) (ls : Array Slot), zH g s h H locs → lv_has ls 9 [(0, qR g l0), (4, qI l4), (5, qI l5), (6, qI l6), (7, qI l7)] → M_X11_isDrawn_p42 h l0 l4 l5 l6 l7 = some r → W p l e { frames := 6, cells := 0, slots := 0, locals := 145 } s m args below meth c H locs 0 0 (zQ below g r.1 (some (qI r.2)) args s 0 0) (F0 m 42 ls []) := by
    intro h l0 l4 l5 l6 l7  H locs ls Hh hl hm
    unfold M_X11_isDrawn_p42 at hm
    refine lv_aload_n hx hb dX11_isDrawn_42 rfl (lv_at hl 0 rfl) ?_
    refine lv_iload hx hb dX11_isDrawn_43 (lv_at hl 4 rfl) ?_
    refine z_cVv (vs := [qI l7]) C (fun q hq => ct_X11_steps l g h l0 l7 q hq) tw_1722 my_X11_steps (fun q hq => tg_X11_steps hq) rfl hl.1 Hh ⟨Nat.le_of_ble_eq_true rfl, Nat.le_of_ble_eq_true rfl, Nat.le_of_ble_eq_true rfl, Nat.le_of_ble_eq_true rfl⟩ (Nat.le_of_ble_eq_true rfl) dX11_isDrawn_45 rfl hm (fun h H locs Hh hm => ?_)
    refine lv_aload_n hx hb dX11_isDrawn_48 rfl (lv_at hl 0 rfl) ?_
    refine lv_iload hx hb dX11_isDrawn_49 (lv_at hl 4 rfl) ?_
    refine lv_iload hx hb dX11_isDrawn_51 (lv_at hl 1 rfl) ?_
    refine lv_iload hx hb dX11_isDrawn_53 (lv_at hl 2 rfl) ?_
    refine z_cVIr (vs := [qI l7, qI l4, qI l5]) C (fun q hq => ct_X11_behind l g h l0 l7 l4 l5 q hq) tw_1765 my_X11_behind (fun q hq => tg_X11_behind hq) rfl hl.1 Hh ⟨Nat.le_of_ble_eq_true rfl, Nat.le_of_ble_eq_true rfl, Nat.le_of_ble_eq_true rfl, Nat.le_of_ble_eq_true rfl⟩ (Nat.le_of_ble_eq_true rfl) dX11_isDrawn_55 rfl hm (fun x1 H locs Hh hm => ?_)
    refine lv_iload hx hb dX11_isDrawn_58 (lv_at hl 3 rfl) ?_
    refine z_icmp_ne (tgt := 67) C dX11_isDrawn_60 (by decide) rfl rfl hm (fun _ hm => ?_) (fun _ hm => ?_)
    · refine z_iconst C dX11_isDrawn_67 ?_
      exact z_zretC C hr hlocks Hh dX11_isDrawn_68 (by decide) hm
    · refine z_iconst C dX11_isDrawn_63 ?_
      refine lv_goto (tgt := 68) hx hb dX11_isDrawn_64 (by decide) ?_
      exact z_zretC C hr hlocks Hh dX11_isDrawn_68 (by decide) hm
  have KL7 : ∀ (n : Nat) (h : Hp) (l0 l1 l2 l3 l4 l5 l6 l7 l8 : Int) (H : Heap) (locs : List Loc) (ls : Array Slot), zH g s h H locs → lv_has ls 9 [(0, qR g l0), (1, qI l1), (2, qI l2), (3, qI l3), (4, qI l4), (5, qI l5), (6, qI l6), (7, qI l7), (8, qI l8)] → M_X11_isDrawn_w7 n h l0 l1 l2 l3 l4 l5 l6 l7 l8 = some r → W p l e { frames := 6, cells := 0, slots := 0, locals := 145 } s m args below meth c H locs 0 0 (zQ below g r.1 (some (qI r.2)) args s 0 0) (F0 m 7 ls []) := by
    intro n
    induction n with
    | zero => intro h l0 l1 l2 l3 l4 l5 l6 l7 l8 H locs ls Hh hl hm; cases hm
    | succ n ih7 =>
      intro h l0 l1 l2 l3 l4 l5 l6 l7 l8 H locs ls Hh hl hm
      obtain ⟨z7, hm, hc7⟩ := wh_inv hm
      have hm : M_X11_isDrawn_b7 h l0 l1 l2 l3 l4 l5 l6 l7 l8 = some z7 := hm
      unfold M_X11_isDrawn_b7 at hm
      refine lv_iload hx hb dX11_isDrawn_7 (lv_at hl 8 rfl) ?_
      refine lv_iload_n hx hb dX11_isDrawn_9 rfl (lv_at hl 3 rfl) ?_
      refine z_icmp_ge (tgt := 42) C dX11_isDrawn_10 (by decide) rfl rfl hm (fun _ hm => ?_) (fun _ hm => ?_)
      · cases hm
        exact K42 h l0 l4 l5 l6 l7 _ _ _ Hh (lv_sub hl [0, 4, 5, 6, 7] rfl) hc7
      · refine lv_aload_n hx hb dX11_isDrawn_13 rfl (lv_at hl 0 rfl) ?_
        refine z_getR C fl_11_28 Hh dX11_isDrawn_14 rfl hm (fun x2 hm => ?_)
        refine z_bipush C dX11_isDrawn_17 rfl ?_
        refine lv_iload_n hx hb dX11_isDrawn_19 rfl (lv_at hl 1 rfl) ?_
        refine z_imul C dX11_isDrawn_20 ?_
        refine lv_aload_n hx hb dX11_isDrawn_21 rfl (lv_at hl 0 rfl) ?_
        refine z_getR C fl_11_51 Hh dX11_isDrawn_22 rfl hm (fun x3 hm => ?_)
        refine lv_aload_n hx hb dX11_isDrawn_25 rfl (lv_at hl 0 rfl) ?_
        refine z_getR C fl_11_54 Hh dX11_isDrawn_26 rfl hm (fun x4 hm => ?_)
        refine lv_iload hx hb dX11_isDrawn_29 (lv_at hl 8 rfl) ?_
        refine z_iald C Hh dX11_isDrawn_31 hm (fun x5 hm => ?_)
        refine z_iald C Hh dX11_isDrawn_32 hm (fun x6 hm => ?_)
        refine z_iadd C dX11_isDrawn_33 ?_
        refine lv_iload_n hx hb dX11_isDrawn_34 rfl (lv_at hl 2 rfl) ?_
        refine z_iast C Hh dX11_isDrawn_35 hm (fun h H locs Hh hm => ?_)
        refine z_iinc (x := l8) (k := 8) (lv' := [(8, qI (l8 + 1)), (0, qR g l0), (1, qI l1), (2, qI l2), (3, qI l3), (4, qI l4), (5, qI l5), (6, qI l6), (7, qI l7)]) C dX11_isDrawn_36 hl rfl (by decide) rfl (fun ls hl => ?_)
        refine lv_goto (tgt := 7) hx hb dX11_isDrawn_39 (by decide) ?_
        cases hm
        exact ih7 h l0 l1 l2 l3 l4 l5 l6 l7 (l8 + 1) _ _ _ Hh (lv_sub hl [1, 2, 3, 4, 5, 6, 7, 8, 0] rfl) hc7
  refine lv_aload_n hx hb dX11_isDrawn_0 rfl (lv_at hl 0 rfl) ?_
  refine z_cVv (vs := []) C (fun q hq => ct_X11_starts l g h l0 q hq) tw_1718 my_X11_starts (fun q hq => tg_X11_starts hq) rfl hl.1 Hh ⟨Nat.le_of_ble_eq_true rfl, Nat.le_of_ble_eq_true rfl, Nat.le_of_ble_eq_true rfl, Nat.le_of_ble_eq_true rfl⟩ (Nat.le_of_ble_eq_true rfl) dX11_isDrawn_1 rfl hm (fun h H locs Hh hm => ?_)
  refine z_iconst C dX11_isDrawn_4 ?_
  refine lv_istore (lv' := [(8, qI 0), (0, qR g l0), (1, qI l1), (2, qI l2), (3, qI l3), (4, qI l4), (5, qI l5), (6, qI l6), (7, qI l7)]) hx hb dX11_isDrawn_5 hl (by decide) rfl (fun ls hl => ?_)
  exact KL7 FU h l0 l1 l2 l3 l4 l5 l6 l7 0 _ _ _ Hh (lv_sub hl [1, 2, 3, 4, 5, 6, 7, 8, 0] rfl) hm
