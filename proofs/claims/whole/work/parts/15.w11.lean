theorem tg_X11_ring {h : Hp} {l0 l1 : Int} {r : Hp × Int} (hm : M_X11_ring h l0 l1 = some r) : hT h l0 = 21 := (tk_inv hm).1
set_option maxRecDepth 100000 in
set_option maxHeartbeats 4000000 in
theorem ct_X11_ring (l : Launch) (g : zGeo) (h0 : Hp) (l0 l1 : Int) (r : Hp × Int) (hm : M_X11_ring h0 l0 l1 = some r) : zM l yX11_ring cX11_ring 4 (some .int) 13 322 10 320 g h0 [qR g l0, qI l1] r.1 (some (qI r.2)) := by
  refine z_meth (by decide) (Nat.le_of_ble_eq_true rfl) ?_
  intro p e s m args below meth c H ls C hr hlocks hnm Hh hl
  have C : zC p m c cX11_ring 4 s args RX11 g := C
  have hnm : meth.name = "ring" := hnm
  have hx := C.1.1
  have hb := C.1.2.1
  have hl : lv_has ls 4 [(0, qR g l0), (1, qI l1)] := hl
  unfold M_X11_ring at hm
  replace hm := (tk_inv hm).2
  generalize h0 = h at Hh hm
  have K216 : ∀ (h : Hp) (l0 : Int) (H : Heap) (locs : List Loc) (ls : Array Slot), zH g s h H locs → lv_has ls 4 [(0, qR g l0)] → M_X11_ring_p216 h l0 = some r → W p l e { frames := 13, cells := 10, slots := 320, locals := 322 } s m args below meth c H locs 10 320 (zQ below g r.1 (some (qI r.2)) args s 10 320) (F0 m 216 ls []) := by
    intro h l0  H locs ls Hh hl hm
    unfold M_X11_ring_p216 at hm
    refine lv_aload_n hx hb dX11_ring_216 rfl (lv_at hl 0 rfl) ?_
    refine z_getR C fl_11_17 Hh dX11_ring_217 rfl hm (fun x1 hm => ?_)
    refine z_sipush C dX11_ring_220 rfl ?_
    refine z_iconst C dX11_ring_223 ?_
    refine z_iast C Hh dX11_ring_224 hm (fun h H locs Hh hm => ?_)
    refine lv_aload_n hx hb dX11_ring_225 rfl (lv_at hl 0 rfl) ?_
    refine z_getR C fl_11_17 Hh dX11_ring_226 rfl hm (fun x2 hm => ?_)
    refine z_sipush C dX11_ring_229 rfl ?_
    refine z_iconst C dX11_ring_232 ?_
    refine z_iast C Hh dX11_ring_233 hm (fun h H locs Hh hm => ?_)
    refine lv_aload_n hx hb dX11_ring_234 rfl (lv_at hl 0 rfl) ?_
    refine z_iconst C dX11_ring_235 ?_
    refine z_putI C hnm pl_11_343 Hh dX11_ring_236 rfl hm (fun h H locs Hh hm => ?_)
    refine lv_aload_n hx hb dX11_ring_239 rfl (lv_at hl 0 rfl) ?_
    refine z_iconst C dX11_ring_240 ?_
    refine z_putI C hnm pl_11_346 Hh dX11_ring_241 rfl hm (fun h H locs Hh hm => ?_)
    refine lv_aload_n hx hb dX11_ring_244 rfl (lv_at hl 0 rfl) ?_
    refine lv_aload_n hx hb dX11_ring_245 rfl (lv_at hl 0 rfl) ?_
    refine z_getR C fl_11_341 Hh dX11_ring_246 rfl hm (fun x3 hm => ?_)
    refine z_getI C fl_11_230 Hh dX11_ring_249 rfl hm (fun x4 hm => ?_)
    refine z_cVI (vs := [qI x4]) C (fun q hq => ct_X11_good l g h l0 x4 q hq) tw_1670 my_X11_good (fun q hq => tg_X11_good hq) rfl hl.1 Hh ⟨Nat.le_of_ble_eq_true rfl, Nat.le_of_ble_eq_true rfl, Nat.le_of_ble_eq_true rfl, Nat.le_of_ble_eq_true rfl⟩ (Nat.le_of_ble_eq_true rfl) dX11_ring_252 rfl hm (fun h x5 H locs Hh hm => ?_)
    refine W.widen (k := 10) (n := 320) (Nat.le_of_ble_eq_true rfl) (Nat.le_of_ble_eq_true rfl) ?_
    exact z_iret C hr hlocks Hh dX11_ring_255 hm
  have KL129 : ∀ (n : Nat) (h : Hp) (l0 l2 : Int) (H : Heap) (locs : List Loc) (ls : Array Slot), zH g s h H locs → lv_has ls 4 [(0, qR g l0), (2, qI l2)] → M_X11_ring_w129 n h l0 l2 = some r → W p l e { frames := 13, cells := 10, slots := 320, locals := 322 } s m args below meth c H locs 10 320 (zQ below g r.1 (some (qI r.2)) args s 10 320) (F0 m 129 ls []) := by
    intro n
    induction n with
    | zero => intro h l0 l2 H locs ls Hh hl hm; cases hm
    | succ n ih129 =>
      intro h l0 l2 H locs ls Hh hl hm
      obtain ⟨z129, hm, hc129⟩ := wh_inv hm
      have hm : M_X11_ring_b129 h l0 l2 = some z129 := hm
      have K210 : ∀ (h : Hp) (l2 : Int) (H : Heap) (locs : List Loc) (ls : Array Slot), zH g s h H locs → lv_has ls 4 [(0, qR g l0), (2, qI l2)] → M_X11_ring_p210 h l0 l2 = some z129 → W p l e { frames := 13, cells := 10, slots := 320, locals := 322 } s m args below meth c H locs 10 320 (zQ below g r.1 (some (qI r.2)) args s 10 320) (F0 m 210 ls []) := by
        intro h l2  H locs ls Hh hl hm
        unfold M_X11_ring_p210 at hm
        refine z_iinc (x := l2) (k := 1) (lv' := [(2, qI (l2 + 1)), (0, qR g l0)]) C dX11_ring_210 hl rfl (by decide) rfl (fun ls hl => ?_)
        refine lv_goto (tgt := 129) hx hb dX11_ring_213 (by decide) ?_
        cases hm
        exact ih129 h l0 (l2 + 1) _ _ _ Hh (lv_sub hl [1, 0] rfl) hc129
      have KL172 : ∀ (n : Nat) (h : Hp) (l2 l3 : Int) (H : Heap) (locs : List Loc) (ls : Array Slot), zH g s h H locs → lv_has ls 4 [(0, qR g l0), (2, qI l2), (3, qI l3)] → M_X11_ring_w172 n h l0 l2 l3 = some z129 → W p l e { frames := 13, cells := 10, slots := 320, locals := 322 } s m args below meth c H locs 10 320 (zQ below g r.1 (some (qI r.2)) args s 10 320) (F0 m 172 ls []) := by
        intro n
        induction n with
        | zero => intro h l2 l3 H locs ls Hh hl hm; cases hm
        | succ n ih172 =>
          intro h l2 l3 H locs ls Hh hl hm
          obtain ⟨z172, hm, hc172⟩ := wh_inv hm
          have hm : M_X11_ring_b172 h l0 l2 l3 = some z172 := hm
          unfold M_X11_ring_b172 at hm
          refine lv_iload_n hx hb dX11_ring_172 rfl (lv_at hl 2 rfl) ?_
          refine z_iconst C dX11_ring_173 ?_
          refine z_icmp_ge (tgt := 210) C dX11_ring_174 (by decide) rfl lq_p4 hm (fun _ hm => ?_) (fun _ hm => ?_)
          · cases hm
            refine W.widen (k := 10) (n := 320) (Nat.le_of_ble_eq_true rfl) (Nat.le_of_ble_eq_true rfl) ?_
            exact K210 h l2 _ _ _ Hh (lv_sub hl [0, 1] rfl) hc172
          · refine lv_aload_n hx hb dX11_ring_177 rfl (lv_at hl 0 rfl) ?_
            refine z_getR C fl_11_17 Hh dX11_ring_178 rfl hm (fun x6 hm => ?_)
            refine z_sipush C dX11_ring_181 rfl ?_
            refine z_iconst C dX11_ring_184 ?_
            refine lv_iload_n hx hb dX11_ring_185 rfl (lv_at hl 1 rfl) ?_
            refine z_imul C dX11_ring_186 ?_
            refine z_iadd C dX11_ring_187 ?_
            refine lv_iload_n hx hb dX11_ring_188 rfl (lv_at hl 2 rfl) ?_
            refine z_iadd C dX11_ring_189 ?_
            refine lv_aload_n hx hb dX11_ring_190 rfl (lv_at hl 0 rfl) ?_
            refine z_getR C fl_11_341 Hh dX11_ring_191 rfl hm (fun x7 hm => ?_)
            refine z_getR C fl_11_270 Hh dX11_ring_194 rfl hm (fun x8 hm => ?_)
            refine z_iconst C dX11_ring_197 ?_
            refine lv_iload_n hx hb dX11_ring_198 rfl (lv_at hl 1 rfl) ?_
            refine z_imul C dX11_ring_199 ?_
            refine lv_iload_n hx hb dX11_ring_200 rfl (lv_at hl 2 rfl) ?_
            refine z_iadd C dX11_ring_201 ?_
            refine z_iald C Hh dX11_ring_202 hm (fun x9 hm => ?_)
            refine z_iast C Hh dX11_ring_203 hm (fun h H locs Hh hm => ?_)
            refine z_iinc (x := l3) (k := 2) (lv' := [(3, qI (l3 + 1)), (0, qR g l0), (2, qI l2)]) C dX11_ring_204 hl rfl (by decide) rfl (fun ls hl => ?_)
            refine lv_goto (tgt := 172) hx hb dX11_ring_207 (by decide) ?_
            cases hm
            exact ih172 h l2 (l3 + 1) _ _ _ Hh (lv_sub hl [1, 2, 0] rfl) hc172
      have K169 : ∀ (h : Hp) (l2 : Int) (s0 s1 s2 : Int) (H : Heap) (locs : List Loc) (ls : Array Slot), zH g s h H locs → lv_has ls 4 [(0, qR g l0), (2, qI l2)] → M_X11_ring_p169 h l0 l2 s0 s1 s2 = some z129 → W p l e { frames := 13, cells := 10, slots := 320, locals := 322 } s m args below meth c H locs 10 320 (zQ below g r.1 (some (qI r.2)) args s 10 320) (F0 m 169 ls [qI s2, qI s1, qR g s0]) := by
        intro h l2 s0 s1 s2 H locs ls Hh hl hm
        unfold M_X11_ring_p169 at hm
        refine z_iast C Hh dX11_ring_169 hm (fun h H locs Hh hm => ?_)
        refine z_iconst C dX11_ring_170 ?_
        refine lv_istore_n (lv' := [(3, qI 0), (0, qR g l0), (2, qI l2)]) hx hb dX11_ring_171 rfl hl (by decide) rfl (fun ls hl => ?_)
        refine W.widen (k := 10) (n := 320) (Nat.le_of_ble_eq_true rfl) (Nat.le_of_ble_eq_true rfl) ?_
        exact KL172 FU h l2 0 _ _ _ Hh (lv_sub hl [1, 2, 0] rfl) hm
      unfold M_X11_ring_b129 at hm
      refine lv_iload_n hx hb dX11_ring_129 rfl (lv_at hl 1 rfl) ?_
      refine z_bipush C dX11_ring_130 rfl ?_
      refine z_icmp_ge (tgt := 216) C dX11_ring_132 (by decide) rfl lq_p6 hm (fun _ hm => ?_) (fun _ hm => ?_)
      · cases hm
        refine W.widen (k := 10) (n := 320) (Nat.le_of_ble_eq_true rfl) (Nat.le_of_ble_eq_true rfl) ?_
        exact K216 h l0 _ _ _ Hh (lv_sub hl [0] rfl) hc129
      · refine lv_aload_n hx hb dX11_ring_135 rfl (lv_at hl 0 rfl) ?_
        refine z_getR C fl_11_17 Hh dX11_ring_136 rfl hm (fun x10 hm => ?_)
        refine z_sipush C dX11_ring_139 rfl ?_
        refine lv_iload_n hx hb dX11_ring_142 rfl (lv_at hl 1 rfl) ?_
        refine z_iadd C dX11_ring_143 ?_
        refine lv_iload_n hx hb dX11_ring_144 rfl (lv_at hl 1 rfl) ?_
        refine lv_aload_n hx hb dX11_ring_145 rfl (lv_at hl 0 rfl) ?_
        refine z_getR C fl_11_341 Hh dX11_ring_146 rfl hm (fun x11 hm => ?_)
        refine z_getI C fl_11_230 Hh dX11_ring_149 rfl hm (fun x12 hm => ?_)
        refine z_icmp_ge (tgt := 167) C dX11_ring_152 (by decide) rfl rfl hm (fun _ hm => ?_) (fun _ hm => ?_)
        · refine z_bipush C dX11_ring_167 rfl ?_
          refine W.widen (k := 10) (n := 320) (Nat.le_of_ble_eq_true rfl) (Nat.le_of_ble_eq_true rfl) ?_
          exact K169 h l2 x10 (216 + l2) (-2) _ _ _ Hh (lv_sub hl [0, 1] rfl) hm
        · refine lv_aload_n hx hb dX11_ring_155 rfl (lv_at hl 0 rfl) ?_
          refine z_getR C fl_11_341 Hh dX11_ring_156 rfl hm (fun x13 hm => ?_)
          refine z_getR C fl_11_268 Hh dX11_ring_159 rfl hm (fun x14 hm => ?_)
          refine lv_iload_n hx hb dX11_ring_162 rfl (lv_at hl 1 rfl) ?_
          refine z_iald C Hh dX11_ring_163 hm (fun x15 hm => ?_)
          refine lv_goto (tgt := 169) hx hb dX11_ring_164 (by decide) ?_
          refine W.widen (k := 10) (n := 320) (Nat.le_of_ble_eq_true rfl) (Nat.le_of_ble_eq_true rfl) ?_
          exact K169 h l2 x10 (216 + l2) x15 _ _ _ Hh (lv_sub hl [0, 1] rfl) hm
  have K127 : ∀ (h : Hp) (l0 : Int) (H : Heap) (locs : List Loc) (ls : Array Slot), zH g s h H locs → lv_has ls 4 [(0, qR g l0)] → M_X11_ring_p127 h l0 = some r → W p l e { frames := 13, cells := 10, slots := 320, locals := 322 } s m args below meth c H locs 10 320 (zQ below g r.1 (some (qI r.2)) args s 10 320) (F0 m 127 ls []) := by
    intro h l0  H locs ls Hh hl hm
    unfold M_X11_ring_p127 at hm
    refine z_iconst C dX11_ring_127 ?_
    refine lv_istore_n (lv' := [(2, qI 0), (0, qR g l0)]) hx hb dX11_ring_128 rfl hl (by decide) rfl (fun ls hl => ?_)
    refine W.widen (k := 10) (n := 320) (Nat.le_of_ble_eq_true rfl) (Nat.le_of_ble_eq_true rfl) ?_
    exact KL129 FU h l0 0 _ _ _ Hh (lv_sub hl [1, 0] rfl) hm
  have KL99 : ∀ (n : Nat) (h : Hp) (l0 l2 : Int) (H : Heap) (locs : List Loc) (ls : Array Slot), zH g s h H locs → lv_has ls 4 [(0, qR g l0), (2, qI l2)] → M_X11_ring_w99 n h l0 l2 = some r → W p l e { frames := 13, cells := 10, slots := 320, locals := 322 } s m args below meth c H locs 10 320 (zQ below g r.1 (some (qI r.2)) args s 10 320) (F0 m 99 ls []) := by
    intro n
    induction n with
    | zero => intro h l0 l2 H locs ls Hh hl hm; cases hm
    | succ n ih99 =>
      intro h l0 l2 H locs ls Hh hl hm
      obtain ⟨z99, hm, hc99⟩ := wh_inv hm
      have hm : M_X11_ring_b99 h l0 l2 = some z99 := hm
      unfold M_X11_ring_b99 at hm
      refine lv_iload_n hx hb dX11_ring_99 rfl (lv_at hl 1 rfl) ?_
      refine z_sipush C dX11_ring_100 rfl ?_
      refine z_icmp_ge (tgt := 127) C dX11_ring_103 (by decide) rfl lq_p216 hm (fun _ hm => ?_) (fun _ hm => ?_)
      · cases hm
        refine W.widen (k := 10) (n := 320) (Nat.le_of_ble_eq_true rfl) (Nat.le_of_ble_eq_true rfl) ?_
        exact K127 h l0 _ _ _ Hh (lv_sub hl [0] rfl) hc99
      · refine lv_aload_n hx hb dX11_ring_106 rfl (lv_at hl 0 rfl) ?_
        refine z_getR C fl_11_17 Hh dX11_ring_107 rfl hm (fun x16 hm => ?_)
        refine lv_iload_n hx hb dX11_ring_110 rfl (lv_at hl 1 rfl) ?_
        refine lv_aload_n hx hb dX11_ring_111 rfl (lv_at hl 0 rfl) ?_
        refine z_getR C fl_11_341 Hh dX11_ring_112 rfl hm (fun x17 hm => ?_)
        refine z_getR C fl_11_262 Hh dX11_ring_115 rfl hm (fun x18 hm => ?_)
        refine lv_iload_n hx hb dX11_ring_118 rfl (lv_at hl 1 rfl) ?_
        refine z_iald C Hh dX11_ring_119 hm (fun x19 hm => ?_)
        refine z_iast C Hh dX11_ring_120 hm (fun h H locs Hh hm => ?_)
        refine z_iinc (x := l2) (k := 1) (lv' := [(2, qI (l2 + 1)), (0, qR g l0)]) C dX11_ring_121 hl rfl (by decide) rfl (fun ls hl => ?_)
        refine lv_goto (tgt := 99) hx hb dX11_ring_124 (by decide) ?_
        cases hm
        exact ih99 h l0 (l2 + 1) _ _ _ Hh (lv_sub hl [1, 0] rfl) hc99
  refine lv_aload_n hx hb dX11_ring_0 rfl (lv_at hl 0 rfl) ?_
  refine z_iconst C dX11_ring_1 ?_
  refine z_putI C hnm pl_11_78 Hh dX11_ring_2 rfl hm (fun h H locs Hh hm => ?_)
  refine lv_iload_n hx hb dX11_ring_5 rfl (lv_at hl 1 rfl) ?_
  refine z_if_lt (tgt := 17) C dX11_ring_6 (by decide) rfl hm (fun _ hm => ?_) (fun _ hm => ?_)
  · refine lv_aload_n hx hb dX11_ring_17 rfl (lv_at hl 0 rfl) ?_
    refine z_iconst C dX11_ring_18 ?_
    refine z_cVI (vs := [qI 2]) C (fun q hq => ct_X11_refused l g h l0 2 q hq) tw_1451 my_X11_refused (fun q hq => tg_X11_refused hq) rfl hl.1 Hh ⟨Nat.le_of_ble_eq_true rfl, Nat.le_of_ble_eq_true rfl, Nat.le_of_ble_eq_true rfl, Nat.le_of_ble_eq_true rfl⟩ (Nat.le_of_ble_eq_true rfl) dX11_ring_19 rfl hm (fun h x20 H locs Hh hm => ?_)
    refine W.widen (k := 10) (n := 320) (Nat.le_of_ble_eq_true rfl) (Nat.le_of_ble_eq_true rfl) ?_
    exact z_iret C hr hlocks Hh dX11_ring_22 hm
  · refine lv_iload_n hx hb dX11_ring_9 rfl (lv_at hl 1 rfl) ?_
    refine lv_aload_n hx hb dX11_ring_10 rfl (lv_at hl 0 rfl) ?_
    refine z_getI C fl_11_334 Hh dX11_ring_11 rfl hm (fun x21 hm => ?_)
    refine z_icmp_le (tgt := 23) C dX11_ring_14 (by decide) rfl rfl hm (fun _ hm => ?_) (fun _ hm => ?_)
    · refine lv_aload_n hx hb dX11_ring_23 rfl (lv_at hl 0 rfl) ?_
      refine lv_iload_n hx hb dX11_ring_24 rfl (lv_at hl 1 rfl) ?_
      refine z_putI C hnm pl_11_95 Hh dX11_ring_25 rfl hm (fun h H locs Hh hm => ?_)
      refine lv_aload_n hx hb dX11_ring_28 rfl (lv_at hl 0 rfl) ?_
      refine z_iconst C dX11_ring_29 ?_
      refine z_putI C hnm pl_11_334 Hh dX11_ring_30 rfl hm (fun h H locs Hh hm => ?_)
      refine lv_aload_n hx hb dX11_ring_33 rfl (lv_at hl 0 rfl) ?_
      refine z_iconst C dX11_ring_34 ?_
      refine z_putI C hnm pl_11_113 Hh dX11_ring_35 rfl hm (fun h H locs Hh hm => ?_)
      refine lv_aload_n hx hb dX11_ring_38 rfl (lv_at hl 0 rfl) ?_
      refine z_iconst C dX11_ring_39 ?_
      refine z_putI C hnm pl_11_142 Hh dX11_ring_40 rfl hm (fun h H locs Hh hm => ?_)
      refine lv_aload_n hx hb dX11_ring_43 rfl (lv_at hl 0 rfl) ?_
      refine z_newb C nl_11_195 Hh (Nat.le_of_ble_eq_true rfl) (Nat.le_of_ble_eq_true rfl) dX11_ring_44 hm (fun h x22 H Hh hm => ?_)
      refine lv_dup hx hb dX11_ring_47 rfl ?_
      refine z_cIv (vs := []) C (fun q hq => ct_X10_init l g h x22 q hq) ml_11_337 my_X10_init rfl hl.1 Hh ⟨Nat.le_of_ble_eq_true rfl, Nat.le_of_ble_eq_true rfl, Nat.le_of_ble_eq_true rfl, Nat.le_of_ble_eq_true rfl⟩ (Nat.le_of_ble_eq_true rfl) dX11_ring_48 rfl hm (fun h H locs Hh hm => ?_)
      refine z_putRc C hnm pl_11_190 (fun _ => ⟨rfl, rfl⟩) Hh dX11_ring_51 rfl hm (fun h H locs Hh hm => ?_)
      refine lv_aload_n hx hb dX11_ring_54 rfl (lv_at hl 0 rfl) ?_
      refine z_iconst C dX11_ring_55 ?_
      refine z_putI C hnm pl_11_110 Hh dX11_ring_56 rfl hm (fun h H locs Hh hm => ?_)
      refine lv_aload_n hx hb dX11_ring_59 rfl (lv_at hl 0 rfl) ?_
      refine z_cVv (vs := []) C (fun q hq => ct_X11_goesOn l g h l0 q hq) tw_1522 my_X11_goesOn (fun q hq => tg_X11_goesOn hq) rfl hl.1 Hh ⟨Nat.le_of_ble_eq_true rfl, Nat.le_of_ble_eq_true rfl, Nat.le_of_ble_eq_true rfl, Nat.le_of_ble_eq_true rfl⟩ (Nat.le_of_ble_eq_true rfl) dX11_ring_60 rfl hm (fun h H locs Hh hm => ?_)
      refine lv_aload_n hx hb dX11_ring_63 rfl (lv_at hl 0 rfl) ?_
      refine z_cVv (vs := []) C (fun q hq => ct_X11_readAll l g h l0 q hq) tw_1537 my_X11_readAll (fun q hq => tg_X11_readAll hq) rfl hl.1 Hh ⟨Nat.le_of_ble_eq_true rfl, Nat.le_of_ble_eq_true rfl, Nat.le_of_ble_eq_true rfl, Nat.le_of_ble_eq_true rfl⟩ (Nat.le_of_ble_eq_true rfl) dX11_ring_64 rfl hm (fun h H locs Hh hm => ?_)
      refine lv_aload_n hx hb dX11_ring_67 rfl (lv_at hl 0 rfl) ?_
      refine z_getI C fl_11_142 Hh dX11_ring_68 rfl hm (fun x23 hm => ?_)
      refine z_if_le (tgt := 89) C dX11_ring_71 (by decide) rfl hm (fun _ hm => ?_) (fun _ hm => ?_)
      · refine lv_aload_n hx hb dX11_ring_89 rfl (lv_at hl 0 rfl) ?_
        refine lv_aload_n hx hb dX11_ring_90 rfl (lv_at hl 0 rfl) ?_
        refine z_getR C fl_11_190 Hh dX11_ring_91 rfl hm (fun x24 hm => ?_)
        refine z_putRc C hnm pl_11_341 (fun _ => ⟨rfl, rfl⟩) Hh dX11_ring_94 rfl hm (fun h H locs Hh hm => ?_)
        refine z_iconst C dX11_ring_97 ?_
        refine lv_istore_n (lv' := [(2, qI 0), (0, qR g l0), (1, qI l1)]) hx hb dX11_ring_98 rfl hl (by decide) rfl (fun ls hl => ?_)
        refine W.widen (k := 10) (n := 320) (Nat.le_of_ble_eq_true rfl) (Nat.le_of_ble_eq_true rfl) ?_
        exact KL99 FU h l0 0 _ _ _ Hh (lv_sub hl [1, 0] rfl) hm
      · refine lv_aload_n hx hb dX11_ring_74 rfl (lv_at hl 0 rfl) ?_
        refine z_iconst C dX11_ring_75 ?_
        refine z_putI C hnm pl_11_81 Hh dX11_ring_76 rfl hm (fun h H locs Hh hm => ?_)
        refine lv_aload_n hx hb dX11_ring_79 rfl (lv_at hl 0 rfl) ?_
        refine lv_aload_n hx hb dX11_ring_80 rfl (lv_at hl 0 rfl) ?_
        refine z_getI C fl_11_145 Hh dX11_ring_81 rfl hm (fun x25 hm => ?_)
        refine z_putI C hnm pl_11_9 Hh dX11_ring_84 rfl hm (fun h H locs Hh hm => ?_)
        refine z_iconst C dX11_ring_87 ?_
        refine W.widen (k := 10) (n := 320) (Nat.le_of_ble_eq_true rfl) (Nat.le_of_ble_eq_true rfl) ?_
        exact z_iret C hr hlocks Hh dX11_ring_88 hm
    · refine lv_aload_n hx hb dX11_ring_17 rfl (lv_at hl 0 rfl) ?_
      refine z_iconst C dX11_ring_18 ?_
      refine z_cVI (vs := [qI 2]) C (fun q hq => ct_X11_refused l g h l0 2 q hq) tw_1451 my_X11_refused (fun q hq => tg_X11_refused hq) rfl hl.1 Hh ⟨Nat.le_of_ble_eq_true rfl, Nat.le_of_ble_eq_true rfl, Nat.le_of_ble_eq_true rfl, Nat.le_of_ble_eq_true rfl⟩ (Nat.le_of_ble_eq_true rfl) dX11_ring_19 rfl hm (fun h x26 H locs Hh hm => ?_)
      refine W.widen (k := 10) (n := 320) (Nat.le_of_ble_eq_true rfl) (Nat.le_of_ble_eq_true rfl) ?_
      exact z_iret C hr hlocks Hh dX11_ring_22 hm
theorem tg_X11_fault {h : Hp} {l0 : Int} {r : Hp × Int} (hm : M_X11_fault h l0 = some r) : hT h l0 = 21 := (tk_inv hm).1
set_option maxRecDepth 100000 in
set_option maxHeartbeats 4000000 in
theorem ct_X11_fault (l : Launch) (g : zGeo) (h0 : Hp) (l0 : Int) (r : Hp × Int) (hm : M_X11_fault h0 l0 = some r) : zM l yX11_fault cX11_fault 1 (some .int) 0 0 0 0 g h0 [qR g l0] r.1 (some (qI r.2)) := by
  refine z_meth (by decide) (Nat.le_of_ble_eq_true rfl) ?_
  intro p e s m args below meth c H ls C hr hlocks hnm Hh hl
  have C : zC p m c cX11_fault 1 s args RX11 g := C
  have hnm : meth.name = "fault" := hnm
  have hx := C.1.1
  have hb := C.1.2.1
  have hl : lv_has ls 1 [(0, qR g l0)] := hl
  unfold M_X11_fault at hm
  replace hm := (tk_inv hm).2
  generalize h0 = h at Hh hm
  refine lv_aload_n hx hb dX11_fault_0 rfl (lv_at hl 0 rfl) ?_
  refine z_iconst C dX11_fault_1 ?_
  refine z_putI C hnm pl_11_78 Hh dX11_fault_2 rfl hm (fun h H locs Hh hm => ?_)
  refine lv_aload_n hx hb dX11_fault_5 rfl (lv_at hl 0 rfl) ?_
  refine z_getI C fl_11_142 Hh dX11_fault_6 rfl hm (fun x1 hm => ?_)
  exact z_iret C hr hlocks Hh dX11_fault_9 hm
theorem tg_X11_where {h : Hp} {l0 : Int} {r : Hp × Int} (hm : M_X11_where h l0 = some r) : hT h l0 = 21 := (tk_inv hm).1
set_option maxRecDepth 100000 in
set_option maxHeartbeats 4000000 in
theorem ct_X11_where (l : Launch) (g : zGeo) (h0 : Hp) (l0 : Int) (r : Hp × Int) (hm : M_X11_where h0 l0 = some r) : zM l yX11_where cX11_where 1 (some .int) 0 0 0 0 g h0 [qR g l0] r.1 (some (qI r.2)) := by
  refine z_meth (by decide) (Nat.le_of_ble_eq_true rfl) ?_
  intro p e s m args below meth c H ls C hr hlocks hnm Hh hl
  have C : zC p m c cX11_where 1 s args RX11 g := C
  have hnm : meth.name = "where" := hnm
  have hx := C.1.1
  have hb := C.1.2.1
  have hl : lv_has ls 1 [(0, qR g l0)] := hl
  unfold M_X11_where at hm
  replace hm := (tk_inv hm).2
  generalize h0 = h at Hh hm
  refine lv_aload_n hx hb dX11_where_0 rfl (lv_at hl 0 rfl) ?_
  refine z_iconst C dX11_where_1 ?_
  refine z_putI C hnm pl_11_78 Hh dX11_where_2 rfl hm (fun h H locs Hh hm => ?_)
  refine lv_aload_n hx hb dX11_where_5 rfl (lv_at hl 0 rfl) ?_
  refine z_getI C fl_11_9 Hh dX11_where_6 rfl hm (fun x1 hm => ?_)
  exact z_iret C hr hlocks Hh dX11_where_9 hm
theorem tg_X11_isTown {h : Hp} {l0 l1 : Int} {r : Int} (hm : M_X11_isTown h l0 l1 = some r) : hT h l0 = 21 := (tk_inv hm).1
set_option maxRecDepth 100000 in
set_option maxHeartbeats 4000000 in
theorem ct_X11_isTown (l : Launch) (g : zGeo) (h : Hp) (l0 l1 : Int) (r : Int) (hm : M_X11_isTown h l0 l1 = some r) : zM l yX11_isTown cX11_isTown 2 (some .boolean) 0 0 0 0 g h [qR g l0, qI l1] h (some (qI r)) := by
  refine z_meth (by decide) (Nat.le_of_ble_eq_true rfl) ?_
  intro p e s m args below meth c H ls C hr hlocks hnm Hh hl
  have C : zC p m c cX11_isTown 2 s args RX11 g := C
  have hnm : meth.name = "isTown" := hnm
  have hx := C.1.1
  have hb := C.1.2.1
  have hl : lv_has ls 2 [(0, qR g l0), (1, qI l1)] := hl
  unfold M_X11_isTown at hm
  replace hm := (tk_inv hm).2
  refine lv_aload_n hx hb dX11_isTown_0 rfl (lv_at hl 0 rfl) ?_
  refine z_getNull (tgt := 26) C fl_11_341 Hh dX11_isTown_1 rfl dX11_isTown_4 (by decide) hm (fun x1 q hm => ?_) (fun x1 q hm => ?_)
  · rw [if_pos q] at hm
    refine z_iconst C dX11_isTown_26 ?_
    exact z_zretRC C hr hlocks Hh dX11_isTown_27 (by decide) hm
  · rw [if_neg q] at hm
    refine lv_iload_n hx hb dX11_isTown_7 rfl (lv_at hl 1 rfl) ?_
    refine z_if_lt (tgt := 26) C dX11_isTown_8 (by decide) rfl hm (fun _ hm => ?_) (fun _ hm => ?_)
    · refine z_iconst C dX11_isTown_26 ?_
      exact z_zretRC C hr hlocks Hh dX11_isTown_27 (by decide) hm
    · refine lv_iload_n hx hb dX11_isTown_11 rfl (lv_at hl 1 rfl) ?_
      refine lv_aload_n hx hb dX11_isTown_12 rfl (lv_at hl 0 rfl) ?_
      refine z_getR C fl_11_341 Hh dX11_isTown_13 rfl hm (fun x2 hm => ?_)
      refine z_getI C fl_11_230 Hh dX11_isTown_16 rfl hm (fun x3 hm => ?_)
      refine z_icmp_ge (tgt := 26) C dX11_isTown_19 (by decide) rfl rfl hm (fun _ hm => ?_) (fun _ hm => ?_)
      · refine z_iconst C dX11_isTown_26 ?_
        exact z_zretRC C hr hlocks Hh dX11_isTown_27 (by decide) hm
      · refine z_iconst C dX11_isTown_22 ?_
        refine lv_goto (tgt := 27) hx hb dX11_isTown_23 (by decide) ?_
        exact z_zretRC C hr hlocks Hh dX11_isTown_27 (by decide) hm
theorem tg_X11_isMark {h : Hp} {l0 l1 : Int} {r : Int} (hm : M_X11_isMark h l0 l1 = some r) : hT h l0 = 21 := (tk_inv hm).1
set_option maxRecDepth 100000 in
set_option maxHeartbeats 4000000 in
theorem ct_X11_isMark (l : Launch) (g : zGeo) (h : Hp) (l0 l1 : Int) (r : Int) (hm : M_X11_isMark h l0 l1 = some r) : zM l yX11_isMark cX11_isMark 2 (some .boolean) 0 0 0 0 g h [qR g l0, qI l1] h (some (qI r)) := by
  refine z_meth (by decide) (Nat.le_of_ble_eq_true rfl) ?_
  intro p e s m args below meth c H ls C hr hlocks hnm Hh hl
  have C : zC p m c cX11_isMark 2 s args RX11 g := C
  have hnm : meth.name = "isMark" := hnm
  have hx := C.1.1
  have hb := C.1.2.1
  have hl : lv_has ls 2 [(0, qR g l0), (1, qI l1)] := hl
  unfold M_X11_isMark at hm
  replace hm := (tk_inv hm).2
  refine lv_iload_n hx hb dX11_isMark_0 rfl (lv_at hl 1 rfl) ?_
  refine z_if_lt (tgt := 19) C dX11_isMark_1 (by decide) rfl hm (fun _ hm => ?_) (fun _ hm => ?_)
  · refine z_iconst C dX11_isMark_19 ?_
    exact z_zretRC C hr hlocks Hh dX11_isMark_20 (by decide) hm
  · refine lv_iload_n hx hb dX11_isMark_4 rfl (lv_at hl 1 rfl) ?_
    refine lv_aload_n hx hb dX11_isMark_5 rfl (lv_at hl 0 rfl) ?_
    refine z_getR C fl_11_341 Hh dX11_isMark_6 rfl hm (fun x1 hm => ?_)
    refine z_getI C fl_11_215 Hh dX11_isMark_9 rfl hm (fun x2 hm => ?_)
    refine z_icmp_ge (tgt := 19) C dX11_isMark_12 (by decide) rfl rfl hm (fun _ hm => ?_) (fun _ hm => ?_)
    · refine z_iconst C dX11_isMark_19 ?_
      exact z_zretRC C hr hlocks Hh dX11_isMark_20 (by decide) hm
    · refine z_iconst C dX11_isMark_15 ?_
      refine lv_goto (tgt := 20) hx hb dX11_isMark_16 (by decide) ?_
      exact z_zretRC C hr hlocks Hh dX11_isMark_20 (by decide) hm
theorem tg_X11_placeOf {h : Hp} {l0 l1 : Int} {r : Int} (hm : M_X11_placeOf h l0 l1 = some r) : hT h l0 = 21 := (tk_inv hm).1
set_option maxRecDepth 100000 in
set_option maxHeartbeats 4000000 in
theorem ct_X11_placeOf (l : Launch) (g : zGeo) (h : Hp) (l0 l1 : Int) (r : Int) (hm : M_X11_placeOf h l0 l1 = some r) : zM l yX11_placeOf cX11_placeOf 4 (some .int) 0 0 0 0 g h [qR g l0, qI l1] h (some (qI r)) := by
  refine z_meth (by decide) (Nat.le_of_ble_eq_true rfl) ?_
  intro p e s m args below meth c H ls C hr hlocks hnm Hh hl
  have C : zC p m c cX11_placeOf 4 s args RX11 g := C
  have hnm : meth.name = "placeOf" := hnm
  have hx := C.1.1
  have hb := C.1.2.1
  have hl : lv_has ls 4 [(0, qR g l0), (1, qI l1)] := hl
  unfold M_X11_placeOf at hm
  replace hm := (tk_inv hm).2
  refine lv_iload_n hx hb dX11_placeOf_0 rfl (lv_at hl 1 rfl) ?_
  refine z_bipush C dX11_placeOf_1 rfl ?_
  refine z_idiv C dX11_placeOf_3 hm (fun x1 hm => ?_)
  refine lv_istore_n (lv' := [(2, qI x1), (0, qR g l0), (1, qI l1)]) hx hb dX11_placeOf_4 rfl hl (by decide) rfl (fun ls hl => ?_)
  refine lv_iload_n hx hb dX11_placeOf_5 rfl (lv_at hl 2 rfl) ?_
  refine z_bipush C dX11_placeOf_6 rfl ?_
  refine z_irem C dX11_placeOf_8 hm (fun x2 hm => ?_)
  refine lv_istore_n (lv' := [(3, qI x2), (2, qI x1), (0, qR g l0), (1, qI l1)]) hx hb dX11_placeOf_9 rfl hl (by decide) rfl (fun ls hl => ?_)
  refine lv_iload_n hx hb dX11_placeOf_10 rfl (lv_at hl 3 rfl) ?_
  refine z_if_lt (tgt := 36) C dX11_placeOf_11 (by decide) rfl hm (fun _ hm => ?_) (fun _ hm => ?_)
  · refine z_iconst C dX11_placeOf_36 ?_
    refine lv_goto (tgt := 51) hx hb dX11_placeOf_37 (by decide) ?_
    exact z_iretR (h0 := h) C hr hlocks Hh dX11_placeOf_51 hm
  · refine lv_iload_n hx hb dX11_placeOf_14 rfl (lv_at hl 1 rfl) ?_
    refine lv_aload_n hx hb dX11_placeOf_15 rfl (lv_at hl 2 rfl) ?_
    refine z_getR C fl_11_341 Hh dX11_placeOf_16 rfl hm (fun x3 hm => ?_)
    refine z_getI C fl_11_194 Hh dX11_placeOf_19 rfl hm (fun x4 hm => ?_)
    refine z_icmp_ge (tgt := 36) C dX11_placeOf_22 (by decide) rfl rfl hm (fun _ hm => ?_) (fun _ hm => ?_)
    · refine z_iconst C dX11_placeOf_36 ?_
      refine lv_goto (tgt := 51) hx hb dX11_placeOf_37 (by decide) ?_
      exact z_iretR (h0 := h) C hr hlocks Hh dX11_placeOf_51 hm
    · refine lv_iload_n hx hb dX11_placeOf_25 rfl (lv_at hl 0 rfl) ?_
      refine lv_aload_n hx hb dX11_placeOf_26 rfl (lv_at hl 2 rfl) ?_
      refine z_getR C fl_11_341 Hh dX11_placeOf_27 rfl hm (fun x5 hm => ?_)
      refine z_getI C fl_11_256 Hh dX11_placeOf_30 rfl hm (fun x6 hm => ?_)
      refine z_icmp_lt (tgt := 40) C dX11_placeOf_33 (by decide) rfl rfl hm (fun _ hm => ?_) (fun _ hm => ?_)
      · refine lv_iload_n hx hb dX11_placeOf_40 rfl (lv_at hl 0 rfl) ?_
        refine lv_aload_n hx hb dX11_placeOf_41 rfl (lv_at hl 2 rfl) ?_
        refine z_getR C fl_11_341 Hh dX11_placeOf_42 rfl hm (fun x7 hm => ?_)
        refine z_getI C fl_11_194 Hh dX11_placeOf_45 rfl hm (fun x8 hm => ?_)
        refine z_imul C dX11_placeOf_48 ?_
        refine lv_iload_n hx hb dX11_placeOf_49 rfl (lv_at hl 1 rfl) ?_
        refine z_iadd C dX11_placeOf_50 ?_
        exact z_iretR (h0 := h) C hr hlocks Hh dX11_placeOf_51 hm
      · refine z_iconst C dX11_placeOf_36 ?_
        refine lv_goto (tgt := 51) hx hb dX11_placeOf_37 (by decide) ?_
        exact z_iretR (h0 := h) C hr hlocks Hh dX11_placeOf_51 hm
theorem tg_X11_told {h : Hp} {l0 l1 : Int} {r : Int} (hm : M_X11_told h l0 l1 = some r) : hT h l0 = 21 := (tk_inv hm).1
set_option maxRecDepth 100000 in
set_option maxHeartbeats 4000000 in
theorem ct_X11_told (l : Launch) (g : zGeo) (h : Hp) (l0 l1 : Int) (r : Int) (hm : M_X11_told h l0 l1 = some r) : zM l yX11_told cX11_told 2 (some .int) 0 0 0 0 g h [qR g l0, qI l1] h (some (qI r)) := by
  refine z_meth (by decide) (Nat.le_of_ble_eq_true rfl) ?_
  intro p e s m args below meth c H ls C hr hlocks hnm Hh hl
  have C : zC p m c cX11_told 2 s args RX11 g := C
  have hnm : meth.name = "told" := hnm
  have hx := C.1.1
  have hb := C.1.2.1
  have hl : lv_has ls 2 [(0, qR g l0), (1, qI l1)] := hl
  unfold M_X11_told at hm
  replace hm := (tk_inv hm).2
  refine z_bipush C dX11_told_0 rfl ?_
  refine lv_iload_n hx hb dX11_told_2 rfl (lv_at hl 1 rfl) ?_
  refine lv_aload_n hx hb dX11_told_3 rfl (lv_at hl 0 rfl) ?_
  refine z_getR C fl_11_341 Hh dX11_told_4 rfl hm (fun x1 hm => ?_)
  refine z_getI C fl_11_194 Hh dX11_told_7 rfl hm (fun x2 hm => ?_)
  refine z_irem C dX11_told_10 hm (fun x3 hm => ?_)
  refine z_imul C dX11_told_11 ?_
  refine lv_iload_n hx hb dX11_told_12 rfl (lv_at hl 1 rfl) ?_
  refine lv_aload_n hx hb dX11_told_13 rfl (lv_at hl 0 rfl) ?_
  refine z_getR C fl_11_341 Hh dX11_told_14 rfl hm (fun x4 hm => ?_)
  refine z_getI C fl_11_194 Hh dX11_told_17 rfl hm (fun x5 hm => ?_)
  refine z_idiv C dX11_told_20 hm (fun x6 hm => ?_)
  refine z_iadd C dX11_told_21 ?_
  exact z_iretR (h0 := h) C hr hlocks Hh dX11_told_22 hm
theorem tg_X11_isPlace {h : Hp} {l0 l1 l2 : Int} {r : Int} (hm : M_X11_isPlace h l0 l1 l2 = some r) : hT h l0 = 21 := (tk_inv hm).1
set_option maxRecDepth 100000 in
set_option maxHeartbeats 4000000 in
theorem ct_X11_isPlace (l : Launch) (g : zGeo) (h : Hp) (l0 l1 l2 : Int) (r : Int) (hm : M_X11_isPlace h l0 l1 l2 = some r) : zM l yX11_isPlace cX11_isPlace 3 (some .boolean) 1 23 0 0 g h [qR g l0, qI l1, qI l2] h (some (qI r)) := by
  refine z_meth (by decide) (Nat.le_of_ble_eq_true rfl) ?_
  intro p e s m args below meth c H ls C hr hlocks hnm Hh hl
  have C : zC p m c cX11_isPlace 3 s args RX11 g := C
  have hnm : meth.name = "isPlace" := hnm
  have hx := C.1.1
  have hb := C.1.2.1
  have hl : lv_has ls 3 [(0, qR g l0), (1, qI l1), (2, qI l2)] := hl
  unfold M_X11_isPlace at hm
  replace hm := (tk_inv hm).2
  refine lv_aload_n hx hb dX11_isPlace_0 rfl (lv_at hl 0 rfl) ?_
  refine lv_iload_n hx hb dX11_isPlace_1 rfl (lv_at hl 1 rfl) ?_
  refine z_cVIr (vs := [qI l1]) C (fun q hq => ct_X11_isTown l g h l0 l1 q hq) tw_1686 my_X11_isTown (fun q hq => tg_X11_isTown hq) rfl hl.1 Hh ⟨Nat.le_of_ble_eq_true rfl, Nat.le_of_ble_eq_true rfl, Nat.le_of_ble_eq_true rfl, Nat.le_of_ble_eq_true rfl⟩ (Nat.le_of_ble_eq_true rfl) dX11_isPlace_2 rfl hm (fun x1 H locs Hh hm => ?_)
  refine z_if_eq (tgt := 21) C dX11_isPlace_5 (by decide) rfl hm (fun _ hm => ?_) (fun _ hm => ?_)
  · refine z_iconst C dX11_isPlace_21 ?_
    exact z_zretRC C hr hlocks Hh dX11_isPlace_22 (by decide) hm
  · refine lv_aload_n hx hb dX11_isPlace_8 rfl (lv_at hl 0 rfl) ?_
    refine lv_iload_n hx hb dX11_isPlace_9 rfl (lv_at hl 2 rfl) ?_
    refine z_cVIr (vs := [qI l2]) C (fun q hq => ct_X11_placeOf l g h l0 l2 q hq) tw_1702 my_X11_placeOf (fun q hq => tg_X11_placeOf hq) rfl hl.1 Hh ⟨Nat.le_of_ble_eq_true rfl, Nat.le_of_ble_eq_true rfl, Nat.le_of_ble_eq_true rfl, Nat.le_of_ble_eq_true rfl⟩ (Nat.le_of_ble_eq_true rfl) dX11_isPlace_10 rfl hm (fun x2 H locs Hh hm => ?_)
    refine z_iconst C dX11_isPlace_13 ?_
    refine z_icmp_eq (tgt := 21) C dX11_isPlace_14 (by decide) rfl lq_m1 hm (fun _ hm => ?_) (fun _ hm => ?_)
    · refine z_iconst C dX11_isPlace_21 ?_
      exact z_zretRC C hr hlocks Hh dX11_isPlace_22 (by decide) hm
    · refine z_iconst C dX11_isPlace_17 ?_
      refine lv_goto (tgt := 22) hx hb dX11_isPlace_18 (by decide) ?_
      exact z_zretRC C hr hlocks Hh dX11_isPlace_22 (by decide) hm
theorem tg_X11_starts {h : Hp} {l0 : Int} {r : Hp} (hm : M_X11_starts h l0 = some r) : hT h l0 = 21 := (tk_inv hm).1
set_option maxRecDepth 100000 in
set_option maxHeartbeats 4000000 in
theorem ct_X11_starts (l : Launch) (g : zGeo) (h0 : Hp) (l0 : Int) (r : Hp) (hm : M_X11_starts h0 l0 = some r) : zM l yX11_starts cX11_starts 3 none 0 0 0 0 g h0 [qR g l0] r none := by
  refine z_meth (by decide) (Nat.le_of_ble_eq_true rfl) ?_
  intro p e s m args below meth c H ls C hr hlocks hnm Hh hl
  have C : zC p m c cX11_starts 3 s args RX11 g := C
  have hnm : meth.name = "starts" := hnm
  have hx := C.1.1
  have hb := C.1.2.1
  have hl : lv_has ls 3 [(0, qR g l0)] := hl
  unfold M_X11_starts at hm
  replace hm := (tk_inv hm).2
  generalize h0 = h at Hh hm
  have K94 : ∀ (h : Hp) (l0 : Int) (H : Heap) (locs : List Loc) (ls : Array Slot), zH g s h H locs → lv_has ls 3 [(0, qR g l0)] → M_X11_starts_p94 h l0 = some r → W p l e { frames := 0, cells := 0, slots := 0, locals := 0 } s m args below meth c H locs 0 0 (zQ below g r none args s 0 0) (F0 m 94 ls []) := by
    intro h l0  H locs ls Hh hl hm
    unfold M_X11_starts_p94 at hm
    refine lv_aload_n hx hb dX11_starts_94 rfl (lv_at hl 0 rfl) ?_
    refine lv_aload_n hx hb dX11_starts_95 rfl (lv_at hl 0 rfl) ?_
    refine z_getR C fl_11_17 Hh dX11_starts_96 rfl hm (fun x1 hm => ?_)
    refine z_sipush C dX11_starts_99 rfl ?_
    refine z_iald C Hh dX11_starts_102 hm (fun x2 hm => ?_)
    refine z_putI C hnm pl_11_355 Hh dX11_starts_103 rfl hm (fun h H locs Hh hm => ?_)
    exact z_vret C hr hlocks Hh dX11_starts_106 hm
  have KL29 : ∀ (n : Nat) (h : Hp) (l0 l1 : Int) (H : Heap) (locs : List Loc) (ls : Array Slot), zH g s h H locs → lv_has ls 3 [(0, qR g l0), (1, qI l1)] → M_X11_starts_w29 n h l0 l1 = some r → W p l e { frames := 0, cells := 0, slots := 0, locals := 0 } s m args below meth c H locs 0 0 (zQ below g r none args s 0 0) (F0 m 29 ls []) := by
    intro n
    induction n with
    | zero => intro h l0 l1 H locs ls Hh hl hm; cases hm
    | succ n ih29 =>
      intro h l0 l1 H locs ls Hh hl hm
      obtain ⟨z29, hm, hc29⟩ := wh_inv hm
      have hm : M_X11_starts_b29 h l0 l1 = some z29 := hm
      have K88 : ∀ (h : Hp) (l1 : Int) (H : Heap) (locs : List Loc) (ls : Array Slot), zH g s h H locs → lv_has ls 3 [(0, qR g l0), (1, qI l1)] → M_X11_starts_p88 h l0 l1 = some z29 → W p l e { frames := 0, cells := 0, slots := 0, locals := 0 } s m args below meth c H locs 0 0 (zQ below g r none args s 0 0) (F0 m 88 ls []) := by
        intro h l1  H locs ls Hh hl hm
        unfold M_X11_starts_p88 at hm
        refine z_iinc (x := l1) (k := 1) (lv' := [(1, qI (l1 + 1)), (0, qR g l0)]) C dX11_starts_88 hl rfl (by decide) rfl (fun ls hl => ?_)
        refine lv_goto (tgt := 29) hx hb dX11_starts_91 (by decide) ?_
        cases hm
        exact ih29 h l0 (l1 + 1) _ _ _ Hh (lv_sub hl [1, 0] rfl) hc29
      have KL53 : ∀ (n : Nat) (h : Hp) (l1 l2 : Int) (H : Heap) (locs : List Loc) (ls : Array Slot), zH g s h H locs → lv_has ls 3 [(0, qR g l0), (1, qI l1), (2, qI l2)] → M_X11_starts_w53 n h l0 l1 l2 = some z29 → W p l e { frames := 0, cells := 0, slots := 0, locals := 0 } s m args below meth c H locs 0 0 (zQ below g r none args s 0 0) (F0 m 53 ls []) := by
        intro n
        induction n with
        | zero => intro h l1 l2 H locs ls Hh hl hm; cases hm
        | succ n ih53 =>
          intro h l1 l2 H locs ls Hh hl hm
          obtain ⟨z53, hm, hc53⟩ := wh_inv hm
          have hm : M_X11_starts_b53 h l0 l1 l2 = some z53 := hm
          unfold M_X11_starts_b53 at hm
          refine lv_iload_n hx hb dX11_starts_53 rfl (lv_at hl 2 rfl) ?_
          refine z_iconst C dX11_starts_54 ?_
          refine z_icmp_ge (tgt := 88) C dX11_starts_55 (by decide) rfl lq_p4 hm (fun _ hm => ?_) (fun _ hm => ?_)
          · cases hm
            exact K88 h l1 _ _ _ Hh (lv_sub hl [0, 1] rfl) hc53
          · refine lv_aload_n hx hb dX11_starts_58 rfl (lv_at hl 0 rfl) ?_
            refine z_getR C fl_11_34 Hh dX11_starts_59 rfl hm (fun x3 hm => ?_)
            refine z_iconst C dX11_starts_62 ?_
            refine lv_iload_n hx hb dX11_starts_63 rfl (lv_at hl 1 rfl) ?_
            refine z_imul C dX11_starts_64 ?_
            refine lv_iload_n hx hb dX11_starts_65 rfl (lv_at hl 2 rfl) ?_
            refine z_iadd C dX11_starts_66 ?_
            refine lv_aload_n hx hb dX11_starts_67 rfl (lv_at hl 0 rfl) ?_
            refine z_getR C fl_11_17 Hh dX11_starts_68 rfl hm (fun x4 hm => ?_)
            refine z_sipush C dX11_starts_71 rfl ?_
            refine z_iconst C dX11_starts_74 ?_
            refine lv_iload_n hx hb dX11_starts_75 rfl (lv_at hl 1 rfl) ?_
            refine z_imul C dX11_starts_76 ?_
            refine z_iadd C dX11_starts_77 ?_
            refine lv_iload_n hx hb dX11_starts_78 rfl (lv_at hl 2 rfl) ?_
            refine z_iadd C dX11_starts_79 ?_
            refine z_iald C Hh dX11_starts_80 hm (fun x5 hm => ?_)
            refine z_iast C Hh dX11_starts_81 hm (fun h H locs Hh hm => ?_)
            refine z_iinc (x := l2) (k := 2) (lv' := [(2, qI (l2 + 1)), (0, qR g l0), (1, qI l1)]) C dX11_starts_82 hl rfl (by decide) rfl (fun ls hl => ?_)
            refine lv_goto (tgt := 53) hx hb dX11_starts_85 (by decide) ?_
            cases hm
            exact ih53 h l1 (l2 + 1) _ _ _ Hh (lv_sub hl [1, 2, 0] rfl) hc53
      unfold M_X11_starts_b29 at hm
      refine lv_iload_n hx hb dX11_starts_29 rfl (lv_at hl 1 rfl) ?_
      refine z_bipush C dX11_starts_30 rfl ?_
      refine z_icmp_ge (tgt := 94) C dX11_starts_32 (by decide) rfl lq_p6 hm (fun _ hm => ?_) (fun _ hm => ?_)
      · cases hm
        exact K94 h l0 _ _ _ Hh (lv_sub hl [0] rfl) hc29
      · refine lv_aload_n hx hb dX11_starts_35 rfl (lv_at hl 0 rfl) ?_
        refine z_getR C fl_11_31 Hh dX11_starts_36 rfl hm (fun x6 hm => ?_)
        refine lv_iload_n hx hb dX11_starts_39 rfl (lv_at hl 1 rfl) ?_
        refine lv_aload_n hx hb dX11_starts_40 rfl (lv_at hl 0 rfl) ?_
        refine z_getR C fl_11_17 Hh dX11_starts_41 rfl hm (fun x7 hm => ?_)
        refine z_sipush C dX11_starts_44 rfl ?_
        refine lv_iload_n hx hb dX11_starts_47 rfl (lv_at hl 1 rfl) ?_
        refine z_iadd C dX11_starts_48 ?_
        refine z_iald C Hh dX11_starts_49 hm (fun x8 hm => ?_)
        refine z_iast C Hh dX11_starts_50 hm (fun h H locs Hh hm => ?_)
        refine z_iconst C dX11_starts_51 ?_
        refine lv_istore_n (lv' := [(2, qI 0), (0, qR g l0), (1, qI l1)]) hx hb dX11_starts_52 rfl hl (by decide) rfl (fun ls hl => ?_)
        exact KL53 FU h l1 0 _ _ _ Hh (lv_sub hl [1, 2, 0] rfl) hm
  have K27 : ∀ (h : Hp) (l0 : Int) (H : Heap) (locs : List Loc) (ls : Array Slot), zH g s h H locs → lv_has ls 3 [(0, qR g l0)] → M_X11_starts_p27 h l0 = some r → W p l e { frames := 0, cells := 0, slots := 0, locals := 0 } s m args below meth c H locs 0 0 (zQ below g r none args s 0 0) (F0 m 27 ls []) := by
    intro h l0  H locs ls Hh hl hm
    unfold M_X11_starts_p27 at hm
    refine z_iconst C dX11_starts_27 ?_
    refine lv_istore_n (lv' := [(1, qI 0), (0, qR g l0)]) hx hb dX11_starts_28 rfl hl (by decide) rfl (fun ls hl => ?_)
    exact KL29 FU h l0 0 _ _ _ Hh (lv_sub hl [1, 0] rfl) hm
  have KL2 : ∀ (n : Nat) (h : Hp) (l0 l1 : Int) (H : Heap) (locs : List Loc) (ls : Array Slot), zH g s h H locs → lv_has ls 3 [(0, qR g l0), (1, qI l1)] → M_X11_starts_w2 n h l0 l1 = some r → W p l e { frames := 0, cells := 0, slots := 0, locals := 0 } s m args below meth c H locs 0 0 (zQ below g r none args s 0 0) (F0 m 2 ls []) := by
    intro n
    induction n with
    | zero => intro h l0 l1 H locs ls Hh hl hm; cases hm
    | succ n ih2 =>
      intro h l0 l1 H locs ls Hh hl hm
      obtain ⟨z2, hm, hc2⟩ := wh_inv hm
      have hm : M_X11_starts_b2 h l0 l1 = some z2 := hm
      unfold M_X11_starts_b2 at hm
      refine lv_iload_n hx hb dX11_starts_2 rfl (lv_at hl 1 rfl) ?_
      refine z_sipush C dX11_starts_3 rfl ?_
      refine z_icmp_ge (tgt := 27) C dX11_starts_6 (by decide) rfl lq_p216 hm (fun _ hm => ?_) (fun _ hm => ?_)
      · cases hm
        exact K27 h l0 _ _ _ Hh (lv_sub hl [0] rfl) hc2
      · refine lv_aload_n hx hb dX11_starts_9 rfl (lv_at hl 0 rfl) ?_
        refine z_getR C fl_11_28 Hh dX11_starts_10 rfl hm (fun x9 hm => ?_)
        refine lv_iload_n hx hb dX11_starts_13 rfl (lv_at hl 1 rfl) ?_
        refine lv_aload_n hx hb dX11_starts_14 rfl (lv_at hl 0 rfl) ?_
        refine z_getR C fl_11_17 Hh dX11_starts_15 rfl hm (fun x10 hm => ?_)
        refine lv_iload_n hx hb dX11_starts_18 rfl (lv_at hl 1 rfl) ?_
        refine z_iald C Hh dX11_starts_19 hm (fun x11 hm => ?_)
        refine z_iast C Hh dX11_starts_20 hm (fun h H locs Hh hm => ?_)
        refine z_iinc (x := l1) (k := 1) (lv' := [(1, qI (l1 + 1)), (0, qR g l0)]) C dX11_starts_21 hl rfl (by decide) rfl (fun ls hl => ?_)
        refine lv_goto (tgt := 2) hx hb dX11_starts_24 (by decide) ?_
        cases hm
        exact ih2 h l0 (l1 + 1) _ _ _ Hh (lv_sub hl [1, 0] rfl) hc2
  refine z_iconst C dX11_starts_0 ?_
  refine lv_istore_n (lv' := [(1, qI 0), (0, qR g l0)]) hx hb dX11_starts_1 rfl hl (by decide) rfl (fun ls hl => ?_)
  exact KL2 FU h l0 0 _ _ _ Hh (lv_sub hl [1, 0] rfl) hm
theorem tg_X11_startsTold {h : Hp} {l0 : Int} {r : Hp} (hm : M_X11_startsTold h l0 = some r) : hT h l0 = 21 := (tk_inv hm).1
set_option maxRecDepth 100000 in
set_option maxHeartbeats 4000000 in
theorem ct_X11_startsTold (l : Launch) (g : zGeo) (h0 : Hp) (l0 : Int) (r : Hp) (hm : M_X11_startsTold h0 l0 = some r) : zM l yX11_startsTold cX11_startsTold 3 none 0 0 0 0 g h0 [qR g l0] r none := by
  refine z_meth (by decide) (Nat.le_of_ble_eq_true rfl) ?_
  intro p e s m args below meth c H ls C hr hlocks hnm Hh hl
  have C : zC p m c cX11_startsTold 3 s args RX11 g := C
  have hnm : meth.name = "startsTold" := hnm
  have hx := C.1.1
  have hb := C.1.2.1
  have hl : lv_has ls 3 [(0, qR g l0)] := hl
  unfold M_X11_startsTold at hm
  replace hm := (tk_inv hm).2
  generalize h0 = h at Hh hm
  have K111 : ∀ (h : Hp) (l0 : Int) (H : Heap) (locs : List Loc) (ls : Array Slot), zH g s h H locs → lv_has ls 3 [(0, qR g l0)] → M_X11_startsTold_p111 h l0 = some r → W p l e { frames := 0, cells := 0, slots := 0, locals := 0 } s m args below meth c H locs 0 0 (zQ below g r none args s 0 0) (F0 m 111 ls []) := by
    intro h l0  H locs ls Hh hl hm
    unfold M_X11_startsTold_p111 at hm
    refine lv_aload_n hx hb dX11_startsTold_111 rfl (lv_at hl 0 rfl) ?_
    refine z_iconst C dX11_startsTold_112 ?_
    refine z_putI C hnm pl_11_355 Hh dX11_startsTold_113 rfl hm (fun h H locs Hh hm => ?_)
    exact z_vret C hr hlocks Hh dX11_startsTold_116 hm
  have KL32 : ∀ (n : Nat) (h : Hp) (l0 l1 : Int) (H : Heap) (locs : List Loc) (ls : Array Slot), zH g s h H locs → lv_has ls 3 [(0, qR g l0), (1, qI l1)] → M_X11_startsTold_w32 n h l0 l1 = some r → W p l e { frames := 0, cells := 0, slots := 0, locals := 0 } s m args below meth c H locs 0 0 (zQ below g r none args s 0 0) (F0 m 32 ls []) := by
    intro n
    induction n with
    | zero => intro h l0 l1 H locs ls Hh hl hm; cases hm
    | succ n ih32 =>
      intro h l0 l1 H locs ls Hh hl hm
      obtain ⟨z32, hm, hc32⟩ := wh_inv hm
      have hm : M_X11_startsTold_b32 h l0 l1 = some z32 := hm
      have K105 : ∀ (h : Hp) (l1 : Int) (H : Heap) (locs : List Loc) (ls : Array Slot), zH g s h H locs → lv_has ls 3 [(0, qR g l0), (1, qI l1)] → M_X11_startsTold_p105 h l0 l1 = some z32 → W p l e { frames := 0, cells := 0, slots := 0, locals := 0 } s m args below meth c H locs 0 0 (zQ below g r none args s 0 0) (F0 m 105 ls []) := by
        intro h l1  H locs ls Hh hl hm
        unfold M_X11_startsTold_p105 at hm
        refine z_iinc (x := l1) (k := 1) (lv' := [(1, qI (l1 + 1)), (0, qR g l0)]) C dX11_startsTold_105 hl rfl (by decide) rfl (fun ls hl => ?_)
        refine lv_goto (tgt := 32) hx hb dX11_startsTold_108 (by decide) ?_
        cases hm
        exact ih32 h l0 (l1 + 1) _ _ _ Hh (lv_sub hl [1, 0] rfl) hc32
      have KL71 : ∀ (n : Nat) (h : Hp) (l1 l2 : Int) (H : Heap) (locs : List Loc) (ls : Array Slot), zH g s h H locs → lv_has ls 3 [(0, qR g l0), (1, qI l1), (2, qI l2)] → M_X11_startsTold_w71 n h l0 l1 l2 = some z32 → W p l e { frames := 0, cells := 0, slots := 0, locals := 0 } s m args below meth c H locs 0 0 (zQ below g r none args s 0 0) (F0 m 71 ls []) := by
        intro n
        induction n with
        | zero => intro h l1 l2 H locs ls Hh hl hm; cases hm
        | succ n ih71 =>
          intro h l1 l2 H locs ls Hh hl hm
          obtain ⟨z71, hm, hc71⟩ := wh_inv hm
          have hm : M_X11_startsTold_b71 h l0 l1 l2 = some z71 := hm
          unfold M_X11_startsTold_b71 at hm
          refine lv_iload_n hx hb dX11_startsTold_71 rfl (lv_at hl 2 rfl) ?_
          refine z_iconst C dX11_startsTold_72 ?_
          refine z_icmp_ge (tgt := 105) C dX11_startsTold_73 (by decide) rfl lq_p4 hm (fun _ hm => ?_) (fun _ hm => ?_)
          · cases hm
            exact K105 h l1 _ _ _ Hh (lv_sub hl [0, 1] rfl) hc71
          · refine lv_aload_n hx hb dX11_startsTold_76 rfl (lv_at hl 0 rfl) ?_
            refine z_getR C fl_11_34 Hh dX11_startsTold_77 rfl hm (fun x1 hm => ?_)
            refine z_iconst C dX11_startsTold_80 ?_
            refine lv_iload_n hx hb dX11_startsTold_81 rfl (lv_at hl 1 rfl) ?_
            refine z_imul C dX11_startsTold_82 ?_
            refine lv_iload_n hx hb dX11_startsTold_83 rfl (lv_at hl 2 rfl) ?_
            refine z_iadd C dX11_startsTold_84 ?_
            refine lv_aload_n hx hb dX11_startsTold_85 rfl (lv_at hl 0 rfl) ?_
            refine z_getR C fl_11_341 Hh dX11_startsTold_86 rfl hm (fun x2 hm => ?_)
            refine z_getR C fl_11_270 Hh dX11_startsTold_89 rfl hm (fun x3 hm => ?_)
            refine z_iconst C dX11_startsTold_92 ?_
            refine lv_iload_n hx hb dX11_startsTold_93 rfl (lv_at hl 1 rfl) ?_
            refine z_imul C dX11_startsTold_94 ?_
            refine lv_iload_n hx hb dX11_startsTold_95 rfl (lv_at hl 2 rfl) ?_
            refine z_iadd C dX11_startsTold_96 ?_
            refine z_iald C Hh dX11_startsTold_97 hm (fun x4 hm => ?_)
            refine z_iast C Hh dX11_startsTold_98 hm (fun h H locs Hh hm => ?_)
            refine z_iinc (x := l2) (k := 2) (lv' := [(2, qI (l2 + 1)), (0, qR g l0), (1, qI l1)]) C dX11_startsTold_99 hl rfl (by decide) rfl (fun ls hl => ?_)
            refine lv_goto (tgt := 71) hx hb dX11_startsTold_102 (by decide) ?_
            cases hm
            exact ih71 h l1 (l2 + 1) _ _ _ Hh (lv_sub hl [1, 2, 0] rfl) hc71
      have K68 : ∀ (h : Hp) (l1 : Int) (s0 s1 s2 : Int) (H : Heap) (locs : List Loc) (ls : Array Slot), zH g s h H locs → lv_has ls 3 [(0, qR g l0), (1, qI l1)] → M_X11_startsTold_p68 h l0 l1 s0 s1 s2 = some z32 → W p l e { frames := 0, cells := 0, slots := 0, locals := 0 } s m args below meth c H locs 0 0 (zQ below g r none args s 0 0) (F0 m 68 ls [qI s2, qI s1, qR g s0]) := by
        intro h l1 s0 s1 s2 H locs ls Hh hl hm
        unfold M_X11_startsTold_p68 at hm
        refine z_iast C Hh dX11_startsTold_68 hm (fun h H locs Hh hm => ?_)
        refine z_iconst C dX11_startsTold_69 ?_
        refine lv_istore_n (lv' := [(2, qI 0), (0, qR g l0), (1, qI l1)]) hx hb dX11_startsTold_70 rfl hl (by decide) rfl (fun ls hl => ?_)
        exact KL71 FU h l1 0 _ _ _ Hh (lv_sub hl [1, 2, 0] rfl) hm
      unfold M_X11_startsTold_b32 at hm
      refine lv_iload_n hx hb dX11_startsTold_32 rfl (lv_at hl 1 rfl) ?_
      refine z_bipush C dX11_startsTold_33 rfl ?_
      refine z_icmp_ge (tgt := 111) C dX11_startsTold_35 (by decide) rfl lq_p6 hm (fun _ hm => ?_) (fun _ hm => ?_)
      · cases hm
        exact K111 h l0 _ _ _ Hh (lv_sub hl [0] rfl) hc32
      · refine lv_aload_n hx hb dX11_startsTold_38 rfl (lv_at hl 0 rfl) ?_
        refine z_getR C fl_11_31 Hh dX11_startsTold_39 rfl hm (fun x5 hm => ?_)
        refine lv_iload_n hx hb dX11_startsTold_42 rfl (lv_at hl 1 rfl) ?_
        refine lv_iload_n hx hb dX11_startsTold_43 rfl (lv_at hl 1 rfl) ?_
        refine lv_aload_n hx hb dX11_startsTold_44 rfl (lv_at hl 0 rfl) ?_
        refine z_getR C fl_11_341 Hh dX11_startsTold_45 rfl hm (fun x6 hm => ?_)
        refine z_getI C fl_11_230 Hh dX11_startsTold_48 rfl hm (fun x7 hm => ?_)
        refine z_icmp_ge (tgt := 66) C dX11_startsTold_51 (by decide) rfl rfl hm (fun _ hm => ?_) (fun _ hm => ?_)
        · refine z_bipush C dX11_startsTold_66 rfl ?_
          exact K68 h l1 x5 l1 (-2) _ _ _ Hh (lv_sub hl [0, 1] rfl) hm
        · refine lv_aload_n hx hb dX11_startsTold_54 rfl (lv_at hl 0 rfl) ?_
          refine z_getR C fl_11_341 Hh dX11_startsTold_55 rfl hm (fun x8 hm => ?_)
          refine z_getR C fl_11_268 Hh dX11_startsTold_58 rfl hm (fun x9 hm => ?_)
          refine lv_iload_n hx hb dX11_startsTold_61 rfl (lv_at hl 1 rfl) ?_
          refine z_iald C Hh dX11_startsTold_62 hm (fun x10 hm => ?_)
          refine lv_goto (tgt := 68) hx hb dX11_startsTold_63 (by decide) ?_
          exact K68 h l1 x5 l1 x10 _ _ _ Hh (lv_sub hl [0, 1] rfl) hm
  have K30 : ∀ (h : Hp) (l0 : Int) (H : Heap) (locs : List Loc) (ls : Array Slot), zH g s h H locs → lv_has ls 3 [(0, qR g l0)] → M_X11_startsTold_p30 h l0 = some r → W p l e { frames := 0, cells := 0, slots := 0, locals := 0 } s m args below meth c H locs 0 0 (zQ below g r none args s 0 0) (F0 m 30 ls []) := by
    intro h l0  H locs ls Hh hl hm
    unfold M_X11_startsTold_p30 at hm
    refine z_iconst C dX11_startsTold_30 ?_
    refine lv_istore_n (lv' := [(1, qI 0), (0, qR g l0)]) hx hb dX11_startsTold_31 rfl hl (by decide) rfl (fun ls hl => ?_)
    exact KL32 FU h l0 0 _ _ _ Hh (lv_sub hl [1, 0] rfl) hm
  have KL2 : ∀ (n : Nat) (h : Hp) (l0 l1 : Int) (H : Heap) (locs : List Loc) (ls : Array Slot), zH g s h H locs → lv_has ls 3 [(0, qR g l0), (1, qI l1)] → M_X11_startsTold_w2 n h l0 l1 = some r → W p l e { frames := 0, cells := 0, slots := 0, locals := 0 } s m args below meth c H locs 0 0 (zQ below g r none args s 0 0) (F0 m 2 ls []) := by
    intro n
    induction n with
    | zero => intro h l0 l1 H locs ls Hh hl hm; cases hm
    | succ n ih2 =>
      intro h l0 l1 H locs ls Hh hl hm
      obtain ⟨z2, hm, hc2⟩ := wh_inv hm
      have hm : M_X11_startsTold_b2 h l0 l1 = some z2 := hm
      unfold M_X11_startsTold_b2 at hm
      refine lv_iload_n hx hb dX11_startsTold_2 rfl (lv_at hl 1 rfl) ?_
      refine z_sipush C dX11_startsTold_3 rfl ?_
      refine z_icmp_ge (tgt := 30) C dX11_startsTold_6 (by decide) rfl lq_p216 hm (fun _ hm => ?_) (fun _ hm => ?_)
      · cases hm
        exact K30 h l0 _ _ _ Hh (lv_sub hl [0] rfl) hc2
      · refine lv_aload_n hx hb dX11_startsTold_9 rfl (lv_at hl 0 rfl) ?_
        refine z_getR C fl_11_28 Hh dX11_startsTold_10 rfl hm (fun x11 hm => ?_)
        refine lv_iload_n hx hb dX11_startsTold_13 rfl (lv_at hl 1 rfl) ?_
        refine lv_aload_n hx hb dX11_startsTold_14 rfl (lv_at hl 0 rfl) ?_
        refine z_getR C fl_11_341 Hh dX11_startsTold_15 rfl hm (fun x12 hm => ?_)
        refine z_getR C fl_11_262 Hh dX11_startsTold_18 rfl hm (fun x13 hm => ?_)
        refine lv_iload_n hx hb dX11_startsTold_21 rfl (lv_at hl 1 rfl) ?_
        refine z_iald C Hh dX11_startsTold_22 hm (fun x14 hm => ?_)
        refine z_iast C Hh dX11_startsTold_23 hm (fun h H locs Hh hm => ?_)
        refine z_iinc (x := l1) (k := 1) (lv' := [(1, qI (l1 + 1)), (0, qR g l0)]) C dX11_startsTold_24 hl rfl (by decide) rfl (fun ls hl => ?_)
        refine lv_goto (tgt := 2) hx hb dX11_startsTold_27 (by decide) ?_
        cases hm
        exact ih2 h l0 (l1 + 1) _ _ _ Hh (lv_sub hl [1, 0] rfl) hc2
  refine z_iconst C dX11_startsTold_0 ?_
  refine lv_istore_n (lv' := [(1, qI 0), (0, qR g l0)]) hx hb dX11_startsTold_1 rfl hl (by decide) rfl (fun ls hl => ?_)
  exact KL2 FU h l0 0 _ _ _ Hh (lv_sub hl [1, 0] rfl) hm
theorem tg_X11_column {h : Hp} {l0 l1 : Int} {r : Int} (hm : M_X11_column h l0 l1 = some r) : hT h l0 = 21 := (tk_inv hm).1
set_option maxRecDepth 100000 in
set_option maxHeartbeats 4000000 in
theorem ct_X11_column (l : Launch) (g : zGeo) (h : Hp) (l0 l1 : Int) (r : Int) (hm : M_X11_column h l0 l1 = some r) : zM l yX11_column cX11_column 2 (some .int) 0 0 0 0 g h [qR g l0, qI l1] h (some (qI r)) := by
  refine z_meth (by decide) (Nat.le_of_ble_eq_true rfl) ?_
  intro p e s m args below meth c H ls C hr hlocks hnm Hh hl
  have C : zC p m c cX11_column 2 s args RX11 g := C
  have hnm : meth.name = "column" := hnm
  have hx := C.1.1
  have hb := C.1.2.1
  have hl : lv_has ls 2 [(0, qR g l0), (1, qI l1)] := hl
  unfold M_X11_column at hm
  replace hm := (tk_inv hm).2
  refine lv_iload_n hx hb dX11_column_0 rfl (lv_at hl 1 rfl) ?_
  refine lv_aload_n hx hb dX11_column_1 rfl (lv_at hl 0 rfl) ?_
  refine z_getR C fl_11_341 Hh dX11_column_2 rfl hm (fun x1 hm => ?_)
  refine z_getI C fl_11_194 Hh dX11_column_5 rfl hm (fun x2 hm => ?_)
  refine z_irem C dX11_column_8 hm (fun x3 hm => ?_)
  exact z_iretR (h0 := h) C hr hlocks Hh dX11_column_9 hm
theorem tg_X11_rowOf {h : Hp} {l0 l1 : Int} {r : Int} (hm : M_X11_rowOf h l0 l1 = some r) : hT h l0 = 21 := (tk_inv hm).1
set_option maxRecDepth 100000 in
set_option maxHeartbeats 4000000 in
theorem ct_X11_rowOf (l : Launch) (g : zGeo) (h : Hp) (l0 l1 : Int) (r : Int) (hm : M_X11_rowOf h l0 l1 = some r) : zM l yX11_rowOf cX11_rowOf 2 (some .int) 0 0 0 0 g h [qR g l0, qI l1] h (some (qI r)) := by
  refine z_meth (by decide) (Nat.le_of_ble_eq_true rfl) ?_
  intro p e s m args below meth c H ls C hr hlocks hnm Hh hl
  have C : zC p m c cX11_rowOf 2 s args RX11 g := C
  have hnm : meth.name = "rowOf" := hnm
  have hx := C.1.1
  have hb := C.1.2.1
  have hl : lv_has ls 2 [(0, qR g l0), (1, qI l1)] := hl
  unfold M_X11_rowOf at hm
  replace hm := (tk_inv hm).2
  refine lv_iload_n hx hb dX11_rowOf_0 rfl (lv_at hl 1 rfl) ?_
  refine lv_aload_n hx hb dX11_rowOf_1 rfl (lv_at hl 0 rfl) ?_
  refine z_getR C fl_11_341 Hh dX11_rowOf_2 rfl hm (fun x1 hm => ?_)
  refine z_getI C fl_11_194 Hh dX11_rowOf_5 rfl hm (fun x2 hm => ?_)
  refine z_idiv C dX11_rowOf_8 hm (fun x3 hm => ?_)
  exact z_iretR (h0 := h) C hr hlocks Hh dX11_rowOf_9 hm
theorem tg_X11_at {h : Hp} {l0 l1 l2 : Int} {r : Int} (hm : M_X11_at h l0 l1 l2 = some r) : hT h l0 = 21 := (tk_inv hm).1
set_option maxRecDepth 100000 in
set_option maxHeartbeats 4000000 in
theorem ct_X11_at (l : Launch) (g : zGeo) (h : Hp) (l0 l1 l2 : Int) (r : Int) (hm : M_X11_at h l0 l1 l2 = some r) : zM l yX11_at cX11_at 3 (some .int) 0 0 0 0 g h [qR g l0, qI l1, qI l2] h (some (qI r)) := by
  refine z_meth (by decide) (Nat.le_of_ble_eq_true rfl) ?_
  intro p e s m args below meth c H ls C hr hlocks hnm Hh hl
  have C : zC p m c cX11_at 3 s args RX11 g := C
  have hnm : meth.name = "at" := hnm
  have hx := C.1.1
  have hb := C.1.2.1
  have hl : lv_has ls 3 [(0, qR g l0), (1, qI l1), (2, qI l2)] := hl
  unfold M_X11_at at hm
  replace hm := (tk_inv hm).2
  refine lv_iload_n hx hb dX11_at_0 rfl (lv_at hl 2 rfl) ?_
  refine lv_aload_n hx hb dX11_at_1 rfl (lv_at hl 0 rfl) ?_
  refine z_getR C fl_11_341 Hh dX11_at_2 rfl hm (fun x1 hm => ?_)
  refine z_getI C fl_11_194 Hh dX11_at_5 rfl hm (fun x2 hm => ?_)
  refine z_imul C dX11_at_8 ?_
  refine lv_iload_n hx hb dX11_at_9 rfl (lv_at hl 1 rfl) ?_
  refine z_iadd C dX11_at_10 ?_
  exact z_iretR (h0 := h) C hr hlocks Hh dX11_at_11 hm
theorem tg_X11_from {h : Hp} {l0 l1 l2 : Int} {r : Int} (hm : M_X11_from h l0 l1 l2 = some r) : hT h l0 = 21 := (tk_inv hm).1
set_option maxRecDepth 100000 in
set_option maxHeartbeats 4000000 in
theorem ct_X11_from (l : Launch) (g : zGeo) (h : Hp) (l0 l1 l2 : Int) (r : Int) (hm : M_X11_from h l0 l1 l2 = some r) : zM l yX11_from cX11_from 7 (some .int) 1 22 0 0 g h [qR g l0, qI l1, qI l2] h (some (qI r)) := by
  refine z_meth (by decide) (Nat.le_of_ble_eq_true rfl) ?_
  intro p e s m args below meth c H ls C hr hlocks hnm Hh hl
  have C : zC p m c cX11_from 7 s args RX11 g := C
  have hnm : meth.name = "from" := hnm
  have hx := C.1.1
  have hb := C.1.2.1
  have hl : lv_has ls 7 [(0, qR g l0), (1, qI l1), (2, qI l2)] := hl
  unfold M_X11_from at hm
  replace hm := (tk_inv hm).2
  refine lv_aload_n hx hb dX11_from_0 rfl (lv_at hl 0 rfl) ?_
  refine lv_iload_n hx hb dX11_from_1 rfl (lv_at hl 2 rfl) ?_
  refine z_cVIr (vs := [qI l2]) C (fun q hq => ct_X11_column l g h l0 l2 q hq) tw_1742 my_X11_column (fun q hq => tg_X11_column hq) rfl hl.1 Hh ⟨Nat.le_of_ble_eq_true rfl, Nat.le_of_ble_eq_true rfl, Nat.le_of_ble_eq_true rfl, Nat.le_of_ble_eq_true rfl⟩ (Nat.le_of_ble_eq_true rfl) dX11_from_2 rfl hm (fun x1 H locs Hh hm => ?_)
  refine lv_istore_n (lv' := [(3, qI x1), (0, qR g l0), (1, qI l1), (2, qI l2)]) hx hb dX11_from_5 rfl hl (by decide) rfl (fun ls hl => ?_)
  refine lv_aload_n hx hb dX11_from_6 rfl (lv_at hl 1 rfl) ?_
  refine lv_iload_n hx hb dX11_from_7 rfl (lv_at hl 3 rfl) ?_
  refine z_cVIr (vs := [qI l2]) C (fun q hq => ct_X11_rowOf l g h l0 l2 q hq) tw_1746 my_X11_rowOf (fun q hq => tg_X11_rowOf hq) rfl hl.1 Hh ⟨Nat.le_of_ble_eq_true rfl, Nat.le_of_ble_eq_true rfl, Nat.le_of_ble_eq_true rfl, Nat.le_of_ble_eq_true rfl⟩ (Nat.le_of_ble_eq_true rfl) dX11_from_8 rfl hm (fun x2 H locs Hh hm => ?_)
  refine lv_istore (lv' := [(4, qI x2), (3, qI x1), (0, qR g l0), (1, qI l1), (2, qI l2)]) hx hb dX11_from_11 hl (by decide) rfl (fun ls hl => ?_)
  refine lv_aload_n hx hb dX11_from_13 rfl (lv_at hl 2 rfl) ?_
  refine z_getR C fl_11_34 Hh dX11_from_14 rfl hm (fun x3 hm => ?_)
  refine z_iconst C dX11_from_17 ?_
  refine lv_iload_n hx hb dX11_from_18 rfl (lv_at hl 3 rfl) ?_
  refine z_imul C dX11_from_19 ?_
  refine z_iconst C dX11_from_20 ?_
  refine z_iadd C dX11_from_21 ?_
  refine z_iald C Hh dX11_from_22 hm (fun x4 hm => ?_)
  refine lv_istore (lv' := [(5, qI x4), (4, qI x2), (3, qI x1), (0, qR g l0), (1, qI l1), (2, qI l2)]) hx hb dX11_from_23 hl (by decide) rfl (fun ls hl => ?_)
  refine lv_aload_n hx hb dX11_from_25 rfl (lv_at hl 3 rfl) ?_
  refine z_getR C fl_11_34 Hh dX11_from_26 rfl hm (fun x5 hm => ?_)
  refine z_iconst C dX11_from_29 ?_
  refine lv_iload_n hx hb dX11_from_30 rfl (lv_at hl 4 rfl) ?_
  refine z_imul C dX11_from_31 ?_
  refine z_iconst C dX11_from_32 ?_
  refine z_iadd C dX11_from_33 ?_
  refine z_iald C Hh dX11_from_34 hm (fun x6 hm => ?_)
  refine lv_istore (lv' := [(6, qI x6), (5, qI x4), (4, qI x2), (3, qI x1), (0, qR g l0), (1, qI l1), (2, qI l2)]) hx hb dX11_from_35 hl (by decide) rfl (fun ls hl => ?_)
  refine lv_aload_n hx hb dX11_from_37 rfl (lv_at hl 4 rfl) ?_
  refine z_getR C fl_11_34 Hh dX11_from_38 rfl hm (fun x7 hm => ?_)
  refine z_iconst C dX11_from_41 ?_
  refine lv_iload_n hx hb dX11_from_42 rfl (lv_at hl 5 rfl) ?_
  refine z_imul C dX11_from_43 ?_
  refine z_iald C Hh dX11_from_44 hm (fun x8 hm => ?_)
  refine z_sw hm (fun q hm => ?_) (fun q0 hm => ?_)
  · refine z_tin (tgt := 88) (off := 43) C dX11_from_45 q (by decide) (by decide) rfl (by decide) ?_
    refine lv_aload_n hx hb dX11_from_88 rfl (lv_at hl 4 rfl) ?_
    refine lv_iload_n hx hb dX11_from_89 rfl (lv_at hl 3 rfl) ?_
    refine lv_iload hx hb dX11_from_90 (lv_at hl 1 rfl) ?_
    refine z_icmp_ge (tgt := 99) C dX11_from_92 (by decide) rfl rfl hm (fun _ hm => ?_) (fun _ hm => ?_)
    · refine z_iconst C dX11_from_99 ?_
      refine lv_iload hx hb dX11_from_100 (lv_at hl 1 rfl) ?_
      refine z_imul C dX11_from_102 ?_
      refine z_iconst C dX11_from_103 ?_
      refine z_isub C dX11_from_104 ?_
      refine lv_iload_n hx hb dX11_from_105 rfl (lv_at hl 3 rfl) ?_
      refine z_isub C dX11_from_106 ?_
      refine z_if_ge (tgt := 114) C dX11_from_107 (by decide) rfl hm (fun _ hm => ?_) (fun _ hm => ?_)
      · refine z_iconst C dX11_from_114 ?_
        refine lv_iload hx hb dX11_from_115 (lv_at hl 1 rfl) ?_
        refine z_imul C dX11_from_117 ?_
        refine z_iconst C dX11_from_118 ?_
        refine z_isub C dX11_from_119 ?_
        refine lv_iload_n hx hb dX11_from_120 rfl (lv_at hl 3 rfl) ?_
        refine z_isub C dX11_from_121 ?_
        refine lv_iload hx hb dX11_from_122 (lv_at hl 2 rfl) ?_
        refine z_cVIr (vs := [qI (((2 * x4) - 1) - x1), qI x2]) C (fun q hq => ct_X11_at l g h l0 (((2 * x4) - 1) - x1) x2 q hq) tw_1750 my_X11_at (fun q hq => tg_X11_at hq) rfl hl.1 Hh ⟨Nat.le_of_ble_eq_true rfl, Nat.le_of_ble_eq_true rfl, Nat.le_of_ble_eq_true rfl, Nat.le_of_ble_eq_true rfl⟩ (Nat.le_of_ble_eq_true rfl) dX11_from_124 rfl hm (fun x9 H locs Hh hm => ?_)
        exact z_iretR (h0 := h) C hr hlocks Hh dX11_from_127 hm
      · refine z_iconst C dX11_from_110 ?_
        refine lv_goto (tgt := 122) hx hb dX11_from_111 (by decide) ?_
        refine lv_iload hx hb dX11_from_122 (lv_at hl 2 rfl) ?_
        refine z_cVIr (vs := [qI 0, qI x2]) C (fun q hq => ct_X11_at l g h l0 0 x2 q hq) tw_1750 my_X11_at (fun q hq => tg_X11_at hq) rfl hl.1 Hh ⟨Nat.le_of_ble_eq_true rfl, Nat.le_of_ble_eq_true rfl, Nat.le_of_ble_eq_true rfl, Nat.le_of_ble_eq_true rfl⟩ (Nat.le_of_ble_eq_true rfl) dX11_from_124 rfl hm (fun x10 H locs Hh hm => ?_)
        exact z_iretR (h0 := h) C hr hlocks Hh dX11_from_127 hm
    · refine lv_iload_n hx hb dX11_from_95 rfl (lv_at hl 3 rfl) ?_
      refine lv_goto (tgt := 122) hx hb dX11_from_96 (by decide) ?_
      refine lv_iload hx hb dX11_from_122 (lv_at hl 2 rfl) ?_
      refine z_cVIr (vs := [qI x1, qI x2]) C (fun q hq => ct_X11_at l g h l0 x1 x2 q hq) tw_1750 my_X11_at (fun q hq => tg_X11_at hq) rfl hl.1 Hh ⟨Nat.le_of_ble_eq_true rfl, Nat.le_of_ble_eq_true rfl, Nat.le_of_ble_eq_true rfl, Nat.le_of_ble_eq_true rfl⟩ (Nat.le_of_ble_eq_true rfl) dX11_from_124 rfl hm (fun x11 H locs Hh hm => ?_)
      exact z_iretR (h0 := h) C hr hlocks Hh dX11_from_127 hm
  refine z_sw hm (fun q hm => ?_) (fun q1 hm => ?_)
  · refine z_tin (tgt := 128) (off := 83) C dX11_from_45 q (by decide) (by decide) rfl (by decide) ?_
    refine lv_aload_n hx hb dX11_from_128 rfl (lv_at hl 4 rfl) ?_
    refine lv_iload_n hx hb dX11_from_129 rfl (lv_at hl 3 rfl) ?_
    refine lv_aload_n hx hb dX11_from_130 rfl (lv_at hl 4 rfl) ?_
    refine z_getR C fl_11_341 Hh dX11_from_131 rfl hm (fun x12 hm => ?_)
    refine z_getI C fl_11_194 Hh dX11_from_134 rfl hm (fun x13 hm => ?_)
    refine z_iconst C dX11_from_137 ?_
    refine z_imul C dX11_from_138 ?_
    refine z_iadd C dX11_from_139 ?_
    refine lv_iload hx hb dX11_from_140 (lv_at hl 1 rfl) ?_
    refine z_isub C dX11_from_142 ?_
    refine lv_aload_n hx hb dX11_from_143 rfl (lv_at hl 4 rfl) ?_
    refine z_getR C fl_11_341 Hh dX11_from_144 rfl hm (fun x14 hm => ?_)
    refine z_getI C fl_11_194 Hh dX11_from_147 rfl hm (fun x15 hm => ?_)
    refine z_irem C dX11_from_150 hm (fun x16 hm => ?_)
    refine lv_iload hx hb dX11_from_151 (lv_at hl 2 rfl) ?_
    refine lv_aload_n hx hb dX11_from_153 rfl (lv_at hl 4 rfl) ?_
    refine z_getR C fl_11_341 Hh dX11_from_154 rfl hm (fun x17 hm => ?_)
    refine z_getI C fl_11_256 Hh dX11_from_157 rfl hm (fun x18 hm => ?_)
    refine z_iconst C dX11_from_160 ?_
    refine z_imul C dX11_from_161 ?_
    refine z_iadd C dX11_from_162 ?_
    refine lv_iload hx hb dX11_from_163 (lv_at hl 0 rfl) ?_
    refine z_isub C dX11_from_165 ?_
    refine lv_aload_n hx hb dX11_from_166 rfl (lv_at hl 4 rfl) ?_
    refine z_getR C fl_11_341 Hh dX11_from_167 rfl hm (fun x19 hm => ?_)
    refine z_getI C fl_11_256 Hh dX11_from_170 rfl hm (fun x20 hm => ?_)
    refine z_irem C dX11_from_173 hm (fun x21 hm => ?_)
    refine z_cVIr (vs := [qI x16, qI x21]) C (fun q hq => ct_X11_at l g h l0 x16 x21 q hq) tw_1750 my_X11_at (fun q hq => tg_X11_at hq) rfl hl.1 Hh ⟨Nat.le_of_ble_eq_true rfl, Nat.le_of_ble_eq_true rfl, Nat.le_of_ble_eq_true rfl, Nat.le_of_ble_eq_true rfl⟩ (Nat.le_of_ble_eq_true rfl) dX11_from_174 rfl hm (fun x22 H locs Hh hm => ?_)
    exact z_iretR (h0 := h) C hr hlocks Hh dX11_from_177 hm
  refine z_sw hm (fun q hm => ?_) (fun q2 hm => ?_)
  · refine z_tin (tgt := 178) (off := 133) C dX11_from_45 q (by decide) (by decide) rfl (by decide) ?_
    refine lv_aload_n hx hb dX11_from_178 rfl (lv_at hl 4 rfl) ?_
    refine lv_aload_n hx hb dX11_from_179 rfl (lv_at hl 4 rfl) ?_
    refine z_getR C fl_11_341 Hh dX11_from_180 rfl hm (fun x23 hm => ?_)
    refine z_getI C fl_11_194 Hh dX11_from_183 rfl hm (fun x24 hm => ?_)
    refine z_iconst C dX11_from_186 ?_
    refine z_isub C dX11_from_187 ?_
    refine lv_iload_n hx hb dX11_from_188 rfl (lv_at hl 3 rfl) ?_
    refine z_isub C dX11_from_189 ?_
    refine lv_aload_n hx hb dX11_from_190 rfl (lv_at hl 4 rfl) ?_
    refine z_getR C fl_11_341 Hh dX11_from_191 rfl hm (fun x25 hm => ?_)
    refine z_getI C fl_11_256 Hh dX11_from_194 rfl hm (fun x26 hm => ?_)
    refine z_iconst C dX11_from_197 ?_
    refine z_isub C dX11_from_198 ?_
    refine lv_iload hx hb dX11_from_199 (lv_at hl 2 rfl) ?_
    refine z_isub C dX11_from_201 ?_
    refine z_cVIr (vs := [qI ((x24 - 1) - x1), qI ((x26 - 1) - x2)]) C (fun q hq => ct_X11_at l g h l0 ((x24 - 1) - x1) ((x26 - 1) - x2) q hq) tw_1750 my_X11_at (fun q hq => tg_X11_at hq) rfl hl.1 Hh ⟨Nat.le_of_ble_eq_true rfl, Nat.le_of_ble_eq_true rfl, Nat.le_of_ble_eq_true rfl, Nat.le_of_ble_eq_true rfl⟩ (Nat.le_of_ble_eq_true rfl) dX11_from_202 rfl hm (fun x27 H locs Hh hm => ?_)
    exact z_iretR (h0 := h) C hr hlocks Hh dX11_from_205 hm
  refine z_sw hm (fun q hm => ?_) (fun q3 hm => ?_)
  · refine z_tin (tgt := 206) (off := 161) C dX11_from_45 q (by decide) (by decide) rfl (by decide) ?_
    refine lv_aload_n hx hb dX11_from_206 rfl (lv_at hl 4 rfl) ?_
    refine lv_iload_n hx hb dX11_from_207 rfl (lv_at hl 3 rfl) ?_
    refine lv_iload hx hb dX11_from_208 (lv_at hl 1 rfl) ?_
    refine z_imul C dX11_from_210 ?_
    refine z_bipush C dX11_from_211 rfl ?_
    refine z_idiv C dX11_from_213 hm (fun x28 hm => ?_)
    refine lv_iload hx hb dX11_from_214 (lv_at hl 2 rfl) ?_
    refine lv_iload hx hb dX11_from_216 (lv_at hl 1 rfl) ?_
    refine z_imul C dX11_from_218 ?_
    refine z_bipush C dX11_from_219 rfl ?_
    refine z_idiv C dX11_from_221 hm (fun x29 hm => ?_)
    refine z_cVIr (vs := [qI x28, qI x29]) C (fun q hq => ct_X11_at l g h l0 x28 x29 q hq) tw_1750 my_X11_at (fun q hq => tg_X11_at hq) rfl hl.1 Hh ⟨Nat.le_of_ble_eq_true rfl, Nat.le_of_ble_eq_true rfl, Nat.le_of_ble_eq_true rfl, Nat.le_of_ble_eq_true rfl⟩ (Nat.le_of_ble_eq_true rfl) dX11_from_222 rfl hm (fun x30 H locs Hh hm => ?_)
    exact z_iretR (h0 := h) C hr hlocks Hh dX11_from_225 hm
  have hdf : (w32 x8 < 2 ∨ 8 < w32 x8) ∨ ∃ k : Int, w32 x8 = k ∧ 2 ≤ k ∧ k ≤ 8 ∧ (#[43, 83, 133, 181, 181, 181, 161] : Array Int)[(k - 2).toNat]? = some 181 := by
    have q : (w32 x8 < 2 ∨ 8 < w32 x8) ∨ w32 x8 = 5 ∨ w32 x8 = 6 ∨ w32 x8 = 7 := by omega
    rcases q with q | q | q | q
    · exact Or.inl q
    · exact Or.inr ⟨_, q, by decide, by decide, rfl⟩
    · exact Or.inr ⟨_, q, by decide, by decide, rfl⟩
    · exact Or.inr ⟨_, q, by decide, by decide, rfl⟩
  refine z_tdef (tgt := 226) C dX11_from_45 hdf (by decide) ?_
  refine lv_iload_n hx hb dX11_from_226 rfl (lv_at hl 6 rfl) ?_
  exact z_iretR (h0 := h) C hr hlocks Hh dX11_from_227 hm
theorem tg_X11_beside {h : Hp} {l0 l1 l2 : Int} {r : Int} (hm : M_X11_beside h l0 l1 l2 = some r) : hT h l0 = 21 := (tk_inv hm).1
set_option maxRecDepth 100000 in
set_option maxHeartbeats 4000000 in
theorem ct_X11_beside (l : Launch) (g : zGeo) (h : Hp) (l0 l1 l2 : Int) (r : Int) (hm : M_X11_beside h l0 l1 l2 = some r) : zM l yX11_beside cX11_beside 5 (some .int) 1 22 0 0 g h [qR g l0, qI l1, qI l2] h (some (qI r)) := by
  refine z_meth (by decide) (Nat.le_of_ble_eq_true rfl) ?_
  intro p e s m args below meth c H ls C hr hlocks hnm Hh hl
  have C : zC p m c cX11_beside 5 s args RX11 g := C
  have hnm : meth.name = "beside" := hnm
  have hx := C.1.1
  have hb := C.1.2.1
  have hl : lv_has ls 5 [(0, qR g l0), (1, qI l1), (2, qI l2)] := hl
  unfold M_X11_beside at hm
  replace hm := (tk_inv hm).2
  have K49 : ∀  (l0 l3 : Int) (s0 s1 : Int) (H : Heap) (locs : List Loc) (ls : Array Slot), zH g s h H locs → lv_has ls 5 [(0, qR g l0), (3, qI l3)] → M_X11_beside_p49 h l0 l3 s0 s1 = some r → W p l e { frames := 1, cells := 0, slots := 0, locals := 22 } s m args below meth c H locs 0 0 (zQ below g h (some (qI r)) args s 0 0) (F0 m 49 ls [qI s1, qI s0]) := by
    intro l0 l3 s0 s1 H locs ls Hh hl hm
    unfold M_X11_beside_p49 at hm
    refine z_iadd C dX11_beside_49 ?_
    refine lv_istore (lv' := [(4, qI (s0 + s1)), (0, qR g l0), (3, qI l3)]) hx hb dX11_beside_50 hl (by decide) rfl (fun ls hl => ?_)
    refine lv_iload_n hx hb dX11_beside_52 rfl (lv_at hl 2 rfl) ?_
    refine z_iconst C dX11_beside_53 ?_
    refine lv_aload_n hx hb dX11_beside_54 rfl (lv_at hl 1 rfl) ?_
    refine z_getR C fl_11_341 Hh dX11_beside_55 rfl hm (fun x1 hm => ?_)
    refine z_getI C fl_11_194 Hh dX11_beside_58 rfl hm (fun x2 hm => ?_)
    refine z_iconst C dX11_beside_61 ?_
    refine z_isub C dX11_beside_62 ?_
    refine z_cSIr (vs := [qI l3, qI 0, qI (x2 - 1)]) C (fun q hq => ct_X11_in l g h l3 0 (x2 - 1) q hq) tw_1576 my_X11_in rfl hl.1 Hh ⟨Nat.le_of_ble_eq_true rfl, Nat.le_of_ble_eq_true rfl, Nat.le_of_ble_eq_true rfl, Nat.le_of_ble_eq_true rfl⟩ (Nat.le_of_ble_eq_true rfl) dX11_beside_63 rfl hm (fun x3 H locs Hh hm => ?_)
    refine z_if_eq (tgt := 97) C dX11_beside_66 (by decide) rfl hm (fun _ hm => ?_) (fun _ hm => ?_)
    · refine z_iconst C dX11_beside_97 ?_
      exact z_iretR (h0 := h) C hr hlocks Hh dX11_beside_98 hm
    · refine lv_iload hx hb dX11_beside_69 (lv_at hl 0 rfl) ?_
      refine z_iconst C dX11_beside_71 ?_
      refine lv_aload_n hx hb dX11_beside_72 rfl (lv_at hl 1 rfl) ?_
      refine z_getR C fl_11_341 Hh dX11_beside_73 rfl hm (fun x4 hm => ?_)
      refine z_getI C fl_11_256 Hh dX11_beside_76 rfl hm (fun x5 hm => ?_)
      refine z_iconst C dX11_beside_79 ?_
      refine z_isub C dX11_beside_80 ?_
      refine z_cSIr (vs := [qI (s0 + s1), qI 0, qI (x5 - 1)]) C (fun q hq => ct_X11_in l g h (s0 + s1) 0 (x5 - 1) q hq) tw_1576 my_X11_in rfl hl.1 Hh ⟨Nat.le_of_ble_eq_true rfl, Nat.le_of_ble_eq_true rfl, Nat.le_of_ble_eq_true rfl, Nat.le_of_ble_eq_true rfl⟩ (Nat.le_of_ble_eq_true rfl) dX11_beside_81 rfl hm (fun x6 H locs Hh hm => ?_)
      refine z_if_eq (tgt := 97) C dX11_beside_84 (by decide) rfl hm (fun _ hm => ?_) (fun _ hm => ?_)
      · refine z_iconst C dX11_beside_97 ?_
        exact z_iretR (h0 := h) C hr hlocks Hh dX11_beside_98 hm
      · refine lv_aload_n hx hb dX11_beside_87 rfl (lv_at hl 1 rfl) ?_
        refine lv_iload_n hx hb dX11_beside_88 rfl (lv_at hl 2 rfl) ?_
        refine lv_iload hx hb dX11_beside_89 (lv_at hl 0 rfl) ?_
        refine z_cVIr (vs := [qI l3, qI (s0 + s1)]) C (fun q hq => ct_X11_at l g h l0 l3 (s0 + s1) q hq) tw_1750 my_X11_at (fun q hq => tg_X11_at hq) rfl hl.1 Hh ⟨Nat.le_of_ble_eq_true rfl, Nat.le_of_ble_eq_true rfl, Nat.le_of_ble_eq_true rfl, Nat.le_of_ble_eq_true rfl⟩ (Nat.le_of_ble_eq_true rfl) dX11_beside_91 rfl hm (fun x7 H locs Hh hm => ?_)
        refine lv_goto (tgt := 98) hx hb dX11_beside_94 (by decide) ?_
        exact z_iretR (h0 := h) C hr hlocks Hh dX11_beside_98 hm
  have K23 : ∀  (l0 l1 l2 : Int) (s0 s1 : Int) (H : Heap) (locs : List Loc) (ls : Array Slot), zH g s h H locs → lv_has ls 5 [(0, qR g l0), (1, qI l1), (2, qI l2)] → M_X11_beside_p23 h l0 l1 l2 s0 s1 = some r → W p l e { frames := 1, cells := 0, slots := 0, locals := 22 } s m args below meth c H locs 0 0 (zQ below g h (some (qI r)) args s 0 0) (F0 m 23 ls [qI s1, qI s0]) := by
    intro l0 l1 l2 s0 s1 H locs ls Hh hl hm
    unfold M_X11_beside_p23 at hm
    refine z_iadd C dX11_beside_23 ?_
    refine lv_istore_n (lv' := [(3, qI (s0 + s1)), (0, qR g l0), (1, qI l1), (2, qI l2)]) hx hb dX11_beside_24 rfl hl (by decide) rfl (fun ls hl => ?_)
    refine lv_aload_n hx hb dX11_beside_25 rfl (lv_at hl 1 rfl) ?_
    refine lv_iload_n hx hb dX11_beside_26 rfl (lv_at hl 2 rfl) ?_
    refine z_cVIr (vs := [qI l1]) C (fun q hq => ct_X11_rowOf l g h l0 l1 q hq) tw_1746 my_X11_rowOf (fun q hq => tg_X11_rowOf hq) rfl hl.1 Hh ⟨Nat.le_of_ble_eq_true rfl, Nat.le_of_ble_eq_true rfl, Nat.le_of_ble_eq_true rfl, Nat.le_of_ble_eq_true rfl⟩ (Nat.le_of_ble_eq_true rfl) dX11_beside_27 rfl hm (fun x8 H locs Hh hm => ?_)
    refine lv_iload_n hx hb dX11_beside_30 rfl (lv_at hl 3 rfl) ?_
    refine z_iconst C dX11_beside_31 ?_
    refine z_icmp_ne (tgt := 39) C dX11_beside_32 (by decide) rfl lq_p2 hm (fun _ hm => ?_) (fun _ hm => ?_)
    · refine lv_iload_n hx hb dX11_beside_39 rfl (lv_at hl 3 rfl) ?_
      refine z_iconst C dX11_beside_40 ?_
      refine z_icmp_ne (tgt := 48) C dX11_beside_41 (by decide) rfl lq_p3 hm (fun _ hm => ?_) (fun _ hm => ?_)
      · refine z_iconst C dX11_beside_48 ?_
        exact K49 l0 (s0 + s1) x8 0 _ _ _ Hh (lv_sub hl [1, 0] rfl) hm
      · refine z_iconst C dX11_beside_44 ?_
        refine lv_goto (tgt := 49) hx hb dX11_beside_45 (by decide) ?_
        exact K49 l0 (s0 + s1) x8 1 _ _ _ Hh (lv_sub hl [1, 0] rfl) hm
    · refine z_iconst C dX11_beside_35 ?_
      refine lv_goto (tgt := 49) hx hb dX11_beside_36 (by decide) ?_
      exact K49 l0 (s0 + s1) x8 (-1) _ _ _ Hh (lv_sub hl [1, 0] rfl) hm
  refine lv_aload_n hx hb dX11_beside_0 rfl (lv_at hl 0 rfl) ?_
  refine lv_iload_n hx hb dX11_beside_1 rfl (lv_at hl 1 rfl) ?_
  refine z_cVIr (vs := [qI l1]) C (fun q hq => ct_X11_column l g h l0 l1 q hq) tw_1742 my_X11_column (fun q hq => tg_X11_column hq) rfl hl.1 Hh ⟨Nat.le_of_ble_eq_true rfl, Nat.le_of_ble_eq_true rfl, Nat.le_of_ble_eq_true rfl, Nat.le_of_ble_eq_true rfl⟩ (Nat.le_of_ble_eq_true rfl) dX11_beside_2 rfl hm (fun x9 H locs Hh hm => ?_)
  refine lv_iload_n hx hb dX11_beside_5 rfl (lv_at hl 2 rfl) ?_
  refine z_if_ne (tgt := 13) C dX11_beside_6 (by decide) rfl hm (fun _ hm => ?_) (fun _ hm => ?_)
  · refine lv_iload_n hx hb dX11_beside_13 rfl (lv_at hl 2 rfl) ?_
    refine z_iconst C dX11_beside_14 ?_
    refine z_icmp_ne (tgt := 22) C dX11_beside_15 (by decide) rfl lq_p1 hm (fun _ hm => ?_) (fun _ hm => ?_)
    · refine z_iconst C dX11_beside_22 ?_
      exact K23 l0 l1 l2 x9 0 _ _ _ Hh (lv_sub hl [0, 1, 2] rfl) hm
    · refine z_iconst C dX11_beside_18 ?_
      refine lv_goto (tgt := 23) hx hb dX11_beside_19 (by decide) ?_
      exact K23 l0 l1 l2 x9 1 _ _ _ Hh (lv_sub hl [0, 1, 2] rfl) hm
  · refine z_iconst C dX11_beside_9 ?_
    refine lv_goto (tgt := 23) hx hb dX11_beside_10 (by decide) ?_
    exact K23 l0 l1 l2 x9 (-1) _ _ _ Hh (lv_sub hl [0, 1, 2] rfl) hm
theorem tg_X11_stainedBy {h : Hp} {l0 l1 l2 l3 : Int} {r : Int} (hm : M_X11_stainedBy h l0 l1 l2 l3 = some r) : hT h l0 = 21 := (tk_inv hm).1
set_option maxRecDepth 100000 in
set_option maxHeartbeats 4000000 in
theorem ct_X11_stainedBy (l : Launch) (g : zGeo) (h : Hp) (l0 l1 l2 l3 : Int) (r : Int) (hm : M_X11_stainedBy h l0 l1 l2 l3 = some r) : zM l yX11_stainedBy cX11_stainedBy 6 (some .int) 2 46 0 0 g h [qR g l0, qI l1, qI l2, qI l3] h (some (qI r)) := by
  refine z_meth (by decide) (Nat.le_of_ble_eq_true rfl) ?_
  intro p e s m args below meth c H ls C hr hlocks hnm Hh hl
  have C : zC p m c cX11_stainedBy 6 s args RX11 g := C
  have hnm : meth.name = "stainedBy" := hnm
  have hx := C.1.1
  have hb := C.1.2.1
  have hl : lv_has ls 6 [(0, qR g l0), (1, qI l1), (2, qI l2), (3, qI l3)] := hl
  unfold M_X11_stainedBy at hm
  replace hm := (tk_inv hm).2
  have K60 : ∀  (l3 : Int) (H : Heap) (locs : List Loc) (ls : Array Slot), zH g s h H locs → lv_has ls 6 [(3, qI l3)] → M_X11_stainedBy_p60 h l3 = some r → W p l e { frames := 2, cells := 0, slots := 0, locals := 46 } s m args below meth c H locs 0 0 (zQ below g h (some (qI r)) args s 0 0) (F0 m 60 ls []) := by
    intro l3  H locs ls Hh hl hm
    unfold M_X11_stainedBy_p60 at hm
    refine lv_iload_n hx hb dX11_stainedBy_60 rfl (lv_at hl 0 rfl) ?_
    exact z_iretR (h0 := h) C hr hlocks Hh dX11_stainedBy_61 hm
  have KL17 : ∀ (n : Nat)  (l0 l1 l2 l3 l4 : Int) (H : Heap) (locs : List Loc) (ls : Array Slot), zH g s h H locs → lv_has ls 6 [(0, qR g l0), (1, qI l1), (2, qI l2), (3, qI l3), (4, qI l4)] → M_X11_stainedBy_w17 n h l0 l1 l2 l3 l4 = some r → W p l e { frames := 2, cells := 0, slots := 0, locals := 46 } s m args below meth c H locs 0 0 (zQ below g h (some (qI r)) args s 0 0) (F0 m 17 ls []) := by
    intro n
    induction n with
    | zero => intro l0 l1 l2 l3 l4 H locs ls Hh hl hm; cases hm
    | succ n ih17 =>
      intro l0 l1 l2 l3 l4 H locs ls Hh hl hm
      obtain ⟨z17, hm, hc17⟩ := wh_inv hm
      have hm : M_X11_stainedBy_b17 h l0 l1 l2 l3 l4 = some z17 := hm
      have K54 : ∀  (l4 : Int) (H : Heap) (locs : List Loc) (ls : Array Slot), zH g s h H locs → lv_has ls 6 [(0, qR g l0), (1, qI l1), (2, qI l2), (3, qI l3), (4, qI l4)] → M_X11_stainedBy_p54 h l0 l1 l2 l3 l4 = some z17 → W p l e { frames := 2, cells := 0, slots := 0, locals := 46 } s m args below meth c H locs 0 0 (zQ below g h (some (qI r)) args s 0 0) (F0 m 54 ls []) := by
        intro l4  H locs ls Hh hl hm
        unfold M_X11_stainedBy_p54 at hm
        refine z_iinc (x := l4) (k := 4) (lv' := [(4, qI (l4 + 1)), (0, qR g l0), (1, qI l1), (2, qI l2), (3, qI l3)]) C dX11_stainedBy_54 hl rfl (by decide) rfl (fun ls hl => ?_)
        refine lv_goto (tgt := 17) hx hb dX11_stainedBy_57 (by decide) ?_
        cases hm
        exact ih17 l0 l1 l2 l3 (l4 + 1) _ _ _ Hh (lv_sub hl [1, 2, 3, 4, 0] rfl) hc17
      unfold M_X11_stainedBy_b17 at hm
      refine lv_iload hx hb dX11_stainedBy_17 (lv_at hl 4 rfl) ?_
      refine z_iconst C dX11_stainedBy_19 ?_
      refine z_icmp_ge (tgt := 60) C dX11_stainedBy_20 (by decide) rfl lq_p4 hm (fun _ hm => ?_) (fun _ hm => ?_)
      · cases hm
        exact K60 l3 _ _ _ Hh (lv_sub hl [3] rfl) hc17
      · refine lv_aload_n hx hb dX11_stainedBy_23 rfl (lv_at hl 0 rfl) ?_
        refine lv_iload_n hx hb dX11_stainedBy_24 rfl (lv_at hl 3 rfl) ?_
        refine lv_iload hx hb dX11_stainedBy_25 (lv_at hl 4 rfl) ?_
        refine z_cVIr (vs := [qI l3, qI l4]) C (fun q hq => ct_X11_beside l g h l0 l3 l4 q hq) tw_1758 my_X11_beside (fun q hq => tg_X11_beside hq) rfl hl.1 Hh ⟨Nat.le_of_ble_eq_true rfl, Nat.le_of_ble_eq_true rfl, Nat.le_of_ble_eq_true rfl, Nat.le_of_ble_eq_true rfl⟩ (Nat.le_of_ble_eq_true rfl) dX11_stainedBy_27 rfl hm (fun x1 H locs Hh hm => ?_)
        refine lv_istore (lv' := [(5, qI x1), (0, qR g l0), (1, qI l1), (2, qI l2), (3, qI l3), (4, qI l4)]) hx hb dX11_stainedBy_30 hl (by decide) rfl (fun ls hl => ?_)
        refine lv_iload hx hb dX11_stainedBy_32 (lv_at hl 0 rfl) ?_
        refine z_iconst C dX11_stainedBy_34 ?_
        refine z_icmp_eq (tgt := 54) C dX11_stainedBy_35 (by decide) rfl lq_m1 hm (fun _ hm => ?_) (fun _ hm => ?_)
        · exact K54 l4 _ _ _ Hh (lv_sub hl [1, 2, 3, 4, 5] rfl) hm
        · refine lv_aload_n hx hb dX11_stainedBy_38 rfl (lv_at hl 1 rfl) ?_
          refine z_getR C fl_11_28 Hh dX11_stainedBy_39 rfl hm (fun x2 hm => ?_)
          refine lv_iload_n hx hb dX11_stainedBy_42 rfl (lv_at hl 2 rfl) ?_
          refine lv_iload hx hb dX11_stainedBy_43 (lv_at hl 0 rfl) ?_
          refine z_iadd C dX11_stainedBy_45 ?_
          refine z_iald C Hh dX11_stainedBy_46 hm (fun x3 hm => ?_)
          refine lv_iload_n hx hb dX11_stainedBy_47 rfl (lv_at hl 3 rfl) ?_
          refine z_icmp_ne (tgt := 54) C dX11_stainedBy_48 (by decide) rfl rfl hm (fun _ hm => ?_) (fun _ hm => ?_)
          · exact K54 l4 _ _ _ Hh (lv_sub hl [1, 2, 3, 4, 5] rfl) hm
          · refine lv_iload hx hb dX11_stainedBy_51 (lv_at hl 0 rfl) ?_
            cases hm
            have hm := hc17
            exact z_iretR (h0 := h) C hr hlocks Hh dX11_stainedBy_53 hm
  refine lv_aload_n hx hb dX11_stainedBy_0 rfl (lv_at hl 0 rfl) ?_
  refine z_getR C fl_11_28 Hh dX11_stainedBy_1 rfl hm (fun x4 hm => ?_)
  refine lv_iload_n hx hb dX11_stainedBy_4 rfl (lv_at hl 1 rfl) ?_
  refine lv_iload_n hx hb dX11_stainedBy_5 rfl (lv_at hl 3 rfl) ?_
  refine z_iadd C dX11_stainedBy_6 ?_
  refine z_iald C Hh dX11_stainedBy_7 hm (fun x5 hm => ?_)
  refine lv_iload_n hx hb dX11_stainedBy_8 rfl (lv_at hl 2 rfl) ?_
  refine z_icmp_ne (tgt := 14) C dX11_stainedBy_9 (by decide) rfl rfl hm (fun _ hm => ?_) (fun _ hm => ?_)
  · refine z_iconst C dX11_stainedBy_14 ?_
    refine lv_istore (lv' := [(4, qI 0), (0, qR g l0), (1, qI l1), (2, qI l2), (3, qI l3)]) hx hb dX11_stainedBy_15 hl (by decide) rfl (fun ls hl => ?_)
    exact KL17 FU l0 l1 l2 l3 0 _ _ _ Hh (lv_sub hl [1, 2, 3, 4, 0] rfl) hm
  · refine lv_iload_n hx hb dX11_stainedBy_12 rfl (lv_at hl 3 rfl) ?_
    exact z_iretR (h0 := h) C hr hlocks Hh dX11_stainedBy_13 hm
theorem tg_X11_marked {h : Hp} {l0 l1 l2 l3 : Int} {r : Int} (hm : M_X11_marked h l0 l1 l2 l3 = some r) : hT h l0 = 21 := (tk_inv hm).1
set_option maxRecDepth 100000 in
set_option maxHeartbeats 4000000 in
theorem ct_X11_marked (l : Launch) (g : zGeo) (h : Hp) (l0 l1 l2 l3 : Int) (r : Int) (hm : M_X11_marked h l0 l1 l2 l3 = some r) : zM l yX11_marked cX11_marked 7 (some .int) 3 71 0 0 g h [qR g l0, qI l1, qI l2, qI l3] h (some (qI r)) := by
  refine z_meth (by decide) (Nat.le_of_ble_eq_true rfl) ?_
  intro p e s m args below meth c H ls C hr hlocks hnm Hh hl
  have C : zC p m c cX11_marked 7 s args RX11 g := C
  have hnm : meth.name = "marked" := hnm
  have hx := C.1.1
  have hb := C.1.2.1
  have hl : lv_has ls 7 [(0, qR g l0), (1, qI l1), (2, qI l2), (3, qI l3)] := hl
  unfold M_X11_marked at hm
  replace hm := (tk_inv hm).2
  refine lv_aload_n hx hb dX11_marked_0 rfl (lv_at hl 0 rfl) ?_
  refine z_getR C fl_11_34 Hh dX11_marked_1 rfl hm (fun x1 hm => ?_)
  refine z_iconst C dX11_marked_4 ?_
  refine lv_iload_n hx hb dX11_marked_5 rfl (lv_at hl 1 rfl) ?_
  refine z_imul C dX11_marked_6 ?_
  refine z_iconst C dX11_marked_7 ?_
  refine z_iadd C dX11_marked_8 ?_
  refine z_iald C Hh dX11_marked_9 hm (fun x2 hm => ?_)
  refine lv_istore (lv' := [(4, qI x2), (0, qR g l0), (1, qI l1), (2, qI l2), (3, qI l3)]) hx hb dX11_marked_10 hl (by decide) rfl (fun ls hl => ?_)
  refine lv_aload_n hx hb dX11_marked_12 rfl (lv_at hl 1 rfl) ?_
  refine z_getR C fl_11_34 Hh dX11_marked_13 rfl hm (fun x3 hm => ?_)
  refine z_iconst C dX11_marked_16 ?_
  refine lv_iload_n hx hb dX11_marked_17 rfl (lv_at hl 2 rfl) ?_
  refine z_imul C dX11_marked_18 ?_
  refine z_iconst C dX11_marked_19 ?_
  refine z_iadd C dX11_marked_20 ?_
  refine z_iald C Hh dX11_marked_21 hm (fun x4 hm => ?_)
  refine lv_istore (lv' := [(5, qI x4), (4, qI x2), (0, qR g l0), (1, qI l1), (2, qI l2), (3, qI l3)]) hx hb dX11_marked_22 hl (by decide) rfl (fun ls hl => ?_)
  refine lv_aload_n hx hb dX11_marked_24 rfl (lv_at hl 2 rfl) ?_
  refine z_getR C fl_11_28 Hh dX11_marked_25 rfl hm (fun x5 hm => ?_)
  refine lv_iload_n hx hb dX11_marked_28 rfl (lv_at hl 4 rfl) ?_
  refine lv_aload_n hx hb dX11_marked_29 rfl (lv_at hl 2 rfl) ?_
  refine lv_iload_n hx hb dX11_marked_30 rfl (lv_at hl 3 rfl) ?_
  refine lv_iload_n hx hb dX11_marked_31 rfl (lv_at hl 5 rfl) ?_
  refine z_cVIr (vs := [qI l1, qI l3]) C (fun q hq => ct_X11_from l g h l0 l1 l3 q hq) tw_1738 my_X11_from (fun q hq => tg_X11_from hq) rfl hl.1 Hh ⟨Nat.le_of_ble_eq_true rfl, Nat.le_of_ble_eq_true rfl, Nat.le_of_ble_eq_true rfl, Nat.le_of_ble_eq_true rfl⟩ (Nat.le_of_ble_eq_true rfl) dX11_marked_32 rfl hm (fun x6 H locs Hh hm => ?_)
  refine z_iadd C dX11_marked_35 ?_
  refine z_iald C Hh dX11_marked_36 hm (fun x7 hm => ?_)
  refine lv_istore (lv' := [(6, qI x7), (5, qI x4), (4, qI x2), (0, qR g l0), (1, qI l1), (2, qI l2), (3, qI l3)]) hx hb dX11_marked_37 hl (by decide) rfl (fun ls hl => ?_)
  refine lv_aload_n hx hb dX11_marked_39 rfl (lv_at hl 3 rfl) ?_
  refine z_getR C fl_11_34 Hh dX11_marked_40 rfl hm (fun x8 hm => ?_)
  refine z_iconst C dX11_marked_43 ?_
  refine lv_iload_n hx hb dX11_marked_44 rfl (lv_at hl 4 rfl) ?_
  refine z_imul C dX11_marked_45 ?_
  refine z_iald C Hh dX11_marked_46 hm (fun x9 hm => ?_)
  refine z_sw hm (fun q hm => ?_) (fun q0 hm => ?_)
  · refine z_tin (tgt := 88) (off := 41) C dX11_marked_47 q (by decide) (by decide) rfl (by decide) ?_
    refine lv_iload_n hx hb dX11_marked_88 rfl (lv_at hl 6 rfl) ?_
    refine lv_aload_n hx hb dX11_marked_89 rfl (lv_at hl 3 rfl) ?_
    refine lv_iload hx hb dX11_marked_90 (lv_at hl 1 rfl) ?_
    refine lv_aload_n hx hb dX11_marked_92 rfl (lv_at hl 3 rfl) ?_
    refine z_getR C fl_11_34 Hh dX11_marked_93 rfl hm (fun x10 hm => ?_)
    refine z_iconst C dX11_marked_96 ?_
    refine lv_iload_n hx hb dX11_marked_97 rfl (lv_at hl 4 rfl) ?_
    refine z_imul C dX11_marked_98 ?_
    refine z_iconst C dX11_marked_99 ?_
    refine z_iadd C dX11_marked_100 ?_
    refine z_iald C Hh dX11_marked_101 hm (fun x11 hm => ?_)
    refine z_cVIr (vs := [qI x4, qI x11]) C (fun q hq => ct_X11_at l g h l0 x4 x11 q hq) tw_1750 my_X11_at (fun q hq => tg_X11_at hq) rfl hl.1 Hh ⟨Nat.le_of_ble_eq_true rfl, Nat.le_of_ble_eq_true rfl, Nat.le_of_ble_eq_true rfl, Nat.le_of_ble_eq_true rfl⟩ (Nat.le_of_ble_eq_true rfl) dX11_marked_102 rfl hm (fun x12 H locs Hh hm => ?_)
    refine z_icmp_ne (tgt := 113) C dX11_marked_105 (by decide) rfl rfl hm (fun _ hm => ?_) (fun _ hm => ?_)
    · refine lv_iload hx hb dX11_marked_113 (lv_at hl 0 rfl) ?_
      exact z_iretR (h0 := h) C hr hlocks Hh dX11_marked_115 hm
    · refine lv_iload hx hb dX11_marked_108 (lv_at hl 2 rfl) ?_
      refine lv_goto (tgt := 115) hx hb dX11_marked_110 (by decide) ?_
      exact z_iretR (h0 := h) C hr hlocks Hh dX11_marked_115 hm
  refine z_sw hm (fun q hm => ?_) (fun q1 hm => ?_)
  · refine z_tin (tgt := 116) (off := 69) C dX11_marked_47 q (by decide) (by decide) rfl (by decide) ?_
    refine lv_iload hx hb dX11_marked_116 (lv_at hl 0 rfl) ?_
    refine lv_iload hx hb dX11_marked_118 (lv_at hl 2 rfl) ?_
    refine z_icmp_ne (tgt := 128) C dX11_marked_120 (by decide) rfl rfl hm (fun _ hm => ?_) (fun _ hm => ?_)
    · refine lv_iload hx hb dX11_marked_128 (lv_at hl 0 rfl) ?_
      refine lv_iload hx hb dX11_marked_130 (lv_at hl 1 rfl) ?_
      refine z_icmp_ne (tgt := 140) C dX11_marked_132 (by decide) rfl rfl hm (fun _ hm => ?_) (fun _ hm => ?_)
      · refine lv_iload hx hb dX11_marked_140 (lv_at hl 0 rfl) ?_
        exact z_iretR (h0 := h) C hr hlocks Hh dX11_marked_142 hm
      · refine lv_iload hx hb dX11_marked_135 (lv_at hl 2 rfl) ?_
        refine lv_goto (tgt := 142) hx hb dX11_marked_137 (by decide) ?_
        exact z_iretR (h0 := h) C hr hlocks Hh dX11_marked_142 hm
    · refine lv_iload hx hb dX11_marked_123 (lv_at hl 1 rfl) ?_
      refine lv_goto (tgt := 142) hx hb dX11_marked_125 (by decide) ?_
      exact z_iretR (h0 := h) C hr hlocks Hh dX11_marked_142 hm
  refine z_sw hm (fun q hm => ?_) (fun q2 hm => ?_)
  · refine z_tin (tgt := 143) (off := 96) C dX11_marked_47 q (by decide) (by decide) rfl (by decide) ?_
    refine lv_aload_n hx hb dX11_marked_143 rfl (lv_at hl 3 rfl) ?_
    refine z_getR C fl_11_28 Hh dX11_marked_144 rfl hm (fun x13 hm => ?_)
    refine lv_iload_n hx hb dX11_marked_147 rfl (lv_at hl 5 rfl) ?_
    refine lv_aload_n hx hb dX11_marked_148 rfl (lv_at hl 3 rfl) ?_
    refine lv_iload_n hx hb dX11_marked_149 rfl (lv_at hl 5 rfl) ?_
    refine lv_iload hx hb dX11_marked_150 (lv_at hl 2 rfl) ?_
    refine lv_iload_n hx hb dX11_marked_152 rfl (lv_at hl 6 rfl) ?_
    refine z_cVIr (vs := [qI l2, qI x2, qI l3]) C (fun q hq => ct_X11_stainedBy l g h l0 l2 x2 l3 q hq) tw_1754 my_X11_stainedBy (fun q hq => tg_X11_stainedBy hq) rfl hl.1 Hh ⟨Nat.le_of_ble_eq_true rfl, Nat.le_of_ble_eq_true rfl, Nat.le_of_ble_eq_true rfl, Nat.le_of_ble_eq_true rfl⟩ (Nat.le_of_ble_eq_true rfl) dX11_marked_153 rfl hm (fun x14 H locs Hh hm => ?_)
    refine z_iadd C dX11_marked_156 ?_
    refine z_iald C Hh dX11_marked_157 hm (fun x15 hm => ?_)
    exact z_iretR (h0 := h) C hr hlocks Hh dX11_marked_158 hm
  refine z_sw hm (fun q hm => ?_) (fun q3 hm => ?_)
  · refine z_tin (tgt := 159) (off := 112) C dX11_marked_47 q (by decide) (by decide) rfl (by decide) ?_
    refine lv_iload hx hb dX11_marked_159 (lv_at hl 0 rfl) ?_
    refine lv_iload hx hb dX11_marked_161 (lv_at hl 2 rfl) ?_
    refine z_icmp_ne (tgt := 170) C dX11_marked_163 (by decide) rfl rfl hm (fun _ hm => ?_) (fun _ hm => ?_)
    · refine lv_iload hx hb dX11_marked_170 (lv_at hl 0 rfl) ?_
      exact z_iretR (h0 := h) C hr hlocks Hh dX11_marked_172 hm
    · refine z_iconst C dX11_marked_166 ?_
      refine lv_goto (tgt := 172) hx hb dX11_marked_167 (by decide) ?_
      exact z_iretR (h0 := h) C hr hlocks Hh dX11_marked_172 hm
  have hdf : (w32 x9 < 1 ∨ 7 < w32 x9) ∨ ∃ k : Int, w32 x9 = k ∧ 1 ≤ k ∧ k ≤ 7 ∧ (#[41, 126, 126, 126, 69, 96, 112] : Array Int)[(k - 1).toNat]? = some 126 := by
    have q : (w32 x9 < 1 ∨ 7 < w32 x9) ∨ w32 x9 = 2 ∨ w32 x9 = 3 ∨ w32 x9 = 4 := by omega
    rcases q with q | q | q | q
    · exact Or.inl q
    · exact Or.inr ⟨_, q, by decide, by decide, rfl⟩
    · exact Or.inr ⟨_, q, by decide, by decide, rfl⟩
    · exact Or.inr ⟨_, q, by decide, by decide, rfl⟩
  refine z_tdef (tgt := 173) C dX11_marked_47 hdf (by decide) ?_
  refine lv_iload hx hb dX11_marked_173 (lv_at hl 0 rfl) ?_
  exact z_iretR (h0 := h) C hr hlocks Hh dX11_marked_175 hm
theorem tg_X11_step {h : Hp} {l0 l1 : Int} {r : Hp} (hm : M_X11_step h l0 l1 = some r) : hT h l0 = 21 := (tk_inv hm).1
set_option maxRecDepth 100000 in
set_option maxHeartbeats 4000000 in
theorem ct_X11_step (l : Launch) (g : zGeo) (h0 : Hp) (l0 l1 : Int) (r : Hp) (hm : M_X11_step h0 l0 l1 = some r) : zM l yX11_step cX11_step 7 none 4 97 0 0 g h0 [qR g l0, qI l1] r none := by
  refine z_meth (by decide) (Nat.le_of_ble_eq_true rfl) ?_
  intro p e s m args below meth c H ls C hr hlocks hnm Hh hl
  have C : zC p m c cX11_step 7 s args RX11 g := C
  have hnm : meth.name = "step" := hnm
  have hx := C.1.1
  have hb := C.1.2.1
  have hl : lv_has ls 7 [(0, qR g l0), (1, qI l1)] := hl
  unfold M_X11_step at hm
  replace hm := (tk_inv hm).2
  generalize h0 = h at Hh hm
  have K251 : ∀ (h : Hp) (H : Heap) (locs : List Loc) (ls : Array Slot), zH g s h H locs → lv_has ls 7 [] → M_X11_step_p251 h = some r → W p l e { frames := 4, cells := 0, slots := 0, locals := 97 } s m args below meth c H locs 0 0 (zQ below g r none args s 0 0) (F0 m 251 ls []) := by
    intro h  H locs ls Hh hl hm
    unfold M_X11_step_p251 at hm
    exact z_vret C hr hlocks Hh dX11_step_251 hm
  have KL2 : ∀ (n : Nat) (h : Hp) (l0 l1 l2 : Int) (H : Heap) (locs : List Loc) (ls : Array Slot), zH g s h H locs → lv_has ls 7 [(0, qR g l0), (1, qI l1), (2, qI l2)] → M_X11_step_w2 n h l0 l1 l2 = some r → W p l e { frames := 4, cells := 0, slots := 0, locals := 97 } s m args below meth c H locs 0 0 (zQ below g r none args s 0 0) (F0 m 2 ls []) := by
    intro n
    induction n with
    | zero => intro h l0 l1 l2 H locs ls Hh hl hm; cases hm
    | succ n ih2 =>
      intro h l0 l1 l2 H locs ls Hh hl hm
      obtain ⟨z2, hm, hc2⟩ := wh_inv hm
      have hm : M_X11_step_b2 h l0 l1 l2 = some z2 := hm
      have K245 : ∀ (h : Hp) (l2 : Int) (H : Heap) (locs : List Loc) (ls : Array Slot), zH g s h H locs → lv_has ls 7 [(0, qR g l0), (1, qI l1), (2, qI l2)] → M_X11_step_p245 h l0 l1 l2 = some z2 → W p l e { frames := 4, cells := 0, slots := 0, locals := 97 } s m args below meth c H locs 0 0 (zQ below g r none args s 0 0) (F0 m 245 ls []) := by
        intro h l2  H locs ls Hh hl hm
        unfold M_X11_step_p245 at hm
        refine z_iinc (x := l2) (k := 2) (lv' := [(2, qI (l2 + 1)), (0, qR g l0), (1, qI l1)]) C dX11_step_245 hl rfl (by decide) rfl (fun ls hl => ?_)
        refine lv_goto (tgt := 2) hx hb dX11_step_248 (by decide) ?_
        cases hm
        exact ih2 h l0 l1 (l2 + 1) _ _ _ Hh (lv_sub hl [1, 2, 0] rfl) hc2
      have K154 : ∀ (h : Hp) (l2 l4 : Int) (H : Heap) (locs : List Loc) (ls : Array Slot), zH g s h H locs → lv_has ls 7 [(0, qR g l0), (1, qI l1), (2, qI l2), (4, qI l4)] → M_X11_step_p154 h l0 l1 l2 l4 = some z2 → W p l e { frames := 4, cells := 0, slots := 0, locals := 97 } s m args below meth c H locs 0 0 (zQ below g r none args s 0 0) (F0 m 154 ls []) := by
        intro h l2 l4  H locs ls Hh hl hm
        unfold M_X11_step_p154 at hm
        refine lv_aload_n hx hb dX11_step_154 rfl (lv_at hl 0 rfl) ?_
        refine z_getR C fl_11_34 Hh dX11_step_155 rfl hm (fun x1 hm => ?_)
        refine z_iconst C dX11_step_158 ?_
        refine lv_iload_n hx hb dX11_step_159 rfl (lv_at hl 2 rfl) ?_
        refine z_imul C dX11_step_160 ?_
        refine z_iald C Hh dX11_step_161 hm (fun x2 hm => ?_)
        refine z_bipush C dX11_step_162 rfl ?_
        refine z_icmp_eq (tgt := 170) C dX11_step_164 (by decide) rfl lq_p9 hm (fun _ hm => ?_) (fun _ hm => ?_)
        · refine lv_aload_n hx hb dX11_step_170 rfl (lv_at hl 0 rfl) ?_
          refine z_ldc2 (v := 75) C dX11_step_171 tw_1762 rfl ?_
          refine lv_aload_n hx hb dX11_step_174 rfl (lv_at hl 0 rfl) ?_
          refine z_getI C fl_11_355 Hh dX11_step_175 rfl hm (fun x3 hm => ?_)
          refine z_i2l C dX11_step_178 ?_
          refine z_lmul C dX11_step_179 ?_
          refine z_ldc2 (v := 74) C dX11_step_180 tw_1763 rfl ?_
          refine z_ladd C dX11_step_183 ?_
          refine z_ldc2 (v := 65537) C dX11_step_184 tw_1764 rfl ?_
          refine z_lrem C dX11_step_187 hm (fun x4 hm => ?_)
          refine z_l2i C dX11_step_188 ?_
          refine z_putI C hnm pl_11_355 Hh dX11_step_189 rfl hm (fun h H locs Hh hm => ?_)
          refine lv_aload_n hx hb dX11_step_192 rfl (lv_at hl 0 rfl) ?_
          refine z_getR C fl_11_37 Hh dX11_step_193 rfl hm (fun x5 hm => ?_)
          refine z_bipush C dX11_step_196 rfl ?_
          refine lv_iload_n hx hb dX11_step_198 rfl (lv_at hl 1 rfl) ?_
          refine z_imul C dX11_step_199 ?_
          refine lv_iload_n hx hb dX11_step_200 rfl (lv_at hl 2 rfl) ?_
          refine z_iadd C dX11_step_201 ?_
          refine lv_aload_n hx hb dX11_step_202 rfl (lv_at hl 0 rfl) ?_
          refine z_getI C fl_11_355 Hh dX11_step_203 rfl hm (fun x6 hm => ?_)
          refine lv_aload_n hx hb dX11_step_206 rfl (lv_at hl 0 rfl) ?_
          refine z_getR C fl_11_341 Hh dX11_step_207 rfl hm (fun x7 hm => ?_)
          refine z_cVIr (vs := []) C (fun q hq => ct_X10_all l g h x7 q hq) tw_1730 my_X10_all (fun q hq => tg_X10_all hq) rfl hl.1 Hh ⟨Nat.le_of_ble_eq_true rfl, Nat.le_of_ble_eq_true rfl, Nat.le_of_ble_eq_true rfl, Nat.le_of_ble_eq_true rfl⟩ (Nat.le_of_ble_eq_true rfl) dX11_step_210 rfl hm (fun x8 H locs Hh hm => ?_)
          refine z_irem C dX11_step_213 hm (fun x9 hm => ?_)
          refine z_iast C Hh dX11_step_214 hm (fun h H locs Hh hm => ?_)
          refine lv_aload_n hx hb dX11_step_215 rfl (lv_at hl 0 rfl) ?_
          refine z_getR C fl_11_28 Hh dX11_step_216 rfl hm (fun x10 hm => ?_)
          refine lv_iload hx hb dX11_step_219 (lv_at hl 3 rfl) ?_
          refine lv_aload_n hx hb dX11_step_221 rfl (lv_at hl 0 rfl) ?_
          refine z_getI C fl_11_355 Hh dX11_step_222 rfl hm (fun x11 hm => ?_)
          refine lv_aload_n hx hb dX11_step_225 rfl (lv_at hl 0 rfl) ?_
          refine z_getR C fl_11_341 Hh dX11_step_226 rfl hm (fun x12 hm => ?_)
          refine z_cVIr (vs := []) C (fun q hq => ct_X10_all l g h x12 q hq) tw_1730 my_X10_all (fun q hq => tg_X10_all hq) rfl hl.1 Hh ⟨Nat.le_of_ble_eq_true rfl, Nat.le_of_ble_eq_true rfl, Nat.le_of_ble_eq_true rfl, Nat.le_of_ble_eq_true rfl⟩ (Nat.le_of_ble_eq_true rfl) dX11_step_229 rfl hm (fun x13 H locs Hh hm => ?_)
          refine z_irem C dX11_step_232 hm (fun x14 hm => ?_)
          refine z_iadd C dX11_step_233 ?_
          refine lv_aload_n hx hb dX11_step_234 rfl (lv_at hl 0 rfl) ?_
          refine z_getR C fl_11_34 Hh dX11_step_235 rfl hm (fun x15 hm => ?_)
          refine z_iconst C dX11_step_238 ?_
          refine lv_iload_n hx hb dX11_step_239 rfl (lv_at hl 2 rfl) ?_
          refine z_imul C dX11_step_240 ?_
          refine z_iconst C dX11_step_241 ?_
          refine z_iadd C dX11_step_242 ?_
          refine z_iald C Hh dX11_step_243 hm (fun x16 hm => ?_)
          refine z_iast C Hh dX11_step_244 hm (fun h H locs Hh hm => ?_)
          exact K245 h l2 _ _ _ Hh (lv_sub hl [0, 1, 2] rfl) hm
        · refine lv_goto (tgt := 245) hx hb dX11_step_167 (by decide) ?_
          exact K245 h l2 _ _ _ Hh (lv_sub hl [0, 1, 2] rfl) hm
      have KL117 : ∀ (n : Nat) (h : Hp) (l2 l4 l5 l6 : Int) (H : Heap) (locs : List Loc) (ls : Array Slot), zH g s h H locs → lv_has ls 7 [(0, qR g l0), (1, qI l1), (2, qI l2), (4, qI l4), (5, qI l5), (6, qI l6)] → M_X11_step_w117 n h l0 l1 l2 l4 l5 l6 = some z2 → W p l e { frames := 4, cells := 0, slots := 0, locals := 97 } s m args below meth c H locs 0 0 (zQ below g r none args s 0 0) (F0 m 117 ls []) := by
        intro n
        induction n with
        | zero => intro h l2 l4 l5 l6 H locs ls Hh hl hm; cases hm
        | succ n ih117 =>
          intro h l2 l4 l5 l6 H locs ls Hh hl hm
          obtain ⟨z117, hm, hc117⟩ := wh_inv hm
          have hm : M_X11_step_b117 h l0 l1 l2 l4 l5 l6 = some z117 := hm
          unfold M_X11_step_b117 at hm
          refine lv_iload hx hb dX11_step_117 (lv_at hl 5 rfl) ?_
          refine lv_aload_n hx hb dX11_step_119 rfl (lv_at hl 0 rfl) ?_
          refine z_getR C fl_11_341 Hh dX11_step_120 rfl hm (fun x17 hm => ?_)
          refine z_cVIr (vs := []) C (fun q hq => ct_X10_all l g h x17 q hq) tw_1730 my_X10_all (fun q hq => tg_X10_all hq) rfl hl.1 Hh ⟨Nat.le_of_ble_eq_true rfl, Nat.le_of_ble_eq_true rfl, Nat.le_of_ble_eq_true rfl, Nat.le_of_ble_eq_true rfl⟩ (Nat.le_of_ble_eq_true rfl) dX11_step_123 rfl hm (fun x18 H locs Hh hm => ?_)
          refine z_icmp_ge (tgt := 154) C dX11_step_126 (by decide) rfl rfl hm (fun _ hm => ?_) (fun _ hm => ?_)
          · cases hm
            exact K154 h l2 l4 _ _ _ Hh (lv_sub hl [0, 1, 2, 3] rfl) hc117
          · refine lv_aload_n hx hb dX11_step_129 rfl (lv_at hl 0 rfl) ?_
            refine z_getR C fl_11_28 Hh dX11_step_130 rfl hm (fun x19 hm => ?_)
            refine lv_iload hx hb dX11_step_133 (lv_at hl 3 rfl) ?_
            refine lv_iload hx hb dX11_step_135 (lv_at hl 5 rfl) ?_
            refine z_iadd C dX11_step_137 ?_
            refine lv_aload_n hx hb dX11_step_138 rfl (lv_at hl 0 rfl) ?_
            refine lv_iload_n hx hb dX11_step_139 rfl (lv_at hl 2 rfl) ?_
            refine lv_iload hx hb dX11_step_140 (lv_at hl 4 rfl) ?_
            refine lv_iload hx hb dX11_step_142 (lv_at hl 5 rfl) ?_
            refine z_cVIr (vs := [qI l2, qI l5, qI l6]) C (fun q hq => ct_X11_marked l g h l0 l2 l5 l6 q hq) tw_1734 my_X11_marked (fun q hq => tg_X11_marked hq) rfl hl.1 Hh ⟨Nat.le_of_ble_eq_true rfl, Nat.le_of_ble_eq_true rfl, Nat.le_of_ble_eq_true rfl, Nat.le_of_ble_eq_true rfl⟩ (Nat.le_of_ble_eq_true rfl) dX11_step_144 rfl hm (fun x20 H locs Hh hm => ?_)
            refine z_iast C Hh dX11_step_147 hm (fun h H locs Hh hm => ?_)
            refine z_iinc (x := l6) (k := 5) (lv' := [(6, qI (l6 + 1)), (0, qR g l0), (1, qI l1), (2, qI l2), (4, qI l4), (5, qI l5)]) C dX11_step_148 hl rfl (by decide) rfl (fun ls hl => ?_)
            refine lv_goto (tgt := 117) hx hb dX11_step_151 (by decide) ?_
            cases hm
            exact ih117 h l2 l4 l5 (l6 + 1) _ _ _ Hh (lv_sub hl [1, 2, 3, 4, 5, 0] rfl) hc117
      have K94 : ∀ (h : Hp) (l2 : Int) (H : Heap) (locs : List Loc) (ls : Array Slot), zH g s h H locs → lv_has ls 7 [(0, qR g l0), (1, qI l1), (2, qI l2)] → M_X11_step_p94 h l0 l1 l2 = some z2 → W p l e { frames := 4, cells := 0, slots := 0, locals := 97 } s m args below meth c H locs 0 0 (zQ below g r none args s 0 0) (F0 m 94 ls []) := by
        intro h l2  H locs ls Hh hl hm
        unfold M_X11_step_p94 at hm
        refine lv_goto (tgt := 245) hx hb dX11_step_94 (by decide) ?_
        exact K245 h l2 _ _ _ Hh (lv_sub hl [0, 1, 2] rfl) hm
      have KL57 : ∀ (n : Nat) (h : Hp) (l2 l3 l4 l5 : Int) (H : Heap) (locs : List Loc) (ls : Array Slot), zH g s h H locs → lv_has ls 7 [(0, qR g l0), (1, qI l1), (2, qI l2), (3, qI l3), (4, qI l4), (5, qI l5)] → M_X11_step_w57 n h l0 l1 l2 l3 l4 l5 = some z2 → W p l e { frames := 4, cells := 0, slots := 0, locals := 97 } s m args below meth c H locs 0 0 (zQ below g r none args s 0 0) (F0 m 57 ls []) := by
        intro n
        induction n with
        | zero => intro h l2 l3 l4 l5 H locs ls Hh hl hm; cases hm
        | succ n ih57 =>
          intro h l2 l3 l4 l5 H locs ls Hh hl hm
          obtain ⟨z57, hm, hc57⟩ := wh_inv hm
          have hm : M_X11_step_b57 h l0 l1 l2 l3 l4 l5 = some z57 := hm
          unfold M_X11_step_b57 at hm
          refine lv_iload hx hb dX11_step_57 (lv_at hl 5 rfl) ?_
          refine lv_aload_n hx hb dX11_step_59 rfl (lv_at hl 0 rfl) ?_
          refine z_getR C fl_11_341 Hh dX11_step_60 rfl hm (fun x21 hm => ?_)
          refine z_cVIr (vs := []) C (fun q hq => ct_X10_all l g h x21 q hq) tw_1730 my_X10_all (fun q hq => tg_X10_all hq) rfl hl.1 Hh ⟨Nat.le_of_ble_eq_true rfl, Nat.le_of_ble_eq_true rfl, Nat.le_of_ble_eq_true rfl, Nat.le_of_ble_eq_true rfl⟩ (Nat.le_of_ble_eq_true rfl) dX11_step_63 rfl hm (fun x22 H locs Hh hm => ?_)
          refine z_icmp_ge (tgt := 94) C dX11_step_66 (by decide) rfl rfl hm (fun _ hm => ?_) (fun _ hm => ?_)
          · cases hm
            exact K94 h l2 _ _ _ Hh (lv_sub hl [0, 1, 2] rfl) hc57
          · refine lv_aload_n hx hb dX11_step_69 rfl (lv_at hl 0 rfl) ?_
            refine z_getR C fl_11_28 Hh dX11_step_70 rfl hm (fun x23 hm => ?_)
            refine lv_iload hx hb dX11_step_73 (lv_at hl 4 rfl) ?_
            refine lv_iload hx hb dX11_step_75 (lv_at hl 5 rfl) ?_
            refine z_iadd C dX11_step_77 ?_
            refine lv_aload_n hx hb dX11_step_78 rfl (lv_at hl 0 rfl) ?_
            refine z_getR C fl_11_28 Hh dX11_step_79 rfl hm (fun x24 hm => ?_)
            refine lv_iload_n hx hb dX11_step_82 rfl (lv_at hl 3 rfl) ?_
            refine lv_iload hx hb dX11_step_83 (lv_at hl 5 rfl) ?_
            refine z_iadd C dX11_step_85 ?_
            refine z_iald C Hh dX11_step_86 hm (fun x25 hm => ?_)
            refine z_iast C Hh dX11_step_87 hm (fun h H locs Hh hm => ?_)
            refine z_iinc (x := l5) (k := 5) (lv' := [(5, qI (l5 + 1)), (0, qR g l0), (1, qI l1), (2, qI l2), (3, qI l3), (4, qI l4)]) C dX11_step_88 hl rfl (by decide) rfl (fun ls hl => ?_)
            refine lv_goto (tgt := 57) hx hb dX11_step_91 (by decide) ?_
            cases hm
            exact ih57 h l2 l3 l4 (l5 + 1) _ _ _ Hh (lv_sub hl [1, 2, 3, 4, 5, 0] rfl) hc57
      unfold M_X11_step_b2 at hm
      refine lv_iload_n hx hb dX11_step_2 rfl (lv_at hl 2 rfl) ?_
      refine lv_aload_n hx hb dX11_step_3 rfl (lv_at hl 0 rfl) ?_
      refine z_getR C fl_11_341 Hh dX11_step_4 rfl hm (fun x26 hm => ?_)
      refine z_getI C fl_11_230 Hh dX11_step_7 rfl hm (fun x27 hm => ?_)
      refine z_icmp_ge (tgt := 251) C dX11_step_10 (by decide) rfl rfl hm (fun _ hm => ?_) (fun _ hm => ?_)
      · cases hm
        exact K251 h _ _ _ Hh (lv_sub hl [] rfl) hc2
      · refine z_sipush C dX11_step_13 rfl ?_
        refine lv_iload_n hx hb dX11_step_16 rfl (lv_at hl 1 rfl) ?_
        refine z_imul C dX11_step_17 ?_
        refine z_bipush C dX11_step_18 rfl ?_
        refine lv_iload_n hx hb dX11_step_20 rfl (lv_at hl 2 rfl) ?_
        refine z_imul C dX11_step_21 ?_
        refine z_iadd C dX11_step_22 ?_
        refine lv_istore_n (lv' := [(3, qI ((216 * l1) + (36 * l2))), (0, qR g l0), (1, qI l1), (2, qI l2)]) hx hb dX11_step_23 rfl hl (by decide) rfl (fun ls hl => ?_)
        refine lv_iload_n hx hb dX11_step_24 rfl (lv_at hl 0 rfl) ?_
        refine z_sipush C dX11_step_25 rfl ?_
        refine z_iadd C dX11_step_28 ?_
        refine lv_istore (lv' := [(4, qI (((216 * l1) + (36 * l2)) + 216)), (3, qI ((216 * l1) + (36 * l2))), (0, qR g l0), (1, qI l1), (2, qI l2)]) hx hb dX11_step_29 hl (by decide) rfl (fun ls hl => ?_)
        refine lv_aload_n hx hb dX11_step_31 rfl (lv_at hl 2 rfl) ?_
        refine z_getR C fl_11_37 Hh dX11_step_32 rfl hm (fun x28 hm => ?_)
        refine z_bipush C dX11_step_35 rfl ?_
        refine lv_iload_n hx hb dX11_step_37 rfl (lv_at hl 3 rfl) ?_
        refine z_imul C dX11_step_38 ?_
        refine lv_iload_n hx hb dX11_step_39 rfl (lv_at hl 4 rfl) ?_
        refine z_iadd C dX11_step_40 ?_
        refine z_iconst C dX11_step_41 ?_
        refine z_iast C Hh dX11_step_42 hm (fun h H locs Hh hm => ?_)
        refine lv_aload_n hx hb dX11_step_43 rfl (lv_at hl 2 rfl) ?_
        refine z_getR C fl_11_31 Hh dX11_step_44 rfl hm (fun x29 hm => ?_)
        refine lv_iload_n hx hb dX11_step_47 rfl (lv_at hl 4 rfl) ?_
        refine z_iald C Hh dX11_step_48 hm (fun x30 hm => ?_)
        refine z_bipush C dX11_step_49 rfl ?_
        refine z_icmp_ne (tgt := 97) C dX11_step_51 (by decide) rfl lq_m2 hm (fun _ hm => ?_) (fun _ hm => ?_)
        · refine z_sipush C dX11_step_97 rfl ?_
          refine lv_iload_n hx hb dX11_step_100 rfl (lv_at hl 3 rfl) ?_
          refine z_imul C dX11_step_101 ?_
          refine z_bipush C dX11_step_102 rfl ?_
          refine lv_aload_n hx hb dX11_step_104 rfl (lv_at hl 2 rfl) ?_
          refine z_getR C fl_11_31 Hh dX11_step_105 rfl hm (fun x31 hm => ?_)
          refine lv_iload_n hx hb dX11_step_108 rfl (lv_at hl 4 rfl) ?_
          refine z_iald C Hh dX11_step_109 hm (fun x32 hm => ?_)
          refine z_imul C dX11_step_110 ?_
          refine z_iadd C dX11_step_111 ?_
          refine lv_istore (lv' := [(5, qI ((216 * l1) + (36 * x32))), (4, qI (((216 * l1) + (36 * l2)) + 216)), (3, qI ((216 * l1) + (36 * l2))), (0, qR g l0), (1, qI l1), (2, qI l2)]) hx hb dX11_step_112 hl (by decide) rfl (fun ls hl => ?_)
          refine z_iconst C dX11_step_114 ?_
          refine lv_istore (lv' := [(6, qI 0), (5, qI ((216 * l1) + (36 * x32))), (4, qI (((216 * l1) + (36 * l2)) + 216)), (3, qI ((216 * l1) + (36 * l2))), (0, qR g l0), (1, qI l1), (2, qI l2)]) hx hb dX11_step_115 hl (by decide) rfl (fun ls hl => ?_)
          exact KL117 FU h l2 (((216 * l1) + (36 * l2)) + 216) ((216 * l1) + (36 * x32)) 0 _ _ _ Hh (lv_sub hl [4, 5, 6, 2, 1, 0] rfl) hm
        · refine z_iconst C dX11_step_54 ?_
          refine lv_istore (lv' := [(5, qI 0), (4, qI (((216 * l1) + (36 * l2)) + 216)), (3, qI ((216 * l1) + (36 * l2))), (0, qR g l0), (1, qI l1), (2, qI l2)]) hx hb dX11_step_55 hl (by decide) rfl (fun ls hl => ?_)
          exact KL57 FU h l2 ((216 * l1) + (36 * l2)) (((216 * l1) + (36 * l2)) + 216) 0 _ _ _ Hh (lv_sub hl [3, 4, 5, 2, 1, 0] rfl) hm
  refine z_iconst C dX11_step_0 ?_
  refine lv_istore_n (lv' := [(2, qI 0), (0, qR g l0), (1, qI l1)]) hx hb dX11_step_1 rfl hl (by decide) rfl (fun ls hl => ?_)
  exact KL2 FU h l0 l1 0 _ _ _ Hh (lv_sub hl [1, 2, 0] rfl) hm
