theorem tg_X11_trouble {h : Hp} {l0 : Int} {r : Hp × Int} (hm : M_X11_trouble h l0 = some r) : hT h l0 = 21 := (tk_inv hm).1
set_option maxRecDepth 100000 in
set_option maxHeartbeats 4000000 in
theorem ct_X11_trouble (l : Launch) (g : zGeo) (h0 : Hp) (l0 : Int) (r : Hp × Int) (hm : M_X11_trouble h0 l0 = some r) : zM l yX11_trouble cX11_trouble 1 (some .int) 0 0 0 0 g h0 [qR g l0] r.1 (some (qI r.2)) := by
  refine z_meth (by decide) (Nat.le_of_ble_eq_true rfl) ?_
  intro p e s m args below meth c H ls C hr hlocks hnm Hh hl
  have C : zC p m c cX11_trouble 1 s args RX11 g := C
  have hnm : meth.name = "trouble" := hnm
  have hx := C.1.1
  have hb := C.1.2.1
  have hl : lv_has ls 1 [(0, qR g l0)] := hl
  unfold M_X11_trouble at hm
  replace hm := (tk_inv hm).2
  generalize h0 = h at Hh hm
  refine lv_aload_n hx hb dX11_trouble_0 rfl (lv_at hl 0 rfl) ?_
  refine z_iconst C dX11_trouble_1 ?_
  refine z_putI C hnm pl_11_78 Hh dX11_trouble_2 rfl hm (fun h H locs Hh hm => ?_)
  refine lv_aload_n hx hb dX11_trouble_5 rfl (lv_at hl 0 rfl) ?_
  refine z_getI C fl_11_81 Hh dX11_trouble_6 rfl hm (fun x1 hm => ?_)
  exact z_iret C hr hlocks Hh dX11_trouble_9 hm
