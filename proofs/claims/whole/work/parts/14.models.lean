def M_X0_init (h : Hp) (l0 l1 : Int) : Option Hp := tk 10 h l0 (
  (pf 10 h l0 1 0).bind fun h =>
  (pf 10 h l0 2 0).bind fun h =>
  nb (nw 1 61 0 h) h.2.2.2 fun h x1 =>
  rp x1 (pf 10 h l0 3 x1) fun h =>
  nb (nw 1 61 0 h) h.2.2.2 fun h x2 =>
  rp x2 (pf 10 h l0 4 x2) fun h =>
  nb (nw 1 2196 0 h) h.2.2.2 fun h x3 =>
  rp x3 (pf 10 h l0 5 x3) fun h =>
  nb (nw 1 2196 0 h) h.2.2.2 fun h x4 =>
  rp x4 (pf 10 h l0 6 x4) fun h =>
  nb (nw 1 61 0 h) h.2.2.2 fun h x5 =>
  rp x5 (pf 10 h l0 7 x5) fun h =>
  nb (nw 2 61 0 h) h.2.2.2 fun h x6 =>
  rp x6 (pf 10 h l0 8 x6) fun h =>
  rp l1 (pf 10 h l0 0 l1) fun h =>
  some h)

def M_X8_sneezes_p31 (h : Hp) : Option Int :=
  some 0

def M_X8_sneezes_b2 (h : Hp) (l0 l1 : Int) : Option (Int ⊕ (Unit ⊕ (Int))) :=
  (gf 18 h l0 2).bind fun x1 =>
  if w32 l1 < w32 x1 then (
    (gr 18 h l0 5).bind fun x2 =>
    (ald 1 h x2 (4 * l1)).bind fun x3 =>
    if w32 x3 = 9 then (
      some (.inr (.inr 1))
    ) else (
      some (.inl (l1 + 1))
    )
  ) else (
    some (.inr (.inl ()))
  )

def M_X8_sneezes_w2 (n : Nat) (h : Hp) (l0 l1 : Int) : Option Int :=
  (wh (S := Int) (T := (Unit ⊕ (Int))) (fun a => M_X8_sneezes_b2 h l0 a) n l1).bind (fun z => exi z (fun b => M_X8_sneezes_p31 h) (fun q => some q))

def M_X8_sneezes (h : Hp) (l0 : Int) : Option Int := tk 18 h l0 (
  M_X8_sneezes_w2 FU h l0 0)

def M_X8_nextSeed (h : Hp) (l0 : Int) : Option Int :=
  (irm ((75 * l0) + 74) 65537).bind fun x1 =>
  some x1

def M_X8_drawnPlace (h : Hp) (l0 l1 : Int) : Option Int := tk 18 h l0 (
  (gf 18 h l0 0).bind fun x1 =>
  if 0 < w32 x1 then (
    (gf 18 h l0 1).bind fun x2 =>
    if 0 < w32 x2 then (
      (gf 18 h l0 0).bind fun x3 =>
      (gf 18 h l0 1).bind fun x4 =>
      (irm l1 (x3 * x4)).bind fun x5 =>
      (gf 18 h l0 0).bind fun x6 =>
      (idv x5 x6).bind fun x7 =>
      (gf 18 h l0 0).bind fun x8 =>
      (irm x5 x8).bind fun x9 =>
      some ((6 * x7) + x9)
    ) else (
      some (-1)
    )
  ) else (
    some (-1)
  ))

def M_X0_drawAll_p96 (h : Hp) : Option Hp :=
  some h

def M_X0_drawAll_p90 (h : Hp) (l0 l1 l2 : Int) : Option ((Hp × Int × Int) ⊕ Hp) :=
  some (.inl (h, l1, l2 + 1))

def M_X0_drawAll_p84 (h : Hp) (l0 l1 l2 l3 : Int) : Option ((Hp × Int × Int) ⊕ (Hp × Int)) :=
  some (.inl (h, l1, l3 + 1))

def M_X0_drawAll_b20 (h : Hp) (l0 l2 l1 l3 : Int) : Option ((Hp × Int × Int) ⊕ (Hp × Int)) :=
  (gr 10 h l0 0).bind fun x1 =>
  (gf 18 h x1 2).bind fun x2 =>
  if w32 l3 < w32 x2 then (
    (gr 10 h l0 0).bind fun x3 =>
    (gr 18 h x3 5).bind fun x4 =>
    (ald 1 h x4 (4 * l3)).bind fun x5 =>
    if w32 x5 = 9 then (
      (M_X8_nextSeed h l1).bind fun x6 =>
      (gf 10 h l0 2).bind fun x7 =>
      if w32 x7 < w32 l2 then (
        (gr 10 h l0 3).bind fun x8 =>
        (ald 1 h x8 l2).bind fun x9 =>
        if w32 x9 = w32 l3 then (
          (gr 10 h l0 4).bind fun x10 =>
          (gr 10 h l0 0).bind fun x11 =>
          (M_X8_drawnPlace h x11 x6).bind fun x12 =>
          (ast 1 h x10 l2 x12).bind fun h =>
          M_X0_drawAll_p84 h l0 x6 l2 l3
        ) else (
          M_X0_drawAll_p84 h l0 x6 l2 l3
        )
      ) else (
        M_X0_drawAll_p84 h l0 x6 l2 l3
      )
    ) else (
      M_X0_drawAll_p84 h l0 l1 l2 l3
    )
  ) else (
    some (.inr (h, l1))
  )

def M_X0_drawAll_w20 (n : Nat) (h : Hp) (l0 l1 l2 l3 : Int) : Option ((Hp × Int × Int) ⊕ Hp) :=
  (wh (S := (Hp × Int × Int)) (T := (Hp × Int)) (fun a => M_X0_drawAll_b20 a.1 l0 l2 a.2.1 a.2.2) n (h, l1, l3)).bind (fun b => M_X0_drawAll_p90 b.1 l0 b.2 l2)

def M_X0_drawAll_b10 (h : Hp) (l0 l1 l2 : Int) : Option ((Hp × Int × Int) ⊕ Hp) :=
  (gf 10 h l0 1).bind fun x13 =>
  if w32 x13 < w32 l2 then (
    some (.inr h)
  ) else (
    M_X0_drawAll_w20 FU h l0 l1 l2 0
  )

def M_X0_drawAll_w10 (n : Nat) (h : Hp) (l0 l1 l2 : Int) : Option Hp :=
  (wh (S := (Hp × Int × Int)) (T := Hp) (fun a => M_X0_drawAll_b10 a.1 l0 a.2.1 a.2.2) n (h, l1, l2)).bind (fun b => M_X0_drawAll_p96 b)

def M_X0_drawAll (h : Hp) (l0 : Int) : Option Hp := tk 10 h l0 (
  (gr 10 h l0 0).bind fun x14 =>
  (gf 18 h x14 6).bind fun x15 =>
  M_X0_drawAll_w10 FU h l0 x15 1)

def M_X0_lay_p138 (h : Hp) (l0 l1 : Int) : Option Hp :=
  (M_X8_sneezes h l1).bind fun x1 =>
  if w32 x1 = 0 then (
    some h
  ) else (
    (M_X0_drawAll h l0).bind fun h =>
    some h
  )

def M_X0_lay_b63 (h : Hp) (l0 l1 l4 : Int) : Option ((Hp × Int) ⊕ Hp) :=
  if 0 < w32 l4 then (
    (gr 18 h l1 4).bind fun x2 =>
    (gr 10 h l0 3).bind fun x3 =>
    (ald 1 h x3 l4).bind fun x4 =>
    (ald 1 h x2 x4).bind fun x5 =>
    if w32 x5 < 0 then (
      some (.inr h)
    ) else (
      (pf 10 h l0 2 (l4 - 1)).bind fun h =>
      (gr 10 h l0 3).bind fun x6 =>
      (gf 10 h l0 2).bind fun x7 =>
      (gr 18 h l1 4).bind fun x8 =>
      (gr 10 h l0 3).bind fun x9 =>
      (ald 1 h x9 l4).bind fun x10 =>
      (ald 1 h x8 x10).bind fun x11 =>
      (ast 1 h x6 x7 x11).bind fun h =>
      (gr 10 h l0 7).bind fun x12 =>
      (gf 10 h l0 2).bind fun x13 =>
      (ast 1 h x12 x13 0).bind fun h =>
      (gr 10 h l0 8).bind fun x14 =>
      (gf 10 h l0 2).bind fun x15 =>
      (ast 2 h x14 x15 0).bind fun h =>
      some (.inl (h, l4 + (-1)))
    )
  ) else (
    some (.inr h)
  )

def M_X0_lay_w63 (n : Nat) (h : Hp) (l0 l1 l4 : Int) : Option Hp :=
  (wh (S := (Hp × Int)) (T := Hp) (fun a => M_X0_lay_b63 a.1 l0 l1 a.2) n (h, l4)).bind (fun b => M_X0_lay_p138 b l0 l1)

def M_X0_lay (h : Hp) (l0 l1 l2 l3 : Int) : Option Hp := tk 10 h l0 (
  rp l1 (pf 10 h l0 0 l1) fun h =>
  (pf 10 h l0 1 (imax 0 (imin l3 60))).bind fun h =>
  (gf 10 h l0 1).bind fun x16 =>
  (pf 10 h l0 2 x16).bind fun h =>
  (gr 10 h l0 3).bind fun x17 =>
  (gf 10 h l0 1).bind fun x18 =>
  (ast 1 h x17 x18 l2).bind fun h =>
  (gr 10 h l0 7).bind fun x19 =>
  (gf 10 h l0 1).bind fun x20 =>
  (ast 1 h x19 x20 0).bind fun h =>
  (gr 10 h l0 8).bind fun x21 =>
  (gf 10 h l0 1).bind fun x22 =>
  (ast 2 h x21 x22 0).bind fun h =>
  (gf 10 h l0 1).bind fun x23 =>
  M_X0_lay_w63 FU h l0 l1 x23)

def M_X0_want (h : Hp) (l0 l1 l2 : Int) : Option Hp := tk 10 h l0 (
  (gr 10 h l0 8).bind fun x1 =>
  (ald 2 h x1 l1).bind fun x2 =>
  if w32 (lcmp (land x2 (lshl 1 l2)) 0) = 0 then (
    (gr 10 h l0 8).bind fun x3 =>
    (ald 2 h x3 l1).bind fun x4 =>
    (ast 2 h x3 l1 (lor x4 (lshl 1 l2))).bind fun h =>
    (gr 10 h l0 6).bind fun x5 =>
    (gr 10 h l0 7).bind fun x6 =>
    (ald 1 h x6 l1).bind fun x7 =>
    (ast 1 h x5 ((36 * l1) + x7) l2).bind fun h =>
    (gr 10 h l0 7).bind fun x8 =>
    (ald 1 h x8 l1).bind fun x9 =>
    (ast 1 h x8 l1 (x9 + 1)).bind fun h =>
    some h
  ) else (
    some h
  ))

def M_X8_shiftSource (h : Hp) (l0 l1 l2 : Int) : Option Int := tk 18 h l0 (
  (gf 18 h l0 0).bind fun x1 =>
  if 0 < w32 x1 then (
    (gf 18 h l0 1).bind fun x2 =>
    if 0 < w32 x2 then (
      (gf 18 h l0 1).bind fun x3 =>
      (gf 18 h l0 1).bind fun x4 =>
      (irm (l2 + (6 * x3)) x4).bind fun x5 =>
      (gf 18 h l0 0).bind fun x6 =>
      (gf 18 h l0 0).bind fun x7 =>
      (irm (l1 + (6 * x6)) x7).bind fun x8 =>
      some ((6 * x5) + x8)
    ) else (
      some (-1)
    )
  ) else (
    some (-1)
  ))

def M_X8_stainSource_p96 (h : Hp) (l0 l1 l3 l4 l6 l7 : Int) : Option Int :=
  (gf 18 h l0 1).bind fun x1 =>
  if w32 l6 < w32 (x1 - 1) then (
    (ald 1 h l1 (l7 + 6)).bind fun x2 =>
    if w32 x2 = w32 l4 then (
      some (l3 + 6)
    ) else (
      some l3
    )
  ) else (
    some l3
  )

def M_X8_stainSource_p74 (h : Hp) (l0 l1 l3 l4 l6 l7 : Int) : Option Int :=
  if 0 < w32 l6 then (
    (ald 1 h l1 (l7 - 6)).bind fun x3 =>
    if w32 x3 = w32 l4 then (
      some (l3 - 6)
    ) else (
      M_X8_stainSource_p96 h l0 l1 l3 l4 l6 l7
    )
  ) else (
    M_X8_stainSource_p96 h l0 l1 l3 l4 l6 l7
  )

def M_X8_stainSource_p48 (h : Hp) (l0 l1 l3 l4 l5 l6 l7 : Int) : Option Int :=
  (gf 18 h l0 0).bind fun x4 =>
  if w32 l5 < w32 (x4 - 1) then (
    (ald 1 h l1 (l7 + 1)).bind fun x5 =>
    if w32 x5 = w32 l4 then (
      some (l3 + 1)
    ) else (
      M_X8_stainSource_p74 h l0 l1 l3 l4 l6 l7
    )
  ) else (
    M_X8_stainSource_p74 h l0 l1 l3 l4 l6 l7
  )

def M_X8_stainSource (h : Hp) (l0 l1 l2 l3 l4 : Int) : Option Int := tk 18 h l0 (
  (irm l3 6).bind fun x6 =>
  (idv l3 6).bind fun x7 =>
  (ald 1 h l1 (l2 + l3)).bind fun x8 =>
  if w32 x8 = w32 l4 then (
    some l3
  ) else (
    if 0 < w32 x6 then (
      (ald 1 h l1 ((l2 + l3) - 1)).bind fun x9 =>
      if w32 x9 = w32 l4 then (
        some (l3 - 1)
      ) else (
        M_X8_stainSource_p48 h l0 l1 l3 l4 x6 x7 (l2 + l3)
      )
    ) else (
      M_X8_stainSource_p48 h l0 l1 l3 l4 x6 x7 (l2 + l3)
    )
  ))

def M_X8_source (h : Hp) (l0 l1 l2 l3 l4 l5 : Int) : Option Int := tk 18 h l0 (
  (irm l4 6).bind fun x1 =>
  (idv l4 6).bind fun x2 =>
  (gr 18 h l0 5).bind fun x3 =>
  (ald 1 h x3 ((4 * l1) + 1)).bind fun x4 =>
  (gr 18 h l0 5).bind fun x5 =>
  (ald 1 h x5 ((4 * l1) + 2)).bind fun x6 =>
  (gr 18 h l0 5).bind fun x7 =>
  (ald 1 h x7 (4 * l1)).bind fun x8 =>
  if w32 x8 = 1 then (
    if w32 x1 = w32 x6 then (
      (gr 18 h l0 5).bind fun x9 =>
      (ald 1 h x9 ((4 * l1) + 3)).bind fun x10 =>
      if w32 x2 = w32 x10 then (
        some (-1)
      ) else (
        some l4
      )
    ) else (
      some l4
    )
  ) else (
  if w32 x8 = 2 then (
    if w32 x1 < w32 x4 then (
      some l4
    ) else (
      if 0 < w32 (((2 * x4) - 1) - x1) then (
        some ((6 * x2) + (((2 * x4) - 1) - x1))
      ) else (
        some ((6 * x2) + 0)
      )
    )
  ) else (
  if w32 x8 = 3 then (
    (M_X8_shiftSource h l0 (x1 - x4) (x2 - x6)).bind fun x11 =>
    some x11
  ) else (
  if w32 x8 = 4 then (
    (gf 18 h l0 1).bind fun x12 =>
    (gf 18 h l0 0).bind fun x13 =>
    some ((((6 * ((x12 - 1) - x2)) + x13) - 1) - x1)
  ) else (
  if w32 x8 = 6 then (
    (M_X8_stainSource h l0 l2 l3 l4 x4).bind fun x14 =>
    some x14
  ) else (
  if w32 x8 = 7 then (
    (ald 1 h l2 (l3 + l4)).bind fun x15 =>
    if w32 x15 = w32 x4 then (
      some (-1)
    ) else (
      some l4
    )
  ) else (
  if w32 x8 = 8 then (
    (idv (x2 * x4) 10).bind fun x16 =>
    (idv (x1 * x4) 10).bind fun x17 =>
    some ((6 * x16) + x17)
  ) else (
  if w32 x8 = 9 then (
    if w32 l4 = w32 l5 then (
      some (-1)
    ) else (
      some l4
    )
  ) else (
    some l4
  )))))))))

def M_X0_source (h : Hp) (l0 l1 l2 : Int) : Option Int := tk 10 h l0 (
  (gr 10 h l0 0).bind fun x1 =>
  (gr 18 h x1 5).bind fun x2 =>
  (gr 10 h l0 3).bind fun x3 =>
  (ald 1 h x3 l1).bind fun x4 =>
  (ald 1 h x2 (4 * x4)).bind fun x5 =>
  if w32 x5 = 7 then (
    some l2
  ) else (
    if w32 x5 = 6 then (
      some l2
    ) else (
      (gr 10 h l0 0).bind fun x6 =>
      (gr 10 h l0 3).bind fun x7 =>
      (ald 1 h x7 l1).bind fun x8 =>
      (gr 10 h l0 5).bind fun x9 =>
      (gr 10 h l0 4).bind fun x10 =>
      (ald 1 h x10 l1).bind fun x11 =>
      (M_X8_source h x6 x8 x9 0 l2 x11).bind fun x12 =>
      some x12
    )
  ))

def M_X8_beside (h : Hp) (l0 l1 l2 : Int) : Option Int := tk 18 h l0 (
  (irm l1 6).bind fun x1 =>
  (idv l1 6).bind fun x2 =>
  if w32 l2 = 0 then (
    if 0 < w32 x1 then (
      some (l1 - 1)
    ) else (
      some (-1)
    )
  ) else (
  if w32 l2 = 1 then (
    (gf 18 h l0 0).bind fun x3 =>
    if w32 x1 < w32 (x3 - 1) then (
      some (l1 + 1)
    ) else (
      some (-1)
    )
  ) else (
  if w32 l2 = 2 then (
    if 0 < w32 x2 then (
      some (l1 - 6)
    ) else (
      some (-1)
    )
  ) else (
    (gf 18 h l0 1).bind fun x4 =>
    if w32 x2 < w32 (x4 - 1) then (
      some (l1 + 6)
    ) else (
      some (-1)
    )
  ))))

def M_X0_wantAround_p37 (h : Hp) : Option Hp :=
  some h

def M_X0_wantAround_p31 (h : Hp) (l0 l1 l2 l3 : Int) : Option ((Hp × Int) ⊕ Hp) :=
  some (.inl (h, l3 + 1))

def M_X0_wantAround_b2 (h : Hp) (l0 l1 l2 l3 : Int) : Option ((Hp × Int) ⊕ Hp) :=
  if w32 l3 < 4 then (
    (gr 10 h l0 0).bind fun x1 =>
    (M_X8_beside h x1 l2 l3).bind fun x2 =>
    if w32 x2 = (-1) then (
      M_X0_wantAround_p31 h l0 l1 l2 l3
    ) else (
      (M_X0_want h l0 l1 x2).bind fun h =>
      M_X0_wantAround_p31 h l0 l1 l2 l3
    )
  ) else (
    some (.inr h)
  )

def M_X0_wantAround_w2 (n : Nat) (h : Hp) (l0 l1 l2 l3 : Int) : Option Hp :=
  (wh (S := (Hp × Int)) (T := Hp) (fun a => M_X0_wantAround_b2 a.1 l0 l1 l2 a.2) n (h, l3)).bind (fun b => M_X0_wantAround_p37 b)

def M_X0_wantAround (h : Hp) (l0 l1 l2 : Int) : Option Hp := tk 10 h l0 (
  M_X0_wantAround_w2 FU h l0 l1 l2 0)

def M_X0_prepare_p114 (h : Hp) (l0 : Int) : Option Hp :=
  (gr 10 h l0 0).bind fun x1 =>
  (gr 18 h x1 3).bind fun x2 =>
  (gr 10 h l0 3).bind fun x3 =>
  (gf 10 h l0 2).bind fun x4 =>
  (ald 1 h x3 x4).bind fun x5 =>
  (gr 10 h l0 5).bind fun x6 =>
  (gf 10 h l0 2).bind fun x7 =>
  (cpy 1 h x2 (36 * x5) x6 (36 * x7) 36).bind fun h =>
  some h

def M_X0_prepare_p108 (h : Hp) (l0 l1 : Int) : Option ((Hp × Int) ⊕ Hp) :=
  some (.inl (h, l1 + (-1)))

def M_X0_prepare_p102 (h : Hp) (l0 l1 l2 l3 : Int) : Option ((Hp × Int) ⊕ Hp) :=
  some (.inl (h, l3 + 1))

def M_X0_prepare_p89 (h : Hp) (l0 l1 l2 l3 l4 : Int) : Option ((Hp × Int) ⊕ Hp) :=
  if w32 l2 = 0 then (
    M_X0_prepare_p102 h l0 l1 l2 l3
  ) else (
    (M_X0_wantAround h l0 (l1 - 1) l4).bind fun h =>
    M_X0_prepare_p102 h l0 l1 l2 l3
  )

def M_X0_prepare_b42 (h : Hp) (l0 l1 l2 l3 : Int) : Option ((Hp × Int) ⊕ Hp) :=
  (gr 10 h l0 7).bind fun x8 =>
  (ald 1 h x8 l1).bind fun x9 =>
  if w32 l3 < w32 x9 then (
    (gr 10 h l0 6).bind fun x10 =>
    (ald 1 h x10 ((36 * l1) + l3)).bind fun x11 =>
    (M_X0_source h l0 l1 x11).bind fun x12 =>
    if w32 x12 = (-1) then (
      M_X0_prepare_p89 h l0 l1 l2 l3 x11
    ) else (
      (M_X0_want h l0 (l1 - 1) x12).bind fun h =>
      M_X0_prepare_p89 h l0 l1 l2 l3 x11
    )
  ) else (
    some (.inr h)
  )

def M_X0_prepare_w42 (n : Nat) (h : Hp) (l0 l1 l2 l3 : Int) : Option ((Hp × Int) ⊕ Hp) :=
  (wh (S := (Hp × Int)) (T := Hp) (fun a => M_X0_prepare_b42 a.1 l0 l1 l2 a.2) n (h, l3)).bind (fun b => M_X0_prepare_p108 b l0 l1)

def M_X0_prepare_p39 (h : Hp) (l0 l1 : Int) (s0 : Int) : Option ((Hp × Int) ⊕ Hp) :=
  M_X0_prepare_w42 FU h l0 l1 s0 0

def M_X0_prepare_b5 (h : Hp) (l0 l1 : Int) : Option ((Hp × Int) ⊕ Hp) :=
  (gf 10 h l0 2).bind fun x13 =>
  if w32 x13 < w32 l1 then (
    (gr 10 h l0 0).bind fun x14 =>
    (gr 18 h x14 5).bind fun x15 =>
    (gr 10 h l0 3).bind fun x16 =>
    (ald 1 h x16 l1).bind fun x17 =>
    (ald 1 h x15 (4 * x17)).bind fun x18 =>
    if w32 x18 = 6 then (
      M_X0_prepare_p39 h l0 l1 1
    ) else (
      M_X0_prepare_p39 h l0 l1 0
    )
  ) else (
    some (.inr h)
  )

def M_X0_prepare_w5 (n : Nat) (h : Hp) (l0 l1 : Int) : Option Hp :=
  (wh (S := (Hp × Int)) (T := Hp) (fun a => M_X0_prepare_b5 a.1 l0 a.2) n (h, l1)).bind (fun b => M_X0_prepare_p114 b l0)

def M_X0_prepare (h : Hp) (l0 : Int) : Option Hp := tk 10 h l0 (
  (gf 10 h l0 1).bind fun x19 =>
  M_X0_prepare_w5 FU h l0 x19)

def M_X8_markFor (h : Hp) (l0 l1 l2 l3 l4 l5 : Int) : Option Int := tk 18 h l0 (
  (M_X8_source h l0 l1 l2 l3 l4 l5).bind fun x1 =>
  (gr 18 h l0 5).bind fun x2 =>
  (ald 1 h x2 (4 * l1)).bind fun x3 =>
  (gr 18 h l0 5).bind fun x4 =>
  (ald 1 h x4 ((4 * l1) + 1)).bind fun x5 =>
  if w32 x1 = (-1) then (
    if w32 x3 = 7 then (
      some 0
    ) else (
      some x5
    )
  ) else (
    (ald 1 h l2 (l3 + x1)).bind fun x6 =>
    if w32 x3 = 5 then (
      (gr 18 h l0 5).bind fun x7 =>
      (ald 1 h x7 ((4 * l1) + 2)).bind fun x8 =>
      if w32 x6 = w32 x5 then (
        some x8
      ) else (
        if w32 x6 = w32 x8 then (
          some x5
        ) else (
          some x6
        )
      )
    ) else (
      some x6
    )
  ))

def M_X0_build_p99 (h : Hp) (l0 l1 : Int) : Option (Hp × Int) :=
  (gr 10 h l0 5).bind fun x1 =>
  (gf 10 h l0 1).bind fun x2 =>
  (ald 1 h x1 ((36 * x2) + l1)).bind fun x3 =>
  some (h, x3)

def M_X0_build_p93 (h : Hp) (l0 l1 l2 : Int) : Option ((Hp × Int) ⊕ Hp) :=
  some (.inl (h, l2 + 1))

def M_X0_build_b29 (h : Hp) (l0 l1 l2 l3 l4 l5 : Int) : Option ((Hp × Int) ⊕ Hp) :=
  (gr 10 h l0 7).bind fun x4 =>
  (ald 1 h x4 l2).bind fun x5 =>
  if w32 l5 < w32 x5 then (
    (gr 10 h l0 6).bind fun x6 =>
    (ald 1 h x6 (l3 + l5)).bind fun x7 =>
    (gr 10 h l0 5).bind fun x8 =>
    (gr 10 h l0 0).bind fun x9 =>
    (gr 10 h l0 3).bind fun x10 =>
    (ald 1 h x10 l2).bind fun x11 =>
    (gr 10 h l0 5).bind fun x12 =>
    (gr 10 h l0 4).bind fun x13 =>
    (ald 1 h x13 l2).bind fun x14 =>
    (M_X8_markFor h x9 x11 x12 l4 x7 x14).bind fun x15 =>
    (ast 1 h x8 (l3 + x7) x15).bind fun h =>
    some (.inl (h, l5 + 1))
  ) else (
    some (.inr h)
  )

def M_X0_build_w29 (n : Nat) (h : Hp) (l0 l1 l2 l3 l4 l5 : Int) : Option ((Hp × Int) ⊕ Hp) :=
  (wh (S := (Hp × Int)) (T := Hp) (fun a => M_X0_build_b29 a.1 l0 l1 l2 l3 l4 a.2) n (h, l5)).bind (fun b => M_X0_build_p93 b l0 l1 l2)

def M_X0_build_b7 (h : Hp) (l0 l1 l2 : Int) : Option ((Hp × Int) ⊕ Hp) :=
  (gf 10 h l0 1).bind fun x16 =>
  if w32 x16 < w32 l2 then (
    some (.inr h)
  ) else (
    M_X0_build_w29 FU h l0 l1 l2 (36 * l2) ((36 * l2) - 36) 0
  )

def M_X0_build_w7 (n : Nat) (h : Hp) (l0 l1 l2 : Int) : Option (Hp × Int) :=
  (wh (S := (Hp × Int)) (T := Hp) (fun a => M_X0_build_b7 a.1 l0 l1 a.2) n (h, l2)).bind (fun b => M_X0_build_p99 b l0 l1)

def M_X0_build (h : Hp) (l0 l1 : Int) : Option (Hp × Int) := tk 10 h l0 (
  (gf 10 h l0 2).bind fun x17 =>
  M_X0_build_w7 FU h l0 l1 (x17 + 1))

def M_X0_markBehind (h : Hp) (l0 l1 l2 l3 l4 : Int) : Option (Hp × Int) := tk 10 h l0 (
  (M_X0_lay h l0 l1 l2 l4).bind fun h =>
  (gf 10 h l0 1).bind fun x1 =>
  (M_X0_want h l0 x1 l3).bind fun h =>
  (M_X0_prepare h l0).bind fun h =>
  bd (M_X0_build h l0 l3) fun h x2 =>
  some (h, x2))

def M_X8_holds (h : Hp) (l0 l1 : Int) : Option Int := tk 18 h l0 (
  (irm l1 6).bind fun x1 =>
  (gf 18 h l0 0).bind fun x2 =>
  if w32 x1 < w32 x2 then (
    (idv l1 6).bind fun x3 =>
    (gf 18 h l0 1).bind fun x4 =>
    if w32 x3 < w32 x4 then (
      some 1
    ) else (
      some 0
    )
  ) else (
    some 0
  ))

def M_X0_mapBehind_p42 (h : Hp) (l0 l4 : Int) : Option Hp :=
  (M_X0_prepare h l0).bind fun h =>
  bd (M_X0_build h l0 0) fun h x1 =>
  (gr 10 h l0 5).bind fun x2 =>
  (gf 10 h l0 1).bind fun x3 =>
  (cpy 1 h x2 (36 * x3) l4 0 36).bind fun h =>
  some h

def M_X0_mapBehind_p36 (h : Hp) (l0 l1 l4 l5 : Int) : Option ((Hp × Int) ⊕ Hp) :=
  some (.inl (h, l5 + 1))

def M_X0_mapBehind_b10 (h : Hp) (l0 l1 l4 l5 : Int) : Option ((Hp × Int) ⊕ Hp) :=
  if w32 l5 < 36 then (
    (M_X8_holds h l1 l5).bind fun x4 =>
    if w32 x4 = 0 then (
      M_X0_mapBehind_p36 h l0 l1 l4 l5
    ) else (
      (gf 10 h l0 1).bind fun x5 =>
      (M_X0_want h l0 x5 l5).bind fun h =>
      M_X0_mapBehind_p36 h l0 l1 l4 l5
    )
  ) else (
    some (.inr h)
  )

def M_X0_mapBehind_w10 (n : Nat) (h : Hp) (l0 l1 l4 l5 : Int) : Option Hp :=
  (wh (S := (Hp × Int)) (T := Hp) (fun a => M_X0_mapBehind_b10 a.1 l0 l1 l4 a.2) n (h, l5)).bind (fun b => M_X0_mapBehind_p42 b l0 l4)

def M_X0_mapBehind (h : Hp) (l0 l1 l2 l3 l4 : Int) : Option Hp := tk 10 h l0 (
  (M_X0_lay h l0 l1 l2 l3).bind fun h =>
  M_X0_mapBehind_w10 FU h l0 l1 l4 0)

def M_X0_beginTown (h : Hp) (l0 : Int) : Option Int := tk 10 h l0 (
  (gr 10 h l0 3).bind fun x1 =>
  (gf 10 h l0 2).bind fun x2 =>
  (ald 1 h x1 x2).bind fun x3 =>
  some x3)

def M_X0_matters (h : Hp) (l0 l1 : Int) : Option Int := tk 10 h l0 (
  (gr 10 h l0 8).bind fun x1 =>
  (gf 10 h l0 2).bind fun x2 =>
  (ald 2 h x1 x2).bind fun x3 =>
  if w32 (lcmp (land (lushr x3 l1) 1) 0) = 0 then (
    some 0
  ) else (
    some 1
  ))

def M_X0_beginMark (h : Hp) (l0 l1 : Int) : Option Int := tk 10 h l0 (
  (gr 10 h l0 5).bind fun x1 =>
  (gf 10 h l0 2).bind fun x2 =>
  (ald 1 h x1 ((36 * x2) + l1)).bind fun x3 =>
  some x3)

def M_X0_sourceOf_p57 (h : Hp) (l2 : Int) : Option Int :=
  some l2

def M_X0_sourceOf_b7 (h : Hp) (l0 l2 l3 : Int) : Option ((Int × Int) ⊕ Int) :=
  (gf 10 h l0 2).bind fun x1 =>
  if w32 x1 < w32 l3 then (
    if w32 l2 = (-1) then (
      some (.inr l2)
    ) else (
      (gr 10 h l0 0).bind fun x2 =>
      (gr 10 h l0 3).bind fun x3 =>
      (ald 1 h x3 l3).bind fun x4 =>
      (gr 10 h l0 5).bind fun x5 =>
      (gr 10 h l0 4).bind fun x6 =>
      (ald 1 h x6 l3).bind fun x7 =>
      (M_X8_source h x2 x4 x5 (36 * (l3 - 1)) l2 x7).bind fun x8 =>
      some (.inl (x8, l3 + (-1)))
    )
  ) else (
    some (.inr l2)
  )

def M_X0_sourceOf_w7 (n : Nat) (h : Hp) (l0 l2 l3 : Int) : Option Int :=
  (wh (S := (Int × Int)) (T := Int) (fun a => M_X0_sourceOf_b7 h l0 a.1 a.2) n (l2, l3)).bind (fun b => M_X0_sourceOf_p57 h b)

def M_X0_sourceOf (h : Hp) (l0 l1 : Int) : Option Int := tk 10 h l0 (
  (gf 10 h l0 1).bind fun x9 =>
  M_X0_sourceOf_w7 FU h l0 l1 x9)

def M_X1_init (h : Hp) (l0 l1 : Int) : Option Hp := tk 11 h l0 (
  (pz 11 h l0 1 0).bind fun h =>
  nb (nw 1 625 0 h) h.2.2.2 fun h x1 =>
  rp x1 (pf 11 h l0 2 x1) fun h =>
  (pf 11 h l0 3 0).bind fun h =>
  rp l1 (pf 11 h l0 0 l1) fun h =>
  some h)

def M_X1_firstNotSo_p57 (h : Hp) : Option (Hp × Int) :=
  some (h, (-2))

def M_X1_firstNotSo_b2 (h : Hp) (l0 l1 l2 l3 : Int) : Option ((Hp × Int) ⊕ (Hp ⊕ (Hp × Int))) :=
  (gf 15 h l1 9).bind fun x1 =>
  if w32 l3 < w32 x1 then (
    (gr 11 h l0 0).bind fun x2 =>
    (gr 15 h l1 5).bind fun x3 =>
    (ald 1 h x3 l3).bind fun x4 =>
    (gr 15 h l1 7).bind fun x5 =>
    (ald 1 h x5 l3).bind fun x6 =>
    (gr 15 h l1 6).bind fun x7 =>
    (ald 1 h x7 l3).bind fun x8 =>
    bd (M_X0_markBehind h x2 l2 x4 x6 x8) fun h x9 =>
    (gr 15 h l1 8).bind fun x10 =>
    (ald 1 h x10 l3).bind fun x11 =>
    if w32 x9 = w32 x11 then (
      some (.inl (h, l3 + 1))
    ) else (
      some (.inr (.inr (h, l3)))
    )
  ) else (
    some (.inr (.inl h))
  )

def M_X1_firstNotSo_w2 (n : Nat) (h : Hp) (l0 l1 l2 l3 : Int) : Option (Hp × Int) :=
  (wh (S := (Hp × Int)) (T := (Hp ⊕ (Hp × Int))) (fun a => M_X1_firstNotSo_b2 a.1 l0 l1 l2 a.2) n (h, l3)).bind (fun z => exi z (fun b => M_X1_firstNotSo_p57 b) (fun q => some q))

def M_X1_firstNotSo (h : Hp) (l0 l1 l2 : Int) : Option (Hp × Int) := tk 11 h l0 (
  M_X1_firstNotSo_w2 FU h l0 l1 l2 0)

def M_X5_isUnknown (h : Hp) (l0 l1 : Int) : Option Int := tk 15 h l0 (
  (gr 15 h l0 1).bind fun x1 =>
  (gr 18 h x1 5).bind fun x2 =>
  (ald 1 h x2 (4 * l1)).bind fun x3 =>
  if w32 x3 = 10 then (
    some 1
  ) else (
    some 0
  ))

def M_X5_unknownsBelow_p26 (h : Hp) (l2 : Int) : Option Int :=
  some l2

def M_X5_unknownsBelow_p20 (h : Hp) (l0 l1 l2 l3 : Int) : Option ((Int × Int) ⊕ Int) :=
  some (.inl (l2, l3 + 1))

def M_X5_unknownsBelow_b4 (h : Hp) (l0 l1 l2 l3 : Int) : Option ((Int × Int) ⊕ Int) :=
  if w32 l3 < w32 l1 then (
    (M_X5_isUnknown h l0 l3).bind fun x1 =>
    if w32 x1 = 0 then (
      M_X5_unknownsBelow_p20 h l0 l1 l2 l3
    ) else (
      M_X5_unknownsBelow_p20 h l0 l1 (l2 + 1) l3
    )
  ) else (
    some (.inr l2)
  )

def M_X5_unknownsBelow_w4 (n : Nat) (h : Hp) (l0 l1 l2 l3 : Int) : Option Int :=
  (wh (S := (Int × Int)) (T := Int) (fun a => M_X5_unknownsBelow_b4 h l0 l1 a.1 a.2) n (l2, l3)).bind (fun b => M_X5_unknownsBelow_p26 h b)

def M_X5_unknownsBelow (h : Hp) (l0 l1 : Int) : Option Int := tk 15 h l0 (
  M_X5_unknownsBelow_w4 FU h l0 l1 0 0)

def M_X5_unknownCount (h : Hp) (l0 : Int) : Option Int := tk 15 h l0 (
  (gr 15 h l0 1).bind fun x1 =>
  (gf 18 h x1 2).bind fun x2 =>
  (M_X5_unknownsBelow h l0 x2).bind fun x3 =>
  some x3)

def M_X1_weight_p27 (h : Hp) (l2 : Int) : Option Int :=
  some l2

def M_X1_weight_b4 (h : Hp) (l0 l1 l2 l3 : Int) : Option ((Int × Int) ⊕ Int) :=
  if w32 l3 < w32 l1 then (
    if w32 l3 < 4 then (
      (gf 15 h l0 4).bind fun x1 =>
      some (.inl (l2 * x1, l3 + 1))
    ) else (
      some (.inr l2)
    )
  ) else (
    some (.inr l2)
  )

def M_X1_weight_w4 (n : Nat) (h : Hp) (l0 l1 l2 l3 : Int) : Option Int :=
  (wh (S := (Int × Int)) (T := Int) (fun a => M_X1_weight_b4 h l0 l1 a.1 a.2) n (l2, l3)).bind (fun b => M_X1_weight_p27 h b)

def M_X1_weight (h : Hp) (l0 l1 : Int) : Option Int :=
  M_X1_weight_w4 FU h l0 l1 1 0

def M_X8_become (h : Hp) (l0 l1 : Int) : Option Hp := tk 18 h l0 (
  (gf 18 h l1 0).bind fun x1 =>
  (pf 18 h l0 0 x1).bind fun h =>
  (gf 18 h l1 1).bind fun x2 =>
  (pf 18 h l0 1 x2).bind fun h =>
  (gf 18 h l1 2).bind fun x3 =>
  (pf 18 h l0 2 x3).bind fun h =>
  (gr 18 h l1 3).bind fun x4 =>
  (gr 18 h l0 3).bind fun x5 =>
  (gr 18 h l0 3).bind fun x6 =>
  (alen 1 h x6).bind fun x7 =>
  (cpy 1 h x4 0 x5 0 x7).bind fun h =>
  (gr 18 h l1 4).bind fun x8 =>
  (gr 18 h l0 4).bind fun x9 =>
  (gr 18 h l0 4).bind fun x10 =>
  (alen 1 h x10).bind fun x11 =>
  (cpy 1 h x8 0 x9 0 x11).bind fun h =>
  (gr 18 h l1 5).bind fun x12 =>
  (gr 18 h l0 5).bind fun x13 =>
  (gr 18 h l0 5).bind fun x14 =>
  (alen 1 h x14).bind fun x15 =>
  (cpy 1 h x12 0 x13 0 x15).bind fun h =>
  (gf 18 h l1 6).bind fun x16 =>
  (pf 18 h l0 6 x16).bind fun h =>
  (gf 18 h l1 7).bind fun x17 =>
  (pf 18 h l0 7 x17).bind fun h =>
  some h)

def M_X1_guessIn (h : Hp) (l0 l1 l2 l3 : Int) : Option Int := tk 11 h l0 (
  (M_X5_unknownCount h l1).bind fun x1 =>
  (M_X1_weight h l1 ((x1 - 1) - l3)).bind fun x2 =>
  if 0 < w32 x2 then (
    (gf 15 h l1 4).bind fun x3 =>
    if 0 < w32 x3 then (
      (idv l2 x2).bind fun x4 =>
      (gf 15 h l1 4).bind fun x5 =>
      (irm x4 x5).bind fun x6 =>
      some x6
    ) else (
      some 0
    )
  ) else (
    some 0
  ))

def M_X1_setGuesses_p66 (h : Hp) : Option Hp :=
  some h

def M_X1_setGuesses_p60 (h : Hp) (l0 l1 l2 l3 l4 l5 : Int) : Option ((Hp × Int × Int) ⊕ Hp) :=
  some (.inl (h, l4, l5 + 1))

def M_X1_setGuesses_b6 (h : Hp) (l0 l1 l2 l3 l4 l5 : Int) : Option ((Hp × Int × Int) ⊕ Hp) :=
  (gr 15 h l1 1).bind fun x1 =>
  (gf 18 h x1 2).bind fun x2 =>
  if w32 l5 < w32 x2 then (
    (M_X5_isUnknown h l1 l5).bind fun x3 =>
    if w32 x3 = 0 then (
      M_X1_setGuesses_p60 h l0 l1 l2 l3 l4 l5
    ) else (
      (M_X1_guessIn h l0 l1 l3 l4).bind fun x4 =>
      (gr 15 h l1 3).bind fun x5 =>
      (gr 18 h l2 5).bind fun x6 =>
      (cpy 1 h x5 (4 * x4) x6 (4 * l5) 4).bind fun h =>
      M_X1_setGuesses_p60 h l0 l1 l2 l3 (l4 + 1) l5
    )
  ) else (
    some (.inr h)
  )

def M_X1_setGuesses_w6 (n : Nat) (h : Hp) (l0 l1 l2 l3 l4 l5 : Int) : Option Hp :=
  (wh (S := (Hp × Int × Int)) (T := Hp) (fun a => M_X1_setGuesses_b6 a.1 l0 l1 l2 l3 a.2.1 a.2.2) n (h, l4, l5)).bind (fun b => M_X1_setGuesses_p66 b)

def M_X1_setGuesses (h : Hp) (l0 l1 l2 l3 : Int) : Option Hp := tk 11 h l0 (
  M_X1_setGuesses_w6 FU h l0 l1 l2 l3 0 0)

def M_X1_find_p90 (h : Hp) : Option Hp :=
  some h

def M_X1_find_p84 (h : Hp) (l0 l1 l2 l3 l4 : Int) : Option ((Hp × Int) ⊕ Hp) :=
  some (.inl (h, l4 + 1))

def M_X1_find_b38 (h : Hp) (l0 l1 l2 l3 l4 : Int) : Option ((Hp × Int) ⊕ Hp) :=
  if w32 l4 < w32 l3 then (
    (M_X1_setGuesses h l0 l1 l2 l4).bind fun h =>
    bd (M_X1_firstNotSo h l0 l1 l2) fun h x1 =>
    if w32 x1 = (-2) then (
      (gr 11 h l0 2).bind fun x2 =>
      (gf 11 h l0 3).bind fun x3 =>
      (ast 1 h x2 x3 l4).bind fun h =>
      (gf 11 h l0 3).bind fun x4 =>
      (pf 11 h l0 3 (x4 + 1)).bind fun h =>
      M_X1_find_p84 h l0 l1 l2 l3 l4
    ) else (
      M_X1_find_p84 h l0 l1 l2 l3 l4
    )
  ) else (
    some (.inr h)
  )

def M_X1_find_w38 (n : Nat) (h : Hp) (l0 l1 l2 l3 l4 : Int) : Option Hp :=
  (wh (S := (Hp × Int)) (T := Hp) (fun a => M_X1_find_b38 a.1 l0 l1 l2 l3 a.2) n (h, l4)).bind (fun b => M_X1_find_p90 b)

def M_X1_find (h : Hp) (l0 l1 l2 : Int) : Option Hp := tk 11 h l0 (
  (gf 11 h l0 1).bind fun x5 =>
  if w32 x5 = 0 then (
    (pz 11 h l0 1 1).bind fun h =>
    (pf 11 h l0 3 0).bind fun h =>
    (M_X5_unknownCount h l1).bind fun x6 =>
    (M_X1_weight h l1 x6).bind fun x7 =>
    (gr 15 h l1 1).bind fun x8 =>
    (M_X8_become h l2 x8).bind fun h =>
    M_X1_find_w38 FU h l0 l1 l2 x7 0
  ) else (
    some h
  ))

def M_X1_sureGuess_p61 (h : Hp) (l3 : Int) : Option Int :=
  some l3

def M_X1_sureGuess_b26 (h : Hp) (l0 l1 l2 l3 l4 : Int) : Option (Int ⊕ (Unit ⊕ (Int))) :=
  (gf 11 h l0 3).bind fun x1 =>
  if w32 l4 < w32 x1 then (
    (gr 11 h l0 2).bind fun x2 =>
    (ald 1 h x2 l4).bind fun x3 =>
    (M_X1_guessIn h l0 l1 x3 l2).bind fun x4 =>
    if w32 x4 = w32 l3 then (
      some (.inl (l4 + 1))
    ) else (
      some (.inr (.inr (-2)))
    )
  ) else (
    some (.inr (.inl ()))
  )

def M_X1_sureGuess_w26 (n : Nat) (h : Hp) (l0 l1 l2 l3 l4 : Int) : Option Int :=
  (wh (S := Int) (T := (Unit ⊕ (Int))) (fun a => M_X1_sureGuess_b26 h l0 l1 l2 l3 a) n l4).bind (fun z => exi z (fun b => M_X1_sureGuess_p61 h l3) (fun q => some q))

def M_X1_sureGuess (h : Hp) (l0 l1 l2 : Int) : Option Int := tk 11 h l0 (
  (gf 11 h l0 3).bind fun x5 =>
  if w32 x5 = 0 then (
    some (-2)
  ) else (
    (gr 11 h l0 2).bind fun x6 =>
    (ald 1 h x6 0).bind fun x7 =>
    (M_X1_guessIn h l0 l1 x7 l2).bind fun x8 =>
    M_X1_sureGuess_w26 FU h l0 l1 l2 x8 1
  ))

def M_X2_init (h : Hp) (l0 : Int) : Option Hp := tk 12 h l0 (
  nb (nw 1 36 0 h) h.2.2.2 fun h x1 =>
  rp x1 (pf 12 h l0 0 x1) fun h =>
  (pf 12 h l0 1 0).bind fun h =>
  (pf 12 h l0 2 0).bind fun h =>
  nb (nw 1 36 0 h) h.2.2.2 fun h x2 =>
  rp x2 (pf 12 h l0 3 x2) fun h =>
  nb (nw 4 36 0 h) h.2.2.2 fun h x3 =>
  rp x3 (pf 12 h l0 4 x3) fun h =>
  nb (nw 1 36 0 h) h.2.2.2 fun h x4 =>
  rp x4 (pf 12 h l0 5 x4) fun h =>
  some h)

def M_X2_areaFrom_p103 (h : Hp) (l3 : Int) : Option (Hp × Int) :=
  some (h, l3)

def M_X2_areaFrom_p97 (h : Hp) (l0 l1 l3 l4 : Int) : Option ((Hp × Int × Int) ⊕ (Hp × Int)) :=
  some (.inl (h, l3, l4 + 1))

def M_X2_areaFrom_p91 (h : Hp) (l0 l1 l3 l4 l5 : Int) : Option ((Hp × Int × Int) ⊕ (Hp × Int)) :=
  some (.inl (h, l3, l5 + 1))

def M_X2_areaFrom_b35 (h : Hp) (l0 l1 l4 l3 l5 : Int) : Option ((Hp × Int × Int) ⊕ (Hp × Int)) :=
  if w32 l5 < 4 then (
    (gr 12 h l0 3).bind fun x1 =>
    (ald 1 h x1 l4).bind fun x2 =>
    (M_X8_beside h l1 x2 l5).bind fun x3 =>
    if w32 x3 = (-1) then (
      M_X2_areaFrom_p91 h l0 l1 l3 l4 l5
    ) else (
      (gr 12 h l0 4).bind fun x4 =>
      (ald 4 h x4 x3).bind fun x5 =>
      if w32 x5 = 0 then (
        (gr 12 h l0 4).bind fun x6 =>
        (astZ h x6 x3 1).bind fun h =>
        (gr 12 h l0 3).bind fun x7 =>
        (ast 1 h x7 l3 x3).bind fun h =>
        M_X2_areaFrom_p91 h l0 l1 (l3 + 1) l4 l5
      ) else (
        M_X2_areaFrom_p91 h l0 l1 l3 l4 l5
      )
    )
  ) else (
    some (.inr (h, l3))
  )

def M_X2_areaFrom_w35 (n : Nat) (h : Hp) (l0 l1 l3 l4 l5 : Int) : Option ((Hp × Int × Int) ⊕ (Hp × Int)) :=
  (wh (S := (Hp × Int × Int)) (T := (Hp × Int)) (fun a => M_X2_areaFrom_b35 a.1 l0 l1 l4 a.2.1 a.2.2) n (h, l3, l5)).bind (fun b => M_X2_areaFrom_p97 b.1 l0 l1 b.2 l4)

def M_X2_areaFrom_b19 (h : Hp) (l0 l1 l3 l4 : Int) : Option ((Hp × Int × Int) ⊕ (Hp × Int)) :=
  if w32 l4 < w32 l3 then (
    if w32 l4 < 36 then (
      M_X2_areaFrom_w35 FU h l0 l1 l3 l4 0
    ) else (
      some (.inr (h, l3))
    )
  ) else (
    some (.inr (h, l3))
  )

def M_X2_areaFrom_w19 (n : Nat) (h : Hp) (l0 l1 l3 l4 : Int) : Option (Hp × Int) :=
  (wh (S := (Hp × Int × Int)) (T := (Hp × Int)) (fun a => M_X2_areaFrom_b19 a.1 l0 l1 a.2.1 a.2.2) n (h, l3, l4)).bind (fun b => M_X2_areaFrom_p103 b.1 b.2)

def M_X2_areaFrom (h : Hp) (l0 l1 l2 : Int) : Option (Hp × Int) := tk 12 h l0 (
  (gr 12 h l0 3).bind fun x8 =>
  (ast 1 h x8 0 l2).bind fun h =>
  (gr 12 h l0 4).bind fun x9 =>
  (astZ h x9 l2 1).bind fun h =>
  M_X2_areaFrom_w19 FU h l0 l1 1 0)

def M_X2_survey_p103 (h : Hp) : Option Hp :=
  some h

def M_X2_survey_p97 (h : Hp) (l0 l1 l3 : Int) : Option ((Hp × Int) ⊕ Hp) :=
  some (.inl (h, l3 + 1))

def M_X2_survey_b55 (h : Hp) (l0 l1 l3 : Int) : Option ((Hp × Int) ⊕ Hp) :=
  if w32 l3 < 36 then (
    (gr 12 h l0 4).bind fun x1 =>
    (ald 4 h x1 l3).bind fun x2 =>
    if w32 x2 = 0 then (
      (gf 12 h l0 1).bind fun x3 =>
      (pf 12 h l0 1 (x3 + 1)).bind fun h =>
      (gf 12 h l0 2).bind fun x4 =>
      bd (M_X2_areaFrom h l0 l1 l3) fun h x5 =>
      (pf 12 h l0 2 (imax x4 x5)).bind fun h =>
      M_X2_survey_p97 h l0 l1 l3
    ) else (
      M_X2_survey_p97 h l0 l1 l3
    )
  ) else (
    some (.inr h)
  )

def M_X2_survey_w55 (n : Nat) (h : Hp) (l0 l1 l3 : Int) : Option Hp :=
  (wh (S := (Hp × Int)) (T := Hp) (fun a => M_X2_survey_b55 a.1 l0 l1 a.2) n (h, l3)).bind (fun b => M_X2_survey_p103 b)

def M_X2_survey_p53 (h : Hp) (l0 l1 : Int) : Option Hp :=
  M_X2_survey_w55 FU h l0 l1 0

def M_X2_survey_p46 (h : Hp) (l0 l1 l2 l3 : Int) (s0 s1 s2 : Int) : Option ((Hp × Int) ⊕ Hp) :=
  (astZ h s0 s1 s2).bind fun h =>
  some (.inl (h, l3 + 1))

def M_X2_survey_p41 (h : Hp) (l0 l1 l2 l3 : Int) (s0 s1 : Int) : Option ((Hp × Int) ⊕ Hp) :=
  M_X2_survey_p46 h l0 l1 l2 l3 s0 s1 1

def M_X2_survey_b12 (h : Hp) (l0 l1 l2 l3 : Int) : Option ((Hp × Int) ⊕ Hp) :=
  if w32 l3 < 36 then (
    (gr 12 h l0 4).bind fun x6 =>
    (M_X8_holds h l1 l3).bind fun x7 =>
    if w32 x7 = 0 then (
      M_X2_survey_p41 h l0 l1 l2 l3 x6 l3
    ) else (
      (gr 12 h l0 0).bind fun x8 =>
      (ald 1 h x8 l3).bind fun x9 =>
      if w32 x9 = w32 l2 then (
        M_X2_survey_p46 h l0 l1 l2 l3 x6 l3 0
      ) else (
        M_X2_survey_p41 h l0 l1 l2 l3 x6 l3
      )
    )
  ) else (
    some (.inr h)
  )

def M_X2_survey_w12 (n : Nat) (h : Hp) (l0 l1 l2 l3 : Int) : Option Hp :=
  (wh (S := (Hp × Int)) (T := Hp) (fun a => M_X2_survey_b12 a.1 l0 l1 l2 a.2) n (h, l3)).bind (fun b => M_X2_survey_p53 b l0 l1)

def M_X2_survey (h : Hp) (l0 l1 l2 : Int) : Option Hp := tk 12 h l0 (
  (pf 12 h l0 1 0).bind fun h =>
  (pf 12 h l0 2 0).bind fun h =>
  M_X2_survey_w12 FU h l0 l1 l2 0)

def M_J7_fill_53178_p20 (h : Hp) : Option Hp :=
  some h

def M_J7_fill_53178_b5 (h : Hp) (l0 l1 l3 l2 : Int) : Option ((Hp × Int) ⊕ Hp) :=
  if w32 l2 < w32 l3 then (
    (ast 1 h l0 l2 l1).bind fun h =>
    some (.inl (h, l2 + 1))
  ) else (
    some (.inr h)
  )

def M_J7_fill_53178_w5 (n : Nat) (h : Hp) (l0 l1 l2 l3 : Int) : Option Hp :=
  (wh (S := (Hp × Int)) (T := Hp) (fun a => M_J7_fill_53178_b5 a.1 l0 l1 l3 a.2) n (h, l2)).bind (fun b => M_J7_fill_53178_p20 b)

def M_J7_fill_53178 (h : Hp) (l0 l1 : Int) : Option Hp :=
  (alen 1 h l0).bind fun x1 =>
  M_J7_fill_53178_w5 FU h l0 l1 0 x1

def M_X8_isEdge (h : Hp) (l0 l1 : Int) : Option Int := tk 18 h l0 (
  (irm l1 6).bind fun x1 =>
  (idv l1 6).bind fun x2 =>
  if w32 x1 = 0 then (
    some 1
  ) else (
    if w32 x2 = 0 then (
      some 1
    ) else (
      (gf 18 h l0 0).bind fun x3 =>
      if w32 x1 = w32 (x3 - 1) then (
        some 1
      ) else (
        (gf 18 h l0 1).bind fun x4 =>
        if w32 x2 = w32 (x4 - 1) then (
          some 1
        ) else (
          some 0
        )
      )
    )
  ))

def M_X2_wayBy_p61 (h : Hp) (l0 l2 l3 l4 : Int) : Option Int :=
  (gr 12 h l0 0).bind fun x1 =>
  (ald 1 h x1 l2).bind fun x2 =>
  if w32 x2 = w32 l3 then (
    some l4
  ) else (
    some (l4 + 1)
  )

def M_X2_wayBy_p55 (h : Hp) (l0 l1 l2 l3 l4 l5 : Int) : Option ((Int × Int) ⊕ Int) :=
  some (.inl (l4, l5 + 1))

def M_X2_wayBy_b20 (h : Hp) (l0 l1 l2 l3 l4 l5 : Int) : Option ((Int × Int) ⊕ Int) :=
  if w32 l5 < 4 then (
    (M_X8_beside h l1 l2 l5).bind fun x3 =>
    if w32 x3 = (-1) then (
      M_X2_wayBy_p55 h l0 l1 l2 l3 l4 l5
    ) else (
      (gr 12 h l0 5).bind fun x4 =>
      (ald 1 h x4 x3).bind fun x5 =>
      M_X2_wayBy_p55 h l0 l1 l2 l3 (imin l4 x5) l5
    )
  ) else (
    some (.inr l4)
  )

def M_X2_wayBy_w20 (n : Nat) (h : Hp) (l0 l1 l2 l3 l4 l5 : Int) : Option Int :=
  (wh (S := (Int × Int)) (T := Int) (fun a => M_X2_wayBy_b20 h l0 l1 l2 l3 a.1 a.2) n (l4, l5)).bind (fun b => M_X2_wayBy_p61 h l0 l2 l3 b)

def M_X2_wayBy_p15 (h : Hp) (l0 l1 l2 l3 : Int) (s0 : Int) : Option Int :=
  M_X2_wayBy_w20 FU h l0 l1 l2 l3 s0 0

def M_X2_wayBy (h : Hp) (l0 l1 l2 l3 : Int) : Option Int := tk 12 h l0 (
  (M_X8_isEdge h l1 l2).bind fun x6 =>
  if w32 x6 = 0 then (
    M_X2_wayBy_p15 h l0 l1 l2 l3 1000
  ) else (
    M_X2_wayBy_p15 h l0 l1 l2 l3 0
  ))

def M_X2_leastInk_p102 (h : Hp) (l0 l2 : Int) : Option (Hp × Int) :=
  (gr 12 h l0 5).bind fun x1 =>
  (ald 1 h x1 l2).bind fun x2 =>
  some (h, x2)

def M_X2_leastInk_p96 (h : Hp) (l0 l1 l2 l3 l4 l5 : Int) : Option ((Hp × Int × Int) ⊕ Hp) :=
  some (.inl (h, l4, l5 + 1))

def M_X2_leastInk_p90 (h : Hp) (l0 l1 l2 l3 l4 l5 l6 : Int) : Option ((Hp × Int × Int) ⊕ (Hp × Int)) :=
  some (.inl (h, l4, l6 + 1))

def M_X2_leastInk_p64 (h : Hp) (l0 l1 l2 l3 l4 l5 l6 : Int) (s0 : Int) : Option ((Hp × Int × Int) ⊕ (Hp × Int)) :=
  (gr 12 h l0 5).bind fun x3 =>
  (ald 1 h x3 l6).bind fun x4 =>
  if w32 s0 < w32 x4 then (
    (gr 12 h l0 5).bind fun x5 =>
    (ast 1 h x5 l6 s0).bind fun h =>
    M_X2_leastInk_p90 h l0 l1 l2 l3 1 l5 l6
  ) else (
    M_X2_leastInk_p90 h l0 l1 l2 l3 l4 l5 l6
  )

def M_X2_leastInk_b34 (h : Hp) (l0 l1 l2 l3 l5 l4 l6 : Int) : Option ((Hp × Int × Int) ⊕ (Hp × Int)) :=
  if w32 l6 < 36 then (
    (M_X8_holds h l1 l6).bind fun x6 =>
    if w32 x6 = 0 then (
      M_X2_leastInk_p64 h l0 l1 l2 l3 l4 l5 l6 1000
    ) else (
      (M_X2_wayBy h l0 l1 l6 l3).bind fun x7 =>
      M_X2_leastInk_p64 h l0 l1 l2 l3 l4 l5 l6 x7
    )
  ) else (
    some (.inr (h, l4))
  )

def M_X2_leastInk_w34 (n : Nat) (h : Hp) (l0 l1 l2 l3 l4 l5 l6 : Int) : Option ((Hp × Int × Int) ⊕ Hp) :=
  (wh (S := (Hp × Int × Int)) (T := (Hp × Int)) (fun a => M_X2_leastInk_b34 a.1 l0 l1 l2 l3 l5 a.2.1 a.2.2) n (h, l4, l6)).bind (fun b => M_X2_leastInk_p96 b.1 l0 l1 l2 l3 b.2 l5)

def M_X2_leastInk_b16 (h : Hp) (l0 l1 l2 l3 l4 l5 : Int) : Option ((Hp × Int × Int) ⊕ Hp) :=
  if 36 < w32 l5 then (
    some (.inr h)
  ) else (
    if w32 l4 = 0 then (
      some (.inr h)
    ) else (
      M_X2_leastInk_w34 FU h l0 l1 l2 l3 0 l5 0
    )
  )

def M_X2_leastInk_w16 (n : Nat) (h : Hp) (l0 l1 l2 l3 l4 l5 : Int) : Option (Hp × Int) :=
  (wh (S := (Hp × Int × Int)) (T := Hp) (fun a => M_X2_leastInk_b16 a.1 l0 l1 l2 l3 a.2.1 a.2.2) n (h, l4, l5)).bind (fun b => M_X2_leastInk_p102 b l0 l2)

def M_X2_leastInk (h : Hp) (l0 l1 l2 l3 : Int) : Option (Hp × Int) := tk 12 h l0 (
  (gr 12 h l0 5).bind fun x8 =>
  (M_J7_fill_53178 h x8 1000).bind fun h =>
  M_X2_leastInk_w16 FU h l0 l1 l2 l3 1 0)

def M_X8_init (h : Hp) (l0 : Int) : Option Hp := tk 18 h l0 (
  (pf 18 h l0 0 0).bind fun h =>
  (pf 18 h l0 1 0).bind fun h =>
  (pf 18 h l0 2 0).bind fun h =>
  nb (nw 1 216 0 h) h.2.2.2 fun h x1 =>
  rp x1 (pf 18 h l0 3 x1) fun h =>
  nb (nw 1 6 0 h) h.2.2.2 fun h x2 =>
  rp x2 (pf 18 h l0 4 x2) fun h =>
  nb (nw 1 24 0 h) h.2.2.2 fun h x3 =>
  rp x3 (pf 18 h l0 5 x3) fun h =>
  (pf 18 h l0 6 0).bind fun h =>
  (pf 18 h l0 7 0).bind fun h =>
  some h)

def M_X3_init (h : Hp) (l0 : Int) : Option Hp := tk 13 h l0 (
  nb (nw 5 12 (-1) h) h.2.2.2 fun h x1 =>
  rp x1 (pf 13 h l0 0 x1) fun h =>
  (pf 13 h l0 1 0).bind fun h =>
  nb (nw 5 3 (-1) h) h.2.2.2 fun h x2 =>
  rp x2 (pf 13 h l0 2 x2) fun h =>
  (pf 13 h l0 3 0).bind fun h =>
  (gr 13 h l0 0).bind fun x3 =>
  nb (nwo 8 (dflt 8) h) h.2.2.2 fun h x4 =>
  (M_X8_init h x4).bind fun h =>
  (astR 5 18 h x3 0 x4).bind fun h =>
  (gr 13 h l0 0).bind fun x5 =>
  nb (nwo 8 (dflt 8) h) h.2.2.2 fun h x6 =>
  (M_X8_init h x6).bind fun h =>
  (astR 5 18 h x5 1 x6).bind fun h =>
  (gr 13 h l0 0).bind fun x7 =>
  nb (nwo 8 (dflt 8) h) h.2.2.2 fun h x8 =>
  (M_X8_init h x8).bind fun h =>
  (astR 5 18 h x7 2 x8).bind fun h =>
  (gr 13 h l0 0).bind fun x9 =>
  nb (nwo 8 (dflt 8) h) h.2.2.2 fun h x10 =>
  (M_X8_init h x10).bind fun h =>
  (astR 5 18 h x9 3 x10).bind fun h =>
  (gr 13 h l0 0).bind fun x11 =>
  nb (nwo 8 (dflt 8) h) h.2.2.2 fun h x12 =>
  (M_X8_init h x12).bind fun h =>
  (astR 5 18 h x11 4 x12).bind fun h =>
  (gr 13 h l0 0).bind fun x13 =>
  nb (nwo 8 (dflt 8) h) h.2.2.2 fun h x14 =>
  (M_X8_init h x14).bind fun h =>
  (astR 5 18 h x13 5 x14).bind fun h =>
  (gr 13 h l0 0).bind fun x15 =>
  nb (nwo 8 (dflt 8) h) h.2.2.2 fun h x16 =>
  (M_X8_init h x16).bind fun h =>
  (astR 5 18 h x15 6 x16).bind fun h =>
  (gr 13 h l0 0).bind fun x17 =>
  nb (nwo 8 (dflt 8) h) h.2.2.2 fun h x18 =>
  (M_X8_init h x18).bind fun h =>
  (astR 5 18 h x17 7 x18).bind fun h =>
  (gr 13 h l0 0).bind fun x19 =>
  nb (nwo 8 (dflt 8) h) h.2.2.2 fun h x20 =>
  (M_X8_init h x20).bind fun h =>
  (astR 5 18 h x19 8 x20).bind fun h =>
  (gr 13 h l0 0).bind fun x21 =>
  nb (nwo 8 (dflt 8) h) h.2.2.2 fun h x22 =>
  (M_X8_init h x22).bind fun h =>
  (astR 5 18 h x21 9 x22).bind fun h =>
  (gr 13 h l0 0).bind fun x23 =>
  nb (nwo 8 (dflt 8) h) h.2.2.2 fun h x24 =>
  (M_X8_init h x24).bind fun h =>
  (astR 5 18 h x23 10 x24).bind fun h =>
  (gr 13 h l0 0).bind fun x25 =>
  nb (nwo 8 (dflt 8) h) h.2.2.2 fun h x26 =>
  (M_X8_init h x26).bind fun h =>
  (astR 5 18 h x25 11 x26).bind fun h =>
  (gr 13 h l0 2).bind fun x27 =>
  nb (nwo 8 (dflt 8) h) h.2.2.2 fun h x28 =>
  (M_X8_init h x28).bind fun h =>
  (astR 5 18 h x27 0 x28).bind fun h =>
  (gr 13 h l0 2).bind fun x29 =>
  nb (nwo 8 (dflt 8) h) h.2.2.2 fun h x30 =>
  (M_X8_init h x30).bind fun h =>
  (astR 5 18 h x29 1 x30).bind fun h =>
  (gr 13 h l0 2).bind fun x31 =>
  nb (nwo 8 (dflt 8) h) h.2.2.2 fun h x32 =>
  (M_X8_init h x32).bind fun h =>
  (astR 5 18 h x31 2 x32).bind fun h =>
  some h)

def M_X3_forgetAll (h : Hp) (l0 : Int) : Option Hp := tk 13 h l0 (
  (pf 13 h l0 1 0).bind fun h =>
  (pf 13 h l0 3 0).bind fun h =>
  some h)

def M_X3_forgetOldest_p35 (h : Hp) (l0 l1 : Int) : Option Hp :=
  (gr 13 h l0 0).bind fun x1 =>
  (astR 5 18 h x1 11 l1).bind fun h =>
  (pf 13 h l0 1 11).bind fun h =>
  some h

def M_X3_forgetOldest_b9 (h : Hp) (l0 l1 l2 : Int) : Option ((Hp × Int) ⊕ Hp) :=
  if w32 l2 < 12 then (
    (gr 13 h l0 0).bind fun x2 =>
    (gr 13 h l0 0).bind fun x3 =>
    (aldR 5 h x3 l2).bind fun x4 =>
    (astR 5 18 h x2 (l2 - 1) x4).bind fun h =>
    some (.inl (h, l2 + 1))
  ) else (
    some (.inr h)
  )

def M_X3_forgetOldest_w9 (n : Nat) (h : Hp) (l0 l1 l2 : Int) : Option Hp :=
  (wh (S := (Hp × Int)) (T := Hp) (fun a => M_X3_forgetOldest_b9 a.1 l0 l1 a.2) n (h, l2)).bind (fun b => M_X3_forgetOldest_p35 b l0 l1)

def M_X3_forgetOldest (h : Hp) (l0 : Int) : Option Hp := tk 13 h l0 (
  (gr 13 h l0 0).bind fun x5 =>
  (aldR 5 h x5 0).bind fun x6 =>
  M_X3_forgetOldest_w9 FU h l0 x6 1)

def M_X3_remember_p13 (h : Hp) (l0 l1 : Int) : Option Hp :=
  (gr 13 h l0 0).bind fun x1 =>
  (gf 13 h l0 1).bind fun x2 =>
  (aldR 5 h x1 x2).bind fun x3 =>
  (M_X8_become h x3 l1).bind fun h =>
  (gf 13 h l0 1).bind fun x4 =>
  (pf 13 h l0 1 (x4 + 1)).bind fun h =>
  some h

def M_X3_remember (h : Hp) (l0 l1 : Int) : Option Hp := tk 13 h l0 (
  (gf 13 h l0 1).bind fun x5 =>
  if w32 x5 < 12 then (
    M_X3_remember_p13 h l0 l1
  ) else (
    (M_X3_forgetOldest h l0).bind fun h =>
    M_X3_remember_p13 h l0 l1
  ))

def M_X3_recall (h : Hp) (l0 l1 : Int) : Option Hp := tk 13 h l0 (
  (gf 13 h l0 1).bind fun x1 =>
  if 0 < w32 x1 then (
    (gf 13 h l0 1).bind fun x2 =>
    (pf 13 h l0 1 (x2 - 1)).bind fun h =>
    (gr 13 h l0 0).bind fun x3 =>
    (gf 13 h l0 1).bind fun x4 =>
    (aldR 5 h x3 x4).bind fun x5 =>
    (M_X8_become h l1 x5).bind fun h =>
    some h
  ) else (
    some h
  ))

def M_X3_hold (h : Hp) (l0 l1 : Int) : Option (Hp × Int) := tk 13 h l0 (
  (gf 13 h l0 3).bind fun x1 =>
  if w32 x1 < 3 then (
    (gr 13 h l0 2).bind fun x2 =>
    (gf 13 h l0 3).bind fun x3 =>
    (aldR 5 h x2 x3).bind fun x4 =>
    (M_X8_become h x4 l1).bind fun h =>
    (gf 13 h l0 3).bind fun x5 =>
    (pf 13 h l0 3 (x5 + 1)).bind fun h =>
    (gf 13 h l0 3).bind fun x6 =>
    some (h, x6 - 1)
  ) else (
    some (h, (-1))
  ))

def M_X4_init (h : Hp) (l0 l1 l2 l3 : Int) : Option Hp := tk 14 h l0 (
  (pf 14 h l0 0 0).bind fun h =>
  (pf 14 h l0 1 (-1)).bind fun h =>
  (pf 14 h l0 5 0).bind fun h =>
  (pf 14 h l0 6 0).bind fun h =>
  (pf 14 h l0 7 0).bind fun h =>
  (pf 14 h l0 8 0).bind fun h =>
  (pf 14 h l0 9 0).bind fun h =>
  rp l1 (pf 14 h l0 2 l1) fun h =>
  (alen 1 h l1).bind fun x1 =>
  (pf 14 h l0 3 (imin l2 x1)).bind fun h =>
  rp l3 (pf 14 h l0 4 l3) fun h =>
  some h)

def M_X8_makeTrue_p34 (h : Hp) : Option Hp :=
  some h

def M_X8_makeTrue_b11 (h : Hp) (l0 l1 l2 : Int) : Option ((Hp × Int) ⊕ Hp) :=
  if w32 l2 < 4 then (
    (gr 18 h l0 5).bind fun x1 =>
    (ast 1 h x1 ((4 * l1) + l2) (-2)).bind fun h =>
    some (.inl (h, l2 + 1))
  ) else (
    some (.inr h)
  )

def M_X8_makeTrue_w11 (n : Nat) (h : Hp) (l0 l1 l2 : Int) : Option Hp :=
  (wh (S := (Hp × Int)) (T := Hp) (fun a => M_X8_makeTrue_b11 a.1 l0 l1 a.2) n (h, l2)).bind (fun b => M_X8_makeTrue_p34 b)

def M_X8_makeTrue (h : Hp) (l0 l1 : Int) : Option Hp := tk 18 h l0 (
  (gr 18 h l0 5).bind fun x2 =>
  (ast 1 h x2 (4 * l1) 0).bind fun h =>
  M_X8_makeTrue_w11 FU h l0 l1 1)

def M_X8_clear_p51 (h : Hp) (l0 : Int) : Option Hp :=
  (pf 18 h l0 6 0).bind fun h =>
  (pf 18 h l0 7 0).bind fun h =>
  some h

def M_X8_clear_b34 (h : Hp) (l0 l1 : Int) : Option ((Hp × Int) ⊕ Hp) :=
  if w32 l1 < 6 then (
    (M_X8_makeTrue h l0 l1).bind fun h =>
    some (.inl (h, l1 + 1))
  ) else (
    some (.inr h)
  )

def M_X8_clear_w34 (n : Nat) (h : Hp) (l0 l1 : Int) : Option Hp :=
  (wh (S := (Hp × Int)) (T := Hp) (fun a => M_X8_clear_b34 a.1 l0 a.2) n (h, l1)).bind (fun b => M_X8_clear_p51 b l0)

def M_X8_clear (h : Hp) (l0 : Int) : Option Hp := tk 18 h l0 (
  (pf 18 h l0 0 0).bind fun h =>
  (pf 18 h l0 1 0).bind fun h =>
  (pf 18 h l0 2 0).bind fun h =>
  (gr 18 h l0 3).bind fun x1 =>
  (M_J7_fill_53178 h x1 0).bind fun h =>
  (gr 18 h l0 4).bind fun x2 =>
  (M_J7_fill_53178 h x2 (-2)).bind fun h =>
  M_X8_clear_w34 FU h l0 0)

def M_X5_clear (h : Hp) (l0 : Int) : Option Hp := tk 15 h l0 (
  (pf 15 h l0 0 0).bind fun h =>
  (gr 15 h l0 1).bind fun x1 =>
  (M_X8_clear h x1).bind fun h =>
  (gr 15 h l0 3).bind fun x2 =>
  (M_J7_fill_53178 h x2 (-2)).bind fun h =>
  (pf 15 h l0 4 0).bind fun h =>
  (pf 15 h l0 9 0).bind fun h =>
  some h)

def M_X4_take_p256 (h : Hp) (l0 : Int) : Option Hp :=
  (gf 14 h l0 7).bind fun x1 =>
  (gf 14 h l0 6).bind fun x2 =>
  if w32 x2 < w32 x1 then (
    (gf 14 h l0 7).bind fun x14 =>
    (gf 14 h l0 6).bind fun x15 =>
    if 2 < w32 (x14 - x15) then (
      (pf 14 h l0 5 5).bind fun h =>
      some h
    ) else (
      (pf 14 h l0 5 2).bind fun h =>
      some h
    )
  ) else (
    (gf 14 h l0 6).bind fun x3 =>
    (gf 14 h l0 3).bind fun x4 =>
    if w32 x3 < w32 x4 then (
      (gr 14 h l0 2).bind fun x5 =>
      (gf 14 h l0 6).bind fun x6 =>
      (ald 1 h x5 x6).bind fun x7 =>
      if w32 x7 = 59 then (
        (pf 14 h l0 5 3).bind fun h =>
        (gf 14 h l0 7).bind fun x13 =>
        (pf 14 h l0 7 (x13 + 1)).bind fun h =>
        some h
      ) else (
        (gr 14 h l0 2).bind fun x8 =>
        (gf 14 h l0 6).bind fun x9 =>
        (ald 1 h x8 x9).bind fun x10 =>
        if w32 x10 = 44 then (
          (pf 14 h l0 5 4).bind fun h =>
          (gf 14 h l0 7).bind fun x12 =>
          (pf 14 h l0 7 (x12 + 1)).bind fun h =>
          some h
        ) else (
          (pf 14 h l0 5 5).bind fun h =>
          (gf 14 h l0 7).bind fun x11 =>
          (pf 14 h l0 7 (x11 + 1)).bind fun h =>
          some h
        )
      )
    ) else (
      (pf 14 h l0 5 0).bind fun h =>
      some h
    )
  )

def M_X4_take_b180 (h : Hp) (l0 : Int) : Option (Hp ⊕ Hp) :=
  (gf 14 h l0 7).bind fun x16 =>
  (gf 14 h l0 3).bind fun x17 =>
  if w32 x16 < w32 x17 then (
    (gr 14 h l0 2).bind fun x18 =>
    (gf 14 h l0 7).bind fun x19 =>
    (ald 1 h x18 x19).bind fun x20 =>
    if w32 x20 < 48 then (
      some (.inr h)
    ) else (
      (gr 14 h l0 2).bind fun x21 =>
      (gf 14 h l0 7).bind fun x22 =>
      (ald 1 h x21 x22).bind fun x23 =>
      if 57 < w32 x23 then (
        some (.inr h)
      ) else (
        (gf 14 h l0 8).bind fun x24 =>
        (gr 14 h l0 2).bind fun x25 =>
        (gf 14 h l0 7).bind fun x26 =>
        (ald 1 h x25 x26).bind fun x27 =>
        (pf 14 h l0 8 (((10 * x24) + x27) - 48)).bind fun h =>
        (gf 14 h l0 7).bind fun x28 =>
        (pf 14 h l0 7 (x28 + 1)).bind fun h =>
        some (.inl h)
      )
    )
  ) else (
    some (.inr h)
  )

def M_X4_take_w180 (n : Nat) (h : Hp) (l0 : Int) : Option Hp :=
  (wh (S := Hp) (T := Hp) (fun a => M_X4_take_b180 a l0) n h).bind (fun b => M_X4_take_p256 b l0)

def M_X4_take_p140 (h : Hp) (l0 : Int) : Option Hp :=
  (gf 14 h l0 7).bind fun x29 =>
  (gf 14 h l0 6).bind fun x30 =>
  if w32 x30 < w32 x29 then (
    (gf 14 h l0 7).bind fun x31 =>
    (gf 14 h l0 6).bind fun x32 =>
    if 8 < w32 (x31 - x32) then (
      (pf 14 h l0 5 5).bind fun h =>
      some h
    ) else (
      (pf 14 h l0 5 1).bind fun h =>
      some h
    )
  ) else (
    (pf 14 h l0 8 0).bind fun h =>
    M_X4_take_w180 FU h l0
  )

def M_X4_take_b59 (h : Hp) (l0 : Int) : Option (Hp ⊕ Hp) :=
  (gf 14 h l0 7).bind fun x33 =>
  (gf 14 h l0 3).bind fun x34 =>
  if w32 x33 < w32 x34 then (
    (gr 14 h l0 2).bind fun x35 =>
    (gf 14 h l0 7).bind fun x36 =>
    (ald 1 h x35 x36).bind fun x37 =>
    if w32 x37 < 97 then (
      some (.inr h)
    ) else (
      (gr 14 h l0 2).bind fun x38 =>
      (gf 14 h l0 7).bind fun x39 =>
      (ald 1 h x38 x39).bind fun x40 =>
      if 122 < w32 x40 then (
        some (.inr h)
      ) else (
        (gf 14 h l0 9).bind fun x41 =>
        (gr 14 h l0 2).bind fun x42 =>
        (gf 14 h l0 7).bind fun x43 =>
        (ald 1 h x42 x43).bind fun x44 =>
        (pf 14 h l0 9 ((((32 * x41) + (w32 x44)) - 97) + 1)).bind fun h =>
        (gf 14 h l0 7).bind fun x45 =>
        (pf 14 h l0 7 (x45 + 1)).bind fun h =>
        some (.inl h)
      )
    )
  ) else (
    some (.inr h)
  )

def M_X4_take_w59 (n : Nat) (h : Hp) (l0 : Int) : Option Hp :=
  (wh (S := Hp) (T := Hp) (fun a => M_X4_take_b59 a l0) n h).bind (fun b => M_X4_take_p140 b l0)

def M_X4_take_p46 (h : Hp) (l0 : Int) : Option Hp :=
  (gf 14 h l0 6).bind fun x46 =>
  (pf 14 h l0 7 x46).bind fun h =>
  (pf 14 h l0 9 0).bind fun h =>
  M_X4_take_w59 FU h l0

def M_X4_take_b8 (h : Hp) (l0 : Int) : Option (Hp ⊕ Hp) :=
  (gf 14 h l0 6).bind fun x47 =>
  (gf 14 h l0 3).bind fun x48 =>
  if w32 x47 < w32 x48 then (
    (gr 14 h l0 2).bind fun x49 =>
    (gf 14 h l0 6).bind fun x50 =>
    (ald 1 h x49 x50).bind fun x51 =>
    if w32 x51 = 32 then (
      (gf 14 h l0 6).bind fun x52 =>
      (pf 14 h l0 6 (x52 + 1)).bind fun h =>
      some (.inl h)
    ) else (
      some (.inr h)
    )
  ) else (
    some (.inr h)
  )

def M_X4_take_w8 (n : Nat) (h : Hp) (l0 : Int) : Option Hp :=
  (wh (S := Hp) (T := Hp) (fun a => M_X4_take_b8 a l0) n h).bind (fun b => M_X4_take_p46 b l0)

def M_X4_take (h : Hp) (l0 : Int) : Option Hp := tk 14 h l0 (
  (gf 14 h l0 7).bind fun x53 =>
  (pf 14 h l0 6 x53).bind fun h =>
  M_X4_take_w8 FU h l0)

def M_X4_isWord_p63 (h : Hp) : Option Int :=
  some 1

def M_X4_isWord_b28 (h : Hp) (l0 l1 l2 : Int) : Option (Int ⊕ (Unit ⊕ (Int))) :=
  (M_J0_length l1).bind fun x1 =>
  if w32 l2 < w32 x1 then (
    (gr 14 h l0 2).bind fun x2 =>
    (gf 14 h l0 6).bind fun x3 =>
    (ald 1 h x2 (x3 + l2)).bind fun x4 =>
    (M_J0_charAt l1 l2).bind fun x5 =>
    if w32 x4 = w32 x5 then (
      some (.inl (l2 + 1))
    ) else (
      some (.inr (.inr 0))
    )
  ) else (
    some (.inr (.inl ()))
  )

def M_X4_isWord_w28 (n : Nat) (h : Hp) (l0 l1 l2 : Int) : Option Int :=
  (wh (S := Int) (T := (Unit ⊕ (Int))) (fun a => M_X4_isWord_b28 h l0 l1 a) n l2).bind (fun z => exi z (fun b => M_X4_isWord_p63 h) (fun q => some q))

def M_X4_isWord (h : Hp) (l0 l1 : Int) : Option Int := tk 14 h l0 (
  (gf 14 h l0 5).bind fun x6 =>
  if w32 x6 = 1 then (
    (gf 14 h l0 7).bind fun x7 =>
    (gf 14 h l0 6).bind fun x8 =>
    (M_J0_length l1).bind fun x9 =>
    if w32 (x7 - x8) = w32 x9 then (
      M_X4_isWord_w28 FU h l0 l1 0
    ) else (
      some 0
    )
  ) else (
    some 0
  ))

def M_X4_lineSort (h : Hp) (l0 : Int) : Option Int := tk 14 h l0 (
  (M_X4_isWord h l0 0).bind fun x1 =>
  if w32 x1 = 0 then (
    (M_X4_isWord h l0 1).bind fun x2 =>
    if w32 x2 = 0 then (
      (M_X4_isWord h l0 2).bind fun x3 =>
      if w32 x3 = 0 then (
        (M_X4_isWord h l0 3).bind fun x4 =>
        if w32 x4 = 0 then (
          (M_X4_isWord h l0 4).bind fun x5 =>
          if w32 x5 = 0 then (
            some (-1)
          ) else (
            some 4
          )
        ) else (
          some 3
        )
      ) else (
        some 2
      )
    ) else (
      some 1
    )
  ) else (
    some 0
  ))

def M_X4_fail (h : Hp) (l0 l1 : Int) : Option (Hp × Int) := tk 14 h l0 (
  (pf 14 h l0 0 l1).bind fun h =>
  (gf 14 h l0 6).bind fun x1 =>
  (pf 14 h l0 1 x1).bind fun h =>
  some (h, 0))

def M_X4_isFull_p36 (h : Hp) (l0 l1 : Int) : Option Int :=
  if w32 l1 = 4 then (
    (gr 14 h l0 4).bind fun x1 =>
    (gf 15 h x1 9).bind fun x2 =>
    if w32 x2 < 8 then (
      some 0
    ) else (
      some 1
    )
  ) else (
    some 0
  )

def M_X4_isFull_p20 (h : Hp) (l0 l1 : Int) : Option Int :=
  if w32 l1 = 3 then (
    (gr 14 h l0 4).bind fun x3 =>
    (gf 15 h x3 4).bind fun x4 =>
    if w32 x4 < 5 then (
      M_X4_isFull_p36 h l0 l1
    ) else (
      some 1
    )
  ) else (
    M_X4_isFull_p36 h l0 l1
  )

def M_X4_isFull (h : Hp) (l0 l1 : Int) : Option Int := tk 14 h l0 (
  if w32 l1 = 1 then (
    (gr 14 h l0 4).bind fun x5 =>
    (gr 15 h x5 1).bind fun x6 =>
    (gf 18 h x6 2).bind fun x7 =>
    if w32 x7 < 6 then (
      M_X4_isFull_p20 h l0 l1
    ) else (
      some 1
    )
  ) else (
    M_X4_isFull_p20 h l0 l1
  ))

def M_X4_mayCome_p41 (h : Hp) (l0 l1 l2 : Int) : Option (Hp × Int) :=
  (M_X4_isFull h l0 l1).bind fun x1 =>
  if w32 x1 = 0 then (
    if w32 l1 = 0 then (
      some (h, 1)
    ) else (
      if w32 l2 = 0 then (
        bd (M_X4_fail h l0 6) fun h x2 =>
        if w32 x2 = 0 then (
          some (h, 0)
        ) else (
          some (h, 1)
        )
      ) else (
        some (h, 1)
      )
    )
  ) else (
    bd (M_X4_fail h l0 5) fun h x3 =>
    (zb1 x3 ()).bind fun _ =>
    some (h, x3)
  )

def M_X4_mayCome_p15 (h : Hp) (l0 l1 : Int) (s0 : Int) : Option (Hp × Int) :=
  if w32 l1 = (-1) then (
    bd (M_X4_fail h l0 1) fun h x7 =>
    (zb1 x7 ()).bind fun _ =>
    some (h, x7)
  ) else (
    if w32 l1 = 0 then (
      if w32 s0 = 0 then (
        M_X4_mayCome_p41 h l0 l1 s0
      ) else (
        bd (M_X4_fail h l0 3) fun h x5 =>
        (zb1 x5 ()).bind fun _ =>
        some (h, x5)
      )
    ) else (
      M_X4_mayCome_p41 h l0 l1 s0
    )
  )

def M_X4_mayCome (h : Hp) (l0 l1 : Int) : Option (Hp × Int) := tk 14 h l0 (
  (gr 14 h l0 4).bind fun x9 =>
  (gf 15 h x9 0).bind fun x10 =>
  if 0 < w32 x10 then (
    M_X4_mayCome_p15 h l0 l1 1
  ) else (
    M_X4_mayCome_p15 h l0 l1 0
  ))

def M_X4_wordDue (h : Hp) (l0 l1 : Int) : Option (Hp × Int) := tk 14 h l0 (
  (M_X4_isWord h l0 l1).bind fun x1 =>
  if w32 x1 = 0 then (
    bd (M_X4_fail h l0 1) fun h x2 =>
    (zb1 x2 ()).bind fun _ =>
    some (h, x2)
  ) else (
    (M_X4_take h l0).bind fun h =>
    some (h, 1)
  ))

def M_X4_failed (h : Hp) (l0 l1 : Int) : Option (Hp × Int) := tk 14 h l0 (
  bd (M_X4_fail h l0 l1) fun h x1 =>
  some (h, (-1)))

def M_X4_wholeDue (h : Hp) (l0 l1 l2 : Int) : Option (Hp × Int) := tk 14 h l0 (
  (gf 14 h l0 5).bind fun x1 =>
  if w32 x1 = 2 then (
    (gf 14 h l0 8).bind fun x2 =>
    if w32 x2 < w32 l1 then (
      bd (M_X4_failed h l0 4) fun h x3 =>
      some (h, x3)
    ) else (
      (gf 14 h l0 8).bind fun x4 =>
      if w32 l2 < w32 x4 then (
        bd (M_X4_failed h l0 4) fun h x6 =>
        some (h, x6)
      ) else (
        (gf 14 h l0 8).bind fun x5 =>
        (M_X4_take h l0).bind fun h =>
        some (h, x5)
      )
    )
  ) else (
    bd (M_X4_failed h l0 1) fun h x7 =>
    some (h, x7)
  ))

def M_X4_readRing_p72 (h : Hp) (l0 l1 l2 : Int) (s0 : Int) : Option (Hp × Int) :=
  if w32 s0 = (-1) then (
    some (h, 0)
  ) else (
    (gr 14 h l0 4).bind fun x1 =>
    (gr 15 h x1 1).bind fun x2 =>
    (pf 18 h x2 0 l1).bind fun h =>
    (gr 14 h l0 4).bind fun x3 =>
    (gr 15 h x3 1).bind fun x4 =>
    (pf 18 h x4 1 l2).bind fun h =>
    (gr 14 h l0 4).bind fun x5 =>
    (pf 15 h x5 0 s0).bind fun h =>
    some (h, 1)
  )

def M_X4_readRing_p71 (h : Hp) (l0 l1 l2 : Int) : Option (Hp × Int) :=
  M_X4_readRing_p72 h l0 l1 l2 (-1)

def M_X4_readRing_p46 (h : Hp) (l0 l1 : Int) (s0 : Int) : Option (Hp × Int) :=
  if w32 s0 = (-1) then (
    M_X4_readRing_p71 h l0 l1 s0
  ) else (
    bd (M_X4_wordDue h l0 7) fun h x6 =>
    if w32 x6 = 0 then (
      M_X4_readRing_p71 h l0 l1 s0
    ) else (
      bd (M_X4_wholeDue h l0 2 6) fun h x7 =>
      M_X4_readRing_p72 h l0 l1 s0 x7
    )
  )

def M_X4_readRing_p45 (h : Hp) (l0 l1 : Int) : Option (Hp × Int) :=
  M_X4_readRing_p46 h l0 l1 (-1)

def M_X4_readRing_p20 (h : Hp) (l0 : Int) (s0 : Int) : Option (Hp × Int) :=
  if w32 s0 = (-1) then (
    M_X4_readRing_p45 h l0 s0
  ) else (
    bd (M_X4_wordDue h l0 6) fun h x8 =>
    if w32 x8 = 0 then (
      M_X4_readRing_p45 h l0 s0
    ) else (
      bd (M_X4_wholeDue h l0 2 6) fun h x9 =>
      M_X4_readRing_p46 h l0 s0 x9
    )
  )

def M_X4_readRing (h : Hp) (l0 : Int) : Option (Hp × Int) := tk 14 h l0 (
  bd (M_X4_wordDue h l0 5) fun h x10 =>
  if w32 x10 = 0 then (
    M_X4_readRing_p20 h l0 (-1)
  ) else (
    bd (M_X4_wholeDue h l0 2 6) fun h x11 =>
    M_X4_readRing_p20 h l0 x11
  ))

def M_X4_isName (h : Hp) (l0 : Int) : Option Int := tk 14 h l0 (
  (gf 14 h l0 5).bind fun x1 =>
  if w32 x1 = 1 then (
    (M_X4_isWord h l0 8).bind fun x2 =>
    if w32 x2 = 0 then (
      (M_X4_lineSort h l0).bind fun x3 =>
      if w32 x3 = (-1) then (
        some 1
      ) else (
        some 0
      )
    ) else (
      some 0
    )
  ) else (
    some 0
  ))

def M_X5_townNamed_p32 (h : Hp) : Option Int :=
  some (-1)

def M_X5_townNamed_b2 (h : Hp) (l0 l1 l3 : Int) : Option (Int ⊕ (Unit ⊕ (Int))) :=
  (gr 15 h l0 1).bind fun x1 =>
  (gf 18 h x1 2).bind fun x2 =>
  if w32 l3 < w32 x2 then (
    (gr 15 h l0 2).bind fun x3 =>
    (ald 2 h x3 l3).bind fun x4 =>
    if w32 (lcmp x4 l1) = 0 then (
      some (.inr (.inr l3))
    ) else (
      some (.inl (l3 + 1))
    )
  ) else (
    some (.inr (.inl ()))
  )

def M_X5_townNamed_w2 (n : Nat) (h : Hp) (l0 l1 l3 : Int) : Option Int :=
  (wh (S := Int) (T := (Unit ⊕ (Int))) (fun a => M_X5_townNamed_b2 h l0 l1 a) n l3).bind (fun z => exi z (fun b => M_X5_townNamed_p32 h) (fun q => some q))

def M_X5_townNamed (h : Hp) (l0 l1 : Int) : Option Int := tk 15 h l0 (
  M_X5_townNamed_w2 FU h l0 l1 0)

def M_X4_readRow_p113 (h : Hp) (l0 : Int) : Option (Hp × Int) :=
  (M_X4_take h l0).bind fun h =>
  some (h, 1)

def M_X4_readRow_b45 (h : Hp) (l0 l1 l2 : Int) : Option ((Hp × Int) ⊕ (Hp ⊕ (Hp × Int))) :=
  (gr 14 h l0 4).bind fun x1 =>
  (gr 15 h x1 1).bind fun x2 =>
  (gf 18 h x2 0).bind fun x3 =>
  if w32 l2 < w32 x3 then (
    (gr 14 h l0 2).bind fun x4 =>
    (gf 14 h l0 6).bind fun x5 =>
    (ald 1 h x4 (x5 + l2)).bind fun x6 =>
    (gr 14 h l0 4).bind fun x7 =>
    (gf 15 h x7 0).bind fun x8 =>
    if w32 (x6 - 97) < w32 x8 then (
      (gr 14 h l0 4).bind fun x9 =>
      (gr 15 h x9 1).bind fun x10 =>
      (gr 18 h x10 3).bind fun x11 =>
      (ast 1 h x11 (l1 + l2) (x6 - 97)).bind fun h =>
      some (.inl (h, l2 + 1))
    ) else (
      bd (M_X4_fail h l0 7) fun h x12 =>
      (zb1 x12 ()).bind fun _ =>
      some (.inr (.inr (h, x12)))
    )
  ) else (
    some (.inr (.inl h))
  )

def M_X4_readRow_w45 (n : Nat) (h : Hp) (l0 l1 l2 : Int) : Option (Hp × Int) :=
  (wh (S := (Hp × Int)) (T := (Hp ⊕ (Hp × Int))) (fun a => M_X4_readRow_b45 a.1 l0 l1 a.2) n (h, l2)).bind (fun z => exi z (fun b => M_X4_readRow_p113 b l0) (fun q => some q))

def M_X4_readRow (h : Hp) (l0 l1 : Int) : Option (Hp × Int) := tk 14 h l0 (
  (gf 14 h l0 5).bind fun x14 =>
  if w32 x14 = 1 then (
    (gf 14 h l0 7).bind fun x15 =>
    (gf 14 h l0 6).bind fun x16 =>
    (gr 14 h l0 4).bind fun x17 =>
    (gr 15 h x17 1).bind fun x18 =>
    (gf 18 h x18 0).bind fun x19 =>
    if w32 (x15 - x16) = w32 x19 then (
      M_X4_readRow_w45 FU h l0 l1 0
    ) else (
      bd (M_X4_fail h l0 7) fun h x20 =>
      (zb1 x20 ()).bind fun _ =>
      some (h, x20)
    )
  ) else (
    bd (M_X4_fail h l0 1) fun h x22 =>
    (zb1 x22 ()).bind fun _ =>
    some (h, x22)
  ))

def M_X4_readTown_p146 (h : Hp) (l0 : Int) : Option (Hp × Int) :=
  (gr 14 h l0 4).bind fun x1 =>
  (gr 15 h x1 1).bind fun x2 =>
  (gf 18 h x2 2).bind fun x3 =>
  (pf 18 h x2 2 (x3 + 1)).bind fun h =>
  some (h, 1)

def M_X4_readTown_p122 (h : Hp) (l0 l1 l2 : Int) : Option ((Hp × Int) ⊕ (Hp ⊕ (Hp × Int))) :=
  bd (M_X4_readRow h l0 ((36 * l1) + (6 * l2))) fun h x4 =>
  if w32 x4 = 0 then (
    some (.inr (.inr (h, 0)))
  ) else (
    some (.inl (h, l2 + 1))
  )

def M_X4_readTown_b64 (h : Hp) (l0 l1 l2 : Int) : Option ((Hp × Int) ⊕ (Hp ⊕ (Hp × Int))) :=
  (gr 14 h l0 4).bind fun x5 =>
  (gr 15 h x5 1).bind fun x6 =>
  (gf 18 h x6 1).bind fun x7 =>
  if w32 l2 < w32 x7 then (
    if 0 < w32 l2 then (
      (gf 14 h l0 5).bind fun x8 =>
      if w32 x8 = 3 then (
        bd (M_X4_fail h l0 6) fun h x9 =>
        (zb1 x9 ()).bind fun _ =>
        some (.inr (.inr (h, x9)))
      ) else (
        (gf 14 h l0 5).bind fun x11 =>
        if w32 x11 = 0 then (
          bd (M_X4_fail h l0 6) fun h x15 =>
          (zb1 x15 ()).bind fun _ =>
          some (.inr (.inr (h, x15)))
        ) else (
          (gf 14 h l0 5).bind fun x12 =>
          if w32 x12 = 4 then (
            (M_X4_take h l0).bind fun h =>
            M_X4_readTown_p122 h l0 l1 l2
          ) else (
            bd (M_X4_fail h l0 1) fun h x13 =>
            (zb1 x13 ()).bind fun _ =>
            some (.inr (.inr (h, x13)))
          )
        )
      )
    ) else (
      M_X4_readTown_p122 h l0 l1 l2
    )
  ) else (
    some (.inr (.inl h))
  )

def M_X4_readTown_w64 (n : Nat) (h : Hp) (l0 l1 l2 : Int) : Option (Hp × Int) :=
  (wh (S := (Hp × Int)) (T := (Hp ⊕ (Hp × Int))) (fun a => M_X4_readTown_b64 a.1 l0 l1 a.2) n (h, l2)).bind (fun z => exi z (fun b => M_X4_readTown_p146 b l0) (fun q => some q))

def M_X4_readTown (h : Hp) (l0 : Int) : Option (Hp × Int) := tk 14 h l0 (
  (M_X4_isName h l0).bind fun x17 =>
  if w32 x17 = 0 then (
    bd (M_X4_fail h l0 1) fun h x29 =>
    (zb1 x29 ()).bind fun _ =>
    some (h, x29)
  ) else (
    (gr 14 h l0 4).bind fun x18 =>
    (gf 14 h l0 9).bind fun x19 =>
    (M_X5_townNamed h x18 x19).bind fun x20 =>
    if w32 x20 = (-1) then (
      (gr 14 h l0 4).bind fun x21 =>
      (gr 15 h x21 1).bind fun x22 =>
      (gf 18 h x22 2).bind fun x23 =>
      (gr 14 h l0 4).bind fun x24 =>
      (gr 15 h x24 2).bind fun x25 =>
      (gf 14 h l0 9).bind fun x26 =>
      (ast 2 h x25 x23 x26).bind fun h =>
      (M_X4_take h l0).bind fun h =>
      M_X4_readTown_w64 FU h l0 x23 0
    ) else (
      bd (M_X4_fail h l0 3) fun h x27 =>
      (zb1 x27 ()).bind fun _ =>
      some (h, x27)
    )
  ))

def M_X4_townHere (h : Hp) (l0 : Int) : Option (Hp × Int) := tk 14 h l0 (
  (M_X4_isName h l0).bind fun x1 =>
  if w32 x1 = 0 then (
    bd (M_X4_failed h l0 1) fun h x6 =>
    some (h, x6)
  ) else (
    (gr 14 h l0 4).bind fun x2 =>
    (gf 14 h l0 9).bind fun x3 =>
    (M_X5_townNamed h x2 x3).bind fun x4 =>
    if w32 x4 = (-1) then (
      bd (M_X4_failed h l0 2) fun h x5 =>
      some (h, x5)
    ) else (
      some (h, x4)
    )
  ))

def M_X4_errorWord (h : Hp) (l0 : Int) : Option Int :=
  if w32 l0 = 0 then (
    some 9
  ) else (
  if w32 l0 = 1 then (
    some 10
  ) else (
  if w32 l0 = 2 then (
    some 11
  ) else (
  if w32 l0 = 3 then (
    some 12
  ) else (
  if w32 l0 = 4 then (
    some 13
  ) else (
  if w32 l0 = 5 then (
    some 14
  ) else (
  if w32 l0 = 6 then (
    some 15
  ) else (
  if w32 l0 = 7 then (
    some 16
  ) else (
  if w32 l0 = 8 then (
    some 17
  ) else (
  if w32 l0 = 9 then (
    some 18
  ) else (
    some 19
  ))))))))))

def M_X4_errorSort_p27 (h : Hp) : Option Int :=
  some (-1)

def M_X4_errorSort_b2 (h : Hp) (l0 l1 : Int) : Option (Int ⊕ (Unit ⊕ (Int))) :=
  if 10 < w32 l1 then (
    some (.inr (.inl ()))
  ) else (
    (M_X4_errorWord h l1).bind fun x1 =>
    (M_X4_isWord h l0 x1).bind fun x2 =>
    if w32 x2 = 0 then (
      some (.inl (l1 + 1))
    ) else (
      some (.inr (.inr l1))
    )
  )

def M_X4_errorSort_w2 (n : Nat) (h : Hp) (l0 l1 : Int) : Option Int :=
  (wh (S := Int) (T := (Unit ⊕ (Int))) (fun a => M_X4_errorSort_b2 h l0 a) n l1).bind (fun z => exi z (fun b => M_X4_errorSort_p27 h) (fun q => some q))

def M_X4_errorSort (h : Hp) (l0 : Int) : Option Int := tk 14 h l0 (
  M_X4_errorSort_w2 FU h l0 0)

def M_X4_errorParts (h : Hp) (l0 : Int) : Option Int :=
  if w32 l0 = 1 then (
    some 20
  ) else (
  if w32 l0 = 2 then (
    some 21
  ) else (
  if w32 l0 = 3 then (
    some 22
  ) else (
  if w32 l0 = 5 then (
    some 23
  ) else (
  if w32 l0 = 6 then (
    some 24
  ) else (
  if w32 l0 = 7 then (
    some 24
  ) else (
  if w32 l0 = 8 then (
    some 25
  ) else (
  if w32 l0 = 9 then (
    some 24
  ) else (
    some 26
  ))))))))

def M_X4_markDue (h : Hp) (l0 l1 : Int) : Option (Hp × Int) := tk 14 h l0 (
  (gf 14 h l0 5).bind fun x1 =>
  if w32 x1 = 1 then (
    (gr 14 h l0 2).bind fun x2 =>
    (gf 14 h l0 6).bind fun x3 =>
    (ald 1 h x2 x3).bind fun x4 =>
    (gf 14 h l0 7).bind fun x5 =>
    (gf 14 h l0 6).bind fun x6 =>
    if w32 (x5 - x6) = 1 then (
      (gr 14 h l0 4).bind fun x8 =>
      (gf 15 h x8 0).bind fun x9 =>
      if w32 (x4 - 97) < w32 x9 then (
        if w32 (x4 - 97) = w32 l1 then (
          bd (M_X4_failed h l0 3) fun h x10 =>
          some (h, x10)
        ) else (
          (M_X4_take h l0).bind fun h =>
          some (h, x4 - 97)
        )
      ) else (
        bd (M_X4_failed h l0 7) fun h x11 =>
        some (h, x11)
      )
    ) else (
      bd (M_X4_failed h l0 7) fun h x7 =>
      some (h, x7)
    )
  ) else (
    bd (M_X4_failed h l0 1) fun h x12 =>
    some (h, x12)
  ))

def M_X4_partDue (h : Hp) (l0 l1 l2 : Int) : Option (Hp × Int) := tk 14 h l0 (
  if w32 l1 = 102 then (
    (gr 14 h l0 4).bind fun x1 =>
    (gr 15 h x1 1).bind fun x2 =>
    (gf 18 h x2 0).bind fun x3 =>
    bd (M_X4_wholeDue h l0 1 (x3 - 1)) fun h x4 =>
    some (h, x4)
  ) else (
  if w32 l1 = 109 then (
    bd (M_X4_markDue h l0 (-1)) fun h x5 =>
    some (h, x5)
  ) else (
  if w32 l1 = 111 then (
    bd (M_X4_markDue h l0 l2) fun h x6 =>
    some (h, x6)
  ) else (
  if w32 l1 = 115 then (
    bd (M_X4_wholeDue h l0 0 5) fun h x7 =>
    some (h, x7)
  ) else (
  if w32 l1 = 120 then (
    (gr 14 h l0 4).bind fun x8 =>
    (gr 15 h x8 1).bind fun x9 =>
    (gf 18 h x9 0).bind fun x10 =>
    bd (M_X4_wholeDue h l0 0 (x10 - 1)) fun h x11 =>
    some (h, x11)
  ) else (
  if w32 l1 = 121 then (
    (gr 14 h l0 4).bind fun x12 =>
    (gr 15 h x12 1).bind fun x13 =>
    (gf 18 h x13 1).bind fun x14 =>
    bd (M_X4_wholeDue h l0 0 (x14 - 1)) fun h x15 =>
    some (h, x15)
  ) else (
    bd (M_X4_wholeDue h l0 5 9) fun h x16 =>
    some (h, x16)
  )))))))

def M_X4_readError_p80 (h : Hp) : Option (Hp × Int) :=
  some (h, 1)

def M_X4_readError_b28 (h : Hp) (l0 l2 l3 l4 l5 : Int) : Option ((Hp × Int) ⊕ (Hp ⊕ (Hp × Int))) :=
  (M_J0_length l4).bind fun x1 =>
  if w32 l5 < w32 x1 then (
    (M_J0_charAt l4 l5).bind fun x2 =>
    (ald 1 h l2 (l3 + 1)).bind fun x3 =>
    bd (M_X4_partDue h l0 x2 x3) fun h x4 =>
    if w32 x4 = (-1) then (
      some (.inr (.inr (h, 0)))
    ) else (
      (ast 1 h l2 ((l3 + 1) + l5) x4).bind fun h =>
      some (.inl (h, l5 + 1))
    )
  ) else (
    some (.inr (.inl h))
  )

def M_X4_readError_w28 (n : Nat) (h : Hp) (l0 l2 l3 l4 l5 : Int) : Option (Hp × Int) :=
  (wh (S := (Hp × Int)) (T := (Hp ⊕ (Hp × Int))) (fun a => M_X4_readError_b28 a.1 l0 l2 l3 l4 a.2) n (h, l5)).bind (fun z => exi z (fun b => M_X4_readError_p80 b) (fun q => some q))

def M_X4_readError (h : Hp) (l0 l1 l2 l3 : Int) : Option (Hp × Int) := tk 14 h l0 (
  if w32 l1 = (-1) then (
    bd (M_X4_fail h l0 1) fun h x6 =>
    (zb1 x6 ()).bind fun _ =>
    some (h, x6)
  ) else (
    (M_X4_take h l0).bind fun h =>
    (ast 1 h l2 l3 l1).bind fun h =>
    (M_X4_errorParts h l1).bind fun x5 =>
    M_X4_readError_w28 FU h l0 l2 l3 x5 0
  ))

def M_X4_readCopies_p105 (h : Hp) (l0 l1 l3 : Int) : Option (Hp × Int) :=
  (gr 14 h l0 4).bind fun x1 =>
  (gr 15 h x1 1).bind fun x2 =>
  (gr 18 h x2 5).bind fun x3 =>
  bd (M_X4_readError h l0 l3 x3 (4 * l1)) fun h x4 =>
  (zb1 x4 ()).bind fun _ =>
  some (h, x4)

def M_X4_readCopies (h : Hp) (l0 : Int) : Option (Hp × Int) := tk 14 h l0 (
  bd (M_X4_townHere h l0) fun h x6 =>
  if w32 x6 = (-1) then (
    some (h, 0)
  ) else (
    (gr 14 h l0 4).bind fun x7 =>
    (gr 15 h x7 1).bind fun x8 =>
    (gr 18 h x8 4).bind fun x9 =>
    (ald 1 h x9 x6).bind fun x10 =>
    if w32 x10 < 0 then (
      (M_X4_take h l0).bind fun h =>
      bd (M_X4_townHere h l0) fun h x11 =>
      if w32 x11 = (-1) then (
        some (h, 0)
      ) else (
        (M_X4_take h l0).bind fun h =>
        bd (M_X4_wordDue h l0 8) fun h x12 =>
        if w32 x12 = 0 then (
          some (h, 0)
        ) else (
          (gr 14 h l0 4).bind fun x13 =>
          (gr 15 h x13 1).bind fun x14 =>
          (gr 18 h x14 4).bind fun x15 =>
          (ast 1 h x15 x6 x11).bind fun h =>
          (M_X4_errorSort h l0).bind fun x16 =>
          if w32 x16 = 10 then (
            (gr 14 h l0 4).bind fun x17 =>
            (M_X5_unknownCount h x17).bind fun x18 =>
            if w32 x18 < 4 then (
              M_X4_readCopies_p105 h l0 x6 x16
            ) else (
              bd (M_X4_fail h l0 5) fun h x19 =>
              (zb1 x19 ()).bind fun _ =>
              some (h, x19)
            )
          ) else (
            M_X4_readCopies_p105 h l0 x6 x16
          )
        )
      )
    ) else (
      bd (M_X4_fail h l0 3) fun h x21 =>
      (zb1 x21 ()).bind fun _ =>
      some (h, x21)
    )
  ))

def M_X4_readGuess (h : Hp) (l0 : Int) : Option (Hp × Int) := tk 14 h l0 (
  (M_X4_errorSort h l0).bind fun x1 =>
  if w32 x1 = 10 then (
    bd (M_X4_fail h l0 1) fun h x2 =>
    (zb1 x2 ()).bind fun _ =>
    some (h, x2)
  ) else (
    if w32 x1 = 9 then (
      bd (M_X4_fail h l0 1) fun h x11 =>
      (zb1 x11 ()).bind fun _ =>
      some (h, x11)
    ) else (
      (gr 14 h l0 4).bind fun x4 =>
      (gr 15 h x4 3).bind fun x5 =>
      (gr 14 h l0 4).bind fun x6 =>
      (gf 15 h x6 4).bind fun x7 =>
      bd (M_X4_readError h l0 x1 x5 (4 * x7)) fun h x8 =>
      if w32 x8 = 0 then (
        some (h, 0)
      ) else (
        (gr 14 h l0 4).bind fun x9 =>
        (gf 15 h x9 4).bind fun x10 =>
        (pf 15 h x9 4 (x10 + 1)).bind fun h =>
        some (h, 1)
      )
    )
  ))

def M_X4_readSeen_p94 (h : Hp) (l0 l1 l2 l3 l4 : Int) (s0 : Int) : Option (Hp × Int) :=
  if w32 s0 = (-1) then (
    some (h, 0)
  ) else (
    (gr 14 h l0 4).bind fun x1 =>
    (gf 15 h x1 9).bind fun x2 =>
    (gr 14 h l0 4).bind fun x3 =>
    (gr 15 h x3 5).bind fun x4 =>
    (ast 1 h x4 x2 l1).bind fun h =>
    (gr 14 h l0 4).bind fun x5 =>
    (gr 15 h x5 6).bind fun x6 =>
    (ast 1 h x6 x2 l2).bind fun h =>
    (gr 14 h l0 4).bind fun x7 =>
    (gr 15 h x7 7).bind fun x8 =>
    (ast 1 h x8 x2 ((6 * l4) + l3)).bind fun h =>
    (gr 14 h l0 4).bind fun x9 =>
    (gr 15 h x9 8).bind fun x10 =>
    (ast 1 h x10 x2 s0).bind fun h =>
    (gr 14 h l0 4).bind fun x11 =>
    (gf 15 h x11 9).bind fun x12 =>
    (pf 15 h x11 9 (x12 + 1)).bind fun h =>
    some (h, 1)
  )

def M_X4_readSeen_p77 (h : Hp) (l0 l1 l2 l3 : Int) (s0 : Int) : Option (Hp × Int) :=
  if w32 s0 = (-1) then (
    M_X4_readSeen_p94 h l0 l1 l2 l3 s0 (-1)
  ) else (
    bd (M_X4_markDue h l0 (-1)) fun h x13 =>
    M_X4_readSeen_p94 h l0 l1 l2 l3 s0 x13
  )

def M_X4_readSeen_p50 (h : Hp) (l0 l1 l2 : Int) (s0 : Int) : Option (Hp × Int) :=
  if w32 s0 = (-1) then (
    M_X4_readSeen_p77 h l0 l1 l2 s0 (-1)
  ) else (
    (gr 14 h l0 4).bind fun x14 =>
    (gr 15 h x14 1).bind fun x15 =>
    (gf 18 h x15 1).bind fun x16 =>
    bd (M_X4_wholeDue h l0 0 (x16 - 1)) fun h x17 =>
    M_X4_readSeen_p77 h l0 l1 l2 s0 x17
  )

def M_X4_readSeen (h : Hp) (l0 : Int) : Option (Hp × Int) := tk 14 h l0 (
  bd (M_X4_townHere h l0) fun h x18 =>
  if w32 x18 = (-1) then (
    some (h, 0)
  ) else (
    (M_X4_take h l0).bind fun h =>
    bd (M_X4_wholeDue h l0 1 20) fun h x19 =>
    if w32 x19 = (-1) then (
      M_X4_readSeen_p50 h l0 x18 x19 (-1)
    ) else (
      (gr 14 h l0 4).bind fun x20 =>
      (gr 15 h x20 1).bind fun x21 =>
      (gf 18 h x21 0).bind fun x22 =>
      bd (M_X4_wholeDue h l0 0 (x22 - 1)) fun h x23 =>
      M_X4_readSeen_p50 h l0 x18 x19 x23
    )
  ))

def M_X4_read_p174 (h : Hp) (l0 : Int) : Option (Hp × Int) :=
  bd (M_X4_fail h l0 1) fun h x1 =>
  (zb1 x1 ()).bind fun _ =>
  some (h, x1)

def M_X4_read_p144 (h : Hp) : Option ((Hp × Int) ⊕ (Hp ⊕ (Hp × Int))) :=
  some (.inr (.inr (h, 1)))

def M_X4_read_p109 (h : Hp) (l0 l1 l3 : Int) : Option ((Hp × Int) ⊕ (Hp ⊕ (Hp × Int))) :=
  if w32 l3 = 0 then (
    some (.inr (.inr (h, 0)))
  ) else (
    (gf 14 h l0 5).bind fun x3 =>
    if w32 x3 = 0 then (
      (gr 14 h l0 4).bind fun x7 =>
      (gr 15 h x7 1).bind fun x8 =>
      (gf 18 h x8 2).bind fun x9 =>
      if 0 < w32 x9 then (
        M_X4_read_p144 h
      ) else (
        bd (M_X4_fail h l0 6) fun h x10 =>
        if w32 x10 = 0 then (
          some (.inr (.inr (h, 0)))
        ) else (
          M_X4_read_p144 h
        )
      )
    ) else (
      (gf 14 h l0 5).bind fun x4 =>
      if w32 x4 = 3 then (
        (M_X4_take h l0).bind fun h =>
        some (.inl (h, l1 + 1))
      ) else (
        bd (M_X4_fail h l0 1) fun h x5 =>
        (zb1 x5 ()).bind fun _ =>
        some (.inr (.inr (h, x5)))
      )
    )
  )

def M_X4_read_b13 (h : Hp) (l0 l1 : Int) : Option ((Hp × Int) ⊕ (Hp ⊕ (Hp × Int))) :=
  if 900 < w32 l1 then (
    some (.inr (.inl h))
  ) else (
    (M_X4_lineSort h l0).bind fun x11 =>
    bd (M_X4_mayCome h l0 x11) fun h x12 =>
    if w32 x12 = 0 then (
      some (.inr (.inr (h, 0)))
    ) else (
      (M_X4_take h l0).bind fun h =>
      if w32 x11 = 0 then (
        bd (M_X4_readRing h l0) fun h x13 =>
        M_X4_read_p109 h l0 l1 x13
      ) else (
      if w32 x11 = 1 then (
        bd (M_X4_readTown h l0) fun h x14 =>
        M_X4_read_p109 h l0 l1 x14
      ) else (
      if w32 x11 = 2 then (
        bd (M_X4_readCopies h l0) fun h x15 =>
        M_X4_read_p109 h l0 l1 x15
      ) else (
      if w32 x11 = 3 then (
        bd (M_X4_readGuess h l0) fun h x16 =>
        M_X4_read_p109 h l0 l1 x16
      ) else (
        bd (M_X4_readSeen h l0) fun h x17 =>
        M_X4_read_p109 h l0 l1 x17
      ))))
    )
  )

def M_X4_read_w13 (n : Nat) (h : Hp) (l0 l1 : Int) : Option (Hp × Int) :=
  (wh (S := (Hp × Int)) (T := (Hp ⊕ (Hp × Int))) (fun a => M_X4_read_b13 a.1 l0 a.2) n (h, l1)).bind (fun z => exi z (fun b => M_X4_read_p174 b l0) (fun q => some q))

def M_X4_read (h : Hp) (l0 : Int) : Option (Hp × Int) := tk 14 h l0 (
  (gr 14 h l0 4).bind fun x18 =>
  (M_X5_clear h x18).bind fun h =>
  (M_X4_take h l0).bind fun h =>
  M_X4_read_w13 FU h l0 0)

def M_X5_init (h : Hp) (l0 : Int) : Option Hp := tk 15 h l0 (
  (pf 15 h l0 0 0).bind fun h =>
  nb (nwo 8 (dflt 8) h) h.2.2.2 fun h x1 =>
  (M_X8_init h x1).bind fun h =>
  rp x1 (pf 15 h l0 1 x1) fun h =>
  nb (nw 2 6 0 h) h.2.2.2 fun h x2 =>
  rp x2 (pf 15 h l0 2 x2) fun h =>
  nb (nw 1 20 0 h) h.2.2.2 fun h x3 =>
  rp x3 (pf 15 h l0 3 x3) fun h =>
  (pf 15 h l0 4 0).bind fun h =>
  nb (nw 1 8 0 h) h.2.2.2 fun h x4 =>
  rp x4 (pf 15 h l0 5 x4) fun h =>
  nb (nw 1 8 0 h) h.2.2.2 fun h x5 =>
  rp x5 (pf 15 h l0 6 x5) fun h =>
  nb (nw 1 8 0 h) h.2.2.2 fun h x6 =>
  rp x6 (pf 15 h l0 7 x6) fun h =>
  nb (nw 1 8 0 h) h.2.2.2 fun h x7 =>
  rp x7 (pf 15 h l0 8 x7) fun h =>
  (pf 15 h l0 9 0).bind fun h =>
  some h)

def M_X5_unknownNumber (h : Hp) (l0 l1 : Int) : Option Int := tk 15 h l0 (
  (M_X5_isUnknown h l0 l1).bind fun x1 =>
  if w32 x1 = 0 then (
    some (-1)
  ) else (
    (M_X5_unknownsBelow h l0 l1).bind fun x2 =>
    some x2
  ))

def M_X7_init (h : Hp) (l0 l1 : Int) : Option Hp := tk 17 h l0 (
  nb (nw 2 108 0 h) h.2.2.2 fun h x1 =>
  rp x1 (pf 17 h l0 1 x1) fun h =>
  nb (nw 2 108 0 h) h.2.2.2 fun h x2 =>
  rp x2 (pf 17 h l0 2 x2) fun h =>
  nb (nw 2 36 0 h) h.2.2.2 fun h x3 =>
  rp x3 (pf 17 h l0 3 x3) fun h =>
  rp l1 (pf 17 h l0 0 l1) fun h =>
  some h)

def M_X6_init (h : Hp) (l0 l1 : Int) : Option Hp := tk 16 h l0 (
  nb (nw 1 36 0 h) h.2.2.2 fun h x1 =>
  rp x1 (pf 16 h l0 2 x1) fun h =>
  (pf 16 h l0 3 0).bind fun h =>
  nb (nw 1 3 0 h) h.2.2.2 fun h x2 =>
  rp x2 (pf 16 h l0 4 x2) fun h =>
  nb (nw 1 3 0 h) h.2.2.2 fun h x3 =>
  rp x3 (pf 16 h l0 5 x3) fun h =>
  nb (nw 1 192 0 h) h.2.2.2 fun h x4 =>
  rp x4 (pf 16 h l0 6 x4) fun h =>
  rp l1 (pf 16 h l0 0 l1) fun h =>
  nb (nwo 7 (dflt 7) h) h.2.2.2 fun h x5 =>
  (M_X7_init h x5 l1).bind fun h =>
  rp x5 (pf 16 h l0 1 x5) fun h =>
  some h)

def M_X6_listOpen_p87 (h : Hp) : Option Hp :=
  some h

def M_X6_listOpen_p81 (h : Hp) (l0 l1 l2 : Int) : Option ((Hp × Int) ⊕ Hp) :=
  some (.inl (h, l2 + 1))

def M_X6_listOpen_p75 (h : Hp) (l0 l1 l2 l3 : Int) : Option ((Hp × Int) ⊕ Hp) :=
  some (.inl (h, l3 + 1))

def M_X6_listOpen_b15 (h : Hp) (l0 l1 l2 l3 : Int) : Option ((Hp × Int) ⊕ Hp) :=
  if w32 l3 < 6 then (
    (gr 16 h l0 0).bind fun x1 =>
    (M_X0_matters h x1 ((6 * l3) + l2)).bind fun x2 =>
    if w32 x2 = 0 then (
      M_X6_listOpen_p75 h l0 l1 l2 l3
    ) else (
      (gr 16 h l0 0).bind fun x3 =>
      (M_X0_beginMark h x3 ((6 * l3) + l2)).bind fun x4 =>
      if w32 x4 = w32 l1 then (
        M_X6_listOpen_p75 h l0 l1 l2 l3
      ) else (
        (gr 16 h l0 2).bind fun x5 =>
        (gf 16 h l0 3).bind fun x6 =>
        (ast 1 h x5 x6 ((6 * l3) + l2)).bind fun h =>
        (gf 16 h l0 3).bind fun x7 =>
        (pf 16 h l0 3 (x7 + 1)).bind fun h =>
        M_X6_listOpen_p75 h l0 l1 l2 l3
      )
    )
  ) else (
    some (.inr h)
  )

def M_X6_listOpen_w15 (n : Nat) (h : Hp) (l0 l1 l2 l3 : Int) : Option ((Hp × Int) ⊕ Hp) :=
  (wh (S := (Hp × Int)) (T := Hp) (fun a => M_X6_listOpen_b15 a.1 l0 l1 l2 a.2) n (h, l3)).bind (fun b => M_X6_listOpen_p81 b l0 l1 l2)

def M_X6_listOpen_b7 (h : Hp) (l0 l1 l2 : Int) : Option ((Hp × Int) ⊕ Hp) :=
  if w32 l2 < 6 then (
    M_X6_listOpen_w15 FU h l0 l1 l2 0
  ) else (
    some (.inr h)
  )

def M_X6_listOpen_w7 (n : Nat) (h : Hp) (l0 l1 l2 : Int) : Option Hp :=
  (wh (S := (Hp × Int)) (T := Hp) (fun a => M_X6_listOpen_b7 a.1 l0 l1 a.2) n (h, l2)).bind (fun b => M_X6_listOpen_p87 b)

def M_X6_listOpen (h : Hp) (l0 l1 : Int) : Option Hp := tk 16 h l0 (
  (pf 16 h l0 3 0).bind fun h =>
  M_X6_listOpen_w7 FU h l0 l1 0)

def M_X7_overlay_p56 (h : Hp) : Option Hp :=
  some h

def M_X7_overlay_p49 (h : Hp) (l0 l1 l2 l4 l5 : Int) (s0 s1 s2 : Int) : Option ((Hp × Int) ⊕ Hp) :=
  (ast 2 h s0 s1 s2).bind fun h =>
  some (.inl (h, l5 + 1))

def M_X7_overlay_b3 (h : Hp) (l0 l1 l2 l4 l5 : Int) : Option ((Hp × Int) ⊕ Hp) :=
  if w32 l5 < 3 then (
    if w32 (iand (ishr l4 l5) 1) = 0 then (
      (ald 2 h l0 ((3 * l1) + l5)).bind fun x1 =>
      M_X7_overlay_p49 h l0 l1 l2 l4 l5 l0 ((3 * l1) + l5) (land x1 (lxor l2 (-1)))
    ) else (
      (ald 2 h l0 ((3 * l1) + l5)).bind fun x2 =>
      M_X7_overlay_p49 h l0 l1 l2 l4 l5 l0 ((3 * l1) + l5) (lor x2 l2)
    )
  ) else (
    some (.inr h)
  )

def M_X7_overlay_w3 (n : Nat) (h : Hp) (l0 l1 l2 l4 l5 : Int) : Option Hp :=
  (wh (S := (Hp × Int)) (T := Hp) (fun a => M_X7_overlay_b3 a.1 l0 l1 l2 l4 a.2) n (h, l5)).bind (fun b => M_X7_overlay_p56 b)

def M_X7_overlay (h : Hp) (l0 l1 l2 l4 : Int) : Option Hp :=
  M_X7_overlay_w3 FU h l0 l1 l2 l4 0

def M_X7_begin_p67 (h : Hp) : Option Hp :=
  some h

def M_X7_begin_b2 (h : Hp) (l0 l1 : Int) : Option ((Hp × Int) ⊕ Hp) :=
  (gr 17 h l0 0).bind fun x1 =>
  (gr 10 h x1 7).bind fun x2 =>
  (gr 17 h l0 0).bind fun x3 =>
  (gf 10 h x3 2).bind fun x4 =>
  (ald 1 h x2 x4).bind fun x5 =>
  if w32 l1 < w32 x5 then (
    (gr 17 h l0 0).bind fun x6 =>
    (gr 10 h x6 6).bind fun x7 =>
    (gr 17 h l0 0).bind fun x8 =>
    (gf 10 h x8 2).bind fun x9 =>
    (ald 1 h x7 ((36 * x9) + l1)).bind fun x10 =>
    (gr 17 h l0 1).bind fun x11 =>
    (gr 17 h l0 0).bind fun x12 =>
    (M_X0_beginMark h x12 x10).bind fun x13 =>
    (M_X7_overlay h x11 x10 (-1) x13).bind fun h =>
    some (.inl (h, l1 + 1))
  ) else (
    some (.inr h)
  )

def M_X7_begin_w2 (n : Nat) (h : Hp) (l0 l1 : Int) : Option Hp :=
  (wh (S := (Hp × Int)) (T := Hp) (fun a => M_X7_begin_b2 a.1 l0 a.2) n (h, l1)).bind (fun b => M_X7_begin_p67 b)

def M_X7_begin (h : Hp) (l0 : Int) : Option Hp := tk 17 h l0 (
  M_X7_begin_w2 FU h l0 0)

def M_X7_put (h : Hp) (l0 l1 l2 l3 : Int) : Option Hp := tk 17 h l0 (
  (gr 17 h l0 1).bind fun x1 =>
  (M_X7_overlay h x1 l2 (lshl 1 l1) l3).bind fun h =>
  some h)

def M_X6_tryPick_p53 (h : Hp) : Option Hp :=
  some h

def M_X6_tryPick_b3 (h : Hp) (l0 l1 l2 l3 l4 : Int) : Option ((Hp × Int) ⊕ Hp) :=
  if w32 l4 < w32 l2 then (
    (gr 16 h l0 2).bind fun x1 =>
    (gr 16 h l0 5).bind fun x2 =>
    (ald 1 h x2 l4).bind fun x3 =>
    (ald 1 h x1 x3).bind fun x4 =>
    (gr 16 h l0 1).bind fun x5 =>
    (M_X7_put h x5 l1 x4 l3).bind fun h =>
    (gr 16 h l0 6).bind fun x6 =>
    (ast 1 h x6 ((3 * l1) + l4) x4).bind fun h =>
    some (.inl (h, l4 + 1))
  ) else (
    some (.inr h)
  )

def M_X6_tryPick_w3 (n : Nat) (h : Hp) (l0 l1 l2 l3 l4 : Int) : Option Hp :=
  (wh (S := (Hp × Int)) (T := Hp) (fun a => M_X6_tryPick_b3 a.1 l0 l1 l2 l3 a.2) n (h, l4)).bind (fun b => M_X6_tryPick_p53 b)

def M_X6_tryPick (h : Hp) (l0 l1 l2 l3 : Int) : Option Hp := tk 16 h l0 (
  M_X6_tryPick_w3 FU h l0 l1 l2 l3 0)

def M_X6_goToNextPick_p74 (h : Hp) : Option (Hp × Int) :=
  some (h, 0)

def M_X6_goToNextPick_p66 (h : Hp) : Option (Int ⊕ (Unit ⊕ (Hp × Int))) :=
  some (.inr (.inr (h, 1)))

def M_X6_goToNextPick_b39 (h : Hp) (l0 l1 l3 : Int) : Option ((Hp × Int) ⊕ Hp) :=
  if w32 l3 < w32 l1 then (
    (gr 16 h l0 5).bind fun x1 =>
    (gr 16 h l0 5).bind fun x2 =>
    (ald 1 h x2 (l3 - 1)).bind fun x3 =>
    (ast 1 h x1 l3 (x3 + 1)).bind fun h =>
    some (.inl (h, l3 + 1))
  ) else (
    some (.inr h)
  )

def M_X6_goToNextPick_w39 (n : Nat) (h : Hp) (l0 l1 l3 : Int) : Option (Int ⊕ (Unit ⊕ (Hp × Int))) :=
  (wh (S := (Hp × Int)) (T := Hp) (fun a => M_X6_goToNextPick_b39 a.1 l0 l1 a.2) n (h, l3)).bind (fun b => M_X6_goToNextPick_p66 b)

def M_X6_goToNextPick_b4 (h : Hp) (l0 l1 l2 : Int) : Option (Int ⊕ (Unit ⊕ (Hp × Int))) :=
  if w32 l2 < 0 then (
    some (.inr (.inl ()))
  ) else (
    (gr 16 h l0 5).bind fun x4 =>
    (ald 1 h x4 l2).bind fun x5 =>
    (gf 16 h l0 3).bind fun x6 =>
    if w32 x5 < w32 ((x6 - l1) + l2) then (
      (gr 16 h l0 5).bind fun x7 =>
      (ald 1 h x7 l2).bind fun x8 =>
      (ast 1 h x7 l2 (x8 + 1)).bind fun h =>
      M_X6_goToNextPick_w39 FU h l0 l1 (l2 + 1)
    ) else (
      some (.inl (l2 + (-1)))
    )
  )

def M_X6_goToNextPick_w4 (n : Nat) (h : Hp) (l0 l1 l2 : Int) : Option (Hp × Int) :=
  (wh (S := Int) (T := (Unit ⊕ (Hp × Int))) (fun a => M_X6_goToNextPick_b4 h l0 l1 a) n l2).bind (fun z => exi z (fun b => M_X6_goToNextPick_p74 h) (fun q => some q))

def M_X6_goToNextPick (h : Hp) (l0 l1 : Int) : Option (Hp × Int) := tk 16 h l0 (
  M_X6_goToNextPick_w4 FU h l0 l1 (l1 - 1))

def M_X7_with_p55 (h : Hp) (l3 : Int) : Option Int :=
  some l3

def M_X7_with_p47 (h : Hp) (l0 l1 l2 l5 : Int) (s0 s1 : Int) : Option ((Int × Int) ⊕ Int) :=
  some (.inl (land s0 s1, l5 + 1))

def M_X7_with_b7 (h : Hp) (l0 l1 l2 l3 l5 : Int) : Option ((Int × Int) ⊕ Int) :=
  if w32 l5 < 3 then (
    (gr 17 h l0 1).bind fun x1 =>
    (ald 2 h x1 ((3 * l1) + l5)).bind fun x2 =>
    if w32 (iand (ishr l2 l5) 1) = 0 then (
      M_X7_with_p47 h l0 l1 l2 l5 l3 (lxor x2 (-1))
    ) else (
      M_X7_with_p47 h l0 l1 l2 l5 l3 x2
    )
  ) else (
    some (.inr l3)
  )

def M_X7_with_w7 (n : Nat) (h : Hp) (l0 l1 l2 l3 l5 : Int) : Option Int :=
  (wh (S := (Int × Int)) (T := Int) (fun a => M_X7_with_b7 h l0 l1 l2 a.1 a.2) n (l3, l5)).bind (fun b => M_X7_with_p55 h b)

def M_X7_with (h : Hp) (l0 l1 l2 : Int) : Option Int := tk 17 h l0 (
  M_X7_with_w7 FU h l0 l1 l2 (-1) 0)

def M_X7_listStained_p51 (h : Hp) : Option Hp :=
  some h

def M_X7_listStained_b2 (h : Hp) (l0 l1 l2 l3 : Int) : Option ((Hp × Int) ⊕ Hp) :=
  (gr 17 h l0 0).bind fun x1 =>
  (gr 10 h x1 7).bind fun x2 =>
  (ald 1 h x2 l1).bind fun x3 =>
  if w32 l3 < w32 x3 then (
    (gr 17 h l0 0).bind fun x4 =>
    (gr 10 h x4 6).bind fun x5 =>
    (ald 1 h x5 ((36 * l1) + l3)).bind fun x6 =>
    (gr 17 h l0 3).bind fun x7 =>
    (M_X7_with h l0 x6 l2).bind fun x8 =>
    (ast 2 h x7 x6 x8).bind fun h =>
    some (.inl (h, l3 + 1))
  ) else (
    some (.inr h)
  )

def M_X7_listStained_w2 (n : Nat) (h : Hp) (l0 l1 l2 l3 : Int) : Option Hp :=
  (wh (S := (Hp × Int)) (T := Hp) (fun a => M_X7_listStained_b2 a.1 l0 l1 l2 a.2) n (h, l3)).bind (fun b => M_X7_listStained_p51 b)

def M_X7_listStained (h : Hp) (l0 l1 l2 : Int) : Option Hp := tk 17 h l0 (
  M_X7_listStained_w2 FU h l0 l1 l2 0)

def M_X7_stainedAt_p53 (h : Hp) (l2 : Int) : Option Int :=
  some l2

def M_X7_stainedAt_p47 (h : Hp) (l0 l1 l2 l4 : Int) : Option ((Int × Int) ⊕ Int) :=
  some (.inl (l2, l4 + 1))

def M_X7_stainedAt_b10 (h : Hp) (l0 l1 l2 l4 : Int) : Option ((Int × Int) ⊕ Int) :=
  if w32 l4 < 4 then (
    (gr 17 h l0 0).bind fun x1 =>
    (gr 10 h x1 0).bind fun x2 =>
    (M_X8_beside h x2 l1 l4).bind fun x3 =>
    if w32 x3 = (-1) then (
      M_X7_stainedAt_p47 h l0 l1 l2 l4
    ) else (
      (gr 17 h l0 3).bind fun x4 =>
      (ald 2 h x4 x3).bind fun x5 =>
      M_X7_stainedAt_p47 h l0 l1 (lor l2 x5) l4
    )
  ) else (
    some (.inr l2)
  )

def M_X7_stainedAt_w10 (n : Nat) (h : Hp) (l0 l1 l2 l4 : Int) : Option Int :=
  (wh (S := (Int × Int)) (T := Int) (fun a => M_X7_stainedAt_b10 h l0 l1 a.1 a.2) n (l2, l4)).bind (fun b => M_X7_stainedAt_p53 h b)

def M_X7_stainedAt (h : Hp) (l0 l1 : Int) : Option Int := tk 17 h l0 (
  (gr 17 h l0 3).bind fun x6 =>
  (ald 2 h x6 l1).bind fun x7 =>
  M_X7_stainedAt_w10 FU h l0 l1 x7 0)

def M_X7_build_p263 (h : Hp) : Option Hp :=
  some h

def M_X7_build_p257 (h : Hp) (l0 l1 l2 l3 l4 l5 : Int) : Option ((Hp × Int) ⊕ Hp) :=
  some (.inl (h, l5 + 1))

def M_X7_build_p145 (h : Hp) (l0 l1 l2 l3 l4 l5 l6 l7 : Int) : Option ((Hp × Int) ⊕ Hp) :=
  if w32 l3 = 5 then (
    (gr 17 h l0 0).bind fun x5 =>
    (gr 10 h x5 0).bind fun x6 =>
    (gr 18 h x6 5).bind fun x7 =>
    (ald 1 h x7 (l2 + 2)).bind fun x8 =>
    (gr 17 h l0 2).bind fun x9 =>
    (M_X7_with h l0 l7 l4).bind fun x10 =>
    (M_X7_overlay h x9 l6 x10 x8).bind fun h =>
    (gr 17 h l0 2).bind fun x11 =>
    (M_X7_with h l0 l7 x8).bind fun x12 =>
    (M_X7_overlay h x11 l6 x12 l4).bind fun h =>
    M_X7_build_p257 h l0 l1 l2 l3 l4 l5
  ) else (
    if w32 l3 = 7 then (
      (gr 17 h l0 2).bind fun x3 =>
      (M_X7_with h l0 l6 l4).bind fun x4 =>
      (M_X7_overlay h x3 l6 x4 0).bind fun h =>
      M_X7_build_p257 h l0 l1 l2 l3 l4 l5
    ) else (
      if w32 l3 = 6 then (
        (gr 17 h l0 2).bind fun x1 =>
        (M_X7_stainedAt h l0 l6).bind fun x2 =>
        (M_X7_overlay h x1 l6 x2 l4).bind fun h =>
        M_X7_build_p257 h l0 l1 l2 l3 l4 l5
      ) else (
        M_X7_build_p257 h l0 l1 l2 l3 l4 l5
      )
    )
  )

def M_X7_build_b59 (h : Hp) (l0 l1 l2 l3 l4 l5 : Int) : Option ((Hp × Int) ⊕ Hp) :=
  (gr 17 h l0 0).bind fun x13 =>
  (gr 10 h x13 7).bind fun x14 =>
  (ald 1 h x14 l1).bind fun x15 =>
  if w32 l5 < w32 x15 then (
    (gr 17 h l0 0).bind fun x16 =>
    (gr 10 h x16 6).bind fun x17 =>
    (ald 1 h x17 ((36 * l1) + l5)).bind fun x18 =>
    (gr 17 h l0 0).bind fun x19 =>
    (M_X0_source h x19 l1 x18).bind fun x20 =>
    if w32 x20 = (-1) then (
      (gr 17 h l0 2).bind fun x23 =>
      (M_X7_overlay h x23 x18 (-1) l4).bind fun h =>
      M_X7_build_p145 h l0 l1 l2 l3 l4 l5 x18 x20
    ) else (
      (gr 17 h l0 1).bind fun x21 =>
      (gr 17 h l0 2).bind fun x22 =>
      (cpy 2 h x21 (3 * x20) x22 (3 * x18) 3).bind fun h =>
      M_X7_build_p145 h l0 l1 l2 l3 l4 l5 x18 x20
    )
  ) else (
    some (.inr h)
  )

def M_X7_build_w59 (n : Nat) (h : Hp) (l0 l1 l2 l3 l4 l5 : Int) : Option Hp :=
  (wh (S := (Hp × Int)) (T := Hp) (fun a => M_X7_build_b59 a.1 l0 l1 l2 l3 l4 a.2) n (h, l5)).bind (fun b => M_X7_build_p263 b)

def M_X7_build_p56 (h : Hp) (l0 l1 l2 l3 l4 : Int) : Option Hp :=
  M_X7_build_w59 FU h l0 l1 l2 l3 l4 0

def M_X7_build (h : Hp) (l0 l1 : Int) : Option Hp := tk 17 h l0 (
  (gr 17 h l0 0).bind fun x24 =>
  (gr 10 h x24 3).bind fun x25 =>
  (ald 1 h x25 l1).bind fun x26 =>
  (gr 17 h l0 0).bind fun x27 =>
  (gr 10 h x27 0).bind fun x28 =>
  (gr 18 h x28 5).bind fun x29 =>
  (ald 1 h x29 (4 * x26)).bind fun x30 =>
  (gr 17 h l0 0).bind fun x31 =>
  (gr 10 h x31 0).bind fun x32 =>
  (gr 18 h x32 5).bind fun x33 =>
  (ald 1 h x33 ((4 * x26) + 1)).bind fun x34 =>
  if w32 x30 = 6 then (
    (M_X7_listStained h l0 (l1 - 1) x34).bind fun h =>
    M_X7_build_p56 h l0 l1 (4 * x26) x30 x34
  ) else (
    M_X7_build_p56 h l0 l1 (4 * x26) x30 x34
  ))

def M_X7_having_p52 (h : Hp) (l0 l1 l2 : Int) : Option (Hp × Int) :=
  (M_X7_with h l0 l1 l2).bind fun x1 =>
  some (h, x1)

def M_X7_having_b10 (h : Hp) (l0 l1 l2 l3 : Int) : Option ((Hp × Int) ⊕ Hp) :=
  (gr 17 h l0 0).bind fun x2 =>
  (gf 10 h x2 1).bind fun x3 =>
  if w32 x3 < w32 l3 then (
    some (.inr h)
  ) else (
    (M_X7_build h l0 l3).bind fun h =>
    (gr 17 h l0 2).bind fun x4 =>
    (gr 17 h l0 1).bind fun x5 =>
    rp x5 (pf 17 h l0 2 x5) fun h =>
    rp x4 (pf 17 h l0 1 x4) fun h =>
    some (.inl (h, l3 + 1))
  )

def M_X7_having_w10 (n : Nat) (h : Hp) (l0 l1 l2 l3 : Int) : Option (Hp × Int) :=
  (wh (S := (Hp × Int)) (T := Hp) (fun a => M_X7_having_b10 a.1 l0 l1 l2 a.2) n (h, l3)).bind (fun b => M_X7_having_p52 b l0 l1 l2)

def M_X7_having (h : Hp) (l0 l1 l2 : Int) : Option (Hp × Int) := tk 17 h l0 (
  (gr 17 h l0 0).bind fun x6 =>
  (gf 10 h x6 2).bind fun x7 =>
  M_X7_having_w10 FU h l0 l1 l2 (x7 + 1))

def M_X6_takeFirst_p46 (h : Hp) : Option (Hp × Int) :=
  some (h, 0)

def M_X6_takeFirst_b3 (h : Hp) (l0 l1 l3 l4 : Int) : Option (Int ⊕ (Unit ⊕ (Hp × Int))) :=
  if w32 l4 < 64 then (
    if w32 (lcmp (land (lushr l1 l4) 1) 0) = 0 then (
      some (.inl (l4 + 1))
    ) else (
      (gr 16 h l0 6).bind fun x1 =>
      (gr 16 h l0 4).bind fun x2 =>
      (cpy 1 h x1 (3 * l4) x2 0 l3).bind fun h =>
      some (.inr (.inr (h, 1)))
    )
  ) else (
    some (.inr (.inl ()))
  )

def M_X6_takeFirst_w3 (n : Nat) (h : Hp) (l0 l1 l3 l4 : Int) : Option (Hp × Int) :=
  (wh (S := Int) (T := (Unit ⊕ (Hp × Int))) (fun a => M_X6_takeFirst_b3 h l0 l1 l3 a) n l4).bind (fun z => exi z (fun b => M_X6_takeFirst_p46 h) (fun q => some q))

def M_X6_takeFirst (h : Hp) (l0 l1 l3 : Int) : Option (Hp × Int) := tk 16 h l0 (
  M_X6_takeFirst_w3 FU h l0 l1 l3 0)

def M_X6_find_p112 (h : Hp) : Option (Hp × Int) :=
  some (h, 0)

def M_X6_find_p86 (h : Hp) (l0 l1 l2 l3 l4 l5 l6 : Int) : Option ((Hp × Int × Int) ⊕ (Hp ⊕ (Hp × Int))) :=
  (gr 16 h l0 1).bind fun x1 =>
  bd (M_X7_having h x1 l3 l4) fun h x2 =>
  bd (M_X6_takeFirst h l0 x2 l1) fun h x3 =>
  if w32 x3 = 0 then (
    some (.inl (h, l5, l6 + 1))
  ) else (
    some (.inr (.inr (h, 1)))
  )

def M_X6_find_b53 (h : Hp) (l0 l1 l2 l3 l4 l6 l5 l7 : Int) : Option ((Hp × Int × Int) ⊕ (Hp × Int)) :=
  if w32 l7 < 64 then (
    if w32 l5 = 0 then (
      some (.inr (h, l5))
    ) else (
      (M_X6_tryPick h l0 l7 l1 l2).bind fun h =>
      bd (M_X6_goToNextPick h l0 l1) fun h x4 =>
      some (.inl (h, x4, l7 + 1))
    )
  ) else (
    some (.inr (h, l5))
  )

def M_X6_find_w53 (n : Nat) (h : Hp) (l0 l1 l2 l3 l4 l5 l6 l7 : Int) : Option ((Hp × Int × Int) ⊕ (Hp ⊕ (Hp × Int))) :=
  (wh (S := (Hp × Int × Int)) (T := (Hp × Int)) (fun a => M_X6_find_b53 a.1 l0 l1 l2 l3 l4 l6 a.2.1 a.2.2) n (h, l5, l7)).bind (fun b => M_X6_find_p86 b.1 l0 l1 l2 l3 l4 b.2 l6)

def M_X6_find_b30 (h : Hp) (l0 l1 l2 l3 l4 l5 l6 : Int) : Option ((Hp × Int × Int) ⊕ (Hp ⊕ (Hp × Int))) :=
  if w32 l6 < 200 then (
    if w32 l5 = 0 then (
      some (.inr (.inl h))
    ) else (
      (gr 16 h l0 1).bind fun x5 =>
      (M_X7_begin h x5).bind fun h =>
      M_X6_find_w53 FU h l0 l1 l2 l3 l4 l5 l6 0
    )
  ) else (
    some (.inr (.inl h))
  )

def M_X6_find_w30 (n : Nat) (h : Hp) (l0 l1 l2 l3 l4 l5 l6 : Int) : Option (Hp × Int) :=
  (wh (S := (Hp × Int × Int)) (T := (Hp ⊕ (Hp × Int))) (fun a => M_X6_find_b30 a.1 l0 l1 l2 l3 l4 a.2.1 a.2.2) n (h, l5, l6)).bind (fun z => exi z (fun b => M_X6_find_p112 b) (fun q => some q))

def M_X6_find_p24 (h : Hp) (l0 l1 l2 l3 l4 : Int) : Option (Hp × Int) :=
  M_X6_find_w30 FU h l0 l1 l2 l3 l4 1 0

def M_X6_find_b3 (h : Hp) (l0 l1 l2 l3 l4 l5 : Int) : Option ((Hp × Int) ⊕ Hp) :=
  if w32 l5 < w32 l1 then (
    (gr 16 h l0 5).bind fun x6 =>
    (ast 1 h x6 l5 l5).bind fun h =>
    some (.inl (h, l5 + 1))
  ) else (
    some (.inr h)
  )

def M_X6_find_w3 (n : Nat) (h : Hp) (l0 l1 l2 l3 l4 l5 : Int) : Option (Hp × Int) :=
  (wh (S := (Hp × Int)) (T := Hp) (fun a => M_X6_find_b3 a.1 l0 l1 l2 l3 l4 a.2) n (h, l5)).bind (fun b => M_X6_find_p24 b l0 l1 l2 l3 l4)

def M_X6_find (h : Hp) (l0 l1 l2 l3 l4 : Int) : Option (Hp × Int) := tk 16 h l0 (
  M_X6_find_w3 FU h l0 l1 l2 l3 l4 0)

def M_X6_fewest_p81 (h : Hp) : Option (Hp × Int) :=
  some (h, (-2))

def M_X6_fewest_b43 (h : Hp) (l0 l3 l5 l6 l8 : Int) : Option ((Hp × Int) ⊕ (Hp ⊕ (Hp × Int))) :=
  if 3 < w32 l8 then (
    some (.inr (.inl h))
  ) else (
    (gf 16 h l0 3).bind fun x1 =>
    if w32 x1 < w32 l8 then (
      some (.inr (.inl h))
    ) else (
      bd (M_X6_find h l0 l8 l3 l5 l6) fun h x2 =>
      if w32 x2 = 0 then (
        some (.inl (h, l8 + 1))
      ) else (
        some (.inr (.inr (h, l8)))
      )
    )
  )

def M_X6_fewest_w43 (n : Nat) (h : Hp) (l0 l3 l5 l6 l8 : Int) : Option (Hp × Int) :=
  (wh (S := (Hp × Int)) (T := (Hp ⊕ (Hp × Int))) (fun a => M_X6_fewest_b43 a.1 l0 l3 l5 l6 a.2) n (h, l8)).bind (fun z => exi z (fun b => M_X6_fewest_p81 b) (fun q => some q))

def M_X6_fewest (h : Hp) (l0 l1 l2 l3 l4 l5 l6 l7 : Int) : Option (Hp × Int) := tk 16 h l0 (
  (gr 16 h l0 0).bind fun x3 =>
  bd (M_X0_markBehind h x3 l1 l4 l5 l7) fun h x4 =>
  if w32 x4 = w32 l6 then (
    some (h, 0)
  ) else (
    (gr 16 h l0 0).bind fun x5 =>
    (M_X0_beginTown h x5).bind fun x6 =>
    if w32 x6 = w32 l2 then (
      (M_X6_listOpen h l0 l3).bind fun h =>
      M_X6_fewest_w43 FU h l0 l3 l5 l6 1
    ) else (
      some (h, (-2))
    )
  ))

def M_X8_places (h : Hp) (l0 : Int) : Option Int := tk 18 h l0 (
  (gf 18 h l0 0).bind fun x1 =>
  (gf 18 h l0 1).bind fun x2 =>
  some (x1 * x2))

def M_X8_copyingTowns_p30 (h : Hp) (l1 : Int) : Option Int :=
  some l1

def M_X8_copyingTowns_p24 (h : Hp) (l0 l1 l2 : Int) : Option ((Int × Int) ⊕ Int) :=
  some (.inl (l1, l2 + 1))

def M_X8_copyingTowns_b4 (h : Hp) (l0 l1 l2 : Int) : Option ((Int × Int) ⊕ Int) :=
  (gf 18 h l0 2).bind fun x1 =>
  if w32 l2 < w32 x1 then (
    (gr 18 h l0 4).bind fun x2 =>
    (ald 1 h x2 l2).bind fun x3 =>
    if w32 x3 < 0 then (
      M_X8_copyingTowns_p24 h l0 l1 l2
    ) else (
      M_X8_copyingTowns_p24 h l0 (l1 + 1) l2
    )
  ) else (
    some (.inr l1)
  )

def M_X8_copyingTowns_w4 (n : Nat) (h : Hp) (l0 l1 l2 : Int) : Option Int :=
  (wh (S := (Int × Int)) (T := Int) (fun a => M_X8_copyingTowns_b4 h l0 a.1 a.2) n (l1, l2)).bind (fun b => M_X8_copyingTowns_p30 h b)

def M_X8_copyingTowns (h : Hp) (l0 : Int) : Option Int := tk 18 h l0 (
  M_X8_copyingTowns_w4 FU h l0 0 0)

def M_X8_looksLike_p36 (h : Hp) : Option Int :=
  some 1

def M_X8_looksLike_b2 (h : Hp) (l0 l1 l2 : Int) : Option (Int ⊕ (Unit ⊕ (Int))) :=
  (gf 18 h l0 2).bind fun x1 =>
  if w32 l2 < w32 (36 * x1) then (
    (gr 18 h l0 3).bind fun x2 =>
    (ald 1 h x2 l2).bind fun x3 =>
    (gr 18 h l1 3).bind fun x4 =>
    (ald 1 h x4 l2).bind fun x5 =>
    if w32 x3 = w32 x5 then (
      some (.inl (l2 + 1))
    ) else (
      some (.inr (.inr 0))
    )
  ) else (
    some (.inr (.inl ()))
  )

def M_X8_looksLike_w2 (n : Nat) (h : Hp) (l0 l1 l2 : Int) : Option Int :=
  (wh (S := Int) (T := (Unit ⊕ (Int))) (fun a => M_X8_looksLike_b2 h l0 l1 a) n l2).bind (fun z => exi z (fun b => M_X8_looksLike_p36 h) (fun q => some q))

def M_X8_looksLike (h : Hp) (l0 l1 : Int) : Option Int := tk 18 h l0 (
  M_X8_looksLike_w2 FU h l0 l1 0)

def M_X8_build_p80 (h : Hp) : Option Hp :=
  some h

def M_X8_build_p74 (h : Hp) (l0 l1 l2 l3 l4 l5 : Int) : Option ((Hp × Int) ⊕ Hp) :=
  some (.inl (h, l5 + 1))

def M_X8_build_b26 (h : Hp) (l0 l1 l2 l3 l4 l5 l6 : Int) : Option ((Hp × Int) ⊕ Hp) :=
  (gf 18 h l0 0).bind fun x1 =>
  if w32 l6 < w32 x1 then (
    (gr 18 h l0 3).bind fun x2 =>
    (M_X8_markFor h l0 l1 l2 l4 ((6 * l5) + l6) l3).bind fun x3 =>
    (ast 1 h x2 ((36 * l1) + ((6 * l5) + l6)) x3).bind fun h =>
    some (.inl (h, l6 + 1))
  ) else (
    some (.inr h)
  )

def M_X8_build_w26 (n : Nat) (h : Hp) (l0 l1 l2 l3 l4 l5 l6 : Int) : Option ((Hp × Int) ⊕ Hp) :=
  (wh (S := (Hp × Int)) (T := Hp) (fun a => M_X8_build_b26 a.1 l0 l1 l2 l3 l4 l5 a.2) n (h, l6)).bind (fun b => M_X8_build_p74 b l0 l1 l2 l3 l4 l5)

def M_X8_build_b14 (h : Hp) (l0 l1 l2 l3 l4 l5 : Int) : Option ((Hp × Int) ⊕ Hp) :=
  (gf 18 h l0 1).bind fun x4 =>
  if w32 l5 < w32 x4 then (
    M_X8_build_w26 FU h l0 l1 l2 l3 l4 l5 0
  ) else (
    some (.inr h)
  )

def M_X8_build_w14 (n : Nat) (h : Hp) (l0 l1 l2 l3 l4 l5 : Int) : Option Hp :=
  (wh (S := (Hp × Int)) (T := Hp) (fun a => M_X8_build_b14 a.1 l0 l1 l2 l3 l4 a.2) n (h, l5)).bind (fun b => M_X8_build_p80 b)

def M_X8_build (h : Hp) (l0 l1 l2 l3 : Int) : Option Hp := tk 18 h l0 (
  (gr 18 h l0 4).bind fun x5 =>
  (ald 1 h x5 l1).bind fun x6 =>
  M_X8_build_w14 FU h l0 l1 l2 l3 (36 * x6) 0)

def M_X8_goOn_p82 (h : Hp) : Option Hp :=
  some h

def M_X8_goOn_p76 (h : Hp) (l0 l1 l2 : Int) : Option ((Hp × Int) ⊕ Hp) :=
  some (.inl (h, l2 + 1))

def M_X8_goOn_p69 (h : Hp) (l0 l1 l2 l3 : Int) : Option ((Hp × Int) ⊕ Hp) :=
  (M_X8_build h l0 l2 l1 l3).bind fun h =>
  M_X8_goOn_p76 h l0 l1 l2

def M_X8_goOn_b17 (h : Hp) (l0 l1 l2 : Int) : Option ((Hp × Int) ⊕ Hp) :=
  (gf 18 h l0 2).bind fun x1 =>
  if w32 l2 < w32 x1 then (
    (gr 18 h l0 4).bind fun x2 =>
    (ald 1 h x2 l2).bind fun x3 =>
    if w32 x3 < 0 then (
      M_X8_goOn_p76 h l0 l1 l2
    ) else (
      (gr 18 h l0 5).bind fun x4 =>
      (ald 1 h x4 (4 * l2)).bind fun x5 =>
      if w32 x5 = 9 then (
        (gf 18 h l0 6).bind fun x6 =>
        (M_X8_nextSeed h x6).bind fun x7 =>
        (pf 18 h l0 6 x7).bind fun h =>
        (gf 18 h l0 6).bind fun x8 =>
        (M_X8_drawnPlace h l0 x8).bind fun x9 =>
        M_X8_goOn_p69 h l0 l1 l2 x9
      ) else (
        M_X8_goOn_p69 h l0 l1 l2 (-1)
      )
    )
  ) else (
    some (.inr h)
  )

def M_X8_goOn_w17 (n : Nat) (h : Hp) (l0 l1 l2 : Int) : Option Hp :=
  (wh (S := (Hp × Int)) (T := Hp) (fun a => M_X8_goOn_b17 a.1 l0 l1 a.2) n (h, l2)).bind (fun b => M_X8_goOn_p82 b)

def M_X8_goOn (h : Hp) (l0 l1 : Int) : Option Hp := tk 18 h l0 (
  (gr 18 h l0 3).bind fun x10 =>
  (gr 18 h l0 3).bind fun x11 =>
  (alen 1 h x11).bind fun x12 =>
  (cpy 1 h x10 0 l1 0 x12).bind fun h =>
  M_X8_goOn_w17 FU h l0 l1 0)

def M_X9_init (h : Hp) (l0 : Int) : Option Hp := tk 19 h l0 (
  nb (nw 1 900 0 h) h.2.2.2 fun h x1 =>
  rp x1 (pf 19 h l0 0 x1) fun h =>
  (pf 19 h l0 1 0).bind fun h =>
  nb (nwo 5 (dflt 5) h) h.2.2.2 fun h x2 =>
  (M_X5_init h x2).bind fun h =>
  rp x2 (pf 19 h l0 2 x2) fun h =>
  nb (nwo 5 (dflt 5) h) h.2.2.2 fun h x3 =>
  (M_X5_init h x3).bind fun h =>
  rp x3 (pf 19 h l0 3 x3) fun h =>
  nb (nwo 8 (dflt 8) h) h.2.2.2 fun h x4 =>
  (M_X8_init h x4).bind fun h =>
  rp x4 (pf 19 h l0 4 x4) fun h =>
  nb (nwo 8 (dflt 8) h) h.2.2.2 fun h x5 =>
  (M_X8_init h x5).bind fun h =>
  rp x5 (pf 19 h l0 5 x5) fun h =>
  nb (nwo 8 (dflt 8) h) h.2.2.2 fun h x6 =>
  (M_X8_init h x6).bind fun h =>
  rp x6 (pf 19 h l0 6 x6) fun h =>
  nb (nwo 3 (dflt 3) h) h.2.2.2 fun h x7 =>
  (M_X3_init h x7).bind fun h =>
  rp x7 (pf 19 h l0 7 x7) fun h =>
  nb (nwo 0 (dflt 0) h) h.2.2.2 fun h x8 =>
  (gr 19 h l0 4).bind fun x9 =>
  (M_X0_init h x8 x9).bind fun h =>
  rp x8 (pf 19 h l0 8 x8) fun h =>
  nb (nwo 6 (dflt 6) h) h.2.2.2 fun h x10 =>
  (gr 19 h l0 8).bind fun x11 =>
  (M_X6_init h x10 x11).bind fun h =>
  rp x10 (pf 19 h l0 9 x10) fun h =>
  nb (nwo 1 (dflt 1) h) h.2.2.2 fun h x12 =>
  (gr 19 h l0 8).bind fun x13 =>
  (M_X1_init h x12 x13).bind fun h =>
  rp x12 (pf 19 h l0 10 x12) fun h =>
  nb (nwo 2 (dflt 2) h) h.2.2.2 fun h x14 =>
  (M_X2_init h x14).bind fun h =>
  rp x14 (pf 19 h l0 11 x14) fun h =>
  nb (nw 1 36 0 h) h.2.2.2 fun h x15 =>
  rp x15 (pf 19 h l0 12 x15) fun h =>
  nb (nw 1 216 0 h) h.2.2.2 fun h x16 =>
  rp x16 (pf 19 h l0 13 x16) fun h =>
  (pf 19 h l0 14 0).bind fun h =>
  (pf 19 h l0 15 0).bind fun h =>
  (pf 19 h l0 16 (-1)).bind fun h =>
  some h)

def M_X9_append_p39 (h : Hp) : Option Hp :=
  some h

def M_X9_append_b3 (h : Hp) (l0 l1 l2 : Int) : Option ((Hp × Int) ⊕ Hp) :=
  if w32 l2 < 0 then (
    some (.inr h)
  ) else (
    (gr 19 h l0 0).bind fun x1 =>
    (gf 19 h l0 1).bind fun x2 =>
    (ast 1 h x1 x2 (iand (iushr l1 l2) 255)).bind fun h =>
    (gf 19 h l0 1).bind fun x3 =>
    (pf 19 h l0 1 (x3 + 1)).bind fun h =>
    some (.inl (h, l2 + (-8)))
  )

def M_X9_append_w3 (n : Nat) (h : Hp) (l0 l1 l2 : Int) : Option Hp :=
  (wh (S := (Hp × Int)) (T := Hp) (fun a => M_X9_append_b3 a.1 l0 l1 a.2) n (h, l2)).bind (fun b => M_X9_append_p39 b)

def M_X9_append (h : Hp) (l0 l1 : Int) : Option Hp := tk 19 h l0 (
  M_X9_append_w3 FU h l0 l1 24)

def M_X9_feed (h : Hp) (l0 l1 l2 l3 l4 l5 : Int) : Option (Hp × Int) := tk 19 h l0 (
  (gf 19 h l0 1).bind fun x1 =>
  if 900 < w32 (x1 + 20) then (
    some (h, (-1))
  ) else (
    (M_X9_append h l0 l1).bind fun h =>
    (M_X9_append h l0 l2).bind fun h =>
    (M_X9_append h l0 l3).bind fun h =>
    (M_X9_append h l0 l4).bind fun h =>
    (M_X9_append h l0 l5).bind fun h =>
    (gf 19 h l0 1).bind fun x2 =>
    some (h, x2)
  ))

def M_X9_refused (h : Hp) (l0 l1 : Int) : Option (Hp × Int) := tk 19 h l0 (
  (pf 19 h l0 14 l1).bind fun h =>
  some (h, (-1)))

def M_X9_answered (h : Hp) (l0 l1 : Int) : Option (Hp × Int) := tk 19 h l0 (
  (pf 19 h l0 14 0).bind fun h =>
  some (h, l1))

def M_X9_ring (h : Hp) (l0 l1 : Int) : Option (Hp × Int) := tk 19 h l0 (
  if w32 l1 < 0 then (
    bd (M_X9_refused h l0 2) fun h x1 =>
    some (h, x1)
  ) else (
    (gf 19 h l0 1).bind fun x2 =>
    if w32 x2 < w32 l1 then (
      bd (M_X9_refused h l0 2) fun h x20 =>
      some (h, x20)
    ) else (
      (pf 19 h l0 1 0).bind fun h =>
      nb (nwo 4 (dflt 4) h) h.2.2.2 fun h x3 =>
      (gr 19 h l0 0).bind fun x4 =>
      (gr 19 h l0 3).bind fun x5 =>
      (M_X4_init h x3 x4 l1 x5).bind fun h =>
      bd (M_X4_read h x3) fun h x6 =>
      (gf 14 h x3 0).bind fun x7 =>
      (pf 19 h l0 15 x7).bind fun h =>
      (gf 14 h x3 1).bind fun x8 =>
      (pf 19 h l0 16 x8).bind fun h =>
      if w32 x6 = 0 then (
        bd (M_X9_refused h l0 4) fun h x19 =>
        some (h, x19)
      ) else (
        (gr 19 h l0 2).bind fun x9 =>
        (gr 19 h l0 3).bind fun x10 =>
        rp x10 (pf 19 h l0 2 x10) fun h =>
        rp x9 (pf 19 h l0 3 x9) fun h =>
        (gr 19 h l0 4).bind fun x11 =>
        (gr 19 h l0 2).bind fun x12 =>
        (gr 15 h x12 1).bind fun x13 =>
        (M_X8_become h x11 x13).bind fun h =>
        (gr 19 h l0 7).bind fun x14 =>
        (M_X3_forgetAll h x14).bind fun h =>
        (gr 19 h l0 10).bind fun x15 =>
        (pz 11 h x15 1 0).bind fun h =>
        (gr 19 h l0 4).bind fun x16 =>
        (gf 18 h x16 2).bind fun x17 =>
        bd (M_X9_answered h l0 x17) fun h x18 =>
        some (h, x18)
      )
    )
  ))

def M_X9_fault (h : Hp) (l0 : Int) : Option Int := tk 19 h l0 (
  (gf 19 h l0 15).bind fun x1 =>
  some x1)

def M_X9_where (h : Hp) (l0 : Int) : Option Int := tk 19 h l0 (
  (gf 19 h l0 14).bind fun x1 =>
  if w32 x1 = 4 then (
    (gf 19 h l0 16).bind fun x2 =>
    some x2
  ) else (
    some (-1)
  ))

def M_X9_isTown (h : Hp) (l0 l1 : Int) : Option Int := tk 19 h l0 (
  if w32 l1 < 0 then (
    some 0
  ) else (
    (gr 19 h l0 4).bind fun x1 =>
    (gf 18 h x1 2).bind fun x2 =>
    if w32 l1 < w32 x2 then (
      some 1
    ) else (
      some 0
    )
  ))

def M_X9_copies (h : Hp) (l0 l1 : Int) : Option (Hp × Int) := tk 19 h l0 (
  (M_X9_isTown h l0 l1).bind fun x1 =>
  if w32 x1 = 0 then (
    bd (M_X9_refused h l0 1) fun h x6 =>
    some (h, x6)
  ) else (
    (gr 19 h l0 4).bind fun x2 =>
    (gr 18 h x2 4).bind fun x3 =>
    (ald 1 h x3 l1).bind fun x4 =>
    bd (M_X9_answered h l0 x4) fun h x5 =>
    some (h, x5)
  ))

def M_X9_error (h : Hp) (l0 l1 l2 : Int) : Option (Hp × Int) := tk 19 h l0 (
  (M_X9_isTown h l0 l1).bind fun x1 =>
  if w32 x1 = 0 then (
    bd (M_X9_refused h l0 1) fun h x2 =>
    some (h, x2)
  ) else (
    if w32 l2 < 0 then (
      bd (M_X9_refused h l0 1) fun h x3 =>
      some (h, x3)
    ) else (
      if w32 l2 < 4 then (
        (gr 19 h l0 4).bind fun x4 =>
        (gr 18 h x4 5).bind fun x5 =>
        (ald 1 h x5 ((4 * l1) + l2)).bind fun x6 =>
        bd (M_X9_answered h l0 x6) fun h x7 =>
        some (h, x7)
      ) else (
        bd (M_X9_refused h l0 1) fun h x8 =>
        some (h, x8)
      )
    )
  ))

def M_X9_isPlace (h : Hp) (l0 l1 : Int) : Option Int := tk 19 h l0 (
  if w32 l1 < 0 then (
    some 0
  ) else (
    (idv l1 10).bind fun x1 =>
    (gr 19 h l0 4).bind fun x2 =>
    (gf 18 h x2 0).bind fun x3 =>
    if w32 x1 < w32 x3 then (
      (irm l1 10).bind fun x4 =>
      (gr 19 h l0 4).bind fun x5 =>
      (gf 18 h x5 1).bind fun x6 =>
      if w32 x4 < w32 x6 then (
        some 1
      ) else (
        some 0
      )
    ) else (
      some 0
    )
  ))

def M_X9_inner (h : Hp) (l0 : Int) : Option Int :=
  (irm l0 10).bind fun x1 =>
  (idv l0 10).bind fun x2 =>
  some ((6 * x1) + x2)

def M_X9_cell (h : Hp) (l0 l1 l2 : Int) : Option (Hp × Int) := tk 19 h l0 (
  (M_X9_isTown h l0 l1).bind fun x1 =>
  if w32 x1 = 0 then (
    bd (M_X9_refused h l0 1) fun h x2 =>
    some (h, x2)
  ) else (
    (M_X9_isPlace h l0 l2).bind fun x3 =>
    if w32 x3 = 0 then (
      bd (M_X9_refused h l0 1) fun h x9 =>
      some (h, x9)
    ) else (
      (gr 19 h l0 4).bind fun x4 =>
      (gr 18 h x4 3).bind fun x5 =>
      (M_X9_inner h l2).bind fun x6 =>
      (ald 1 h x5 ((36 * l1) + x6)).bind fun x7 =>
      bd (M_X9_answered h l0 x7) fun h x8 =>
      some (h, x8)
    )
  ))

def M_X9_first (h : Hp) (l0 l1 l2 : Int) : Option (Hp × Int) := tk 19 h l0 (
  (M_X9_isTown h l0 l1).bind fun x1 =>
  if w32 x1 = 0 then (
    bd (M_X9_refused h l0 1) fun h x2 =>
    some (h, x2)
  ) else (
    (M_X9_isPlace h l0 l2).bind fun x3 =>
    if w32 x3 = 0 then (
      bd (M_X9_refused h l0 1) fun h x10 =>
      some (h, x10)
    ) else (
      (gr 19 h l0 2).bind fun x4 =>
      (gr 15 h x4 1).bind fun x5 =>
      (gr 18 h x5 3).bind fun x6 =>
      (M_X9_inner h l2).bind fun x7 =>
      (ald 1 h x6 ((36 * l1) + x7)).bind fun x8 =>
      bd (M_X9_answered h l0 x8) fun h x9 =>
      some (h, x9)
    )
  ))

def M_X9_isBehind (h : Hp) (l0 l1 : Int) : Option Int :=
  if w32 l0 < 0 then (
    some 0
  ) else (
    if w32 l1 < w32 l0 then (
      some 0
    ) else (
      some 1
    )
  )

def M_X9_after (h : Hp) (l0 l1 l2 l3 : Int) : Option (Hp × Int) := tk 19 h l0 (
  (M_X9_isTown h l0 l1).bind fun x1 =>
  if w32 x1 = 0 then (
    bd (M_X9_refused h l0 1) fun h x2 =>
    some (h, x2)
  ) else (
    (M_X9_isPlace h l0 l2).bind fun x3 =>
    if w32 x3 = 0 then (
      bd (M_X9_refused h l0 1) fun h x11 =>
      some (h, x11)
    ) else (
      (M_X9_isBehind h l3 60).bind fun x4 =>
      if w32 x4 = 0 then (
        bd (M_X9_refused h l0 2) fun h x10 =>
        some (h, x10)
      ) else (
        (gr 19 h l0 8).bind fun x5 =>
        (gr 19 h l0 4).bind fun x6 =>
        (M_X9_inner h l2).bind fun x7 =>
        bd (M_X0_markBehind h x5 x6 l1 x7 l3) fun h x8 =>
        bd (M_X9_answered h l0 x8) fun h x9 =>
        some (h, x9)
      )
    )
  ))

def M_X9_isMark (h : Hp) (l0 l1 : Int) : Option Int := tk 19 h l0 (
  if w32 l1 < 0 then (
    some 0
  ) else (
    (gr 19 h l0 2).bind fun x1 =>
    (gf 15 h x1 0).bind fun x2 =>
    if w32 l1 < w32 x2 then (
      some 1
    ) else (
      some 0
    )
  ))

def M_X9_many_p99 (h : Hp) (l0 l4 : Int) : Option (Hp × Int) :=
  bd (M_X9_answered h l0 l4) fun h x1 =>
  some (h, x1)

def M_X9_many_p93 (h : Hp) (l0 l2 l4 l5 : Int) : Option ((Int × Int) ⊕ Int) :=
  some (.inl (l4, l5 + 1))

def M_X9_many_b60 (h : Hp) (l0 l2 l4 l5 : Int) : Option ((Int × Int) ⊕ Int) :=
  if w32 l5 < 36 then (
    (gr 19 h l0 4).bind fun x2 =>
    (M_X8_holds h x2 l5).bind fun x3 =>
    if w32 x3 = 0 then (
      M_X9_many_p93 h l0 l2 l4 l5
    ) else (
      (gr 19 h l0 12).bind fun x4 =>
      (ald 1 h x4 l5).bind fun x5 =>
      if w32 x5 = w32 l2 then (
        M_X9_many_p93 h l0 l2 (l4 + 1) l5
      ) else (
        M_X9_many_p93 h l0 l2 l4 l5
      )
    )
  ) else (
    some (.inr l4)
  )

def M_X9_many_w60 (n : Nat) (h : Hp) (l0 l2 l4 l5 : Int) : Option (Hp × Int) :=
  (wh (S := (Int × Int)) (T := Int) (fun a => M_X9_many_b60 h l0 l2 a.1 a.2) n (l4, l5)).bind (fun b => M_X9_many_p99 h l0 b)

def M_X9_many (h : Hp) (l0 l1 l2 l3 : Int) : Option (Hp × Int) := tk 19 h l0 (
  (M_X9_isTown h l0 l1).bind fun x6 =>
  if w32 x6 = 0 then (
    bd (M_X9_refused h l0 1) fun h x7 =>
    some (h, x7)
  ) else (
    (M_X9_isMark h l0 l2).bind fun x8 =>
    if w32 x8 = 0 then (
      bd (M_X9_refused h l0 1) fun h x14 =>
      some (h, x14)
    ) else (
      (M_X9_isBehind h l3 60).bind fun x9 =>
      if w32 x9 = 0 then (
        bd (M_X9_refused h l0 2) fun h x13 =>
        some (h, x13)
      ) else (
        (gr 19 h l0 8).bind fun x10 =>
        (gr 19 h l0 4).bind fun x11 =>
        (gr 19 h l0 12).bind fun x12 =>
        (M_X0_mapBehind h x10 x11 l1 l3 x12).bind fun h =>
        M_X9_many_w60 FU h l0 l2 0 0
      )
    )
  ))

def M_X9_likeOnes_p49 (h : Hp) (l3 : Int) : Option Int :=
  some l3

def M_X9_likeOnes_p43 (h : Hp) (l0 l1 l2 l3 l4 : Int) : Option ((Int × Int) ⊕ Int) :=
  some (.inl (l3, l4 + 1))

def M_X9_likeOnes_b5 (h : Hp) (l0 l1 l2 l3 l4 : Int) : Option ((Int × Int) ⊕ Int) :=
  if w32 l4 < 36 then (
    (gr 19 h l0 4).bind fun x1 =>
    (M_X8_holds h x1 l4).bind fun x2 =>
    if w32 x2 = 0 then (
      M_X9_likeOnes_p43 h l0 l1 l2 l3 l4
    ) else (
      (gr 19 h l0 12).bind fun x3 =>
      (ald 1 h x3 l4).bind fun x4 =>
      (ald 1 h l1 (l2 + l4)).bind fun x5 =>
      if w32 x4 = w32 x5 then (
        M_X9_likeOnes_p43 h l0 l1 l2 (l3 + 1) l4
      ) else (
        M_X9_likeOnes_p43 h l0 l1 l2 l3 l4
      )
    )
  ) else (
    some (.inr l3)
  )

def M_X9_likeOnes_w5 (n : Nat) (h : Hp) (l0 l1 l2 l3 l4 : Int) : Option Int :=
  (wh (S := (Int × Int)) (T := Int) (fun a => M_X9_likeOnes_b5 h l0 l1 l2 a.1 a.2) n (l3, l4)).bind (fun b => M_X9_likeOnes_p49 h b)

def M_X9_likeOnes (h : Hp) (l0 l1 l2 : Int) : Option Int := tk 19 h l0 (
  M_X9_likeOnes_w5 FU h l0 l1 l2 0 0)

def M_X9_unlike (h : Hp) (l0 l1 l2 l3 : Int) : Option (Hp × Int) := tk 19 h l0 (
  (M_X9_isTown h l0 l1).bind fun x1 =>
  if w32 x1 = 0 then (
    bd (M_X9_refused h l0 1) fun h x2 =>
    some (h, x2)
  ) else (
    (M_X9_isTown h l0 l2).bind fun x3 =>
    if w32 x3 = 0 then (
      bd (M_X9_refused h l0 1) fun h x19 =>
      some (h, x19)
    ) else (
      (M_X9_isBehind h l3 60).bind fun x4 =>
      if w32 x4 = 0 then (
        bd (M_X9_refused h l0 2) fun h x18 =>
        some (h, x18)
      ) else (
        (gr 19 h l0 8).bind fun x5 =>
        (gr 19 h l0 4).bind fun x6 =>
        (gr 19 h l0 12).bind fun x7 =>
        (M_X0_mapBehind h x5 x6 l1 l3 x7).bind fun h =>
        (gr 19 h l0 8).bind fun x8 =>
        (gr 19 h l0 4).bind fun x9 =>
        (gr 19 h l0 11).bind fun x10 =>
        (gr 12 h x10 0).bind fun x11 =>
        (M_X0_mapBehind h x8 x9 l2 l3 x11).bind fun h =>
        (gr 19 h l0 4).bind fun x12 =>
        (M_X8_places h x12).bind fun x13 =>
        (gr 19 h l0 11).bind fun x14 =>
        (gr 12 h x14 0).bind fun x15 =>
        (M_X9_likeOnes h l0 x15 0).bind fun x16 =>
        bd (M_X9_answered h l0 (x13 - x16)) fun h x17 =>
        some (h, x17)
      )
    )
  ))

def M_X9_trueOnes (h : Hp) (l0 l1 l2 : Int) : Option (Hp × Int) := tk 19 h l0 (
  (M_X9_isTown h l0 l1).bind fun x1 =>
  if w32 x1 = 0 then (
    bd (M_X9_refused h l0 1) fun h x12 =>
    some (h, x12)
  ) else (
    (M_X9_isBehind h l2 60).bind fun x2 =>
    if w32 x2 = 0 then (
      bd (M_X9_refused h l0 2) fun h x11 =>
      some (h, x11)
    ) else (
      (gr 19 h l0 8).bind fun x3 =>
      (gr 19 h l0 4).bind fun x4 =>
      (gr 19 h l0 12).bind fun x5 =>
      (M_X0_mapBehind h x3 x4 l1 l2 x5).bind fun h =>
      (gr 19 h l0 2).bind fun x6 =>
      (gr 15 h x6 1).bind fun x7 =>
      (gr 18 h x7 3).bind fun x8 =>
      (M_X9_likeOnes h l0 x8 (36 * l1)).bind fun x9 =>
      bd (M_X9_answered h l0 x9) fun h x10 =>
      some (h, x10)
    )
  ))

def M_X9_when_p100 (h : Hp) (l0 : Int) : Option (Hp × Int) :=
  bd (M_X9_answered h l0 (-2)) fun h x1 =>
  some (h, x1)

def M_X9_when_b55 (h : Hp) (l0 l3 l4 l5 : Int) : Option ((Hp × Int) ⊕ (Hp ⊕ (Hp × Int))) :=
  if 60 < w32 l5 then (
    some (.inr (.inl h))
  ) else (
    (gr 19 h l0 5).bind fun x2 =>
    (gr 18 h x2 3).bind fun x3 =>
    (ald 1 h x3 l4).bind fun x4 =>
    if w32 x4 = w32 l3 then (
      bd (M_X9_answered h l0 l5) fun h x7 =>
      some (.inr (.inr (h, x7)))
    ) else (
      (gr 19 h l0 5).bind fun x5 =>
      (gr 19 h l0 13).bind fun x6 =>
      (M_X8_goOn h x5 x6).bind fun h =>
      some (.inl (h, l5 + 1))
    )
  )

def M_X9_when_w55 (n : Nat) (h : Hp) (l0 l3 l4 l5 : Int) : Option (Hp × Int) :=
  (wh (S := (Hp × Int)) (T := (Hp ⊕ (Hp × Int))) (fun a => M_X9_when_b55 a.1 l0 l3 l4 a.2) n (h, l5)).bind (fun z => exi z (fun b => M_X9_when_p100 b l0) (fun q => some q))

def M_X9_when (h : Hp) (l0 l1 l2 l3 : Int) : Option (Hp × Int) := tk 19 h l0 (
  (M_X9_isTown h l0 l1).bind fun x8 =>
  if w32 x8 = 0 then (
    bd (M_X9_refused h l0 1) fun h x9 =>
    some (h, x9)
  ) else (
    (M_X9_isPlace h l0 l2).bind fun x10 =>
    if w32 x10 = 0 then (
      bd (M_X9_refused h l0 1) fun h x11 =>
      some (h, x11)
    ) else (
      (M_X9_isMark h l0 l3).bind fun x12 =>
      if w32 x12 = 0 then (
        bd (M_X9_refused h l0 1) fun h x16 =>
        some (h, x16)
      ) else (
        (gr 19 h l0 5).bind fun x13 =>
        (gr 19 h l0 4).bind fun x14 =>
        (M_X8_become h x13 x14).bind fun h =>
        (M_X9_inner h l2).bind fun x15 =>
        M_X9_when_w55 FU h l0 l3 ((36 * l1) + x15) 0
      )
    )
  ))

def M_X9_surveyBehind (h : Hp) (l0 l1 l2 l3 : Int) : Option Hp := tk 19 h l0 (
  (gr 19 h l0 8).bind fun x1 =>
  (gr 19 h l0 4).bind fun x2 =>
  (gr 19 h l0 11).bind fun x3 =>
  (gr 12 h x3 0).bind fun x4 =>
  (M_X0_mapBehind h x1 x2 l1 l3 x4).bind fun h =>
  (gr 19 h l0 11).bind fun x5 =>
  (gr 19 h l0 4).bind fun x6 =>
  (M_X2_survey h x5 x6 l2).bind fun h =>
  some h)

def M_X9_areas (h : Hp) (l0 l1 l2 l3 : Int) : Option (Hp × Int) := tk 19 h l0 (
  (M_X9_isTown h l0 l1).bind fun x1 =>
  if w32 x1 = 0 then (
    bd (M_X9_refused h l0 1) fun h x2 =>
    some (h, x2)
  ) else (
    (M_X9_isMark h l0 l2).bind fun x3 =>
    if w32 x3 = 0 then (
      bd (M_X9_refused h l0 1) fun h x9 =>
      some (h, x9)
    ) else (
      (M_X9_isBehind h l3 60).bind fun x4 =>
      if w32 x4 = 0 then (
        bd (M_X9_refused h l0 2) fun h x8 =>
        some (h, x8)
      ) else (
        (M_X9_surveyBehind h l0 l1 l2 l3).bind fun h =>
        (gr 19 h l0 11).bind fun x5 =>
        (gf 12 h x5 1).bind fun x6 =>
        bd (M_X9_answered h l0 x6) fun h x7 =>
        some (h, x7)
      )
    )
  ))

def M_X9_largest (h : Hp) (l0 l1 l2 l3 : Int) : Option (Hp × Int) := tk 19 h l0 (
  (M_X9_isTown h l0 l1).bind fun x1 =>
  if w32 x1 = 0 then (
    bd (M_X9_refused h l0 1) fun h x2 =>
    some (h, x2)
  ) else (
    (M_X9_isMark h l0 l2).bind fun x3 =>
    if w32 x3 = 0 then (
      bd (M_X9_refused h l0 1) fun h x9 =>
      some (h, x9)
    ) else (
      (M_X9_isBehind h l3 60).bind fun x4 =>
      if w32 x4 = 0 then (
        bd (M_X9_refused h l0 2) fun h x8 =>
        some (h, x8)
      ) else (
        (M_X9_surveyBehind h l0 l1 l2 l3).bind fun h =>
        (gr 19 h l0 11).bind fun x5 =>
        (gf 12 h x5 2).bind fun x6 =>
        bd (M_X9_answered h l0 x6) fun h x7 =>
        some (h, x7)
      )
    )
  ))

def M_X9_commonDivisor_p45 (h : Hp) (l4 : Int) : Option Int :=
  if 0 < w32 (lcmp l4 0) then (
    some l4
  ) else (
    some 1
  )

def M_X9_commonDivisor_b9 (h : Hp) (l4 l6 l8 : Int) : Option ((Int × Int × Int) ⊕ Int) :=
  if w32 l8 < 200 then (
    if 0 < w32 (lcmp l6 0) then (
      (lrm l4 l6).bind fun x1 =>
      some (.inl (l6, x1, l8 + 1))
    ) else (
      some (.inr l4)
    )
  ) else (
    some (.inr l4)
  )

def M_X9_commonDivisor_w9 (n : Nat) (h : Hp) (l4 l6 l8 : Int) : Option Int :=
  (wh (S := (Int × Int × Int)) (T := Int) (fun a => M_X9_commonDivisor_b9 h a.1 a.2.1 a.2.2) n (l4, l6, l8)).bind (fun b => M_X9_commonDivisor_p45 h b)

def M_X9_commonDivisor (h : Hp) (l0 l2 : Int) : Option Int :=
  M_X9_commonDivisor_w9 FU h l0 l2 0

def M_X9_scale_p116 (h : Hp) (l0 l3 l4 l6 : Int) : Option (Hp × Int) :=
  (M_X9_commonDivisor h l4 l6).bind fun x1 =>
  bd (M_X9_answered h l0 0) fun h x2 =>
  if w32 l3 = 0 then (
    (ldv l4 x1).bind fun x3 =>
    some (h, x3)
  ) else (
    (ldv l6 x1).bind fun x4 =>
    some (h, x4)
  )

def M_X9_scale_p98 (h : Hp) (l0 l3 l4 l6 l8 l9 : Int) : Option ((Int × Int × Int × Int) ⊕ (Int × Int)) :=
  (gr 19 h l0 4).bind fun x5 =>
  (gr 18 h x5 4).bind fun x6 =>
  (ald 1 h x6 l8).bind fun x7 =>
  some (.inl (l4, l6, x7, l9 + (-1)))

def M_X9_scale_b43 (h : Hp) (l0 l3 l4 l6 l8 l9 : Int) : Option ((Int × Int × Int × Int) ⊕ (Int × Int)) :=
  if 0 < w32 l9 then (
    if w32 l8 < 0 then (
      some (.inr (l4, l6))
    ) else (
      (gr 19 h l0 4).bind fun x8 =>
      (gr 18 h x8 5).bind fun x9 =>
      (ald 1 h x9 (4 * l8)).bind fun x10 =>
      if w32 x10 = 8 then (
        (gr 19 h l0 4).bind fun x11 =>
        (gr 18 h x11 5).bind fun x12 =>
        (ald 1 h x12 ((4 * l8) + 1)).bind fun x13 =>
        M_X9_scale_p98 h l0 l3 (l4 * (w32 x13)) (l6 * 10) l8 l9
      ) else (
        M_X9_scale_p98 h l0 l3 l4 l6 l8 l9
      )
    )
  ) else (
    some (.inr (l4, l6))
  )

def M_X9_scale_w43 (n : Nat) (h : Hp) (l0 l3 l4 l6 l8 l9 : Int) : Option (Hp × Int) :=
  (wh (S := (Int × Int × Int × Int)) (T := (Int × Int)) (fun a => M_X9_scale_b43 h l0 l3 a.1 a.2.1 a.2.2.1 a.2.2.2) n (l4, l6, l8, l9)).bind (fun b => M_X9_scale_p116 h l0 l3 b.1 b.2)

def M_X9_scale (h : Hp) (l0 l1 l2 l3 : Int) : Option (Hp × Int) := tk 19 h l0 (
  (M_X9_isTown h l0 l1).bind fun x14 =>
  if w32 x14 = 0 then (
    bd (M_X9_refused h l0 1) fun h x17 =>
    some (h, w32 x17)
  ) else (
    (M_X9_isBehind h l2 12).bind fun x15 =>
    if w32 x15 = 0 then (
      bd (M_X9_refused h l0 2) fun h x16 =>
      some (h, w32 x16)
    ) else (
      M_X9_scale_w43 FU h l0 l3 1 1 l1 l2
    )
  ))

def M_X9_roundLength_p93 (h : Hp) : Option (Hp × Int) :=
  some (h, 0)

def M_X9_roundLength_p87 (h : Hp) (l0 l1 l2 l3 : Int) : Option ((Hp × Int × Int × Int) ⊕ (Hp ⊕ (Hp × Int))) :=
  some (.inl (h, l1, l2, l3 + 1))

def M_X9_roundLength_b28 (h : Hp) (l0 l1 l2 l3 : Int) : Option ((Hp × Int × Int × Int) ⊕ (Hp ⊕ (Hp × Int))) :=
  if w32 l3 < 1000 then (
    (gr 19 h l0 6).bind fun x1 =>
    (gr 19 h l0 13).bind fun x2 =>
    (M_X8_goOn h x1 x2).bind fun h =>
    (gr 19 h l0 6).bind fun x3 =>
    (gr 19 h l0 5).bind fun x4 =>
    (M_X8_looksLike h x3 x4).bind fun x5 =>
    if w32 x5 = 0 then (
      if w32 (l1 + 1) = w32 l2 then (
        (gr 19 h l0 5).bind fun x6 =>
        (gr 19 h l0 6).bind fun x7 =>
        (M_X8_become h x6 x7).bind fun h =>
        M_X9_roundLength_p87 h l0 0 (l2 * 2) l3
      ) else (
        M_X9_roundLength_p87 h l0 (l1 + 1) l2 l3
      )
    ) else (
      some (.inr (.inr (h, l1 + 1)))
    )
  ) else (
    some (.inr (.inl h))
  )

def M_X9_roundLength_w28 (n : Nat) (h : Hp) (l0 l1 l2 l3 : Int) : Option (Hp × Int) :=
  (wh (S := (Hp × Int × Int × Int)) (T := (Hp ⊕ (Hp × Int))) (fun a => M_X9_roundLength_b28 a.1 l0 a.2.1 a.2.2.1 a.2.2.2) n (h, l1, l2, l3)).bind (fun z => exi z (fun b => M_X9_roundLength_p93 b) (fun q => some q))

def M_X9_roundLength (h : Hp) (l0 : Int) : Option (Hp × Int) := tk 19 h l0 (
  (gr 19 h l0 5).bind fun x8 =>
  (gr 19 h l0 4).bind fun x9 =>
  (M_X8_become h x8 x9).bind fun h =>
  (gr 19 h l0 6).bind fun x10 =>
  (gr 19 h l0 4).bind fun x11 =>
  (M_X8_become h x10 x11).bind fun h =>
  M_X9_roundLength_w28 FU h l0 0 1 0)

def M_X9_roundBegin_p99 (h : Hp) : Option (Hp × Int) :=
  some (h, 401)

def M_X9_roundBegin_b48 (h : Hp) (l0 l2 : Int) : Option ((Hp × Int) ⊕ (Hp ⊕ (Hp × Int))) :=
  if 400 < w32 l2 then (
    some (.inr (.inl h))
  ) else (
    (gr 19 h l0 6).bind fun x1 =>
    (gr 19 h l0 5).bind fun x2 =>
    (M_X8_looksLike h x1 x2).bind fun x3 =>
    if w32 x3 = 0 then (
      (gr 19 h l0 5).bind fun x4 =>
      (gr 19 h l0 13).bind fun x5 =>
      (M_X8_goOn h x4 x5).bind fun h =>
      (gr 19 h l0 6).bind fun x6 =>
      (gr 19 h l0 13).bind fun x7 =>
      (M_X8_goOn h x6 x7).bind fun h =>
      some (.inl (h, l2 + 1))
    ) else (
      some (.inr (.inr (h, l2)))
    )
  )

def M_X9_roundBegin_w48 (n : Nat) (h : Hp) (l0 l2 : Int) : Option (Hp × Int) :=
  (wh (S := (Hp × Int)) (T := (Hp ⊕ (Hp × Int))) (fun a => M_X9_roundBegin_b48 a.1 l0 a.2) n (h, l2)).bind (fun z => exi z (fun b => M_X9_roundBegin_p99 b) (fun q => some q))

def M_X9_roundBegin_p46 (h : Hp) (l0 : Int) : Option (Hp × Int) :=
  M_X9_roundBegin_w48 FU h l0 0

def M_X9_roundBegin_b24 (h : Hp) (l0 l1 l2 : Int) : Option ((Hp × Int) ⊕ Hp) :=
  if w32 l2 < w32 l1 then (
    (gr 19 h l0 6).bind fun x8 =>
    (gr 19 h l0 13).bind fun x9 =>
    (M_X8_goOn h x8 x9).bind fun h =>
    some (.inl (h, l2 + 1))
  ) else (
    some (.inr h)
  )

def M_X9_roundBegin_w24 (n : Nat) (h : Hp) (l0 l1 l2 : Int) : Option (Hp × Int) :=
  (wh (S := (Hp × Int)) (T := Hp) (fun a => M_X9_roundBegin_b24 a.1 l0 l1 a.2) n (h, l2)).bind (fun b => M_X9_roundBegin_p46 b l0)

def M_X9_roundBegin (h : Hp) (l0 l1 : Int) : Option (Hp × Int) := tk 19 h l0 (
  (gr 19 h l0 5).bind fun x10 =>
  (gr 19 h l0 4).bind fun x11 =>
  (M_X8_become h x10 x11).bind fun h =>
  (gr 19 h l0 6).bind fun x12 =>
  (gr 19 h l0 4).bind fun x13 =>
  (M_X8_become h x12 x13).bind fun h =>
  M_X9_roundBegin_w24 FU h l0 l1 0)

def M_X9_round_p51 (h : Hp) (l0 l1 l2 : Int) (s0 : Int) : Option (Hp × Int) :=
  if w32 l2 = 0 then (
    bd (M_X9_answered h l0 (-2)) fun h x1 =>
    some (h, x1)
  ) else (
    if 400 < w32 (s0 + l2) then (
      bd (M_X9_answered h l0 (-2)) fun h x4 =>
      some (h, x4)
    ) else (
      if w32 l1 = 0 then (
        bd (M_X9_answered h l0 l2) fun h x2 =>
        some (h, x2)
      ) else (
        bd (M_X9_answered h l0 s0) fun h x3 =>
        some (h, x3)
      )
    )
  )

def M_X9_round (h : Hp) (l0 l1 : Int) : Option (Hp × Int) := tk 19 h l0 (
  (gr 19 h l0 4).bind fun x5 =>
  (gf 18 h x5 2).bind fun x6 =>
  if w32 x6 = 0 then (
    bd (M_X9_refused h l0 1) fun h x12 =>
    some (h, x12)
  ) else (
    (gr 19 h l0 4).bind fun x7 =>
    (M_X8_sneezes h x7).bind fun x8 =>
    if w32 x8 = 0 then (
      bd (M_X9_roundLength h l0) fun h x9 =>
      if w32 x9 = 0 then (
        M_X9_round_p51 h l0 l1 x9 0
      ) else (
        bd (M_X9_roundBegin h l0 x9) fun h x10 =>
        M_X9_round_p51 h l0 l1 x9 x10
      )
    ) else (
      bd (M_X9_refused h l0 6) fun h x11 =>
      some (h, x11)
    )
  ))

def M_X9_outer (h : Hp) (l0 : Int) : Option Int :=
  (irm l0 6).bind fun x1 =>
  (idv l0 6).bind fun x2 =>
  some ((10 * x1) + x2)

def M_X9_origin (h : Hp) (l0 l1 l2 l3 : Int) : Option (Hp × Int) := tk 19 h l0 (
  (M_X9_isTown h l0 l1).bind fun x1 =>
  if w32 x1 = 0 then (
    bd (M_X9_refused h l0 1) fun h x2 =>
    some (h, x2)
  ) else (
    (M_X9_isPlace h l0 l2).bind fun x3 =>
    if w32 x3 = 0 then (
      bd (M_X9_refused h l0 1) fun h x18 =>
      some (h, x18)
    ) else (
      (M_X9_isBehind h l3 60).bind fun x4 =>
      if w32 x4 = 0 then (
        bd (M_X9_refused h l0 2) fun h x17 =>
        some (h, x17)
      ) else (
        (gr 19 h l0 8).bind fun x5 =>
        (gr 19 h l0 4).bind fun x6 =>
        (M_X9_inner h l2).bind fun x7 =>
        bd (M_X0_markBehind h x5 x6 l1 x7 l3) fun h x8 =>
        (gr 19 h l0 8).bind fun x9 =>
        (M_X9_inner h l2).bind fun x10 =>
        (M_X0_sourceOf h x9 x10).bind fun x11 =>
        if w32 x11 = (-1) then (
          bd (M_X9_answered h l0 (-2)) fun h x16 =>
          some (h, x16)
        ) else (
          (gr 19 h l0 8).bind fun x12 =>
          (M_X0_beginTown h x12).bind fun x13 =>
          (M_X9_outer h x11).bind fun x14 =>
          bd (M_X9_answered h l0 ((100 * x13) + x14)) fun h x15 =>
          some (h, x15)
        )
      )
    )
  ))

def M_X9_blame_p146 (h : Hp) (l0 l5 : Int) : Option (Hp × Int) :=
  bd (M_X9_answered h l0 l5) fun h x1 =>
  some (h, x1)

def M_X9_blame_p140 (h : Hp) (l0 l1 l2 l3 l4 l5 l6 : Int) : Option ((Hp × Int × Int) ⊕ (Hp × Int)) :=
  some (.inl (h, l5, l6 + 1))

def M_X9_blame_b62 (h : Hp) (l0 l1 l2 l3 l4 l5 l6 : Int) : Option ((Hp × Int × Int) ⊕ (Hp × Int)) :=
  (gr 19 h l0 4).bind fun x2 =>
  (gf 18 h x2 2).bind fun x3 =>
  if w32 l6 < w32 x3 then (
    (gr 19 h l0 4).bind fun x4 =>
    (gr 18 h x4 5).bind fun x5 =>
    (ald 1 h x5 (4 * l6)).bind fun x6 =>
    if w32 x6 = 0 then (
      M_X9_blame_p140 h l0 l1 l2 l3 l4 l5 l6
    ) else (
      (gr 19 h l0 5).bind fun x7 =>
      (gr 19 h l0 4).bind fun x8 =>
      (M_X8_become h x7 x8).bind fun h =>
      (gr 19 h l0 5).bind fun x9 =>
      (M_X8_makeTrue h x9 l6).bind fun h =>
      (gr 19 h l0 8).bind fun x10 =>
      (gr 19 h l0 5).bind fun x11 =>
      (M_X9_inner h l2).bind fun x12 =>
      bd (M_X0_markBehind h x10 x11 l1 x12 l3) fun h x13 =>
      if w32 x13 = w32 l4 then (
        M_X9_blame_p140 h l0 l1 l2 l3 l4 l5 l6
      ) else (
        M_X9_blame_p140 h l0 l1 l2 l3 l4 (ior l5 (ishl 1 l6)) l6
      )
    )
  ) else (
    some (.inr (h, l5))
  )

def M_X9_blame_w62 (n : Nat) (h : Hp) (l0 l1 l2 l3 l4 l5 l6 : Int) : Option (Hp × Int) :=
  (wh (S := (Hp × Int × Int)) (T := (Hp × Int)) (fun a => M_X9_blame_b62 a.1 l0 l1 l2 l3 l4 a.2.1 a.2.2) n (h, l5, l6)).bind (fun b => M_X9_blame_p146 b.1 l0 b.2)

def M_X9_blame (h : Hp) (l0 l1 l2 l3 : Int) : Option (Hp × Int) := tk 19 h l0 (
  (M_X9_isTown h l0 l1).bind fun x14 =>
  if w32 x14 = 0 then (
    bd (M_X9_refused h l0 1) fun h x15 =>
    some (h, x15)
  ) else (
    (M_X9_isPlace h l0 l2).bind fun x16 =>
    if w32 x16 = 0 then (
      bd (M_X9_refused h l0 1) fun h x23 =>
      some (h, x23)
    ) else (
      (M_X9_isBehind h l3 60).bind fun x17 =>
      if w32 x17 = 0 then (
        bd (M_X9_refused h l0 2) fun h x22 =>
        some (h, x22)
      ) else (
        (gr 19 h l0 8).bind fun x18 =>
        (gr 19 h l0 4).bind fun x19 =>
        (M_X9_inner h l2).bind fun x20 =>
        bd (M_X0_markBehind h x18 x19 l1 x20 l3) fun h x21 =>
        M_X9_blame_w62 FU h l0 l1 l2 l3 x21 0 0
      )
    )
  ))

def M_X9_loop_p63 (h : Hp) (l0 : Int) : Option (Hp × Int) :=
  bd (M_X9_answered h l0 0) fun h x1 =>
  some (h, x1)

def M_X9_loop_b26 (h : Hp) (l0 l1 l2 l3 : Int) : Option ((Int × Int) ⊕ (Unit ⊕ (Hp × Int))) :=
  if 6 < w32 l3 then (
    some (.inr (.inl ()))
  ) else (
    if w32 l2 < 0 then (
      some (.inr (.inl ()))
    ) else (
      if w32 l2 = w32 l1 then (
        bd (M_X9_answered h l0 l3) fun h x5 =>
        some (.inr (.inr (h, x5)))
      ) else (
        (gr 19 h l0 4).bind fun x2 =>
        (gr 18 h x2 4).bind fun x3 =>
        (ald 1 h x3 l2).bind fun x4 =>
        some (.inl (x4, l3 + 1))
      )
    )
  )

def M_X9_loop_w26 (n : Nat) (h : Hp) (l0 l1 l2 l3 : Int) : Option (Hp × Int) :=
  (wh (S := (Int × Int)) (T := (Unit ⊕ (Hp × Int))) (fun a => M_X9_loop_b26 h l0 l1 a.1 a.2) n (l2, l3)).bind (fun z => exi z (fun b => M_X9_loop_p63 h l0) (fun q => some q))

def M_X9_loop (h : Hp) (l0 l1 : Int) : Option (Hp × Int) := tk 19 h l0 (
  (M_X9_isTown h l0 l1).bind fun x6 =>
  if w32 x6 = 0 then (
    bd (M_X9_refused h l0 1) fun h x10 =>
    some (h, x10)
  ) else (
    (gr 19 h l0 4).bind fun x7 =>
    (gr 18 h x7 4).bind fun x8 =>
    (ald 1 h x8 l1).bind fun x9 =>
    M_X9_loop_w26 FU h l0 l1 x9 1
  ))

def M_X9_depth_p58 (h : Hp) (l0 : Int) : Option (Hp × Int) :=
  bd (M_X9_answered h l0 (-2)) fun h x1 =>
  some (h, x1)

def M_X9_depth_b18 (h : Hp) (l0 l2 l3 : Int) : Option ((Int × Int) ⊕ (Unit ⊕ (Hp × Int))) :=
  if w32 l3 < 6 then (
    (gr 19 h l0 4).bind fun x2 =>
    (gr 18 h x2 4).bind fun x3 =>
    (ald 1 h x3 l2).bind fun x4 =>
    if w32 x4 < 0 then (
      bd (M_X9_answered h l0 l3) fun h x8 =>
      some (.inr (.inr (h, x8)))
    ) else (
      (gr 19 h l0 4).bind fun x5 =>
      (gr 18 h x5 4).bind fun x6 =>
      (ald 1 h x6 l2).bind fun x7 =>
      some (.inl (x7, l3 + 1))
    )
  ) else (
    some (.inr (.inl ()))
  )

def M_X9_depth_w18 (n : Nat) (h : Hp) (l0 l2 l3 : Int) : Option (Hp × Int) :=
  (wh (S := (Int × Int)) (T := (Unit ⊕ (Hp × Int))) (fun a => M_X9_depth_b18 h l0 a.1 a.2) n (l2, l3)).bind (fun z => exi z (fun b => M_X9_depth_p58 h l0) (fun q => some q))

def M_X9_depth (h : Hp) (l0 l1 : Int) : Option (Hp × Int) := tk 19 h l0 (
  (M_X9_isTown h l0 l1).bind fun x9 =>
  if w32 x9 = 0 then (
    bd (M_X9_refused h l0 1) fun h x10 =>
    some (h, x10)
  ) else (
    M_X9_depth_w18 FU h l0 l1 0
  ))

def M_X9_strokeRefusal (h : Hp) (l0 l1 l2 l3 l4 l5 l6 : Int) : Option Int := tk 19 h l0 (
  (M_X9_isTown h l0 l1).bind fun x1 =>
  if w32 x1 = 0 then (
    some 1
  ) else (
    (M_X9_isMark h l0 l2).bind fun x2 =>
    if w32 x2 = 0 then (
      some 1
    ) else (
      (M_X9_isTown h l0 l3).bind fun x3 =>
      if w32 x3 = 0 then (
        some 1
      ) else (
        (M_X9_isPlace h l0 l4).bind fun x4 =>
        if w32 x4 = 0 then (
          some 1
        ) else (
          (M_X9_isMark h l0 l5).bind fun x5 =>
          if w32 x5 = 0 then (
            some 1
          ) else (
            (M_X9_isBehind h l6 12).bind fun x6 =>
            if w32 x6 = 0 then (
              some 2
            ) else (
              some 0
            )
          )
        )
      )
    )
  ))

def M_X9_strokes (h : Hp) (l0 l1 l2 l3 l4 l5 l6 : Int) : Option (Hp × Int) := tk 19 h l0 (
  (M_X9_strokeRefusal h l0 l1 l2 l3 l4 l5 l6).bind fun x1 =>
  if w32 x1 = 0 then (
    (gr 19 h l0 9).bind fun x2 =>
    (gr 19 h l0 4).bind fun x3 =>
    (M_X9_inner h l4).bind fun x4 =>
    bd (M_X6_fewest h x2 x3 l1 l2 l3 x4 l5 l6) fun h x5 =>
    bd (M_X9_answered h l0 x5) fun h x6 =>
    some (h, x6)
  ) else (
    bd (M_X9_refused h l0 x1) fun h x7 =>
    some (h, x7)
  ))

def M_X9_strokeAt (h : Hp) (l0 l1 l2 l3 l4 l5 l6 l7 : Int) : Option (Hp × Int) := tk 19 h l0 (
  (M_X9_strokeRefusal h l0 l1 l2 l3 l4 l5 l6).bind fun x1 =>
  if w32 x1 = 0 then (
    (gr 19 h l0 9).bind fun x2 =>
    (gr 19 h l0 4).bind fun x3 =>
    (M_X9_inner h l4).bind fun x4 =>
    bd (M_X6_fewest h x2 x3 l1 l2 l3 x4 l5 l6) fun h x5 =>
    if w32 l7 < 0 then (
      bd (M_X9_refused h l0 1) fun h x6 =>
      some (h, x6)
    ) else (
      if w32 l7 < w32 x5 then (
        (gr 19 h l0 9).bind fun x7 =>
        (gr 16 h x7 4).bind fun x8 =>
        (ald 1 h x8 l7).bind fun x9 =>
        (M_X9_outer h x9).bind fun x10 =>
        bd (M_X9_answered h l0 x10) fun h x11 =>
        some (h, x11)
      ) else (
        bd (M_X9_refused h l0 1) fun h x12 =>
        some (h, x12)
      )
    )
  ) else (
    bd (M_X9_refused h l0 x1) fun h x13 =>
    some (h, x13)
  ))

def M_X9_ink (h : Hp) (l0 l1 l2 l3 : Int) : Option (Hp × Int) := tk 19 h l0 (
  (M_X9_isTown h l0 l1).bind fun x1 =>
  if w32 x1 = 0 then (
    bd (M_X9_refused h l0 1) fun h x2 =>
    some (h, x2)
  ) else (
    (M_X9_isPlace h l0 l2).bind fun x3 =>
    if w32 x3 = 0 then (
      bd (M_X9_refused h l0 1) fun h x4 =>
      some (h, x4)
    ) else (
      (M_X9_isMark h l0 l3).bind fun x5 =>
      if w32 x5 = 0 then (
        bd (M_X9_refused h l0 1) fun h x15 =>
        some (h, x15)
      ) else (
        (gr 19 h l0 4).bind fun x6 =>
        (gr 18 h x6 3).bind fun x7 =>
        (gr 19 h l0 11).bind fun x8 =>
        (gr 12 h x8 0).bind fun x9 =>
        (cpy 1 h x7 (36 * l1) x9 0 36).bind fun h =>
        (gr 19 h l0 11).bind fun x10 =>
        (gr 19 h l0 4).bind fun x11 =>
        (M_X9_inner h l2).bind fun x12 =>
        bd (M_X2_leastInk h x10 x11 x12 l3) fun h x13 =>
        bd (M_X9_answered h l0 x13) fun h x14 =>
        some (h, x14)
      )
    )
  ))

def M_X9_judge (h : Hp) (l0 : Int) : Option (Hp × Int) := tk 19 h l0 (
  (gr 19 h l0 4).bind fun x1 =>
  (gf 18 h x1 2).bind fun x2 =>
  if w32 x2 = 0 then (
    bd (M_X9_refused h l0 1) fun h x9 =>
    some (h, x9)
  ) else (
    (gr 19 h l0 10).bind fun x3 =>
    (gr 19 h l0 2).bind fun x4 =>
    (gr 19 h l0 2).bind fun x5 =>
    (gr 15 h x5 1).bind fun x6 =>
    bd (M_X1_firstNotSo h x3 x4 x6) fun h x7 =>
    bd (M_X9_answered h l0 x7) fun h x8 =>
    some (h, x8)
  ))

def M_X9_fitRefusal (h : Hp) (l0 : Int) : Option Int := tk 19 h l0 (
  (gr 19 h l0 4).bind fun x1 =>
  (gf 18 h x1 2).bind fun x2 =>
  if w32 x2 = 0 then (
    some 1
  ) else (
    (gr 19 h l0 2).bind fun x3 =>
    (M_X5_unknownCount h x3).bind fun x4 =>
    if w32 x4 = 0 then (
      some 6
    ) else (
      (gr 19 h l0 2).bind fun x5 =>
      (gf 15 h x5 4).bind fun x6 =>
      if w32 x6 = 0 then (
        some 6
      ) else (
        some 0
      )
    )
  ))

def M_X9_fits (h : Hp) (l0 : Int) : Option (Hp × Int) := tk 19 h l0 (
  (M_X9_fitRefusal h l0).bind fun x1 =>
  if w32 x1 = 0 then (
    (gr 19 h l0 10).bind fun x2 =>
    (gr 19 h l0 2).bind fun x3 =>
    (gr 19 h l0 5).bind fun x4 =>
    (M_X1_find h x2 x3 x4).bind fun h =>
    (gr 19 h l0 10).bind fun x5 =>
    (gf 11 h x5 3).bind fun x6 =>
    bd (M_X9_answered h l0 x6) fun h x7 =>
    some (h, x7)
  ) else (
    bd (M_X9_refused h l0 x1) fun h x8 =>
    some (h, x8)
  ))

def M_X9_fit_p50 (h : Hp) (l0 l1 : Int) (s0 : Int) : Option (Hp × Int) :=
  if w32 s0 = (-1) then (
    bd (M_X9_refused h l0 1) fun h x1 =>
    some (h, x1)
  ) else (
    if w32 l1 < 0 then (
      bd (M_X9_refused h l0 1) fun h x2 =>
      some (h, x2)
    ) else (
      (gr 19 h l0 10).bind fun x3 =>
      (gf 11 h x3 3).bind fun x4 =>
      if w32 l1 < w32 x4 then (
        (gr 19 h l0 10).bind fun x5 =>
        (gr 19 h l0 2).bind fun x6 =>
        (gr 19 h l0 10).bind fun x7 =>
        (gr 11 h x7 2).bind fun x8 =>
        (ald 1 h x8 l1).bind fun x9 =>
        (M_X1_guessIn h x5 x6 x9 s0).bind fun x10 =>
        bd (M_X9_answered h l0 x10) fun h x11 =>
        some (h, x11)
      ) else (
        bd (M_X9_refused h l0 1) fun h x12 =>
        some (h, x12)
      )
    )
  )

def M_X9_fit (h : Hp) (l0 l1 l2 : Int) : Option (Hp × Int) := tk 19 h l0 (
  (M_X9_fitRefusal h l0).bind fun x13 =>
  if w32 x13 = 0 then (
    (gr 19 h l0 10).bind fun x14 =>
    (gr 19 h l0 2).bind fun x15 =>
    (gr 19 h l0 5).bind fun x16 =>
    (M_X1_find h x14 x15 x16).bind fun h =>
    (M_X9_isTown h l0 l2).bind fun x17 =>
    if w32 x17 = 0 then (
      M_X9_fit_p50 h l0 l1 (-1)
    ) else (
      (gr 19 h l0 2).bind fun x18 =>
      (M_X5_unknownNumber h x18 l2).bind fun x19 =>
      M_X9_fit_p50 h l0 l1 x19
    )
  ) else (
    bd (M_X9_refused h l0 x13) fun h x20 =>
    some (h, x20)
  ))

def M_X9_surely_p35 (h : Hp) (l0 : Int) (s0 : Int) : Option (Hp × Int) :=
  if w32 s0 = (-1) then (
    bd (M_X9_refused h l0 1) fun h x8 =>
    some (h, x8)
  ) else (
    (gr 19 h l0 10).bind fun x1 =>
    (gr 19 h l0 2).bind fun x2 =>
    (gr 19 h l0 5).bind fun x3 =>
    (M_X1_find h x1 x2 x3).bind fun h =>
    (gr 19 h l0 10).bind fun x4 =>
    (gr 19 h l0 2).bind fun x5 =>
    (M_X1_sureGuess h x4 x5 s0).bind fun x6 =>
    bd (M_X9_answered h l0 x6) fun h x7 =>
    some (h, x7)
  )

def M_X9_surely (h : Hp) (l0 l1 : Int) : Option (Hp × Int) := tk 19 h l0 (
  (M_X9_fitRefusal h l0).bind fun x9 =>
  if w32 x9 = 0 then (
    (M_X9_isTown h l0 l1).bind fun x10 =>
    if w32 x10 = 0 then (
      M_X9_surely_p35 h l0 (-1)
    ) else (
      (gr 19 h l0 2).bind fun x11 =>
      (M_X5_unknownNumber h x11 l1).bind fun x12 =>
      M_X9_surely_p35 h l0 x12
    )
  ) else (
    bd (M_X9_refused h l0 x9) fun h x13 =>
    some (h, x13)
  ))

def M_X9_rounds_p68 (h : Hp) (l0 l1 : Int) : Option (Hp × Int) :=
  (gr 19 h l0 4).bind fun x1 =>
  (gf 18 h x1 7).bind fun x2 =>
  (pf 18 h x1 7 (x2 + l1)).bind fun h =>
  (gr 19 h l0 4).bind fun x3 =>
  (gf 18 h x3 7).bind fun x4 =>
  bd (M_X9_answered h l0 x4) fun h x5 =>
  some (h, x5)

def M_X9_rounds_b46 (h : Hp) (l0 l1 l2 : Int) : Option ((Hp × Int) ⊕ Hp) :=
  if w32 l2 < w32 l1 then (
    (gr 19 h l0 4).bind fun x6 =>
    (gr 19 h l0 13).bind fun x7 =>
    (M_X8_goOn h x6 x7).bind fun h =>
    some (.inl (h, l2 + 1))
  ) else (
    some (.inr h)
  )

def M_X9_rounds_w46 (n : Nat) (h : Hp) (l0 l1 l2 : Int) : Option (Hp × Int) :=
  (wh (S := (Hp × Int)) (T := Hp) (fun a => M_X9_rounds_b46 a.1 l0 l1 a.2) n (h, l2)).bind (fun b => M_X9_rounds_p68 b l0 l1)

def M_X9_rounds (h : Hp) (l0 l1 : Int) : Option (Hp × Int) := tk 19 h l0 (
  (gr 19 h l0 4).bind fun x8 =>
  (gf 18 h x8 2).bind fun x9 =>
  if w32 x9 = 0 then (
    bd (M_X9_refused h l0 1) fun h x14 =>
    some (h, x14)
  ) else (
    if w32 l1 < 1 then (
      bd (M_X9_refused h l0 2) fun h x10 =>
      some (h, x10)
    ) else (
      if 60 < w32 l1 then (
        bd (M_X9_refused h l0 2) fun h x13 =>
        some (h, x13)
      ) else (
        (gr 19 h l0 7).bind fun x11 =>
        (gr 19 h l0 4).bind fun x12 =>
        (M_X3_remember h x11 x12).bind fun h =>
        M_X9_rounds_w46 FU h l0 l1 0
      )
    )
  ))

def M_X9_denied (h : Hp) (l0 l1 : Int) : Option (Hp × Int) := tk 19 h l0 (
  (pf 19 h l0 14 l1).bind fun h =>
  some (h, 0))

def M_X9_granted (h : Hp) (l0 : Int) : Option (Hp × Int) := tk 19 h l0 (
  (pf 19 h l0 14 0).bind fun h =>
  some (h, 1))

def M_X9_draw (h : Hp) (l0 l1 l2 l3 : Int) : Option (Hp × Int) := tk 19 h l0 (
  (M_X9_isTown h l0 l1).bind fun x1 =>
  if w32 x1 = 0 then (
    bd (M_X9_denied h l0 1) fun h x2 =>
    (zb1 x2 ()).bind fun _ =>
    some (h, x2)
  ) else (
    (M_X9_isPlace h l0 l2).bind fun x4 =>
    if w32 x4 = 0 then (
      bd (M_X9_denied h l0 1) fun h x5 =>
      (zb1 x5 ()).bind fun _ =>
      some (h, x5)
    ) else (
      (M_X9_isMark h l0 l3).bind fun x7 =>
      if w32 x7 = 0 then (
        bd (M_X9_denied h l0 1) fun h x20 =>
        (zb1 x20 ()).bind fun _ =>
        some (h, x20)
      ) else (
        (M_X9_inner h l2).bind fun x8 =>
        (gr 19 h l0 4).bind fun x9 =>
        (gr 18 h x9 3).bind fun x10 =>
        (ald 1 h x10 ((36 * l1) + x8)).bind fun x11 =>
        if w32 x11 = w32 l3 then (
          bd (M_X9_denied h l0 5) fun h x18 =>
          (zb1 x18 ()).bind fun _ =>
          some (h, x18)
        ) else (
          (gr 19 h l0 7).bind fun x12 =>
          (gr 19 h l0 4).bind fun x13 =>
          (M_X3_remember h x12 x13).bind fun h =>
          (gr 19 h l0 4).bind fun x14 =>
          (gr 18 h x14 3).bind fun x15 =>
          (ast 1 h x15 ((36 * l1) + x8) l3).bind fun h =>
          bd (M_X9_granted h l0) fun h x16 =>
          (zb1 x16 ()).bind fun _ =>
          some (h, x16)
        )
      )
    )
  ))

def M_X9_mend (h : Hp) (l0 l1 : Int) : Option (Hp × Int) := tk 19 h l0 (
  (M_X9_isTown h l0 l1).bind fun x1 =>
  if w32 x1 = 0 then (
    bd (M_X9_denied h l0 1) fun h x12 =>
    (zb1 x12 ()).bind fun _ =>
    some (h, x12)
  ) else (
    (gr 19 h l0 4).bind fun x2 =>
    (gr 18 h x2 5).bind fun x3 =>
    (ald 1 h x3 (4 * l1)).bind fun x4 =>
    if w32 x4 = 0 then (
      bd (M_X9_denied h l0 5) fun h x10 =>
      (zb1 x10 ()).bind fun _ =>
      some (h, x10)
    ) else (
      (gr 19 h l0 7).bind fun x5 =>
      (gr 19 h l0 4).bind fun x6 =>
      (M_X3_remember h x5 x6).bind fun h =>
      (gr 19 h l0 4).bind fun x7 =>
      (M_X8_makeTrue h x7 l1).bind fun h =>
      bd (M_X9_granted h l0) fun h x8 =>
      (zb1 x8 ()).bind fun _ =>
      some (h, x8)
    )
  ))

def M_X9_copy (h : Hp) (l0 l1 l2 : Int) : Option (Hp × Int) := tk 19 h l0 (
  (M_X9_isTown h l0 l1).bind fun x1 =>
  if w32 x1 = 0 then (
    bd (M_X9_denied h l0 1) fun h x2 =>
    (zb1 x2 ()).bind fun _ =>
    some (h, x2)
  ) else (
    (M_X9_isTown h l0 l2).bind fun x4 =>
    if w32 x4 = 0 then (
      bd (M_X9_denied h l0 1) fun h x16 =>
      (zb1 x16 ()).bind fun _ =>
      some (h, x16)
    ) else (
      (gr 19 h l0 4).bind fun x5 =>
      (gr 18 h x5 4).bind fun x6 =>
      (ald 1 h x6 l1).bind fun x7 =>
      if w32 x7 = w32 l2 then (
        bd (M_X9_denied h l0 5) fun h x14 =>
        (zb1 x14 ()).bind fun _ =>
        some (h, x14)
      ) else (
        (gr 19 h l0 7).bind fun x8 =>
        (gr 19 h l0 4).bind fun x9 =>
        (M_X3_remember h x8 x9).bind fun h =>
        (gr 19 h l0 4).bind fun x10 =>
        (gr 18 h x10 4).bind fun x11 =>
        (ast 1 h x11 l1 l2).bind fun h =>
        bd (M_X9_granted h l0) fun h x12 =>
        (zb1 x12 ()).bind fun _ =>
        some (h, x12)
      )
    )
  ))

def M_X9_seed (h : Hp) (l0 l1 : Int) : Option (Hp × Int) := tk 19 h l0 (
  (gr 19 h l0 4).bind fun x1 =>
  (gf 18 h x1 2).bind fun x2 =>
  if w32 x2 = 0 then (
    bd (M_X9_denied h l0 1) fun h x10 =>
    (zb1 x10 ()).bind fun _ =>
    some (h, x10)
  ) else (
    if w32 l1 < 0 then (
      bd (M_X9_denied h l0 2) fun h x3 =>
      (zb1 x3 ()).bind fun _ =>
      some (h, x3)
    ) else (
      if w32 l1 < 65537 then (
        (gr 19 h l0 4).bind fun x5 =>
        (pf 18 h x5 6 l1).bind fun h =>
        bd (M_X9_granted h l0) fun h x6 =>
        (zb1 x6 ()).bind fun _ =>
        some (h, x6)
      ) else (
        bd (M_X9_denied h l0 2) fun h x8 =>
        (zb1 x8 ()).bind fun _ =>
        some (h, x8)
      )
    )
  ))

def M_X9_undo (h : Hp) (l0 : Int) : Option (Hp × Int) := tk 19 h l0 (
  (gr 19 h l0 7).bind fun x1 =>
  (gf 13 h x1 1).bind fun x2 =>
  if w32 x2 = 0 then (
    bd (M_X9_denied h l0 6) fun h x7 =>
    (zb1 x7 ()).bind fun _ =>
    some (h, x7)
  ) else (
    (gr 19 h l0 7).bind fun x3 =>
    (gr 19 h l0 4).bind fun x4 =>
    (M_X3_recall h x3 x4).bind fun h =>
    bd (M_X9_granted h l0) fun h x5 =>
    (zb1 x5 ()).bind fun _ =>
    some (h, x5)
  ))

def M_X9_keep (h : Hp) (l0 : Int) : Option (Hp × Int) := tk 19 h l0 (
  (gr 19 h l0 4).bind fun x1 =>
  (gf 18 h x1 2).bind fun x2 =>
  if w32 x2 = 0 then (
    bd (M_X9_refused h l0 1) fun h x10 =>
    some (h, x10)
  ) else (
    (gr 19 h l0 7).bind fun x3 =>
    (gf 13 h x3 3).bind fun x4 =>
    if w32 x4 < 3 then (
      (gr 19 h l0 7).bind fun x5 =>
      (gr 19 h l0 4).bind fun x6 =>
      bd (M_X3_hold h x5 x6) fun h x7 =>
      bd (M_X9_answered h l0 x7) fun h x8 =>
      some (h, x8)
    ) else (
      bd (M_X9_refused h l0 3) fun h x9 =>
      some (h, x9)
    )
  ))

def M_X9_back (h : Hp) (l0 l1 : Int) : Option (Hp × Int) := tk 19 h l0 (
  if w32 l1 < 0 then (
    bd (M_X9_denied h l0 1) fun h x1 =>
    (zb1 x1 ()).bind fun _ =>
    some (h, x1)
  ) else (
    (gr 19 h l0 7).bind fun x3 =>
    (gf 13 h x3 3).bind fun x4 =>
    if w32 l1 < w32 x4 then (
      (gr 19 h l0 4).bind fun x5 =>
      (gr 19 h l0 7).bind fun x6 =>
      (gr 13 h x6 2).bind fun x7 =>
      (aldR 5 h x7 l1).bind fun x8 =>
      (M_X8_become h x5 x8).bind fun h =>
      (gr 19 h l0 7).bind fun x9 =>
      (pf 13 h x9 1 0).bind fun h =>
      bd (M_X9_granted h l0) fun h x10 =>
      (zb1 x10 ()).bind fun _ =>
      some (h, x10)
    ) else (
      bd (M_X9_denied h l0 1) fun h x12 =>
      (zb1 x12 ()).bind fun _ =>
      some (h, x12)
    )
  ))

def M_X9_isLed_p47 (h : Hp) : Option Int :=
  some 0

def M_X9_isLed_b5 (h : Hp) (l0 l1 l2 : Int) : Option (Int ⊕ (Unit ⊕ (Int))) :=
  if w32 l2 < w32 (36 * (l1 + 1)) then (
    (gr 19 h l0 4).bind fun x1 =>
    (gr 18 h x1 3).bind fun x2 =>
    (ald 1 h x2 l2).bind fun x3 =>
    (gr 19 h l0 2).bind fun x4 =>
    (gr 15 h x4 1).bind fun x5 =>
    (gr 18 h x5 3).bind fun x6 =>
    (ald 1 h x6 l2).bind fun x7 =>
    if w32 x3 = w32 x7 then (
      some (.inl (l2 + 1))
    ) else (
      some (.inr (.inr 1))
    )
  ) else (
    some (.inr (.inl ()))
  )

def M_X9_isLed_w5 (n : Nat) (h : Hp) (l0 l1 l2 : Int) : Option Int :=
  (wh (S := Int) (T := (Unit ⊕ (Int))) (fun a => M_X9_isLed_b5 h l0 l1 a) n l2).bind (fun z => exi z (fun b => M_X9_isLed_p47 h) (fun q => some q))

def M_X9_isLed (h : Hp) (l0 l1 : Int) : Option Int := tk 19 h l0 (
  M_X9_isLed_w5 FU h l0 l1 (36 * l1))

def M_X9_size (h : Hp) (l0 l1 : Int) : Option Int := tk 19 h l0 (
  if w32 l1 = 0 then (
    (gr 19 h l0 4).bind fun x1 =>
    (gf 18 h x1 0).bind fun x2 =>
    some x2
  ) else (
  if w32 l1 = 1 then (
    (gr 19 h l0 4).bind fun x3 =>
    (gf 18 h x3 1).bind fun x4 =>
    some x4
  ) else (
  if w32 l1 = 2 then (
    (gr 19 h l0 2).bind fun x5 =>
    (gf 15 h x5 0).bind fun x6 =>
    some x6
  ) else (
  if w32 l1 = 3 then (
    (gr 19 h l0 4).bind fun x7 =>
    (gf 18 h x7 2).bind fun x8 =>
    some x8
  ) else (
  if w32 l1 = 4 then (
    (gr 19 h l0 4).bind fun x9 =>
    (M_X8_copyingTowns h x9).bind fun x10 =>
    some x10
  ) else (
  if w32 l1 = 5 then (
    (gr 19 h l0 2).bind fun x11 =>
    (gf 15 h x11 4).bind fun x12 =>
    some x12
  ) else (
  if w32 l1 = 6 then (
    (gr 19 h l0 2).bind fun x13 =>
    (gf 15 h x13 9).bind fun x14 =>
    some x14
  ) else (
  if w32 l1 = 7 then (
    (gr 19 h l0 4).bind fun x15 =>
    (gf 18 h x15 7).bind fun x16 =>
    some x16
  ) else (
  if w32 l1 = 8 then (
    (gr 19 h l0 4).bind fun x17 =>
    (gf 18 h x17 6).bind fun x18 =>
    some x18
  ) else (
  if w32 l1 = 9 then (
    (gr 19 h l0 7).bind fun x19 =>
    (gf 13 h x19 1).bind fun x20 =>
    some x20
  ) else (
  if w32 l1 = 10 then (
    (gr 19 h l0 7).bind fun x21 =>
    (gf 13 h x21 3).bind fun x22 =>
    some x22
  ) else (
  if w32 l1 = 11 then (
    (gf 19 h l0 1).bind fun x23 =>
    some x23
  ) else (
    some (-1)
  )))))))))))))

def M_X9_trouble (h : Hp) (l0 : Int) : Option Int := tk 19 h l0 (
  (gf 19 h l0 14).bind fun x1 =>
  some x1)

def M_X10_init (h : Hp) (l0 : Int) : Option Hp := tk 20 h l0 (
  nb (nw 1 216 0 h) h.2.2.2 fun h x1 =>
  rp x1 (pf 20 h l0 7 x1) fun h =>
  nb (nw 1 6 0 h) h.2.2.2 fun h x2 =>
  rp x2 (pf 20 h l0 8 x2) fun h =>
  nb (nw 1 24 0 h) h.2.2.2 fun h x3 =>
  rp x3 (pf 20 h l0 9 x3) fun h =>
  nb (nw 1 20 0 h) h.2.2.2 fun h x4 =>
  rp x4 (pf 20 h l0 10 x4) fun h =>
  nb (nw 1 8 0 h) h.2.2.2 fun h x5 =>
  rp x5 (pf 20 h l0 11 x5) fun h =>
  nb (nw 1 8 0 h) h.2.2.2 fun h x6 =>
  rp x6 (pf 20 h l0 12 x6) fun h =>
  nb (nw 1 8 0 h) h.2.2.2 fun h x7 =>
  rp x7 (pf 20 h l0 13 x7) fun h =>
  nb (nw 1 8 0 h) h.2.2.2 fun h x8 =>
  rp x8 (pf 20 h l0 14 x8) fun h =>
  nb (nw 2 6 0 h) h.2.2.2 fun h x9 =>
  rp x9 (pf 20 h l0 15 x9) fun h =>
  some h)

def M_X10_find_p29 (h : Hp) : Option Int :=
  some (-1)

def M_X10_find_b2 (h : Hp) (l0 l1 l3 : Int) : Option (Int ⊕ (Unit ⊕ (Int))) :=
  (gf 20 h l0 3).bind fun x1 =>
  if w32 l3 < w32 x1 then (
    (gr 20 h l0 15).bind fun x2 =>
    (ald 2 h x2 l3).bind fun x3 =>
    if w32 (lcmp x3 l1) = 0 then (
      some (.inr (.inr l3))
    ) else (
      some (.inl (l3 + 1))
    )
  ) else (
    some (.inr (.inl ()))
  )

def M_X10_find_w2 (n : Nat) (h : Hp) (l0 l1 l3 : Int) : Option Int :=
  (wh (S := Int) (T := (Unit ⊕ (Int))) (fun a => M_X10_find_b2 h l0 l1 a) n l3).bind (fun z => exi z (fun b => M_X10_find_p29 h) (fun q => some q))

def M_X10_find (h : Hp) (l0 l1 : Int) : Option Int := tk 20 h l0 (
  M_X10_find_w2 FU h l0 l1 0)

def M_X10_all (h : Hp) (l0 : Int) : Option Int := tk 20 h l0 (
  (gf 20 h l0 0).bind fun x1 =>
  (gf 20 h l0 1).bind fun x2 =>
  some (x1 * x2))

def M_X11_init (h : Hp) (l0 : Int) : Option Hp := tk 21 h l0 (
  (pf 21 h l0 2 (-1)).bind fun h =>
  nb (nw 3 900 0 h) h.2.2.2 fun h x1 =>
  rp x1 (pf 21 h l0 5 x1) fun h =>
  nb (nw 1 248 0 h) h.2.2.2 fun h x2 =>
  rp x2 (pf 21 h l0 17 x2) fun h =>
  nb (nw 1 2976 0 h) h.2.2.2 fun h x3 =>
  rp x3 (pf 21 h l0 18 x3) fun h =>
  nb (nw 1 744 0 h) h.2.2.2 fun h x4 =>
  rp x4 (pf 21 h l0 19 x4) fun h =>
  nb (nw 1 86616 0 h) h.2.2.2 fun h x5 =>
  rp x5 (pf 21 h l0 22 x5) fun h =>
  nb (nw 1 6 0 h) h.2.2.2 fun h x6 =>
  rp x6 (pf 21 h l0 23 x6) fun h =>
  nb (nw 1 24 0 h) h.2.2.2 fun h x7 =>
  rp x7 (pf 21 h l0 24 x7) fun h =>
  nb (nw 1 2406 0 h) h.2.2.2 fun h x8 =>
  rp x8 (pf 21 h l0 25 x8) fun h =>
  nb (nw 4 36 0 h) h.2.2.2 fun h x9 =>
  rp x9 (pf 21 h l0 27 x9) fun h =>
  nb (nw 1 36 0 h) h.2.2.2 fun h x10 =>
  rp x10 (pf 21 h l0 28 x10) fun h =>
  nb (nw 2 401 0 h) h.2.2.2 fun h x11 =>
  rp x11 (pf 21 h l0 30 x11) fun h =>
  nb (nw 1 36 0 h) h.2.2.2 fun h x12 =>
  rp x12 (pf 21 h l0 31 x12) fun h =>
  nb (nw 1 3 0 h) h.2.2.2 fun h x13 =>
  rp x13 (pf 21 h l0 32 x13) fun h =>
  nb (nw 1 3 0 h) h.2.2.2 fun h x14 =>
  rp x14 (pf 21 h l0 33 x14) fun h =>
  nb (nw 4 216 0 h) h.2.2.2 fun h x15 =>
  rp x15 (pf 21 h l0 34 x15) fun h =>
  nb (nw 4 216 0 h) h.2.2.2 fun h x16 =>
  rp x16 (pf 21 h l0 35 x16) fun h =>
  nb (nw 1 36 0 h) h.2.2.2 fun h x17 =>
  rp x17 (pf 21 h l0 37 x17) fun h =>
  nb (nw 1 6 0 h) h.2.2.2 fun h x18 =>
  rp x18 (pf 21 h l0 38 x18) fun h =>
  nb (nw 1 6 0 h) h.2.2.2 fun h x19 =>
  rp x19 (pf 21 h l0 39 x19) fun h =>
  nb (nw 1 6 0 h) h.2.2.2 fun h x20 =>
  rp x20 (pf 21 h l0 40 x20) fun h =>
  some h)

def M_X11_thrown (h : Hp) (l0 : Int) : Option Int := tk 21 h l0 (
  (gf 21 h l0 0).bind fun x1 =>
  some x1)

def M_X11_refused (h : Hp) (l0 l1 : Int) : Option (Hp × Int) := tk 21 h l0 (
  (pf 21 h l0 1 l1).bind fun h =>
  (pf 21 h l0 2 (-1)).bind fun h =>
  some (h, (-1)))

def M_X11_denied (h : Hp) (l0 l1 : Int) : Option (Hp × Int) := tk 21 h l0 (
  bd (M_X11_refused h l0 l1) fun h x1 =>
  some (h, 0))

def M_X11_good (h : Hp) (l0 l1 : Int) : Option (Hp × Int) := tk 21 h l0 (
  (pf 21 h l0 1 0).bind fun h =>
  (pf 21 h l0 2 (-1)).bind fun h =>
  some (h, l1))

def M_X11_granted (h : Hp) (l0 : Int) : Option (Hp × Int) := tk 21 h l0 (
  bd (M_X11_good h l0 0) fun h x1 =>
  some (h, 1))

def M_X11_in (h : Hp) (l0 l1 l2 : Int) : Option Int :=
  if w32 l0 < w32 l1 then (
    some 0
  ) else (
    if w32 l2 < w32 l0 then (
      some 0
    ) else (
      some 1
    )
  )

def M_X11_common_p31 (h : Hp) (l4 : Int) : Option Int :=
  some l4

def M_X11_common_b6 (h : Hp) (l4 l6 : Int) : Option ((Int × Int) ⊕ Int) :=
  if w32 (lcmp l6 0) = 0 then (
    some (.inr l4)
  ) else (
    (lrm l4 l6).bind fun x1 =>
    some (.inl (l6, x1))
  )

def M_X11_common_w6 (n : Nat) (h : Hp) (l4 l6 : Int) : Option Int :=
  (wh (S := (Int × Int)) (T := Int) (fun a => M_X11_common_b6 h a.1 a.2) n (l4, l6)).bind (fun b => M_X11_common_p31 h b)

def M_X11_common (h : Hp) (l0 l2 : Int) : Option Int :=
  M_X11_common_w6 FU h l0 l2

def M_X11_fraction (h : Hp) (l0 l1 l3 l5 : Int) : Option (Hp × Int) := tk 21 h l0 (
  bd (M_X11_good h l0 0) fun h x1 =>
  if w32 l5 = 0 then (
    (M_X11_common h l1 l3).bind fun x2 =>
    (ldv l1 x2).bind fun x3 =>
    some (h, x3)
  ) else (
    (M_X11_common h l1 l3).bind fun x4 =>
    (ldv l3 x4).bind fun x5 =>
    some (h, x5)
  ))

def M_X11_byteAt (h : Hp) (l0 l1 : Int) : Option Int := tk 21 h l0 (
  (gf 21 h l0 7).bind fun x1 =>
  if w32 l1 < w32 x1 then (
    (gr 21 h l0 5).bind fun x2 =>
    (ald 3 h x2 l1).bind fun x3 =>
    some (iand x3 255)
  ) else (
    some (-1)
  ))

def M_X11_isLetter (h : Hp) (l0 : Int) : Option Int :=
  if w32 l0 < 97 then (
    some 0
  ) else (
    if 122 < w32 l0 then (
      some 0
    ) else (
      some 1
    )
  )

def M_X11_isDigit (h : Hp) (l0 : Int) : Option Int :=
  if w32 l0 < 48 then (
    some 0
  ) else (
    if 57 < w32 l0 then (
      some 0
    ) else (
      some 1
    )
  )

def M_X11_wordOf_p36 (h : Hp) (l1 : Int) : Option Int :=
  some l1

def M_X11_wordOf_b4 (h : Hp) (l0 l1 l3 : Int) : Option ((Int × Int) ⊕ Int) :=
  (M_J0_length l0).bind fun x1 =>
  if w32 l3 < w32 x1 then (
    (M_J0_charAt l0 l3).bind fun x2 =>
    some (.inl ((32 * l1) + (w32 ((x2 - 97) + 1)), l3 + 1))
  ) else (
    some (.inr l1)
  )

def M_X11_wordOf_w4 (n : Nat) (h : Hp) (l0 l1 l3 : Int) : Option Int :=
  (wh (S := (Int × Int)) (T := Int) (fun a => M_X11_wordOf_b4 h l0 a.1 a.2) n (l1, l3)).bind (fun b => M_X11_wordOf_p36 h b)

def M_X11_wordOf (h : Hp) (l0 : Int) : Option Int :=
  M_X11_wordOf_w4 FU h l0 0 0

def M_X11_goesOn_p266 (h : Hp) (l0 l1 : Int) : Option Hp :=
  (pf 21 h l0 9 4).bind fun h =>
  (pf 21 h l0 11 l1).bind fun h =>
  (gf 21 h l0 8).bind fun x1 =>
  (pf 21 h l0 8 (x1 + 1)).bind fun h =>
  some h

def M_X11_goesOn_p241 (h : Hp) (l0 l2 : Int) : Option Hp :=
  if 2 < w32 l2 then (
    some h
  ) else (
    (pf 21 h l0 9 3).bind fun h =>
    some h
  )

def M_X11_goesOn_p225 (h : Hp) (l0 l2 : Int) : Option ((Hp × Int) ⊕ (Hp × Int)) :=
  (gf 21 h l0 8).bind fun x2 =>
  (pf 21 h l0 8 (x2 + 1)).bind fun h =>
  some (.inl (h, l2 + 1))

def M_X11_goesOn_b183 (h : Hp) (l0 l2 : Int) : Option ((Hp × Int) ⊕ (Hp × Int)) :=
  (gf 21 h l0 8).bind fun x3 =>
  (M_X11_byteAt h l0 x3).bind fun x4 =>
  (M_X11_isDigit h x4).bind fun x5 =>
  if w32 x5 = 0 then (
    some (.inr (h, l2))
  ) else (
    if w32 l2 < 2 then (
      (gf 21 h l0 12).bind fun x6 =>
      (gf 21 h l0 8).bind fun x7 =>
      (M_X11_byteAt h l0 x7).bind fun x8 =>
      (pf 21 h l0 12 (((10 * x6) + x8) - 48)).bind fun h =>
      M_X11_goesOn_p225 h l0 l2
    ) else (
      M_X11_goesOn_p225 h l0 l2
    )
  )

def M_X11_goesOn_w183 (n : Nat) (h : Hp) (l0 l2 : Int) : Option Hp :=
  (wh (S := (Hp × Int)) (T := (Hp × Int)) (fun a => M_X11_goesOn_b183 a.1 l0 a.2) n (h, l2)).bind (fun b => M_X11_goesOn_p241 b.1 l0 b.2)

def M_X11_goesOn_p152 (h : Hp) (l0 l2 : Int) : Option Hp :=
  (pf 21 h l0 15 l2).bind fun h =>
  if 8 < w32 l2 then (
    some h
  ) else (
    (pf 21 h l0 9 2).bind fun h =>
    some h
  )

def M_X11_goesOn_p136 (h : Hp) (l0 l2 : Int) : Option ((Hp × Int) ⊕ (Hp × Int)) :=
  (gf 21 h l0 8).bind fun x9 =>
  (pf 21 h l0 8 (x9 + 1)).bind fun h =>
  some (.inl (h, l2 + 1))

def M_X11_goesOn_b89 (h : Hp) (l0 l2 : Int) : Option ((Hp × Int) ⊕ (Hp × Int)) :=
  (gf 21 h l0 8).bind fun x10 =>
  (M_X11_byteAt h l0 x10).bind fun x11 =>
  (M_X11_isLetter h x11).bind fun x12 =>
  if w32 x12 = 0 then (
    some (.inr (h, l2))
  ) else (
    if w32 l2 < 8 then (
      (gf 21 h l0 16).bind fun x13 =>
      (gf 21 h l0 8).bind fun x14 =>
      (M_X11_byteAt h l0 x14).bind fun x15 =>
      (pf 21 h l0 16 ((32 * x13) + (w32 ((x15 - 97) + 1)))).bind fun h =>
      M_X11_goesOn_p136 h l0 l2
    ) else (
      M_X11_goesOn_p136 h l0 l2
    )
  )

def M_X11_goesOn_w89 (n : Nat) (h : Hp) (l0 l2 : Int) : Option Hp :=
  (wh (S := (Hp × Int)) (T := (Hp × Int)) (fun a => M_X11_goesOn_b89 a.1 l0 a.2) n (h, l2)).bind (fun b => M_X11_goesOn_p152 b.1 l0 b.2)

def M_X11_goesOn_p35 (h : Hp) (l0 : Int) : Option Hp :=
  (gf 21 h l0 8).bind fun x16 =>
  (pf 21 h l0 10 x16).bind fun h =>
  (pf 21 h l0 9 0).bind fun h =>
  (pf 21 h l0 11 0).bind fun h =>
  (gf 21 h l0 8).bind fun x17 =>
  (M_X11_byteAt h l0 x17).bind fun x18 =>
  if w32 x18 = (-1) then (
    (pf 21 h l0 9 1).bind fun h =>
    some h
  ) else (
    (M_X11_isLetter h x18).bind fun x19 =>
    if w32 x19 = 0 then (
      (M_X11_isDigit h x18).bind fun x20 =>
      if w32 x20 = 0 then (
        if w32 x18 = 59 then (
          M_X11_goesOn_p266 h l0 x18
        ) else (
          if w32 x18 = 44 then (
            M_X11_goesOn_p266 h l0 x18
          ) else (
            some h
          )
        )
      ) else (
        (pf 21 h l0 12 0).bind fun h =>
        M_X11_goesOn_w183 FU h l0 0
      )
    ) else (
      (pf 21 h l0 16 0).bind fun h =>
      M_X11_goesOn_w89 FU h l0 0
    )
  )

def M_X11_goesOn_b9 (h : Hp) (l0 : Int) : Option (Hp ⊕ Hp) :=
  (gf 21 h l0 8).bind fun x21 =>
  (M_X11_byteAt h l0 x21).bind fun x22 =>
  if w32 x22 = 32 then (
    (gf 21 h l0 8).bind fun x23 =>
    (pf 21 h l0 8 (x23 + 1)).bind fun h =>
    some (.inl h)
  ) else (
    some (.inr h)
  )

def M_X11_goesOn_w9 (n : Nat) (h : Hp) (l0 : Int) : Option Hp :=
  (wh (S := Hp) (T := Hp) (fun a => M_X11_goesOn_b9 a l0) n h).bind (fun b => M_X11_goesOn_p35 b l0)

def M_X11_goesOn (h : Hp) (l0 : Int) : Option Hp := tk 21 h l0 (
  (gf 21 h l0 9).bind fun x24 =>
  if w32 x24 = 5 then (
    some h
  ) else (
    M_X11_goesOn_w9 FU h l0
  ))

def M_X11_flaw (h : Hp) (l0 l1 : Int) : Option Hp := tk 21 h l0 (
  (gf 21 h l0 9).bind fun x1 =>
  if w32 x1 = 5 then (
    some h
  ) else (
    (pf 21 h l0 13 l1).bind fun h =>
    (gf 21 h l0 10).bind fun x2 =>
    (pf 21 h l0 14 x2).bind fun h =>
    (pf 21 h l0 9 5).bind fun h =>
    some h
  ))

def M_X11_isWord (h : Hp) (l0 l1 : Int) : Option Int := tk 21 h l0 (
  (gf 21 h l0 9).bind fun x1 =>
  if w32 x1 = 2 then (
    (gf 21 h l0 16).bind fun x2 =>
    (M_X11_wordOf h l1).bind fun x3 =>
    if w32 (lcmp x2 x3) = 0 then (
      some 1
    ) else (
      some 0
    )
  ) else (
    some 0
  ))

def M_X11_isSign (h : Hp) (l0 l1 : Int) : Option Int := tk 21 h l0 (
  (gf 21 h l0 9).bind fun x1 =>
  if w32 x1 = 4 then (
    (gf 21 h l0 11).bind fun x2 =>
    if w32 x2 = w32 l1 then (
      some 1
    ) else (
      some 0
    )
  ) else (
    some 0
  ))

def M_X11_eatsSign (h : Hp) (l0 l1 : Int) : Option (Hp × Int) := tk 21 h l0 (
  (M_X11_isSign h l0 l1).bind fun x1 =>
  if w32 x1 = 0 then (
    (zb1 x1 ()).bind fun _ =>
    some (h, x1)
  ) else (
    (M_X11_goesOn h l0).bind fun h =>
    (zb1 x1 ()).bind fun _ =>
    some (h, x1)
  ))

def M_X11_needs (h : Hp) (l0 l1 : Int) : Option Hp := tk 21 h l0 (
  (M_X11_isWord h l0 l1).bind fun x1 =>
  if w32 x1 = 0 then (
    (M_X11_flaw h l0 1).bind fun h =>
    (M_X11_goesOn h l0).bind fun h =>
    some h
  ) else (
    (M_X11_goesOn h l0).bind fun h =>
    some h
  ))

def M_X11_readWhole_p33 (h : Hp) (l0 l1 : Int) : Option (Hp × Int) :=
  (gf 21 h l0 9).bind fun x1 =>
  if w32 x1 = 5 then (
    (M_X11_goesOn h l0).bind fun h =>
    some (h, l1)
  ) else (
    (gf 21 h l0 12).bind fun x2 =>
    (M_X11_goesOn h l0).bind fun h =>
    some (h, x2)
  )

def M_X11_readWhole (h : Hp) (l0 l1 l2 : Int) : Option (Hp × Int) := tk 21 h l0 (
  (gf 21 h l0 9).bind fun x3 =>
  if w32 x3 = 3 then (
    (gf 21 h l0 12).bind fun x4 =>
    (M_X11_in h x4 l1 l2).bind fun x5 =>
    if w32 x5 = 0 then (
      (M_X11_flaw h l0 4).bind fun h =>
      M_X11_readWhole_p33 h l0 l1
    ) else (
      M_X11_readWhole_p33 h l0 l1
    )
  ) else (
    (M_X11_flaw h l0 1).bind fun h =>
    M_X11_readWhole_p33 h l0 l1
  ))

def M_X11_readPart (h : Hp) (l0 l1 l2 l3 : Int) : Option (Hp × Int) := tk 21 h l0 (
  (M_X11_needs h l0 l1).bind fun h =>
  bd (M_X11_readWhole h l0 l2 l3) fun h x1 =>
  some (h, x1))

def M_X11_isName (h : Hp) (l0 : Int) : Option Int := tk 21 h l0 (
  (gf 21 h l0 9).bind fun x1 =>
  if w32 x1 = 2 then (
    (M_X11_isWord h l0 0).bind fun x2 =>
    if w32 x2 = 0 then (
      (M_X11_isWord h l0 1).bind fun x3 =>
      if w32 x3 = 0 then (
        (M_X11_isWord h l0 2).bind fun x4 =>
        if w32 x4 = 0 then (
          (M_X11_isWord h l0 3).bind fun x5 =>
          if w32 x5 = 0 then (
            (M_X11_isWord h l0 4).bind fun x6 =>
            if w32 x6 = 0 then (
              (M_X11_isWord h l0 8).bind fun x7 =>
              if w32 x7 = 0 then (
                some 1
              ) else (
                some 0
              )
            ) else (
              some 0
            )
          ) else (
            some 0
          )
        ) else (
          some 0
        )
      ) else (
        some 0
      )
    ) else (
      some 0
    )
  ) else (
    some 0
  ))

def M_X11_begins_p10 (h : Hp) (l0 : Int) : Option Hp :=
  (gr 21 h l0 4).bind fun x1 =>
  (gf 20 h x1 0).bind fun x2 =>
  if w32 x2 = 0 then (
    (M_X11_flaw h l0 6).bind fun h =>
    (M_X11_goesOn h l0).bind fun h =>
    some h
  ) else (
    (M_X11_goesOn h l0).bind fun h =>
    some h
  )

def M_X11_begins (h : Hp) (l0 l1 l2 : Int) : Option Hp := tk 21 h l0 (
  if w32 l1 = w32 l2 then (
    (M_X11_flaw h l0 5).bind fun h =>
    M_X11_begins_p10 h l0
  ) else (
    M_X11_begins_p10 h l0
  ))

def M_X11_knownTown_p34 (h : Hp) (l0 l1 : Int) : Option (Hp × Int) :=
  (gf 21 h l0 9).bind fun x1 =>
  if w32 x1 = 5 then (
    some (h, 0)
  ) else (
    some (h, l1)
  )

def M_X11_knownTown_p12 (h : Hp) (l0 : Int) : Option (Hp × Int) :=
  (gr 21 h l0 4).bind fun x2 =>
  (gf 21 h l0 16).bind fun x3 =>
  (M_X10_find h x2 x3).bind fun x4 =>
  if w32 x4 = (-1) then (
    (M_X11_flaw h l0 2).bind fun h =>
    M_X11_knownTown_p34 h l0 x4
  ) else (
    M_X11_knownTown_p34 h l0 x4
  )

def M_X11_knownTown (h : Hp) (l0 : Int) : Option (Hp × Int) := tk 21 h l0 (
  (M_X11_isName h l0).bind fun x5 =>
  if w32 x5 = 0 then (
    (M_X11_flaw h l0 1).bind fun h =>
    M_X11_knownTown_p12 h l0
  ) else (
    M_X11_knownTown_p12 h l0
  ))

def M_X11_readTown (h : Hp) (l0 : Int) : Option (Hp × Int) := tk 21 h l0 (
  bd (M_X11_knownTown h l0) fun h x1 =>
  (M_X11_goesOn h l0).bind fun h =>
  some (h, x1))

def M_X11_markAt (h : Hp) (l0 l1 : Int) : Option Int := tk 21 h l0 (
  (gf 21 h l0 16).bind fun x1 =>
  (gf 21 h l0 15).bind fun x2 =>
  some ((w64 (land (lshr x1 (5 * ((x2 - 1) - l1))) 31)) - 1))

def M_X11_checksMarks_p68 (h : Hp) (l0 l2 : Int) : Option Hp :=
  if w32 l2 = 0 then (
    (M_X11_flaw h l0 7).bind fun h =>
    some h
  ) else (
    some h
  )

def M_X11_checksMarks_p61 (h : Hp) (l0 l3 : Int) (s0 : Int) : Option ((Int × Int) ⊕ Int) :=
  some (.inl (s0, l3 + 1))

def M_X11_checksMarks_b29 (h : Hp) (l0 l2 l3 : Int) : Option ((Int × Int) ⊕ Int) :=
  (gf 21 h l0 15).bind fun x1 =>
  if w32 l3 < w32 x1 then (
    if w32 l2 = 0 then (
      some (.inr l2)
    ) else (
      (M_X11_markAt h l0 l3).bind fun x2 =>
      (gr 21 h l0 4).bind fun x3 =>
      (gf 20 h x3 2).bind fun x4 =>
      if w32 x2 < w32 x4 then (
        M_X11_checksMarks_p61 h l0 l3 1
      ) else (
        M_X11_checksMarks_p61 h l0 l3 0
      )
    )
  ) else (
    some (.inr l2)
  )

def M_X11_checksMarks_w29 (n : Nat) (h : Hp) (l0 l2 l3 : Int) : Option Hp :=
  (wh (S := (Int × Int)) (T := Int) (fun a => M_X11_checksMarks_b29 h l0 a.1 a.2) n (l2, l3)).bind (fun b => M_X11_checksMarks_p68 h l0 b)

def M_X11_checksMarks_p26 (h : Hp) (l0 : Int) (s0 : Int) : Option Hp :=
  M_X11_checksMarks_w29 FU h l0 s0 0

def M_X11_checksMarks_p13 (h : Hp) (l0 l1 : Int) : Option Hp :=
  (gf 21 h l0 15).bind fun x5 =>
  if w32 x5 = w32 l1 then (
    M_X11_checksMarks_p26 h l0 1
  ) else (
    M_X11_checksMarks_p26 h l0 0
  )

def M_X11_checksMarks (h : Hp) (l0 l1 : Int) : Option Hp := tk 21 h l0 (
  (gf 21 h l0 9).bind fun x6 =>
  if w32 x6 = 2 then (
    M_X11_checksMarks_p13 h l0 l1
  ) else (
    (M_X11_flaw h l0 1).bind fun h =>
    M_X11_checksMarks_p13 h l0 l1
  ))

def M_X11_knownMark (h : Hp) (l0 : Int) : Option (Hp × Int) := tk 21 h l0 (
  (M_X11_checksMarks h l0 1).bind fun h =>
  (gf 21 h l0 9).bind fun x1 =>
  if w32 x1 = 5 then (
    some (h, 0)
  ) else (
    (M_X11_markAt h l0 0).bind fun x2 =>
    some (h, x2)
  ))

def M_X11_readMark (h : Hp) (l0 : Int) : Option (Hp × Int) := tk 21 h l0 (
  bd (M_X11_knownMark h l0) fun h x1 =>
  (M_X11_goesOn h l0).bind fun h =>
  some (h, x1))

def M_X11_readRing_p15 (h : Hp) (l0 : Int) : Option Hp :=
  (M_X11_goesOn h l0).bind fun h =>
  bd (M_X11_readPart h l0 5 2 6) fun h x1 =>
  bd (M_X11_readPart h l0 6 2 6) fun h x2 =>
  bd (M_X11_readPart h l0 7 2 6) fun h x3 =>
  (gf 21 h l0 9).bind fun x4 =>
  if w32 x4 = 5 then (
    some h
  ) else (
    (gr 21 h l0 4).bind fun x5 =>
    (pf 20 h x5 0 x1).bind fun h =>
    (gr 21 h l0 4).bind fun x6 =>
    (pf 20 h x6 1 x2).bind fun h =>
    (gr 21 h l0 4).bind fun x7 =>
    (pf 20 h x7 2 x3).bind fun h =>
    some h
  )

def M_X11_readRing (h : Hp) (l0 : Int) : Option Hp := tk 21 h l0 (
  (gr 21 h l0 4).bind fun x8 =>
  (gf 20 h x8 0).bind fun x9 =>
  if 0 < w32 x9 then (
    (M_X11_flaw h l0 3).bind fun h =>
    M_X11_readRing_p15 h l0
  ) else (
    M_X11_readRing_p15 h l0
  ))

def M_X11_clears_p28 (h : Hp) : Option Hp :=
  some h

def M_X11_clears_b8 (h : Hp) (l1 l2 l3 : Int) : Option ((Hp × Int) ⊕ Hp) :=
  if w32 l3 < 4 then (
    (ast 1 h l1 ((4 * l2) + l3) (-2)).bind fun h =>
    some (.inl (h, l3 + 1))
  ) else (
    some (.inr h)
  )

def M_X11_clears_w8 (n : Nat) (h : Hp) (l1 l2 l3 : Int) : Option Hp :=
  (wh (S := (Hp × Int)) (T := Hp) (fun a => M_X11_clears_b8 a.1 l1 l2 a.2) n (h, l3)).bind (fun b => M_X11_clears_p28 b)

def M_X11_clears (h : Hp) (l0 l1 l2 : Int) : Option Hp := tk 21 h l0 (
  (ast 1 h l1 (4 * l2) 0).bind fun h =>
  M_X11_clears_w8 FU h l1 l2 1)

def M_X11_readTownLine_p196 (h : Hp) (l0 l1 : Int) : Option Hp :=
  (gf 21 h l0 9).bind fun x1 =>
  if w32 x1 = 5 then (
    some h
  ) else (
    (gr 21 h l0 4).bind fun x2 =>
    (gr 20 h x2 15).bind fun x3 =>
    (gr 21 h l0 4).bind fun x4 =>
    (gf 20 h x4 3).bind fun x5 =>
    (ast 2 h x3 x5 l1).bind fun h =>
    (gr 21 h l0 4).bind fun x6 =>
    (gr 20 h x6 8).bind fun x7 =>
    (gr 21 h l0 4).bind fun x8 =>
    (gf 20 h x8 3).bind fun x9 =>
    (ast 1 h x7 x9 (-2)).bind fun h =>
    (gr 21 h l0 4).bind fun x10 =>
    (gr 20 h x10 9).bind fun x11 =>
    (gr 21 h l0 4).bind fun x12 =>
    (gf 20 h x12 3).bind fun x13 =>
    (M_X11_clears h l0 x11 x13).bind fun h =>
    (gr 21 h l0 4).bind fun x14 =>
    (gf 20 h x14 3).bind fun x15 =>
    (pf 20 h x14 3 (x15 + 1)).bind fun h =>
    some h
  )

def M_X11_readTownLine_p186 (h : Hp) (l0 l1 l3 : Int) : Option ((Hp × Int) ⊕ (Hp ⊕ (Hp))) :=
  (M_X11_goesOn h l0).bind fun h =>
  some (.inl (h, l3 + 1))

def M_X11_readTownLine_b131 (h : Hp) (l0 l1 l3 l4 : Int) : Option ((Hp × Int) ⊕ Hp) :=
  (gr 21 h l0 4).bind fun x16 =>
  (gf 20 h x16 0).bind fun x17 =>
  if w32 l4 < w32 x17 then (
    (gr 21 h l0 4).bind fun x18 =>
    (gr 20 h x18 7).bind fun x19 =>
    (gr 21 h l0 4).bind fun x20 =>
    (gf 20 h x20 3).bind fun x21 =>
    (gr 21 h l0 4).bind fun x22 =>
    (gf 20 h x22 0).bind fun x23 =>
    (M_X11_markAt h l0 l4).bind fun x24 =>
    (ast 1 h x19 (((36 * x21) + (l3 * x23)) + l4) x24).bind fun h =>
    some (.inl (h, l4 + 1))
  ) else (
    some (.inr h)
  )

def M_X11_readTownLine_w131 (n : Nat) (h : Hp) (l0 l1 l3 l4 : Int) : Option ((Hp × Int) ⊕ (Hp ⊕ (Hp))) :=
  (wh (S := (Hp × Int)) (T := Hp) (fun a => M_X11_readTownLine_b131 a.1 l0 l1 l3 a.2) n (h, l4)).bind (fun b => M_X11_readTownLine_p186 b l0 l1 l3)

def M_X11_readTownLine_p108 (h : Hp) (l0 l1 l3 : Int) : Option ((Hp × Int) ⊕ (Hp ⊕ (Hp))) :=
  (gr 21 h l0 4).bind fun x25 =>
  (gf 20 h x25 0).bind fun x26 =>
  (M_X11_checksMarks h l0 x26).bind fun h =>
  (gf 21 h l0 9).bind fun x27 =>
  if w32 x27 = 5 then (
    some (.inr (.inr h))
  ) else (
    M_X11_readTownLine_w131 FU h l0 l1 l3 0
  )

def M_X11_readTownLine_p98 (h : Hp) (s0 : Int) : Option ((Hp × Int) ⊕ (Hp ⊕ (Hp))) :=
  (M_X11_flaw h s0 6).bind fun h =>
  some (.inr (.inr h))

def M_X11_readTownLine_b56 (h : Hp) (l0 l1 l3 : Int) : Option ((Hp × Int) ⊕ (Hp ⊕ (Hp))) :=
  (gr 21 h l0 4).bind fun x28 =>
  (gf 20 h x28 1).bind fun x29 =>
  if w32 l3 < w32 x29 then (
    if 0 < w32 l3 then (
      bd (M_X11_eatsSign h l0 44) fun h x30 =>
      if w32 x30 = 0 then (
        (M_X11_isSign h l0 59).bind fun x31 =>
        if w32 x31 = 0 then (
          (gf 21 h l0 9).bind fun x32 =>
          if w32 x32 = 1 then (
            M_X11_readTownLine_p98 h l0
          ) else (
            (M_X11_flaw h l0 1).bind fun h =>
            some (.inr (.inr h))
          )
        ) else (
          M_X11_readTownLine_p98 h l0
        )
      ) else (
        M_X11_readTownLine_p108 h l0 l1 l3
      )
    ) else (
      M_X11_readTownLine_p108 h l0 l1 l3
    )
  ) else (
    some (.inr (.inl h))
  )

def M_X11_readTownLine_w56 (n : Nat) (h : Hp) (l0 l1 l3 : Int) : Option Hp :=
  (wh (S := (Hp × Int)) (T := (Hp ⊕ (Hp))) (fun a => M_X11_readTownLine_b56 a.1 l0 l1 a.2) n (h, l3)).bind (fun z => exi z (fun b => M_X11_readTownLine_p196 b l0 l1) (fun q => some q))

def M_X11_readTownLine_p45 (h : Hp) (l0 : Int) : Option Hp :=
  (gf 21 h l0 16).bind fun x33 =>
  (M_X11_goesOn h l0).bind fun h =>
  M_X11_readTownLine_w56 FU h l0 x33 0

def M_X11_readTownLine_p25 (h : Hp) (l0 : Int) : Option Hp :=
  (gr 21 h l0 4).bind fun x34 =>
  (gf 21 h l0 16).bind fun x35 =>
  (M_X10_find h x34 x35).bind fun x36 =>
  if w32 x36 = (-1) then (
    M_X11_readTownLine_p45 h l0
  ) else (
    (M_X11_flaw h l0 3).bind fun h =>
    M_X11_readTownLine_p45 h l0
  )

def M_X11_readTownLine (h : Hp) (l0 : Int) : Option Hp := tk 21 h l0 (
  (gr 21 h l0 4).bind fun x37 =>
  (gf 20 h x37 3).bind fun x38 =>
  (M_X11_begins h l0 x38 6).bind fun h =>
  (M_X11_isName h l0).bind fun x39 =>
  if w32 x39 = 0 then (
    (M_X11_flaw h l0 1).bind fun h =>
    M_X11_readTownLine_p25 h l0
  ) else (
    M_X11_readTownLine_p25 h l0
  ))

def M_X11_sortOfError (h : Hp) (l0 : Int) : Option Int := tk 21 h l0 (
  (M_X11_isWord h l0 9).bind fun x1 =>
  if w32 x1 = 0 then (
    (M_X11_isWord h l0 10).bind fun x2 =>
    if w32 x2 = 0 then (
      (M_X11_isWord h l0 11).bind fun x3 =>
      if w32 x3 = 0 then (
        (M_X11_isWord h l0 12).bind fun x4 =>
        if w32 x4 = 0 then (
          (M_X11_isWord h l0 13).bind fun x5 =>
          if w32 x5 = 0 then (
            (M_X11_isWord h l0 14).bind fun x6 =>
            if w32 x6 = 0 then (
              (M_X11_isWord h l0 15).bind fun x7 =>
              if w32 x7 = 0 then (
                (M_X11_isWord h l0 16).bind fun x8 =>
                if w32 x8 = 0 then (
                  (M_X11_isWord h l0 17).bind fun x9 =>
                  if w32 x9 = 0 then (
                    (M_X11_isWord h l0 18).bind fun x10 =>
                    if w32 x10 = 0 then (
                      (M_X11_isWord h l0 19).bind fun x11 =>
                      if w32 x11 = 0 then (
                        some (-1)
                      ) else (
                        some 10
                      )
                    ) else (
                      some 9
                    )
                  ) else (
                    some 8
                  )
                ) else (
                  some 7
                )
              ) else (
                some 6
              )
            ) else (
              some 5
            )
          ) else (
            some 4
          )
        ) else (
          some 3
        )
      ) else (
        some 2
      )
    ) else (
      some 1
    )
  ) else (
    some 0
  ))

def M_X11_readError_p244 (h : Hp) (l0 l1 l2 l4 l5 l6 l7 : Int) : Option Hp :=
  (gf 21 h l0 9).bind fun x1 =>
  if w32 x1 = 5 then (
    some h
  ) else (
    (ast 1 h l1 (4 * l2) l4).bind fun h =>
    (ast 1 h l1 ((4 * l2) + 1) l5).bind fun h =>
    (ast 1 h l1 ((4 * l2) + 2) l6).bind fun h =>
    (ast 1 h l1 ((4 * l2) + 3) l7).bind fun h =>
    if w32 l4 = 10 then (
      (gr 21 h l0 4).bind fun x2 =>
      (gf 20 h x2 6).bind fun x3 =>
      (pf 20 h x2 6 (x3 + 1)).bind fun h =>
      some h
    ) else (
      some h
    )
  )

def M_X11_readError_p221 (h : Hp) (l0 l1 l2 l4 l5 l6 l7 : Int) : Option Hp :=
  (M_X11_goesOn h l0).bind fun h =>
  M_X11_readError_p244 h l0 l1 l2 l4 l5 l6 l7

def M_X11_readError_p106 (h : Hp) (l0 l1 l2 l4 l5 l6 l7 : Int) : Option Hp :=
  if w32 l4 = 1 then (
    (gr 21 h l0 4).bind fun x11 =>
    (gf 20 h x11 0).bind fun x12 =>
    bd (M_X11_readWhole h l0 0 (x12 - 1)) fun h x13 =>
    (gr 21 h l0 4).bind fun x14 =>
    (gf 20 h x14 1).bind fun x15 =>
    bd (M_X11_readWhole h l0 0 (x15 - 1)) fun h x16 =>
    M_X11_readError_p244 h l0 l1 l2 l4 l5 x13 x16
  ) else (
    if w32 l4 = 2 then (
      (gr 21 h l0 4).bind fun x8 =>
      (gf 20 h x8 0).bind fun x9 =>
      bd (M_X11_readWhole h l0 1 (x9 - 1)) fun h x10 =>
      M_X11_readError_p244 h l0 l1 l2 l4 x10 l6 l7
    ) else (
      if w32 l4 = 3 then (
        bd (M_X11_readWhole h l0 0 5) fun h x6 =>
        bd (M_X11_readWhole h l0 0 5) fun h x7 =>
        M_X11_readError_p244 h l0 l1 l2 l4 x6 x7 l7
      ) else (
        if w32 l4 = 5 then (
          bd (M_X11_knownMark h l0) fun h x5 =>
          if w32 l5 = w32 x5 then (
            (M_X11_flaw h l0 3).bind fun h =>
            M_X11_readError_p221 h l0 l1 l2 l4 l5 x5 l7
          ) else (
            M_X11_readError_p221 h l0 l1 l2 l4 l5 x5 l7
          )
        ) else (
          if w32 l4 = 8 then (
            bd (M_X11_readWhole h l0 5 9) fun h x4 =>
            M_X11_readError_p244 h l0 l1 l2 l4 x4 l6 l7
          ) else (
            M_X11_readError_p244 h l0 l1 l2 l4 l5 l6 l7
          )
        )
      )
    )
  )

def M_X11_readError_p100 (h : Hp) (l0 l1 l2 l4 l6 l7 : Int) : Option Hp :=
  bd (M_X11_readMark h l0) fun h x17 =>
  M_X11_readError_p106 h l0 l1 l2 l4 x17 l6 l7

def M_X11_readError_p51 (h : Hp) (l0 l1 l2 l4 : Int) : Option Hp :=
  (M_X11_goesOn h l0).bind fun h =>
  if w32 l4 = 1 then (
    M_X11_readError_p100 h l0 l1 l2 l4 (-2) (-2)
  ) else (
    if w32 l4 = 6 then (
      M_X11_readError_p100 h l0 l1 l2 l4 (-2) (-2)
    ) else (
      if w32 l4 = 7 then (
        M_X11_readError_p100 h l0 l1 l2 l4 (-2) (-2)
      ) else (
        if w32 l4 = 9 then (
          M_X11_readError_p100 h l0 l1 l2 l4 (-2) (-2)
        ) else (
          if w32 l4 = 5 then (
            M_X11_readError_p100 h l0 l1 l2 l4 (-2) (-2)
          ) else (
            M_X11_readError_p106 h l0 l1 l2 l4 (-2) (-2) (-2)
          )
        )
      )
    )
  )

def M_X11_readError_p28 (h : Hp) (l0 l1 l2 l4 : Int) : Option Hp :=
  if w32 l4 = 10 then (
    (gr 21 h l0 4).bind fun x18 =>
    (gf 20 h x18 6).bind fun x19 =>
    if w32 x19 = 4 then (
      (M_X11_flaw h l0 5).bind fun h =>
      M_X11_readError_p51 h l0 l1 l2 l4
    ) else (
      M_X11_readError_p51 h l0 l1 l2 l4
    )
  ) else (
    M_X11_readError_p51 h l0 l1 l2 l4
  )

def M_X11_readError_p23 (h : Hp) (l0 l1 l2 l4 : Int) : Option Hp :=
  (M_X11_flaw h l0 1).bind fun h =>
  M_X11_readError_p28 h l0 l1 l2 l4

def M_X11_readError (h : Hp) (l0 l1 l2 l3 : Int) : Option Hp := tk 21 h l0 (
  (M_X11_sortOfError h l0).bind fun x20 =>
  if w32 x20 = (-1) then (
    M_X11_readError_p23 h l0 l1 l2 x20
  ) else (
    if w32 l3 = 0 then (
      M_X11_readError_p28 h l0 l1 l2 x20
    ) else (
      if 8 < w32 x20 then (
        M_X11_readError_p23 h l0 l1 l2 x20
      ) else (
        M_X11_readError_p28 h l0 l1 l2 x20
      )
    )
  ))

def M_X11_readCopies_p38 (h : Hp) (l0 l1 : Int) : Option Hp :=
  (M_X11_goesOn h l0).bind fun h =>
  bd (M_X11_readTown h l0) fun h x1 =>
  (M_X11_needs h l0 8).bind fun h =>
  (gr 21 h l0 4).bind fun x2 =>
  (gr 20 h x2 9).bind fun x3 =>
  (M_X11_readError h l0 x3 l1 0).bind fun h =>
  (gf 21 h l0 9).bind fun x4 =>
  if w32 x4 = 5 then (
    some h
  ) else (
    (gr 21 h l0 4).bind fun x5 =>
    (gr 20 h x5 8).bind fun x6 =>
    (ast 1 h x6 l1 x1).bind fun h =>
    some h
  )

def M_X11_readCopies (h : Hp) (l0 : Int) : Option Hp := tk 21 h l0 (
  (M_X11_begins h l0 0 1).bind fun h =>
  bd (M_X11_knownTown h l0) fun h x7 =>
  (gf 21 h l0 9).bind fun x8 =>
  if w32 x8 = 5 then (
    M_X11_readCopies_p38 h l0 x7
  ) else (
    (gr 21 h l0 4).bind fun x9 =>
    (gr 20 h x9 8).bind fun x10 =>
    (ald 1 h x10 x7).bind fun x11 =>
    if w32 x11 = (-2) then (
      M_X11_readCopies_p38 h l0 x7
    ) else (
      (M_X11_flaw h l0 3).bind fun h =>
      M_X11_readCopies_p38 h l0 x7
    )
  ))

def M_X11_readGuess (h : Hp) (l0 : Int) : Option Hp := tk 21 h l0 (
  (gr 21 h l0 4).bind fun x1 =>
  (gf 20 h x1 4).bind fun x2 =>
  (M_X11_begins h l0 x2 5).bind fun h =>
  (gf 21 h l0 9).bind fun x3 =>
  if w32 x3 = 5 then (
    some h
  ) else (
    (gr 21 h l0 4).bind fun x4 =>
    (gr 20 h x4 10).bind fun x5 =>
    (gr 21 h l0 4).bind fun x6 =>
    (gf 20 h x6 4).bind fun x7 =>
    (M_X11_readError h l0 x5 x7 1).bind fun h =>
    (gf 21 h l0 9).bind fun x8 =>
    if w32 x8 = 5 then (
      some h
    ) else (
      (gr 21 h l0 4).bind fun x9 =>
      (gf 20 h x9 4).bind fun x10 =>
      (pf 20 h x9 4 (x10 + 1)).bind fun h =>
      some h
    )
  ))

def M_X11_readSeen (h : Hp) (l0 : Int) : Option Hp := tk 21 h l0 (
  (gr 21 h l0 4).bind fun x1 =>
  (gf 20 h x1 5).bind fun x2 =>
  (M_X11_begins h l0 x2 8).bind fun h =>
  bd (M_X11_readTown h l0) fun h x3 =>
  bd (M_X11_readWhole h l0 1 20) fun h x4 =>
  (gr 21 h l0 4).bind fun x5 =>
  (gf 20 h x5 0).bind fun x6 =>
  bd (M_X11_readWhole h l0 0 (x6 - 1)) fun h x7 =>
  (gr 21 h l0 4).bind fun x8 =>
  (gf 20 h x8 1).bind fun x9 =>
  bd (M_X11_readWhole h l0 0 (x9 - 1)) fun h x10 =>
  bd (M_X11_readMark h l0) fun h x11 =>
  (gf 21 h l0 9).bind fun x12 =>
  if w32 x12 = 5 then (
    some h
  ) else (
    (gr 21 h l0 4).bind fun x13 =>
    (gr 20 h x13 11).bind fun x14 =>
    (gr 21 h l0 4).bind fun x15 =>
    (gf 20 h x15 5).bind fun x16 =>
    (ast 1 h x14 x16 x3).bind fun h =>
    (gr 21 h l0 4).bind fun x17 =>
    (gr 20 h x17 12).bind fun x18 =>
    (gr 21 h l0 4).bind fun x19 =>
    (gf 20 h x19 5).bind fun x20 =>
    (ast 1 h x18 x20 x4).bind fun h =>
    (gr 21 h l0 4).bind fun x21 =>
    (gr 20 h x21 13).bind fun x22 =>
    (gr 21 h l0 4).bind fun x23 =>
    (gf 20 h x23 5).bind fun x24 =>
    (gr 21 h l0 4).bind fun x25 =>
    (gf 20 h x25 0).bind fun x26 =>
    (ast 1 h x22 x24 ((x10 * x26) + x7)).bind fun h =>
    (gr 21 h l0 4).bind fun x27 =>
    (gr 20 h x27 14).bind fun x28 =>
    (gr 21 h l0 4).bind fun x29 =>
    (gf 20 h x29 5).bind fun x30 =>
    (ast 1 h x28 x30 x11).bind fun h =>
    (gr 21 h l0 4).bind fun x31 =>
    (gf 20 h x31 5).bind fun x32 =>
    (pf 20 h x31 5 (x32 + 1)).bind fun h =>
    some h
  ))

def M_X11_readLine (h : Hp) (l0 : Int) : Option Hp := tk 21 h l0 (
  (M_X11_isWord h l0 0).bind fun x1 =>
  if w32 x1 = 0 then (
    (M_X11_isWord h l0 1).bind fun x2 =>
    if w32 x2 = 0 then (
      (M_X11_isWord h l0 2).bind fun x3 =>
      if w32 x3 = 0 then (
        (M_X11_isWord h l0 3).bind fun x4 =>
        if w32 x4 = 0 then (
          (M_X11_isWord h l0 4).bind fun x5 =>
          if w32 x5 = 0 then (
            (M_X11_flaw h l0 1).bind fun h =>
            some h
          ) else (
            (M_X11_readSeen h l0).bind fun h =>
            some h
          )
        ) else (
          (M_X11_readGuess h l0).bind fun h =>
          some h
        )
      ) else (
        (M_X11_readCopies h l0).bind fun h =>
        some h
      )
    ) else (
      (M_X11_readTownLine h l0).bind fun h =>
      some h
    )
  ) else (
    (M_X11_readRing h l0).bind fun h =>
    some h
  ))

def M_X11_readAll_p33 (h : Hp) (l0 : Int) : Option Hp :=
  (gr 21 h l0 4).bind fun x1 =>
  (gf 20 h x1 3).bind fun x2 =>
  if w32 x2 = 0 then (
    (M_X11_flaw h l0 6).bind fun h =>
    some h
  ) else (
    some h
  )

def M_X11_readAll_p20 (h : Hp) (l0 : Int) : Option Hp :=
  (gf 21 h l0 9).bind fun x3 =>
  if w32 x3 = 1 then (
    M_X11_readAll_p33 h l0
  ) else (
    (M_X11_flaw h l0 1).bind fun h =>
    M_X11_readAll_p33 h l0
  )

def M_X11_readAll_b2 (h : Hp) (l0 l1 : Int) : Option ((Hp × Int) ⊕ Hp) :=
  if w32 l1 = 0 then (
    some (.inr h)
  ) else (
    (M_X11_readLine h l0).bind fun h =>
    bd (M_X11_eatsSign h l0 59) fun h x4 =>
    some (.inl (h, x4))
  )

def M_X11_readAll_w2 (n : Nat) (h : Hp) (l0 l1 : Int) : Option Hp :=
  (wh (S := (Hp × Int)) (T := Hp) (fun a => M_X11_readAll_b2 a.1 l0 a.2) n (h, l1)).bind (fun b => M_X11_readAll_p20 b l0)

def M_X11_readAll (h : Hp) (l0 : Int) : Option Hp := tk 21 h l0 (
  M_X11_readAll_w2 FU h l0 1)

def M_X11_feed_p117 (h : Hp) (l0 : Int) : Option (Hp × Int) :=
  (gf 21 h l0 6).bind fun x1 =>
  some (h, x1)

def M_X11_feed_p76 (h : Hp) (l0 l1 l2 l3 l4 l5 l6 : Int) (s0 : Int) : Option ((Hp × Int) ⊕ Hp) :=
  (gr 21 h l0 5).bind fun x2 =>
  (gf 21 h l0 6).bind fun x3 =>
  (irm l6 4).bind fun x4 =>
  (astB h x2 x3 (i2b (ishr s0 (24 - (8 * x4))))).bind fun h =>
  (gf 21 h l0 6).bind fun x5 =>
  (pf 21 h l0 6 (x5 + 1)).bind fun h =>
  some (.inl (h, l6 + 1))

def M_X11_feed_b23 (h : Hp) (l0 l1 l2 l3 l4 l5 l6 : Int) : Option ((Hp × Int) ⊕ Hp) :=
  if w32 l6 < 20 then (
    if w32 l6 < 4 then (
      M_X11_feed_p76 h l0 l1 l2 l3 l4 l5 l6 l1
    ) else (
      if w32 l6 < 8 then (
        M_X11_feed_p76 h l0 l1 l2 l3 l4 l5 l6 l2
      ) else (
        if w32 l6 < 12 then (
          M_X11_feed_p76 h l0 l1 l2 l3 l4 l5 l6 l3
        ) else (
          if w32 l6 < 16 then (
            M_X11_feed_p76 h l0 l1 l2 l3 l4 l5 l6 l4
          ) else (
            M_X11_feed_p76 h l0 l1 l2 l3 l4 l5 l6 l5
          )
        )
      )
    )
  ) else (
    some (.inr h)
  )

def M_X11_feed_w23 (n : Nat) (h : Hp) (l0 l1 l2 l3 l4 l5 l6 : Int) : Option (Hp × Int) :=
  (wh (S := (Hp × Int)) (T := Hp) (fun a => M_X11_feed_b23 a.1 l0 l1 l2 l3 l4 l5 a.2) n (h, l6)).bind (fun b => M_X11_feed_p117 b l0)

def M_X11_feed (h : Hp) (l0 l1 l2 l3 l4 l5 : Int) : Option (Hp × Int) := tk 21 h l0 (
  (pf 21 h l0 0 0).bind fun h =>
  (gf 21 h l0 6).bind fun x6 =>
  if 900 < w32 (x6 + 20) then (
    some (h, (-1))
  ) else (
    M_X11_feed_w23 FU h l0 l1 l2 l3 l4 l5 0
  ))

def M_X11_ring_p216 (h : Hp) (l0 : Int) : Option (Hp × Int) :=
  (gr 21 h l0 17).bind fun x1 =>
  (ast 1 h x1 246 0).bind fun h =>
  (gr 21 h l0 17).bind fun x2 =>
  (ast 1 h x2 247 0).bind fun h =>
  (pf 21 h l0 20 0).bind fun h =>
  (pf 21 h l0 21 0).bind fun h =>
  (gr 21 h l0 3).bind fun x3 =>
  (gf 20 h x3 3).bind fun x4 =>
  bd (M_X11_good h l0 x4) fun h x5 =>
  some (h, x5)

def M_X11_ring_p210 (h : Hp) (l0 l2 : Int) : Option ((Hp × Int) ⊕ Hp) :=
  some (.inl (h, l2 + 1))

def M_X11_ring_b172 (h : Hp) (l0 l2 l3 : Int) : Option ((Hp × Int) ⊕ Hp) :=
  if w32 l3 < 4 then (
    (gr 21 h l0 17).bind fun x6 =>
    (gr 21 h l0 3).bind fun x7 =>
    (gr 20 h x7 9).bind fun x8 =>
    (ald 1 h x8 ((4 * l2) + l3)).bind fun x9 =>
    (ast 1 h x6 ((222 + (4 * l2)) + l3) x9).bind fun h =>
    some (.inl (h, l3 + 1))
  ) else (
    some (.inr h)
  )

def M_X11_ring_w172 (n : Nat) (h : Hp) (l0 l2 l3 : Int) : Option ((Hp × Int) ⊕ Hp) :=
  (wh (S := (Hp × Int)) (T := Hp) (fun a => M_X11_ring_b172 a.1 l0 l2 a.2) n (h, l3)).bind (fun b => M_X11_ring_p210 b l0 l2)

def M_X11_ring_p169 (h : Hp) (l0 l2 : Int) (s0 s1 s2 : Int) : Option ((Hp × Int) ⊕ Hp) :=
  (ast 1 h s0 s1 s2).bind fun h =>
  M_X11_ring_w172 FU h l0 l2 0

def M_X11_ring_b129 (h : Hp) (l0 l2 : Int) : Option ((Hp × Int) ⊕ Hp) :=
  if w32 l2 < 6 then (
    (gr 21 h l0 17).bind fun x10 =>
    (gr 21 h l0 3).bind fun x11 =>
    (gf 20 h x11 3).bind fun x12 =>
    if w32 l2 < w32 x12 then (
      (gr 21 h l0 3).bind fun x13 =>
      (gr 20 h x13 8).bind fun x14 =>
      (ald 1 h x14 l2).bind fun x15 =>
      M_X11_ring_p169 h l0 l2 x10 (216 + l2) x15
    ) else (
      M_X11_ring_p169 h l0 l2 x10 (216 + l2) (-2)
    )
  ) else (
    some (.inr h)
  )

def M_X11_ring_w129 (n : Nat) (h : Hp) (l0 l2 : Int) : Option (Hp × Int) :=
  (wh (S := (Hp × Int)) (T := Hp) (fun a => M_X11_ring_b129 a.1 l0 a.2) n (h, l2)).bind (fun b => M_X11_ring_p216 b l0)

def M_X11_ring_p127 (h : Hp) (l0 : Int) : Option (Hp × Int) :=
  M_X11_ring_w129 FU h l0 0

def M_X11_ring_b99 (h : Hp) (l0 l2 : Int) : Option ((Hp × Int) ⊕ Hp) :=
  if w32 l2 < 216 then (
    (gr 21 h l0 17).bind fun x16 =>
    (gr 21 h l0 3).bind fun x17 =>
    (gr 20 h x17 7).bind fun x18 =>
    (ald 1 h x18 l2).bind fun x19 =>
    (ast 1 h x16 l2 x19).bind fun h =>
    some (.inl (h, l2 + 1))
  ) else (
    some (.inr h)
  )

def M_X11_ring_w99 (n : Nat) (h : Hp) (l0 l2 : Int) : Option (Hp × Int) :=
  (wh (S := (Hp × Int)) (T := Hp) (fun a => M_X11_ring_b99 a.1 l0 a.2) n (h, l2)).bind (fun b => M_X11_ring_p127 b l0)

def M_X11_ring (h : Hp) (l0 l1 : Int) : Option (Hp × Int) := tk 21 h l0 (
  (pf 21 h l0 0 0).bind fun h =>
  if w32 l1 < 0 then (
    bd (M_X11_refused h l0 2) fun h x20 =>
    some (h, x20)
  ) else (
    (gf 21 h l0 6).bind fun x21 =>
    if w32 x21 < w32 l1 then (
      bd (M_X11_refused h l0 2) fun h x26 =>
      some (h, x26)
    ) else (
      (pf 21 h l0 7 l1).bind fun h =>
      (pf 21 h l0 6 0).bind fun h =>
      (pf 21 h l0 8 0).bind fun h =>
      (pf 21 h l0 13 0).bind fun h =>
      nb (nwo 10 (dflt 10) h) h.2.2.2 fun h x22 =>
      (M_X10_init h x22).bind fun h =>
      rp x22 (pf 21 h l0 4 x22) fun h =>
      (pf 21 h l0 9 0).bind fun h =>
      (M_X11_goesOn h l0).bind fun h =>
      (M_X11_readAll h l0).bind fun h =>
      (gf 21 h l0 13).bind fun x23 =>
      if 0 < w32 x23 then (
        (pf 21 h l0 1 4).bind fun h =>
        (gf 21 h l0 14).bind fun x25 =>
        (pf 21 h l0 2 x25).bind fun h =>
        some (h, (-1))
      ) else (
        (gr 21 h l0 4).bind fun x24 =>
        rp x24 (pf 21 h l0 3 x24) fun h =>
        M_X11_ring_w99 FU h l0 0
      )
    )
  ))

def M_X11_fault (h : Hp) (l0 : Int) : Option (Hp × Int) := tk 21 h l0 (
  (pf 21 h l0 0 0).bind fun h =>
  (gf 21 h l0 13).bind fun x1 =>
  some (h, x1))

def M_X11_where (h : Hp) (l0 : Int) : Option (Hp × Int) := tk 21 h l0 (
  (pf 21 h l0 0 0).bind fun h =>
  (gf 21 h l0 2).bind fun x1 =>
  some (h, x1))

def M_X11_isTown (h : Hp) (l0 l1 : Int) : Option Int := tk 21 h l0 (
  (gf 21 h l0 3).bind fun x1 =>
  if x1 < 0 then (
    some 0
  ) else (
    if w32 l1 < 0 then (
      some 0
    ) else (
      (gr 21 h l0 3).bind fun x2 =>
      (gf 20 h x2 3).bind fun x3 =>
      if w32 l1 < w32 x3 then (
        some 1
      ) else (
        some 0
      )
    )
  ))

def M_X11_isMark (h : Hp) (l0 l1 : Int) : Option Int := tk 21 h l0 (
  if w32 l1 < 0 then (
    some 0
  ) else (
    (gr 21 h l0 3).bind fun x1 =>
    (gf 20 h x1 2).bind fun x2 =>
    if w32 l1 < w32 x2 then (
      some 1
    ) else (
      some 0
    )
  ))

def M_X11_placeOf (h : Hp) (l0 l1 : Int) : Option Int := tk 21 h l0 (
  (idv l1 10).bind fun x1 =>
  (irm l1 10).bind fun x2 =>
  if w32 l1 < 0 then (
    some (-1)
  ) else (
    (gr 21 h l0 3).bind fun x3 =>
    (gf 20 h x3 0).bind fun x4 =>
    if w32 x1 < w32 x4 then (
      (gr 21 h l0 3).bind fun x5 =>
      (gf 20 h x5 1).bind fun x6 =>
      if w32 x2 < w32 x6 then (
        (gr 21 h l0 3).bind fun x7 =>
        (gf 20 h x7 0).bind fun x8 =>
        some ((x2 * x8) + x1)
      ) else (
        some (-1)
      )
    ) else (
      some (-1)
    )
  ))

def M_X11_told (h : Hp) (l0 l1 : Int) : Option Int := tk 21 h l0 (
  (gr 21 h l0 3).bind fun x1 =>
  (gf 20 h x1 0).bind fun x2 =>
  (irm l1 x2).bind fun x3 =>
  (gr 21 h l0 3).bind fun x4 =>
  (gf 20 h x4 0).bind fun x5 =>
  (idv l1 x5).bind fun x6 =>
  some ((10 * x3) + x6))

def M_X11_isPlace (h : Hp) (l0 l1 l2 : Int) : Option Int := tk 21 h l0 (
  (M_X11_isTown h l0 l1).bind fun x1 =>
  if w32 x1 = 0 then (
    some 0
  ) else (
    (M_X11_placeOf h l0 l2).bind fun x2 =>
    if w32 x2 = (-1) then (
      some 0
    ) else (
      some 1
    )
  ))

def M_X11_starts_p94 (h : Hp) (l0 : Int) : Option Hp :=
  (gr 21 h l0 17).bind fun x1 =>
  (ald 1 h x1 247).bind fun x2 =>
  (pf 21 h l0 26 x2).bind fun h =>
  some h

def M_X11_starts_p88 (h : Hp) (l0 l1 : Int) : Option ((Hp × Int) ⊕ Hp) :=
  some (.inl (h, l1 + 1))

def M_X11_starts_b53 (h : Hp) (l0 l1 l2 : Int) : Option ((Hp × Int) ⊕ Hp) :=
  if w32 l2 < 4 then (
    (gr 21 h l0 24).bind fun x3 =>
    (gr 21 h l0 17).bind fun x4 =>
    (ald 1 h x4 ((222 + (4 * l1)) + l2)).bind fun x5 =>
    (ast 1 h x3 ((4 * l1) + l2) x5).bind fun h =>
    some (.inl (h, l2 + 1))
  ) else (
    some (.inr h)
  )

def M_X11_starts_w53 (n : Nat) (h : Hp) (l0 l1 l2 : Int) : Option ((Hp × Int) ⊕ Hp) :=
  (wh (S := (Hp × Int)) (T := Hp) (fun a => M_X11_starts_b53 a.1 l0 l1 a.2) n (h, l2)).bind (fun b => M_X11_starts_p88 b l0 l1)

def M_X11_starts_b29 (h : Hp) (l0 l1 : Int) : Option ((Hp × Int) ⊕ Hp) :=
  if w32 l1 < 6 then (
    (gr 21 h l0 23).bind fun x6 =>
    (gr 21 h l0 17).bind fun x7 =>
    (ald 1 h x7 (216 + l1)).bind fun x8 =>
    (ast 1 h x6 l1 x8).bind fun h =>
    M_X11_starts_w53 FU h l0 l1 0
  ) else (
    some (.inr h)
  )

def M_X11_starts_w29 (n : Nat) (h : Hp) (l0 l1 : Int) : Option Hp :=
  (wh (S := (Hp × Int)) (T := Hp) (fun a => M_X11_starts_b29 a.1 l0 a.2) n (h, l1)).bind (fun b => M_X11_starts_p94 b l0)

def M_X11_starts_p27 (h : Hp) (l0 : Int) : Option Hp :=
  M_X11_starts_w29 FU h l0 0

def M_X11_starts_b2 (h : Hp) (l0 l1 : Int) : Option ((Hp × Int) ⊕ Hp) :=
  if w32 l1 < 216 then (
    (gr 21 h l0 22).bind fun x9 =>
    (gr 21 h l0 17).bind fun x10 =>
    (ald 1 h x10 l1).bind fun x11 =>
    (ast 1 h x9 l1 x11).bind fun h =>
    some (.inl (h, l1 + 1))
  ) else (
    some (.inr h)
  )

def M_X11_starts_w2 (n : Nat) (h : Hp) (l0 l1 : Int) : Option Hp :=
  (wh (S := (Hp × Int)) (T := Hp) (fun a => M_X11_starts_b2 a.1 l0 a.2) n (h, l1)).bind (fun b => M_X11_starts_p27 b l0)

def M_X11_starts (h : Hp) (l0 : Int) : Option Hp := tk 21 h l0 (
  M_X11_starts_w2 FU h l0 0)

def M_X11_startsTold_p111 (h : Hp) (l0 : Int) : Option Hp :=
  (pf 21 h l0 26 0).bind fun h =>
  some h

def M_X11_startsTold_p105 (h : Hp) (l0 l1 : Int) : Option ((Hp × Int) ⊕ Hp) :=
  some (.inl (h, l1 + 1))

def M_X11_startsTold_b71 (h : Hp) (l0 l1 l2 : Int) : Option ((Hp × Int) ⊕ Hp) :=
  if w32 l2 < 4 then (
    (gr 21 h l0 24).bind fun x1 =>
    (gr 21 h l0 3).bind fun x2 =>
    (gr 20 h x2 9).bind fun x3 =>
    (ald 1 h x3 ((4 * l1) + l2)).bind fun x4 =>
    (ast 1 h x1 ((4 * l1) + l2) x4).bind fun h =>
    some (.inl (h, l2 + 1))
  ) else (
    some (.inr h)
  )

def M_X11_startsTold_w71 (n : Nat) (h : Hp) (l0 l1 l2 : Int) : Option ((Hp × Int) ⊕ Hp) :=
  (wh (S := (Hp × Int)) (T := Hp) (fun a => M_X11_startsTold_b71 a.1 l0 l1 a.2) n (h, l2)).bind (fun b => M_X11_startsTold_p105 b l0 l1)

def M_X11_startsTold_p68 (h : Hp) (l0 l1 : Int) (s0 s1 s2 : Int) : Option ((Hp × Int) ⊕ Hp) :=
  (ast 1 h s0 s1 s2).bind fun h =>
  M_X11_startsTold_w71 FU h l0 l1 0

def M_X11_startsTold_b32 (h : Hp) (l0 l1 : Int) : Option ((Hp × Int) ⊕ Hp) :=
  if w32 l1 < 6 then (
    (gr 21 h l0 23).bind fun x5 =>
    (gr 21 h l0 3).bind fun x6 =>
    (gf 20 h x6 3).bind fun x7 =>
    if w32 l1 < w32 x7 then (
      (gr 21 h l0 3).bind fun x8 =>
      (gr 20 h x8 8).bind fun x9 =>
      (ald 1 h x9 l1).bind fun x10 =>
      M_X11_startsTold_p68 h l0 l1 x5 l1 x10
    ) else (
      M_X11_startsTold_p68 h l0 l1 x5 l1 (-2)
    )
  ) else (
    some (.inr h)
  )

def M_X11_startsTold_w32 (n : Nat) (h : Hp) (l0 l1 : Int) : Option Hp :=
  (wh (S := (Hp × Int)) (T := Hp) (fun a => M_X11_startsTold_b32 a.1 l0 a.2) n (h, l1)).bind (fun b => M_X11_startsTold_p111 b l0)

def M_X11_startsTold_p30 (h : Hp) (l0 : Int) : Option Hp :=
  M_X11_startsTold_w32 FU h l0 0

def M_X11_startsTold_b2 (h : Hp) (l0 l1 : Int) : Option ((Hp × Int) ⊕ Hp) :=
  if w32 l1 < 216 then (
    (gr 21 h l0 22).bind fun x11 =>
    (gr 21 h l0 3).bind fun x12 =>
    (gr 20 h x12 7).bind fun x13 =>
    (ald 1 h x13 l1).bind fun x14 =>
    (ast 1 h x11 l1 x14).bind fun h =>
    some (.inl (h, l1 + 1))
  ) else (
    some (.inr h)
  )

def M_X11_startsTold_w2 (n : Nat) (h : Hp) (l0 l1 : Int) : Option Hp :=
  (wh (S := (Hp × Int)) (T := Hp) (fun a => M_X11_startsTold_b2 a.1 l0 a.2) n (h, l1)).bind (fun b => M_X11_startsTold_p30 b l0)

def M_X11_startsTold (h : Hp) (l0 : Int) : Option Hp := tk 21 h l0 (
  M_X11_startsTold_w2 FU h l0 0)

def M_X11_column (h : Hp) (l0 l1 : Int) : Option Int := tk 21 h l0 (
  (gr 21 h l0 3).bind fun x1 =>
  (gf 20 h x1 0).bind fun x2 =>
  (irm l1 x2).bind fun x3 =>
  some x3)

def M_X11_rowOf (h : Hp) (l0 l1 : Int) : Option Int := tk 21 h l0 (
  (gr 21 h l0 3).bind fun x1 =>
  (gf 20 h x1 0).bind fun x2 =>
  (idv l1 x2).bind fun x3 =>
  some x3)

def M_X11_at (h : Hp) (l0 l1 l2 : Int) : Option Int := tk 21 h l0 (
  (gr 21 h l0 3).bind fun x1 =>
  (gf 20 h x1 0).bind fun x2 =>
  some ((l2 * x2) + l1))

def M_X11_from (h : Hp) (l0 l1 l2 : Int) : Option Int := tk 21 h l0 (
  (M_X11_column h l0 l2).bind fun x1 =>
  (M_X11_rowOf h l0 l2).bind fun x2 =>
  (gr 21 h l0 24).bind fun x3 =>
  (ald 1 h x3 ((4 * l1) + 1)).bind fun x4 =>
  (gr 21 h l0 24).bind fun x5 =>
  (ald 1 h x5 ((4 * l1) + 2)).bind fun x6 =>
  (gr 21 h l0 24).bind fun x7 =>
  (ald 1 h x7 (4 * l1)).bind fun x8 =>
  if w32 x8 = 2 then (
    if w32 x1 < w32 x4 then (
      (M_X11_at h l0 x1 x2).bind fun x11 =>
      some x11
    ) else (
      if w32 (((2 * x4) - 1) - x1) < 0 then (
        (M_X11_at h l0 0 x2).bind fun x10 =>
        some x10
      ) else (
        (M_X11_at h l0 (((2 * x4) - 1) - x1) x2).bind fun x9 =>
        some x9
      )
    )
  ) else (
  if w32 x8 = 3 then (
    (gr 21 h l0 3).bind fun x12 =>
    (gf 20 h x12 0).bind fun x13 =>
    (gr 21 h l0 3).bind fun x14 =>
    (gf 20 h x14 0).bind fun x15 =>
    (irm ((x1 + (x13 * 5)) - x4) x15).bind fun x16 =>
    (gr 21 h l0 3).bind fun x17 =>
    (gf 20 h x17 1).bind fun x18 =>
    (gr 21 h l0 3).bind fun x19 =>
    (gf 20 h x19 1).bind fun x20 =>
    (irm ((x2 + (x18 * 5)) - x6) x20).bind fun x21 =>
    (M_X11_at h l0 x16 x21).bind fun x22 =>
    some x22
  ) else (
  if w32 x8 = 4 then (
    (gr 21 h l0 3).bind fun x23 =>
    (gf 20 h x23 0).bind fun x24 =>
    (gr 21 h l0 3).bind fun x25 =>
    (gf 20 h x25 1).bind fun x26 =>
    (M_X11_at h l0 ((x24 - 1) - x1) ((x26 - 1) - x2)).bind fun x27 =>
    some x27
  ) else (
  if w32 x8 = 8 then (
    (idv (x1 * x4) 10).bind fun x28 =>
    (idv (x2 * x4) 10).bind fun x29 =>
    (M_X11_at h l0 x28 x29).bind fun x30 =>
    some x30
  ) else (
    some l2
  )))))

def M_X11_beside_p49 (h : Hp) (l0 l3 : Int) (s0 s1 : Int) : Option Int :=
  (gr 21 h l0 3).bind fun x1 =>
  (gf 20 h x1 0).bind fun x2 =>
  (M_X11_in h l3 0 (x2 - 1)).bind fun x3 =>
  if w32 x3 = 0 then (
    some (-1)
  ) else (
    (gr 21 h l0 3).bind fun x4 =>
    (gf 20 h x4 1).bind fun x5 =>
    (M_X11_in h (s0 + s1) 0 (x5 - 1)).bind fun x6 =>
    if w32 x6 = 0 then (
      some (-1)
    ) else (
      (M_X11_at h l0 l3 (s0 + s1)).bind fun x7 =>
      some x7
    )
  )

def M_X11_beside_p23 (h : Hp) (l0 l1 l2 : Int) (s0 s1 : Int) : Option Int :=
  (M_X11_rowOf h l0 l1).bind fun x8 =>
  if w32 l2 = 2 then (
    M_X11_beside_p49 h l0 (s0 + s1) x8 (-1)
  ) else (
    if w32 l2 = 3 then (
      M_X11_beside_p49 h l0 (s0 + s1) x8 1
    ) else (
      M_X11_beside_p49 h l0 (s0 + s1) x8 0
    )
  )

def M_X11_beside (h : Hp) (l0 l1 l2 : Int) : Option Int := tk 21 h l0 (
  (M_X11_column h l0 l1).bind fun x9 =>
  if w32 l2 = 0 then (
    M_X11_beside_p23 h l0 l1 l2 x9 (-1)
  ) else (
    if w32 l2 = 1 then (
      M_X11_beside_p23 h l0 l1 l2 x9 1
    ) else (
      M_X11_beside_p23 h l0 l1 l2 x9 0
    )
  ))

def M_X11_stainedBy_p60 (h : Hp) (l3 : Int) : Option Int :=
  some l3

def M_X11_stainedBy_p54 (h : Hp) (l0 l1 l2 l3 l4 : Int) : Option (Int ⊕ (Unit ⊕ (Int))) :=
  some (.inl (l4 + 1))

def M_X11_stainedBy_b17 (h : Hp) (l0 l1 l2 l3 l4 : Int) : Option (Int ⊕ (Unit ⊕ (Int))) :=
  if w32 l4 < 4 then (
    (M_X11_beside h l0 l3 l4).bind fun x1 =>
    if w32 x1 = (-1) then (
      M_X11_stainedBy_p54 h l0 l1 l2 l3 l4
    ) else (
      (gr 21 h l0 22).bind fun x2 =>
      (ald 1 h x2 (l1 + x1)).bind fun x3 =>
      if w32 x3 = w32 l2 then (
        some (.inr (.inr x1))
      ) else (
        M_X11_stainedBy_p54 h l0 l1 l2 l3 l4
      )
    )
  ) else (
    some (.inr (.inl ()))
  )

def M_X11_stainedBy_w17 (n : Nat) (h : Hp) (l0 l1 l2 l3 l4 : Int) : Option Int :=
  (wh (S := Int) (T := (Unit ⊕ (Int))) (fun a => M_X11_stainedBy_b17 h l0 l1 l2 l3 a) n l4).bind (fun z => exi z (fun b => M_X11_stainedBy_p60 h l3) (fun q => some q))

def M_X11_stainedBy (h : Hp) (l0 l1 l2 l3 : Int) : Option Int := tk 21 h l0 (
  (gr 21 h l0 22).bind fun x4 =>
  (ald 1 h x4 (l1 + l3)).bind fun x5 =>
  if w32 x5 = w32 l2 then (
    some l3
  ) else (
    M_X11_stainedBy_w17 FU h l0 l1 l2 l3 0
  ))

def M_X11_marked (h : Hp) (l0 l1 l2 l3 : Int) : Option Int := tk 21 h l0 (
  (gr 21 h l0 24).bind fun x1 =>
  (ald 1 h x1 ((4 * l1) + 1)).bind fun x2 =>
  (gr 21 h l0 24).bind fun x3 =>
  (ald 1 h x3 ((4 * l1) + 2)).bind fun x4 =>
  (gr 21 h l0 22).bind fun x5 =>
  (M_X11_from h l0 l1 l3).bind fun x6 =>
  (ald 1 h x5 (l2 + x6)).bind fun x7 =>
  (gr 21 h l0 24).bind fun x8 =>
  (ald 1 h x8 (4 * l1)).bind fun x9 =>
  if w32 x9 = 1 then (
    (gr 21 h l0 24).bind fun x10 =>
    (ald 1 h x10 ((4 * l1) + 3)).bind fun x11 =>
    (M_X11_at h l0 x4 x11).bind fun x12 =>
    if w32 l3 = w32 x12 then (
      some x2
    ) else (
      some x7
    )
  ) else (
  if w32 x9 = 5 then (
    if w32 x7 = w32 x2 then (
      some x4
    ) else (
      if w32 x7 = w32 x4 then (
        some x2
      ) else (
        some x7
      )
    )
  ) else (
  if w32 x9 = 6 then (
    (gr 21 h l0 22).bind fun x13 =>
    (M_X11_stainedBy h l0 l2 x2 l3).bind fun x14 =>
    (ald 1 h x13 (l2 + x14)).bind fun x15 =>
    some x15
  ) else (
  if w32 x9 = 7 then (
    if w32 x7 = w32 x2 then (
      some 0
    ) else (
      some x7
    )
  ) else (
    some x7
  )))))

def M_X11_step_p251 (h : Hp) : Option Hp :=
  some h

def M_X11_step_p245 (h : Hp) (l0 l1 l2 : Int) : Option ((Hp × Int) ⊕ Hp) :=
  some (.inl (h, l2 + 1))

def M_X11_step_p154 (h : Hp) (l0 l1 l2 l4 : Int) : Option ((Hp × Int) ⊕ Hp) :=
  (gr 21 h l0 24).bind fun x1 =>
  (ald 1 h x1 (4 * l2)).bind fun x2 =>
  if w32 x2 = 9 then (
    (gf 21 h l0 26).bind fun x3 =>
    (lrm ((75 * (w32 x3)) + 74) 65537).bind fun x4 =>
    (pf 21 h l0 26 (w64 x4)).bind fun h =>
    (gr 21 h l0 25).bind fun x5 =>
    (gf 21 h l0 26).bind fun x6 =>
    (gr 21 h l0 3).bind fun x7 =>
    (M_X10_all h x7).bind fun x8 =>
    (irm x6 x8).bind fun x9 =>
    (ast 1 h x5 ((6 * l1) + l2) x9).bind fun h =>
    (gr 21 h l0 22).bind fun x10 =>
    (gf 21 h l0 26).bind fun x11 =>
    (gr 21 h l0 3).bind fun x12 =>
    (M_X10_all h x12).bind fun x13 =>
    (irm x11 x13).bind fun x14 =>
    (gr 21 h l0 24).bind fun x15 =>
    (ald 1 h x15 ((4 * l2) + 1)).bind fun x16 =>
    (ast 1 h x10 (l4 + x14) x16).bind fun h =>
    M_X11_step_p245 h l0 l1 l2
  ) else (
    M_X11_step_p245 h l0 l1 l2
  )

def M_X11_step_b117 (h : Hp) (l0 l1 l2 l4 l5 l6 : Int) : Option ((Hp × Int) ⊕ Hp) :=
  (gr 21 h l0 3).bind fun x17 =>
  (M_X10_all h x17).bind fun x18 =>
  if w32 l6 < w32 x18 then (
    (gr 21 h l0 22).bind fun x19 =>
    (M_X11_marked h l0 l2 l5 l6).bind fun x20 =>
    (ast 1 h x19 (l4 + l6) x20).bind fun h =>
    some (.inl (h, l6 + 1))
  ) else (
    some (.inr h)
  )

def M_X11_step_w117 (n : Nat) (h : Hp) (l0 l1 l2 l4 l5 l6 : Int) : Option ((Hp × Int) ⊕ Hp) :=
  (wh (S := (Hp × Int)) (T := Hp) (fun a => M_X11_step_b117 a.1 l0 l1 l2 l4 l5 a.2) n (h, l6)).bind (fun b => M_X11_step_p154 b l0 l1 l2 l4)

def M_X11_step_p94 (h : Hp) (l0 l1 l2 : Int) : Option ((Hp × Int) ⊕ Hp) :=
  M_X11_step_p245 h l0 l1 l2

def M_X11_step_b57 (h : Hp) (l0 l1 l2 l3 l4 l5 : Int) : Option ((Hp × Int) ⊕ Hp) :=
  (gr 21 h l0 3).bind fun x21 =>
  (M_X10_all h x21).bind fun x22 =>
  if w32 l5 < w32 x22 then (
    (gr 21 h l0 22).bind fun x23 =>
    (gr 21 h l0 22).bind fun x24 =>
    (ald 1 h x24 (l3 + l5)).bind fun x25 =>
    (ast 1 h x23 (l4 + l5) x25).bind fun h =>
    some (.inl (h, l5 + 1))
  ) else (
    some (.inr h)
  )

def M_X11_step_w57 (n : Nat) (h : Hp) (l0 l1 l2 l3 l4 l5 : Int) : Option ((Hp × Int) ⊕ Hp) :=
  (wh (S := (Hp × Int)) (T := Hp) (fun a => M_X11_step_b57 a.1 l0 l1 l2 l3 l4 a.2) n (h, l5)).bind (fun b => M_X11_step_p94 b l0 l1 l2)

def M_X11_step_b2 (h : Hp) (l0 l1 l2 : Int) : Option ((Hp × Int) ⊕ Hp) :=
  (gr 21 h l0 3).bind fun x26 =>
  (gf 20 h x26 3).bind fun x27 =>
  if w32 l2 < w32 x27 then (
    (gr 21 h l0 25).bind fun x28 =>
    (ast 1 h x28 ((6 * l1) + l2) (-1)).bind fun h =>
    (gr 21 h l0 23).bind fun x29 =>
    (ald 1 h x29 l2).bind fun x30 =>
    if w32 x30 = (-2) then (
      M_X11_step_w57 FU h l0 l1 l2 ((216 * l1) + (36 * l2)) (((216 * l1) + (36 * l2)) + 216) 0
    ) else (
      (gr 21 h l0 23).bind fun x31 =>
      (ald 1 h x31 l2).bind fun x32 =>
      M_X11_step_w117 FU h l0 l1 l2 (((216 * l1) + (36 * l2)) + 216) ((216 * l1) + (36 * x32)) 0
    )
  ) else (
    some (.inr h)
  )

def M_X11_step_w2 (n : Nat) (h : Hp) (l0 l1 l2 : Int) : Option Hp :=
  (wh (S := (Hp × Int)) (T := Hp) (fun a => M_X11_step_b2 a.1 l0 l1 a.2) n (h, l2)).bind (fun b => M_X11_step_p251 b)

def M_X11_step (h : Hp) (l0 l1 : Int) : Option Hp := tk 21 h l0 (
  M_X11_step_w2 FU h l0 l1 0)

def M_X11_steps_p18 (h : Hp) : Option Hp :=
  some h

def M_X11_steps_b2 (h : Hp) (l0 l1 l2 : Int) : Option ((Hp × Int) ⊕ Hp) :=
  if w32 l2 < w32 l1 then (
    (M_X11_step h l0 l2).bind fun h =>
    some (.inl (h, l2 + 1))
  ) else (
    some (.inr h)
  )

def M_X11_steps_w2 (n : Nat) (h : Hp) (l0 l1 l2 : Int) : Option Hp :=
  (wh (S := (Hp × Int)) (T := Hp) (fun a => M_X11_steps_b2 a.1 l0 l1 a.2) n (h, l2)).bind (fun b => M_X11_steps_p18 b)

def M_X11_steps (h : Hp) (l0 l1 : Int) : Option Hp := tk 21 h l0 (
  M_X11_steps_w2 FU h l0 l1 0)

def M_X11_behind (h : Hp) (l0 l1 l2 l3 : Int) : Option Int := tk 21 h l0 (
  (gr 21 h l0 22).bind fun x1 =>
  (ald 1 h x1 (((216 * l1) + (36 * l2)) + l3)).bind fun x2 =>
  some x2)

def M_X11_copies (h : Hp) (l0 l1 : Int) : Option (Hp × Int) := tk 21 h l0 (
  (pf 21 h l0 0 0).bind fun h =>
  (M_X11_isTown h l0 l1).bind fun x1 =>
  if w32 x1 = 0 then (
    bd (M_X11_refused h l0 1) fun h x2 =>
    some (h, x2)
  ) else (
    (gr 21 h l0 17).bind fun x3 =>
    (ald 1 h x3 (216 + l1)).bind fun x4 =>
    bd (M_X11_good h l0 x4) fun h x5 =>
    some (h, x5)
  ))

def M_X11_error (h : Hp) (l0 l1 l2 : Int) : Option (Hp × Int) := tk 21 h l0 (
  (pf 21 h l0 0 0).bind fun h =>
  (M_X11_isTown h l0 l1).bind fun x1 =>
  if w32 x1 = 0 then (
    bd (M_X11_refused h l0 1) fun h x2 =>
    some (h, x2)
  ) else (
    (M_X11_in h l2 0 3).bind fun x3 =>
    if w32 x3 = 0 then (
      bd (M_X11_refused h l0 1) fun h x11 =>
      some (h, x11)
    ) else (
      (gr 21 h l0 17).bind fun x4 =>
      (ald 1 h x4 (216 + l1)).bind fun x5 =>
      if w32 x5 = (-2) then (
        if w32 l2 = 0 then (
          bd (M_X11_good h l0 0) fun h x10 =>
          some (h, x10)
        ) else (
          bd (M_X11_good h l0 (-2)) fun h x9 =>
          some (h, x9)
        )
      ) else (
        (gr 21 h l0 17).bind fun x6 =>
        (ald 1 h x6 ((222 + (4 * l1)) + l2)).bind fun x7 =>
        bd (M_X11_good h l0 x7) fun h x8 =>
        some (h, x8)
      )
    )
  ))

def M_X11_cell (h : Hp) (l0 l1 l2 : Int) : Option (Hp × Int) := tk 21 h l0 (
  (pf 21 h l0 0 0).bind fun h =>
  (M_X11_isPlace h l0 l1 l2).bind fun x1 =>
  if w32 x1 = 0 then (
    bd (M_X11_refused h l0 1) fun h x2 =>
    some (h, x2)
  ) else (
    (gr 21 h l0 17).bind fun x3 =>
    (M_X11_placeOf h l0 l2).bind fun x4 =>
    (ald 1 h x3 ((36 * l1) + x4)).bind fun x5 =>
    bd (M_X11_good h l0 x5) fun h x6 =>
    some (h, x6)
  ))

def M_X11_first (h : Hp) (l0 l1 l2 : Int) : Option (Hp × Int) := tk 21 h l0 (
  (pf 21 h l0 0 0).bind fun h =>
  (M_X11_isPlace h l0 l1 l2).bind fun x1 =>
  if w32 x1 = 0 then (
    bd (M_X11_refused h l0 1) fun h x2 =>
    some (h, x2)
  ) else (
    (gr 21 h l0 3).bind fun x3 =>
    (gr 20 h x3 7).bind fun x4 =>
    (M_X11_placeOf h l0 l2).bind fun x5 =>
    (ald 1 h x4 ((36 * l1) + x5)).bind fun x6 =>
    bd (M_X11_good h l0 x6) fun h x7 =>
    some (h, x7)
  ))

def M_X11_asks (h : Hp) (l0 l1 l2 : Int) : Option (Hp × Int) := tk 21 h l0 (
  if w32 l1 = 0 then (
    some (h, 1)
  ) else (
    (M_X11_in h l2 0 60).bind fun x1 =>
    if w32 x1 = 0 then (
      some (h, 2)
    ) else (
      (M_X11_starts h l0).bind fun h =>
      (M_X11_steps h l0 l2).bind fun h =>
      some (h, 0)
    )
  ))

def M_X11_after (h : Hp) (l0 l1 l2 l3 : Int) : Option (Hp × Int) := tk 21 h l0 (
  (pf 21 h l0 0 0).bind fun h =>
  (M_X11_isPlace h l0 l1 l2).bind fun x1 =>
  bd (M_X11_asks h l0 x1 l3) fun h x2 =>
  if 0 < w32 x2 then (
    bd (M_X11_refused h l0 x2) fun h x6 =>
    some (h, x6)
  ) else (
    (M_X11_placeOf h l0 l2).bind fun x3 =>
    (M_X11_behind h l0 l3 l1 x3).bind fun x4 =>
    bd (M_X11_good h l0 x4) fun h x5 =>
    some (h, x5)
  ))

def M_X11_many_p91 (h : Hp) (l0 l5 : Int) : Option (Hp × Int) :=
  bd (M_X11_good h l0 l5) fun h x1 =>
  some (h, x1)

def M_X11_many_p82 (h : Hp) (l0 l1 l2 l3 l6 : Int) (s0 s1 : Int) : Option ((Int × Int) ⊕ Int) :=
  some (.inl (s0 + s1, l6 + 1))

def M_X11_many_b51 (h : Hp) (l0 l1 l2 l3 l5 l6 : Int) : Option ((Int × Int) ⊕ Int) :=
  (gr 21 h l0 3).bind fun x2 =>
  (M_X10_all h x2).bind fun x3 =>
  if w32 l6 < w32 x3 then (
    (M_X11_behind h l0 l3 l1 l6).bind fun x4 =>
    if w32 x4 = w32 l2 then (
      M_X11_many_p82 h l0 l1 l2 l3 l6 l5 1
    ) else (
      M_X11_many_p82 h l0 l1 l2 l3 l6 l5 0
    )
  ) else (
    some (.inr l5)
  )

def M_X11_many_w51 (n : Nat) (h : Hp) (l0 l1 l2 l3 l5 l6 : Int) : Option (Hp × Int) :=
  (wh (S := (Int × Int)) (T := Int) (fun a => M_X11_many_b51 h l0 l1 l2 l3 a.1 a.2) n (l5, l6)).bind (fun b => M_X11_many_p91 h l0 b)

def M_X11_many_p27 (h : Hp) (l0 l1 l2 l3 : Int) (s0 s1 : Int) : Option (Hp × Int) :=
  bd (M_X11_asks h s0 s1 l3) fun h x5 =>
  if 0 < w32 x5 then (
    bd (M_X11_refused h l0 x5) fun h x6 =>
    some (h, x6)
  ) else (
    M_X11_many_w51 FU h l0 l1 l2 l3 0 0
  )

def M_X11_many_p26 (h : Hp) (l0 l1 l2 l3 : Int) (s0 : Int) : Option (Hp × Int) :=
  M_X11_many_p27 h l0 l1 l2 l3 s0 0

def M_X11_many (h : Hp) (l0 l1 l2 l3 : Int) : Option (Hp × Int) := tk 21 h l0 (
  (pf 21 h l0 0 0).bind fun h =>
  (M_X11_isTown h l0 l1).bind fun x7 =>
  if w32 x7 = 0 then (
    M_X11_many_p26 h l0 l1 l2 l3 l0
  ) else (
    (M_X11_isMark h l0 l2).bind fun x8 =>
    if w32 x8 = 0 then (
      M_X11_many_p26 h l0 l1 l2 l3 l0
    ) else (
      M_X11_many_p27 h l0 l1 l2 l3 l0 1
    )
  ))

def M_X11_unlike_p98 (h : Hp) (l0 l5 : Int) : Option (Hp × Int) :=
  bd (M_X11_good h l0 l5) fun h x1 =>
  some (h, x1)

def M_X11_unlike_p89 (h : Hp) (l0 l1 l2 l3 l6 : Int) (s0 s1 : Int) : Option ((Int × Int) ⊕ Int) :=
  some (.inl (s0 + s1, l6 + 1))

def M_X11_unlike_b51 (h : Hp) (l0 l1 l2 l3 l5 l6 : Int) : Option ((Int × Int) ⊕ Int) :=
  (gr 21 h l0 3).bind fun x2 =>
  (M_X10_all h x2).bind fun x3 =>
  if w32 l6 < w32 x3 then (
    (M_X11_behind h l0 l3 l1 l6).bind fun x4 =>
    (M_X11_behind h l0 l3 l2 l6).bind fun x5 =>
    if w32 x4 = w32 x5 then (
      M_X11_unlike_p89 h l0 l1 l2 l3 l6 l5 0
    ) else (
      M_X11_unlike_p89 h l0 l1 l2 l3 l6 l5 1
    )
  ) else (
    some (.inr l5)
  )

def M_X11_unlike_w51 (n : Nat) (h : Hp) (l0 l1 l2 l3 l5 l6 : Int) : Option (Hp × Int) :=
  (wh (S := (Int × Int)) (T := Int) (fun a => M_X11_unlike_b51 h l0 l1 l2 l3 a.1 a.2) n (l5, l6)).bind (fun b => M_X11_unlike_p98 h l0 b)

def M_X11_unlike_p27 (h : Hp) (l0 l1 l2 l3 : Int) (s0 s1 : Int) : Option (Hp × Int) :=
  bd (M_X11_asks h s0 s1 l3) fun h x6 =>
  if 0 < w32 x6 then (
    bd (M_X11_refused h l0 x6) fun h x7 =>
    some (h, x7)
  ) else (
    M_X11_unlike_w51 FU h l0 l1 l2 l3 0 0
  )

def M_X11_unlike_p26 (h : Hp) (l0 l1 l2 l3 : Int) (s0 : Int) : Option (Hp × Int) :=
  M_X11_unlike_p27 h l0 l1 l2 l3 s0 0

def M_X11_unlike (h : Hp) (l0 l1 l2 l3 : Int) : Option (Hp × Int) := tk 21 h l0 (
  (pf 21 h l0 0 0).bind fun h =>
  (M_X11_isTown h l0 l1).bind fun x8 =>
  if w32 x8 = 0 then (
    M_X11_unlike_p26 h l0 l1 l2 l3 l0
  ) else (
    (M_X11_isTown h l0 l2).bind fun x9 =>
    if w32 x9 = 0 then (
      M_X11_unlike_p26 h l0 l1 l2 l3 l0
    ) else (
      M_X11_unlike_p27 h l0 l1 l2 l3 l0 1
    )
  ))

def M_X11_trueOnes_p86 (h : Hp) (l0 l4 : Int) : Option (Hp × Int) :=
  bd (M_X11_good h l0 l4) fun h x1 =>
  some (h, x1)

def M_X11_trueOnes_p77 (h : Hp) (l0 l1 l2 l5 : Int) (s0 s1 : Int) : Option ((Int × Int) ⊕ Int) :=
  some (.inl (s0 + s1, l5 + 1))

def M_X11_trueOnes_b32 (h : Hp) (l0 l1 l2 l4 l5 : Int) : Option ((Int × Int) ⊕ Int) :=
  (gr 21 h l0 3).bind fun x2 =>
  (M_X10_all h x2).bind fun x3 =>
  if w32 l5 < w32 x3 then (
    (M_X11_behind h l0 l2 l1 l5).bind fun x4 =>
    (gr 21 h l0 3).bind fun x5 =>
    (gr 20 h x5 7).bind fun x6 =>
    (ald 1 h x6 ((36 * l1) + l5)).bind fun x7 =>
    if w32 x4 = w32 x7 then (
      M_X11_trueOnes_p77 h l0 l1 l2 l5 l4 1
    ) else (
      M_X11_trueOnes_p77 h l0 l1 l2 l5 l4 0
    )
  ) else (
    some (.inr l4)
  )

def M_X11_trueOnes_w32 (n : Nat) (h : Hp) (l0 l1 l2 l4 l5 : Int) : Option (Hp × Int) :=
  (wh (S := (Int × Int)) (T := Int) (fun a => M_X11_trueOnes_b32 h l0 l1 l2 a.1 a.2) n (l4, l5)).bind (fun b => M_X11_trueOnes_p86 h l0 b)

def M_X11_trueOnes (h : Hp) (l0 l1 l2 : Int) : Option (Hp × Int) := tk 21 h l0 (
  (pf 21 h l0 0 0).bind fun h =>
  (M_X11_isTown h l0 l1).bind fun x8 =>
  bd (M_X11_asks h l0 x8 l2) fun h x9 =>
  if 0 < w32 x9 then (
    bd (M_X11_refused h l0 x9) fun h x10 =>
    some (h, x10)
  ) else (
    M_X11_trueOnes_w32 FU h l0 l1 l2 0 0
  ))

def M_X11_when_p86 (h : Hp) (l0 : Int) : Option (Hp × Int) :=
  bd (M_X11_good h l0 (-2)) fun h x1 =>
  some (h, x1)

def M_X11_when_b50 (h : Hp) (l0 l1 l2 l3 l5 : Int) : Option (Int ⊕ (Unit ⊕ (Hp × Int))) :=
  if 60 < w32 l5 then (
    some (.inr (.inl ()))
  ) else (
    (M_X11_placeOf h l0 l2).bind fun x2 =>
    (M_X11_behind h l0 l5 l1 x2).bind fun x3 =>
    if w32 x3 = w32 l3 then (
      bd (M_X11_good h l0 l5) fun h x4 =>
      some (.inr (.inr (h, x4)))
    ) else (
      some (.inl (l5 + 1))
    )
  )

def M_X11_when_w50 (n : Nat) (h : Hp) (l0 l1 l2 l3 l5 : Int) : Option (Hp × Int) :=
  (wh (S := Int) (T := (Unit ⊕ (Hp × Int))) (fun a => M_X11_when_b50 h l0 l1 l2 l3 a) n l5).bind (fun z => exi z (fun b => M_X11_when_p86 h l0) (fun q => some q))

def M_X11_when_p28 (h : Hp) (l0 l1 l2 l3 : Int) (s0 s1 : Int) : Option (Hp × Int) :=
  bd (M_X11_asks h s0 s1 60) fun h x5 =>
  if 0 < w32 x5 then (
    bd (M_X11_refused h l0 x5) fun h x6 =>
    some (h, x6)
  ) else (
    M_X11_when_w50 FU h l0 l1 l2 l3 0
  )

def M_X11_when_p27 (h : Hp) (l0 l1 l2 l3 : Int) (s0 : Int) : Option (Hp × Int) :=
  M_X11_when_p28 h l0 l1 l2 l3 s0 0

def M_X11_when (h : Hp) (l0 l1 l2 l3 : Int) : Option (Hp × Int) := tk 21 h l0 (
  (pf 21 h l0 0 0).bind fun h =>
  (M_X11_isPlace h l0 l1 l2).bind fun x7 =>
  if w32 x7 = 0 then (
    M_X11_when_p27 h l0 l1 l2 l3 l0
  ) else (
    (M_X11_isMark h l0 l3).bind fun x8 =>
    if w32 x8 = 0 then (
      M_X11_when_p27 h l0 l1 l2 l3 l0
    ) else (
      M_X11_when_p28 h l0 l1 l2 l3 l0 1
    )
  ))

def M_X11_areasOf_p220 (h : Hp) (l3 : Int) : Option (Hp × Int) :=
  some (h, l3)

def M_X11_areasOf_p214 (h : Hp) (l0 l1 l2 l3 l4 : Int) : Option ((Hp × Int × Int) ⊕ (Hp × Int)) :=
  some (.inl (h, l3, l4 + 1))

def M_X11_areasOf_p211 (h : Hp) (l0 l1 l2 l3 l4 : Int) (s0 s1 : Int) : Option ((Hp × Int × Int) ⊕ (Hp × Int)) :=
  (pf 21 h s0 29 s1).bind fun h =>
  M_X11_areasOf_p214 h l0 l1 l2 l3 l4

def M_X11_areasOf_p192 (h : Hp) (l0 l1 l2 l3 l4 l5 : Int) : Option ((Hp × Int × Int) ⊕ (Hp × Int)) :=
  (gf 21 h l0 29).bind fun x1 =>
  if w32 x1 < w32 l5 then (
    M_X11_areasOf_p211 h l0 l1 l2 l3 l4 l0 l5
  ) else (
    (gf 21 h l0 29).bind fun x2 =>
    M_X11_areasOf_p211 h l0 l1 l2 l3 l4 l0 x2
  )

def M_X11_areasOf_p186 (h : Hp) (l0 l1 l2 l3 l4 l5 l6 : Int) : Option ((Hp × Int × Int) ⊕ (Hp × Int)) :=
  some (.inl (h, l5, l6 + 1))

def M_X11_areasOf_p180 (h : Hp) (l0 l1 l2 l3 l4 l5 l6 l7 : Int) : Option ((Hp × Int × Int) ⊕ (Hp × Int)) :=
  some (.inl (h, l5, l7 + 1))

def M_X11_areasOf_b107 (h : Hp) (l0 l1 l2 l3 l4 l6 l5 l7 : Int) : Option ((Hp × Int × Int) ⊕ (Hp × Int)) :=
  if w32 l7 < 4 then (
    (gr 21 h l0 28).bind fun x3 =>
    (ald 1 h x3 l6).bind fun x4 =>
    (M_X11_beside h l0 x4 l7).bind fun x5 =>
    if w32 x5 = (-1) then (
      M_X11_areasOf_p180 h l0 l1 l2 l3 l4 l5 l6 l7
    ) else (
      (gr 21 h l0 27).bind fun x6 =>
      (ald 4 h x6 x5).bind fun x7 =>
      if w32 x7 = 0 then (
        (gr 21 h l0 22).bind fun x8 =>
        (ald 1 h x8 (l1 + x5)).bind fun x9 =>
        if w32 x9 = w32 l2 then (
          (gr 21 h l0 27).bind fun x10 =>
          (astZ h x10 x5 1).bind fun h =>
          (gr 21 h l0 28).bind fun x11 =>
          (ast 1 h x11 l5 x5).bind fun h =>
          M_X11_areasOf_p180 h l0 l1 l2 l3 l4 (l5 + 1) l6 l7
        ) else (
          M_X11_areasOf_p180 h l0 l1 l2 l3 l4 l5 l6 l7
        )
      ) else (
        M_X11_areasOf_p180 h l0 l1 l2 l3 l4 l5 l6 l7
      )
    )
  ) else (
    some (.inr (h, l5))
  )

def M_X11_areasOf_w107 (n : Nat) (h : Hp) (l0 l1 l2 l3 l4 l5 l6 l7 : Int) : Option ((Hp × Int × Int) ⊕ (Hp × Int)) :=
  (wh (S := (Hp × Int × Int)) (T := (Hp × Int)) (fun a => M_X11_areasOf_b107 a.1 l0 l1 l2 l3 l4 l6 a.2.1 a.2.2) n (h, l5, l7)).bind (fun b => M_X11_areasOf_p186 b.1 l0 l1 l2 l3 l4 b.2 l6)

def M_X11_areasOf_b97 (h : Hp) (l0 l1 l2 l3 l4 l5 l6 : Int) : Option ((Hp × Int × Int) ⊕ (Hp × Int)) :=
  if w32 l6 < w32 l5 then (
    M_X11_areasOf_w107 FU h l0 l1 l2 l3 l4 l5 l6 0
  ) else (
    some (.inr (h, l5))
  )

def M_X11_areasOf_w97 (n : Nat) (h : Hp) (l0 l1 l2 l3 l4 l5 l6 : Int) : Option ((Hp × Int × Int) ⊕ (Hp × Int)) :=
  (wh (S := (Hp × Int × Int)) (T := (Hp × Int)) (fun a => M_X11_areasOf_b97 a.1 l0 l1 l2 l3 l4 a.2.1 a.2.2) n (h, l5, l6)).bind (fun b => M_X11_areasOf_p192 b.1 l0 l1 l2 l3 l4 b.2)

def M_X11_areasOf_b34 (h : Hp) (l0 l1 l2 l3 l4 : Int) : Option ((Hp × Int × Int) ⊕ (Hp × Int)) :=
  (gr 21 h l0 3).bind fun x12 =>
  (M_X10_all h x12).bind fun x13 =>
  if w32 l4 < w32 x13 then (
    (gr 21 h l0 27).bind fun x14 =>
    (ald 4 h x14 l4).bind fun x15 =>
    if w32 x15 = 0 then (
      (gr 21 h l0 22).bind fun x16 =>
      (ald 1 h x16 (l1 + l4)).bind fun x17 =>
      if w32 x17 = w32 l2 then (
        (gr 21 h l0 28).bind fun x18 =>
        (ast 1 h x18 0 l4).bind fun h =>
        (gr 21 h l0 27).bind fun x19 =>
        (astZ h x19 l4 1).bind fun h =>
        M_X11_areasOf_w97 FU h l0 l1 l2 (l3 + 1) l4 1 0
      ) else (
        M_X11_areasOf_p214 h l0 l1 l2 l3 l4
      )
    ) else (
      M_X11_areasOf_p214 h l0 l1 l2 l3 l4
    )
  ) else (
    some (.inr (h, l3))
  )

def M_X11_areasOf_w34 (n : Nat) (h : Hp) (l0 l1 l2 l3 l4 : Int) : Option (Hp × Int) :=
  (wh (S := (Hp × Int × Int)) (T := (Hp × Int)) (fun a => M_X11_areasOf_b34 a.1 l0 l1 l2 a.2.1 a.2.2) n (h, l3, l4)).bind (fun b => M_X11_areasOf_p220 b.1 b.2)

def M_X11_areasOf_p31 (h : Hp) (l0 l1 l2 l3 : Int) : Option (Hp × Int) :=
  M_X11_areasOf_w34 FU h l0 l1 l2 l3 0

def M_X11_areasOf_b10 (h : Hp) (l0 l1 l2 l3 l4 : Int) : Option ((Hp × Int) ⊕ Hp) :=
  if w32 l4 < 36 then (
    (gr 21 h l0 27).bind fun x20 =>
    (astZ h x20 l4 0).bind fun h =>
    some (.inl (h, l4 + 1))
  ) else (
    some (.inr h)
  )

def M_X11_areasOf_w10 (n : Nat) (h : Hp) (l0 l1 l2 l3 l4 : Int) : Option (Hp × Int) :=
  (wh (S := (Hp × Int)) (T := Hp) (fun a => M_X11_areasOf_b10 a.1 l0 l1 l2 l3 a.2) n (h, l4)).bind (fun b => M_X11_areasOf_p31 b l0 l1 l2 l3)

def M_X11_areasOf (h : Hp) (l0 l1 l2 : Int) : Option (Hp × Int) := tk 21 h l0 (
  (pf 21 h l0 29 0).bind fun h =>
  M_X11_areasOf_w10 FU h l0 l1 l2 0 0)

def M_X11_areas_p27 (h : Hp) (l0 l1 l2 l3 : Int) (s0 s1 : Int) : Option (Hp × Int) :=
  bd (M_X11_asks h s0 s1 l3) fun h x1 =>
  if 0 < w32 x1 then (
    bd (M_X11_refused h l0 x1) fun h x4 =>
    some (h, x4)
  ) else (
    bd (M_X11_areasOf h l0 ((216 * l3) + (36 * l1)) l2) fun h x2 =>
    bd (M_X11_good h l0 x2) fun h x3 =>
    some (h, x3)
  )

def M_X11_areas_p26 (h : Hp) (l0 l1 l2 l3 : Int) (s0 : Int) : Option (Hp × Int) :=
  M_X11_areas_p27 h l0 l1 l2 l3 s0 0

def M_X11_areas (h : Hp) (l0 l1 l2 l3 : Int) : Option (Hp × Int) := tk 21 h l0 (
  (pf 21 h l0 0 0).bind fun h =>
  (M_X11_isTown h l0 l1).bind fun x5 =>
  if w32 x5 = 0 then (
    M_X11_areas_p26 h l0 l1 l2 l3 l0
  ) else (
    (M_X11_isMark h l0 l2).bind fun x6 =>
    if w32 x6 = 0 then (
      M_X11_areas_p26 h l0 l1 l2 l3 l0
    ) else (
      M_X11_areas_p27 h l0 l1 l2 l3 l0 1
    )
  ))

def M_X11_largest_p27 (h : Hp) (l0 l1 l2 l3 : Int) (s0 s1 : Int) : Option (Hp × Int) :=
  bd (M_X11_asks h s0 s1 l3) fun h x1 =>
  if 0 < w32 x1 then (
    bd (M_X11_refused h l0 x1) fun h x5 =>
    some (h, x5)
  ) else (
    bd (M_X11_areasOf h l0 ((216 * l3) + (36 * l1)) l2) fun h x2 =>
    (gf 21 h l0 29).bind fun x3 =>
    bd (M_X11_good h l0 x3) fun h x4 =>
    some (h, x4)
  )

def M_X11_largest_p26 (h : Hp) (l0 l1 l2 l3 : Int) (s0 : Int) : Option (Hp × Int) :=
  M_X11_largest_p27 h l0 l1 l2 l3 s0 0

def M_X11_largest (h : Hp) (l0 l1 l2 l3 : Int) : Option (Hp × Int) := tk 21 h l0 (
  (pf 21 h l0 0 0).bind fun h =>
  (M_X11_isTown h l0 l1).bind fun x6 =>
  if w32 x6 = 0 then (
    M_X11_largest_p26 h l0 l1 l2 l3 l0
  ) else (
    (M_X11_isMark h l0 l2).bind fun x7 =>
    if w32 x7 = 0 then (
      M_X11_largest_p26 h l0 l1 l2 l3 l0
    ) else (
      M_X11_largest_p27 h l0 l1 l2 l3 l0 1
    )
  ))

def M_X11_scale_p137 (h : Hp) (l0 l3 l4 l6 : Int) : Option (Hp × Int) :=
  bd (M_X11_fraction h l0 l4 l6 l3) fun h x1 =>
  some (h, x1)

def M_X11_scale_p118 (h : Hp) (l0 l2 l3 l4 l6 l8 l9 : Int) : Option ((Int × Int × Int × Int) ⊕ (Int × Int)) :=
  (gr 21 h l0 17).bind fun x2 =>
  (ald 1 h x2 (216 + l8)).bind fun x3 =>
  some (.inl (l4, l6, x3, l9 + 1))

def M_X11_scale_b49 (h : Hp) (l0 l2 l3 l4 l6 l8 l9 : Int) : Option ((Int × Int × Int × Int) ⊕ (Int × Int)) :=
  if w32 l9 < w32 l2 then (
    (gr 21 h l0 17).bind fun x4 =>
    (ald 1 h x4 (216 + l8)).bind fun x5 =>
    if w32 x5 = (-2) then (
      some (.inr (l4, l6))
    ) else (
      (gr 21 h l0 17).bind fun x6 =>
      (ald 1 h x6 (222 + (4 * l8))).bind fun x7 =>
      if w32 x7 = 8 then (
        (gr 21 h l0 17).bind fun x8 =>
        (ald 1 h x8 ((222 + (4 * l8)) + 1)).bind fun x9 =>
        M_X11_scale_p118 h l0 l2 l3 (l4 * (w32 x9)) (l6 * 10) l8 l9
      ) else (
        M_X11_scale_p118 h l0 l2 l3 l4 l6 l8 l9
      )
    )
  ) else (
    some (.inr (l4, l6))
  )

def M_X11_scale_w49 (n : Nat) (h : Hp) (l0 l2 l3 l4 l6 l8 l9 : Int) : Option (Hp × Int) :=
  (wh (S := (Int × Int × Int × Int)) (T := (Int × Int)) (fun a => M_X11_scale_b49 h l0 l2 l3 a.1 a.2.1 a.2.2.1 a.2.2.2) n (l4, l6, l8, l9)).bind (fun b => M_X11_scale_p137 h l0 l3 b.1 b.2)

def M_X11_scale (h : Hp) (l0 l1 l2 l3 : Int) : Option (Hp × Int) := tk 21 h l0 (
  (pf 21 h l0 0 0).bind fun h =>
  (M_X11_isTown h l0 l1).bind fun x10 =>
  if w32 x10 = 0 then (
    bd (M_X11_refused h l0 1) fun h x13 =>
    some (h, w32 x13)
  ) else (
    (M_X11_in h l2 0 12).bind fun x11 =>
    if w32 x11 = 0 then (
      bd (M_X11_refused h l0 2) fun h x12 =>
      some (h, w32 x12)
    ) else (
      M_X11_scale_w49 FU h l0 l2 l3 1 1 l1 0
    )
  ))

def M_X11_isSame_p61 (h : Hp) : Option Int :=
  some 1

def M_X11_isSame_p55 (h : Hp) (l0 l1 l2 l3 : Int) : Option (Int ⊕ (Unit ⊕ (Int))) :=
  some (.inl (l3 + 1))

def M_X11_isSame_b16 (h : Hp) (l0 l1 l2 l3 l4 : Int) : Option (Int ⊕ (Unit ⊕ (Int))) :=
  (gr 21 h l0 3).bind fun x1 =>
  (M_X10_all h x1).bind fun x2 =>
  if w32 l4 < w32 x2 then (
    (M_X11_behind h l0 l1 l3 l4).bind fun x3 =>
    (M_X11_behind h l0 l2 l3 l4).bind fun x4 =>
    if w32 x3 = w32 x4 then (
      some (.inl (l4 + 1))
    ) else (
      some (.inr (.inr 0))
    )
  ) else (
    some (.inr (.inl ()))
  )

def M_X11_isSame_w16 (n : Nat) (h : Hp) (l0 l1 l2 l3 l4 : Int) : Option (Int ⊕ (Unit ⊕ (Int))) :=
  (wh (S := Int) (T := (Unit ⊕ (Int))) (fun a => M_X11_isSame_b16 h l0 l1 l2 l3 a) n l4).bind (fun z => exi z (fun b => M_X11_isSame_p55 h l0 l1 l2 l3) (fun q => some (.inr (.inr q))))

def M_X11_isSame_b2 (h : Hp) (l0 l1 l2 l3 : Int) : Option (Int ⊕ (Unit ⊕ (Int))) :=
  (gr 21 h l0 3).bind fun x5 =>
  (gf 20 h x5 3).bind fun x6 =>
  if w32 l3 < w32 x6 then (
    M_X11_isSame_w16 FU h l0 l1 l2 l3 0
  ) else (
    some (.inr (.inl ()))
  )

def M_X11_isSame_w2 (n : Nat) (h : Hp) (l0 l1 l2 l3 : Int) : Option Int :=
  (wh (S := Int) (T := (Unit ⊕ (Int))) (fun a => M_X11_isSame_b2 h l0 l1 l2 a) n l3).bind (fun z => exi z (fun b => M_X11_isSame_p61 h) (fun q => some q))

def M_X11_isSame (h : Hp) (l0 l1 l2 : Int) : Option Int := tk 21 h l0 (
  M_X11_isSame_w2 FU h l0 l1 l2 0)

def M_X11_sumOf_p63 (h : Hp) (l2 : Int) : Option Int :=
  some l2

def M_X11_sumOf_p57 (h : Hp) (l0 l1 l2 l4 : Int) : Option ((Int × Int) ⊕ Int) :=
  some (.inl (l2, l4 + 1))

def M_X11_sumOf_b22 (h : Hp) (l0 l1 l4 l2 l5 : Int) : Option ((Int × Int) ⊕ Int) :=
  (gr 21 h l0 3).bind fun x1 =>
  (M_X10_all h x1).bind fun x2 =>
  if w32 l5 < w32 x2 then (
    (M_X11_behind h l0 l1 l4 l5).bind fun x3 =>
    some (.inl ((31 * l2) + (w32 x3), l5 + 1))
  ) else (
    some (.inr l2)
  )

def M_X11_sumOf_w22 (n : Nat) (h : Hp) (l0 l1 l2 l4 l5 : Int) : Option ((Int × Int) ⊕ Int) :=
  (wh (S := (Int × Int)) (T := Int) (fun a => M_X11_sumOf_b22 h l0 l1 l4 a.1 a.2) n (l2, l5)).bind (fun b => M_X11_sumOf_p57 h l0 l1 b l4)

def M_X11_sumOf_b7 (h : Hp) (l0 l1 l2 l4 : Int) : Option ((Int × Int) ⊕ Int) :=
  (gr 21 h l0 3).bind fun x4 =>
  (gf 20 h x4 3).bind fun x5 =>
  if w32 l4 < w32 x5 then (
    M_X11_sumOf_w22 FU h l0 l1 l2 l4 0
  ) else (
    some (.inr l2)
  )

def M_X11_sumOf_w7 (n : Nat) (h : Hp) (l0 l1 l2 l4 : Int) : Option Int :=
  (wh (S := (Int × Int)) (T := Int) (fun a => M_X11_sumOf_b7 h l0 l1 a.1 a.2) n (l2, l4)).bind (fun b => M_X11_sumOf_p63 h b)

def M_X11_sumOf (h : Hp) (l0 l1 : Int) : Option Int := tk 21 h l0 (
  M_X11_sumOf_w7 FU h l0 l1 7 0)

def M_X11_round_p178 (h : Hp) (l0 : Int) : Option (Hp × Int) :=
  bd (M_X11_good h l0 (-2)) fun h x1 =>
  some (h, x1)

def M_X11_round_p172 (h : Hp) (l0 l1 l2 : Int) : Option ((Hp × Int) ⊕ (Hp ⊕ (Hp × Int))) :=
  some (.inl (h, l2 + 1))

def M_X11_round_p166 (h : Hp) (l0 l1 l2 l3 : Int) : Option (Int ⊕ (Unit ⊕ (Hp × Int))) :=
  some (.inl (l3 + 1))

def M_X11_round_b120 (h : Hp) (l0 l1 l2 l3 : Int) : Option (Int ⊕ (Unit ⊕ (Hp × Int))) :=
  if w32 l3 < w32 l2 then (
    (gr 21 h l0 30).bind fun x2 =>
    (ald 2 h x2 l3).bind fun x3 =>
    (gr 21 h l0 30).bind fun x4 =>
    (ald 2 h x4 l2).bind fun x5 =>
    if w32 (lcmp x3 x5) = 0 then (
      (M_X11_isSame h l0 l3 l2).bind fun x6 =>
      if w32 x6 = 0 then (
        M_X11_round_p166 h l0 l1 l2 l3
      ) else (
        if w32 l1 = 0 then (
          bd (M_X11_good h l0 (l2 - l3)) fun h x7 =>
          some (.inr (.inr (h, x7)))
        ) else (
          bd (M_X11_good h l0 l3) fun h x8 =>
          some (.inr (.inr (h, x8)))
        )
      )
    ) else (
      M_X11_round_p166 h l0 l1 l2 l3
    )
  ) else (
    some (.inr (.inl ()))
  )

def M_X11_round_w120 (n : Nat) (h : Hp) (l0 l1 l2 l3 : Int) : Option ((Hp × Int) ⊕ (Hp ⊕ (Hp × Int))) :=
  (wh (S := Int) (T := (Unit ⊕ (Hp × Int))) (fun a => M_X11_round_b120 h l0 l1 l2 a) n l3).bind (fun z => exi z (fun b => M_X11_round_p172 h l0 l1 l2) (fun q => some (.inr (.inr q))))

def M_X11_round_b93 (h : Hp) (l0 l1 l2 : Int) : Option ((Hp × Int) ⊕ (Hp ⊕ (Hp × Int))) :=
  if 400 < w32 l2 then (
    some (.inr (.inl h))
  ) else (
    (M_X11_step h l0 (l2 - 1)).bind fun h =>
    (gr 21 h l0 30).bind fun x9 =>
    (M_X11_sumOf h l0 l2).bind fun x10 =>
    (ast 2 h x9 l2 x10).bind fun h =>
    M_X11_round_w120 FU h l0 l1 l2 0
  )

def M_X11_round_w93 (n : Nat) (h : Hp) (l0 l1 l2 : Int) : Option (Hp × Int) :=
  (wh (S := (Hp × Int)) (T := (Hp ⊕ (Hp × Int))) (fun a => M_X11_round_b93 a.1 l0 l1 a.2) n (h, l2)).bind (fun z => exi z (fun b => M_X11_round_p178 b l0) (fun q => some q))

def M_X11_round_p76 (h : Hp) (l0 l1 : Int) : Option (Hp × Int) :=
  (M_X11_starts h l0).bind fun h =>
  (gr 21 h l0 30).bind fun x11 =>
  (M_X11_sumOf h l0 0).bind fun x12 =>
  (ast 2 h x11 0 x12).bind fun h =>
  M_X11_round_w93 FU h l0 l1 1

def M_X11_round_p70 (h : Hp) (l0 l1 l2 : Int) : Option (Int ⊕ (Unit ⊕ (Hp × Int))) :=
  some (.inl (l2 + 1))

def M_X11_round_b20 (h : Hp) (l0 l1 l2 : Int) : Option (Int ⊕ (Unit ⊕ (Hp × Int))) :=
  (gr 21 h l0 3).bind fun x13 =>
  (gf 20 h x13 3).bind fun x14 =>
  if w32 l2 < w32 x14 then (
    (gr 21 h l0 17).bind fun x15 =>
    (ald 1 h x15 (216 + l2)).bind fun x16 =>
    if w32 x16 = (-2) then (
      M_X11_round_p70 h l0 l1 l2
    ) else (
      (gr 21 h l0 17).bind fun x17 =>
      (ald 1 h x17 (222 + (4 * l2))).bind fun x18 =>
      if w32 x18 = 9 then (
        bd (M_X11_refused h l0 6) fun h x19 =>
        some (.inr (.inr (h, x19)))
      ) else (
        M_X11_round_p70 h l0 l1 l2
      )
    )
  ) else (
    some (.inr (.inl ()))
  )

def M_X11_round_w20 (n : Nat) (h : Hp) (l0 l1 l2 : Int) : Option (Hp × Int) :=
  (wh (S := Int) (T := (Unit ⊕ (Hp × Int))) (fun a => M_X11_round_b20 h l0 l1 a) n l2).bind (fun z => exi z (fun b => M_X11_round_p76 h l0 l1) (fun q => some q))

def M_X11_round (h : Hp) (l0 l1 : Int) : Option (Hp × Int) := tk 21 h l0 (
  (pf 21 h l0 0 0).bind fun h =>
  (gf 21 h l0 3).bind fun x20 =>
  if x20 < 0 then (
    bd (M_X11_refused h l0 1) fun h x21 =>
    some (h, x21)
  ) else (
    M_X11_round_w20 FU h l0 l1 0
  ))

def M_X11_cameFrom (h : Hp) (l0 l1 l2 l3 : Int) : Option Int := tk 21 h l0 (
  (gr 21 h l0 23).bind fun x1 =>
  (ald 1 h x1 l2).bind fun x2 =>
  (gr 21 h l0 24).bind fun x3 =>
  (ald 1 h x3 ((4 * l2) + 1)).bind fun x4 =>
  (gr 21 h l0 24).bind fun x5 =>
  (ald 1 h x5 (4 * l2)).bind fun x6 =>
  if w32 x6 = 1 then (
    (gr 21 h l0 24).bind fun x7 =>
    (ald 1 h x7 ((4 * l2) + 2)).bind fun x8 =>
    (gr 21 h l0 24).bind fun x9 =>
    (ald 1 h x9 ((4 * l2) + 3)).bind fun x10 =>
    (M_X11_at h l0 x8 x10).bind fun x11 =>
    if w32 l3 = w32 x11 then (
      some (-2)
    ) else (
      some l3
    )
  ) else (
  if w32 x6 = 6 then (
    (M_X11_stainedBy h l0 ((216 * l1) + (36 * x2)) x4 l3).bind fun x12 =>
    some x12
  ) else (
  if w32 x6 = 7 then (
    (gr 21 h l0 22).bind fun x13 =>
    (ald 1 h x13 (((216 * l1) + (36 * x2)) + l3)).bind fun x14 =>
    if w32 x14 = w32 x4 then (
      some (-2)
    ) else (
      some l3
    )
  ) else (
  if w32 x6 = 9 then (
    (gr 21 h l0 25).bind fun x15 =>
    (ald 1 h x15 ((6 * l1) + l2)).bind fun x16 =>
    if w32 x16 = w32 l3 then (
      some (-2)
    ) else (
      some l3
    )
  ) else (
    (M_X11_from h l0 l2 l3).bind fun x17 =>
    some x17
  )))))

def M_X11_origin_p99 (h : Hp) (l0 l5 l6 : Int) : Option (Hp × Int) :=
  if w32 l6 = (-2) then (
    bd (M_X11_good h l0 (-2)) fun h x3 =>
    some (h, x3)
  ) else (
    (M_X11_told h l0 l6).bind fun x1 =>
    bd (M_X11_good h l0 ((100 * l5) + x1)) fun h x2 =>
    some (h, x2)
  )

def M_X11_origin_p93 (h : Hp) (l0 l5 l6 l7 : Int) : Option ((Int × Int × Int) ⊕ (Int × Int)) :=
  some (.inl (l5, l6, l7 + (-1)))

def M_X11_origin_b45 (h : Hp) (l0 l5 l6 l7 : Int) : Option ((Int × Int × Int) ⊕ (Int × Int)) :=
  if w32 l7 < 0 then (
    some (.inr (l5, l6))
  ) else (
    if w32 l6 = (-2) then (
      some (.inr (l5, l6))
    ) else (
      (gr 21 h l0 23).bind fun x4 =>
      (ald 1 h x4 l5).bind fun x5 =>
      if w32 x5 = (-2) then (
        M_X11_origin_p93 h l0 l5 l6 l7
      ) else (
        (M_X11_cameFrom h l0 l7 l5 l6).bind fun x6 =>
        (gr 21 h l0 23).bind fun x7 =>
        (ald 1 h x7 l5).bind fun x8 =>
        M_X11_origin_p93 h l0 x8 x6 l7
      )
    )
  )

def M_X11_origin_w45 (n : Nat) (h : Hp) (l0 l5 l6 l7 : Int) : Option (Hp × Int) :=
  (wh (S := (Int × Int × Int)) (T := (Int × Int)) (fun a => M_X11_origin_b45 h l0 a.1 a.2.1 a.2.2) n (l5, l6, l7)).bind (fun b => M_X11_origin_p99 h l0 b.1 b.2)

def M_X11_origin (h : Hp) (l0 l1 l2 l3 : Int) : Option (Hp × Int) := tk 21 h l0 (
  (pf 21 h l0 0 0).bind fun h =>
  (M_X11_isPlace h l0 l1 l2).bind fun x9 =>
  bd (M_X11_asks h l0 x9 l3) fun h x10 =>
  if 0 < w32 x10 then (
    bd (M_X11_refused h l0 x10) fun h x12 =>
    some (h, x12)
  ) else (
    (M_X11_placeOf h l0 l2).bind fun x11 =>
    M_X11_origin_w45 FU h l0 l1 x11 (l3 - 1)
  ))

def M_X11_blame_p115 (h : Hp) (l0 l6 : Int) : Option (Hp × Int) :=
  bd (M_X11_good h l0 l6) fun h x1 =>
  some (h, x1)

def M_X11_blame_p106 (h : Hp) (l0 l1 l2 l3 l5 l7 : Int) (s0 s1 : Int) : Option ((Hp × Int × Int) ⊕ (Hp × Int)) :=
  some (.inl (h, ior s0 s1, l7 + 1))

def M_X11_blame_b49 (h : Hp) (l0 l1 l2 l3 l5 l6 l7 : Int) : Option ((Hp × Int × Int) ⊕ (Hp × Int)) :=
  (gr 21 h l0 3).bind fun x2 =>
  (gf 20 h x2 3).bind fun x3 =>
  if w32 l7 < w32 x3 then (
    (M_X11_starts h l0).bind fun h =>
    (gr 21 h l0 24).bind fun x4 =>
    (ast 1 h x4 (4 * l7) 0).bind fun h =>
    (M_X11_steps h l0 l3).bind fun h =>
    (M_X11_placeOf h l0 l2).bind fun x5 =>
    (M_X11_behind h l0 l3 l1 x5).bind fun x6 =>
    if w32 x6 = w32 l5 then (
      M_X11_blame_p106 h l0 l1 l2 l3 l5 l7 l6 0
    ) else (
      M_X11_blame_p106 h l0 l1 l2 l3 l5 l7 l6 (ishl 1 l7)
    )
  ) else (
    some (.inr (h, l6))
  )

def M_X11_blame_w49 (n : Nat) (h : Hp) (l0 l1 l2 l3 l5 l6 l7 : Int) : Option (Hp × Int) :=
  (wh (S := (Hp × Int × Int)) (T := (Hp × Int)) (fun a => M_X11_blame_b49 a.1 l0 l1 l2 l3 l5 a.2.1 a.2.2) n (h, l6, l7)).bind (fun b => M_X11_blame_p115 b.1 l0 b.2)

def M_X11_blame (h : Hp) (l0 l1 l2 l3 : Int) : Option (Hp × Int) := tk 21 h l0 (
  (pf 21 h l0 0 0).bind fun h =>
  (M_X11_isPlace h l0 l1 l2).bind fun x7 =>
  bd (M_X11_asks h l0 x7 l3) fun h x8 =>
  if 0 < w32 x8 then (
    bd (M_X11_refused h l0 x8) fun h x11 =>
    some (h, x11)
  ) else (
    (M_X11_placeOf h l0 l2).bind fun x9 =>
    (M_X11_behind h l0 l3 l1 x9).bind fun x10 =>
    M_X11_blame_w49 FU h l0 l1 l2 l3 x10 0 0
  ))

def M_X11_loop_p74 (h : Hp) (l0 : Int) : Option (Hp × Int) :=
  bd (M_X11_good h l0 0) fun h x1 =>
  some (h, x1)

def M_X11_loop_b23 (h : Hp) (l0 l1 l2 l3 : Int) : Option ((Int × Int) ⊕ (Unit ⊕ (Hp × Int))) :=
  (gr 21 h l0 3).bind fun x2 =>
  (gf 20 h x2 3).bind fun x3 =>
  if w32 x3 < w32 l3 then (
    some (.inr (.inl ()))
  ) else (
    (gr 21 h l0 17).bind fun x4 =>
    (ald 1 h x4 (216 + l2)).bind fun x5 =>
    if w32 x5 = w32 l1 then (
      bd (M_X11_good h l0 l3) fun h x7 =>
      some (.inr (.inr (h, x7)))
    ) else (
      if w32 x5 = (-2) then (
        bd (M_X11_good h l0 0) fun h x6 =>
        some (.inr (.inr (h, x6)))
      ) else (
        some (.inl (x5, l3 + 1))
      )
    )
  )

def M_X11_loop_w23 (n : Nat) (h : Hp) (l0 l1 l2 l3 : Int) : Option (Hp × Int) :=
  (wh (S := (Int × Int)) (T := (Unit ⊕ (Hp × Int))) (fun a => M_X11_loop_b23 h l0 l1 a.1 a.2) n (l2, l3)).bind (fun z => exi z (fun b => M_X11_loop_p74 h l0) (fun q => some q))

def M_X11_loop (h : Hp) (l0 l1 : Int) : Option (Hp × Int) := tk 21 h l0 (
  (pf 21 h l0 0 0).bind fun h =>
  (M_X11_isTown h l0 l1).bind fun x8 =>
  if w32 x8 = 0 then (
    bd (M_X11_refused h l0 1) fun h x9 =>
    some (h, x9)
  ) else (
    M_X11_loop_w23 FU h l0 l1 l1 1
  ))

def M_X11_depth_p72 (h : Hp) (l0 : Int) : Option (Hp × Int) :=
  bd (M_X11_good h l0 (-2)) fun h x1 =>
  some (h, x1)

def M_X11_depth_b23 (h : Hp) (l0 l2 l3 : Int) : Option ((Int × Int) ⊕ (Unit ⊕ (Hp × Int))) :=
  (gr 21 h l0 3).bind fun x2 =>
  (gf 20 h x2 3).bind fun x3 =>
  if w32 x3 < w32 l3 then (
    some (.inr (.inl ()))
  ) else (
    (gr 21 h l0 17).bind fun x4 =>
    (ald 1 h x4 (216 + l2)).bind fun x5 =>
    if w32 x5 = (-2) then (
      bd (M_X11_good h l0 l3) fun h x8 =>
      some (.inr (.inr (h, x8)))
    ) else (
      (gr 21 h l0 17).bind fun x6 =>
      (ald 1 h x6 (216 + l2)).bind fun x7 =>
      some (.inl (x7, l3 + 1))
    )
  )

def M_X11_depth_w23 (n : Nat) (h : Hp) (l0 l2 l3 : Int) : Option (Hp × Int) :=
  (wh (S := (Int × Int)) (T := (Unit ⊕ (Hp × Int))) (fun a => M_X11_depth_b23 h l0 a.1 a.2) n (l2, l3)).bind (fun z => exi z (fun b => M_X11_depth_p72 h l0) (fun q => some q))

def M_X11_depth (h : Hp) (l0 l1 : Int) : Option (Hp × Int) := tk 21 h l0 (
  (pf 21 h l0 0 0).bind fun h =>
  (M_X11_isTown h l0 l1).bind fun x9 =>
  if w32 x9 = 0 then (
    bd (M_X11_refused h l0 1) fun h x10 =>
    some (h, x10)
  ) else (
    M_X11_depth_w23 FU h l0 l1 0
  ))

def M_X11_hangsBy_p103 (h : Hp) : Option Hp :=
  some h

def M_X11_hangsBy_p97 (h : Hp) (l0 l2 l3 l4 : Int) : Option ((Hp × Int) ⊕ Hp) :=
  some (.inl (h, l4 + 1))

def M_X11_hangsBy_b65 (h : Hp) (l0 l2 l3 l4 : Int) : Option ((Hp × Int) ⊕ Hp) :=
  if w32 l4 < 4 then (
    (M_X11_beside h l0 l2 l4).bind fun x1 =>
    if w32 x1 = (-1) then (
      M_X11_hangsBy_p97 h l0 l2 l3 l4
    ) else (
      (gr 21 h l0 34).bind fun x2 =>
      (M_X11_beside h l0 l2 l4).bind fun x3 =>
      (astZ h x2 (l3 + x3) 1).bind fun h =>
      M_X11_hangsBy_p97 h l0 l2 l3 l4
    )
  ) else (
    some (.inr h)
  )

def M_X11_hangsBy_w65 (n : Nat) (h : Hp) (l0 l2 l3 l4 : Int) : Option Hp :=
  (wh (S := (Hp × Int)) (T := Hp) (fun a => M_X11_hangsBy_b65 a.1 l0 l2 l3 a.2) n (h, l4)).bind (fun b => M_X11_hangsBy_p103 b)

def M_X11_hangsBy (h : Hp) (l0 l1 l2 : Int) : Option Hp := tk 21 h l0 (
  (gr 21 h l0 23).bind fun x4 =>
  (ald 1 h x4 l1).bind fun x5 =>
  if w32 x5 = (-2) then (
    (gr 21 h l0 34).bind fun x12 =>
    (astZ h x12 ((36 * l1) + l2) 1).bind fun h =>
    some h
  ) else (
    (gr 21 h l0 23).bind fun x6 =>
    (ald 1 h x6 l1).bind fun x7 =>
    (gr 21 h l0 34).bind fun x8 =>
    (M_X11_from h l0 l1 l2).bind fun x9 =>
    (astZ h x8 ((36 * x7) + x9) 1).bind fun h =>
    (gr 21 h l0 24).bind fun x10 =>
    (ald 1 h x10 (4 * l1)).bind fun x11 =>
    if w32 x11 = 6 then (
      M_X11_hangsBy_w65 FU h l0 l2 (36 * x7) 0
    ) else (
      some h
    )
  ))

def M_X11_laysBears_p256 (h : Hp) : Option Hp :=
  some h

def M_X11_laysBears_p250 (h : Hp) (l0 l1 l5 : Int) : Option ((Hp × Int) ⊕ Hp) :=
  some (.inl (h, l5 + 1))

def M_X11_laysBears_p244 (h : Hp) (l0 l1 l5 l6 : Int) : Option ((Hp × Int) ⊕ Hp) :=
  some (.inl (h, l6 + 1))

def M_X11_laysBears_b181 (h : Hp) (l0 l1 l5 l6 : Int) : Option ((Hp × Int) ⊕ Hp) :=
  (gr 21 h l0 3).bind fun x1 =>
  (gf 20 h x1 1).bind fun x2 =>
  if w32 l6 < w32 x2 then (
    (gr 21 h l0 34).bind fun x3 =>
    (M_X11_at h l0 l5 l6).bind fun x4 =>
    (ald 4 h x3 ((36 * l1) + x4)).bind fun x5 =>
    if w32 x5 = 0 then (
      M_X11_laysBears_p244 h l0 l1 l5 l6
    ) else (
      (gr 21 h l0 31).bind fun x6 =>
      (gf 21 h l0 36).bind fun x7 =>
      (M_X11_at h l0 l5 l6).bind fun x8 =>
      (ast 1 h x6 x7 x8).bind fun h =>
      (gf 21 h l0 36).bind fun x9 =>
      (pf 21 h l0 36 (x9 + 1)).bind fun h =>
      M_X11_laysBears_p244 h l0 l1 l5 l6
    )
  ) else (
    some (.inr h)
  )

def M_X11_laysBears_w181 (n : Nat) (h : Hp) (l0 l1 l5 l6 : Int) : Option ((Hp × Int) ⊕ Hp) :=
  (wh (S := (Hp × Int)) (T := Hp) (fun a => M_X11_laysBears_b181 a.1 l0 l1 l5 a.2) n (h, l6)).bind (fun b => M_X11_laysBears_p250 b l0 l1 l5)

def M_X11_laysBears_b166 (h : Hp) (l0 l1 l5 : Int) : Option ((Hp × Int) ⊕ Hp) :=
  (gr 21 h l0 3).bind fun x10 =>
  (gf 20 h x10 0).bind fun x11 =>
  if w32 l5 < w32 x11 then (
    M_X11_laysBears_w181 FU h l0 l1 l5 0
  ) else (
    some (.inr h)
  )

def M_X11_laysBears_w166 (n : Nat) (h : Hp) (l0 l1 l5 : Int) : Option Hp :=
  (wh (S := (Hp × Int)) (T := Hp) (fun a => M_X11_laysBears_b166 a.1 l0 l1 a.2) n (h, l5)).bind (fun b => M_X11_laysBears_p256 b)

def M_X11_laysBears_p158 (h : Hp) (l0 l1 : Int) : Option Hp :=
  (pf 21 h l0 36 0).bind fun h =>
  M_X11_laysBears_w166 FU h l0 l1 0

def M_X11_laysBears_p152 (h : Hp) (l0 l1 l4 l5 : Int) : Option ((Hp × Int) ⊕ Hp) :=
  some (.inl (h, l5 + 1))

def M_X11_laysBears_p146 (h : Hp) (l0 l1 l4 l5 l6 : Int) : Option ((Hp × Int) ⊕ Hp) :=
  some (.inl (h, l6 + 1))

def M_X11_laysBears_p140 (h : Hp) (l0 l1 l4 l5 l6 l7 : Int) : Option ((Hp × Int) ⊕ Hp) :=
  some (.inl (h, l7 + 1))

def M_X11_laysBears_b104 (h : Hp) (l0 l1 l4 l5 l6 l7 : Int) : Option ((Hp × Int) ⊕ Hp) :=
  (gr 21 h l0 3).bind fun x12 =>
  (M_X10_all h x12).bind fun x13 =>
  if w32 l7 < w32 x13 then (
    (gr 21 h l0 35).bind fun x14 =>
    (ald 4 h x14 ((36 * l6) + l7)).bind fun x15 =>
    if w32 x15 = 0 then (
      M_X11_laysBears_p140 h l0 l1 l4 l5 l6 l7
    ) else (
      (M_X11_hangsBy h l0 l6 l7).bind fun h =>
      M_X11_laysBears_p140 h l0 l1 l4 l5 l6 l7
    )
  ) else (
    some (.inr h)
  )

def M_X11_laysBears_w104 (n : Nat) (h : Hp) (l0 l1 l4 l5 l6 l7 : Int) : Option ((Hp × Int) ⊕ Hp) :=
  (wh (S := (Hp × Int)) (T := Hp) (fun a => M_X11_laysBears_b104 a.1 l0 l1 l4 l5 l6 a.2) n (h, l7)).bind (fun b => M_X11_laysBears_p146 b l0 l1 l4 l5 l6)

def M_X11_laysBears_b89 (h : Hp) (l0 l1 l4 l5 l6 : Int) : Option ((Hp × Int) ⊕ Hp) :=
  (gr 21 h l0 3).bind fun x16 =>
  (gf 20 h x16 3).bind fun x17 =>
  if w32 l6 < w32 x17 then (
    M_X11_laysBears_w104 FU h l0 l1 l4 l5 l6 0
  ) else (
    some (.inr h)
  )

def M_X11_laysBears_w89 (n : Nat) (h : Hp) (l0 l1 l4 l5 l6 : Int) : Option ((Hp × Int) ⊕ Hp) :=
  (wh (S := (Hp × Int)) (T := Hp) (fun a => M_X11_laysBears_b89 a.1 l0 l1 l4 l5 a.2) n (h, l6)).bind (fun b => M_X11_laysBears_p152 b l0 l1 l4 l5)

def M_X11_laysBears_p86 (h : Hp) (l0 l1 l4 l5 : Int) : Option ((Hp × Int) ⊕ Hp) :=
  M_X11_laysBears_w89 FU h l0 l1 l4 l5 0

def M_X11_laysBears_b50 (h : Hp) (l0 l1 l4 l5 l6 : Int) : Option ((Hp × Int) ⊕ Hp) :=
  if w32 l6 < 216 then (
    (gr 21 h l0 35).bind fun x18 =>
    (gr 21 h l0 34).bind fun x19 =>
    (ald 4 h x19 l6).bind fun x20 =>
    (astZ h x18 l6 x20).bind fun h =>
    (gr 21 h l0 34).bind fun x21 =>
    (astZ h x21 l6 0).bind fun h =>
    some (.inl (h, l6 + 1))
  ) else (
    some (.inr h)
  )

def M_X11_laysBears_w50 (n : Nat) (h : Hp) (l0 l1 l4 l5 l6 : Int) : Option ((Hp × Int) ⊕ Hp) :=
  (wh (S := (Hp × Int)) (T := Hp) (fun a => M_X11_laysBears_b50 a.1 l0 l1 l4 l5 a.2) n (h, l6)).bind (fun b => M_X11_laysBears_p86 b l0 l1 l4 l5)

def M_X11_laysBears_b40 (h : Hp) (l0 l1 l4 l5 : Int) : Option ((Hp × Int) ⊕ Hp) :=
  if w32 l5 < w32 l4 then (
    M_X11_laysBears_w50 FU h l0 l1 l4 l5 0
  ) else (
    some (.inr h)
  )

def M_X11_laysBears_w40 (n : Nat) (h : Hp) (l0 l1 l4 l5 : Int) : Option Hp :=
  (wh (S := (Hp × Int)) (T := Hp) (fun a => M_X11_laysBears_b40 a.1 l0 l1 l4 a.2) n (h, l5)).bind (fun b => M_X11_laysBears_p158 b l0 l1)

def M_X11_laysBears_p25 (h : Hp) (l0 l1 l2 l3 l4 : Int) : Option Hp :=
  (gr 21 h l0 34).bind fun x22 =>
  (astZ h x22 ((36 * l2) + l3) 1).bind fun h =>
  M_X11_laysBears_w40 FU h l0 l1 l4 0

def M_X11_laysBears_b3 (h : Hp) (l0 l1 l2 l3 l4 l5 : Int) : Option ((Hp × Int) ⊕ Hp) :=
  if w32 l5 < 216 then (
    (gr 21 h l0 34).bind fun x23 =>
    (astZ h x23 l5 0).bind fun h =>
    some (.inl (h, l5 + 1))
  ) else (
    some (.inr h)
  )

def M_X11_laysBears_w3 (n : Nat) (h : Hp) (l0 l1 l2 l3 l4 l5 : Int) : Option Hp :=
  (wh (S := (Hp × Int)) (T := Hp) (fun a => M_X11_laysBears_b3 a.1 l0 l1 l2 l3 l4 a.2) n (h, l5)).bind (fun b => M_X11_laysBears_p25 b l0 l1 l2 l3 l4)

def M_X11_laysBears (h : Hp) (l0 l1 l2 l3 l4 : Int) : Option Hp := tk 21 h l0 (
  M_X11_laysBears_w3 FU h l0 l1 l2 l3 l4 0)

def M_X11_isDrawn_p42 (h : Hp) (l0 l4 l5 l6 l7 : Int) : Option (Hp × Int) :=
  (M_X11_steps h l0 l7).bind fun h =>
  (M_X11_behind h l0 l7 l4 l5).bind fun x1 =>
  if w32 x1 = w32 l6 then (
    some (h, 1)
  ) else (
    some (h, 0)
  )

def M_X11_isDrawn_b7 (h : Hp) (l0 l1 l2 l3 l4 l5 l6 l7 l8 : Int) : Option ((Hp × Int) ⊕ Hp) :=
  if w32 l8 < w32 l3 then (
    (gr 21 h l0 22).bind fun x2 =>
    (gr 21 h l0 31).bind fun x3 =>
    (gr 21 h l0 32).bind fun x4 =>
    (ald 1 h x4 l8).bind fun x5 =>
    (ald 1 h x3 x5).bind fun x6 =>
    (ast 1 h x2 ((36 * l1) + x6) l2).bind fun h =>
    some (.inl (h, l8 + 1))
  ) else (
    some (.inr h)
  )

def M_X11_isDrawn_w7 (n : Nat) (h : Hp) (l0 l1 l2 l3 l4 l5 l6 l7 l8 : Int) : Option (Hp × Int) :=
  (wh (S := (Hp × Int)) (T := Hp) (fun a => M_X11_isDrawn_b7 a.1 l0 l1 l2 l3 l4 l5 l6 l7 a.2) n (h, l8)).bind (fun b => M_X11_isDrawn_p42 b l0 l4 l5 l6 l7)

def M_X11_isDrawn (h : Hp) (l0 l1 l2 l3 l4 l5 l6 l7 : Int) : Option (Hp × Int) := tk 21 h l0 (
  (M_X11_starts h l0).bind fun h =>
  M_X11_isDrawn_w7 FU h l0 l1 l2 l3 l4 l5 l6 l7 0)

def M_X11_nextStrokes_p78 (h : Hp) : Option (Hp × Int) :=
  some (h, 1)

def M_X11_nextStrokes_b51 (h : Hp) (l0 l1 l3 : Int) : Option ((Hp × Int) ⊕ Hp) :=
  if w32 l3 < w32 l1 then (
    (gr 21 h l0 32).bind fun x1 =>
    (gr 21 h l0 32).bind fun x2 =>
    (ald 1 h x2 (l3 - 1)).bind fun x3 =>
    (ast 1 h x1 l3 (x3 + 1)).bind fun h =>
    some (.inl (h, l3 + 1))
  ) else (
    some (.inr h)
  )

def M_X11_nextStrokes_w51 (n : Nat) (h : Hp) (l0 l1 l3 : Int) : Option (Hp × Int) :=
  (wh (S := (Hp × Int)) (T := Hp) (fun a => M_X11_nextStrokes_b51 a.1 l0 l1 a.2) n (h, l3)).bind (fun b => M_X11_nextStrokes_p78 b)

def M_X11_nextStrokes_p31 (h : Hp) (l0 l1 l2 : Int) : Option (Hp × Int) :=
  if w32 l2 < 0 then (
    some (h, 0)
  ) else (
    (gr 21 h l0 32).bind fun x4 =>
    (ald 1 h x4 l2).bind fun x5 =>
    (ast 1 h x4 l2 (x5 + 1)).bind fun h =>
    M_X11_nextStrokes_w51 FU h l0 l1 (l2 + 1)
  )

def M_X11_nextStrokes_b4 (h : Hp) (l0 l1 l2 : Int) : Option (Int ⊕ Int) :=
  if w32 l2 < 0 then (
    some (.inr l2)
  ) else (
    (gr 21 h l0 32).bind fun x6 =>
    (ald 1 h x6 l2).bind fun x7 =>
    (gf 21 h l0 36).bind fun x8 =>
    if w32 x7 = w32 ((x8 - l1) + l2) then (
      some (.inl (l2 + (-1)))
    ) else (
      some (.inr l2)
    )
  )

def M_X11_nextStrokes_w4 (n : Nat) (h : Hp) (l0 l1 l2 : Int) : Option (Hp × Int) :=
  (wh (S := Int) (T := Int) (fun a => M_X11_nextStrokes_b4 h l0 l1 a) n l2).bind (fun b => M_X11_nextStrokes_p31 h l0 l1 b)

def M_X11_nextStrokes (h : Hp) (l0 l1 : Int) : Option (Hp × Int) := tk 21 h l0 (
  M_X11_nextStrokes_w4 FU h l0 l1 (l1 - 1))

def M_X11_strokesOf_p142 (h : Hp) : Option (Hp × Int) :=
  some (h, (-1))

def M_X11_strokesOf_p136 (h : Hp) (l0 l1 l2 l3 l4 l5 l6 l7 : Int) : Option ((Hp × Int) ⊕ (Hp ⊕ (Hp × Int))) :=
  some (.inl (h, l7 + 1))

def M_X11_strokesOf_p122 (h : Hp) (l7 : Int) : Option ((Hp × Int) ⊕ (Hp ⊕ (Hp × Int))) :=
  some (.inr (.inr (h, l7)))

def M_X11_strokesOf_b86 (h : Hp) (l0 l7 l9 : Int) : Option ((Hp × Int) ⊕ Hp) :=
  if w32 l9 < w32 l7 then (
    (gr 21 h l0 33).bind fun x1 =>
    (gr 21 h l0 31).bind fun x2 =>
    (gr 21 h l0 32).bind fun x3 =>
    (ald 1 h x3 l9).bind fun x4 =>
    (ald 1 h x2 x4).bind fun x5 =>
    (M_X11_told h l0 x5).bind fun x6 =>
    (ast 1 h x1 l9 x6).bind fun h =>
    some (.inl (h, l9 + 1))
  ) else (
    some (.inr h)
  )

def M_X11_strokesOf_w86 (n : Nat) (h : Hp) (l0 l7 l9 : Int) : Option ((Hp × Int) ⊕ (Hp ⊕ (Hp × Int))) :=
  (wh (S := (Hp × Int)) (T := Hp) (fun a => M_X11_strokesOf_b86 a.1 l0 l7 a.2) n (h, l9)).bind (fun b => M_X11_strokesOf_p122 b l7)

def M_X11_strokesOf_b60 (h : Hp) (l0 l1 l2 l3 l4 l5 l6 l7 l8 : Int) : Option ((Hp × Int) ⊕ (Hp ⊕ (Hp × Int))) :=
  if w32 l8 = 0 then (
    some (.inr (.inl h))
  ) else (
    bd (M_X11_isDrawn h l0 l1 l2 l7 l3 l4 l5 l6) fun h x7 =>
    if w32 x7 = 0 then (
      bd (M_X11_nextStrokes h l0 l7) fun h x8 =>
      some (.inl (h, x8))
    ) else (
      M_X11_strokesOf_w86 FU h l0 l7 0
    )
  )

def M_X11_strokesOf_w60 (n : Nat) (h : Hp) (l0 l1 l2 l3 l4 l5 l6 l7 l8 : Int) : Option ((Hp × Int) ⊕ (Hp ⊕ (Hp × Int))) :=
  (wh (S := (Hp × Int)) (T := (Hp ⊕ (Hp × Int))) (fun a => M_X11_strokesOf_b60 a.1 l0 l1 l2 l3 l4 l5 l6 l7 a.2) n (h, l8)).bind (fun z => exi z (fun b => M_X11_strokesOf_p136 b l0 l1 l2 l3 l4 l5 l6 l7) (fun q => some (.inr (.inr q))))

def M_X11_strokesOf_p57 (h : Hp) (l0 l1 l2 l3 l4 l5 l6 l7 : Int) : Option ((Hp × Int) ⊕ (Hp ⊕ (Hp × Int))) :=
  M_X11_strokesOf_w60 FU h l0 l1 l2 l3 l4 l5 l6 l7 1

def M_X11_strokesOf_b35 (h : Hp) (l0 l1 l2 l3 l4 l5 l6 l7 l8 : Int) : Option ((Hp × Int) ⊕ Hp) :=
  if w32 l8 < w32 l7 then (
    (gr 21 h l0 32).bind fun x9 =>
    (ast 1 h x9 l8 l8).bind fun h =>
    some (.inl (h, l8 + 1))
  ) else (
    some (.inr h)
  )

def M_X11_strokesOf_w35 (n : Nat) (h : Hp) (l0 l1 l2 l3 l4 l5 l6 l7 l8 : Int) : Option ((Hp × Int) ⊕ (Hp ⊕ (Hp × Int))) :=
  (wh (S := (Hp × Int)) (T := Hp) (fun a => M_X11_strokesOf_b35 a.1 l0 l1 l2 l3 l4 l5 l6 l7 a.2) n (h, l8)).bind (fun b => M_X11_strokesOf_p57 b l0 l1 l2 l3 l4 l5 l6 l7)

def M_X11_strokesOf_b17 (h : Hp) (l0 l1 l2 l3 l4 l5 l6 l7 : Int) : Option ((Hp × Int) ⊕ (Hp ⊕ (Hp × Int))) :=
  if 3 < w32 l7 then (
    some (.inr (.inl h))
  ) else (
    (gf 21 h l0 36).bind fun x10 =>
    if w32 x10 < w32 l7 then (
      some (.inr (.inl h))
    ) else (
      M_X11_strokesOf_w35 FU h l0 l1 l2 l3 l4 l5 l6 l7 0
    )
  )

def M_X11_strokesOf_w17 (n : Nat) (h : Hp) (l0 l1 l2 l3 l4 l5 l6 l7 : Int) : Option (Hp × Int) :=
  (wh (S := (Hp × Int)) (T := (Hp ⊕ (Hp × Int))) (fun a => M_X11_strokesOf_b17 a.1 l0 l1 l2 l3 l4 l5 l6 a.2) n (h, l7)).bind (fun z => exi z (fun b => M_X11_strokesOf_p142 b) (fun q => some q))

def M_X11_strokesOf (h : Hp) (l0 l1 l2 l3 l4 l5 l6 : Int) : Option (Hp × Int) := tk 21 h l0 (
  (M_X11_starts h l0).bind fun h =>
  (M_X11_laysBears h l0 l1 l3 l4 l6).bind fun h =>
  M_X11_strokesOf_w17 FU h l0 l1 l2 l3 l4 l5 l6 0)

def M_X11_refusesStrokes (h : Hp) (l0 l1 l2 l3 l4 l5 l6 : Int) : Option Int := tk 21 h l0 (
  (M_X11_isTown h l0 l1).bind fun x1 =>
  if w32 x1 = 0 then (
    some 1
  ) else (
    (M_X11_isPlace h l0 l3 l4).bind fun x2 =>
    if w32 x2 = 0 then (
      some 1
    ) else (
      (M_X11_isMark h l0 l2).bind fun x3 =>
      if w32 x3 = 0 then (
        some 1
      ) else (
        (M_X11_isMark h l0 l5).bind fun x4 =>
        if w32 x4 = 0 then (
          some 1
        ) else (
          (M_X11_in h l6 0 12).bind fun x5 =>
          if w32 x5 = 0 then (
            some 2
          ) else (
            some 0
          )
        )
      )
    )
  ))

def M_X11_strokes (h : Hp) (l0 l1 l2 l3 l4 l5 l6 : Int) : Option (Hp × Int) := tk 21 h l0 (
  (pf 21 h l0 0 0).bind fun h =>
  (M_X11_refusesStrokes h l0 l1 l2 l3 l4 l5 l6).bind fun x1 =>
  if 0 < w32 x1 then (
    bd (M_X11_refused h l0 x1) fun h x6 =>
    some (h, x6)
  ) else (
    (M_X11_placeOf h l0 l4).bind fun x2 =>
    bd (M_X11_strokesOf h l0 l1 l2 l3 x2 l5 l6) fun h x3 =>
    if w32 x3 = (-1) then (
      bd (M_X11_good h l0 (-2)) fun h x5 =>
      some (h, x5)
    ) else (
      bd (M_X11_good h l0 x3) fun h x4 =>
      some (h, x4)
    )
  ))

def M_X11_strokeAt (h : Hp) (l0 l1 l2 l3 l4 l5 l6 l7 : Int) : Option (Hp × Int) := tk 21 h l0 (
  (pf 21 h l0 0 0).bind fun h =>
  (M_X11_refusesStrokes h l0 l1 l2 l3 l4 l5 l6).bind fun x1 =>
  if 0 < w32 x1 then (
    bd (M_X11_refused h l0 x1) fun h x9 =>
    some (h, x9)
  ) else (
    if w32 l7 < 0 then (
      bd (M_X11_refused h l0 1) fun h x2 =>
      some (h, x2)
    ) else (
      (M_X11_placeOf h l0 l4).bind fun x3 =>
      bd (M_X11_strokesOf h l0 l1 l2 l3 x3 l5 l6) fun h x4 =>
      if w32 l7 < w32 x4 then (
        (gr 21 h l0 33).bind fun x6 =>
        (ald 1 h x6 l7).bind fun x7 =>
        bd (M_X11_good h l0 x7) fun h x8 =>
        some (h, x8)
      ) else (
        bd (M_X11_refused h l0 1) fun h x5 =>
        some (h, x5)
      )
    )
  ))

def M_X11_isEdge (h : Hp) (l0 l1 : Int) : Option Int := tk 21 h l0 (
  (M_X11_column h l0 l1).bind fun x1 =>
  if w32 x1 = 0 then (
    some 1
  ) else (
    (M_X11_column h l0 l1).bind fun x2 =>
    (gr 21 h l0 3).bind fun x3 =>
    (gf 20 h x3 0).bind fun x4 =>
    if w32 x2 = w32 (x4 - 1) then (
      some 1
    ) else (
      (M_X11_rowOf h l0 l1).bind fun x5 =>
      if w32 x5 = 0 then (
        some 1
      ) else (
        (M_X11_rowOf h l0 l1).bind fun x6 =>
        (gr 21 h l0 3).bind fun x7 =>
        (gf 20 h x7 1).bind fun x8 =>
        if w32 x6 = w32 (x8 - 1) then (
          some 1
        ) else (
          some 0
        )
      )
    )
  ))

def M_X11_ink_p273 (h : Hp) (l0 l6 : Int) : Option (Hp × Int) :=
  bd (M_X11_good h l0 l6) fun h x1 =>
  some (h, x1)

def M_X11_ink_p267 (h : Hp) (l0 l6 l7 : Int) : Option ((Int × Int) ⊕ Int) :=
  some (.inl (l6, l7 + 1))

def M_X11_ink_b225 (h : Hp) (l0 l6 l7 : Int) : Option ((Int × Int) ⊕ Int) :=
  (gr 21 h l0 3).bind fun x2 =>
  (M_X10_all h x2).bind fun x3 =>
  if w32 l7 < w32 x3 then (
    (M_X11_isEdge h l0 l7).bind fun x4 =>
    if w32 x4 = 0 then (
      M_X11_ink_p267 h l0 l6 l7
    ) else (
      (gr 21 h l0 37).bind fun x5 =>
      (ald 1 h x5 l7).bind fun x6 =>
      if w32 x6 < w32 l6 then (
        (gr 21 h l0 37).bind fun x7 =>
        (ald 1 h x7 l7).bind fun x8 =>
        M_X11_ink_p267 h l0 x8 l7
      ) else (
        M_X11_ink_p267 h l0 l6 l7
      )
    )
  ) else (
    some (.inr l6)
  )

def M_X11_ink_w225 (n : Nat) (h : Hp) (l0 l6 l7 : Int) : Option (Hp × Int) :=
  (wh (S := (Int × Int)) (T := Int) (fun a => M_X11_ink_b225 h l0 a.1 a.2) n (l6, l7)).bind (fun b => M_X11_ink_p273 h l0 b)

def M_X11_ink_p218 (h : Hp) (l0 : Int) : Option (Hp × Int) :=
  M_X11_ink_w225 FU h l0 99 0

def M_X11_ink_p212 (h : Hp) (l0 l3 l4 l6 : Int) : Option ((Hp × Int) ⊕ Hp) :=
  some (.inl (h, l6 + 1))

def M_X11_ink_p206 (h : Hp) (l0 l3 l4 l6 l7 : Int) : Option ((Hp × Int) ⊕ Hp) :=
  some (.inl (h, l7 + 1))

def M_X11_ink_p200 (h : Hp) (l0 l3 l4 l6 l7 l8 : Int) : Option ((Hp × Int) ⊕ Hp) :=
  some (.inl (h, l8 + 1))

def M_X11_ink_p176 (h : Hp) (l0 l3 l4 l6 l7 l8 l9 : Int) (s0 s1 : Int) : Option ((Hp × Int) ⊕ Hp) :=
  (gr 21 h l0 37).bind fun x9 =>
  (ald 1 h x9 l9).bind fun x10 =>
  if w32 (s0 + s1) < w32 x10 then (
    (gr 21 h l0 37).bind fun x11 =>
    (ast 1 h x11 l9 (s0 + s1)).bind fun h =>
    M_X11_ink_p200 h l0 l3 l4 l6 l7 l8
  ) else (
    M_X11_ink_p200 h l0 l3 l4 l6 l7 l8
  )

def M_X11_ink_b125 (h : Hp) (l0 l3 l4 l6 l7 l8 : Int) : Option ((Hp × Int) ⊕ Hp) :=
  if w32 l8 < 4 then (
    (M_X11_beside h l0 l7 l8).bind fun x12 =>
    if w32 x12 = (-1) then (
      M_X11_ink_p200 h l0 l3 l4 l6 l7 l8
    ) else (
      (gr 21 h l0 37).bind fun x13 =>
      (ald 1 h x13 l7).bind fun x14 =>
      (gr 21 h l0 17).bind fun x15 =>
      (ald 1 h x15 (l4 + x12)).bind fun x16 =>
      if w32 x16 = w32 l3 then (
        M_X11_ink_p176 h l0 l3 l4 l6 l7 l8 x12 x14 0
      ) else (
        M_X11_ink_p176 h l0 l3 l4 l6 l7 l8 x12 x14 1
      )
    )
  ) else (
    some (.inr h)
  )

def M_X11_ink_w125 (n : Nat) (h : Hp) (l0 l3 l4 l6 l7 l8 : Int) : Option ((Hp × Int) ⊕ Hp) :=
  (wh (S := (Hp × Int)) (T := Hp) (fun a => M_X11_ink_b125 a.1 l0 l3 l4 l6 l7 a.2) n (h, l8)).bind (fun b => M_X11_ink_p206 b l0 l3 l4 l6 l7)

def M_X11_ink_b110 (h : Hp) (l0 l3 l4 l6 l7 : Int) : Option ((Hp × Int) ⊕ Hp) :=
  (gr 21 h l0 3).bind fun x17 =>
  (M_X10_all h x17).bind fun x18 =>
  if w32 l7 < w32 x18 then (
    M_X11_ink_w125 FU h l0 l3 l4 l6 l7 0
  ) else (
    some (.inr h)
  )

def M_X11_ink_w110 (n : Nat) (h : Hp) (l0 l3 l4 l6 l7 : Int) : Option ((Hp × Int) ⊕ Hp) :=
  (wh (S := (Hp × Int)) (T := Hp) (fun a => M_X11_ink_b110 a.1 l0 l3 l4 l6 a.2) n (h, l7)).bind (fun b => M_X11_ink_p212 b l0 l3 l4 l6)

def M_X11_ink_b95 (h : Hp) (l0 l3 l4 l6 : Int) : Option ((Hp × Int) ⊕ Hp) :=
  (gr 21 h l0 3).bind fun x19 =>
  (M_X10_all h x19).bind fun x20 =>
  if w32 l6 < w32 x20 then (
    M_X11_ink_w110 FU h l0 l3 l4 l6 0
  ) else (
    some (.inr h)
  )

def M_X11_ink_w95 (n : Nat) (h : Hp) (l0 l3 l4 l6 : Int) : Option (Hp × Int) :=
  (wh (S := (Hp × Int)) (T := Hp) (fun a => M_X11_ink_b95 a.1 l0 l3 l4 a.2) n (h, l6)).bind (fun b => M_X11_ink_p218 b l0)

def M_X11_ink_p91 (h : Hp) (l0 l3 l4 : Int) (s0 s1 s2 : Int) : Option (Hp × Int) :=
  (ast 1 h s0 s1 s2).bind fun h =>
  M_X11_ink_w95 FU h l0 l3 l4 0

def M_X11_ink_p59 (h : Hp) (l0 l2 l3 l4 : Int) : Option (Hp × Int) :=
  (M_X11_placeOf h l0 l2).bind fun x21 =>
  (gr 21 h l0 37).bind fun x22 =>
  (gr 21 h l0 17).bind fun x23 =>
  (ald 1 h x23 (l4 + x21)).bind fun x24 =>
  if w32 x24 = w32 l3 then (
    M_X11_ink_p91 h l0 l3 l4 x22 x21 0
  ) else (
    M_X11_ink_p91 h l0 l3 l4 x22 x21 1
  )

def M_X11_ink_b37 (h : Hp) (l0 l2 l3 l4 l5 : Int) : Option ((Hp × Int) ⊕ Hp) :=
  if w32 l5 < 36 then (
    (gr 21 h l0 37).bind fun x25 =>
    (ast 1 h x25 l5 99).bind fun h =>
    some (.inl (h, l5 + 1))
  ) else (
    some (.inr h)
  )

def M_X11_ink_w37 (n : Nat) (h : Hp) (l0 l2 l3 l4 l5 : Int) : Option (Hp × Int) :=
  (wh (S := (Hp × Int)) (T := Hp) (fun a => M_X11_ink_b37 a.1 l0 l2 l3 l4 a.2) n (h, l5)).bind (fun b => M_X11_ink_p59 b l0 l2 l3 l4)

def M_X11_ink (h : Hp) (l0 l1 l2 l3 : Int) : Option (Hp × Int) := tk 21 h l0 (
  (pf 21 h l0 0 0).bind fun h =>
  (M_X11_isPlace h l0 l1 l2).bind fun x26 =>
  if w32 x26 = 0 then (
    bd (M_X11_refused h l0 1) fun h x27 =>
    some (h, x27)
  ) else (
    (M_X11_isMark h l0 l3).bind fun x28 =>
    if w32 x28 = 0 then (
      bd (M_X11_refused h l0 1) fun h x29 =>
      some (h, x29)
    ) else (
      M_X11_ink_w37 FU h l0 l2 l3 (36 * l1) 0
    )
  ))

def M_X11_firstUnseen_p64 (h : Hp) : Option Int :=
  some (-2)

def M_X11_firstUnseen_b2 (h : Hp) (l0 l1 : Int) : Option (Int ⊕ (Unit ⊕ (Int))) :=
  (gr 21 h l0 3).bind fun x1 =>
  (gf 20 h x1 5).bind fun x2 =>
  if w32 l1 < w32 x2 then (
    (gr 21 h l0 3).bind fun x3 =>
    (gr 20 h x3 12).bind fun x4 =>
    (ald 1 h x4 l1).bind fun x5 =>
    (gr 21 h l0 3).bind fun x6 =>
    (gr 20 h x6 11).bind fun x7 =>
    (ald 1 h x7 l1).bind fun x8 =>
    (gr 21 h l0 3).bind fun x9 =>
    (gr 20 h x9 13).bind fun x10 =>
    (ald 1 h x10 l1).bind fun x11 =>
    (M_X11_behind h l0 x5 x8 x11).bind fun x12 =>
    (gr 21 h l0 3).bind fun x13 =>
    (gr 20 h x13 14).bind fun x14 =>
    (ald 1 h x14 l1).bind fun x15 =>
    if w32 x12 = w32 x15 then (
      some (.inl (l1 + 1))
    ) else (
      some (.inr (.inr l1))
    )
  ) else (
    some (.inr (.inl ()))
  )

def M_X11_firstUnseen_w2 (n : Nat) (h : Hp) (l0 l1 : Int) : Option Int :=
  (wh (S := Int) (T := (Unit ⊕ (Int))) (fun a => M_X11_firstUnseen_b2 h l0 a) n l1).bind (fun z => exi z (fun b => M_X11_firstUnseen_p64 h) (fun q => some q))

def M_X11_firstUnseen (h : Hp) (l0 : Int) : Option Int := tk 21 h l0 (
  M_X11_firstUnseen_w2 FU h l0 0)

def M_X11_latestSeen_p48 (h : Hp) (l1 : Int) : Option Int :=
  some l1

def M_X11_latestSeen_p41 (h : Hp) (l0 l2 : Int) (s0 : Int) : Option ((Int × Int) ⊕ Int) :=
  some (.inl (s0, l2 + 1))

def M_X11_latestSeen_b4 (h : Hp) (l0 l1 l2 : Int) : Option ((Int × Int) ⊕ Int) :=
  (gr 21 h l0 3).bind fun x1 =>
  (gf 20 h x1 5).bind fun x2 =>
  if w32 l2 < w32 x2 then (
    (gr 21 h l0 3).bind fun x3 =>
    (gr 20 h x3 12).bind fun x4 =>
    (ald 1 h x4 l2).bind fun x5 =>
    if w32 l1 < w32 x5 then (
      (gr 21 h l0 3).bind fun x6 =>
      (gr 20 h x6 12).bind fun x7 =>
      (ald 1 h x7 l2).bind fun x8 =>
      M_X11_latestSeen_p41 h l0 l2 x8
    ) else (
      M_X11_latestSeen_p41 h l0 l2 l1
    )
  ) else (
    some (.inr l1)
  )

def M_X11_latestSeen_w4 (n : Nat) (h : Hp) (l0 l1 l2 : Int) : Option Int :=
  (wh (S := (Int × Int)) (T := Int) (fun a => M_X11_latestSeen_b4 h l0 a.1 a.2) n (l1, l2)).bind (fun b => M_X11_latestSeen_p48 h b)

def M_X11_latestSeen (h : Hp) (l0 : Int) : Option Int := tk 21 h l0 (
  M_X11_latestSeen_w4 FU h l0 0 0)

def M_X11_judge (h : Hp) (l0 : Int) : Option (Hp × Int) := tk 21 h l0 (
  (pf 21 h l0 0 0).bind fun h =>
  (gf 21 h l0 3).bind fun x1 =>
  if x1 < 0 then (
    bd (M_X11_refused h l0 1) fun h x2 =>
    some (h, x2)
  ) else (
    (M_X11_startsTold h l0).bind fun h =>
    (M_X11_latestSeen h l0).bind fun x3 =>
    (M_X11_steps h l0 x3).bind fun h =>
    (M_X11_firstUnseen h l0).bind fun x4 =>
    bd (M_X11_good h l0 x4) fun h x5 =>
    some (h, x5)
  ))

def M_X11_isUnknown (h : Hp) (l0 l1 : Int) : Option Int := tk 21 h l0 (
  (gr 21 h l0 3).bind fun x1 =>
  (gr 20 h x1 8).bind fun x2 =>
  (ald 1 h x2 l1).bind fun x3 =>
  if w32 x3 = (-2) then (
    some 0
  ) else (
    (gr 21 h l0 3).bind fun x4 =>
    (gr 20 h x4 9).bind fun x5 =>
    (ald 1 h x5 (4 * l1)).bind fun x6 =>
    if w32 x6 = 10 then (
      some 1
    ) else (
      some 0
    )
  ))

def M_X11_nextRow_p66 (h : Hp) : Option (Hp × Int) :=
  some (h, 0)

def M_X11_nextRow_p60 (h : Hp) (l0 l1 : Int) : Option ((Hp × Int) ⊕ (Hp ⊕ (Hp × Int))) :=
  some (.inl (h, l1 + (-1)))

def M_X11_nextRow_b10 (h : Hp) (l0 l1 : Int) : Option ((Hp × Int) ⊕ (Hp ⊕ (Hp × Int))) :=
  if w32 l1 < 0 then (
    some (.inr (.inl h))
  ) else (
    (M_X11_isUnknown h l0 l1).bind fun x1 =>
    if w32 x1 = 0 then (
      M_X11_nextRow_p60 h l0 l1
    ) else (
      (gr 21 h l0 38).bind fun x2 =>
      (ald 1 h x2 l1).bind fun x3 =>
      (ast 1 h x2 l1 (x3 + 1)).bind fun h =>
      (gr 21 h l0 38).bind fun x4 =>
      (ald 1 h x4 l1).bind fun x5 =>
      (gr 21 h l0 3).bind fun x6 =>
      (gf 20 h x6 4).bind fun x7 =>
      if w32 x5 < w32 x7 then (
        some (.inr (.inr (h, 1)))
      ) else (
        (gr 21 h l0 38).bind fun x8 =>
        (ast 1 h x8 l1 0).bind fun h =>
        M_X11_nextRow_p60 h l0 l1
      )
    )
  )

def M_X11_nextRow_w10 (n : Nat) (h : Hp) (l0 l1 : Int) : Option (Hp × Int) :=
  (wh (S := (Hp × Int)) (T := (Hp ⊕ (Hp × Int))) (fun a => M_X11_nextRow_b10 a.1 l0 a.2) n (h, l1)).bind (fun z => exi z (fun b => M_X11_nextRow_p66 b) (fun q => some q))

def M_X11_nextRow (h : Hp) (l0 : Int) : Option (Hp × Int) := tk 21 h l0 (
  (gr 21 h l0 3).bind fun x9 =>
  (gf 20 h x9 3).bind fun x10 =>
  M_X11_nextRow_w10 FU h l0 (x10 - 1))

def M_X11_fitting_p203 (h : Hp) (l2 : Int) : Option (Hp × Int) :=
  some (h, l2)

def M_X11_fitting_p195 (h : Hp) (l0 l1 l2 : Int) : Option ((Hp × Int × Int) ⊕ (Hp × Int)) :=
  bd (M_X11_nextRow h l0) fun h x1 =>
  some (.inl (h, l2, x1))

def M_X11_fitting_p192 (h : Hp) (l0 l1 l2 : Int) : Option ((Hp × Int × Int) ⊕ (Hp × Int)) :=
  M_X11_fitting_p195 h l0 l1 (l2 + 1)

def M_X11_fitting_p186 (h : Hp) (l0 l1 l2 l4 : Int) : Option ((Hp × Int) ⊕ Hp) :=
  some (.inl (h, l4 + 1))

def M_X11_fitting_b141 (h : Hp) (l0 l1 l2 l4 : Int) : Option ((Hp × Int) ⊕ Hp) :=
  if w32 l4 < 6 then (
    (gr 21 h l0 40).bind fun x2 =>
    (ald 1 h x2 l4).bind fun x3 =>
    (gr 21 h l0 38).bind fun x4 =>
    (ald 1 h x4 l4).bind fun x5 =>
    (ast 1 h x2 l4 (ior x3 (ishl 1 x5))).bind fun h =>
    if w32 l2 = w32 l1 then (
      (gr 21 h l0 39).bind fun x6 =>
      (gr 21 h l0 38).bind fun x7 =>
      (ald 1 h x7 l4).bind fun x8 =>
      (ast 1 h x6 l4 x8).bind fun h =>
      M_X11_fitting_p186 h l0 l1 l2 l4
    ) else (
      M_X11_fitting_p186 h l0 l1 l2 l4
    )
  ) else (
    some (.inr h)
  )

def M_X11_fitting_w141 (n : Nat) (h : Hp) (l0 l1 l2 l4 : Int) : Option ((Hp × Int × Int) ⊕ (Hp × Int)) :=
  (wh (S := (Hp × Int)) (T := Hp) (fun a => M_X11_fitting_b141 a.1 l0 l1 l2 a.2) n (h, l4)).bind (fun b => M_X11_fitting_p192 b l0 l1 l2)

def M_X11_fitting_p121 (h : Hp) (l0 l1 l2 : Int) : Option ((Hp × Int × Int) ⊕ (Hp × Int)) :=
  (M_X11_latestSeen h l0).bind fun x9 =>
  (M_X11_steps h l0 x9).bind fun h =>
  (M_X11_firstUnseen h l0).bind fun x10 =>
  if w32 x10 = (-2) then (
    M_X11_fitting_w141 FU h l0 l1 l2 0
  ) else (
    M_X11_fitting_p195 h l0 l1 l2
  )

def M_X11_fitting_p115 (h : Hp) (l0 l1 l2 l4 : Int) : Option ((Hp × Int) ⊕ Hp) :=
  some (.inl (h, l4 + 1))

def M_X11_fitting_b62 (h : Hp) (l0 l1 l2 l4 l5 : Int) : Option ((Hp × Int) ⊕ Hp) :=
  if w32 l5 < 4 then (
    (M_X11_isUnknown h l0 l4).bind fun x11 =>
    if w32 x11 = 0 then (
      some (.inr h)
    ) else (
      (gr 21 h l0 24).bind fun x12 =>
      (gr 21 h l0 3).bind fun x13 =>
      (gr 20 h x13 10).bind fun x14 =>
      (gr 21 h l0 38).bind fun x15 =>
      (ald 1 h x15 l4).bind fun x16 =>
      (ald 1 h x14 ((4 * x16) + l5)).bind fun x17 =>
      (ast 1 h x12 ((4 * l4) + l5) x17).bind fun h =>
      some (.inl (h, l5 + 1))
    )
  ) else (
    some (.inr h)
  )

def M_X11_fitting_w62 (n : Nat) (h : Hp) (l0 l1 l2 l4 l5 : Int) : Option ((Hp × Int) ⊕ Hp) :=
  (wh (S := (Hp × Int)) (T := Hp) (fun a => M_X11_fitting_b62 a.1 l0 l1 l2 l4 a.2) n (h, l5)).bind (fun b => M_X11_fitting_p115 b l0 l1 l2 l4)

def M_X11_fitting_b47 (h : Hp) (l0 l1 l2 l4 : Int) : Option ((Hp × Int) ⊕ Hp) :=
  (gr 21 h l0 3).bind fun x18 =>
  (gf 20 h x18 3).bind fun x19 =>
  if w32 l4 < w32 x19 then (
    M_X11_fitting_w62 FU h l0 l1 l2 l4 0
  ) else (
    some (.inr h)
  )

def M_X11_fitting_w47 (n : Nat) (h : Hp) (l0 l1 l2 l4 : Int) : Option ((Hp × Int × Int) ⊕ (Hp × Int)) :=
  (wh (S := (Hp × Int)) (T := Hp) (fun a => M_X11_fitting_b47 a.1 l0 l1 l2 a.2) n (h, l4)).bind (fun b => M_X11_fitting_p121 b l0 l1 l2)

def M_X11_fitting_b36 (h : Hp) (l0 l1 l2 l3 : Int) : Option ((Hp × Int × Int) ⊕ (Hp × Int)) :=
  if w32 l3 = 0 then (
    some (.inr (h, l2))
  ) else (
    (M_X11_startsTold h l0).bind fun h =>
    M_X11_fitting_w47 FU h l0 l1 l2 0
  )

def M_X11_fitting_w36 (n : Nat) (h : Hp) (l0 l1 l2 l3 : Int) : Option (Hp × Int) :=
  (wh (S := (Hp × Int × Int)) (T := (Hp × Int)) (fun a => M_X11_fitting_b36 a.1 l0 l1 a.2.1 a.2.2) n (h, l2, l3)).bind (fun b => M_X11_fitting_p203 b.1 b.2)

def M_X11_fitting_b7 (h : Hp) (l0 l1 l2 l3 l4 : Int) : Option ((Hp × Int) ⊕ Hp) :=
  if w32 l4 < 6 then (
    (gr 21 h l0 38).bind fun x20 =>
    (ast 1 h x20 l4 0).bind fun h =>
    (gr 21 h l0 40).bind fun x21 =>
    (ast 1 h x21 l4 0).bind fun h =>
    some (.inl (h, l4 + 1))
  ) else (
    some (.inr h)
  )

def M_X11_fitting_w7 (n : Nat) (h : Hp) (l0 l1 l2 l3 l4 : Int) : Option (Hp × Int) :=
  (wh (S := (Hp × Int)) (T := Hp) (fun a => M_X11_fitting_b7 a.1 l0 l1 l2 l3 a.2) n (h, l4)).bind (fun b => M_X11_fitting_w36 FU b l0 l1 l2 l3)

def M_X11_fitting (h : Hp) (l0 l1 : Int) : Option (Hp × Int) := tk 21 h l0 (
  M_X11_fitting_w7 FU h l0 l1 0 1 0)

def M_X11_refusesFits (h : Hp) (l0 : Int) : Option Int := tk 21 h l0 (
  (gf 21 h l0 3).bind fun x1 =>
  if x1 < 0 then (
    some 1
  ) else (
    (gr 21 h l0 3).bind fun x2 =>
    (gf 20 h x2 6).bind fun x3 =>
    if w32 x3 = 0 then (
      some 6
    ) else (
      (gr 21 h l0 3).bind fun x4 =>
      (gf 20 h x4 4).bind fun x5 =>
      if w32 x5 = 0 then (
        some 6
      ) else (
        some 0
      )
    )
  ))

def M_X11_fits (h : Hp) (l0 : Int) : Option (Hp × Int) := tk 21 h l0 (
  (pf 21 h l0 0 0).bind fun h =>
  (M_X11_refusesFits h l0).bind fun x1 =>
  if 0 < w32 x1 then (
    bd (M_X11_refused h l0 x1) fun h x4 =>
    some (h, x4)
  ) else (
    bd (M_X11_fitting h l0 (-1)) fun h x2 =>
    bd (M_X11_good h l0 x2) fun h x3 =>
    some (h, x3)
  ))

def M_X11_fit (h : Hp) (l0 l1 l2 : Int) : Option (Hp × Int) := tk 21 h l0 (
  (pf 21 h l0 0 0).bind fun h =>
  (M_X11_refusesFits h l0).bind fun x1 =>
  if 0 < w32 x1 then (
    bd (M_X11_refused h l0 x1) fun h x12 =>
    some (h, x12)
  ) else (
    (M_X11_isTown h l0 l2).bind fun x2 =>
    if w32 x2 = 0 then (
      bd (M_X11_refused h l0 1) fun h x3 =>
      some (h, x3)
    ) else (
      (M_X11_isUnknown h l0 l2).bind fun x4 =>
      if w32 x4 = 0 then (
        bd (M_X11_refused h l0 1) fun h x5 =>
        some (h, x5)
      ) else (
        if w32 l1 < 0 then (
          bd (M_X11_refused h l0 1) fun h x6 =>
          some (h, x6)
        ) else (
          bd (M_X11_fitting h l0 l1) fun h x7 =>
          if w32 l1 < w32 x7 then (
            (gr 21 h l0 39).bind fun x8 =>
            (ald 1 h x8 l2).bind fun x9 =>
            bd (M_X11_good h l0 x9) fun h x10 =>
            some (h, x10)
          ) else (
            bd (M_X11_refused h l0 1) fun h x11 =>
            some (h, x11)
          )
        )
      )
    )
  ))

def M_X11_surely_p85 (h : Hp) (l0 : Int) : Option (Hp × Int) :=
  bd (M_X11_good h l0 (-2)) fun h x1 =>
  some (h, x1)

def M_X11_surely_b50 (h : Hp) (l0 l1 l3 : Int) : Option (Int ⊕ (Unit ⊕ (Hp × Int))) :=
  (gr 21 h l0 3).bind fun x2 =>
  (gf 20 h x2 4).bind fun x3 =>
  if w32 l3 < w32 x3 then (
    (gr 21 h l0 40).bind fun x4 =>
    (ald 1 h x4 l1).bind fun x5 =>
    if w32 x5 = w32 (ishl 1 l3) then (
      bd (M_X11_good h l0 l3) fun h x6 =>
      some (.inr (.inr (h, x6)))
    ) else (
      some (.inl (l3 + 1))
    )
  ) else (
    some (.inr (.inl ()))
  )

def M_X11_surely_w50 (n : Nat) (h : Hp) (l0 l1 l3 : Int) : Option (Hp × Int) :=
  (wh (S := Int) (T := (Unit ⊕ (Hp × Int))) (fun a => M_X11_surely_b50 h l0 l1 a) n l3).bind (fun z => exi z (fun b => M_X11_surely_p85 h l0) (fun q => some q))

def M_X11_surely (h : Hp) (l0 l1 : Int) : Option (Hp × Int) := tk 21 h l0 (
  (pf 21 h l0 0 0).bind fun h =>
  (M_X11_refusesFits h l0).bind fun x7 =>
  if 0 < w32 x7 then (
    bd (M_X11_refused h l0 x7) fun h x13 =>
    some (h, x13)
  ) else (
    (M_X11_isTown h l0 l1).bind fun x8 =>
    if w32 x8 = 0 then (
      bd (M_X11_refused h l0 1) fun h x9 =>
      some (h, x9)
    ) else (
      (M_X11_isUnknown h l0 l1).bind fun x10 =>
      if w32 x10 = 0 then (
        bd (M_X11_refused h l0 1) fun h x12 =>
        some (h, x12)
      ) else (
        bd (M_X11_fitting h l0 (-1)) fun h x11 =>
        M_X11_surely_w50 FU h l0 l1 0
      )
    )
  ))

def M_X11_remembers_p86 (h : Hp) (l0 : Int) : Option Hp :=
  (gf 21 h l0 20).bind fun x1 =>
  (pf 21 h l0 20 (x1 + 1)).bind fun h =>
  some h

def M_X11_remembers_b52 (h : Hp) (l0 l1 : Int) : Option ((Hp × Int) ⊕ Hp) :=
  if w32 l1 < 248 then (
    (gr 21 h l0 18).bind fun x2 =>
    (gf 21 h l0 20).bind fun x3 =>
    (gr 21 h l0 17).bind fun x4 =>
    (ald 1 h x4 l1).bind fun x5 =>
    (ast 1 h x2 ((248 * x3) + l1) x5).bind fun h =>
    some (.inl (h, l1 + 1))
  ) else (
    some (.inr h)
  )

def M_X11_remembers_w52 (n : Nat) (h : Hp) (l0 l1 : Int) : Option Hp :=
  (wh (S := (Hp × Int)) (T := Hp) (fun a => M_X11_remembers_b52 a.1 l0 a.2) n (h, l1)).bind (fun b => M_X11_remembers_p86 b l0)

def M_X11_remembers_p50 (h : Hp) (l0 : Int) : Option Hp :=
  M_X11_remembers_w52 FU h l0 0

def M_X11_remembers_p40 (h : Hp) (l0 : Int) : Option Hp :=
  (gf 21 h l0 20).bind fun x6 =>
  (pf 21 h l0 20 (x6 - 1)).bind fun h =>
  M_X11_remembers_p50 h l0

def M_X11_remembers_b11 (h : Hp) (l0 l1 : Int) : Option ((Hp × Int) ⊕ Hp) :=
  if w32 l1 < 2728 then (
    (gr 21 h l0 18).bind fun x7 =>
    (gr 21 h l0 18).bind fun x8 =>
    (ald 1 h x8 (l1 + 248)).bind fun x9 =>
    (ast 1 h x7 l1 x9).bind fun h =>
    some (.inl (h, l1 + 1))
  ) else (
    some (.inr h)
  )

def M_X11_remembers_w11 (n : Nat) (h : Hp) (l0 l1 : Int) : Option Hp :=
  (wh (S := (Hp × Int)) (T := Hp) (fun a => M_X11_remembers_b11 a.1 l0 a.2) n (h, l1)).bind (fun b => M_X11_remembers_p40 b l0)

def M_X11_remembers (h : Hp) (l0 : Int) : Option Hp := tk 21 h l0 (
  (gf 21 h l0 20).bind fun x10 =>
  if w32 x10 = 12 then (
    M_X11_remembers_w11 FU h l0 0
  ) else (
    M_X11_remembers_p50 h l0
  ))

def M_X11_rounds_p80 (h : Hp) (l0 l1 : Int) : Option (Hp × Int) :=
  (gr 21 h l0 17).bind fun x1 =>
  (gf 21 h l0 26).bind fun x2 =>
  (ast 1 h x1 247 x2).bind fun h =>
  (gr 21 h l0 17).bind fun x3 =>
  (ald 1 h x3 246).bind fun x4 =>
  (ast 1 h x3 246 (x4 + l1)).bind fun h =>
  (gr 21 h l0 17).bind fun x5 =>
  (ald 1 h x5 246).bind fun x6 =>
  bd (M_X11_good h l0 x6) fun h x7 =>
  some (h, x7)

def M_X11_rounds_b49 (h : Hp) (l0 l1 l2 : Int) : Option ((Hp × Int) ⊕ Hp) :=
  if w32 l2 < 216 then (
    (gr 21 h l0 17).bind fun x8 =>
    (gr 21 h l0 22).bind fun x9 =>
    (ald 1 h x9 ((216 * l1) + l2)).bind fun x10 =>
    (ast 1 h x8 l2 x10).bind fun h =>
    some (.inl (h, l2 + 1))
  ) else (
    some (.inr h)
  )

def M_X11_rounds_w49 (n : Nat) (h : Hp) (l0 l1 l2 : Int) : Option (Hp × Int) :=
  (wh (S := (Hp × Int)) (T := Hp) (fun a => M_X11_rounds_b49 a.1 l0 l1 a.2) n (h, l2)).bind (fun b => M_X11_rounds_p80 b l0 l1)

def M_X11_rounds (h : Hp) (l0 l1 : Int) : Option (Hp × Int) := tk 21 h l0 (
  (pf 21 h l0 0 0).bind fun h =>
  (gf 21 h l0 3).bind fun x11 =>
  if x11 < 0 then (
    bd (M_X11_refused h l0 1) fun h x12 =>
    some (h, x12)
  ) else (
    (M_X11_in h l1 1 60).bind fun x13 =>
    if w32 x13 = 0 then (
      bd (M_X11_refused h l0 2) fun h x14 =>
      some (h, x14)
    ) else (
      (M_X11_remembers h l0).bind fun h =>
      (M_X11_starts h l0).bind fun h =>
      (M_X11_steps h l0 l1).bind fun h =>
      M_X11_rounds_w49 FU h l0 l1 0
    )
  ))

def M_X11_draw (h : Hp) (l0 l1 l2 l3 : Int) : Option (Hp × Int) := tk 21 h l0 (
  (pf 21 h l0 0 0).bind fun h =>
  (M_X11_isPlace h l0 l1 l2).bind fun x1 =>
  if w32 x1 = 0 then (
    bd (M_X11_denied h l0 1) fun h x2 =>
    (zb1 x2 ()).bind fun _ =>
    some (h, x2)
  ) else (
    (M_X11_isMark h l0 l3).bind fun x4 =>
    if w32 x4 = 0 then (
      bd (M_X11_denied h l0 1) fun h x14 =>
      (zb1 x14 ()).bind fun _ =>
      some (h, x14)
    ) else (
      (gr 21 h l0 17).bind fun x5 =>
      (M_X11_placeOf h l0 l2).bind fun x6 =>
      (ald 1 h x5 ((36 * l1) + x6)).bind fun x7 =>
      if w32 x7 = w32 l3 then (
        bd (M_X11_denied h l0 5) fun h x12 =>
        (zb1 x12 ()).bind fun _ =>
        some (h, x12)
      ) else (
        (M_X11_remembers h l0).bind fun h =>
        (gr 21 h l0 17).bind fun x8 =>
        (M_X11_placeOf h l0 l2).bind fun x9 =>
        (ast 1 h x8 ((36 * l1) + x9) l3).bind fun h =>
        bd (M_X11_granted h l0) fun h x10 =>
        (zb1 x10 ()).bind fun _ =>
        some (h, x10)
      )
    )
  ))

def M_X11_mend_p101 (h : Hp) (l0 : Int) : Option (Hp × Int) :=
  bd (M_X11_granted h l0) fun h x1 =>
  (zb1 x1 ()).bind fun _ =>
  some (h, x1)

def M_X11_mend_b74 (h : Hp) (l0 l1 l2 : Int) : Option ((Hp × Int) ⊕ Hp) :=
  if w32 l2 < 4 then (
    (gr 21 h l0 17).bind fun x3 =>
    (ast 1 h x3 ((222 + (4 * l1)) + l2) (-2)).bind fun h =>
    some (.inl (h, l2 + 1))
  ) else (
    some (.inr h)
  )

def M_X11_mend_w74 (n : Nat) (h : Hp) (l0 l1 l2 : Int) : Option (Hp × Int) :=
  (wh (S := (Hp × Int)) (T := Hp) (fun a => M_X11_mend_b74 a.1 l0 l1 a.2) n (h, l2)).bind (fun b => M_X11_mend_p101 b l0)

def M_X11_mend (h : Hp) (l0 l1 : Int) : Option (Hp × Int) := tk 21 h l0 (
  (pf 21 h l0 0 0).bind fun h =>
  (M_X11_isTown h l0 l1).bind fun x4 =>
  if w32 x4 = 0 then (
    bd (M_X11_denied h l0 1) fun h x14 =>
    (zb1 x14 ()).bind fun _ =>
    some (h, x14)
  ) else (
    (gr 21 h l0 17).bind fun x5 =>
    (ald 1 h x5 (216 + l1)).bind fun x6 =>
    if w32 x6 = (-2) then (
      bd (M_X11_denied h l0 5) fun h x7 =>
      (zb1 x7 ()).bind fun _ =>
      some (h, x7)
    ) else (
      (gr 21 h l0 17).bind fun x9 =>
      (ald 1 h x9 (222 + (4 * l1))).bind fun x10 =>
      if w32 x10 = 0 then (
        bd (M_X11_denied h l0 5) fun h x12 =>
        (zb1 x12 ()).bind fun _ =>
        some (h, x12)
      ) else (
        (M_X11_remembers h l0).bind fun h =>
        (gr 21 h l0 17).bind fun x11 =>
        (ast 1 h x11 (222 + (4 * l1)) 0).bind fun h =>
        M_X11_mend_w74 FU h l0 l1 1
      )
    )
  ))

def M_X11_copy (h : Hp) (l0 l1 l2 : Int) : Option (Hp × Int) := tk 21 h l0 (
  (pf 21 h l0 0 0).bind fun h =>
  (M_X11_isTown h l0 l1).bind fun x1 =>
  if w32 x1 = 0 then (
    bd (M_X11_denied h l0 1) fun h x2 =>
    (zb1 x2 ()).bind fun _ =>
    some (h, x2)
  ) else (
    (M_X11_isTown h l0 l2).bind fun x4 =>
    if w32 x4 = 0 then (
      bd (M_X11_denied h l0 1) fun h x12 =>
      (zb1 x12 ()).bind fun _ =>
      some (h, x12)
    ) else (
      (gr 21 h l0 17).bind fun x5 =>
      (ald 1 h x5 (216 + l1)).bind fun x6 =>
      if w32 x6 = w32 l2 then (
        bd (M_X11_denied h l0 5) fun h x10 =>
        (zb1 x10 ()).bind fun _ =>
        some (h, x10)
      ) else (
        (M_X11_remembers h l0).bind fun h =>
        (gr 21 h l0 17).bind fun x7 =>
        (ast 1 h x7 (216 + l1) l2).bind fun h =>
        bd (M_X11_granted h l0) fun h x8 =>
        (zb1 x8 ()).bind fun _ =>
        some (h, x8)
      )
    )
  ))

def M_X11_seed (h : Hp) (l0 l1 : Int) : Option (Hp × Int) := tk 21 h l0 (
  (pf 21 h l0 0 0).bind fun h =>
  (gf 21 h l0 3).bind fun x1 =>
  if x1 < 0 then (
    bd (M_X11_denied h l0 1) fun h x2 =>
    (zb1 x2 ()).bind fun _ =>
    some (h, x2)
  ) else (
    (M_X11_in h l1 0 65536).bind fun x4 =>
    if w32 x4 = 0 then (
      bd (M_X11_denied h l0 2) fun h x8 =>
      (zb1 x8 ()).bind fun _ =>
      some (h, x8)
    ) else (
      (gr 21 h l0 17).bind fun x5 =>
      (ast 1 h x5 247 l1).bind fun h =>
      bd (M_X11_granted h l0) fun h x6 =>
      (zb1 x6 ()).bind fun _ =>
      some (h, x6)
    )
  ))

def M_X11_undo_p72 (h : Hp) (l0 : Int) : Option (Hp × Int) :=
  bd (M_X11_granted h l0) fun h x1 =>
  (zb1 x1 ()).bind fun _ =>
  some (h, x1)

def M_X11_undo_b38 (h : Hp) (l0 l1 : Int) : Option ((Hp × Int) ⊕ Hp) :=
  if w32 l1 < 248 then (
    (gr 21 h l0 17).bind fun x3 =>
    (gr 21 h l0 18).bind fun x4 =>
    (gf 21 h l0 20).bind fun x5 =>
    (ald 1 h x4 ((248 * x5) + l1)).bind fun x6 =>
    (ast 1 h x3 l1 x6).bind fun h =>
    some (.inl (h, l1 + 1))
  ) else (
    some (.inr h)
  )

def M_X11_undo_w38 (n : Nat) (h : Hp) (l0 l1 : Int) : Option (Hp × Int) :=
  (wh (S := (Hp × Int)) (T := Hp) (fun a => M_X11_undo_b38 a.1 l0 a.2) n (h, l1)).bind (fun b => M_X11_undo_p72 b l0)

def M_X11_undo (h : Hp) (l0 : Int) : Option (Hp × Int) := tk 21 h l0 (
  (pf 21 h l0 0 0).bind fun h =>
  (gf 21 h l0 3).bind fun x7 =>
  if x7 < 0 then (
    bd (M_X11_denied h l0 6) fun h x8 =>
    (zb1 x8 ()).bind fun _ =>
    some (h, x8)
  ) else (
    (gf 21 h l0 20).bind fun x10 =>
    if w32 x10 = 0 then (
      bd (M_X11_denied h l0 6) fun h x12 =>
      (zb1 x12 ()).bind fun _ =>
      some (h, x12)
    ) else (
      (gf 21 h l0 20).bind fun x11 =>
      (pf 21 h l0 20 (x11 - 1)).bind fun h =>
      M_X11_undo_w38 FU h l0 0
    )
  ))

def M_X11_keep_p68 (h : Hp) (l0 : Int) : Option (Hp × Int) :=
  (gf 21 h l0 21).bind fun x1 =>
  (pf 21 h l0 21 (x1 + 1)).bind fun h =>
  (gf 21 h l0 21).bind fun x2 =>
  bd (M_X11_good h l0 (x2 - 1)) fun h x3 =>
  some (h, x3)

def M_X11_keep_b34 (h : Hp) (l0 l1 : Int) : Option ((Hp × Int) ⊕ Hp) :=
  if w32 l1 < 248 then (
    (gr 21 h l0 19).bind fun x4 =>
    (gf 21 h l0 21).bind fun x5 =>
    (gr 21 h l0 17).bind fun x6 =>
    (ald 1 h x6 l1).bind fun x7 =>
    (ast 1 h x4 ((248 * x5) + l1) x7).bind fun h =>
    some (.inl (h, l1 + 1))
  ) else (
    some (.inr h)
  )

def M_X11_keep_w34 (n : Nat) (h : Hp) (l0 l1 : Int) : Option (Hp × Int) :=
  (wh (S := (Hp × Int)) (T := Hp) (fun a => M_X11_keep_b34 a.1 l0 a.2) n (h, l1)).bind (fun b => M_X11_keep_p68 b l0)

def M_X11_keep (h : Hp) (l0 : Int) : Option (Hp × Int) := tk 21 h l0 (
  (pf 21 h l0 0 0).bind fun h =>
  (gf 21 h l0 3).bind fun x8 =>
  if x8 < 0 then (
    bd (M_X11_refused h l0 1) fun h x9 =>
    some (h, x9)
  ) else (
    (gf 21 h l0 21).bind fun x10 =>
    if w32 x10 = 3 then (
      bd (M_X11_refused h l0 3) fun h x11 =>
      some (h, x11)
    ) else (
      M_X11_keep_w34 FU h l0 0
    )
  ))

def M_X11_back_p63 (h : Hp) (l0 : Int) : Option (Hp × Int) :=
  (pf 21 h l0 20 0).bind fun h =>
  bd (M_X11_granted h l0) fun h x1 =>
  (zb1 x1 ()).bind fun _ =>
  some (h, x1)

def M_X11_back_b32 (h : Hp) (l0 l1 l2 : Int) : Option ((Hp × Int) ⊕ Hp) :=
  if w32 l2 < 248 then (
    (gr 21 h l0 17).bind fun x3 =>
    (gr 21 h l0 19).bind fun x4 =>
    (ald 1 h x4 ((248 * l1) + l2)).bind fun x5 =>
    (ast 1 h x3 l2 x5).bind fun h =>
    some (.inl (h, l2 + 1))
  ) else (
    some (.inr h)
  )

def M_X11_back_w32 (n : Nat) (h : Hp) (l0 l1 l2 : Int) : Option (Hp × Int) :=
  (wh (S := (Hp × Int)) (T := Hp) (fun a => M_X11_back_b32 a.1 l0 l1 a.2) n (h, l2)).bind (fun b => M_X11_back_p63 b l0)

def M_X11_back (h : Hp) (l0 l1 : Int) : Option (Hp × Int) := tk 21 h l0 (
  (pf 21 h l0 0 0).bind fun h =>
  (gf 21 h l0 3).bind fun x6 =>
  if x6 < 0 then (
    bd (M_X11_denied h l0 1) fun h x7 =>
    (zb1 x7 ()).bind fun _ =>
    some (h, x7)
  ) else (
    if w32 l1 < 0 then (
      bd (M_X11_denied h l0 1) fun h x9 =>
      (zb1 x9 ()).bind fun _ =>
      some (h, x9)
    ) else (
      (gf 21 h l0 21).bind fun x11 =>
      if w32 l1 < w32 x11 then (
        M_X11_back_w32 FU h l0 l1 0
      ) else (
        bd (M_X11_denied h l0 1) fun h x12 =>
        (zb1 x12 ()).bind fun _ =>
        some (h, x12)
      )
    )
  ))

def M_X11_isAsFirst_p49 (h : Hp) : Option Int :=
  some 1

def M_X11_isAsFirst_b2 (h : Hp) (l0 l1 l2 : Int) : Option (Int ⊕ (Unit ⊕ (Int))) :=
  (gr 21 h l0 3).bind fun x1 =>
  (M_X10_all h x1).bind fun x2 =>
  if w32 l2 < w32 x2 then (
    (gr 21 h l0 17).bind fun x3 =>
    (ald 1 h x3 ((36 * l1) + l2)).bind fun x4 =>
    (gr 21 h l0 3).bind fun x5 =>
    (gr 20 h x5 7).bind fun x6 =>
    (ald 1 h x6 ((36 * l1) + l2)).bind fun x7 =>
    if w32 x4 = w32 x7 then (
      some (.inl (l2 + 1))
    ) else (
      some (.inr (.inr 0))
    )
  ) else (
    some (.inr (.inl ()))
  )

def M_X11_isAsFirst_w2 (n : Nat) (h : Hp) (l0 l1 l2 : Int) : Option Int :=
  (wh (S := Int) (T := (Unit ⊕ (Int))) (fun a => M_X11_isAsFirst_b2 h l0 l1 a) n l2).bind (fun z => exi z (fun b => M_X11_isAsFirst_p49 h) (fun q => some q))

def M_X11_isAsFirst (h : Hp) (l0 l1 : Int) : Option Int := tk 21 h l0 (
  M_X11_isAsFirst_w2 FU h l0 l1 0)

def M_X11_led_p54 (h : Hp) (l0 : Int) : Option (Hp × Int) :=
  (pf 21 h l0 0 1).bind fun h =>
  some (h, 0)

def M_X11_led_p48 (h : Hp) (l0 l1 l2 l3 : Int) : Option ((Int × Int) ⊕ (Unit ⊕ (Hp × Int))) :=
  some (.inl (l2, l3 + 1))

def M_X11_led_b9 (h : Hp) (l0 l1 l2 l3 : Int) : Option ((Int × Int) ⊕ (Unit ⊕ (Hp × Int))) :=
  (gf 21 h l0 3).bind fun x1 =>
  if x1 < 0 then (
    some (.inr (.inl ()))
  ) else (
    (gr 21 h l0 3).bind fun x2 =>
    (gf 20 h x2 3).bind fun x3 =>
    if w32 l3 < w32 x3 then (
      (M_X11_isAsFirst h l0 l3).bind fun x4 =>
      if w32 x4 = 0 then (
        if w32 l2 = w32 l1 then (
          some (.inr (.inr (h, l3)))
        ) else (
          M_X11_led_p48 h l0 l1 (l2 + 1) l3
        )
      ) else (
        M_X11_led_p48 h l0 l1 l2 l3
      )
    ) else (
      some (.inr (.inl ()))
    )
  )

def M_X11_led_w9 (n : Nat) (h : Hp) (l0 l1 l2 l3 : Int) : Option (Hp × Int) :=
  (wh (S := (Int × Int)) (T := (Unit ⊕ (Hp × Int))) (fun a => M_X11_led_b9 h l0 l1 a.1 a.2) n (l2, l3)).bind (fun z => exi z (fun b => M_X11_led_p54 h l0) (fun q => some q))

def M_X11_led (h : Hp) (l0 l1 : Int) : Option (Hp × Int) := tk 21 h l0 (
  (pf 21 h l0 0 0).bind fun h =>
  M_X11_led_w9 FU h l0 l1 0 0)

def M_X11_copiers_p44 (h : Hp) (l1 : Int) : Option Int :=
  some l1

def M_X11_copiers_p36 (h : Hp) (l0 l2 : Int) (s0 s1 : Int) : Option ((Int × Int) ⊕ Int) :=
  some (.inl (s0 + s1, l2 + 1))

def M_X11_copiers_b4 (h : Hp) (l0 l1 l2 : Int) : Option ((Int × Int) ⊕ Int) :=
  (gr 21 h l0 3).bind fun x1 =>
  (gf 20 h x1 3).bind fun x2 =>
  if w32 l2 < w32 x2 then (
    (gr 21 h l0 17).bind fun x3 =>
    (ald 1 h x3 (216 + l2)).bind fun x4 =>
    if w32 x4 = (-2) then (
      M_X11_copiers_p36 h l0 l2 l1 0
    ) else (
      M_X11_copiers_p36 h l0 l2 l1 1
    )
  ) else (
    some (.inr l1)
  )

def M_X11_copiers_w4 (n : Nat) (h : Hp) (l0 l1 l2 : Int) : Option Int :=
  (wh (S := (Int × Int)) (T := Int) (fun a => M_X11_copiers_b4 h l0 a.1 a.2) n (l1, l2)).bind (fun b => M_X11_copiers_p44 h b)

def M_X11_copiers (h : Hp) (l0 : Int) : Option Int := tk 21 h l0 (
  M_X11_copiers_w4 FU h l0 0 0)

def M_X11_size (h : Hp) (l0 l1 : Int) : Option (Hp × Int) := tk 21 h l0 (
  (pf 21 h l0 0 0).bind fun h =>
  if w32 l1 = 11 then (
    (gf 21 h l0 6).bind fun x22 =>
    some (h, x22)
  ) else (
    (M_X11_in h l1 0 10).bind fun x1 =>
    if w32 x1 = 0 then (
      some (h, (-1))
    ) else (
      (gf 21 h l0 3).bind fun x2 =>
      if x2 < 0 then (
        some (h, 0)
      ) else (
        if w32 l1 = 0 then (
          (gr 21 h l0 3).bind fun x3 =>
          (gf 20 h x3 0).bind fun x4 =>
          some (h, x4)
        ) else (
        if w32 l1 = 1 then (
          (gr 21 h l0 3).bind fun x5 =>
          (gf 20 h x5 1).bind fun x6 =>
          some (h, x6)
        ) else (
        if w32 l1 = 2 then (
          (gr 21 h l0 3).bind fun x7 =>
          (gf 20 h x7 2).bind fun x8 =>
          some (h, x8)
        ) else (
        if w32 l1 = 3 then (
          (gr 21 h l0 3).bind fun x9 =>
          (gf 20 h x9 3).bind fun x10 =>
          some (h, x10)
        ) else (
        if w32 l1 = 4 then (
          (M_X11_copiers h l0).bind fun x11 =>
          some (h, x11)
        ) else (
        if w32 l1 = 5 then (
          (gr 21 h l0 3).bind fun x12 =>
          (gf 20 h x12 4).bind fun x13 =>
          some (h, x13)
        ) else (
        if w32 l1 = 6 then (
          (gr 21 h l0 3).bind fun x14 =>
          (gf 20 h x14 5).bind fun x15 =>
          some (h, x15)
        ) else (
        if w32 l1 = 7 then (
          (gr 21 h l0 17).bind fun x16 =>
          (ald 1 h x16 246).bind fun x17 =>
          some (h, x17)
        ) else (
        if w32 l1 = 8 then (
          (gr 21 h l0 17).bind fun x18 =>
          (ald 1 h x18 247).bind fun x19 =>
          some (h, x19)
        ) else (
        if w32 l1 = 9 then (
          (gf 21 h l0 20).bind fun x20 =>
          some (h, x20)
        ) else (
          (gf 21 h l0 21).bind fun x21 =>
          some (h, x21)
        ))))))))))
      )
    )
  ))

def M_X11_trouble (h : Hp) (l0 : Int) : Option (Hp × Int) := tk 21 h l0 (
  (pf 21 h l0 0 0).bind fun h =>
  (gf 21 h l0 1).bind fun x1 =>
  some (h, x1))

