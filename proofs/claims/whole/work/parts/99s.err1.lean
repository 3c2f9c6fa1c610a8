/-! an error's parts, in the class -/
theorem wh_s {S T : Type} {body : S → Option (S ⊕ T)} {n : Nat} {s : S} : wh body (n + 1) s = (body s).bind (fun z => exi z (fun s2 => wh body n s2) (fun x => some x)) := by
  show (body s).bind _ = _
  cases body s with
  | none => rfl
  | some z => cases z <;> rfl
/-- the loop over an error's parts, m of them left -/
def erL (R ro o i : Int) : Nat → Int → Hp → Option (Hp × Int)
  | 0, _, h => some (h, 1)
  | m + 1, l, h => (ald 1 h ro (o + 1)).bind fun x3 => bd (M_X4_partDue h R (sch i l) x3) fun h x4 => if w32 x4 = (-1) then some (h, 0) else (ast 1 h ro ((o + 1) + l) x4).bind fun h => erL R ro o i m (l + 1) h
theorem w28_un {R ro o i : Int} (i0 : 0 ≤ i) (i1 : i < 27) (s9 : slen i < 100) (q : Nat) : ∀ (m : Nat) (l : Int) (h : Hp), 0 ≤ l → l + m = slen i → M_X4_readError_w28 (m + 1 + q) h R ro o i l = erL R ro o i m l h
  | 0, l, h, l0, e => by
    unfold M_X4_readError_w28
    rw [show 0 + 1 + q = q + 1 by omega, wh_s]
    have hb : M_X4_readError_b28 h R ro o i l = some (.inr (.inl h)) := by
      unfold M_X4_readError_b28
      rw [J0_len i0 i1, Option.bind_some, if_neg (by rw [w32_id (by omega) (by omega), w32_id (by omega) (by omega)]; omega)]
    show (Option.bind (M_X4_readError_b28 h R ro o i l) _).bind _ = _
    rw [hb]
    rfl
  | m + 1, l, h, l0, e => by
    have ih := w28_un (R := R) (ro := ro) (o := o) i0 i1 s9 q m (l + 1)
    unfold M_X4_readError_w28 at *
    rw [show m + 1 + 1 + q = (m + 1 + q) + 1 by omega, wh_s]
    show (Option.bind (M_X4_readError_b28 h R ro o i l) _).bind _ = (ald 1 h ro (o + 1)).bind fun x3 => bd (M_X4_partDue h R (sch i l) x3) fun h x4 => if w32 x4 = (-1) then some (h, 0) else (ast 1 h ro ((o + 1) + l) x4).bind fun h => erL R ro o i m (l + 1) h
    have hb : M_X4_readError_b28 h R ro o i l = (ald 1 h ro (o + 1)).bind fun x3 => bd (M_X4_partDue h R (sch i l) x3) fun h x4 => if w32 x4 = (-1) then some (.inr (.inr (h, 0))) else (ast 1 h ro ((o + 1) + l) x4).bind fun h => some (.inl (h, l + 1)) := by
      unfold M_X4_readError_b28
      rw [J0_len i0 i1, Option.bind_some, if_pos (by rw [w32_id (by omega) (by omega), w32_id (by omega) (by omega)]; omega), J0_ch i0 i1 l0 (by omega) (by omega), Option.bind_some]
    rw [hb]
    cases ald 1 h ro (o + 1) with
    | none => rfl
    | some x3 =>
      rw [Option.bind_some, Option.bind_some]
      unfold bd
      cases M_X4_partDue h R (sch i l) x3 with
      | none => rfl
      | some a =>
        rw [Option.bind_some, Option.bind_some]
        dsimp only
        by_cases y : w32 a.2 = -1
        · rw [if_pos y, if_pos y]
          rfl
        · rw [if_neg y, if_neg y]
          cases ast 1 a.1 ro ((o + 1) + l) a.2 with
          | none => rfl
          | some h' =>
            rw [Option.bind_some, Option.bind_some, Option.bind_some, exi_l]
            exact ih h' (by omega) (by omega)
theorem bd_eta {o : Option (Hp × Int)} : (bd o fun h x => some (h, x)) = o := by
  cases o <;> rfl
section ER
variable {Mc Mr Mc1 Mr1 : Int → Int → Int} {Gc Gr : GG} {R e k sp rd wd hi tw mk gs sn x : Int} {f : Int → Int}
/-- the sizes, in the class and in the reference -/
def szC (sp wd hi mk : Int) (Mc : Int → Int → Int) : Prop := Mc sp 1 = sp + 1 ∧ Mc (sp + 1) 0 = wd ∧ Mc (sp + 1) 1 = hi ∧ Mc sp 0 = mk
def szR (rd wd hi mk : Int) (Mr : Int → Int → Int) : Prop := Mr rd 0 = wd ∧ Mr rd 1 = hi ∧ Mr rd 2 = mk
theorem LDv.sc (h : LDv sp rd wd hi tw mk gs sn Mc Mr) : szC sp wd hi mk Mc := ⟨h.1.1.1, h.2.2.1.1.1, h.2.2.1.1.2.1, h.2.2.1.1.2.2.2.1⟩
theorem LDv.sr (h : LDv sp rd wd hi tw mk gs sn Mc Mr) : szR rd wd hi mk Mr := ⟨h.2.2.1.2.1.1, h.2.2.1.2.1.2.1, h.2.2.1.2.1.2.2.1⟩
theorem pd_m (h : LK Gc Gr R e sp rd f Mc Mr k) : M_X4_partDue (Mc, Gc) R 109 x = M_X4_markDue (Mc, Gc) R (-1) := by
  unfold M_X4_partDue
  rw [tk_ok h.kR, if_neg (by decide), if_pos (by decide), bd_eta]
theorem pd_o (h : LK Gc Gr R e sp rd f Mc Mr k) : M_X4_partDue (Mc, Gc) R 111 x = M_X4_markDue (Mc, Gc) R x := by
  unfold M_X4_partDue
  rw [tk_ok h.kR, if_neg (by decide), if_neg (by decide), if_pos (by decide), bd_eta]
theorem pd_s (h : LK Gc Gr R e sp rd f Mc Mr k) : M_X4_partDue (Mc, Gc) R 115 x = M_X4_wholeDue (Mc, Gc) R 0 5 := by
  unfold M_X4_partDue
  rw [tk_ok h.kR, if_neg (by decide), if_neg (by decide), if_neg (by decide), if_pos (by decide), bd_eta]
theorem pd_t (h : LK Gc Gr R e sp rd f Mc Mr k) : M_X4_partDue (Mc, Gc) R 116 x = M_X4_wholeDue (Mc, Gc) R 5 9 := by
  unfold M_X4_partDue
  rw [tk_ok h.kR, if_neg (by decide), if_neg (by decide), if_neg (by decide), if_neg (by decide), if_neg (by decide), if_neg (by decide), bd_eta]
theorem pd_f (h : LK Gc Gr R e sp rd f Mc Mr k) (hs : szC sp wd hi mk Mc) : M_X4_partDue (Mc, Gc) R 102 x = M_X4_wholeDue (Mc, Gc) R 1 (wd - 1) := by
  have hsp := h.1.2.2.2.2
  have q4 := h.c4
  obtain ⟨p1, n0, n1, n2⟩ := hs
  unfold M_X4_partDue
  rw [tk_ok h.kR, if_pos (by decide), b_gr h.kR (by omega), q4, b_gr h.gc.1 (by omega), p1, b_gf h.gc.2.1.2.1, n0, bd_eta]
theorem pd_x (h : LK Gc Gr R e sp rd f Mc Mr k) (hs : szC sp wd hi mk Mc) : M_X4_partDue (Mc, Gc) R 120 x = M_X4_wholeDue (Mc, Gc) R 0 (wd - 1) := by
  have hsp := h.1.2.2.2.2
  have q4 := h.c4
  obtain ⟨p1, n0, n1, n2⟩ := hs
  unfold M_X4_partDue
  rw [tk_ok h.kR, if_neg (by decide), if_neg (by decide), if_neg (by decide), if_neg (by decide), if_pos (by decide), b_gr h.kR (by omega), q4, b_gr h.gc.1 (by omega), p1, b_gf h.gc.2.1.2.1, n0, bd_eta]
theorem pd_y (h : LK Gc Gr R e sp rd f Mc Mr k) (hs : szC sp wd hi mk Mc) : M_X4_partDue (Mc, Gc) R 121 x = M_X4_wholeDue (Mc, Gc) R 0 (hi - 1) := by
  have hsp := h.1.2.2.2.2
  have q4 := h.c4
  obtain ⟨p1, n0, n1, n2⟩ := hs
  unfold M_X4_partDue
  rw [tk_ok h.kR, if_neg (by decide), if_neg (by decide), if_neg (by decide), if_neg (by decide), if_neg (by decide), if_pos (by decide), b_gr h.kR (by omega), q4, b_gr h.gc.1 (by omega), p1, b_gf h.gc.2.1.2.1, n1, bd_eta]
/-- the class behind the sort of an error: s is written, the parts are read -/
theorem erC_eq {ro o s : Int} (h : LK Gc Gr R e sp rd f Mc Mr k) (s0 : 0 ≤ s) (s1 : s ≤ 10) : M_X4_readError (Mc, Gc) R s ro o = (M_X4_take (Mc, Gc) R).bind fun h => (ast 1 h ro o s).bind fun h => (M_X4_errorParts h s).bind fun x5 => M_X4_readError_w28 FU h R ro o x5 0 := by
  unfold M_X4_readError
  rw [tk_ok h.kR, if_neg (by rw [w32_id (by omega) (by omega)]; omega)]
end ER
