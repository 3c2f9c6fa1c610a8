/-! an error's parts, side by side -/
section ES
variable {Mc Mr Mc1 Mr1 Mc2 Mr2 : Int → Int → Int} {Gc Gr : GG} {R e k sp rd wd hi tw mk gs sn x ro o : Int} {f : Int → Int}
/-- what reading an error may change: the readers, three numbers of the row ro -/
def eF (R ro o : Int) (Mc Mr Mc1 Mr1 : Int → Int → Int) : Prop := (∀ a, a ≠ R → a ≠ ro → Mc1 a = Mc a) ∧ (∀ j, j < o + 1 ∨ o + 3 < j → Mc1 ro j = Mc ro j) ∧ (∀ j, 2 ≤ j → j < 5 → Mc1 R j = Mc R j) ∧ (∀ a, a ≠ 124 → Mr1 a = Mr a) ∧ ∀ j, j < 8 ∨ 16 < j → Mr1 124 j = Mr 124 j
theorem eF.tr (h : eF R ro o Mc Mr Mc1 Mr1) (h1 : eF R ro o Mc1 Mr1 Mc2 Mr2) : eF R ro o Mc Mr Mc2 Mr2 := ⟨fun a ha hb => (h1.1 a ha hb).trans (h.1 a ha hb), fun j hj => (h1.2.1 j hj).trans (h.2.1 j hj), fun j j0 j1 => (h1.2.2.1 j j0 j1).trans (h.2.2.1 j j0 j1), fun a ha => (h1.2.2.2.1 a ha).trans (h.2.2.2.1 a ha), fun j hj => (h1.2.2.2.2 j hj).trans (h.2.2.2.2 j hj)⟩
theorem tS.ef (hr : ro ≠ R) (h : tS R Mc Mr Mc1 Mr1) : eF R ro o Mc Mr Mc1 Mr1 := ⟨fun a ha _ => h.1 a ha, fun j _ => by rw [h.1 ro hr], h.2.1, h.2.2.1, h.2.2.2⟩
theorem eF.w (hr : ro ≠ R) {j v : Int} (hj : o + 1 ≤ j ∧ j ≤ o + 3) : eF R ro o Mc Mr (sr Mc ro (u1 (Mc ro) j v)) Mr := ⟨fun a _ hb => sr_a _ _ hb, fun i hi => by rw [sr_s, u1_k _ _ (by omega)], fun j _ _ => by rw [sr_a _ _ (Ne.symm hr)], fun _ _ => rfl, fun _ _ => rfl⟩
/-- one part of an error -/
theorem er_step {r : Option (Hp × Int)} {g : Hp → Int → Option Hp} {Kc : Hp → Option (Hp × Int)} {ch x3 lo l n : Int} {hi : Int} (h : O2 (M_X4_partDue (Mc, Gc) R ch x3) r (SvK Gc Gr R e sp rd f Mc Mr k lo hi)) (hx : Mc ro (o + 1) = x3) (hr : ro ≠ R) (hr2 : ro ≠ 1) (kr : Gc.1 ro = 1) (lr : Gc.2.1 ro = n) (o0 : 0 ≤ o) (l0 : 0 ≤ l) (l2 : l ≤ 2) (on : o + 3 < n) (n9 : n ≤ 100) (lo0 : 0 ≤ lo) (hi9 : hi ≤ 100) : (∃ Mc1 Mr1 v k1, eF R ro o Mc Mr Mc1 Mr1 ∧ lo ≤ v ∧ v ≤ hi ∧ k < k1 ∧ LK Gc Gr R e sp rd f Mc1 Mr1 k1 ∧ Mc1 ro = u1 (Mc ro) (o + 1 + l) v ∧ ((ald 1 (Mc, Gc) ro (o + 1)).bind fun x3 => bd (M_X4_partDue (Mc, Gc) R ch x3) fun h x4 => if w32 x4 = (-1) then some (h, 0) else (ast 1 h ro ((o + 1) + l) x4).bind Kc) = Kc (Mc1, Gc) ∧ bd r g = g (Mr1, Gr) v) ∨ (∃ Mc1 Mr1 v, eF R ro o Mc Mr Mc1 Mr1 ∧ LX Gc Gr R e sp rd f Mc1 Mr1 ∧ ((ald 1 (Mc, Gc) ro (o + 1)).bind fun x3 => bd (M_X4_partDue (Mc, Gc) R ch x3) fun h x4 => if w32 x4 = (-1) then some (h, 0) else (ast 1 h ro ((o + 1) + l) x4).bind Kc) = some ((Mc1, Gc), 0) ∧ bd r g = g (Mr1, Gr) v) := by
  obtain ⟨a, ha, b, hb, Mc1, Mr1, ht, hc⟩ := h
  rw [b_ald kr (by omega) (by rw [lr]; omega) (by omega), hx, ha, hb]
  have hro : Mc1 ro = Mc ro := ht.1 ro hr
  rcases hc with ⟨v, rfl, rfl, v0, v1, k1, hk, hL⟩ | ⟨rfl, ⟨v, rfl⟩, hF⟩
  · refine Or.inl ⟨sr Mc1 ro (u1 (Mc1 ro) (o + 1 + l) v), Mr1, v, k1, (ht.ef hr).tr (eF.w hr (by omega)), v0, v1, hk, hL.dt (sr_a _ _ (Ne.symm hr)) (sr_a _ _ (Ne.symm hr2)) rfl rfl, by rw [sr_s, hro], ?_, rfl⟩
    show (if w32 v = -1 then some ((Mc1, Gc), (0 : Int)) else (ast 1 (Mc1, Gc) ro ((o + 1) + l) v).bind Kc) = _
    rw [if_neg (by rw [w32_id (by omega) (by omega)]; omega), b_ast kr (by omega) (by rw [lr]; omega) (by omega)]
  · refine Or.inr ⟨Mc1, Mr1, v, ht.ef hr, hF, ?_, rfl⟩
    show (if w32 (-1) = -1 then some ((Mc1, Gc), (0 : Int)) else (ast 1 (Mc1, Gc) ro ((o + 1) + l) (-1)).bind Kc) = _
    rw [if_pos (by decide)]
theorem p244_o {rr t s v1 v2 v3 : Int} (h : LX Gc Gr R e sp rd f Mc Mr) : M_X11_readError_p244 (Mr, Gr) 124 rr t s v1 v2 v3 = some (Mr, Gr) := by
  have hG := h.hr
  have k124 := gk_124 hG
  unfold M_X11_readError_p244
  rw [b_gf k124, h.2.1, if_pos (by decide)]
/-- how reading an error's parts ends -/
def ErK (Gc Gr : GG) (R e sp rd : Int) (f : Int → Int) (Mc Mr : Int → Int → Int) (k wd hi mk ro o rr t s : Int) (c : Option (Hp × Int)) (r : Option Hp) : Prop := ∃ Mc1 Mr1, eF R ro o Mc Mr Mc1 Mr1 ∧ ((∃ v1 v2 v3 k1, c = some ((Mc1, Gc), 1) ∧ r = M_X11_readError_p244 (Mr1, Gr) 124 rr t s v1 v2 v3 ∧ k ≤ k1 ∧ LK Gc Gr R e sp rd f Mc1 Mr1 k1 ∧ errB wd hi mk s v1 v2 v3 ∧ Mc1 ro (o + 1) = v1 ∧ Mc1 ro (o + 2) = v2 ∧ Mc1 ro (o + 3) = v3) ∨ (c = some ((Mc1, Gc), 0) ∧ r = some (Mr1, Gr) ∧ LX Gc Gr R e sp rd f Mc1 Mr1))
theorem szR.ef (h : szR rd wd hi mk Mr) (hd : rd ≠ 124) (h1 : eF R ro o Mc Mr Mc1 Mr1) : szR rd wd hi mk Mr1 := by
  unfold szR at *
  rw [h1.2.2.2.1 rd hd]
  exact h
theorem szC.ef (h : szC sp wd hi mk Mc) (a : sp ≠ R) (b : sp ≠ ro) (c : sp + 1 ≠ R) (d : sp + 1 ≠ ro) (h1 : eF R ro o Mc Mr Mc1 Mr1) : szC sp wd hi mk Mc1 := by
  unfold szC at *
  rw [h1.1 sp a b, h1.1 (sp + 1) c d]
  exact h
/-- errors without parts -/
theorem er_none {i rr t s : Int} (h : LK Gc Gr R e sp rd f Mc Mr k) (hr : ro ≠ R) (hs : s = 0 ∨ s = 4 ∨ s = 10) (e1 : Mc ro (o + 1) = -2) (e2 : Mc ro (o + 2) = -2) (e3 : Mc ro (o + 3) = -2) : ErK Gc Gr R e sp rd f Mc Mr k wd hi mk ro o rr t s (erL R ro o i 0 0 (Mc, Gc)) (M_X11_readError_p106 (Mr, Gr) 124 rr t s (-2) (-2) (-2)) := by
  refine ⟨Mc, Mr, tS.ef hr tS.refl, Or.inl ⟨-2, -2, -2, k, rfl, ?_, Int.le_refl _, h, ?_, e1, e2, e3⟩⟩
  · unfold M_X11_readError_p106
    rcases hs with rfl | rfl | rfl
    · rw [if_neg (by decide), if_neg (by decide), if_neg (by decide), if_neg (by decide), if_neg (by decide)]
    · rw [if_neg (by decide), if_neg (by decide), if_neg (by decide), if_neg (by decide), if_neg (by decide)]
    · rw [if_neg (by decide), if_neg (by decide), if_neg (by decide), if_neg (by decide), if_neg (by decide)]
  · unfold errB
    omega
/-- errors of one part: i its sort of part, lo .. top its bounds -/
theorem er_one {i rr t s lo top n : Int} {r : Hp → Option (Hp × Int)} (h : LK Gc Gr R e sp rd f Mc Mr k) (hr : ro ≠ R) (hr2 : ro ≠ 1) (kr : Gc.1 ro = 1) (lr : Gc.2.1 ro = n) (o0 : 0 ≤ o) (on : o + 3 < n) (n9 : n ≤ 100) (e1 : Mc ro (o + 1) = -2) (e2 : Mc ro (o + 2) = -2) (e3 : Mc ro (o + 3) = -2) (lo0 : 0 ≤ lo) (hi9 : top ≤ 100) (hp : O2 (M_X4_partDue (Mc, Gc) R (sch i 0) (-2)) (r (Mr, Gr)) (SvK Gc Gr R e sp rd f Mc Mr k lo top)) (hb : ∀ v, lo ≤ v → v ≤ top → errB wd hi mk s v (-2) (-2)) : ErK Gc Gr R e sp rd f Mc Mr k wd hi mk ro o rr t s (erL R ro o i 1 0 (Mc, Gc)) (bd (r (Mr, Gr)) fun h x => M_X11_readError_p244 h 124 rr t s x (-2) (-2)) := by
  rcases er_step (ro := ro) (o := o) (l := 0) (Kc := erL R ro o i 0 (0 + 1)) (g := fun h x => M_X11_readError_p244 h 124 rr t s x (-2) (-2)) hp e1 hr hr2 kr lr o0 (by omega) (by omega) on n9 lo0 hi9 with ⟨Mc1, Mr1, v, k1, hE, v0, v1, hk, hL, hro, hc, hq⟩ | ⟨Mc1, Mr1, v, hE, hF, hc, hq⟩
  · refine ⟨Mc1, Mr1, hE, Or.inl ⟨v, -2, -2, k1, hc, hq, by omega, hL, hb v v0 v1, ?_, ?_, ?_⟩⟩
    · rw [hro, Int.add_zero, u1_s]
    · rw [hro, u1_k _ _ (by omega)]; exact e2
    · rw [hro, u1_k _ _ (by omega)]; exact e3
  · exact ⟨Mc1, Mr1, hE, Or.inr ⟨hc, by rw [hq]; exact p244_o hF, hF⟩⟩
end ES
