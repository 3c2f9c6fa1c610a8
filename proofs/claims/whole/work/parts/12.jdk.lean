section ZJ
variable {p : Program} {l : Launch} {e : Env} {R : Room} {s : State} {m : MethodId} {args : Array Value} {below : List Frame} {meth : Method} {c : Code} {H : Heap} {locs : List Loc} {cells slots : Nat} {Q : State → Prop} {cc : ByteArray} {pc nL : Nat} {ls : Array Slot} {rest : List Value} {own : String} {g : zGeo} {h : Hp} {β : Type} {r : β}
theorem z_callT {idx n nL' fr lo : Nat} {y : MethodName} {cc' : ByteArray} {ret : Option FieldType} {o : Option Value} {i : Int} {vs st : List Value} (C : zC p m c cc nL s args own g) (hM : zM l y cc' nL' ret fr lo 0 0 g h (qS g i :: vs) h o) (L : Cond.methodLink own idx y ∈ TW) (Y : zMB y cc' nL' ret n ∧ Cond.instanceMethod y ∈ TW ∧ Cond.selects y.cls y y ∈ TW ∧ y.cls = "java/lang/String") (hi : 0 ≤ i ∧ i < 27) (hn : vs.length = n) (hsize : ls.size = nL) (Hh : zH g s h H locs) (hroom : fr + 1 ≤ R.frames ∧ 8 + (nL' + 11) + lo ≤ R.locals ∧ cells + 0 ≤ R.cells ∧ slots + 0 ≤ R.slots) (hcat : (rest.map fun v => v.category).sum ≤ 8) (hdg : decode cc pc = .ok (.invokevirtual idx, 3)) (hst : st = vs.reverse ++ qS g i :: rest)
    (kk : ∀ (H1 : Heap) (locs1 : List Loc), zH g s h H1 locs1 → W p l e R s m args below meth c H1 locs1 cells slots Q (F0 m (pc + 3) ls (o.toList ++ rest))) : W p l e R s m args below meth c H locs cells slots Q (F0 m pc ls st) := by
  obtain ⟨⟨y1, y2, y3, y4, y5⟩, y6, y7, y8⟩ := Y
  obtain ⟨F, hu⟩ := C
  have hts := F.2.2.2.2
  obtain ⟨cell, q1, q2, q3, -⟩ := (hu.2.2.2.1 i.toNat (by show _ < 27; omega)).1.kept Hh.2.2.1
  have hT : GoodIn TW (wsV own idx y.cls y (Cond.code y cc' nL' ret :: TW)) := by
    intro w hw
    unfold wsV at hw
    rcases List.mem_append.mp hw with hw | hw
    · simp only [List.mem_cons, List.not_mem_nil, or_false] at hw
      rcases hw with rfl | rfl | rfl | rfl
      · exact tw_ok L
      · exact tw_ok y6
      · exact tw_ok y7
      · exact tw_ok y2
    · exact tw_good y1 w hw
  exact z_after (va_runV (b := g.2.2.1 i.toNat) (As := vs) (rest := rest) F hM (cwV n hts hT rfl rfl rfl ⟨rfl, y3, y4, y5⟩ ⟨hroom.1, hroom.2.1⟩) ⟨z_blind, ⟨cell, q1, q2, by rw [y8]; exact q3⟩, z_pre hu Hh⟩ rfl hn hsize hst (lv_room hcat) hdg ⟨hroom.2.2.1, hroom.2.2.2⟩) Hh kk
end ZJ
/-- Preconditions.checkIndex of an index within -/
theorem ct_J3_checkIndex (l : Launch) (g : zGeo) (h : Hp) (a b : Int) (f : Option Nat) (h0 : 0 ≤ w32 a) (h1 : w32 a < w32 b) : zM l yJ3_checkIndex_8e157 cJ3_checkIndex_8e157 3 (some .int) 0 0 0 0 g h [qI a, qI b, va_rf f] h (some (qI a)) := by
  cases f with
  | none =>
    refine z_meth (by decide) (Nat.le_of_ble_eq_true rfl) ?_
    intro p e s m args below meth c H ls C hr hlocks hnm Hh hl
    have hx := C.1.1
    have hb := C.1.2.1
    have hl : lv_has ls 3 [(0, qI a), (1, qI b), (2, .null)] := hl
    refine lv_iload_n hx hb dJ3_checkIndex_8e157_0 rfl (lv_at hl 0 rfl) ?_
    refine lv_if_lt (tgt := 9) hx hb dJ3_checkIndex_8e157_1 (by decide) (fun q => absurd ((w32_lt a 0).mp q) (by show ¬ w32 a < 0; omega)) (fun _ => ?_)
    refine lv_iload_n hx hb dJ3_checkIndex_8e157_4 rfl (lv_at hl 0 rfl) ?_
    refine lv_iload_n hx hb dJ3_checkIndex_8e157_5 rfl (lv_at hl 1 rfl) ?_
    refine lv_icmp_lt (tgt := 16) hx hb dJ3_checkIndex_8e157_6 (by decide) (fun _ => ?_) (fun q => absurd ((w32_lt a b).mpr h1) q)
    refine lv_iload_n hx hb dJ3_checkIndex_8e157_16 rfl (lv_at hl 0 rfl) ?_
    exact z_iretR (h0 := h) C hr hlocks Hh dJ3_checkIndex_8e157_17 rfl
  | some t =>
    refine z_meth (by decide) (Nat.le_of_ble_eq_true rfl) ?_
    intro p e s m args below meth c H ls C hr hlocks hnm Hh hl
    have hx := C.1.1
    have hb := C.1.2.1
    have hl : lv_has ls 3 [(0, qI a), (1, qI b), (2, .ref t)] := hl
    refine lv_iload_n hx hb dJ3_checkIndex_8e157_0 rfl (lv_at hl 0 rfl) ?_
    refine lv_if_lt (tgt := 9) hx hb dJ3_checkIndex_8e157_1 (by decide) (fun q => absurd ((w32_lt a 0).mp q) (by show ¬ w32 a < 0; omega)) (fun _ => ?_)
    refine lv_iload_n hx hb dJ3_checkIndex_8e157_4 rfl (lv_at hl 0 rfl) ?_
    refine lv_iload_n hx hb dJ3_checkIndex_8e157_5 rfl (lv_at hl 1 rfl) ?_
    refine lv_icmp_lt (tgt := 16) hx hb dJ3_checkIndex_8e157_6 (by decide) (fun _ => ?_) (fun q => absurd ((w32_lt a b).mpr h1) q)
    refine lv_iload_n hx hb dJ3_checkIndex_8e157_16 rfl (lv_at hl 0 rfl) ?_
    exact z_iretR (h0 := h) C hr hlocks Hh dJ3_checkIndex_8e157_17 rfl
theorem my_J3_checkIndex : zMS yJ3_checkIndex_8e157 cJ3_checkIndex_8e157 3 (some .int) 3 := ⟨⟨tw_616, tw_145, by decide, by decide, by decide⟩, tw_615⟩
theorem ct_J0_checkIndex (l : Launch) (g : zGeo) (h : Hp) (a b : Int) (h0 : 0 ≤ w32 a) (h1 : w32 a < w32 b) : zM l yJ0_checkIndex_df160 cJ0_checkIndex_df160 2 none 1 22 0 0 g h [qI a, qI b] h none := by
  refine z_meth (by decide) (Nat.le_of_ble_eq_true rfl) ?_
  intro p e s m args below meth c H ls C hr hlocks hnm Hh hl
  have C : zC p m c cJ0_checkIndex_df160 2 s args RJ0 g := C
  have hx := C.1.1
  have hb := C.1.2.1
  have hl : lv_has ls 2 [(0, qI a), (1, qI b)] := hl
  refine lv_iload_n hx hb dJ0_checkIndex_df160_0 rfl (lv_at hl 0 rfl) ?_
  refine lv_iload_n hx hb dJ0_checkIndex_df160_1 rfl (lv_at hl 1 rfl) ?_
  have key : ∀ f : Option Nat, W p l e { frames := 1, cells := 0, slots := 0, locals := 22 } s m args below meth c H [] 0 0 (zQ below g h none args s 0 0) (F0 m 5 ls [va_rf f, qI b, qI a]) := by
    intro f
    refine z_callS (vs := [qI a, qI b, va_rf f]) C (ct_J3_checkIndex l g h a b f h0 h1) tw_614 my_J3_checkIndex rfl hl.1 Hh ⟨Nat.le_of_ble_eq_true rfl, Nat.le_of_ble_eq_true rfl, Nat.le_of_ble_eq_true rfl, Nat.le_of_ble_eq_true rfl⟩ (Nat.le_of_ble_eq_true rfl) dJ0_checkIndex_df160_5 rfl (fun H locs Hh => ?_)
    refine lv_pop hx hb dJ0_checkIndex_df160_8 rfl ?_
    exact z_vret C hr hlocks Hh dJ0_checkIndex_df160_9 rfl
  rcases C.2.2.2.2.2.2.2.2 with hZ | ⟨t, hZ⟩
  · exact va_gets hx hb hZ Hh.2 C.1.2.2.2.1 (C.1.2.2.2.2 _ tw_612) (fun _ q => q) dJ0_checkIndex_df160_2 (key none)
  · exact va_gets hx hb hZ Hh.2 C.1.2.2.2.1 (C.1.2.2.2.2 _ tw_612) (fun _ q => q) dJ0_checkIndex_df160_2 (key (some t))
theorem my_J0_checkIndex : zMS yJ0_checkIndex_df160 cJ0_checkIndex_df160 2 none 2 := ⟨⟨tw_611, tw_143, by decide, by decide, by decide⟩, tw_610⟩
theorem sTx_small : ∀ i : Nat, i < 27 → ∀ k : Nat, k < (sTx.getD i []).length → 0 ≤ (sTx.getD i []).getD k 0 ∧ (sTx.getD i []).getD k 0 < 128 := by decide +kernel
theorem sTx_len : ∀ i : Nat, i < 27 → (sTx.getD i []).length < 100 := by decide +kernel
theorem small_char : ∀ n : Nat, n < 128 → ((Int32.ofInt (n : Int) &&& Int32.ofInt 255).toUInt32 % 65536).toInt32 = Int32.ofInt (n : Int) := by decide +kernel
theorem small_nar : ∀ n : Nat, n < 128 → narrow .char (.int (Int32.ofInt (n : Int))) = .int (Int32.ofInt (n : Int)) := by decide +kernel
theorem ct_J1_charAt (l : Launch) (g : zGeo) (h : Hp) (i : Nat) (k : Int) (hi : i < 27) (h0 : 0 ≤ w32 k) (h1 : w32 k < ((sTx.getD i []).length : Int)) : zM l yJ1_charAt_3b067 cJ1_charAt_3b067 2 (some .char) 2 43 0 0 g h [.ref (g.2.2.2.1 i), qI k] h (some (qI ((sTx.getD i []).getD (w32 k).toNat 0))) := by
  refine z_meth (by decide) (Nat.le_of_ble_eq_true rfl) ?_
  intro p e s m args below meth c H ls C hr hlocks hnm Hh hl
  have C : zC p m c cJ1_charAt_3b067 2 s args RJ1 g := C
  have hx := C.1.1
  have hb := C.1.2.1
  have hl : lv_has ls 2 [(0, .ref (g.2.2.2.1 i)), (1, qI k)] := hl
  have hT := (C.2.2.2.2.1 i hi).2.2.2
  have hln := sTx_len i hi
  obtain ⟨i1, i2⟩ := zx_in h0 h1
  refine lv_iload_n hx hb dJ1_charAt_3b067_0 rfl (lv_at hl 1 rfl) ?_
  refine lv_aload_n hx hb dJ1_charAt_3b067_1 rfl (lv_at hl 0 rfl) ?_
  have hlen : ∀ (locs : List Loc) (H : Heap), va_S (zA g) s.heap H locs → ∀ {Q : State → Prop} {st : List Value}, W p l e { frames := 2, cells := 0, slots := 0, locals := 43 } s m args below meth c H locs 0 0 Q (F0 m 3 ls (qI ((sTx.getD i []).length : Int) :: st)) → W p l e { frames := 2, cells := 0, slots := 0, locals := 43 } s m args below meth c H locs 0 0 Q (F0 m 2 ls (.ref (g.2.2.2.1 i) :: st)) := by
    intro locs H hS Q st kk
    obtain ⟨cell, q1, q2, q3, q4, q5, q6, q7⟩ := hT.kept hS.2.1
    exact W.alen (n := Int32.ofInt ((sTx.getD i []).length : Int)) hx hb q1 q2 (by rw [q5]; exact Int32.ofInt_eq_ofNat.symm) rfl rfl dJ1_charAt_3b067_2 kk
  refine hlen _ _ Hh.2 ?_
  have hw : w32 ((sTx.getD i []).length : Int) = ((sTx.getD i []).length : Int) := w32_of (by omega) (by omega)
  refine z_callS (vs := [qI k, qI ((sTx.getD i []).length : Int)]) C (ct_J0_checkIndex l g h k _ h0 (by rw [hw]; exact h1)) tw_609 my_J0_checkIndex rfl hl.1 Hh ⟨Nat.le_of_ble_eq_true rfl, Nat.le_of_ble_eq_true rfl, Nat.le_of_ble_eq_true rfl, Nat.le_of_ble_eq_true rfl⟩ (Nat.le_of_ble_eq_true rfl) dJ1_charAt_3b067_3 rfl (fun H locs Hh => ?_)
  refine lv_aload_n hx hb dJ1_charAt_3b067_6 rfl (lv_at hl 0 rfl) ?_
  refine lv_iload_n hx hb dJ1_charAt_3b067_7 rfl (lv_at hl 1 rfl) ?_
  have hkn : (Int32.ofInt k).toNatClampNeg = (w32 k).toNat := rfl
  refine va_tb hx hb hT Hh.2 (by rw [Int.toNat_natCast] at i1; exact i1) (v := qI ((sTx.getD i []).getD (w32 k).toNat 0)) (by rw [hkn]) dJ1_charAt_3b067_8 ?_
  refine lv_sipush (v := Int32.ofInt 255) hx hb dJ1_charAt_3b067_9 rfl ?_
  refine lv_iand hx hb dJ1_charAt_3b067_12 ?_
  obtain ⟨c1, c2⟩ := sTx_small i hi (w32 k).toNat (by omega)
  obtain ⟨n, hn⟩ : ∃ n : Nat, (sTx.getD i []).getD (w32 k).toNat 0 = (n : Int) := ⟨((sTx.getD i []).getD (w32 k).toNat 0).toNat, by omega⟩
  have hn2 : n < 128 := by omega
  rw [hn]
  refine lv_i2c (v := Int32.ofInt (n : Int)) hx hb dJ1_charAt_3b067_13 (small_char n hn2) ?_
  exact W.zret (hlocks := hlocks) hx hb hr (small_nar n hn2) (fun t ht _ => ⟨rfl, by rw [ht]; exact Hh.1, Hh.2.F ht⟩) Hh.2.2.2 dJ1_charAt_3b067_14
theorem my_J1_charAt : zMS yJ1_charAt_3b067 cJ1_charAt_3b067 2 (some .char) 2 := ⟨⟨tw_608, tw_144, by decide, by decide, by decide⟩, tw_607⟩
theorem ct_J0_isLatin1 (l : Launch) (g : zGeo) (h : Hp) (i : Int) (hi : 0 ≤ i ∧ i < 27) : zM l yJ0_isLatin1_aae02 cJ0_isLatin1_aae02 1 (some .boolean) 0 0 0 0 g h [qS g i] h (some (qI 1)) := by
  refine z_meth (by decide) (Nat.le_of_ble_eq_true rfl) ?_
  intro p e s m args below meth c H ls C hr hlocks hnm Hh hl
  have C : zC p m c cJ0_isLatin1_aae02 1 s args RJ0 g := C
  have hx := C.1.1
  have hb := C.1.2.1
  have hl : lv_has ls 1 [(0, qS g i)] := hl
  have hS := C.2.2.2.2.1 i.toNat (by show _ < 27; omega)
  refine va_gets hx hb C.2.2.2.2.2.2.2.1 Hh.2 C.1.2.2.2.1 (C.1.2.2.2.2 _ tw_596) (fun _ q => q) dJ0_isLatin1_aae02_0 ?_
  refine lv_if_eq (tgt := 17) hx hb dJ0_isLatin1_aae02_3 (by decide) (fun q => absurd q (by decide)) (fun _ => ?_)
  refine lv_aload_n hx hb dJ0_isLatin1_aae02_6 rfl (lv_at hl 0 rfl) ?_
  refine vk_getf hx hb hS.2.1 Hh.2 C.1.2.2.2.1 (C.1.2.2.2.2 _ tw_2016) (fun _ q => q) dJ0_isLatin1_aae02_7 ?_
  refine lv_if_ne (tgt := 17) hx hb dJ0_isLatin1_aae02_10 (by decide) (fun q => absurd rfl q) (fun _ => ?_)
  refine z_iconst C dJ0_isLatin1_aae02_13 ?_
  refine lv_goto (tgt := 18) hx hb dJ0_isLatin1_aae02_14 (by decide) ?_
  exact z_zretRC C hr hlocks Hh dJ0_isLatin1_aae02_18 (by decide) rfl
theorem ct_J0_coder (l : Launch) (g : zGeo) (h : Hp) (i : Int) (hi : 0 ≤ i ∧ i < 27) : zM l yJ0_coder_7d493 cJ0_coder_7d493 1 (some .byte) 0 0 0 0 g h [qS g i] h (some (qI 0)) := by
  refine z_meth (by decide) (Nat.le_of_ble_eq_true rfl) ?_
  intro p e s m args below meth c H ls C hr hlocks hnm Hh hl
  have C : zC p m c cJ0_coder_7d493 1 s args RJ0 g := C
  have hx := C.1.1
  have hb := C.1.2.1
  have hl : lv_has ls 1 [(0, qS g i)] := hl
  have hS := C.2.2.2.2.1 i.toNat (by show _ < 27; omega)
  refine va_gets hx hb C.2.2.2.2.2.2.2.1 Hh.2 C.1.2.2.2.1 (C.1.2.2.2.2 _ tw_596) (fun _ q => q) dJ0_coder_7d493_0 ?_
  refine lv_if_eq (tgt := 13) hx hb dJ0_coder_7d493_3 (by decide) (fun q => absurd q (by decide)) (fun _ => ?_)
  refine lv_aload_n hx hb dJ0_coder_7d493_6 rfl (lv_at hl 0 rfl) ?_
  refine vk_getf hx hb hS.2.1 Hh.2 C.1.2.2.2.1 (C.1.2.2.2.2 _ tw_2016) (fun _ q => q) dJ0_coder_7d493_7 ?_
  refine lv_goto (tgt := 14) hx hb dJ0_coder_7d493_10 (by decide) ?_
  exact W.zret (v := 0) (hlocks := hlocks) hx hb hr rfl (fun t ht _ => ⟨rfl, by rw [ht]; exact Hh.1, Hh.2.F ht⟩) Hh.2.2.2 dJ0_coder_7d493_14
theorem my_J0_isLatin1 : zMB yJ0_isLatin1_aae02 cJ0_isLatin1_aae02 1 (some .boolean) 0 ∧ Cond.instanceMethod yJ0_isLatin1_aae02 ∈ TW ∧ Cond.selects yJ0_isLatin1_aae02.cls yJ0_isLatin1_aae02 yJ0_isLatin1_aae02 ∈ TW ∧ yJ0_isLatin1_aae02.cls = "java/lang/String" := ⟨⟨tw_605, tw_143, by decide, by decide, by decide⟩, tw_603, tw_604, rfl⟩
theorem my_J0_coder : zMB yJ0_coder_7d493 cJ0_coder_7d493 1 (some .byte) 0 ∧ Cond.instanceMethod yJ0_coder_7d493 ∈ TW ∧ Cond.selects yJ0_coder_7d493.cls yJ0_coder_7d493 yJ0_coder_7d493 ∈ TW ∧ yJ0_coder_7d493.cls = "java/lang/String" := ⟨⟨tw_595, tw_143, by decide, by decide, by decide⟩, tw_593, tw_594, rfl⟩
theorem my_J0_length : zMB yJ0_length_8abf5 cJ0_length_8abf5 1 (some .int) 0 ∧ Cond.instanceMethod yJ0_length_8abf5 ∈ TW ∧ Cond.selects yJ0_length_8abf5.cls yJ0_length_8abf5 yJ0_length_8abf5 ∈ TW ∧ yJ0_length_8abf5.cls = "java/lang/String" := ⟨⟨tw_591, tw_143, by decide, by decide, by decide⟩, tw_589, tw_590, rfl⟩
theorem my_J0_charAt : zMB yJ0_charAt_5068e cJ0_charAt_5068e 2 (some .char) 1 ∧ Cond.instanceMethod yJ0_charAt_5068e ∈ TW ∧ Cond.selects yJ0_charAt_5068e.cls yJ0_charAt_5068e yJ0_charAt_5068e ∈ TW ∧ yJ0_charAt_5068e.cls = "java/lang/String" := ⟨⟨tw_601, tw_143, by decide, by decide, by decide⟩, tw_599, tw_600, rfl⟩
theorem small_shr : ∀ n : Nat, n < 100 → Int32.ofInt (n : Int) >>> (Int32.ofInt 0 &&& 31) = Int32.ofInt (n : Int) := by decide +kernel
theorem ct_J0_length (l : Launch) (g : zGeo) (h : Hp) (i : Int) (hi : 0 ≤ i ∧ i < 27) : zM l yJ0_length_8abf5 cJ0_length_8abf5 1 (some .int) 1 20 0 0 g h [qS g i] h (some (qI (slen i))) := by
  refine z_meth (by decide) (Nat.le_of_ble_eq_true rfl) ?_
  intro p e s m args below meth c H ls C hr hlocks hnm Hh hl
  have C : zC p m c cJ0_length_8abf5 1 s args RJ0 g := C
  have hx := C.1.1
  have hb := C.1.2.1
  have hl : lv_has ls 1 [(0, qS g i)] := hl
  have hi2 : i.toNat < 27 := by omega
  have hS := C.2.2.2.2.1 i.toNat hi2
  have hln := sTx_len i.toNat hi2
  refine lv_aload_n hx hb dJ0_length_8abf5_0 rfl (lv_at hl 0 rfl) ?_
  refine vk_getf hx hb hS.2.2.1 Hh.2 C.1.2.2.2.1 (C.1.2.2.2.2 _ tw_2015) (fun _ q => q) dJ0_length_8abf5_1 ?_
  obtain ⟨cell, q1, q2, q3, q4, q5, q6, q7⟩ := hS.2.2.2.kept Hh.2.2.1
  refine W.alen (n := Int32.ofInt ((sTx.getD i.toNat []).length : Int)) hx hb q1 q2 (by rw [q5]; exact Int32.ofInt_eq_ofNat.symm) rfl rfl dJ0_length_8abf5_4 ?_
  refine lv_aload_n hx hb dJ0_length_8abf5_5 rfl (lv_at hl 0 rfl) ?_
  refine z_callT (vs := []) C (ct_J0_coder l g h i hi) tw_592 my_J0_coder hi rfl hl.1 Hh ⟨Nat.le_of_ble_eq_true rfl, Nat.le_of_ble_eq_true rfl, Nat.le_of_ble_eq_true rfl, Nat.le_of_ble_eq_true rfl⟩ (Nat.le_of_ble_eq_true rfl) dJ0_length_8abf5_6 rfl (fun H locs Hh => ?_)
  refine lv_ishr hx hb dJ0_length_8abf5_9 ?_
  rw [small_shr _ hln]
  exact z_iretR (h0 := h) C hr hlocks Hh dJ0_length_8abf5_10 rfl
theorem ct_J0_charAt (l : Launch) (g : zGeo) (h : Hp) (i k : Int) (hi : 0 ≤ i ∧ i < 27) (h0 : 0 ≤ w32 k) (h1 : w32 k < slen i) : zM l yJ0_charAt_5068e cJ0_charAt_5068e 2 (some .char) 3 64 0 0 g h [qS g i, qI k] h (some (qI (sch i (w32 k)))) := by
  refine z_meth (by decide) (Nat.le_of_ble_eq_true rfl) ?_
  intro p e s m args below meth c H ls C hr hlocks hnm Hh hl
  have C : zC p m c cJ0_charAt_5068e 2 s args RJ0 g := C
  have hx := C.1.1
  have hb := C.1.2.1
  have hl : lv_has ls 2 [(0, qS g i), (1, qI k)] := hl
  have hi2 : i.toNat < 27 := by omega
  have hS := C.2.2.2.2.1 i.toNat hi2
  refine lv_aload_n hx hb dJ0_charAt_5068e_0 rfl (lv_at hl 0 rfl) ?_
  refine z_callT (vs := []) C (ct_J0_isLatin1 l g h i hi) tw_602 my_J0_isLatin1 hi rfl hl.1 Hh ⟨Nat.le_of_ble_eq_true rfl, Nat.le_of_ble_eq_true rfl, Nat.le_of_ble_eq_true rfl, Nat.le_of_ble_eq_true rfl⟩ (Nat.le_of_ble_eq_true rfl) dJ0_charAt_5068e_1 rfl (fun H locs Hh => ?_)
  refine lv_if_eq (tgt := 16) hx hb dJ0_charAt_5068e_4 (by decide) (fun q => absurd q (by decide)) (fun _ => ?_)
  refine lv_aload_n hx hb dJ0_charAt_5068e_7 rfl (lv_at hl 0 rfl) ?_
  refine vk_getf hx hb hS.2.2.1 Hh.2 C.1.2.2.2.1 (C.1.2.2.2.2 _ tw_2015) (fun _ q => q) dJ0_charAt_5068e_8 ?_
  refine lv_iload_n hx hb dJ0_charAt_5068e_11 rfl (lv_at hl 1 rfl) ?_
  refine z_callS (vs := [.ref (g.2.2.2.1 i.toNat), qI k]) C (ct_J1_charAt l g h i.toNat k hi2 h0 h1) tw_606 my_J1_charAt rfl hl.1 Hh ⟨Nat.le_of_ble_eq_true rfl, Nat.le_of_ble_eq_true rfl, Nat.le_of_ble_eq_true rfl, Nat.le_of_ble_eq_true rfl⟩ (Nat.le_of_ble_eq_true rfl) dJ0_charAt_5068e_12 rfl (fun H locs Hh => ?_)
  obtain ⟨c1, c2⟩ := sTx_small i.toNat hi2 (w32 k).toNat (by have : slen i = ((sTx.getD i.toNat []).length : Int) := rfl; omega)
  obtain ⟨n, hn⟩ : ∃ n : Nat, sch i (w32 k) = (n : Int) := ⟨(sch i (w32 k)).toNat, by have : sch i (w32 k) = (sTx.getD i.toNat []).getD (w32 k).toNat 0 := rfl; omega⟩
  have hn2 : n < 128 := by have : sch i (w32 k) = (sTx.getD i.toNat []).getD (w32 k).toNat 0 := rfl; omega
  have hq : (sTx.getD i.toNat []).getD (w32 k).toNat 0 = (n : Int) := hn
  rw [hq, hn]
  exact W.zret (v := Int32.ofInt (n : Int)) (hlocks := hlocks) hx hb hr (small_nar n hn2) (fun t ht _ => ⟨rfl, by rw [ht]; exact Hh.1, Hh.2.F ht⟩) Hh.2.2.2 dJ0_charAt_5068e_15
section ZJ2
variable {p : Program} {l : Launch} {e : Env} {R : Room} {s : State} {m : MethodId} {args : Array Value} {below : List Frame} {meth : Method} {c : Code} {H : Heap} {locs : List Loc} {cells slots : Nat} {Q : State → Prop} {cc : ByteArray} {pc nL : Nat} {ls : Array Slot} {rest : List Value} {own : String} {g : zGeo} {h : Hp} {β : Type} {r : β}
theorem z_J0_length {idx : Nat} {i : Int} {f : Int → Option β} (C : zC p m c cc nL s args own g) (L : Cond.methodLink own idx yJ0_length_8abf5 ∈ TW) (hsize : ls.size = nL) (Hh : zH g s h H locs) (hroom : 5 ≤ R.frames ∧ 150 ≤ R.locals) (hc : cells ≤ R.cells) (hs : slots ≤ R.slots) (hcat : (rest.map fun v => v.category).sum ≤ 8) (hdg : decode cc pc = .ok (.invokevirtual idx, 3)) (hm : (M_J0_length i).bind f = some r)
    (kk : ∀ (x : Int) (H1 : Heap) (locs1 : List Loc), zH g s h H1 locs1 → f x = some r → W p l e R s m args below meth c H1 locs1 cells slots Q (F0 m (pc + 3) ls (qI x :: rest))) : W p l e R s m args below meth c H locs cells slots Q (F0 m pc ls (qS g i :: rest)) := by
  unfold M_J0_length at hm
  split at hm
  · rename_i hi
    exact z_callT (vs := []) C (ct_J0_length l g h i hi) L my_J0_length hi rfl hsize Hh ⟨by omega, by omega, hc, hs⟩ hcat hdg rfl (fun H1 locs1 Hh => kk _ H1 locs1 Hh hm)
  · cases hm
theorem z_J0_charAt {idx : Nat} {i k : Int} {f : Int → Option β} (C : zC p m c cc nL s args own g) (L : Cond.methodLink own idx yJ0_charAt_5068e ∈ TW) (hsize : ls.size = nL) (Hh : zH g s h H locs) (hroom : 5 ≤ R.frames ∧ 150 ≤ R.locals) (hc : cells ≤ R.cells) (hs : slots ≤ R.slots) (hcat : (rest.map fun v => v.category).sum ≤ 8) (hdg : decode cc pc = .ok (.invokevirtual idx, 3)) (hm : (M_J0_charAt i k).bind f = some r)
    (kk : ∀ (x : Int) (H1 : Heap) (locs1 : List Loc), zH g s h H1 locs1 → f x = some r → W p l e R s m args below meth c H1 locs1 cells slots Q (F0 m (pc + 3) ls (qI x :: rest))) : W p l e R s m args below meth c H locs cells slots Q (F0 m pc ls (qI k :: qS g i :: rest)) := by
  unfold M_J0_charAt at hm
  split at hm
  · rename_i hi
    exact z_callT (vs := [qI k]) C (ct_J0_charAt l g h i k hi.1 hi.2.1 hi.2.2) L my_J0_charAt hi.1 rfl hsize Hh ⟨by omega, by omega, hc, hs⟩ hcat hdg rfl (fun H1 locs1 Hh => kk _ H1 locs1 Hh hm)
  · cases hm
end ZJ2
