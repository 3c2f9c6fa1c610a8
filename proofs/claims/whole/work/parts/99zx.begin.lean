/-! the law's start: what the tables and the constants give -/
def kTx : List Nat := [128, 130, 132, 134, 136, 147, 155, 157, 119, 213, 215, 217, 219, 221, 223, 225, 227, 229, 231, 233, 235, 237, 239, 241, 243, 245, 247]
def tmX (i : Nat) : Term := .string "NineMaps$Reader" (kTx.getD i 0)
def flN : List Cond := flatC (Jvm.Cond.and given_1 narrow_1)
def vlX (i : Nat) : Term := .field (tmX i) "java/lang/String" "value" "[B"
def zsW (i : Nat) : List Cond := [.exactly (tmX i) "java/lang/String", .eq (.field (tmX i) "java/lang/String" "coder" "B") (.int 0), .arrayOf (vlX i) .byte, .eq (.length (vlX i)) (.int (Int32.ofNat (sTx.getD i []).length))] ++ (List.range (sTx.getD i []).length).map (fun j => .eq (.elem (vlX i) (.int (Int32.ofNat j))) (.int (Int32.ofInt ((sTx.getD i []).getD j 0))))
set_option maxRecDepth 100000 in
theorem zsW_0 : ∀ i, i < 5 → ∀ w ∈ zsW (i + 0), w ∈ flN := by decide +kernel
set_option maxRecDepth 100000 in
theorem zsW_5 : ∀ i, i < 5 → ∀ w ∈ zsW (i + 5), w ∈ flN := by decide +kernel
set_option maxRecDepth 100000 in
theorem zsW_10 : ∀ i, i < 5 → ∀ w ∈ zsW (i + 10), w ∈ flN := by decide +kernel
set_option maxRecDepth 100000 in
theorem zsW_15 : ∀ i, i < 4 → ∀ w ∈ zsW (i + 15), w ∈ flN := by decide +kernel
set_option maxRecDepth 100000 in
theorem zsW_19 : ∀ i, i < 4 → ∀ w ∈ zsW (i + 19), w ∈ flN := by decide +kernel
set_option maxRecDepth 100000 in
theorem zsW_23 : ∀ i, i < 4 → ∀ w ∈ zsW (i + 23), w ∈ flN := by decide +kernel
theorem zsW_in {i : Nat} (h : i < 27) : ∀ w ∈ zsW i, w ∈ flN := by
  by_cases h1 : i < 5
  · exact zsW_0 i h1
  by_cases h2 : i < 10
  · have := zsW_5 (i - 5) (by omega); rw [show i - 5 + 5 = i by omega] at this; exact this
  by_cases h3 : i < 15
  · have := zsW_10 (i - 10) (by omega); rw [show i - 10 + 10 = i by omega] at this; exact this
  by_cases h4 : i < 19
  · have := zsW_15 (i - 15) (by omega); rw [show i - 15 + 15 = i by omega] at this; exact this
  by_cases h5 : i < 23
  · have := zsW_19 (i - 19) (by omega); rw [show i - 19 + 19 = i by omega] at this; exact this
  · have := zsW_23 (i - 23) (by omega); rw [show i - 23 + 23 = i by omega] at this; exact this
set_option maxRecDepth 100000 in
theorem zr_in1 : ∀ q ∈ zStr, Cond.stringRef q.1 q.2.1 q.2.2.1 ∈ lw_tbl := by decide +kernel
set_option maxRecDepth 100000 in
theorem zr_in2 : ∀ q ∈ zStr, ((q.1 = "NineMaps$Reader" ∧ q.2.1 = kTx.getD q.2.2.2 0) ∨ Cond.eq (tmX q.2.2.2) (.string q.1 q.2.1) ∈ flN) ∧ q.2.2.2 < 27 := by decide +kernel
set_option maxRecDepth 100000 in
theorem zn_in : ∀ w ∈ zNest, w ∈ lw_tbl := by decide +kernel
set_option maxRecDepth 100000 in
theorem nseB_in : ∀ w ∈ nseB, w ∈ lw_tbl := by decide +kernel
set_option maxRecDepth 100000 in
theorem zc_in : ∀ w ∈ [Cond.laysStatic "java/lang/String" "COMPACT_STRINGS" "Z", Cond.initialized "java/lang/String", Cond.laysStatic "jdk/internal/util/Preconditions" "SIOOBE_FORMATTER" "Ljava/util/function/BiFunction;", Cond.initialized "jdk/internal/util/Preconditions", Cond.laysStatic Bundle.tN "UNASSIGNED_STACK" Bundle.steD, Cond.laysStatic Bundle.tN "SUPPRESSED_SENTINEL" Bundle.listD, Cond.initialized Bundle.tN, Cond.arrayOver (.object "NineMaps$World"), Cond.arrayClass .int, Cond.arrayClass .long, Cond.arrayClass .byte, Cond.arrayClass .boolean], w ∈ lw_tbl := by decide +kernel
set_option maxRecDepth 100000 in
theorem zf_in : ∀ w ∈ [Cond.eq (.static "java/lang/String" "COMPACT_STRINGS" "Z") (.int 1), Cond.isRef (.static "jdk/internal/util/Preconditions" "SIOOBE_FORMATTER" "Ljava/util/function/BiFunction;"), Cond.isRef (.static Bundle.tN "UNASSIGNED_STACK" Bundle.steD), Cond.isRef (.static Bundle.tN "SUPPRESSED_SENTINEL" Bundle.listD)], w ∈ flN := by decide +kernel
set_option maxRecDepth 100000 in
theorem iw_in : ∀ w ∈ [Cond.instantiable RX0 9, Cond.instantiable RX1 4, Cond.instantiable RX2 6, Cond.instantiable RX3 4, Cond.instantiable RX4 10, Cond.instantiable RX5 10, Cond.instantiable RX6 7, Cond.instantiable RX7 4, Cond.instantiable RX8 8, Cond.instantiable RX9 17, Cond.instantiable RX10 16, Cond.instantiable RX11 41], w ∈ lw_tbl := by decide +kernel
theorem arr_of {args : Array Value} {s : State} {ty : FieldType} (h : (Cond.arrayClass ty).before args s = true) : ∃ cA, ArrOfT s cA ty ∧ s.vm.findClass ("[" ++ ty.toString) = some cA := by
  obtain ⟨cA, k, comp, h1, h2, h3⟩ := Cond.arrayClass_spec (args := args) (first := s) (o := none) (s := s) (idx := []) h
  exact ⟨cA, fun n z => ⟨fun q h => (by cases h), k, h2, comp, h3⟩, h1⟩
theorem zu_start {p : Program} {s : State} {m : MethodId} {meth : Method} {c : Code} {b L : Nat} {xs : Nat → Int32} (C0 : lw_At p s m meth c b L xs) : ∃ g : zGeo, zb g = s.heap.size ∧ zU g s ∧ zZ g s := by
  obtain ⟨hx, hb, hr, hml, hown, hts, hX, hbl, hlocks, hgv⟩ := C0
  have hfl : ∀ w ∈ flN, w.before #[Value.ref b] s = true := fun w hw => flat_of_before _ hgv w hw
  have hTW : ∀ w ∈ TW, w.before #[Value.ref b] s = true := fun w hw => hts w (List.mem_filter.mp hw).1
  have hA : ∀ a : Nat, a < s.heap.size → ¬ s.heap.size ≤ a := fun a ha => Nat.not_le.mpr ha
  have hiw := fun w hw => hts w (iw_in w hw)
  have hzc := fun w hw => hts w (zc_in w hw)
  have hzf := fun w hw => hfl w (zf_in w hw)
  have hK : ∀ k : Nat, ∃ r : ClassId × (Nat → Nat), ∀ q, vwCl[k]? = some q → u_Kn s q.1 q.2.1 q.2.2 r.1 r.2 := by
    intro k
    match k with
    | 0 => obtain ⟨a, b, h⟩ := u_known (C := RX0) (T := TX0) (N := 9) (n := 9) hTW inX0 (hiw _ (List.mem_of_getElem? (i := 0) rfl)); exact ⟨(a, b), fun q hq => by cases hq; exact h⟩
    | 1 => obtain ⟨a, b, h⟩ := u_known (C := RX1) (T := TX1) (N := 4) (n := 4) hTW inX1 (hiw _ (List.mem_of_getElem? (i := 1) rfl)); exact ⟨(a, b), fun q hq => by cases hq; exact h⟩
    | 2 => obtain ⟨a, b, h⟩ := u_known (C := RX2) (T := TX2) (N := 6) (n := 6) hTW inX2 (hiw _ (List.mem_of_getElem? (i := 2) rfl)); exact ⟨(a, b), fun q hq => by cases hq; exact h⟩
    | 3 => obtain ⟨a, b, h⟩ := u_known (C := RX3) (T := TX3) (N := 4) (n := 4) hTW inX3 (hiw _ (List.mem_of_getElem? (i := 3) rfl)); exact ⟨(a, b), fun q hq => by cases hq; exact h⟩
    | 4 => obtain ⟨a, b, h⟩ := u_known (C := RX4) (T := TX4) (N := 10) (n := 10) hTW inX4 (hiw _ (List.mem_of_getElem? (i := 4) rfl)); exact ⟨(a, b), fun q hq => by cases hq; exact h⟩
    | 5 => obtain ⟨a, b, h⟩ := u_known (C := RX5) (T := TX5) (N := 10) (n := 10) hTW inX5 (hiw _ (List.mem_of_getElem? (i := 5) rfl)); exact ⟨(a, b), fun q hq => by cases hq; exact h⟩
    | 6 => obtain ⟨a, b, h⟩ := u_known (C := RX6) (T := TX6) (N := 7) (n := 7) hTW inX6 (hiw _ (List.mem_of_getElem? (i := 6) rfl)); exact ⟨(a, b), fun q hq => by cases hq; exact h⟩
    | 7 => obtain ⟨a, b, h⟩ := u_known (C := RX7) (T := TX7) (N := 4) (n := 4) hTW inX7 (hiw _ (List.mem_of_getElem? (i := 7) rfl)); exact ⟨(a, b), fun q hq => by cases hq; exact h⟩
    | 8 => obtain ⟨a, b, h⟩ := u_known (C := RX8) (T := TX8) (N := 8) (n := 8) hTW inX8 (hiw _ (List.mem_of_getElem? (i := 8) rfl)); exact ⟨(a, b), fun q hq => by cases hq; exact h⟩
    | 9 => obtain ⟨a, b, h⟩ := u_known (C := RX9) (T := TX9) (N := 17) (n := 17) hTW inX9 (hiw _ (List.mem_of_getElem? (i := 9) rfl)); exact ⟨(a, b), fun q hq => by cases hq; exact h⟩
    | 10 => obtain ⟨a, b, h⟩ := u_known (C := RX10) (T := TX10) (N := 16) (n := 16) hTW inX10 (hiw _ (List.mem_of_getElem? (i := 10) rfl)); exact ⟨(a, b), fun q hq => by cases hq; exact h⟩
    | 11 => obtain ⟨a, b, h⟩ := u_known (C := RX11) (T := TX11) (N := 41) (n := 41) hTW inX11 (hiw _ (List.mem_of_getElem? (i := 11) rfl)); exact ⟨(a, b), fun q hq => by cases hq; exact h⟩
    | k + 12 => exact ⟨(m.cls, fun _ => 0), fun q hq => by simp [vwCl] at hq⟩
  obtain ⟨ad, had⟩ := Classical.axiomOfChoice hK
  have hS : ∀ i : Nat, ∃ q : Nat × Nat, i < 27 → (tmX i).eval #[Value.ref b] s none [] s = some (.ref q.1) ∧ va_O "java/lang/String" q.1 (fun q => s.heap.size ≤ q) s s.heap ∧ va_OF "java/lang/String" "coder" "B" (.int 0) q.1 (fun q => s.heap.size ≤ q) s s.heap ∧ va_OF "java/lang/String" "value" "[B" (.ref q.2) q.1 (fun q => s.heap.size ≤ q) s s.heap ∧ va_T .byte q.2 (sTx.getD i []).length (fun j => .int (Int32.ofInt ((sTx.getD i []).getD j 0))) (fun q => s.heap.size ≤ q) s s.heap := by
    intro i
    by_cases hi : i < 27
    · have hw := fun w hw => hfl w (zsW_in hi w hw)
      have hlen : (sTx.getD i []).length < 2 ^ 31 := by
        have : ∀ i, i < 27 → (sTx.getD i []).length < 2 ^ 31 := by decide
        exact this i hi
      have hex : (Cond.exactly (tmX i) "java/lang/String").before #[Value.ref b] s = true := hw _ (List.mem_append_left _ (List.mem_of_getElem? (i := 0) rfl))
      have hco : (Cond.eq (.field (tmX i) "java/lang/String" "coder" "B") (.int 0)).before #[Value.ref b] s = true := hw _ (List.mem_append_left _ (List.mem_of_getElem? (i := 1) rfl))
      have har : (Cond.arrayOf (vlX i) .byte).before #[Value.ref b] s = true := hw _ (List.mem_append_left _ (List.mem_of_getElem? (i := 2) rfl))
      have hle : (Cond.eq (.length (vlX i)) (.int (Int32.ofNat (sTx.getD i []).length))).before #[Value.ref b] s = true := hw _ (List.mem_append_left _ (List.mem_of_getElem? (i := 3) rfl))
      have hel : ∀ j : Nat, j < (sTx.getD i []).length → (Cond.eq (.elem (vlX i) (.int (Int32.ofNat j))) (.int (Int32.ofInt ((sTx.getD i []).getD j 0)))).before #[Value.ref b] s = true := fun j hj => hw _ (List.mem_append_right _ (List.mem_map.mpr ⟨j, List.mem_range.mpr hj, rfl⟩))
      obtain ⟨a, c, cA, kA, q1, q2, q3, q4, q5, q6, -⟩ := Cond.exactly_spec (args := #[Value.ref b]) (first := s) (o := none) (s := s) (idx := []) (t := tmX i) (cls := "java/lang/String") hex
      obtain ⟨t, ht, hT⟩ := va_Tof (f := fun j => .int (Int32.ofInt ((sTx.getD i []).getD j 0))) (A := fun q => s.heap.size ≤ q) hlen har (va_eqt hle) (fun j hj => va_eqt (hel j hj)) hA
      exact ⟨(a, t), fun _ => ⟨q1, ⟨cA, q3, q5, by rw [q6]; exact q2, hA a (Array.getElem?_eq_some_iff.mp q3).1⟩, vk_OFof q1 (va_eqt hco) hA, vk_OFof q1 ht hA, hT⟩⟩
    · exact ⟨(0, 0), fun h => absurd h hi⟩
  obtain ⟨sd, hsd⟩ := Classical.axiomOfChoice hS
  obtain ⟨cI, aI, fI⟩ := arr_of (hzc (.arrayClass .int) (List.mem_of_getElem? (i := 8) rfl))
  obtain ⟨cJ, aJ, fJ⟩ := arr_of (hzc (.arrayClass .long) (List.mem_of_getElem? (i := 9) rfl))
  obtain ⟨cB, aB, fB⟩ := arr_of (hzc (.arrayClass .byte) (List.mem_of_getElem? (i := 10) rfl))
  obtain ⟨cZ, aZ, fZ⟩ := arr_of (hzc (.arrayClass .boolean) (List.mem_of_getElem? (i := 11) rfl))
  have hAO : (Cond.arrayOver (.object "NineMaps$World")).before #[Value.ref b] s = true := hzc _ (List.mem_of_getElem? (i := 7) rfl)
  obtain ⟨comp, cW, kW, w1, w2, w3, w4, w5⟩ := Cond.arrayOver_spec (args := #[Value.ref b]) (first := s) (o := none) (s := s) (idx := []) hAO
  refine ⟨((fun k => (ad k).1, fun k => (ad k).2), (fun k => if k = 1 then cI else if k = 2 then cJ else if k = 3 then cB else if k = 4 then cZ else cW), (fun i => (sd i).1), (fun i => (sd i).2), s.heap.size), rfl, ⟨⟨fun k q hq => had k q hq, fun k q hq => ?_⟩, fun w hw => ?_, fun q hq => ?_, fun i hi => (hsd i hi).2, va_AO.of hAO, Nat.le_refl _, ?_, ?_⟩, ?_, ?_, fun w hw => ?_⟩
  · match k, hq with
    | 0, hq => cases hq; exact ⟨aI, fI⟩
    | 1, hq => cases hq; exact ⟨aJ, fJ⟩
    | 2, hq => cases hq; exact ⟨aB, fB⟩
    | 3, hq => cases hq; exact ⟨aZ, fZ⟩
    | 4, hq => cases hq; exact ⟨fun n z => ⟨fun q h => (by cases h), kW, w3, comp, w4⟩, kW, comp, w3, w4, w1, w5⟩
    | k + 5, hq => simp [zTy] at hq
  · exact va_Nw.of (isNest_on (zNest_all w hw)) (hts w (zn_in w hw))
  · obtain ⟨h1, h2⟩ := zr_in2 q hq
    have h3 := (hsd q.2.2.2 h2).1
    refine vk_R.of (A := #[Value.ref b]) (hts _ (zr_in1 q hq)) ?_
    rcases h1 with ⟨e1, e2⟩ | h1
    · rw [e1, e2]; exact h3
    · obtain ⟨y, y1, y2⟩ := Cond.eq_one (show (Cond.eq (tmX q.2.2.2) (.string q.1 q.2.1)).holds #[Value.ref b] s none s [] = true from hfl _ h1)
      cases h3.symm.trans y1
      exact y2
  · exact va_Zof (hzc _ (List.mem_of_getElem? (i := 0) rfl)) (hzc _ (List.mem_of_getElem? (i := 1) rfl)) (va_eqt (hzf _ (List.mem_of_getElem? (i := 0) rfl))) hA
  · exact va_Zqof (hzc _ (List.mem_of_getElem? (i := 2) rfl)) (hzc _ (List.mem_of_getElem? (i := 3) rfl)) (hzf _ (List.mem_of_getElem? (i := 1) rfl)) hA
  · exact vx_Zqof (hzc _ (List.mem_of_getElem? (i := 4) rfl)) (hzc _ (List.mem_of_getElem? (i := 6) rfl)) (hzf _ (List.mem_of_getElem? (i := 2) rfl)) hA
  · exact vx_Zqof (hzc _ (List.mem_of_getElem? (i := 5) rfl)) (hzc _ (List.mem_of_getElem? (i := 6) rfl)) (hzf _ (List.mem_of_getElem? (i := 3) rfl)) hA
  · exact va_Nw.of (nseB_on w hw) (hts w (nseB_in w hw))
