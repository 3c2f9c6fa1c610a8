/-! the law's calls (by program: gen/law.py) -/
section LC
variable {p : Program} {l : Launch} {e : Env} {s : State} {m : MethodId} {below : List Frame} {meth : Method} {c : Code} {H : Heap} {locs : List Loc} {cells slots : Nat} {Q : State → Prop} {ls : Array Slot} {g : zGeo} {M : Int → Int → Int} {G : GG} {b L : Nat} {xs : Nat → Int32} {i : Int}
set_option maxRecDepth 100000 in
set_option maxHeartbeats 4000000 in
theorem lw_13 (S : lwS p m c s b g L xs i) (hI : Inv M G) (Hh : zH g s (M, G) H locs) (hl : lv_has ls 7 (lwL g b i)) (hc : cells + 12 ≤ 601024) (hs : slots + 400 ≤ 7293034) (kk : lwK p l e s m below meth c cells slots Q g b i) : W p l e room_1 s m #[Value.ref b] below meth c H locs cells slots Q (F0 m 705 ls []) := by
  obtain ⟨h1, h2, v, e1, e2, hI2⟩ := q_areas hI (sc_i32 _ _) (sc_i32 _ _) (sc_i32 _ _)
  have C := S.1
  have hx := C.1.1
  have hb := C.1.2.1
  refine lv_aload_n hx hb dL_law_705 rfl (lv_at hl 1 rfl) ?_
  refine zl_arg (k := 1) S hl Hh dL_law_706 dL_law_707 dL_law_709 dL_law_710 dL_law_711 (by omega) (by omega) ?_
  refine zl_arg (k := 2) S hl Hh dL_law_712 dL_law_713 dL_law_715 dL_law_716 dL_law_717 (by omega) (by omega) ?_
  refine zl_arg (k := 3) S hl Hh dL_law_718 dL_law_719 dL_law_721 dL_law_722 dL_law_723 (by omega) (by omega) ?_
  refine z_callV (vs := [qI (sc xs (i + 1)), qI (sc xs (i + 2)), qI (sc xs (i + 3))]) C (ct_X9_areas l g (M, G) 0 (sc xs (i + 1)) (sc xs (i + 2)) (sc xs (i + 3)) (h1, v) e1) tw_932 lm_X9_areas (tg_X9_areas e1) rfl hl.1 Hh ⟨Nat.le_of_ble_eq_true rfl, Nat.le_of_ble_eq_true rfl, (by show _ ≤ 601024; omega), (by show _ ≤ 7293034; omega)⟩ (Nat.le_of_ble_eq_true rfl) dL_law_724 rfl (fun H1 locs1 Hh1 => ?_)
  refine lv_aload_n hx hb dL_law_727 rfl (lv_at hl 2 rfl) ?_
  refine zl_arg (k := 1) S hl Hh1 dL_law_728 dL_law_729 dL_law_731 dL_law_732 dL_law_733 (by omega) (by omega) ?_
  refine zl_arg (k := 2) S hl Hh1 dL_law_734 dL_law_735 dL_law_737 dL_law_738 dL_law_739 (by omega) (by omega) ?_
  refine zl_arg (k := 3) S hl Hh1 dL_law_740 dL_law_741 dL_law_743 dL_law_744 dL_law_745 (by omega) (by omega) ?_
  refine z_callV (vs := [qI (sc xs (i + 1)), qI (sc xs (i + 2)), qI (sc xs (i + 3))]) C (ct_X11_areas l g h1 124 (sc xs (i + 1)) (sc xs (i + 2)) (sc xs (i + 3)) (h2, v) e2) tw_1789 lm_X11_areas (tg_X11_areas e2) rfl hl.1 Hh1 ⟨Nat.le_of_ble_eq_true rfl, Nat.le_of_ble_eq_true rfl, (by show _ ≤ 601024; omega), (by show _ ≤ 7293034; omega)⟩ (Nat.le_of_ble_eq_true rfl) dL_law_746 rfl (fun H2 locs2 Hh2 => ?_)
  refine lv_icmp_eq (tgt := 1689) hx hb dL_law_749 (by decide) (fun _ => ?_) (fun c9 => absurd rfl c9)
  refine W.widen (k := cells + 12) (n := slots + 400) (by omega) (by omega) ?_
  exact kk h2.1 h2.2 _ _ _ hI2 Hh2 hl
set_option maxRecDepth 100000 in
set_option maxHeartbeats 4000000 in
theorem lw_14 (S : lwS p m c s b g L xs i) (hI : Inv M G) (Hh : zH g s (M, G) H locs) (hl : lv_has ls 7 (lwL g b i)) (hc : cells + 12 ≤ 601024) (hs : slots + 400 ≤ 7293034) (kk : lwK p l e s m below meth c cells slots Q g b i) : W p l e room_1 s m #[Value.ref b] below meth c H locs cells slots Q (F0 m 754 ls []) := by
  obtain ⟨h1, h2, v, e1, e2, hI2⟩ := q_largest hI (sc_i32 _ _) (sc_i32 _ _) (sc_i32 _ _)
  have C := S.1
  have hx := C.1.1
  have hb := C.1.2.1
  refine lv_aload_n hx hb dL_law_754 rfl (lv_at hl 1 rfl) ?_
  refine zl_arg (k := 1) S hl Hh dL_law_755 dL_law_756 dL_law_758 dL_law_759 dL_law_760 (by omega) (by omega) ?_
  refine zl_arg (k := 2) S hl Hh dL_law_761 dL_law_762 dL_law_764 dL_law_765 dL_law_766 (by omega) (by omega) ?_
  refine zl_arg (k := 3) S hl Hh dL_law_767 dL_law_768 dL_law_770 dL_law_771 dL_law_772 (by omega) (by omega) ?_
  refine z_callV (vs := [qI (sc xs (i + 1)), qI (sc xs (i + 2)), qI (sc xs (i + 3))]) C (ct_X9_largest l g (M, G) 0 (sc xs (i + 1)) (sc xs (i + 2)) (sc xs (i + 3)) (h1, v) e1) tw_951 lm_X9_largest (tg_X9_largest e1) rfl hl.1 Hh ⟨Nat.le_of_ble_eq_true rfl, Nat.le_of_ble_eq_true rfl, (by show _ ≤ 601024; omega), (by show _ ≤ 7293034; omega)⟩ (Nat.le_of_ble_eq_true rfl) dL_law_773 rfl (fun H1 locs1 Hh1 => ?_)
  refine lv_aload_n hx hb dL_law_776 rfl (lv_at hl 2 rfl) ?_
  refine zl_arg (k := 1) S hl Hh1 dL_law_777 dL_law_778 dL_law_780 dL_law_781 dL_law_782 (by omega) (by omega) ?_
  refine zl_arg (k := 2) S hl Hh1 dL_law_783 dL_law_784 dL_law_786 dL_law_787 dL_law_788 (by omega) (by omega) ?_
  refine zl_arg (k := 3) S hl Hh1 dL_law_789 dL_law_790 dL_law_792 dL_law_793 dL_law_794 (by omega) (by omega) ?_
  refine z_callV (vs := [qI (sc xs (i + 1)), qI (sc xs (i + 2)), qI (sc xs (i + 3))]) C (ct_X11_largest l g h1 124 (sc xs (i + 1)) (sc xs (i + 2)) (sc xs (i + 3)) (h2, v) e2) tw_1797 lm_X11_largest (tg_X11_largest e2) rfl hl.1 Hh1 ⟨Nat.le_of_ble_eq_true rfl, Nat.le_of_ble_eq_true rfl, (by show _ ≤ 601024; omega), (by show _ ≤ 7293034; omega)⟩ (Nat.le_of_ble_eq_true rfl) dL_law_795 rfl (fun H2 locs2 Hh2 => ?_)
  refine lv_icmp_eq (tgt := 1689) hx hb dL_law_798 (by decide) (fun _ => ?_) (fun c9 => absurd rfl c9)
  refine W.widen (k := cells + 12) (n := slots + 400) (by omega) (by omega) ?_
  exact kk h2.1 h2.2 _ _ _ hI2 Hh2 hl
set_option maxRecDepth 100000 in
set_option maxHeartbeats 4000000 in
theorem lw_15 (S : lwS p m c s b g L xs i) (hI : Inv M G) (Hh : zH g s (M, G) H locs) (hl : lv_has ls 7 (lwL g b i)) (hc : cells + 12 ≤ 601024) (hs : slots + 400 ≤ 7293034) (kk : lwK p l e s m below meth c cells slots Q g b i) : W p l e room_1 s m #[Value.ref b] below meth c H locs cells slots Q (F0 m 803 ls []) := by
  obtain ⟨h1, h2, v, e1, e2, hI2⟩ := q_scale (lw := (bz (sc xs (i + 3)))) hI (sc_i32 _ _) (sc_i32 _ _)
  have C := S.1
  have hx := C.1.1
  have hb := C.1.2.1
  refine lv_aload_n hx hb dL_law_803 rfl (lv_at hl 1 rfl) ?_
  refine zl_arg (k := 1) S hl Hh dL_law_804 dL_law_805 dL_law_807 dL_law_808 dL_law_809 (by omega) (by omega) ?_
  refine zl_arg (k := 2) S hl Hh dL_law_810 dL_law_811 dL_law_813 dL_law_814 dL_law_815 (by omega) (by omega) ?_
  refine zl_arg (k := 3) S hl Hh dL_law_816 dL_law_817 dL_law_819 dL_law_820 dL_law_821 (by omega) (by omega) ?_
  refine zl_bool (tgt := 829) (fin := 830) C dL_law_822 dL_law_825 dL_law_826 dL_law_829 (by decide) (by decide) (by decide) ?_
  refine z_callV (vs := [qI (sc xs (i + 1)), qI (sc xs (i + 2)), qI (bz (sc xs (i + 3)))]) C (ct_X9_scale l g (M, G) 0 (sc xs (i + 1)) (sc xs (i + 2)) (bz (sc xs (i + 3))) (h1, v) e1) tw_955 lm_X9_scale (tg_X9_scale e1) rfl hl.1 Hh ⟨Nat.le_of_ble_eq_true rfl, Nat.le_of_ble_eq_true rfl, (by show _ ≤ 601024; omega), (by show _ ≤ 7293034; omega)⟩ (Nat.le_of_ble_eq_true rfl) dL_law_830 rfl (fun H1 locs1 Hh1 => ?_)
  refine lv_aload_n hx hb dL_law_833 rfl (lv_at hl 2 rfl) ?_
  refine zl_arg (k := 1) S hl Hh1 dL_law_834 dL_law_835 dL_law_837 dL_law_838 dL_law_839 (by omega) (by omega) ?_
  refine zl_arg (k := 2) S hl Hh1 dL_law_840 dL_law_841 dL_law_843 dL_law_844 dL_law_845 (by omega) (by omega) ?_
  refine zl_arg (k := 3) S hl Hh1 dL_law_846 dL_law_847 dL_law_849 dL_law_850 dL_law_851 (by omega) (by omega) ?_
  refine zl_bool (tgt := 859) (fin := 860) C dL_law_852 dL_law_855 dL_law_856 dL_law_859 (by decide) (by decide) (by decide) ?_
  refine z_callV (vs := [qI (sc xs (i + 1)), qI (sc xs (i + 2)), qI (bz (sc xs (i + 3)))]) C (ct_X11_scale l g h1 124 (sc xs (i + 1)) (sc xs (i + 2)) (bz (sc xs (i + 3))) (h2, v) e2) tw_1801 lm_X11_scale (tg_X11_scale e2) rfl hl.1 Hh1 ⟨Nat.le_of_ble_eq_true rfl, Nat.le_of_ble_eq_true rfl, (by show _ ≤ 601024; omega), (by show _ ≤ 7293034; omega)⟩ (Nat.le_of_ble_eq_true rfl) dL_law_860 rfl (fun H2 locs2 Hh2 => ?_)
  refine z_lcmp C dL_law_863 ?_
  refine lv_if_eq (tgt := 1689) hx hb dL_law_864 (by decide) (fun _ => ?_) (fun c9 => absurd (lcmp_self v) c9)
  refine W.widen (k := cells + 12) (n := slots + 400) (by omega) (by omega) ?_
  exact kk h2.1 h2.2 _ _ _ hI2 Hh2 hl
set_option maxRecDepth 100000 in
set_option maxHeartbeats 4000000 in
theorem lw_16 (S : lwS p m c s b g L xs i) (hI : Inv M G) (Hh : zH g s (M, G) H locs) (hl : lv_has ls 7 (lwL g b i)) (hc : cells + 12 ≤ 601024) (hs : slots + 400 ≤ 7293034) (kk : lwK p l e s m below meth c cells slots Q g b i) : W p l e room_1 s m #[Value.ref b] below meth c H locs cells slots Q (F0 m 869 ls []) := by
  obtain ⟨h1, h2, v, e1, e2, hI2⟩ := q_round hI (bz_01 _)
  have C := S.1
  have hx := C.1.1
  have hb := C.1.2.1
  refine lv_aload_n hx hb dL_law_869 rfl (lv_at hl 1 rfl) ?_
  refine zl_arg (k := 1) S hl Hh dL_law_870 dL_law_871 dL_law_873 dL_law_874 dL_law_875 (by omega) (by omega) ?_
  refine zl_bool (tgt := 883) (fin := 884) C dL_law_876 dL_law_879 dL_law_880 dL_law_883 (by decide) (by decide) (by decide) ?_
  refine z_callV (vs := [qI (bz (sc xs (i + 1)))]) C (ct_X9_round l g (M, G) 0 (bz (sc xs (i + 1))) (h1, v) e1) tw_963 lm_X9_round (tg_X9_round e1) rfl hl.1 Hh ⟨Nat.le_of_ble_eq_true rfl, Nat.le_of_ble_eq_true rfl, (by show _ ≤ 601024; omega), (by show _ ≤ 7293034; omega)⟩ (Nat.le_of_ble_eq_true rfl) dL_law_884 rfl (fun H1 locs1 Hh1 => ?_)
  refine lv_aload_n hx hb dL_law_887 rfl (lv_at hl 2 rfl) ?_
  refine zl_arg (k := 1) S hl Hh1 dL_law_888 dL_law_889 dL_law_891 dL_law_892 dL_law_893 (by omega) (by omega) ?_
  refine zl_bool (tgt := 901) (fin := 902) C dL_law_894 dL_law_897 dL_law_898 dL_law_901 (by decide) (by decide) (by decide) ?_
  refine z_callV (vs := [qI (bz (sc xs (i + 1)))]) C (ct_X11_round l g h1 124 (bz (sc xs (i + 1))) (h2, v) e2) tw_1813 lm_X11_round (tg_X11_round e2) rfl hl.1 Hh1 ⟨Nat.le_of_ble_eq_true rfl, Nat.le_of_ble_eq_true rfl, (by show _ ≤ 601024; omega), (by show _ ≤ 7293034; omega)⟩ (Nat.le_of_ble_eq_true rfl) dL_law_902 rfl (fun H2 locs2 Hh2 => ?_)
  refine lv_icmp_eq (tgt := 1689) hx hb dL_law_905 (by decide) (fun _ => ?_) (fun c9 => absurd rfl c9)
  refine W.widen (k := cells + 12) (n := slots + 400) (by omega) (by omega) ?_
  exact kk h2.1 h2.2 _ _ _ hI2 Hh2 hl
set_option maxRecDepth 100000 in
set_option maxHeartbeats 4000000 in
theorem lw_17 (S : lwS p m c s b g L xs i) (hI : Inv M G) (Hh : zH g s (M, G) H locs) (hl : lv_has ls 7 (lwL g b i)) (hc : cells + 12 ≤ 601024) (hs : slots + 400 ≤ 7293034) (kk : lwK p l e s m below meth c cells slots Q g b i) : W p l e room_1 s m #[Value.ref b] below meth c H locs cells slots Q (F0 m 910 ls []) := by
  obtain ⟨h1, h2, v, e1, e2, hI2⟩ := q_origin hI (sc_i32 _ _) (sc_i32 _ _) (sc_i32 _ _)
  have C := S.1
  have hx := C.1.1
  have hb := C.1.2.1
  refine lv_aload_n hx hb dL_law_910 rfl (lv_at hl 1 rfl) ?_
  refine zl_arg (k := 1) S hl Hh dL_law_911 dL_law_912 dL_law_914 dL_law_915 dL_law_916 (by omega) (by omega) ?_
  refine zl_arg (k := 2) S hl Hh dL_law_917 dL_law_918 dL_law_920 dL_law_921 dL_law_922 (by omega) (by omega) ?_
  refine zl_arg (k := 3) S hl Hh dL_law_923 dL_law_924 dL_law_926 dL_law_927 dL_law_928 (by omega) (by omega) ?_
  refine z_callV (vs := [qI (sc xs (i + 1)), qI (sc xs (i + 2)), qI (sc xs (i + 3))]) C (ct_X9_origin l g (M, G) 0 (sc xs (i + 1)) (sc xs (i + 2)) (sc xs (i + 3)) (h1, v) e1) tw_980 lm_X9_origin (tg_X9_origin e1) rfl hl.1 Hh ⟨Nat.le_of_ble_eq_true rfl, Nat.le_of_ble_eq_true rfl, (by show _ ≤ 601024; omega), (by show _ ≤ 7293034; omega)⟩ (Nat.le_of_ble_eq_true rfl) dL_law_929 rfl (fun H1 locs1 Hh1 => ?_)
  refine lv_aload_n hx hb dL_law_932 rfl (lv_at hl 2 rfl) ?_
  refine zl_arg (k := 1) S hl Hh1 dL_law_933 dL_law_934 dL_law_936 dL_law_937 dL_law_938 (by omega) (by omega) ?_
  refine zl_arg (k := 2) S hl Hh1 dL_law_939 dL_law_940 dL_law_942 dL_law_943 dL_law_944 (by omega) (by omega) ?_
  refine zl_arg (k := 3) S hl Hh1 dL_law_945 dL_law_946 dL_law_948 dL_law_949 dL_law_950 (by omega) (by omega) ?_
  refine z_callV (vs := [qI (sc xs (i + 1)), qI (sc xs (i + 2)), qI (sc xs (i + 3))]) C (ct_X11_origin l g h1 124 (sc xs (i + 1)) (sc xs (i + 2)) (sc xs (i + 3)) (h2, v) e2) tw_1826 lm_X11_origin (tg_X11_origin e2) rfl hl.1 Hh1 ⟨Nat.le_of_ble_eq_true rfl, Nat.le_of_ble_eq_true rfl, (by show _ ≤ 601024; omega), (by show _ ≤ 7293034; omega)⟩ (Nat.le_of_ble_eq_true rfl) dL_law_951 rfl (fun H2 locs2 Hh2 => ?_)
  refine lv_icmp_eq (tgt := 1689) hx hb dL_law_954 (by decide) (fun _ => ?_) (fun c9 => absurd rfl c9)
  refine W.widen (k := cells + 12) (n := slots + 400) (by omega) (by omega) ?_
  exact kk h2.1 h2.2 _ _ _ hI2 Hh2 hl
set_option maxRecDepth 100000 in
set_option maxHeartbeats 4000000 in
theorem lw_18 (S : lwS p m c s b g L xs i) (hI : Inv M G) (Hh : zH g s (M, G) H locs) (hl : lv_has ls 7 (lwL g b i)) (hc : cells + 12 ≤ 601024) (hs : slots + 400 ≤ 7293034) (kk : lwK p l e s m below meth c cells slots Q g b i) : W p l e room_1 s m #[Value.ref b] below meth c H locs cells slots Q (F0 m 959 ls []) := by
  obtain ⟨h1, h2, v, e1, e2, hI2⟩ := q_blame hI (sc_i32 _ _) (sc_i32 _ _) (sc_i32 _ _)
  have C := S.1
  have hx := C.1.1
  have hb := C.1.2.1
  refine lv_aload_n hx hb dL_law_959 rfl (lv_at hl 1 rfl) ?_
  refine zl_arg (k := 1) S hl Hh dL_law_960 dL_law_961 dL_law_963 dL_law_964 dL_law_965 (by omega) (by omega) ?_
  refine zl_arg (k := 2) S hl Hh dL_law_966 dL_law_967 dL_law_969 dL_law_970 dL_law_971 (by omega) (by omega) ?_
  refine zl_arg (k := 3) S hl Hh dL_law_972 dL_law_973 dL_law_975 dL_law_976 dL_law_977 (by omega) (by omega) ?_
  refine z_callV (vs := [qI (sc xs (i + 1)), qI (sc xs (i + 2)), qI (sc xs (i + 3))]) C (ct_X9_blame l g (M, G) 0 (sc xs (i + 1)) (sc xs (i + 2)) (sc xs (i + 3)) (h1, v) e1) tw_995 lm_X9_blame (tg_X9_blame e1) rfl hl.1 Hh ⟨Nat.le_of_ble_eq_true rfl, Nat.le_of_ble_eq_true rfl, (by show _ ≤ 601024; omega), (by show _ ≤ 7293034; omega)⟩ (Nat.le_of_ble_eq_true rfl) dL_law_978 rfl (fun H1 locs1 Hh1 => ?_)
  refine lv_aload_n hx hb dL_law_981 rfl (lv_at hl 2 rfl) ?_
  refine zl_arg (k := 1) S hl Hh1 dL_law_982 dL_law_983 dL_law_985 dL_law_986 dL_law_987 (by omega) (by omega) ?_
  refine zl_arg (k := 2) S hl Hh1 dL_law_988 dL_law_989 dL_law_991 dL_law_992 dL_law_993 (by omega) (by omega) ?_
  refine zl_arg (k := 3) S hl Hh1 dL_law_994 dL_law_995 dL_law_997 dL_law_998 dL_law_999 (by omega) (by omega) ?_
  refine z_callV (vs := [qI (sc xs (i + 1)), qI (sc xs (i + 2)), qI (sc xs (i + 3))]) C (ct_X11_blame l g h1 124 (sc xs (i + 1)) (sc xs (i + 2)) (sc xs (i + 3)) (h2, v) e2) tw_1838 lm_X11_blame (tg_X11_blame e2) rfl hl.1 Hh1 ⟨Nat.le_of_ble_eq_true rfl, Nat.le_of_ble_eq_true rfl, (by show _ ≤ 601024; omega), (by show _ ≤ 7293034; omega)⟩ (Nat.le_of_ble_eq_true rfl) dL_law_1000 rfl (fun H2 locs2 Hh2 => ?_)
  refine lv_icmp_eq (tgt := 1689) hx hb dL_law_1003 (by decide) (fun _ => ?_) (fun c9 => absurd rfl c9)
  refine W.widen (k := cells + 12) (n := slots + 400) (by omega) (by omega) ?_
  exact kk h2.1 h2.2 _ _ _ hI2 Hh2 hl
set_option maxRecDepth 100000 in
set_option maxHeartbeats 4000000 in
theorem lw_19 (S : lwS p m c s b g L xs i) (hI : Inv M G) (Hh : zH g s (M, G) H locs) (hl : lv_has ls 7 (lwL g b i)) (hc : cells + 12 ≤ 601024) (hs : slots + 400 ≤ 7293034) (kk : lwK p l e s m below meth c cells slots Q g b i) : W p l e room_1 s m #[Value.ref b] below meth c H locs cells slots Q (F0 m 1008 ls []) := by
  obtain ⟨h1, h2, v, e1, e2, hI2⟩ := q_loop hI (sc_i32 _ _)
  have C := S.1
  have hx := C.1.1
  have hb := C.1.2.1
  refine lv_aload_n hx hb dL_law_1008 rfl (lv_at hl 1 rfl) ?_
  refine zl_arg (k := 1) S hl Hh dL_law_1009 dL_law_1010 dL_law_1012 dL_law_1013 dL_law_1014 (by omega) (by omega) ?_
  refine z_callV (vs := [qI (sc xs (i + 1))]) C (ct_X9_loop l g (M, G) 0 (sc xs (i + 1)) (h1, v) e1) tw_1000 lm_X9_loop (tg_X9_loop e1) rfl hl.1 Hh ⟨Nat.le_of_ble_eq_true rfl, Nat.le_of_ble_eq_true rfl, (by show _ ≤ 601024; omega), (by show _ ≤ 7293034; omega)⟩ (Nat.le_of_ble_eq_true rfl) dL_law_1015 rfl (fun H1 locs1 Hh1 => ?_)
  refine lv_aload_n hx hb dL_law_1018 rfl (lv_at hl 2 rfl) ?_
  refine zl_arg (k := 1) S hl Hh1 dL_law_1019 dL_law_1020 dL_law_1022 dL_law_1023 dL_law_1024 (by omega) (by omega) ?_
  refine z_callV (vs := [qI (sc xs (i + 1))]) C (ct_X11_loop l g h1 124 (sc xs (i + 1)) (h2, v) e2) tw_1842 lm_X11_loop (tg_X11_loop e2) rfl hl.1 Hh1 ⟨Nat.le_of_ble_eq_true rfl, Nat.le_of_ble_eq_true rfl, (by show _ ≤ 601024; omega), (by show _ ≤ 7293034; omega)⟩ (Nat.le_of_ble_eq_true rfl) dL_law_1025 rfl (fun H2 locs2 Hh2 => ?_)
  refine lv_icmp_eq (tgt := 1689) hx hb dL_law_1028 (by decide) (fun _ => ?_) (fun c9 => absurd rfl c9)
  refine W.widen (k := cells + 12) (n := slots + 400) (by omega) (by omega) ?_
  exact kk h2.1 h2.2 _ _ _ hI2 Hh2 hl
set_option maxRecDepth 100000 in
set_option maxHeartbeats 4000000 in
theorem lw_20 (S : lwS p m c s b g L xs i) (hI : Inv M G) (Hh : zH g s (M, G) H locs) (hl : lv_has ls 7 (lwL g b i)) (hc : cells + 12 ≤ 601024) (hs : slots + 400 ≤ 7293034) (kk : lwK p l e s m below meth c cells slots Q g b i) : W p l e room_1 s m #[Value.ref b] below meth c H locs cells slots Q (F0 m 1033 ls []) := by
  obtain ⟨h1, h2, v, e1, e2, hI2⟩ := q_depth hI (sc_i32 _ _)
  have C := S.1
  have hx := C.1.1
  have hb := C.1.2.1
  refine lv_aload_n hx hb dL_law_1033 rfl (lv_at hl 1 rfl) ?_
  refine zl_arg (k := 1) S hl Hh dL_law_1034 dL_law_1035 dL_law_1037 dL_law_1038 dL_law_1039 (by omega) (by omega) ?_
  refine z_callV (vs := [qI (sc xs (i + 1))]) C (ct_X9_depth l g (M, G) 0 (sc xs (i + 1)) (h1, v) e1) tw_1004 lm_X9_depth (tg_X9_depth e1) rfl hl.1 Hh ⟨Nat.le_of_ble_eq_true rfl, Nat.le_of_ble_eq_true rfl, (by show _ ≤ 601024; omega), (by show _ ≤ 7293034; omega)⟩ (Nat.le_of_ble_eq_true rfl) dL_law_1040 rfl (fun H1 locs1 Hh1 => ?_)
  refine lv_aload_n hx hb dL_law_1043 rfl (lv_at hl 2 rfl) ?_
  refine zl_arg (k := 1) S hl Hh1 dL_law_1044 dL_law_1045 dL_law_1047 dL_law_1048 dL_law_1049 (by omega) (by omega) ?_
  refine z_callV (vs := [qI (sc xs (i + 1))]) C (ct_X11_depth l g h1 124 (sc xs (i + 1)) (h2, v) e2) tw_1846 lm_X11_depth (tg_X11_depth e2) rfl hl.1 Hh1 ⟨Nat.le_of_ble_eq_true rfl, Nat.le_of_ble_eq_true rfl, (by show _ ≤ 601024; omega), (by show _ ≤ 7293034; omega)⟩ (Nat.le_of_ble_eq_true rfl) dL_law_1050 rfl (fun H2 locs2 Hh2 => ?_)
  refine lv_icmp_eq (tgt := 1689) hx hb dL_law_1053 (by decide) (fun _ => ?_) (fun c9 => absurd rfl c9)
  refine W.widen (k := cells + 12) (n := slots + 400) (by omega) (by omega) ?_
  exact kk h2.1 h2.2 _ _ _ hI2 Hh2 hl
set_option maxRecDepth 100000 in
set_option maxHeartbeats 4000000 in
theorem lw_21 (S : lwS p m c s b g L xs i) (hI : Inv M G) (Hh : zH g s (M, G) H locs) (hl : lv_has ls 7 (lwL g b i)) (hc : cells + 12 ≤ 601024) (hs : slots + 400 ≤ 7293034) (kk : lwK p l e s m below meth c cells slots Q g b i) : W p l e room_1 s m #[Value.ref b] below meth c H locs cells slots Q (F0 m 1058 ls []) := by
  obtain ⟨h1, h2, v, e1, e2, hI2⟩ := q_strokes hI (sc_i32 _ _) (sc_i32 _ _) (sc_i32 _ _) (sc_i32 _ _) (sc_i32 _ _) (sc_i32 _ _)
  have C := S.1
  have hx := C.1.1
  have hb := C.1.2.1
  refine lv_aload_n hx hb dL_law_1058 rfl (lv_at hl 1 rfl) ?_
  refine zl_arg (k := 1) S hl Hh dL_law_1059 dL_law_1060 dL_law_1062 dL_law_1063 dL_law_1064 (by omega) (by omega) ?_
  refine zl_arg (k := 2) S hl Hh dL_law_1065 dL_law_1066 dL_law_1068 dL_law_1069 dL_law_1070 (by omega) (by omega) ?_
  refine zl_arg (k := 3) S hl Hh dL_law_1071 dL_law_1072 dL_law_1074 dL_law_1075 dL_law_1076 (by omega) (by omega) ?_
  refine zl_arg (k := 4) S hl Hh dL_law_1077 dL_law_1078 dL_law_1080 dL_law_1081 dL_law_1082 (by omega) (by omega) ?_
  refine zl_arg (k := 5) S hl Hh dL_law_1083 dL_law_1084 dL_law_1086 dL_law_1087 dL_law_1088 (by omega) (by omega) ?_
  refine zl_argB (k := 6) S hl Hh dL_law_1089 dL_law_1090 dL_law_1092 rfl dL_law_1094 dL_law_1095 (by omega) (by omega) ?_
  refine z_callV (vs := [qI (sc xs (i + 1)), qI (sc xs (i + 2)), qI (sc xs (i + 3)), qI (sc xs (i + 4)), qI (sc xs (i + 5)), qI (sc xs (i + 6))]) C (ct_X9_strokes l g (M, G) 0 (sc xs (i + 1)) (sc xs (i + 2)) (sc xs (i + 3)) (sc xs (i + 4)) (sc xs (i + 5)) (sc xs (i + 6)) (h1, v) e1) tw_1008 lm_X9_strokes (tg_X9_strokes e1) rfl hl.1 Hh ⟨Nat.le_of_ble_eq_true rfl, Nat.le_of_ble_eq_true rfl, (by show _ ≤ 601024; omega), (by show _ ≤ 7293034; omega)⟩ (Nat.le_of_ble_eq_true rfl) dL_law_1096 rfl (fun H1 locs1 Hh1 => ?_)
  refine lv_aload_n hx hb dL_law_1099 rfl (lv_at hl 2 rfl) ?_
  refine zl_arg (k := 1) S hl Hh1 dL_law_1100 dL_law_1101 dL_law_1103 dL_law_1104 dL_law_1105 (by omega) (by omega) ?_
  refine zl_arg (k := 2) S hl Hh1 dL_law_1106 dL_law_1107 dL_law_1109 dL_law_1110 dL_law_1111 (by omega) (by omega) ?_
  refine zl_arg (k := 3) S hl Hh1 dL_law_1112 dL_law_1113 dL_law_1115 dL_law_1116 dL_law_1117 (by omega) (by omega) ?_
  refine zl_arg (k := 4) S hl Hh1 dL_law_1118 dL_law_1119 dL_law_1121 dL_law_1122 dL_law_1123 (by omega) (by omega) ?_
  refine zl_arg (k := 5) S hl Hh1 dL_law_1124 dL_law_1125 dL_law_1127 dL_law_1128 dL_law_1129 (by omega) (by omega) ?_
  refine zl_argB (k := 6) S hl Hh1 dL_law_1130 dL_law_1131 dL_law_1133 rfl dL_law_1135 dL_law_1136 (by omega) (by omega) ?_
  refine z_callV (vs := [qI (sc xs (i + 1)), qI (sc xs (i + 2)), qI (sc xs (i + 3)), qI (sc xs (i + 4)), qI (sc xs (i + 5)), qI (sc xs (i + 6))]) C (ct_X11_strokes l g h1 124 (sc xs (i + 1)) (sc xs (i + 2)) (sc xs (i + 3)) (sc xs (i + 4)) (sc xs (i + 5)) (sc xs (i + 6)) (h2, v) e2) tw_1850 lm_X11_strokes (tg_X11_strokes e2) rfl hl.1 Hh1 ⟨Nat.le_of_ble_eq_true rfl, Nat.le_of_ble_eq_true rfl, (by show _ ≤ 601024; omega), (by show _ ≤ 7293034; omega)⟩ (Nat.le_of_ble_eq_true rfl) dL_law_1137 rfl (fun H2 locs2 Hh2 => ?_)
  refine lv_icmp_eq (tgt := 1689) hx hb dL_law_1140 (by decide) (fun _ => ?_) (fun c9 => absurd rfl c9)
  refine W.widen (k := cells + 12) (n := slots + 400) (by omega) (by omega) ?_
  exact kk h2.1 h2.2 _ _ _ hI2 Hh2 hl
set_option maxRecDepth 100000 in
set_option maxHeartbeats 4000000 in
theorem lw_22 (S : lwS p m c s b g L xs i) (hI : Inv M G) (Hh : zH g s (M, G) H locs) (hl : lv_has ls 7 (lwL g b i)) (hc : cells + 12 ≤ 601024) (hs : slots + 400 ≤ 7293034) (kk : lwK p l e s m below meth c cells slots Q g b i) : W p l e room_1 s m #[Value.ref b] below meth c H locs cells slots Q (F0 m 1145 ls []) := by
  obtain ⟨h1, h2, v, e1, e2, hI2⟩ := q_strokeAt hI (sc_i32 _ _) (sc_i32 _ _) (sc_i32 _ _) (sc_i32 _ _) (sc_i32 _ _) (sc_i32 _ _) (sc_i32 _ _)
  have C := S.1
  have hx := C.1.1
  have hb := C.1.2.1
  refine lv_aload_n hx hb dL_law_1145 rfl (lv_at hl 1 rfl) ?_
  refine zl_arg (k := 1) S hl Hh dL_law_1146 dL_law_1147 dL_law_1149 dL_law_1150 dL_law_1151 (by omega) (by omega) ?_
  refine zl_arg (k := 2) S hl Hh dL_law_1152 dL_law_1153 dL_law_1155 dL_law_1156 dL_law_1157 (by omega) (by omega) ?_
  refine zl_arg (k := 3) S hl Hh dL_law_1158 dL_law_1159 dL_law_1161 dL_law_1162 dL_law_1163 (by omega) (by omega) ?_
  refine zl_arg (k := 4) S hl Hh dL_law_1164 dL_law_1165 dL_law_1167 dL_law_1168 dL_law_1169 (by omega) (by omega) ?_
  refine zl_arg (k := 5) S hl Hh dL_law_1170 dL_law_1171 dL_law_1173 dL_law_1174 dL_law_1175 (by omega) (by omega) ?_
  refine zl_argB (k := 6) S hl Hh dL_law_1176 dL_law_1177 dL_law_1179 rfl dL_law_1181 dL_law_1182 (by omega) (by omega) ?_
  refine zl_argB (k := 7) S hl Hh dL_law_1183 dL_law_1184 dL_law_1186 rfl dL_law_1188 dL_law_1189 (by omega) (by omega) ?_
  refine z_callV (vs := [qI (sc xs (i + 1)), qI (sc xs (i + 2)), qI (sc xs (i + 3)), qI (sc xs (i + 4)), qI (sc xs (i + 5)), qI (sc xs (i + 6)), qI (sc xs (i + 7))]) C (ct_X9_strokeAt l g (M, G) 0 (sc xs (i + 1)) (sc xs (i + 2)) (sc xs (i + 3)) (sc xs (i + 4)) (sc xs (i + 5)) (sc xs (i + 6)) (sc xs (i + 7)) (h1, v) e1) tw_1087 lm_X9_strokeAt (tg_X9_strokeAt e1) rfl hl.1 Hh ⟨Nat.le_of_ble_eq_true rfl, Nat.le_of_ble_eq_true rfl, (by show _ ≤ 601024; omega), (by show _ ≤ 7293034; omega)⟩ (Nat.le_of_ble_eq_true rfl) dL_law_1190 rfl (fun H1 locs1 Hh1 => ?_)
  refine lv_aload_n hx hb dL_law_1193 rfl (lv_at hl 2 rfl) ?_
  refine zl_arg (k := 1) S hl Hh1 dL_law_1194 dL_law_1195 dL_law_1197 dL_law_1198 dL_law_1199 (by omega) (by omega) ?_
  refine zl_arg (k := 2) S hl Hh1 dL_law_1200 dL_law_1201 dL_law_1203 dL_law_1204 dL_law_1205 (by omega) (by omega) ?_
  refine zl_arg (k := 3) S hl Hh1 dL_law_1206 dL_law_1207 dL_law_1209 dL_law_1210 dL_law_1211 (by omega) (by omega) ?_
  refine zl_arg (k := 4) S hl Hh1 dL_law_1212 dL_law_1213 dL_law_1215 dL_law_1216 dL_law_1217 (by omega) (by omega) ?_
  refine zl_arg (k := 5) S hl Hh1 dL_law_1218 dL_law_1219 dL_law_1221 dL_law_1222 dL_law_1223 (by omega) (by omega) ?_
  refine zl_argB (k := 6) S hl Hh1 dL_law_1224 dL_law_1225 dL_law_1227 rfl dL_law_1229 dL_law_1230 (by omega) (by omega) ?_
  refine zl_argB (k := 7) S hl Hh1 dL_law_1231 dL_law_1232 dL_law_1234 rfl dL_law_1236 dL_law_1237 (by omega) (by omega) ?_
  refine z_callV (vs := [qI (sc xs (i + 1)), qI (sc xs (i + 2)), qI (sc xs (i + 3)), qI (sc xs (i + 4)), qI (sc xs (i + 5)), qI (sc xs (i + 6)), qI (sc xs (i + 7))]) C (ct_X11_strokeAt l g h1 124 (sc xs (i + 1)) (sc xs (i + 2)) (sc xs (i + 3)) (sc xs (i + 4)) (sc xs (i + 5)) (sc xs (i + 6)) (sc xs (i + 7)) (h2, v) e2) tw_1878 lm_X11_strokeAt (tg_X11_strokeAt e2) rfl hl.1 Hh1 ⟨Nat.le_of_ble_eq_true rfl, Nat.le_of_ble_eq_true rfl, (by show _ ≤ 601024; omega), (by show _ ≤ 7293034; omega)⟩ (Nat.le_of_ble_eq_true rfl) dL_law_1238 rfl (fun H2 locs2 Hh2 => ?_)
  refine lv_icmp_eq (tgt := 1689) hx hb dL_law_1241 (by decide) (fun _ => ?_) (fun c9 => absurd rfl c9)
  refine W.widen (k := cells + 12) (n := slots + 400) (by omega) (by omega) ?_
  exact kk h2.1 h2.2 _ _ _ hI2 Hh2 hl
set_option maxRecDepth 100000 in
set_option maxHeartbeats 4000000 in
theorem lw_23 (S : lwS p m c s b g L xs i) (hI : Inv M G) (Hh : zH g s (M, G) H locs) (hl : lv_has ls 7 (lwL g b i)) (hc : cells + 12 ≤ 601024) (hs : slots + 400 ≤ 7293034) (kk : lwK p l e s m below meth c cells slots Q g b i) : W p l e room_1 s m #[Value.ref b] below meth c H locs cells slots Q (F0 m 1246 ls []) := by
  obtain ⟨h1, h2, v, e1, e2, hI2⟩ := q_ink hI (sc_i32 _ _) (sc_i32 _ _) (sc_i32 _ _)
  have C := S.1
  have hx := C.1.1
  have hb := C.1.2.1
  refine lv_aload_n hx hb dL_law_1246 rfl (lv_at hl 1 rfl) ?_
  refine zl_arg (k := 1) S hl Hh dL_law_1247 dL_law_1248 dL_law_1250 dL_law_1251 dL_law_1252 (by omega) (by omega) ?_
  refine zl_arg (k := 2) S hl Hh dL_law_1253 dL_law_1254 dL_law_1256 dL_law_1257 dL_law_1258 (by omega) (by omega) ?_
  refine zl_arg (k := 3) S hl Hh dL_law_1259 dL_law_1260 dL_law_1262 dL_law_1263 dL_law_1264 (by omega) (by omega) ?_
  refine z_callV (vs := [qI (sc xs (i + 1)), qI (sc xs (i + 2)), qI (sc xs (i + 3))]) C (ct_X9_ink l g (M, G) 0 (sc xs (i + 1)) (sc xs (i + 2)) (sc xs (i + 3)) (h1, v) e1) tw_1091 lm_X9_ink (tg_X9_ink e1) rfl hl.1 Hh ⟨Nat.le_of_ble_eq_true rfl, Nat.le_of_ble_eq_true rfl, (by show _ ≤ 601024; omega), (by show _ ≤ 7293034; omega)⟩ (Nat.le_of_ble_eq_true rfl) dL_law_1265 rfl (fun H1 locs1 Hh1 => ?_)
  refine lv_aload_n hx hb dL_law_1268 rfl (lv_at hl 2 rfl) ?_
  refine zl_arg (k := 1) S hl Hh1 dL_law_1269 dL_law_1270 dL_law_1272 dL_law_1273 dL_law_1274 (by omega) (by omega) ?_
  refine zl_arg (k := 2) S hl Hh1 dL_law_1275 dL_law_1276 dL_law_1278 dL_law_1279 dL_law_1280 (by omega) (by omega) ?_
  refine zl_arg (k := 3) S hl Hh1 dL_law_1281 dL_law_1282 dL_law_1284 dL_law_1285 dL_law_1286 (by omega) (by omega) ?_
  refine z_callV (vs := [qI (sc xs (i + 1)), qI (sc xs (i + 2)), qI (sc xs (i + 3))]) C (ct_X11_ink l g h1 124 (sc xs (i + 1)) (sc xs (i + 2)) (sc xs (i + 3)) (h2, v) e2) tw_1882 lm_X11_ink (tg_X11_ink e2) rfl hl.1 Hh1 ⟨Nat.le_of_ble_eq_true rfl, Nat.le_of_ble_eq_true rfl, (by show _ ≤ 601024; omega), (by show _ ≤ 7293034; omega)⟩ (Nat.le_of_ble_eq_true rfl) dL_law_1287 rfl (fun H2 locs2 Hh2 => ?_)
  refine lv_icmp_eq (tgt := 1689) hx hb dL_law_1290 (by decide) (fun _ => ?_) (fun c9 => absurd rfl c9)
  refine W.widen (k := cells + 12) (n := slots + 400) (by omega) (by omega) ?_
  exact kk h2.1 h2.2 _ _ _ hI2 Hh2 hl
set_option maxRecDepth 100000 in
set_option maxHeartbeats 4000000 in
theorem lw_24 (S : lwS p m c s b g L xs i) (hI : Inv M G) (Hh : zH g s (M, G) H locs) (hl : lv_has ls 7 (lwL g b i)) (hc : cells + 12 ≤ 601024) (hs : slots + 400 ≤ 7293034) (kk : lwK p l e s m below meth c cells slots Q g b i) : W p l e room_1 s m #[Value.ref b] below meth c H locs cells slots Q (F0 m 1295 ls []) := by
  obtain ⟨h1, h2, v, e1, e2, hI2⟩ := q_judge hI
  have C := S.1
  have hx := C.1.1
  have hb := C.1.2.1
  refine lv_aload_n hx hb dL_law_1295 rfl (lv_at hl 1 rfl) ?_
  refine z_callV (vs := []) C (ct_X9_judge l g (M, G) 0  (h1, v) e1) tw_1110 lm_X9_judge (tg_X9_judge e1) rfl hl.1 Hh ⟨Nat.le_of_ble_eq_true rfl, Nat.le_of_ble_eq_true rfl, (by show _ ≤ 601024; omega), (by show _ ≤ 7293034; omega)⟩ (Nat.le_of_ble_eq_true rfl) dL_law_1296 rfl (fun H1 locs1 Hh1 => ?_)
  refine lv_aload_n hx hb dL_law_1299 rfl (lv_at hl 2 rfl) ?_
  refine z_callV (vs := []) C (ct_X11_judge l g h1 124  (h2, v) e2) tw_1890 lm_X11_judge (tg_X11_judge e2) rfl hl.1 Hh1 ⟨Nat.le_of_ble_eq_true rfl, Nat.le_of_ble_eq_true rfl, (by show _ ≤ 601024; omega), (by show _ ≤ 7293034; omega)⟩ (Nat.le_of_ble_eq_true rfl) dL_law_1300 rfl (fun H2 locs2 Hh2 => ?_)
  refine lv_icmp_eq (tgt := 1689) hx hb dL_law_1303 (by decide) (fun _ => ?_) (fun c9 => absurd rfl c9)
  refine W.widen (k := cells + 12) (n := slots + 400) (by omega) (by omega) ?_
  exact kk h2.1 h2.2 _ _ _ hI2 Hh2 hl
set_option maxRecDepth 100000 in
set_option maxHeartbeats 4000000 in
theorem lw_25 (S : lwS p m c s b g L xs i) (hI : Inv M G) (Hh : zH g s (M, G) H locs) (hl : lv_has ls 7 (lwL g b i)) (hc : cells + 12 ≤ 601024) (hs : slots + 400 ≤ 7293034) (kk : lwK p l e s m below meth c cells slots Q g b i) : W p l e room_1 s m #[Value.ref b] below meth c H locs cells slots Q (F0 m 1308 ls []) := by
  obtain ⟨h1, h2, v, e1, e2, hI2⟩ := q_fits hI
  have C := S.1
  have hx := C.1.1
  have hb := C.1.2.1
  refine lv_aload_n hx hb dL_law_1308 rfl (lv_at hl 1 rfl) ?_
  refine z_callV (vs := []) C (ct_X9_fits l g (M, G) 0  (h1, v) e1) tw_1119 lm_X9_fits (tg_X9_fits e1) rfl hl.1 Hh ⟨Nat.le_of_ble_eq_true rfl, Nat.le_of_ble_eq_true rfl, (by show _ ≤ 601024; omega), (by show _ ≤ 7293034; omega)⟩ (Nat.le_of_ble_eq_true rfl) dL_law_1309 rfl (fun H1 locs1 Hh1 => ?_)
  refine lv_aload_n hx hb dL_law_1312 rfl (lv_at hl 2 rfl) ?_
  refine z_callV (vs := []) C (ct_X11_fits l g h1 124  (h2, v) e2) tw_1906 lm_X11_fits (tg_X11_fits e2) rfl hl.1 Hh1 ⟨Nat.le_of_ble_eq_true rfl, Nat.le_of_ble_eq_true rfl, (by show _ ≤ 601024; omega), (by show _ ≤ 7293034; omega)⟩ (Nat.le_of_ble_eq_true rfl) dL_law_1313 rfl (fun H2 locs2 Hh2 => ?_)
  refine lv_icmp_eq (tgt := 1689) hx hb dL_law_1316 (by decide) (fun _ => ?_) (fun c9 => absurd rfl c9)
  refine W.widen (k := cells + 12) (n := slots + 400) (by omega) (by omega) ?_
  exact kk h2.1 h2.2 _ _ _ hI2 Hh2 hl
end LC
