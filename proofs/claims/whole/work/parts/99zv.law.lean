/-! the law's walk: words, rows (by program: gen/law.py) -/
theorem tw_495 : (Jvm.Cond.methodLink "NineMapsLaw" (19 : Nat) ({ cls := "NineMaps", name := "feed", desc := "(IIIII)I" } : Jvm.MethodName)) ∈ TW := tw_in 495 (by decide +kernel) rfl
theorem tw_498 : (Jvm.Cond.code ({ cls := "NineMaps", name := "feed", desc := "(IIIII)I" } : Jvm.MethodName) prog_1_method_2_code (6 : Nat) (Option.some Jvm.ClassFile.FieldType.int)) ∈ TW := tw_in 498 (by decide +kernel) rfl
theorem tw_496 : (Jvm.Cond.instanceMethod ({ cls := "NineMaps", name := "feed", desc := "(IIIII)I" } : Jvm.MethodName)) ∈ TW := tw_in 496 (by decide +kernel) rfl
theorem tw_497 : (Jvm.Cond.selects "NineMaps" ({ cls := "NineMaps", name := "feed", desc := "(IIIII)I" } : Jvm.MethodName) ({ cls := "NineMaps", name := "feed", desc := "(IIIII)I" } : Jvm.MethodName)) ∈ TW := tw_in 497 (by decide +kernel) rfl
theorem tw_1443 : (Jvm.Cond.methodLink "NineMapsLaw" (23 : Nat) ({ cls := "NineMapsModel", name := "feed", desc := "(IIIII)I" } : Jvm.MethodName)) ∈ TW := tw_in 1443 (by decide +kernel) rfl
theorem tw_1446 : (Jvm.Cond.code ({ cls := "NineMapsModel", name := "feed", desc := "(IIIII)I" } : Jvm.MethodName) prog_12_method_40_code (8 : Nat) (Option.some Jvm.ClassFile.FieldType.int)) ∈ TW := tw_in 1446 (by decide +kernel) rfl
theorem tw_1444 : (Jvm.Cond.instanceMethod ({ cls := "NineMapsModel", name := "feed", desc := "(IIIII)I" } : Jvm.MethodName)) ∈ TW := tw_in 1444 (by decide +kernel) rfl
theorem tw_1445 : (Jvm.Cond.selects "NineMapsModel" ({ cls := "NineMapsModel", name := "feed", desc := "(IIIII)I" } : Jvm.MethodName) ({ cls := "NineMapsModel", name := "feed", desc := "(IIIII)I" } : Jvm.MethodName)) ∈ TW := tw_in 1445 (by decide +kernel) rfl
theorem tw_503 : (Jvm.Cond.methodLink "NineMapsLaw" (24 : Nat) ({ cls := "NineMaps", name := "ring", desc := "(I)I" } : Jvm.MethodName)) ∈ TW := tw_in 503 (by decide +kernel) rfl
theorem tw_506 : (Jvm.Cond.code ({ cls := "NineMaps", name := "ring", desc := "(I)I" } : Jvm.MethodName) prog_1_method_4_code (5 : Nat) (Option.some Jvm.ClassFile.FieldType.int)) ∈ TW := tw_in 506 (by decide +kernel) rfl
theorem tw_504 : (Jvm.Cond.instanceMethod ({ cls := "NineMaps", name := "ring", desc := "(I)I" } : Jvm.MethodName)) ∈ TW := tw_in 504 (by decide +kernel) rfl
theorem tw_505 : (Jvm.Cond.selects "NineMaps" ({ cls := "NineMaps", name := "ring", desc := "(I)I" } : Jvm.MethodName) ({ cls := "NineMaps", name := "ring", desc := "(I)I" } : Jvm.MethodName)) ∈ TW := tw_in 505 (by decide +kernel) rfl
theorem tw_1447 : (Jvm.Cond.methodLink "NineMapsLaw" (27 : Nat) ({ cls := "NineMapsModel", name := "ring", desc := "(I)I" } : Jvm.MethodName)) ∈ TW := tw_in 1447 (by decide +kernel) rfl
theorem tw_1450 : (Jvm.Cond.code ({ cls := "NineMapsModel", name := "ring", desc := "(I)I" } : Jvm.MethodName) prog_12_method_41_code (4 : Nat) (Option.some Jvm.ClassFile.FieldType.int)) ∈ TW := tw_in 1450 (by decide +kernel) rfl
theorem tw_1448 : (Jvm.Cond.instanceMethod ({ cls := "NineMapsModel", name := "ring", desc := "(I)I" } : Jvm.MethodName)) ∈ TW := tw_in 1448 (by decide +kernel) rfl
theorem tw_1449 : (Jvm.Cond.selects "NineMapsModel" ({ cls := "NineMapsModel", name := "ring", desc := "(I)I" } : Jvm.MethodName) ({ cls := "NineMapsModel", name := "ring", desc := "(I)I" } : Jvm.MethodName)) ∈ TW := tw_in 1449 (by decide +kernel) rfl
theorem tw_772 : (Jvm.Cond.methodLink "NineMapsLaw" (28 : Nat) ({ cls := "NineMaps", name := "fault", desc := "()I" } : Jvm.MethodName)) ∈ TW := tw_in 772 (by decide +kernel) rfl
theorem tw_775 : (Jvm.Cond.code ({ cls := "NineMaps", name := "fault", desc := "()I" } : Jvm.MethodName) prog_1_method_5_code (1 : Nat) (Option.some Jvm.ClassFile.FieldType.int)) ∈ TW := tw_in 775 (by decide +kernel) rfl
theorem tw_773 : (Jvm.Cond.instanceMethod ({ cls := "NineMaps", name := "fault", desc := "()I" } : Jvm.MethodName)) ∈ TW := tw_in 773 (by decide +kernel) rfl
theorem tw_774 : (Jvm.Cond.selects "NineMaps" ({ cls := "NineMaps", name := "fault", desc := "()I" } : Jvm.MethodName) ({ cls := "NineMaps", name := "fault", desc := "()I" } : Jvm.MethodName)) ∈ TW := tw_in 774 (by decide +kernel) rfl
theorem tw_1674 : (Jvm.Cond.methodLink "NineMapsLaw" (32 : Nat) ({ cls := "NineMapsModel", name := "fault", desc := "()I" } : Jvm.MethodName)) ∈ TW := tw_in 1674 (by decide +kernel) rfl
theorem tw_1677 : (Jvm.Cond.code ({ cls := "NineMapsModel", name := "fault", desc := "()I" } : Jvm.MethodName) prog_12_method_42_code (1 : Nat) (Option.some Jvm.ClassFile.FieldType.int)) ∈ TW := tw_in 1677 (by decide +kernel) rfl
theorem tw_1675 : (Jvm.Cond.instanceMethod ({ cls := "NineMapsModel", name := "fault", desc := "()I" } : Jvm.MethodName)) ∈ TW := tw_in 1675 (by decide +kernel) rfl
theorem tw_1676 : (Jvm.Cond.selects "NineMapsModel" ({ cls := "NineMapsModel", name := "fault", desc := "()I" } : Jvm.MethodName) ({ cls := "NineMapsModel", name := "fault", desc := "()I" } : Jvm.MethodName)) ∈ TW := tw_in 1676 (by decide +kernel) rfl
theorem tw_776 : (Jvm.Cond.methodLink "NineMapsLaw" (33 : Nat) ({ cls := "NineMaps", name := "where", desc := "()I" } : Jvm.MethodName)) ∈ TW := tw_in 776 (by decide +kernel) rfl
theorem tw_779 : (Jvm.Cond.code ({ cls := "NineMaps", name := "where", desc := "()I" } : Jvm.MethodName) prog_1_method_6_code (1 : Nat) (Option.some Jvm.ClassFile.FieldType.int)) ∈ TW := tw_in 779 (by decide +kernel) rfl
theorem tw_777 : (Jvm.Cond.instanceMethod ({ cls := "NineMaps", name := "where", desc := "()I" } : Jvm.MethodName)) ∈ TW := tw_in 777 (by decide +kernel) rfl
theorem tw_778 : (Jvm.Cond.selects "NineMaps" ({ cls := "NineMaps", name := "where", desc := "()I" } : Jvm.MethodName) ({ cls := "NineMaps", name := "where", desc := "()I" } : Jvm.MethodName)) ∈ TW := tw_in 778 (by decide +kernel) rfl
theorem tw_1678 : (Jvm.Cond.methodLink "NineMapsLaw" (36 : Nat) ({ cls := "NineMapsModel", name := "where", desc := "()I" } : Jvm.MethodName)) ∈ TW := tw_in 1678 (by decide +kernel) rfl
theorem tw_1681 : (Jvm.Cond.code ({ cls := "NineMapsModel", name := "where", desc := "()I" } : Jvm.MethodName) prog_12_method_43_code (1 : Nat) (Option.some Jvm.ClassFile.FieldType.int)) ∈ TW := tw_in 1681 (by decide +kernel) rfl
theorem tw_1679 : (Jvm.Cond.instanceMethod ({ cls := "NineMapsModel", name := "where", desc := "()I" } : Jvm.MethodName)) ∈ TW := tw_in 1679 (by decide +kernel) rfl
theorem tw_1680 : (Jvm.Cond.selects "NineMapsModel" ({ cls := "NineMapsModel", name := "where", desc := "()I" } : Jvm.MethodName) ({ cls := "NineMapsModel", name := "where", desc := "()I" } : Jvm.MethodName)) ∈ TW := tw_in 1680 (by decide +kernel) rfl
theorem tw_780 : (Jvm.Cond.methodLink "NineMapsLaw" (37 : Nat) ({ cls := "NineMaps", name := "copies", desc := "(I)I" } : Jvm.MethodName)) ∈ TW := tw_in 780 (by decide +kernel) rfl
theorem tw_783 : (Jvm.Cond.code ({ cls := "NineMaps", name := "copies", desc := "(I)I" } : Jvm.MethodName) prog_1_method_7_code (2 : Nat) (Option.some Jvm.ClassFile.FieldType.int)) ∈ TW := tw_in 783 (by decide +kernel) rfl
theorem tw_781 : (Jvm.Cond.instanceMethod ({ cls := "NineMaps", name := "copies", desc := "(I)I" } : Jvm.MethodName)) ∈ TW := tw_in 781 (by decide +kernel) rfl
theorem tw_782 : (Jvm.Cond.selects "NineMaps" ({ cls := "NineMaps", name := "copies", desc := "(I)I" } : Jvm.MethodName) ({ cls := "NineMaps", name := "copies", desc := "(I)I" } : Jvm.MethodName)) ∈ TW := tw_in 782 (by decide +kernel) rfl
theorem tw_1682 : (Jvm.Cond.methodLink "NineMapsLaw" (40 : Nat) ({ cls := "NineMapsModel", name := "copies", desc := "(I)I" } : Jvm.MethodName)) ∈ TW := tw_in 1682 (by decide +kernel) rfl
theorem tw_1685 : (Jvm.Cond.code ({ cls := "NineMapsModel", name := "copies", desc := "(I)I" } : Jvm.MethodName) prog_12_method_61_code (2 : Nat) (Option.some Jvm.ClassFile.FieldType.int)) ∈ TW := tw_in 1685 (by decide +kernel) rfl
theorem tw_1683 : (Jvm.Cond.instanceMethod ({ cls := "NineMapsModel", name := "copies", desc := "(I)I" } : Jvm.MethodName)) ∈ TW := tw_in 1683 (by decide +kernel) rfl
theorem tw_1684 : (Jvm.Cond.selects "NineMapsModel" ({ cls := "NineMapsModel", name := "copies", desc := "(I)I" } : Jvm.MethodName) ({ cls := "NineMapsModel", name := "copies", desc := "(I)I" } : Jvm.MethodName)) ∈ TW := tw_in 1684 (by decide +kernel) rfl
theorem tw_788 : (Jvm.Cond.methodLink "NineMapsLaw" (41 : Nat) ({ cls := "NineMaps", name := "error", desc := "(II)I" } : Jvm.MethodName)) ∈ TW := tw_in 788 (by decide +kernel) rfl
theorem tw_791 : (Jvm.Cond.code ({ cls := "NineMaps", name := "error", desc := "(II)I" } : Jvm.MethodName) prog_1_method_8_code (3 : Nat) (Option.some Jvm.ClassFile.FieldType.int)) ∈ TW := tw_in 791 (by decide +kernel) rfl
theorem tw_789 : (Jvm.Cond.instanceMethod ({ cls := "NineMaps", name := "error", desc := "(II)I" } : Jvm.MethodName)) ∈ TW := tw_in 789 (by decide +kernel) rfl
theorem tw_790 : (Jvm.Cond.selects "NineMaps" ({ cls := "NineMaps", name := "error", desc := "(II)I" } : Jvm.MethodName) ({ cls := "NineMaps", name := "error", desc := "(II)I" } : Jvm.MethodName)) ∈ TW := tw_in 790 (by decide +kernel) rfl
theorem tw_1690 : (Jvm.Cond.methodLink "NineMapsLaw" (45 : Nat) ({ cls := "NineMapsModel", name := "error", desc := "(II)I" } : Jvm.MethodName)) ∈ TW := tw_in 1690 (by decide +kernel) rfl
theorem tw_1693 : (Jvm.Cond.code ({ cls := "NineMapsModel", name := "error", desc := "(II)I" } : Jvm.MethodName) prog_12_method_62_code (3 : Nat) (Option.some Jvm.ClassFile.FieldType.int)) ∈ TW := tw_in 1693 (by decide +kernel) rfl
theorem tw_1691 : (Jvm.Cond.instanceMethod ({ cls := "NineMapsModel", name := "error", desc := "(II)I" } : Jvm.MethodName)) ∈ TW := tw_in 1691 (by decide +kernel) rfl
theorem tw_1692 : (Jvm.Cond.selects "NineMapsModel" ({ cls := "NineMapsModel", name := "error", desc := "(II)I" } : Jvm.MethodName) ({ cls := "NineMapsModel", name := "error", desc := "(II)I" } : Jvm.MethodName)) ∈ TW := tw_in 1692 (by decide +kernel) rfl
theorem tw_792 : (Jvm.Cond.methodLink "NineMapsLaw" (46 : Nat) ({ cls := "NineMaps", name := "cell", desc := "(II)I" } : Jvm.MethodName)) ∈ TW := tw_in 792 (by decide +kernel) rfl
theorem tw_795 : (Jvm.Cond.code ({ cls := "NineMaps", name := "cell", desc := "(II)I" } : Jvm.MethodName) prog_1_method_9_code (3 : Nat) (Option.some Jvm.ClassFile.FieldType.int)) ∈ TW := tw_in 795 (by decide +kernel) rfl
theorem tw_793 : (Jvm.Cond.instanceMethod ({ cls := "NineMaps", name := "cell", desc := "(II)I" } : Jvm.MethodName)) ∈ TW := tw_in 793 (by decide +kernel) rfl
theorem tw_794 : (Jvm.Cond.selects "NineMaps" ({ cls := "NineMaps", name := "cell", desc := "(II)I" } : Jvm.MethodName) ({ cls := "NineMaps", name := "cell", desc := "(II)I" } : Jvm.MethodName)) ∈ TW := tw_in 794 (by decide +kernel) rfl
theorem tw_1694 : (Jvm.Cond.methodLink "NineMapsLaw" (49 : Nat) ({ cls := "NineMapsModel", name := "cell", desc := "(II)I" } : Jvm.MethodName)) ∈ TW := tw_in 1694 (by decide +kernel) rfl
theorem tw_1697 : (Jvm.Cond.code ({ cls := "NineMapsModel", name := "cell", desc := "(II)I" } : Jvm.MethodName) prog_12_method_63_code (3 : Nat) (Option.some Jvm.ClassFile.FieldType.int)) ∈ TW := tw_in 1697 (by decide +kernel) rfl
theorem tw_1695 : (Jvm.Cond.instanceMethod ({ cls := "NineMapsModel", name := "cell", desc := "(II)I" } : Jvm.MethodName)) ∈ TW := tw_in 1695 (by decide +kernel) rfl
theorem tw_1696 : (Jvm.Cond.selects "NineMapsModel" ({ cls := "NineMapsModel", name := "cell", desc := "(II)I" } : Jvm.MethodName) ({ cls := "NineMapsModel", name := "cell", desc := "(II)I" } : Jvm.MethodName)) ∈ TW := tw_in 1696 (by decide +kernel) rfl
theorem tw_803 : (Jvm.Cond.methodLink "NineMapsLaw" (50 : Nat) ({ cls := "NineMaps", name := "first", desc := "(II)I" } : Jvm.MethodName)) ∈ TW := tw_in 803 (by decide +kernel) rfl
theorem tw_806 : (Jvm.Cond.code ({ cls := "NineMaps", name := "first", desc := "(II)I" } : Jvm.MethodName) prog_1_method_10_code (3 : Nat) (Option.some Jvm.ClassFile.FieldType.int)) ∈ TW := tw_in 806 (by decide +kernel) rfl
theorem tw_804 : (Jvm.Cond.instanceMethod ({ cls := "NineMaps", name := "first", desc := "(II)I" } : Jvm.MethodName)) ∈ TW := tw_in 804 (by decide +kernel) rfl
theorem tw_805 : (Jvm.Cond.selects "NineMaps" ({ cls := "NineMaps", name := "first", desc := "(II)I" } : Jvm.MethodName) ({ cls := "NineMaps", name := "first", desc := "(II)I" } : Jvm.MethodName)) ∈ TW := tw_in 805 (by decide +kernel) rfl
theorem tw_1706 : (Jvm.Cond.methodLink "NineMapsLaw" (53 : Nat) ({ cls := "NineMapsModel", name := "first", desc := "(II)I" } : Jvm.MethodName)) ∈ TW := tw_in 1706 (by decide +kernel) rfl
theorem tw_1709 : (Jvm.Cond.code ({ cls := "NineMapsModel", name := "first", desc := "(II)I" } : Jvm.MethodName) prog_12_method_64_code (3 : Nat) (Option.some Jvm.ClassFile.FieldType.int)) ∈ TW := tw_in 1709 (by decide +kernel) rfl
theorem tw_1707 : (Jvm.Cond.instanceMethod ({ cls := "NineMapsModel", name := "first", desc := "(II)I" } : Jvm.MethodName)) ∈ TW := tw_in 1707 (by decide +kernel) rfl
theorem tw_1708 : (Jvm.Cond.selects "NineMapsModel" ({ cls := "NineMapsModel", name := "first", desc := "(II)I" } : Jvm.MethodName) ({ cls := "NineMapsModel", name := "first", desc := "(II)I" } : Jvm.MethodName)) ∈ TW := tw_in 1708 (by decide +kernel) rfl
theorem tw_807 : (Jvm.Cond.methodLink "NineMapsLaw" (54 : Nat) ({ cls := "NineMaps", name := "after", desc := "(III)I" } : Jvm.MethodName)) ∈ TW := tw_in 807 (by decide +kernel) rfl
theorem tw_810 : (Jvm.Cond.code ({ cls := "NineMaps", name := "after", desc := "(III)I" } : Jvm.MethodName) prog_1_method_11_code (4 : Nat) (Option.some Jvm.ClassFile.FieldType.int)) ∈ TW := tw_in 810 (by decide +kernel) rfl
theorem tw_808 : (Jvm.Cond.instanceMethod ({ cls := "NineMaps", name := "after", desc := "(III)I" } : Jvm.MethodName)) ∈ TW := tw_in 808 (by decide +kernel) rfl
theorem tw_809 : (Jvm.Cond.selects "NineMaps" ({ cls := "NineMaps", name := "after", desc := "(III)I" } : Jvm.MethodName) ({ cls := "NineMaps", name := "after", desc := "(III)I" } : Jvm.MethodName)) ∈ TW := tw_in 809 (by decide +kernel) rfl
theorem tw_1710 : (Jvm.Cond.methodLink "NineMapsLaw" (58 : Nat) ({ cls := "NineMapsModel", name := "after", desc := "(III)I" } : Jvm.MethodName)) ∈ TW := tw_in 1710 (by decide +kernel) rfl
theorem tw_1713 : (Jvm.Cond.code ({ cls := "NineMapsModel", name := "after", desc := "(III)I" } : Jvm.MethodName) prog_12_method_66_code (5 : Nat) (Option.some Jvm.ClassFile.FieldType.int)) ∈ TW := tw_in 1713 (by decide +kernel) rfl
theorem tw_1711 : (Jvm.Cond.instanceMethod ({ cls := "NineMapsModel", name := "after", desc := "(III)I" } : Jvm.MethodName)) ∈ TW := tw_in 1711 (by decide +kernel) rfl
theorem tw_1712 : (Jvm.Cond.selects "NineMapsModel" ({ cls := "NineMapsModel", name := "after", desc := "(III)I" } : Jvm.MethodName) ({ cls := "NineMapsModel", name := "after", desc := "(III)I" } : Jvm.MethodName)) ∈ TW := tw_in 1712 (by decide +kernel) rfl
theorem tw_884 : (Jvm.Cond.methodLink "NineMapsLaw" (59 : Nat) ({ cls := "NineMaps", name := "many", desc := "(III)I" } : Jvm.MethodName)) ∈ TW := tw_in 884 (by decide +kernel) rfl
theorem tw_887 : (Jvm.Cond.code ({ cls := "NineMaps", name := "many", desc := "(III)I" } : Jvm.MethodName) prog_1_method_12_code (6 : Nat) (Option.some Jvm.ClassFile.FieldType.int)) ∈ TW := tw_in 887 (by decide +kernel) rfl
theorem tw_885 : (Jvm.Cond.instanceMethod ({ cls := "NineMaps", name := "many", desc := "(III)I" } : Jvm.MethodName)) ∈ TW := tw_in 885 (by decide +kernel) rfl
theorem tw_886 : (Jvm.Cond.selects "NineMaps" ({ cls := "NineMaps", name := "many", desc := "(III)I" } : Jvm.MethodName) ({ cls := "NineMaps", name := "many", desc := "(III)I" } : Jvm.MethodName)) ∈ TW := tw_in 886 (by decide +kernel) rfl
theorem tw_1769 : (Jvm.Cond.methodLink "NineMapsLaw" (62 : Nat) ({ cls := "NineMapsModel", name := "many", desc := "(III)I" } : Jvm.MethodName)) ∈ TW := tw_in 1769 (by decide +kernel) rfl
theorem tw_1772 : (Jvm.Cond.code ({ cls := "NineMapsModel", name := "many", desc := "(III)I" } : Jvm.MethodName) prog_12_method_67_code (7 : Nat) (Option.some Jvm.ClassFile.FieldType.int)) ∈ TW := tw_in 1772 (by decide +kernel) rfl
theorem tw_1770 : (Jvm.Cond.instanceMethod ({ cls := "NineMapsModel", name := "many", desc := "(III)I" } : Jvm.MethodName)) ∈ TW := tw_in 1770 (by decide +kernel) rfl
theorem tw_1771 : (Jvm.Cond.selects "NineMapsModel" ({ cls := "NineMapsModel", name := "many", desc := "(III)I" } : Jvm.MethodName) ({ cls := "NineMapsModel", name := "many", desc := "(III)I" } : Jvm.MethodName)) ∈ TW := tw_in 1771 (by decide +kernel) rfl
theorem tw_901 : (Jvm.Cond.methodLink "NineMapsLaw" (63 : Nat) ({ cls := "NineMaps", name := "unlike", desc := "(III)I" } : Jvm.MethodName)) ∈ TW := tw_in 901 (by decide +kernel) rfl
theorem tw_904 : (Jvm.Cond.code ({ cls := "NineMaps", name := "unlike", desc := "(III)I" } : Jvm.MethodName) prog_1_method_13_code (4 : Nat) (Option.some Jvm.ClassFile.FieldType.int)) ∈ TW := tw_in 904 (by decide +kernel) rfl
theorem tw_902 : (Jvm.Cond.instanceMethod ({ cls := "NineMaps", name := "unlike", desc := "(III)I" } : Jvm.MethodName)) ∈ TW := tw_in 902 (by decide +kernel) rfl
theorem tw_903 : (Jvm.Cond.selects "NineMaps" ({ cls := "NineMaps", name := "unlike", desc := "(III)I" } : Jvm.MethodName) ({ cls := "NineMaps", name := "unlike", desc := "(III)I" } : Jvm.MethodName)) ∈ TW := tw_in 903 (by decide +kernel) rfl
theorem tw_1777 : (Jvm.Cond.methodLink "NineMapsLaw" (66 : Nat) ({ cls := "NineMapsModel", name := "unlike", desc := "(III)I" } : Jvm.MethodName)) ∈ TW := tw_in 1777 (by decide +kernel) rfl
theorem tw_1780 : (Jvm.Cond.code ({ cls := "NineMapsModel", name := "unlike", desc := "(III)I" } : Jvm.MethodName) prog_12_method_68_code (7 : Nat) (Option.some Jvm.ClassFile.FieldType.int)) ∈ TW := tw_in 1780 (by decide +kernel) rfl
theorem tw_1778 : (Jvm.Cond.instanceMethod ({ cls := "NineMapsModel", name := "unlike", desc := "(III)I" } : Jvm.MethodName)) ∈ TW := tw_in 1778 (by decide +kernel) rfl
theorem tw_1779 : (Jvm.Cond.selects "NineMapsModel" ({ cls := "NineMapsModel", name := "unlike", desc := "(III)I" } : Jvm.MethodName) ({ cls := "NineMapsModel", name := "unlike", desc := "(III)I" } : Jvm.MethodName)) ∈ TW := tw_in 1779 (by decide +kernel) rfl
theorem tw_913 : (Jvm.Cond.methodLink "NineMapsLaw" (67 : Nat) ({ cls := "NineMaps", name := "trueOnes", desc := "(II)I" } : Jvm.MethodName)) ∈ TW := tw_in 913 (by decide +kernel) rfl
theorem tw_916 : (Jvm.Cond.code ({ cls := "NineMaps", name := "trueOnes", desc := "(II)I" } : Jvm.MethodName) prog_1_method_14_code (3 : Nat) (Option.some Jvm.ClassFile.FieldType.int)) ∈ TW := tw_in 916 (by decide +kernel) rfl
theorem tw_914 : (Jvm.Cond.instanceMethod ({ cls := "NineMaps", name := "trueOnes", desc := "(II)I" } : Jvm.MethodName)) ∈ TW := tw_in 914 (by decide +kernel) rfl
theorem tw_915 : (Jvm.Cond.selects "NineMaps" ({ cls := "NineMaps", name := "trueOnes", desc := "(II)I" } : Jvm.MethodName) ({ cls := "NineMaps", name := "trueOnes", desc := "(II)I" } : Jvm.MethodName)) ∈ TW := tw_in 915 (by decide +kernel) rfl
theorem tw_1781 : (Jvm.Cond.methodLink "NineMapsLaw" (70 : Nat) ({ cls := "NineMapsModel", name := "trueOnes", desc := "(II)I" } : Jvm.MethodName)) ∈ TW := tw_in 1781 (by decide +kernel) rfl
theorem tw_1784 : (Jvm.Cond.code ({ cls := "NineMapsModel", name := "trueOnes", desc := "(II)I" } : Jvm.MethodName) prog_12_method_69_code (6 : Nat) (Option.some Jvm.ClassFile.FieldType.int)) ∈ TW := tw_in 1784 (by decide +kernel) rfl
theorem tw_1782 : (Jvm.Cond.instanceMethod ({ cls := "NineMapsModel", name := "trueOnes", desc := "(II)I" } : Jvm.MethodName)) ∈ TW := tw_in 1782 (by decide +kernel) rfl
theorem tw_1783 : (Jvm.Cond.selects "NineMapsModel" ({ cls := "NineMapsModel", name := "trueOnes", desc := "(II)I" } : Jvm.MethodName) ({ cls := "NineMapsModel", name := "trueOnes", desc := "(II)I" } : Jvm.MethodName)) ∈ TW := tw_in 1783 (by decide +kernel) rfl
theorem tw_917 : (Jvm.Cond.methodLink "NineMapsLaw" (71 : Nat) ({ cls := "NineMaps", name := "when", desc := "(III)I" } : Jvm.MethodName)) ∈ TW := tw_in 917 (by decide +kernel) rfl
theorem tw_920 : (Jvm.Cond.code ({ cls := "NineMaps", name := "when", desc := "(III)I" } : Jvm.MethodName) prog_1_method_16_code (6 : Nat) (Option.some Jvm.ClassFile.FieldType.int)) ∈ TW := tw_in 920 (by decide +kernel) rfl
theorem tw_918 : (Jvm.Cond.instanceMethod ({ cls := "NineMaps", name := "when", desc := "(III)I" } : Jvm.MethodName)) ∈ TW := tw_in 918 (by decide +kernel) rfl
theorem tw_919 : (Jvm.Cond.selects "NineMaps" ({ cls := "NineMaps", name := "when", desc := "(III)I" } : Jvm.MethodName) ({ cls := "NineMaps", name := "when", desc := "(III)I" } : Jvm.MethodName)) ∈ TW := tw_in 919 (by decide +kernel) rfl
theorem tw_1785 : (Jvm.Cond.methodLink "NineMapsLaw" (74 : Nat) ({ cls := "NineMapsModel", name := "when", desc := "(III)I" } : Jvm.MethodName)) ∈ TW := tw_in 1785 (by decide +kernel) rfl
theorem tw_1788 : (Jvm.Cond.code ({ cls := "NineMapsModel", name := "when", desc := "(III)I" } : Jvm.MethodName) prog_12_method_70_code (6 : Nat) (Option.some Jvm.ClassFile.FieldType.int)) ∈ TW := tw_in 1788 (by decide +kernel) rfl
theorem tw_1786 : (Jvm.Cond.instanceMethod ({ cls := "NineMapsModel", name := "when", desc := "(III)I" } : Jvm.MethodName)) ∈ TW := tw_in 1786 (by decide +kernel) rfl
theorem tw_1787 : (Jvm.Cond.selects "NineMapsModel" ({ cls := "NineMapsModel", name := "when", desc := "(III)I" } : Jvm.MethodName) ({ cls := "NineMapsModel", name := "when", desc := "(III)I" } : Jvm.MethodName)) ∈ TW := tw_in 1787 (by decide +kernel) rfl
theorem tw_932 : (Jvm.Cond.methodLink "NineMapsLaw" (75 : Nat) ({ cls := "NineMaps", name := "areas", desc := "(III)I" } : Jvm.MethodName)) ∈ TW := tw_in 932 (by decide +kernel) rfl
theorem tw_935 : (Jvm.Cond.code ({ cls := "NineMaps", name := "areas", desc := "(III)I" } : Jvm.MethodName) prog_1_method_17_code (4 : Nat) (Option.some Jvm.ClassFile.FieldType.int)) ∈ TW := tw_in 935 (by decide +kernel) rfl
theorem tw_933 : (Jvm.Cond.instanceMethod ({ cls := "NineMaps", name := "areas", desc := "(III)I" } : Jvm.MethodName)) ∈ TW := tw_in 933 (by decide +kernel) rfl
theorem tw_934 : (Jvm.Cond.selects "NineMaps" ({ cls := "NineMaps", name := "areas", desc := "(III)I" } : Jvm.MethodName) ({ cls := "NineMaps", name := "areas", desc := "(III)I" } : Jvm.MethodName)) ∈ TW := tw_in 934 (by decide +kernel) rfl
theorem tw_1789 : (Jvm.Cond.methodLink "NineMapsLaw" (78 : Nat) ({ cls := "NineMapsModel", name := "areas", desc := "(III)I" } : Jvm.MethodName)) ∈ TW := tw_in 1789 (by decide +kernel) rfl
theorem tw_1792 : (Jvm.Cond.code ({ cls := "NineMapsModel", name := "areas", desc := "(III)I" } : Jvm.MethodName) prog_12_method_72_code (5 : Nat) (Option.some Jvm.ClassFile.FieldType.int)) ∈ TW := tw_in 1792 (by decide +kernel) rfl
theorem tw_1790 : (Jvm.Cond.instanceMethod ({ cls := "NineMapsModel", name := "areas", desc := "(III)I" } : Jvm.MethodName)) ∈ TW := tw_in 1790 (by decide +kernel) rfl
theorem tw_1791 : (Jvm.Cond.selects "NineMapsModel" ({ cls := "NineMapsModel", name := "areas", desc := "(III)I" } : Jvm.MethodName) ({ cls := "NineMapsModel", name := "areas", desc := "(III)I" } : Jvm.MethodName)) ∈ TW := tw_in 1791 (by decide +kernel) rfl
theorem tw_951 : (Jvm.Cond.methodLink "NineMapsLaw" (79 : Nat) ({ cls := "NineMaps", name := "largest", desc := "(III)I" } : Jvm.MethodName)) ∈ TW := tw_in 951 (by decide +kernel) rfl
theorem tw_954 : (Jvm.Cond.code ({ cls := "NineMaps", name := "largest", desc := "(III)I" } : Jvm.MethodName) prog_1_method_18_code (4 : Nat) (Option.some Jvm.ClassFile.FieldType.int)) ∈ TW := tw_in 954 (by decide +kernel) rfl
theorem tw_952 : (Jvm.Cond.instanceMethod ({ cls := "NineMaps", name := "largest", desc := "(III)I" } : Jvm.MethodName)) ∈ TW := tw_in 952 (by decide +kernel) rfl
theorem tw_953 : (Jvm.Cond.selects "NineMaps" ({ cls := "NineMaps", name := "largest", desc := "(III)I" } : Jvm.MethodName) ({ cls := "NineMaps", name := "largest", desc := "(III)I" } : Jvm.MethodName)) ∈ TW := tw_in 953 (by decide +kernel) rfl
theorem tw_1797 : (Jvm.Cond.methodLink "NineMapsLaw" (82 : Nat) ({ cls := "NineMapsModel", name := "largest", desc := "(III)I" } : Jvm.MethodName)) ∈ TW := tw_in 1797 (by decide +kernel) rfl
theorem tw_1800 : (Jvm.Cond.code ({ cls := "NineMapsModel", name := "largest", desc := "(III)I" } : Jvm.MethodName) prog_12_method_73_code (5 : Nat) (Option.some Jvm.ClassFile.FieldType.int)) ∈ TW := tw_in 1800 (by decide +kernel) rfl
theorem tw_1798 : (Jvm.Cond.instanceMethod ({ cls := "NineMapsModel", name := "largest", desc := "(III)I" } : Jvm.MethodName)) ∈ TW := tw_in 1798 (by decide +kernel) rfl
theorem tw_1799 : (Jvm.Cond.selects "NineMapsModel" ({ cls := "NineMapsModel", name := "largest", desc := "(III)I" } : Jvm.MethodName) ({ cls := "NineMapsModel", name := "largest", desc := "(III)I" } : Jvm.MethodName)) ∈ TW := tw_in 1799 (by decide +kernel) rfl
theorem tw_955 : (Jvm.Cond.methodLink "NineMapsLaw" (83 : Nat) ({ cls := "NineMaps", name := "scale", desc := "(IIZ)J" } : Jvm.MethodName)) ∈ TW := tw_in 955 (by decide +kernel) rfl
theorem tw_958 : (Jvm.Cond.code ({ cls := "NineMaps", name := "scale", desc := "(IIZ)J" } : Jvm.MethodName) prog_1_method_20_code (11 : Nat) (Option.some Jvm.ClassFile.FieldType.long)) ∈ TW := tw_in 958 (by decide +kernel) rfl
theorem tw_956 : (Jvm.Cond.instanceMethod ({ cls := "NineMaps", name := "scale", desc := "(IIZ)J" } : Jvm.MethodName)) ∈ TW := tw_in 956 (by decide +kernel) rfl
theorem tw_957 : (Jvm.Cond.selects "NineMaps" ({ cls := "NineMaps", name := "scale", desc := "(IIZ)J" } : Jvm.MethodName) ({ cls := "NineMaps", name := "scale", desc := "(IIZ)J" } : Jvm.MethodName)) ∈ TW := tw_in 957 (by decide +kernel) rfl
theorem tw_1801 : (Jvm.Cond.methodLink "NineMapsLaw" (87 : Nat) ({ cls := "NineMapsModel", name := "scale", desc := "(IIZ)J" } : Jvm.MethodName)) ∈ TW := tw_in 1801 (by decide +kernel) rfl
theorem tw_1804 : (Jvm.Cond.code ({ cls := "NineMapsModel", name := "scale", desc := "(IIZ)J" } : Jvm.MethodName) prog_12_method_74_code (10 : Nat) (Option.some Jvm.ClassFile.FieldType.long)) ∈ TW := tw_in 1804 (by decide +kernel) rfl
theorem tw_1802 : (Jvm.Cond.instanceMethod ({ cls := "NineMapsModel", name := "scale", desc := "(IIZ)J" } : Jvm.MethodName)) ∈ TW := tw_in 1802 (by decide +kernel) rfl
theorem tw_1803 : (Jvm.Cond.selects "NineMapsModel" ({ cls := "NineMapsModel", name := "scale", desc := "(IIZ)J" } : Jvm.MethodName) ({ cls := "NineMapsModel", name := "scale", desc := "(IIZ)J" } : Jvm.MethodName)) ∈ TW := tw_in 1803 (by decide +kernel) rfl
theorem tw_963 : (Jvm.Cond.methodLink "NineMapsLaw" (88 : Nat) ({ cls := "NineMaps", name := "round", desc := "(Z)I" } : Jvm.MethodName)) ∈ TW := tw_in 963 (by decide +kernel) rfl
theorem tw_966 : (Jvm.Cond.code ({ cls := "NineMaps", name := "round", desc := "(Z)I" } : Jvm.MethodName) prog_1_method_22_code (4 : Nat) (Option.some Jvm.ClassFile.FieldType.int)) ∈ TW := tw_in 966 (by decide +kernel) rfl
theorem tw_964 : (Jvm.Cond.instanceMethod ({ cls := "NineMaps", name := "round", desc := "(Z)I" } : Jvm.MethodName)) ∈ TW := tw_in 964 (by decide +kernel) rfl
theorem tw_965 : (Jvm.Cond.selects "NineMaps" ({ cls := "NineMaps", name := "round", desc := "(Z)I" } : Jvm.MethodName) ({ cls := "NineMaps", name := "round", desc := "(Z)I" } : Jvm.MethodName)) ∈ TW := tw_in 965 (by decide +kernel) rfl
theorem tw_1813 : (Jvm.Cond.methodLink "NineMapsLaw" (92 : Nat) ({ cls := "NineMapsModel", name := "round", desc := "(Z)I" } : Jvm.MethodName)) ∈ TW := tw_in 1813 (by decide +kernel) rfl
theorem tw_1816 : (Jvm.Cond.code ({ cls := "NineMapsModel", name := "round", desc := "(Z)I" } : Jvm.MethodName) prog_12_method_77_code (4 : Nat) (Option.some Jvm.ClassFile.FieldType.int)) ∈ TW := tw_in 1816 (by decide +kernel) rfl
theorem tw_1814 : (Jvm.Cond.instanceMethod ({ cls := "NineMapsModel", name := "round", desc := "(Z)I" } : Jvm.MethodName)) ∈ TW := tw_in 1814 (by decide +kernel) rfl
theorem tw_1815 : (Jvm.Cond.selects "NineMapsModel" ({ cls := "NineMapsModel", name := "round", desc := "(Z)I" } : Jvm.MethodName) ({ cls := "NineMapsModel", name := "round", desc := "(Z)I" } : Jvm.MethodName)) ∈ TW := tw_in 1815 (by decide +kernel) rfl
theorem tw_980 : (Jvm.Cond.methodLink "NineMapsLaw" (93 : Nat) ({ cls := "NineMaps", name := "origin", desc := "(III)I" } : Jvm.MethodName)) ∈ TW := tw_in 980 (by decide +kernel) rfl
theorem tw_983 : (Jvm.Cond.code ({ cls := "NineMaps", name := "origin", desc := "(III)I" } : Jvm.MethodName) prog_1_method_25_code (5 : Nat) (Option.some Jvm.ClassFile.FieldType.int)) ∈ TW := tw_in 983 (by decide +kernel) rfl
theorem tw_981 : (Jvm.Cond.instanceMethod ({ cls := "NineMaps", name := "origin", desc := "(III)I" } : Jvm.MethodName)) ∈ TW := tw_in 981 (by decide +kernel) rfl
theorem tw_982 : (Jvm.Cond.selects "NineMaps" ({ cls := "NineMaps", name := "origin", desc := "(III)I" } : Jvm.MethodName) ({ cls := "NineMaps", name := "origin", desc := "(III)I" } : Jvm.MethodName)) ∈ TW := tw_in 982 (by decide +kernel) rfl
theorem tw_1826 : (Jvm.Cond.methodLink "NineMapsLaw" (96 : Nat) ({ cls := "NineMapsModel", name := "origin", desc := "(III)I" } : Jvm.MethodName)) ∈ TW := tw_in 1826 (by decide +kernel) rfl
theorem tw_1829 : (Jvm.Cond.code ({ cls := "NineMapsModel", name := "origin", desc := "(III)I" } : Jvm.MethodName) prog_12_method_78_code (8 : Nat) (Option.some Jvm.ClassFile.FieldType.int)) ∈ TW := tw_in 1829 (by decide +kernel) rfl
theorem tw_1827 : (Jvm.Cond.instanceMethod ({ cls := "NineMapsModel", name := "origin", desc := "(III)I" } : Jvm.MethodName)) ∈ TW := tw_in 1827 (by decide +kernel) rfl
theorem tw_1828 : (Jvm.Cond.selects "NineMapsModel" ({ cls := "NineMapsModel", name := "origin", desc := "(III)I" } : Jvm.MethodName) ({ cls := "NineMapsModel", name := "origin", desc := "(III)I" } : Jvm.MethodName)) ∈ TW := tw_in 1828 (by decide +kernel) rfl
theorem tw_995 : (Jvm.Cond.methodLink "NineMapsLaw" (97 : Nat) ({ cls := "NineMaps", name := "blame", desc := "(III)I" } : Jvm.MethodName)) ∈ TW := tw_in 995 (by decide +kernel) rfl
theorem tw_998 : (Jvm.Cond.code ({ cls := "NineMaps", name := "blame", desc := "(III)I" } : Jvm.MethodName) prog_1_method_26_code (7 : Nat) (Option.some Jvm.ClassFile.FieldType.int)) ∈ TW := tw_in 998 (by decide +kernel) rfl
theorem tw_996 : (Jvm.Cond.instanceMethod ({ cls := "NineMaps", name := "blame", desc := "(III)I" } : Jvm.MethodName)) ∈ TW := tw_in 996 (by decide +kernel) rfl
theorem tw_997 : (Jvm.Cond.selects "NineMaps" ({ cls := "NineMaps", name := "blame", desc := "(III)I" } : Jvm.MethodName) ({ cls := "NineMaps", name := "blame", desc := "(III)I" } : Jvm.MethodName)) ∈ TW := tw_in 997 (by decide +kernel) rfl
theorem tw_1838 : (Jvm.Cond.methodLink "NineMapsLaw" (100 : Nat) ({ cls := "NineMapsModel", name := "blame", desc := "(III)I" } : Jvm.MethodName)) ∈ TW := tw_in 1838 (by decide +kernel) rfl
theorem tw_1841 : (Jvm.Cond.code ({ cls := "NineMapsModel", name := "blame", desc := "(III)I" } : Jvm.MethodName) prog_12_method_80_code (8 : Nat) (Option.some Jvm.ClassFile.FieldType.int)) ∈ TW := tw_in 1841 (by decide +kernel) rfl
theorem tw_1839 : (Jvm.Cond.instanceMethod ({ cls := "NineMapsModel", name := "blame", desc := "(III)I" } : Jvm.MethodName)) ∈ TW := tw_in 1839 (by decide +kernel) rfl
theorem tw_1840 : (Jvm.Cond.selects "NineMapsModel" ({ cls := "NineMapsModel", name := "blame", desc := "(III)I" } : Jvm.MethodName) ({ cls := "NineMapsModel", name := "blame", desc := "(III)I" } : Jvm.MethodName)) ∈ TW := tw_in 1840 (by decide +kernel) rfl
theorem tw_1000 : (Jvm.Cond.methodLink "NineMapsLaw" (101 : Nat) ({ cls := "NineMaps", name := "loop", desc := "(I)I" } : Jvm.MethodName)) ∈ TW := tw_in 1000 (by decide +kernel) rfl
theorem tw_1003 : (Jvm.Cond.code ({ cls := "NineMaps", name := "loop", desc := "(I)I" } : Jvm.MethodName) prog_1_method_27_code (4 : Nat) (Option.some Jvm.ClassFile.FieldType.int)) ∈ TW := tw_in 1003 (by decide +kernel) rfl
theorem tw_1001 : (Jvm.Cond.instanceMethod ({ cls := "NineMaps", name := "loop", desc := "(I)I" } : Jvm.MethodName)) ∈ TW := tw_in 1001 (by decide +kernel) rfl
theorem tw_1002 : (Jvm.Cond.selects "NineMaps" ({ cls := "NineMaps", name := "loop", desc := "(I)I" } : Jvm.MethodName) ({ cls := "NineMaps", name := "loop", desc := "(I)I" } : Jvm.MethodName)) ∈ TW := tw_in 1002 (by decide +kernel) rfl
theorem tw_1842 : (Jvm.Cond.methodLink "NineMapsLaw" (104 : Nat) ({ cls := "NineMapsModel", name := "loop", desc := "(I)I" } : Jvm.MethodName)) ∈ TW := tw_in 1842 (by decide +kernel) rfl
theorem tw_1845 : (Jvm.Cond.code ({ cls := "NineMapsModel", name := "loop", desc := "(I)I" } : Jvm.MethodName) prog_12_method_81_code (4 : Nat) (Option.some Jvm.ClassFile.FieldType.int)) ∈ TW := tw_in 1845 (by decide +kernel) rfl
theorem tw_1843 : (Jvm.Cond.instanceMethod ({ cls := "NineMapsModel", name := "loop", desc := "(I)I" } : Jvm.MethodName)) ∈ TW := tw_in 1843 (by decide +kernel) rfl
theorem tw_1844 : (Jvm.Cond.selects "NineMapsModel" ({ cls := "NineMapsModel", name := "loop", desc := "(I)I" } : Jvm.MethodName) ({ cls := "NineMapsModel", name := "loop", desc := "(I)I" } : Jvm.MethodName)) ∈ TW := tw_in 1844 (by decide +kernel) rfl
theorem tw_1004 : (Jvm.Cond.methodLink "NineMapsLaw" (105 : Nat) ({ cls := "NineMaps", name := "depth", desc := "(I)I" } : Jvm.MethodName)) ∈ TW := tw_in 1004 (by decide +kernel) rfl
theorem tw_1007 : (Jvm.Cond.code ({ cls := "NineMaps", name := "depth", desc := "(I)I" } : Jvm.MethodName) prog_1_method_28_code (4 : Nat) (Option.some Jvm.ClassFile.FieldType.int)) ∈ TW := tw_in 1007 (by decide +kernel) rfl
theorem tw_1005 : (Jvm.Cond.instanceMethod ({ cls := "NineMaps", name := "depth", desc := "(I)I" } : Jvm.MethodName)) ∈ TW := tw_in 1005 (by decide +kernel) rfl
theorem tw_1006 : (Jvm.Cond.selects "NineMaps" ({ cls := "NineMaps", name := "depth", desc := "(I)I" } : Jvm.MethodName) ({ cls := "NineMaps", name := "depth", desc := "(I)I" } : Jvm.MethodName)) ∈ TW := tw_in 1006 (by decide +kernel) rfl
theorem tw_1846 : (Jvm.Cond.methodLink "NineMapsLaw" (108 : Nat) ({ cls := "NineMapsModel", name := "depth", desc := "(I)I" } : Jvm.MethodName)) ∈ TW := tw_in 1846 (by decide +kernel) rfl
theorem tw_1849 : (Jvm.Cond.code ({ cls := "NineMapsModel", name := "depth", desc := "(I)I" } : Jvm.MethodName) prog_12_method_82_code (4 : Nat) (Option.some Jvm.ClassFile.FieldType.int)) ∈ TW := tw_in 1849 (by decide +kernel) rfl
theorem tw_1847 : (Jvm.Cond.instanceMethod ({ cls := "NineMapsModel", name := "depth", desc := "(I)I" } : Jvm.MethodName)) ∈ TW := tw_in 1847 (by decide +kernel) rfl
theorem tw_1848 : (Jvm.Cond.selects "NineMapsModel" ({ cls := "NineMapsModel", name := "depth", desc := "(I)I" } : Jvm.MethodName) ({ cls := "NineMapsModel", name := "depth", desc := "(I)I" } : Jvm.MethodName)) ∈ TW := tw_in 1848 (by decide +kernel) rfl
theorem tw_1008 : (Jvm.Cond.methodLink "NineMapsLaw" (109 : Nat) ({ cls := "NineMaps", name := "strokes", desc := "(IIIIII)I" } : Jvm.MethodName)) ∈ TW := tw_in 1008 (by decide +kernel) rfl
theorem tw_1011 : (Jvm.Cond.code ({ cls := "NineMaps", name := "strokes", desc := "(IIIIII)I" } : Jvm.MethodName) prog_1_method_29_code (8 : Nat) (Option.some Jvm.ClassFile.FieldType.int)) ∈ TW := tw_in 1011 (by decide +kernel) rfl
theorem tw_1009 : (Jvm.Cond.instanceMethod ({ cls := "NineMaps", name := "strokes", desc := "(IIIIII)I" } : Jvm.MethodName)) ∈ TW := tw_in 1009 (by decide +kernel) rfl
theorem tw_1010 : (Jvm.Cond.selects "NineMaps" ({ cls := "NineMaps", name := "strokes", desc := "(IIIIII)I" } : Jvm.MethodName) ({ cls := "NineMaps", name := "strokes", desc := "(IIIIII)I" } : Jvm.MethodName)) ∈ TW := tw_in 1010 (by decide +kernel) rfl
theorem tw_1850 : (Jvm.Cond.methodLink "NineMapsLaw" (113 : Nat) ({ cls := "NineMapsModel", name := "strokes", desc := "(IIIIII)I" } : Jvm.MethodName)) ∈ TW := tw_in 1850 (by decide +kernel) rfl
theorem tw_1853 : (Jvm.Cond.code ({ cls := "NineMapsModel", name := "strokes", desc := "(IIIIII)I" } : Jvm.MethodName) prog_12_method_89_code (9 : Nat) (Option.some Jvm.ClassFile.FieldType.int)) ∈ TW := tw_in 1853 (by decide +kernel) rfl
theorem tw_1851 : (Jvm.Cond.instanceMethod ({ cls := "NineMapsModel", name := "strokes", desc := "(IIIIII)I" } : Jvm.MethodName)) ∈ TW := tw_in 1851 (by decide +kernel) rfl
theorem tw_1852 : (Jvm.Cond.selects "NineMapsModel" ({ cls := "NineMapsModel", name := "strokes", desc := "(IIIIII)I" } : Jvm.MethodName) ({ cls := "NineMapsModel", name := "strokes", desc := "(IIIIII)I" } : Jvm.MethodName)) ∈ TW := tw_in 1852 (by decide +kernel) rfl
theorem tw_1087 : (Jvm.Cond.methodLink "NineMapsLaw" (114 : Nat) ({ cls := "NineMaps", name := "strokeAt", desc := "(IIIIIII)I" } : Jvm.MethodName)) ∈ TW := tw_in 1087 (by decide +kernel) rfl
theorem tw_1090 : (Jvm.Cond.code ({ cls := "NineMaps", name := "strokeAt", desc := "(IIIIIII)I" } : Jvm.MethodName) prog_1_method_30_code (10 : Nat) (Option.some Jvm.ClassFile.FieldType.int)) ∈ TW := tw_in 1090 (by decide +kernel) rfl
theorem tw_1088 : (Jvm.Cond.instanceMethod ({ cls := "NineMaps", name := "strokeAt", desc := "(IIIIIII)I" } : Jvm.MethodName)) ∈ TW := tw_in 1088 (by decide +kernel) rfl
theorem tw_1089 : (Jvm.Cond.selects "NineMaps" ({ cls := "NineMaps", name := "strokeAt", desc := "(IIIIIII)I" } : Jvm.MethodName) ({ cls := "NineMaps", name := "strokeAt", desc := "(IIIIIII)I" } : Jvm.MethodName)) ∈ TW := tw_in 1089 (by decide +kernel) rfl
theorem tw_1878 : (Jvm.Cond.methodLink "NineMapsLaw" (118 : Nat) ({ cls := "NineMapsModel", name := "strokeAt", desc := "(IIIIIII)I" } : Jvm.MethodName)) ∈ TW := tw_in 1878 (by decide +kernel) rfl
theorem tw_1881 : (Jvm.Cond.code ({ cls := "NineMapsModel", name := "strokeAt", desc := "(IIIIIII)I" } : Jvm.MethodName) prog_12_method_90_code (9 : Nat) (Option.some Jvm.ClassFile.FieldType.int)) ∈ TW := tw_in 1881 (by decide +kernel) rfl
theorem tw_1879 : (Jvm.Cond.instanceMethod ({ cls := "NineMapsModel", name := "strokeAt", desc := "(IIIIIII)I" } : Jvm.MethodName)) ∈ TW := tw_in 1879 (by decide +kernel) rfl
theorem tw_1880 : (Jvm.Cond.selects "NineMapsModel" ({ cls := "NineMapsModel", name := "strokeAt", desc := "(IIIIIII)I" } : Jvm.MethodName) ({ cls := "NineMapsModel", name := "strokeAt", desc := "(IIIIIII)I" } : Jvm.MethodName)) ∈ TW := tw_in 1880 (by decide +kernel) rfl
theorem tw_1091 : (Jvm.Cond.methodLink "NineMapsLaw" (119 : Nat) ({ cls := "NineMaps", name := "ink", desc := "(III)I" } : Jvm.MethodName)) ∈ TW := tw_in 1091 (by decide +kernel) rfl
theorem tw_1094 : (Jvm.Cond.code ({ cls := "NineMaps", name := "ink", desc := "(III)I" } : Jvm.MethodName) prog_1_method_32_code (4 : Nat) (Option.some Jvm.ClassFile.FieldType.int)) ∈ TW := tw_in 1094 (by decide +kernel) rfl
theorem tw_1092 : (Jvm.Cond.instanceMethod ({ cls := "NineMaps", name := "ink", desc := "(III)I" } : Jvm.MethodName)) ∈ TW := tw_in 1092 (by decide +kernel) rfl
theorem tw_1093 : (Jvm.Cond.selects "NineMaps" ({ cls := "NineMaps", name := "ink", desc := "(III)I" } : Jvm.MethodName) ({ cls := "NineMaps", name := "ink", desc := "(III)I" } : Jvm.MethodName)) ∈ TW := tw_in 1093 (by decide +kernel) rfl
theorem tw_1882 : (Jvm.Cond.methodLink "NineMapsLaw" (122 : Nat) ({ cls := "NineMapsModel", name := "ink", desc := "(III)I" } : Jvm.MethodName)) ∈ TW := tw_in 1882 (by decide +kernel) rfl
theorem tw_1885 : (Jvm.Cond.code ({ cls := "NineMapsModel", name := "ink", desc := "(III)I" } : Jvm.MethodName) prog_12_method_92_code (11 : Nat) (Option.some Jvm.ClassFile.FieldType.int)) ∈ TW := tw_in 1885 (by decide +kernel) rfl
theorem tw_1883 : (Jvm.Cond.instanceMethod ({ cls := "NineMapsModel", name := "ink", desc := "(III)I" } : Jvm.MethodName)) ∈ TW := tw_in 1883 (by decide +kernel) rfl
theorem tw_1884 : (Jvm.Cond.selects "NineMapsModel" ({ cls := "NineMapsModel", name := "ink", desc := "(III)I" } : Jvm.MethodName) ({ cls := "NineMapsModel", name := "ink", desc := "(III)I" } : Jvm.MethodName)) ∈ TW := tw_in 1884 (by decide +kernel) rfl
theorem tw_1110 : (Jvm.Cond.methodLink "NineMapsLaw" (123 : Nat) ({ cls := "NineMaps", name := "judge", desc := "()I" } : Jvm.MethodName)) ∈ TW := tw_in 1110 (by decide +kernel) rfl
theorem tw_1113 : (Jvm.Cond.code ({ cls := "NineMaps", name := "judge", desc := "()I" } : Jvm.MethodName) prog_1_method_33_code (1 : Nat) (Option.some Jvm.ClassFile.FieldType.int)) ∈ TW := tw_in 1113 (by decide +kernel) rfl
theorem tw_1111 : (Jvm.Cond.instanceMethod ({ cls := "NineMaps", name := "judge", desc := "()I" } : Jvm.MethodName)) ∈ TW := tw_in 1111 (by decide +kernel) rfl
theorem tw_1112 : (Jvm.Cond.selects "NineMaps" ({ cls := "NineMaps", name := "judge", desc := "()I" } : Jvm.MethodName) ({ cls := "NineMaps", name := "judge", desc := "()I" } : Jvm.MethodName)) ∈ TW := tw_in 1112 (by decide +kernel) rfl
theorem tw_1890 : (Jvm.Cond.methodLink "NineMapsLaw" (126 : Nat) ({ cls := "NineMapsModel", name := "judge", desc := "()I" } : Jvm.MethodName)) ∈ TW := tw_in 1890 (by decide +kernel) rfl
theorem tw_1893 : (Jvm.Cond.code ({ cls := "NineMapsModel", name := "judge", desc := "()I" } : Jvm.MethodName) prog_12_method_95_code (1 : Nat) (Option.some Jvm.ClassFile.FieldType.int)) ∈ TW := tw_in 1893 (by decide +kernel) rfl
theorem tw_1891 : (Jvm.Cond.instanceMethod ({ cls := "NineMapsModel", name := "judge", desc := "()I" } : Jvm.MethodName)) ∈ TW := tw_in 1891 (by decide +kernel) rfl
theorem tw_1892 : (Jvm.Cond.selects "NineMapsModel" ({ cls := "NineMapsModel", name := "judge", desc := "()I" } : Jvm.MethodName) ({ cls := "NineMapsModel", name := "judge", desc := "()I" } : Jvm.MethodName)) ∈ TW := tw_in 1892 (by decide +kernel) rfl
theorem tw_1119 : (Jvm.Cond.methodLink "NineMapsLaw" (127 : Nat) ({ cls := "NineMaps", name := "fits", desc := "()I" } : Jvm.MethodName)) ∈ TW := tw_in 1119 (by decide +kernel) rfl
theorem tw_1122 : (Jvm.Cond.code ({ cls := "NineMaps", name := "fits", desc := "()I" } : Jvm.MethodName) prog_1_method_34_code (2 : Nat) (Option.some Jvm.ClassFile.FieldType.int)) ∈ TW := tw_in 1122 (by decide +kernel) rfl
theorem tw_1120 : (Jvm.Cond.instanceMethod ({ cls := "NineMaps", name := "fits", desc := "()I" } : Jvm.MethodName)) ∈ TW := tw_in 1120 (by decide +kernel) rfl
theorem tw_1121 : (Jvm.Cond.selects "NineMaps" ({ cls := "NineMaps", name := "fits", desc := "()I" } : Jvm.MethodName) ({ cls := "NineMaps", name := "fits", desc := "()I" } : Jvm.MethodName)) ∈ TW := tw_in 1121 (by decide +kernel) rfl
theorem tw_1906 : (Jvm.Cond.methodLink "NineMapsLaw" (130 : Nat) ({ cls := "NineMapsModel", name := "fits", desc := "()I" } : Jvm.MethodName)) ∈ TW := tw_in 1906 (by decide +kernel) rfl
theorem tw_1909 : (Jvm.Cond.code ({ cls := "NineMapsModel", name := "fits", desc := "()I" } : Jvm.MethodName) prog_12_method_100_code (2 : Nat) (Option.some Jvm.ClassFile.FieldType.int)) ∈ TW := tw_in 1909 (by decide +kernel) rfl
theorem tw_1907 : (Jvm.Cond.instanceMethod ({ cls := "NineMapsModel", name := "fits", desc := "()I" } : Jvm.MethodName)) ∈ TW := tw_in 1907 (by decide +kernel) rfl
theorem tw_1908 : (Jvm.Cond.selects "NineMapsModel" ({ cls := "NineMapsModel", name := "fits", desc := "()I" } : Jvm.MethodName) ({ cls := "NineMapsModel", name := "fits", desc := "()I" } : Jvm.MethodName)) ∈ TW := tw_in 1908 (by decide +kernel) rfl
theorem tw_1148 : (Jvm.Cond.methodLink "NineMapsLaw" (131 : Nat) ({ cls := "NineMaps", name := "fit", desc := "(II)I" } : Jvm.MethodName)) ∈ TW := tw_in 1148 (by decide +kernel) rfl
theorem tw_1151 : (Jvm.Cond.code ({ cls := "NineMaps", name := "fit", desc := "(II)I" } : Jvm.MethodName) prog_1_method_35_code (5 : Nat) (Option.some Jvm.ClassFile.FieldType.int)) ∈ TW := tw_in 1151 (by decide +kernel) rfl
theorem tw_1149 : (Jvm.Cond.instanceMethod ({ cls := "NineMaps", name := "fit", desc := "(II)I" } : Jvm.MethodName)) ∈ TW := tw_in 1149 (by decide +kernel) rfl
theorem tw_1150 : (Jvm.Cond.selects "NineMaps" ({ cls := "NineMaps", name := "fit", desc := "(II)I" } : Jvm.MethodName) ({ cls := "NineMaps", name := "fit", desc := "(II)I" } : Jvm.MethodName)) ∈ TW := tw_in 1150 (by decide +kernel) rfl
theorem tw_1926 : (Jvm.Cond.methodLink "NineMapsLaw" (134 : Nat) ({ cls := "NineMapsModel", name := "fit", desc := "(II)I" } : Jvm.MethodName)) ∈ TW := tw_in 1926 (by decide +kernel) rfl
theorem tw_1929 : (Jvm.Cond.code ({ cls := "NineMapsModel", name := "fit", desc := "(II)I" } : Jvm.MethodName) prog_12_method_101_code (4 : Nat) (Option.some Jvm.ClassFile.FieldType.int)) ∈ TW := tw_in 1929 (by decide +kernel) rfl
theorem tw_1927 : (Jvm.Cond.instanceMethod ({ cls := "NineMapsModel", name := "fit", desc := "(II)I" } : Jvm.MethodName)) ∈ TW := tw_in 1927 (by decide +kernel) rfl
theorem tw_1928 : (Jvm.Cond.selects "NineMapsModel" ({ cls := "NineMapsModel", name := "fit", desc := "(II)I" } : Jvm.MethodName) ({ cls := "NineMapsModel", name := "fit", desc := "(II)I" } : Jvm.MethodName)) ∈ TW := tw_in 1928 (by decide +kernel) rfl
theorem tw_1157 : (Jvm.Cond.methodLink "NineMapsLaw" (135 : Nat) ({ cls := "NineMaps", name := "surely", desc := "(I)I" } : Jvm.MethodName)) ∈ TW := tw_in 1157 (by decide +kernel) rfl
theorem tw_1160 : (Jvm.Cond.code ({ cls := "NineMaps", name := "surely", desc := "(I)I" } : Jvm.MethodName) prog_1_method_36_code (4 : Nat) (Option.some Jvm.ClassFile.FieldType.int)) ∈ TW := tw_in 1160 (by decide +kernel) rfl
theorem tw_1158 : (Jvm.Cond.instanceMethod ({ cls := "NineMaps", name := "surely", desc := "(I)I" } : Jvm.MethodName)) ∈ TW := tw_in 1158 (by decide +kernel) rfl
theorem tw_1159 : (Jvm.Cond.selects "NineMaps" ({ cls := "NineMaps", name := "surely", desc := "(I)I" } : Jvm.MethodName) ({ cls := "NineMaps", name := "surely", desc := "(I)I" } : Jvm.MethodName)) ∈ TW := tw_in 1159 (by decide +kernel) rfl
theorem tw_1930 : (Jvm.Cond.methodLink "NineMapsLaw" (138 : Nat) ({ cls := "NineMapsModel", name := "surely", desc := "(I)I" } : Jvm.MethodName)) ∈ TW := tw_in 1930 (by decide +kernel) rfl
theorem tw_1933 : (Jvm.Cond.code ({ cls := "NineMapsModel", name := "surely", desc := "(I)I" } : Jvm.MethodName) prog_12_method_102_code (4 : Nat) (Option.some Jvm.ClassFile.FieldType.int)) ∈ TW := tw_in 1933 (by decide +kernel) rfl
theorem tw_1931 : (Jvm.Cond.instanceMethod ({ cls := "NineMapsModel", name := "surely", desc := "(I)I" } : Jvm.MethodName)) ∈ TW := tw_in 1931 (by decide +kernel) rfl
theorem tw_1932 : (Jvm.Cond.selects "NineMapsModel" ({ cls := "NineMapsModel", name := "surely", desc := "(I)I" } : Jvm.MethodName) ({ cls := "NineMapsModel", name := "surely", desc := "(I)I" } : Jvm.MethodName)) ∈ TW := tw_in 1932 (by decide +kernel) rfl
theorem tw_1165 : (Jvm.Cond.methodLink "NineMapsLaw" (139 : Nat) ({ cls := "NineMaps", name := "rounds", desc := "(I)I" } : Jvm.MethodName)) ∈ TW := tw_in 1165 (by decide +kernel) rfl
theorem tw_1168 : (Jvm.Cond.code ({ cls := "NineMaps", name := "rounds", desc := "(I)I" } : Jvm.MethodName) prog_1_method_38_code (3 : Nat) (Option.some Jvm.ClassFile.FieldType.int)) ∈ TW := tw_in 1168 (by decide +kernel) rfl
theorem tw_1166 : (Jvm.Cond.instanceMethod ({ cls := "NineMaps", name := "rounds", desc := "(I)I" } : Jvm.MethodName)) ∈ TW := tw_in 1166 (by decide +kernel) rfl
theorem tw_1167 : (Jvm.Cond.selects "NineMaps" ({ cls := "NineMaps", name := "rounds", desc := "(I)I" } : Jvm.MethodName) ({ cls := "NineMaps", name := "rounds", desc := "(I)I" } : Jvm.MethodName)) ∈ TW := tw_in 1167 (by decide +kernel) rfl
theorem tw_1934 : (Jvm.Cond.methodLink "NineMapsLaw" (142 : Nat) ({ cls := "NineMapsModel", name := "rounds", desc := "(I)I" } : Jvm.MethodName)) ∈ TW := tw_in 1934 (by decide +kernel) rfl
theorem tw_1937 : (Jvm.Cond.code ({ cls := "NineMapsModel", name := "rounds", desc := "(I)I" } : Jvm.MethodName) prog_12_method_104_code (3 : Nat) (Option.some Jvm.ClassFile.FieldType.int)) ∈ TW := tw_in 1937 (by decide +kernel) rfl
theorem tw_1935 : (Jvm.Cond.instanceMethod ({ cls := "NineMapsModel", name := "rounds", desc := "(I)I" } : Jvm.MethodName)) ∈ TW := tw_in 1935 (by decide +kernel) rfl
theorem tw_1936 : (Jvm.Cond.selects "NineMapsModel" ({ cls := "NineMapsModel", name := "rounds", desc := "(I)I" } : Jvm.MethodName) ({ cls := "NineMapsModel", name := "rounds", desc := "(I)I" } : Jvm.MethodName)) ∈ TW := tw_in 1936 (by decide +kernel) rfl
theorem tw_1178 : (Jvm.Cond.methodLink "NineMapsLaw" (143 : Nat) ({ cls := "NineMaps", name := "draw", desc := "(III)Z" } : Jvm.MethodName)) ∈ TW := tw_in 1178 (by decide +kernel) rfl
theorem tw_1181 : (Jvm.Cond.code ({ cls := "NineMaps", name := "draw", desc := "(III)Z" } : Jvm.MethodName) prog_1_method_39_code (5 : Nat) (Option.some Jvm.ClassFile.FieldType.boolean)) ∈ TW := tw_in 1181 (by decide +kernel) rfl
theorem tw_1179 : (Jvm.Cond.instanceMethod ({ cls := "NineMaps", name := "draw", desc := "(III)Z" } : Jvm.MethodName)) ∈ TW := tw_in 1179 (by decide +kernel) rfl
theorem tw_1180 : (Jvm.Cond.selects "NineMaps" ({ cls := "NineMaps", name := "draw", desc := "(III)Z" } : Jvm.MethodName) ({ cls := "NineMaps", name := "draw", desc := "(III)Z" } : Jvm.MethodName)) ∈ TW := tw_in 1180 (by decide +kernel) rfl
theorem tw_1942 : (Jvm.Cond.methodLink "NineMapsLaw" (147 : Nat) ({ cls := "NineMapsModel", name := "draw", desc := "(III)Z" } : Jvm.MethodName)) ∈ TW := tw_in 1942 (by decide +kernel) rfl
theorem tw_1945 : (Jvm.Cond.code ({ cls := "NineMapsModel", name := "draw", desc := "(III)Z" } : Jvm.MethodName) prog_12_method_105_code (4 : Nat) (Option.some Jvm.ClassFile.FieldType.boolean)) ∈ TW := tw_in 1945 (by decide +kernel) rfl
theorem tw_1943 : (Jvm.Cond.instanceMethod ({ cls := "NineMapsModel", name := "draw", desc := "(III)Z" } : Jvm.MethodName)) ∈ TW := tw_in 1943 (by decide +kernel) rfl
theorem tw_1944 : (Jvm.Cond.selects "NineMapsModel" ({ cls := "NineMapsModel", name := "draw", desc := "(III)Z" } : Jvm.MethodName) ({ cls := "NineMapsModel", name := "draw", desc := "(III)Z" } : Jvm.MethodName)) ∈ TW := tw_in 1944 (by decide +kernel) rfl
theorem tw_1190 : (Jvm.Cond.methodLink "NineMapsLaw" (148 : Nat) ({ cls := "NineMaps", name := "mend", desc := "(I)Z" } : Jvm.MethodName)) ∈ TW := tw_in 1190 (by decide +kernel) rfl
theorem tw_1193 : (Jvm.Cond.code ({ cls := "NineMaps", name := "mend", desc := "(I)Z" } : Jvm.MethodName) prog_1_method_40_code (2 : Nat) (Option.some Jvm.ClassFile.FieldType.boolean)) ∈ TW := tw_in 1193 (by decide +kernel) rfl
theorem tw_1191 : (Jvm.Cond.instanceMethod ({ cls := "NineMaps", name := "mend", desc := "(I)Z" } : Jvm.MethodName)) ∈ TW := tw_in 1191 (by decide +kernel) rfl
theorem tw_1192 : (Jvm.Cond.selects "NineMaps" ({ cls := "NineMaps", name := "mend", desc := "(I)Z" } : Jvm.MethodName) ({ cls := "NineMaps", name := "mend", desc := "(I)Z" } : Jvm.MethodName)) ∈ TW := tw_in 1192 (by decide +kernel) rfl
theorem tw_1954 : (Jvm.Cond.methodLink "NineMapsLaw" (152 : Nat) ({ cls := "NineMapsModel", name := "mend", desc := "(I)Z" } : Jvm.MethodName)) ∈ TW := tw_in 1954 (by decide +kernel) rfl
theorem tw_1957 : (Jvm.Cond.code ({ cls := "NineMapsModel", name := "mend", desc := "(I)Z" } : Jvm.MethodName) prog_12_method_106_code (3 : Nat) (Option.some Jvm.ClassFile.FieldType.boolean)) ∈ TW := tw_in 1957 (by decide +kernel) rfl
theorem tw_1955 : (Jvm.Cond.instanceMethod ({ cls := "NineMapsModel", name := "mend", desc := "(I)Z" } : Jvm.MethodName)) ∈ TW := tw_in 1955 (by decide +kernel) rfl
theorem tw_1956 : (Jvm.Cond.selects "NineMapsModel" ({ cls := "NineMapsModel", name := "mend", desc := "(I)Z" } : Jvm.MethodName) ({ cls := "NineMapsModel", name := "mend", desc := "(I)Z" } : Jvm.MethodName)) ∈ TW := tw_in 1956 (by decide +kernel) rfl
theorem tw_1194 : (Jvm.Cond.methodLink "NineMapsLaw" (153 : Nat) ({ cls := "NineMaps", name := "copy", desc := "(II)Z" } : Jvm.MethodName)) ∈ TW := tw_in 1194 (by decide +kernel) rfl
theorem tw_1197 : (Jvm.Cond.code ({ cls := "NineMaps", name := "copy", desc := "(II)Z" } : Jvm.MethodName) prog_1_method_41_code (3 : Nat) (Option.some Jvm.ClassFile.FieldType.boolean)) ∈ TW := tw_in 1197 (by decide +kernel) rfl
theorem tw_1195 : (Jvm.Cond.instanceMethod ({ cls := "NineMaps", name := "copy", desc := "(II)Z" } : Jvm.MethodName)) ∈ TW := tw_in 1195 (by decide +kernel) rfl
theorem tw_1196 : (Jvm.Cond.selects "NineMaps" ({ cls := "NineMaps", name := "copy", desc := "(II)Z" } : Jvm.MethodName) ({ cls := "NineMaps", name := "copy", desc := "(II)Z" } : Jvm.MethodName)) ∈ TW := tw_in 1196 (by decide +kernel) rfl
theorem tw_1958 : (Jvm.Cond.methodLink "NineMapsLaw" (157 : Nat) ({ cls := "NineMapsModel", name := "copy", desc := "(II)Z" } : Jvm.MethodName)) ∈ TW := tw_in 1958 (by decide +kernel) rfl
theorem tw_1961 : (Jvm.Cond.code ({ cls := "NineMapsModel", name := "copy", desc := "(II)Z" } : Jvm.MethodName) prog_12_method_107_code (3 : Nat) (Option.some Jvm.ClassFile.FieldType.boolean)) ∈ TW := tw_in 1961 (by decide +kernel) rfl
theorem tw_1959 : (Jvm.Cond.instanceMethod ({ cls := "NineMapsModel", name := "copy", desc := "(II)Z" } : Jvm.MethodName)) ∈ TW := tw_in 1959 (by decide +kernel) rfl
theorem tw_1960 : (Jvm.Cond.selects "NineMapsModel" ({ cls := "NineMapsModel", name := "copy", desc := "(II)Z" } : Jvm.MethodName) ({ cls := "NineMapsModel", name := "copy", desc := "(II)Z" } : Jvm.MethodName)) ∈ TW := tw_in 1960 (by decide +kernel) rfl
theorem tw_1198 : (Jvm.Cond.methodLink "NineMapsLaw" (158 : Nat) ({ cls := "NineMaps", name := "seed", desc := "(I)Z" } : Jvm.MethodName)) ∈ TW := tw_in 1198 (by decide +kernel) rfl
theorem tw_1201 : (Jvm.Cond.code ({ cls := "NineMaps", name := "seed", desc := "(I)Z" } : Jvm.MethodName) prog_1_method_42_code (2 : Nat) (Option.some Jvm.ClassFile.FieldType.boolean)) ∈ TW := tw_in 1201 (by decide +kernel) rfl
theorem tw_1199 : (Jvm.Cond.instanceMethod ({ cls := "NineMaps", name := "seed", desc := "(I)Z" } : Jvm.MethodName)) ∈ TW := tw_in 1199 (by decide +kernel) rfl
theorem tw_1200 : (Jvm.Cond.selects "NineMaps" ({ cls := "NineMaps", name := "seed", desc := "(I)Z" } : Jvm.MethodName) ({ cls := "NineMaps", name := "seed", desc := "(I)Z" } : Jvm.MethodName)) ∈ TW := tw_in 1200 (by decide +kernel) rfl
theorem tw_1962 : (Jvm.Cond.methodLink "NineMapsLaw" (161 : Nat) ({ cls := "NineMapsModel", name := "seed", desc := "(I)Z" } : Jvm.MethodName)) ∈ TW := tw_in 1962 (by decide +kernel) rfl
theorem tw_1965 : (Jvm.Cond.code ({ cls := "NineMapsModel", name := "seed", desc := "(I)Z" } : Jvm.MethodName) prog_12_method_108_code (2 : Nat) (Option.some Jvm.ClassFile.FieldType.boolean)) ∈ TW := tw_in 1965 (by decide +kernel) rfl
theorem tw_1963 : (Jvm.Cond.instanceMethod ({ cls := "NineMapsModel", name := "seed", desc := "(I)Z" } : Jvm.MethodName)) ∈ TW := tw_in 1963 (by decide +kernel) rfl
theorem tw_1964 : (Jvm.Cond.selects "NineMapsModel" ({ cls := "NineMapsModel", name := "seed", desc := "(I)Z" } : Jvm.MethodName) ({ cls := "NineMapsModel", name := "seed", desc := "(I)Z" } : Jvm.MethodName)) ∈ TW := tw_in 1964 (by decide +kernel) rfl
theorem tw_1203 : (Jvm.Cond.methodLink "NineMapsLaw" (162 : Nat) ({ cls := "NineMaps", name := "undo", desc := "()Z" } : Jvm.MethodName)) ∈ TW := tw_in 1203 (by decide +kernel) rfl
theorem tw_1206 : (Jvm.Cond.code ({ cls := "NineMaps", name := "undo", desc := "()Z" } : Jvm.MethodName) prog_1_method_43_code (1 : Nat) (Option.some Jvm.ClassFile.FieldType.boolean)) ∈ TW := tw_in 1206 (by decide +kernel) rfl
theorem tw_1204 : (Jvm.Cond.instanceMethod ({ cls := "NineMaps", name := "undo", desc := "()Z" } : Jvm.MethodName)) ∈ TW := tw_in 1204 (by decide +kernel) rfl
theorem tw_1205 : (Jvm.Cond.selects "NineMaps" ({ cls := "NineMaps", name := "undo", desc := "()Z" } : Jvm.MethodName) ({ cls := "NineMaps", name := "undo", desc := "()Z" } : Jvm.MethodName)) ∈ TW := tw_in 1205 (by decide +kernel) rfl
theorem tw_1967 : (Jvm.Cond.methodLink "NineMapsLaw" (166 : Nat) ({ cls := "NineMapsModel", name := "undo", desc := "()Z" } : Jvm.MethodName)) ∈ TW := tw_in 1967 (by decide +kernel) rfl
theorem tw_1970 : (Jvm.Cond.code ({ cls := "NineMapsModel", name := "undo", desc := "()Z" } : Jvm.MethodName) prog_12_method_109_code (2 : Nat) (Option.some Jvm.ClassFile.FieldType.boolean)) ∈ TW := tw_in 1970 (by decide +kernel) rfl
theorem tw_1968 : (Jvm.Cond.instanceMethod ({ cls := "NineMapsModel", name := "undo", desc := "()Z" } : Jvm.MethodName)) ∈ TW := tw_in 1968 (by decide +kernel) rfl
theorem tw_1969 : (Jvm.Cond.selects "NineMapsModel" ({ cls := "NineMapsModel", name := "undo", desc := "()Z" } : Jvm.MethodName) ({ cls := "NineMapsModel", name := "undo", desc := "()Z" } : Jvm.MethodName)) ∈ TW := tw_in 1969 (by decide +kernel) rfl
theorem tw_1211 : (Jvm.Cond.methodLink "NineMapsLaw" (167 : Nat) ({ cls := "NineMaps", name := "keep", desc := "()I" } : Jvm.MethodName)) ∈ TW := tw_in 1211 (by decide +kernel) rfl
theorem tw_1214 : (Jvm.Cond.code ({ cls := "NineMaps", name := "keep", desc := "()I" } : Jvm.MethodName) prog_1_method_44_code (1 : Nat) (Option.some Jvm.ClassFile.FieldType.int)) ∈ TW := tw_in 1214 (by decide +kernel) rfl
theorem tw_1212 : (Jvm.Cond.instanceMethod ({ cls := "NineMaps", name := "keep", desc := "()I" } : Jvm.MethodName)) ∈ TW := tw_in 1212 (by decide +kernel) rfl
theorem tw_1213 : (Jvm.Cond.selects "NineMaps" ({ cls := "NineMaps", name := "keep", desc := "()I" } : Jvm.MethodName) ({ cls := "NineMaps", name := "keep", desc := "()I" } : Jvm.MethodName)) ∈ TW := tw_in 1213 (by decide +kernel) rfl
theorem tw_1971 : (Jvm.Cond.methodLink "NineMapsLaw" (170 : Nat) ({ cls := "NineMapsModel", name := "keep", desc := "()I" } : Jvm.MethodName)) ∈ TW := tw_in 1971 (by decide +kernel) rfl
theorem tw_1974 : (Jvm.Cond.code ({ cls := "NineMapsModel", name := "keep", desc := "()I" } : Jvm.MethodName) prog_12_method_110_code (2 : Nat) (Option.some Jvm.ClassFile.FieldType.int)) ∈ TW := tw_in 1974 (by decide +kernel) rfl
theorem tw_1972 : (Jvm.Cond.instanceMethod ({ cls := "NineMapsModel", name := "keep", desc := "()I" } : Jvm.MethodName)) ∈ TW := tw_in 1972 (by decide +kernel) rfl
theorem tw_1973 : (Jvm.Cond.selects "NineMapsModel" ({ cls := "NineMapsModel", name := "keep", desc := "()I" } : Jvm.MethodName) ({ cls := "NineMapsModel", name := "keep", desc := "()I" } : Jvm.MethodName)) ∈ TW := tw_in 1973 (by decide +kernel) rfl
theorem tw_1219 : (Jvm.Cond.methodLink "NineMapsLaw" (171 : Nat) ({ cls := "NineMaps", name := "back", desc := "(I)Z" } : Jvm.MethodName)) ∈ TW := tw_in 1219 (by decide +kernel) rfl
theorem tw_1222 : (Jvm.Cond.code ({ cls := "NineMaps", name := "back", desc := "(I)Z" } : Jvm.MethodName) prog_1_method_45_code (2 : Nat) (Option.some Jvm.ClassFile.FieldType.boolean)) ∈ TW := tw_in 1222 (by decide +kernel) rfl
theorem tw_1220 : (Jvm.Cond.instanceMethod ({ cls := "NineMaps", name := "back", desc := "(I)Z" } : Jvm.MethodName)) ∈ TW := tw_in 1220 (by decide +kernel) rfl
theorem tw_1221 : (Jvm.Cond.selects "NineMaps" ({ cls := "NineMaps", name := "back", desc := "(I)Z" } : Jvm.MethodName) ({ cls := "NineMaps", name := "back", desc := "(I)Z" } : Jvm.MethodName)) ∈ TW := tw_in 1221 (by decide +kernel) rfl
theorem tw_1975 : (Jvm.Cond.methodLink "NineMapsLaw" (174 : Nat) ({ cls := "NineMapsModel", name := "back", desc := "(I)Z" } : Jvm.MethodName)) ∈ TW := tw_in 1975 (by decide +kernel) rfl
theorem tw_1978 : (Jvm.Cond.code ({ cls := "NineMapsModel", name := "back", desc := "(I)Z" } : Jvm.MethodName) prog_12_method_111_code (3 : Nat) (Option.some Jvm.ClassFile.FieldType.boolean)) ∈ TW := tw_in 1978 (by decide +kernel) rfl
theorem tw_1976 : (Jvm.Cond.instanceMethod ({ cls := "NineMapsModel", name := "back", desc := "(I)Z" } : Jvm.MethodName)) ∈ TW := tw_in 1976 (by decide +kernel) rfl
theorem tw_1977 : (Jvm.Cond.selects "NineMapsModel" ({ cls := "NineMapsModel", name := "back", desc := "(I)Z" } : Jvm.MethodName) ({ cls := "NineMapsModel", name := "back", desc := "(I)Z" } : Jvm.MethodName)) ∈ TW := tw_in 1977 (by decide +kernel) rfl
theorem tw_1223 : (Jvm.Cond.methodLink "NineMapsLaw" (184 : Nat) ({ cls := "NineMaps", name := "size", desc := "(I)I" } : Jvm.MethodName)) ∈ TW := tw_in 1223 (by decide +kernel) rfl
theorem tw_1226 : (Jvm.Cond.code ({ cls := "NineMaps", name := "size", desc := "(I)I" } : Jvm.MethodName) prog_1_method_48_code (2 : Nat) (Option.some Jvm.ClassFile.FieldType.int)) ∈ TW := tw_in 1226 (by decide +kernel) rfl
theorem tw_1224 : (Jvm.Cond.instanceMethod ({ cls := "NineMaps", name := "size", desc := "(I)I" } : Jvm.MethodName)) ∈ TW := tw_in 1224 (by decide +kernel) rfl
theorem tw_1225 : (Jvm.Cond.selects "NineMaps" ({ cls := "NineMaps", name := "size", desc := "(I)I" } : Jvm.MethodName) ({ cls := "NineMaps", name := "size", desc := "(I)I" } : Jvm.MethodName)) ∈ TW := tw_in 1225 (by decide +kernel) rfl
theorem tw_1987 : (Jvm.Cond.methodLink "NineMapsLaw" (187 : Nat) ({ cls := "NineMapsModel", name := "size", desc := "(I)I" } : Jvm.MethodName)) ∈ TW := tw_in 1987 (by decide +kernel) rfl
theorem tw_1990 : (Jvm.Cond.code ({ cls := "NineMapsModel", name := "size", desc := "(I)I" } : Jvm.MethodName) prog_12_method_115_code (2 : Nat) (Option.some Jvm.ClassFile.FieldType.int)) ∈ TW := tw_in 1990 (by decide +kernel) rfl
theorem tw_1988 : (Jvm.Cond.instanceMethod ({ cls := "NineMapsModel", name := "size", desc := "(I)I" } : Jvm.MethodName)) ∈ TW := tw_in 1988 (by decide +kernel) rfl
theorem tw_1989 : (Jvm.Cond.selects "NineMapsModel" ({ cls := "NineMapsModel", name := "size", desc := "(I)I" } : Jvm.MethodName) ({ cls := "NineMapsModel", name := "size", desc := "(I)I" } : Jvm.MethodName)) ∈ TW := tw_in 1989 (by decide +kernel) rfl
theorem tw_1231 : (Jvm.Cond.methodLink "NineMapsLaw" (188 : Nat) ({ cls := "NineMaps", name := "trouble", desc := "()I" } : Jvm.MethodName)) ∈ TW := tw_in 1231 (by decide +kernel) rfl
theorem tw_1234 : (Jvm.Cond.code ({ cls := "NineMaps", name := "trouble", desc := "()I" } : Jvm.MethodName) prog_1_method_49_code (1 : Nat) (Option.some Jvm.ClassFile.FieldType.int)) ∈ TW := tw_in 1234 (by decide +kernel) rfl
theorem tw_1232 : (Jvm.Cond.instanceMethod ({ cls := "NineMaps", name := "trouble", desc := "()I" } : Jvm.MethodName)) ∈ TW := tw_in 1232 (by decide +kernel) rfl
theorem tw_1233 : (Jvm.Cond.selects "NineMaps" ({ cls := "NineMaps", name := "trouble", desc := "()I" } : Jvm.MethodName) ({ cls := "NineMaps", name := "trouble", desc := "()I" } : Jvm.MethodName)) ∈ TW := tw_in 1233 (by decide +kernel) rfl
theorem tw_1995 : (Jvm.Cond.methodLink "NineMapsLaw" (191 : Nat) ({ cls := "NineMapsModel", name := "trouble", desc := "()I" } : Jvm.MethodName)) ∈ TW := tw_in 1995 (by decide +kernel) rfl
theorem tw_1998 : (Jvm.Cond.code ({ cls := "NineMapsModel", name := "trouble", desc := "()I" } : Jvm.MethodName) prog_12_method_116_code (1 : Nat) (Option.some Jvm.ClassFile.FieldType.int)) ∈ TW := tw_in 1998 (by decide +kernel) rfl
theorem tw_1996 : (Jvm.Cond.instanceMethod ({ cls := "NineMapsModel", name := "trouble", desc := "()I" } : Jvm.MethodName)) ∈ TW := tw_in 1996 (by decide +kernel) rfl
theorem tw_1997 : (Jvm.Cond.selects "NineMapsModel" ({ cls := "NineMapsModel", name := "trouble", desc := "()I" } : Jvm.MethodName) ({ cls := "NineMapsModel", name := "trouble", desc := "()I" } : Jvm.MethodName)) ∈ TW := tw_in 1997 (by decide +kernel) rfl
theorem tw_1982 : (Jvm.Cond.code ({ cls := "NineMapsModel", name := "led", desc := "(I)I" } : Jvm.MethodName) prog_12_method_113_code (4 : Nat) (Option.some Jvm.ClassFile.FieldType.int)) ∈ TW := tw_in 1982 (by decide +kernel) rfl
theorem tw_1980 : (Jvm.Cond.instanceMethod ({ cls := "NineMapsModel", name := "led", desc := "(I)I" } : Jvm.MethodName)) ∈ TW := tw_in 1980 (by decide +kernel) rfl
theorem tw_1981 : (Jvm.Cond.selects "NineMapsModel" ({ cls := "NineMapsModel", name := "led", desc := "(I)I" } : Jvm.MethodName) ({ cls := "NineMapsModel", name := "led", desc := "(I)I" } : Jvm.MethodName)) ∈ TW := tw_in 1981 (by decide +kernel) rfl
theorem tw_1442 : (Jvm.Cond.code ({ cls := "NineMapsModel", name := "thrown", desc := "()I" } : Jvm.MethodName) prog_12_method_2_code (1 : Nat) (Option.some Jvm.ClassFile.FieldType.int)) ∈ TW := tw_in 1442 (by decide +kernel) rfl
theorem tw_1440 : (Jvm.Cond.instanceMethod ({ cls := "NineMapsModel", name := "thrown", desc := "()I" } : Jvm.MethodName)) ∈ TW := tw_in 1440 (by decide +kernel) rfl
theorem tw_1441 : (Jvm.Cond.selects "NineMapsModel" ({ cls := "NineMapsModel", name := "thrown", desc := "()I" } : Jvm.MethodName) ({ cls := "NineMapsModel", name := "thrown", desc := "()I" } : Jvm.MethodName)) ∈ TW := tw_in 1441 (by decide +kernel) rfl
theorem tw_1979 : (Jvm.Cond.methodLink "NineMapsLaw" (180 : Nat) ({ cls := "NineMapsModel", name := "led", desc := "(I)I" } : Jvm.MethodName)) ∈ TW := tw_in 1979 (by decide +kernel) rfl
theorem tw_1439 : (Jvm.Cond.methodLink "NineMapsLaw" (181 : Nat) ({ cls := "NineMapsModel", name := "thrown", desc := "()I" } : Jvm.MethodName)) ∈ TW := tw_in 1439 (by decide +kernel) rfl
theorem tw_155 : (Jvm.Cond.methodLink "NineMapsLaw" (15 : Nat) ({ cls := "NineMaps", name := "<init>", desc := "()V" } : Jvm.MethodName)) ∈ TW := tw_in 155 (by decide +kernel) rfl
theorem tw_1310 : (Jvm.Cond.methodLink "NineMapsLaw" (18 : Nat) ({ cls := "NineMapsModel", name := "<init>", desc := "()V" } : Jvm.MethodName)) ∈ TW := tw_in 1310 (by decide +kernel) rfl
theorem tw_157 : (Jvm.Cond.code ({ cls := "NineMaps", name := "<init>", desc := "()V" } : Jvm.MethodName) prog_1_method_1_code (1 : Nat) (Option.none : Option Jvm.ClassFile.FieldType)) ∈ TW := tw_in 157 (by decide +kernel) rfl
theorem tw_156 : (Jvm.Cond.instanceMethod ({ cls := "NineMaps", name := "<init>", desc := "()V" } : Jvm.MethodName)) ∈ TW := tw_in 156 (by decide +kernel) rfl
theorem tw_153 : (Jvm.Cond.classLink "NineMapsLaw" (8 : Nat) "NineMaps") ∈ TW := tw_in 153 (by decide +kernel) rfl
theorem tw_154 : (Jvm.Cond.instantiable "NineMaps" (17 : Nat)) ∈ TW := tw_in 154 (by decide +kernel) rfl
theorem tw_1312 : (Jvm.Cond.code ({ cls := "NineMapsModel", name := "<init>", desc := "()V" } : Jvm.MethodName) prog_12_method_1_code (1 : Nat) (Option.none : Option Jvm.ClassFile.FieldType)) ∈ TW := tw_in 1312 (by decide +kernel) rfl
theorem tw_1311 : (Jvm.Cond.instanceMethod ({ cls := "NineMapsModel", name := "<init>", desc := "()V" } : Jvm.MethodName)) ∈ TW := tw_in 1311 (by decide +kernel) rfl
theorem tw_1308 : (Jvm.Cond.classLink "NineMapsLaw" (16 : Nat) "NineMapsModel") ∈ TW := tw_in 1308 (by decide +kernel) rfl
theorem tw_1309 : (Jvm.Cond.instantiable "NineMapsModel" (41 : Nat)) ∈ TW := tw_in 1309 (by decide +kernel) rfl
theorem lm_X9_feed : zMV yX9_feed cX9_feed 6 (some .int) 5 9 := ⟨⟨tw_498, tw_130, by decide, by decide, by decide⟩, tw_496, tw_497, TX9, 17, rfl⟩
theorem lm_X11_feed : zMV yX11_feed cX11_feed 8 (some .int) 5 11 := ⟨⟨tw_1446, tw_139, by decide, by decide, by decide⟩, tw_1444, tw_1445, TX11, 41, rfl⟩
theorem lm_X9_ring : zMV yX9_ring cX9_ring 5 (some .int) 1 9 := ⟨⟨tw_506, tw_130, by decide, by decide, by decide⟩, tw_504, tw_505, TX9, 17, rfl⟩
theorem lm_X11_ring : zMV yX11_ring cX11_ring 4 (some .int) 1 11 := ⟨⟨tw_1450, tw_139, by decide, by decide, by decide⟩, tw_1448, tw_1449, TX11, 41, rfl⟩
theorem lm_X9_fault : zMV yX9_fault cX9_fault 1 (some .int) 0 9 := ⟨⟨tw_775, tw_130, by decide, by decide, by decide⟩, tw_773, tw_774, TX9, 17, rfl⟩
theorem lm_X11_fault : zMV yX11_fault cX11_fault 1 (some .int) 0 11 := ⟨⟨tw_1677, tw_139, by decide, by decide, by decide⟩, tw_1675, tw_1676, TX11, 41, rfl⟩
theorem lm_X9_where : zMV yX9_where cX9_where 1 (some .int) 0 9 := ⟨⟨tw_779, tw_130, by decide, by decide, by decide⟩, tw_777, tw_778, TX9, 17, rfl⟩
theorem lm_X11_where : zMV yX11_where cX11_where 1 (some .int) 0 11 := ⟨⟨tw_1681, tw_139, by decide, by decide, by decide⟩, tw_1679, tw_1680, TX11, 41, rfl⟩
theorem lm_X9_copies : zMV yX9_copies cX9_copies 2 (some .int) 1 9 := ⟨⟨tw_783, tw_130, by decide, by decide, by decide⟩, tw_781, tw_782, TX9, 17, rfl⟩
theorem lm_X11_copies : zMV yX11_copies cX11_copies 2 (some .int) 1 11 := ⟨⟨tw_1685, tw_139, by decide, by decide, by decide⟩, tw_1683, tw_1684, TX11, 41, rfl⟩
theorem lm_X9_error : zMV yX9_error cX9_error 3 (some .int) 2 9 := ⟨⟨tw_791, tw_130, by decide, by decide, by decide⟩, tw_789, tw_790, TX9, 17, rfl⟩
theorem lm_X11_error : zMV yX11_error cX11_error 3 (some .int) 2 11 := ⟨⟨tw_1693, tw_139, by decide, by decide, by decide⟩, tw_1691, tw_1692, TX11, 41, rfl⟩
theorem lm_X9_cell : zMV yX9_cell cX9_cell 3 (some .int) 2 9 := ⟨⟨tw_795, tw_130, by decide, by decide, by decide⟩, tw_793, tw_794, TX9, 17, rfl⟩
theorem lm_X11_cell : zMV yX11_cell cX11_cell 3 (some .int) 2 11 := ⟨⟨tw_1697, tw_139, by decide, by decide, by decide⟩, tw_1695, tw_1696, TX11, 41, rfl⟩
theorem lm_X9_first : zMV yX9_first cX9_first 3 (some .int) 2 9 := ⟨⟨tw_806, tw_130, by decide, by decide, by decide⟩, tw_804, tw_805, TX9, 17, rfl⟩
theorem lm_X11_first : zMV yX11_first cX11_first 3 (some .int) 2 11 := ⟨⟨tw_1709, tw_139, by decide, by decide, by decide⟩, tw_1707, tw_1708, TX11, 41, rfl⟩
theorem lm_X9_after : zMV yX9_after cX9_after 4 (some .int) 3 9 := ⟨⟨tw_810, tw_130, by decide, by decide, by decide⟩, tw_808, tw_809, TX9, 17, rfl⟩
theorem lm_X11_after : zMV yX11_after cX11_after 5 (some .int) 3 11 := ⟨⟨tw_1713, tw_139, by decide, by decide, by decide⟩, tw_1711, tw_1712, TX11, 41, rfl⟩
theorem lm_X9_many : zMV yX9_many cX9_many 6 (some .int) 3 9 := ⟨⟨tw_887, tw_130, by decide, by decide, by decide⟩, tw_885, tw_886, TX9, 17, rfl⟩
theorem lm_X11_many : zMV yX11_many cX11_many 7 (some .int) 3 11 := ⟨⟨tw_1772, tw_139, by decide, by decide, by decide⟩, tw_1770, tw_1771, TX11, 41, rfl⟩
theorem lm_X9_unlike : zMV yX9_unlike cX9_unlike 4 (some .int) 3 9 := ⟨⟨tw_904, tw_130, by decide, by decide, by decide⟩, tw_902, tw_903, TX9, 17, rfl⟩
theorem lm_X11_unlike : zMV yX11_unlike cX11_unlike 7 (some .int) 3 11 := ⟨⟨tw_1780, tw_139, by decide, by decide, by decide⟩, tw_1778, tw_1779, TX11, 41, rfl⟩
theorem lm_X9_trueOnes : zMV yX9_trueOnes cX9_trueOnes 3 (some .int) 2 9 := ⟨⟨tw_916, tw_130, by decide, by decide, by decide⟩, tw_914, tw_915, TX9, 17, rfl⟩
theorem lm_X11_trueOnes : zMV yX11_trueOnes cX11_trueOnes 6 (some .int) 2 11 := ⟨⟨tw_1784, tw_139, by decide, by decide, by decide⟩, tw_1782, tw_1783, TX11, 41, rfl⟩
theorem lm_X9_when : zMV yX9_when cX9_when 6 (some .int) 3 9 := ⟨⟨tw_920, tw_130, by decide, by decide, by decide⟩, tw_918, tw_919, TX9, 17, rfl⟩
theorem lm_X11_when : zMV yX11_when cX11_when 6 (some .int) 3 11 := ⟨⟨tw_1788, tw_139, by decide, by decide, by decide⟩, tw_1786, tw_1787, TX11, 41, rfl⟩
theorem lm_X9_areas : zMV yX9_areas cX9_areas 4 (some .int) 3 9 := ⟨⟨tw_935, tw_130, by decide, by decide, by decide⟩, tw_933, tw_934, TX9, 17, rfl⟩
theorem lm_X11_areas : zMV yX11_areas cX11_areas 5 (some .int) 3 11 := ⟨⟨tw_1792, tw_139, by decide, by decide, by decide⟩, tw_1790, tw_1791, TX11, 41, rfl⟩
theorem lm_X9_largest : zMV yX9_largest cX9_largest 4 (some .int) 3 9 := ⟨⟨tw_954, tw_130, by decide, by decide, by decide⟩, tw_952, tw_953, TX9, 17, rfl⟩
theorem lm_X11_largest : zMV yX11_largest cX11_largest 5 (some .int) 3 11 := ⟨⟨tw_1800, tw_139, by decide, by decide, by decide⟩, tw_1798, tw_1799, TX11, 41, rfl⟩
theorem lm_X9_scale : zMV yX9_scale cX9_scale 11 (some .long) 3 9 := ⟨⟨tw_958, tw_130, by decide, by decide, by decide⟩, tw_956, tw_957, TX9, 17, rfl⟩
theorem lm_X11_scale : zMV yX11_scale cX11_scale 10 (some .long) 3 11 := ⟨⟨tw_1804, tw_139, by decide, by decide, by decide⟩, tw_1802, tw_1803, TX11, 41, rfl⟩
theorem lm_X9_round : zMV yX9_round cX9_round 4 (some .int) 1 9 := ⟨⟨tw_966, tw_130, by decide, by decide, by decide⟩, tw_964, tw_965, TX9, 17, rfl⟩
theorem lm_X11_round : zMV yX11_round cX11_round 4 (some .int) 1 11 := ⟨⟨tw_1816, tw_139, by decide, by decide, by decide⟩, tw_1814, tw_1815, TX11, 41, rfl⟩
theorem lm_X9_origin : zMV yX9_origin cX9_origin 5 (some .int) 3 9 := ⟨⟨tw_983, tw_130, by decide, by decide, by decide⟩, tw_981, tw_982, TX9, 17, rfl⟩
theorem lm_X11_origin : zMV yX11_origin cX11_origin 8 (some .int) 3 11 := ⟨⟨tw_1829, tw_139, by decide, by decide, by decide⟩, tw_1827, tw_1828, TX11, 41, rfl⟩
theorem lm_X9_blame : zMV yX9_blame cX9_blame 7 (some .int) 3 9 := ⟨⟨tw_998, tw_130, by decide, by decide, by decide⟩, tw_996, tw_997, TX9, 17, rfl⟩
theorem lm_X11_blame : zMV yX11_blame cX11_blame 8 (some .int) 3 11 := ⟨⟨tw_1841, tw_139, by decide, by decide, by decide⟩, tw_1839, tw_1840, TX11, 41, rfl⟩
theorem lm_X9_loop : zMV yX9_loop cX9_loop 4 (some .int) 1 9 := ⟨⟨tw_1003, tw_130, by decide, by decide, by decide⟩, tw_1001, tw_1002, TX9, 17, rfl⟩
theorem lm_X11_loop : zMV yX11_loop cX11_loop 4 (some .int) 1 11 := ⟨⟨tw_1845, tw_139, by decide, by decide, by decide⟩, tw_1843, tw_1844, TX11, 41, rfl⟩
theorem lm_X9_depth : zMV yX9_depth cX9_depth 4 (some .int) 1 9 := ⟨⟨tw_1007, tw_130, by decide, by decide, by decide⟩, tw_1005, tw_1006, TX9, 17, rfl⟩
theorem lm_X11_depth : zMV yX11_depth cX11_depth 4 (some .int) 1 11 := ⟨⟨tw_1849, tw_139, by decide, by decide, by decide⟩, tw_1847, tw_1848, TX11, 41, rfl⟩
theorem lm_X9_strokes : zMV yX9_strokes cX9_strokes 8 (some .int) 6 9 := ⟨⟨tw_1011, tw_130, by decide, by decide, by decide⟩, tw_1009, tw_1010, TX9, 17, rfl⟩
theorem lm_X11_strokes : zMV yX11_strokes cX11_strokes 9 (some .int) 6 11 := ⟨⟨tw_1853, tw_139, by decide, by decide, by decide⟩, tw_1851, tw_1852, TX11, 41, rfl⟩
theorem lm_X9_strokeAt : zMV yX9_strokeAt cX9_strokeAt 10 (some .int) 7 9 := ⟨⟨tw_1090, tw_130, by decide, by decide, by decide⟩, tw_1088, tw_1089, TX9, 17, rfl⟩
theorem lm_X11_strokeAt : zMV yX11_strokeAt cX11_strokeAt 9 (some .int) 7 11 := ⟨⟨tw_1881, tw_139, by decide, by decide, by decide⟩, tw_1879, tw_1880, TX11, 41, rfl⟩
theorem lm_X9_ink : zMV yX9_ink cX9_ink 4 (some .int) 3 9 := ⟨⟨tw_1094, tw_130, by decide, by decide, by decide⟩, tw_1092, tw_1093, TX9, 17, rfl⟩
theorem lm_X11_ink : zMV yX11_ink cX11_ink 11 (some .int) 3 11 := ⟨⟨tw_1885, tw_139, by decide, by decide, by decide⟩, tw_1883, tw_1884, TX11, 41, rfl⟩
theorem lm_X9_judge : zMV yX9_judge cX9_judge 1 (some .int) 0 9 := ⟨⟨tw_1113, tw_130, by decide, by decide, by decide⟩, tw_1111, tw_1112, TX9, 17, rfl⟩
theorem lm_X11_judge : zMV yX11_judge cX11_judge 1 (some .int) 0 11 := ⟨⟨tw_1893, tw_139, by decide, by decide, by decide⟩, tw_1891, tw_1892, TX11, 41, rfl⟩
theorem lm_X9_fits : zMV yX9_fits cX9_fits 2 (some .int) 0 9 := ⟨⟨tw_1122, tw_130, by decide, by decide, by decide⟩, tw_1120, tw_1121, TX9, 17, rfl⟩
theorem lm_X11_fits : zMV yX11_fits cX11_fits 2 (some .int) 0 11 := ⟨⟨tw_1909, tw_139, by decide, by decide, by decide⟩, tw_1907, tw_1908, TX11, 41, rfl⟩
theorem lm_X9_fit : zMV yX9_fit cX9_fit 5 (some .int) 2 9 := ⟨⟨tw_1151, tw_130, by decide, by decide, by decide⟩, tw_1149, tw_1150, TX9, 17, rfl⟩
theorem lm_X11_fit : zMV yX11_fit cX11_fit 4 (some .int) 2 11 := ⟨⟨tw_1929, tw_139, by decide, by decide, by decide⟩, tw_1927, tw_1928, TX11, 41, rfl⟩
theorem lm_X9_surely : zMV yX9_surely cX9_surely 4 (some .int) 1 9 := ⟨⟨tw_1160, tw_130, by decide, by decide, by decide⟩, tw_1158, tw_1159, TX9, 17, rfl⟩
theorem lm_X11_surely : zMV yX11_surely cX11_surely 4 (some .int) 1 11 := ⟨⟨tw_1933, tw_139, by decide, by decide, by decide⟩, tw_1931, tw_1932, TX11, 41, rfl⟩
theorem lm_X9_rounds : zMV yX9_rounds cX9_rounds 3 (some .int) 1 9 := ⟨⟨tw_1168, tw_130, by decide, by decide, by decide⟩, tw_1166, tw_1167, TX9, 17, rfl⟩
theorem lm_X11_rounds : zMV yX11_rounds cX11_rounds 3 (some .int) 1 11 := ⟨⟨tw_1937, tw_139, by decide, by decide, by decide⟩, tw_1935, tw_1936, TX11, 41, rfl⟩
theorem lm_X9_draw : zMV yX9_draw cX9_draw 5 (some .boolean) 3 9 := ⟨⟨tw_1181, tw_130, by decide, by decide, by decide⟩, tw_1179, tw_1180, TX9, 17, rfl⟩
theorem lm_X11_draw : zMV yX11_draw cX11_draw 4 (some .boolean) 3 11 := ⟨⟨tw_1945, tw_139, by decide, by decide, by decide⟩, tw_1943, tw_1944, TX11, 41, rfl⟩
theorem lm_X9_mend : zMV yX9_mend cX9_mend 2 (some .boolean) 1 9 := ⟨⟨tw_1193, tw_130, by decide, by decide, by decide⟩, tw_1191, tw_1192, TX9, 17, rfl⟩
theorem lm_X11_mend : zMV yX11_mend cX11_mend 3 (some .boolean) 1 11 := ⟨⟨tw_1957, tw_139, by decide, by decide, by decide⟩, tw_1955, tw_1956, TX11, 41, rfl⟩
theorem lm_X9_copy : zMV yX9_copy cX9_copy 3 (some .boolean) 2 9 := ⟨⟨tw_1197, tw_130, by decide, by decide, by decide⟩, tw_1195, tw_1196, TX9, 17, rfl⟩
theorem lm_X11_copy : zMV yX11_copy cX11_copy 3 (some .boolean) 2 11 := ⟨⟨tw_1961, tw_139, by decide, by decide, by decide⟩, tw_1959, tw_1960, TX11, 41, rfl⟩
theorem lm_X9_seed : zMV yX9_seed cX9_seed 2 (some .boolean) 1 9 := ⟨⟨tw_1201, tw_130, by decide, by decide, by decide⟩, tw_1199, tw_1200, TX9, 17, rfl⟩
theorem lm_X11_seed : zMV yX11_seed cX11_seed 2 (some .boolean) 1 11 := ⟨⟨tw_1965, tw_139, by decide, by decide, by decide⟩, tw_1963, tw_1964, TX11, 41, rfl⟩
theorem lm_X9_undo : zMV yX9_undo cX9_undo 1 (some .boolean) 0 9 := ⟨⟨tw_1206, tw_130, by decide, by decide, by decide⟩, tw_1204, tw_1205, TX9, 17, rfl⟩
theorem lm_X11_undo : zMV yX11_undo cX11_undo 2 (some .boolean) 0 11 := ⟨⟨tw_1970, tw_139, by decide, by decide, by decide⟩, tw_1968, tw_1969, TX11, 41, rfl⟩
theorem lm_X9_keep : zMV yX9_keep cX9_keep 1 (some .int) 0 9 := ⟨⟨tw_1214, tw_130, by decide, by decide, by decide⟩, tw_1212, tw_1213, TX9, 17, rfl⟩
theorem lm_X11_keep : zMV yX11_keep cX11_keep 2 (some .int) 0 11 := ⟨⟨tw_1974, tw_139, by decide, by decide, by decide⟩, tw_1972, tw_1973, TX11, 41, rfl⟩
theorem lm_X9_back : zMV yX9_back cX9_back 2 (some .boolean) 1 9 := ⟨⟨tw_1222, tw_130, by decide, by decide, by decide⟩, tw_1220, tw_1221, TX9, 17, rfl⟩
theorem lm_X11_back : zMV yX11_back cX11_back 3 (some .boolean) 1 11 := ⟨⟨tw_1978, tw_139, by decide, by decide, by decide⟩, tw_1976, tw_1977, TX11, 41, rfl⟩
theorem lm_X9_size : zMV yX9_size cX9_size 2 (some .int) 1 9 := ⟨⟨tw_1226, tw_130, by decide, by decide, by decide⟩, tw_1224, tw_1225, TX9, 17, rfl⟩
theorem lm_X11_size : zMV yX11_size cX11_size 2 (some .int) 1 11 := ⟨⟨tw_1990, tw_139, by decide, by decide, by decide⟩, tw_1988, tw_1989, TX11, 41, rfl⟩
theorem lm_X9_trouble : zMV yX9_trouble cX9_trouble 1 (some .int) 0 9 := ⟨⟨tw_1234, tw_130, by decide, by decide, by decide⟩, tw_1232, tw_1233, TX9, 17, rfl⟩
theorem lm_X11_trouble : zMV yX11_trouble cX11_trouble 1 (some .int) 0 11 := ⟨⟨tw_1998, tw_139, by decide, by decide, by decide⟩, tw_1996, tw_1997, TX11, 41, rfl⟩
theorem lm_X11_led : zMV yX11_led cX11_led 4 (some .int) 1 11 := ⟨⟨tw_1982, tw_139, by decide, by decide, by decide⟩, tw_1980, tw_1981, TX11, 41, rfl⟩
theorem lm_X11_thrown : zMV yX11_thrown cX11_thrown 1 (some .int) 0 11 := ⟨⟨tw_1442, tw_139, by decide, by decide, by decide⟩, tw_1440, tw_1441, TX11, 41, rfl⟩
theorem lm_X9_init : zMI yX9_init cX9_init 1 0 := ⟨⟨tw_157, tw_130, by decide, by decide, by decide⟩, tw_156, rfl⟩
theorem ln_X9 : zNL RL 8 9 17 := ⟨RX9, TX9, tyX9, rfl, rfl, inX9, tyX9_ok, tw_153, tw_154, tw_130, by decide⟩
theorem lm_X11_init : zMI yX11_init cX11_init 1 0 := ⟨⟨tw_1312, tw_139, by decide, by decide, by decide⟩, tw_1311, rfl⟩
theorem ln_X11 : zNL RL 16 11 41 := ⟨RX11, TX11, tyX11, rfl, rfl, inX11, tyX11_ok, tw_1308, tw_1309, tw_139, by decide⟩
theorem lw_ml : Cond.methodLink RL 180 yX11_led ∈ TW ∧ Cond.methodLink RL 181 yX11_thrown ∈ TW ∧ Cond.methodLink RL 15 yX9_init ∈ TW ∧ Cond.methodLink RL 18 yX11_init ∈ TW := ⟨tw_1979, tw_1439, tw_155, tw_1310⟩
def sc (xs : Nat → Int32) (j : Int) : Int := (xs j.toNat).toInt
def bz (x : Int) : Int := if w32 x = 0 then 0 else 1
theorem bz_01 (x : Int) : bz x = 0 ∨ bz x = 1 := by
  unfold bz
  split <;> simp
theorem sc_i32 (xs : Nat → Int32) (j : Int) : i32 (sc xs j) := by
  unfold i32 sc
  have h1 := Int32.minValue_le_toInt (xs j.toNat)
  have h2 := Int32.toInt_le (xs j.toNat)
  have e1 : Int32.minValue.toInt = -2147483648 := by decide
  have e2 : Int32.maxValue.toInt = 2147483647 := by decide
  omega
/-- what holds throughout the law -/
def lwS (p : Program) (m : MethodId) (c : Code) (s : State) (b : Nat) (g : zGeo) (L : Nat) (xs : Nat → Int32) (i : Int) : Prop := zC p m c cL_law 7 s #[Value.ref b] RL g ∧ zZ g s ∧ va_X b L xs s s.heap ∧ b < s.heap.size ∧ ¬ zA g b ∧ L ≤ 4096 ∧ 0 ≤ i ∧ i + 8 ≤ (L : Int)
abbrev lwL (g : zGeo) (b : Nat) (i : Int) : List (Nat × Value) := [(0, Value.ref b), (1, qR g 0), (2, qR g 124), (3, qR g 145), (4, qI i)]
/-- the rest of a turn -/
def lwK (p : Program) (l : Launch) (e : Env) (s : State) (m : MethodId) (below : List Frame) (meth : Method) (c : Code) (cells slots : Nat) (Q : State → Prop) (g : zGeo) (b : Nat) (i : Int) : Prop := ∀ (M : Int → Int → Int) (G : GG) (H : Heap) (locs : List Loc) (ls : Array Slot), Inv M G → zH g s (M, G) H locs → lv_has ls 7 (lwL g b i) → W p l e room_1 s m #[Value.ref b] below meth c H locs (cells + 12) (slots + 400) Q (F0 m 1689 ls [])
section LH
variable {p : Program} {l : Launch} {e : Env} {R : Room} {s : State} {m : MethodId} {below : List Frame} {meth : Method} {c : Code} {H : Heap} {locs : List Loc} {cells slots : Nat} {Q : State → Prop} {ls : Array Slot} {rest : List Value} {g : zGeo} {h : Hp} {b L : Nat} {xs : Nat → Int32} {i : Int} {pc : Nat}
theorem z_sld {j : Int} (C : zC p m c cL_law 7 s #[Value.ref b] RL g) (hX : va_X b L xs s s.heap) (hbl : b < s.heap.size) (hbA : ¬ zA g b) (hL : L ≤ 4096) (Hh : zH g s h H locs) (hdg : decode cL_law pc = .ok (.iaload, 1)) (j0 : 0 ≤ j) (j1 : j < (L : Int)) (kk : W p l e R s m #[Value.ref b] below meth c H locs cells slots Q (F0 m (pc + 1) ls (qI (sc xs j) :: rest))) : W p l e R s m #[Value.ref b] below meth c H locs cells slots Q (F0 m pc ls (qI j :: Value.ref b :: rest)) := by
  have hw : w32 j = j := w32_of (by omega) (by omega)
  obtain ⟨i1, i2⟩ := zx_in (i := j) (n := (L : Int)) (by rw [hw]; exact j0) (by rw [hw]; exact j1)
  rw [Int.toNat_natCast] at i1
  refine va_sld C.1.1 C.1.2.1 hX hbl hbA Hh.2 i1 hdg ?_
  have e1 : (Int32.ofInt j).toNatClampNeg = j.toNat := by rw [hw] at i2; omega
  rw [e1]
  have e2 : Value.int (xs j.toNat) = qI (sc xs j) := by
    unfold sc qI
    rw [Int32.ofInt_toInt]
  rw [e2]
  exact kk
theorem zl_arg {k : Int} (S : lwS p m c s b g L xs i) (hl : lv_has ls 7 (lwL g b i)) (Hh : zH g s h H locs) (d0 : decode cL_law pc = .ok (.aload_n 0, 1)) (d1 : decode cL_law (pc + 1) = .ok (.iload 4, 2)) (d2 : decode cL_law (pc + 3) = .ok (.iconst k, 1)) (d3 : decode cL_law (pc + 4) = .ok (.iadd, 1)) (d4 : decode cL_law (pc + 5) = .ok (.iaload, 1)) (k0 : 0 ≤ k) (k8 : k < 8) (kk : W p l e R s m #[Value.ref b] below meth c H locs cells slots Q (F0 m (pc + 6) ls (qI (sc xs (i + k)) :: rest))) : W p l e R s m #[Value.ref b] below meth c H locs cells slots Q (F0 m pc ls rest) := by
  obtain ⟨C, -, hX, hbl, hbA, hL, i0, iL⟩ := S
  have hx := C.1.1
  have hb := C.1.2.1
  refine lv_aload_n hx hb d0 rfl (lv_at hl 0 rfl) ?_
  refine lv_iload hx hb d1 (lv_at hl 4 rfl) ?_
  refine z_iconst C d2 ?_
  refine z_iadd C d3 ?_
  exact z_sld C hX hbl hbA hL Hh d4 (by omega) (by omega) kk
theorem zl_argB {k : Int} (S : lwS p m c s b g L xs i) (hl : lv_has ls 7 (lwL g b i)) (Hh : zH g s h H locs) (d0 : decode cL_law pc = .ok (.aload_n 0, 1)) (d1 : decode cL_law (pc + 1) = .ok (.iload 4, 2)) (d2 : decode cL_law (pc + 3) = .ok (.bipush k, 2)) (hk : (Int8.ofInt k).toInt32 = Int32.ofInt k) (d3 : decode cL_law (pc + 5) = .ok (.iadd, 1)) (d4 : decode cL_law (pc + 6) = .ok (.iaload, 1)) (k0 : 0 ≤ k) (k8 : k < 8) (kk : W p l e R s m #[Value.ref b] below meth c H locs cells slots Q (F0 m (pc + 7) ls (qI (sc xs (i + k)) :: rest))) : W p l e R s m #[Value.ref b] below meth c H locs cells slots Q (F0 m pc ls rest) := by
  obtain ⟨C, -, hX, hbl, hbA, hL, i0, iL⟩ := S
  have hx := C.1.1
  have hb := C.1.2.1
  refine lv_aload_n hx hb d0 rfl (lv_at hl 0 rfl) ?_
  refine lv_iload hx hb d1 (lv_at hl 4 rfl) ?_
  refine z_bipush C d2 hk ?_
  refine z_iadd C d3 ?_
  exact z_sld C hX hbl hbA hL Hh d4 (by omega) (by omega) kk
theorem zl_bool {x off off2 : Int} {tgt fin : Nat} (C : zC p m c cL_law 7 s #[Value.ref b] RL g) (d0 : decode cL_law pc = .ok (.ifCond .eq off, 3)) (d1 : decode cL_law (pc + 3) = .ok (.iconst 1, 1)) (d2 : decode cL_law (pc + 4) = .ok (.goto off2, 3)) (d3 : decode cL_law tgt = .ok (.iconst 0, 1)) (h1 : (pc : Int) + off = (tgt : Int)) (h2 : ((pc + 4 : Nat) : Int) + off2 = (fin : Int)) (h3 : tgt + 1 = fin) (kk : W p l e R s m #[Value.ref b] below meth c H locs cells slots Q (F0 m fin ls (qI (bz x) :: rest))) : W p l e R s m #[Value.ref b] below meth c H locs cells slots Q (F0 m pc ls (qI x :: rest)) := by
  have hx := C.1.1
  have hb := C.1.2.1
  refine lv_if_eq (tgt := tgt) hx hb d0 h1 (fun q => ?_) (fun q => ?_)
  · refine z_iconst C d3 ?_
    rw [h3]
    have : w32 x = 0 := by
      have := (w32_eq x 0).mp q
      rw [this]; rfl
    have e : bz x = 0 := if_pos this
    rw [e] at kk
    exact kk
  · refine z_iconst C d1 ?_
    refine lv_goto (tgt := fin) hx hb d2 h2 ?_
    have : ¬ w32 x = 0 := fun z => q ((w32_eq x 0).mpr (by rw [z]; rfl))
    have e : bz x = 1 := if_neg this
    rw [e] at kk
    exact kk
theorem lcmp_self (v : Int) : Int32.ofInt (lcmp v v) = 0 := by
  unfold lcmp
  rw [if_neg (by omega), if_pos rfl]
  rfl
end LH
