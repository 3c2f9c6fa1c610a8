theorem dX7_with_4 : decode cX7_with 4 = .ok (.iconst 0, 1) := by decide +kernel
theorem dX7_with_5 : decode cX7_with 5 = .ok (.istore 5, 2) := by decide +kernel
theorem dX7_with_7 : decode cX7_with 7 = .ok (.iload 5, 2) := by decide +kernel
theorem dX7_with_9 : decode cX7_with 9 = .ok (.iconst 3, 1) := by decide +kernel
theorem dX7_with_10 : decode cX7_with 10 = .ok (.if_icmp .ge 45, 3) := by decide +kernel
theorem dX7_with_13 : decode cX7_with 13 = .ok (.aload_n 0, 1) := by decide +kernel
theorem dX7_with_14 : decode cX7_with 14 = .ok (.getfield 11, 3) := by decide +kernel
theorem dX7_with_17 : decode cX7_with 17 = .ok (.iconst 3, 1) := by decide +kernel
theorem dX7_with_18 : decode cX7_with 18 = .ok (.iload_n 1, 1) := by decide +kernel
theorem dX7_with_19 : decode cX7_with 19 = .ok (.imul, 1) := by decide +kernel
theorem dX7_with_20 : decode cX7_with 20 = .ok (.iload 5, 2) := by decide +kernel
theorem dX7_with_22 : decode cX7_with 22 = .ok (.iadd, 1) := by decide +kernel
theorem dX7_with_23 : decode cX7_with 23 = .ok (.laload, 1) := by decide +kernel
theorem dX7_with_24 : decode cX7_with 24 = .ok (.lstore 6, 2) := by decide +kernel
theorem dX7_with_26 : decode cX7_with 26 = .ok (.lload_n 3, 1) := by decide +kernel
theorem dX7_with_27 : decode cX7_with 27 = .ok (.iload_n 2, 1) := by decide +kernel
theorem dX7_with_28 : decode cX7_with 28 = .ok (.iload 5, 2) := by decide +kernel
theorem dX7_with_30 : decode cX7_with 30 = .ok (.ishr, 1) := by decide +kernel
theorem dX7_with_31 : decode cX7_with 31 = .ok (.iconst 1, 1) := by decide +kernel
theorem dX7_with_32 : decode cX7_with 32 = .ok (.iand, 1) := by decide +kernel
theorem dX7_with_33 : decode cX7_with 33 = .ok (.ifCond .eq 8, 3) := by decide +kernel
theorem dX7_with_36 : decode cX7_with 36 = .ok (.lload 6, 2) := by decide +kernel
theorem dX7_with_38 : decode cX7_with 38 = .ok (.goto 9, 3) := by decide +kernel
theorem dX7_with_41 : decode cX7_with 41 = .ok (.lload 6, 2) := by decide +kernel
theorem dX7_with_43 : decode cX7_with 43 = .ok (.ldc2_w 38, 3) := by decide +kernel
theorem dX7_with_46 : decode cX7_with 46 = .ok (.lxor, 1) := by decide +kernel
theorem dX7_with_47 : decode cX7_with 47 = .ok (.land, 1) := by decide +kernel
theorem dX7_with_48 : decode cX7_with 48 = .ok (.lstore_n 3, 1) := by decide +kernel
theorem dX7_with_49 : decode cX7_with 49 = .ok (.iinc 5 1, 3) := by decide +kernel
theorem dX7_with_52 : decode cX7_with 52 = .ok (.goto (-45), 3) := by decide +kernel
theorem dX7_with_55 : decode cX7_with 55 = .ok (.lload_n 3, 1) := by decide +kernel
theorem dX7_with_56 : decode cX7_with 56 = .ok (.lreturn, 1) := by decide +kernel
theorem dX7_overlay_0 : decode cX7_overlay 0 = .ok (.iconst 0, 1) := by decide +kernel
theorem dX7_overlay_1 : decode cX7_overlay 1 = .ok (.istore 5, 2) := by decide +kernel
theorem dX7_overlay_3 : decode cX7_overlay 3 = .ok (.iload 5, 2) := by decide +kernel
theorem dX7_overlay_5 : decode cX7_overlay 5 = .ok (.iconst 3, 1) := by decide +kernel
theorem dX7_overlay_6 : decode cX7_overlay 6 = .ok (.if_icmp .ge 50, 3) := by decide +kernel
theorem dX7_overlay_9 : decode cX7_overlay 9 = .ok (.iconst 3, 1) := by decide +kernel
theorem dX7_overlay_10 : decode cX7_overlay 10 = .ok (.iload_n 1, 1) := by decide +kernel
theorem dX7_overlay_11 : decode cX7_overlay 11 = .ok (.imul, 1) := by decide +kernel
theorem dX7_overlay_12 : decode cX7_overlay 12 = .ok (.iload 5, 2) := by decide +kernel
theorem dX7_overlay_14 : decode cX7_overlay 14 = .ok (.iadd, 1) := by decide +kernel
theorem dX7_overlay_15 : decode cX7_overlay 15 = .ok (.istore 6, 2) := by decide +kernel
theorem dX7_overlay_17 : decode cX7_overlay 17 = .ok (.aload_n 0, 1) := by decide +kernel
theorem dX7_overlay_18 : decode cX7_overlay 18 = .ok (.iload 6, 2) := by decide +kernel
theorem dX7_overlay_20 : decode cX7_overlay 20 = .ok (.iload 4, 2) := by decide +kernel
theorem dX7_overlay_22 : decode cX7_overlay 22 = .ok (.iload 5, 2) := by decide +kernel
theorem dX7_overlay_24 : decode cX7_overlay 24 = .ok (.ishr, 1) := by decide +kernel
theorem dX7_overlay_25 : decode cX7_overlay 25 = .ok (.iconst 1, 1) := by decide +kernel
theorem dX7_overlay_26 : decode cX7_overlay 26 = .ok (.iand, 1) := by decide +kernel
theorem dX7_overlay_27 : decode cX7_overlay 27 = .ok (.ifCond .eq 12, 3) := by decide +kernel
theorem dX7_overlay_30 : decode cX7_overlay 30 = .ok (.aload_n 0, 1) := by decide +kernel
theorem dX7_overlay_31 : decode cX7_overlay 31 = .ok (.iload 6, 2) := by decide +kernel
theorem dX7_overlay_33 : decode cX7_overlay 33 = .ok (.laload, 1) := by decide +kernel
theorem dX7_overlay_34 : decode cX7_overlay 34 = .ok (.lload_n 2, 1) := by decide +kernel
theorem dX7_overlay_35 : decode cX7_overlay 35 = .ok (.lor, 1) := by decide +kernel
theorem dX7_overlay_36 : decode cX7_overlay 36 = .ok (.goto 13, 3) := by decide +kernel
theorem dX7_overlay_39 : decode cX7_overlay 39 = .ok (.aload_n 0, 1) := by decide +kernel
theorem dX7_overlay_40 : decode cX7_overlay 40 = .ok (.iload 6, 2) := by decide +kernel
theorem dX7_overlay_42 : decode cX7_overlay 42 = .ok (.laload, 1) := by decide +kernel
theorem dX7_overlay_43 : decode cX7_overlay 43 = .ok (.lload_n 2, 1) := by decide +kernel
theorem dX7_overlay_44 : decode cX7_overlay 44 = .ok (.ldc2_w 38, 3) := by decide +kernel
theorem dX7_overlay_47 : decode cX7_overlay 47 = .ok (.lxor, 1) := by decide +kernel
theorem dX7_overlay_48 : decode cX7_overlay 48 = .ok (.land, 1) := by decide +kernel
theorem dX7_overlay_49 : decode cX7_overlay 49 = .ok (.lastore, 1) := by decide +kernel
theorem dX7_overlay_50 : decode cX7_overlay 50 = .ok (.iinc 5 1, 3) := by decide +kernel
theorem dX7_overlay_53 : decode cX7_overlay 53 = .ok (.goto (-50), 3) := by decide +kernel
theorem dX7_overlay_56 : decode cX7_overlay 56 = .ok (.return_, 1) := by decide +kernel
theorem dX8_init_0 : decode cX8_init 0 = .ok (.aload_n 0, 1) := by decide +kernel
theorem dX8_init_1 : decode cX8_init 1 = .ok (.invokespecial 3, 3) := by decide +kernel
theorem dX8_init_4 : decode cX8_init 4 = .ok (.aload_n 0, 1) := by decide +kernel
theorem dX8_init_5 : decode cX8_init 5 = .ok (.iconst 0, 1) := by decide +kernel
theorem dX8_init_6 : decode cX8_init 6 = .ok (.putfield 9, 3) := by decide +kernel
theorem dX8_init_9 : decode cX8_init 9 = .ok (.aload_n 0, 1) := by decide +kernel
theorem dX8_init_10 : decode cX8_init 10 = .ok (.iconst 0, 1) := by decide +kernel
theorem dX8_init_11 : decode cX8_init 11 = .ok (.putfield 15, 3) := by decide +kernel
theorem dX8_init_14 : decode cX8_init 14 = .ok (.aload_n 0, 1) := by decide +kernel
theorem dX8_init_15 : decode cX8_init 15 = .ok (.iconst 0, 1) := by decide +kernel
theorem dX8_init_16 : decode cX8_init 16 = .ok (.putfield 18, 3) := by decide +kernel
theorem dX8_init_19 : decode cX8_init 19 = .ok (.aload_n 0, 1) := by decide +kernel
theorem dX8_init_20 : decode cX8_init 20 = .ok (.sipush 216, 3) := by decide +kernel
theorem dX8_init_23 : decode cX8_init 23 = .ok (.newarray .int, 2) := by decide +kernel
theorem dX8_init_25 : decode cX8_init 25 = .ok (.putfield 21, 3) := by decide +kernel
theorem dX8_init_28 : decode cX8_init 28 = .ok (.aload_n 0, 1) := by decide +kernel
theorem dX8_init_29 : decode cX8_init 29 = .ok (.bipush 6, 2) := by decide +kernel
theorem dX8_init_31 : decode cX8_init 31 = .ok (.newarray .int, 2) := by decide +kernel
theorem dX8_init_33 : decode cX8_init 33 = .ok (.putfield 25, 3) := by decide +kernel
theorem dX8_init_36 : decode cX8_init 36 = .ok (.aload_n 0, 1) := by decide +kernel
theorem dX8_init_37 : decode cX8_init 37 = .ok (.bipush 24, 2) := by decide +kernel
theorem dX8_init_39 : decode cX8_init 39 = .ok (.newarray .int, 2) := by decide +kernel
theorem dX8_init_41 : decode cX8_init 41 = .ok (.putfield 28, 3) := by decide +kernel
theorem dX8_init_44 : decode cX8_init 44 = .ok (.aload_n 0, 1) := by decide +kernel
theorem dX8_init_45 : decode cX8_init 45 = .ok (.iconst 0, 1) := by decide +kernel
theorem dX8_init_46 : decode cX8_init 46 = .ok (.putfield 31, 3) := by decide +kernel
theorem dX8_init_49 : decode cX8_init 49 = .ok (.aload_n 0, 1) := by decide +kernel
theorem dX8_init_50 : decode cX8_init 50 = .ok (.iconst 0, 1) := by decide +kernel
theorem dX8_init_51 : decode cX8_init 51 = .ok (.putfield 34, 3) := by decide +kernel
theorem dX8_init_54 : decode cX8_init 54 = .ok (.return_, 1) := by decide +kernel
theorem dX8_become_0 : decode cX8_become 0 = .ok (.aload_n 0, 1) := by decide +kernel
theorem dX8_become_1 : decode cX8_become 1 = .ok (.aload_n 1, 1) := by decide +kernel
theorem dX8_become_2 : decode cX8_become 2 = .ok (.getfield 9, 3) := by decide +kernel
theorem dX8_become_5 : decode cX8_become 5 = .ok (.putfield 9, 3) := by decide +kernel
theorem dX8_become_8 : decode cX8_become 8 = .ok (.aload_n 0, 1) := by decide +kernel
theorem dX8_become_9 : decode cX8_become 9 = .ok (.aload_n 1, 1) := by decide +kernel
theorem dX8_become_10 : decode cX8_become 10 = .ok (.getfield 15, 3) := by decide +kernel
theorem dX8_become_13 : decode cX8_become 13 = .ok (.putfield 15, 3) := by decide +kernel
theorem dX8_become_16 : decode cX8_become 16 = .ok (.aload_n 0, 1) := by decide +kernel
theorem dX8_become_17 : decode cX8_become 17 = .ok (.aload_n 1, 1) := by decide +kernel
theorem dX8_become_18 : decode cX8_become 18 = .ok (.getfield 18, 3) := by decide +kernel
theorem dX8_become_21 : decode cX8_become 21 = .ok (.putfield 18, 3) := by decide +kernel
theorem dX8_become_24 : decode cX8_become 24 = .ok (.aload_n 1, 1) := by decide +kernel
theorem dX8_become_25 : decode cX8_become 25 = .ok (.getfield 21, 3) := by decide +kernel
theorem dX8_become_28 : decode cX8_become 28 = .ok (.iconst 0, 1) := by decide +kernel
theorem dX8_become_29 : decode cX8_become 29 = .ok (.aload_n 0, 1) := by decide +kernel
theorem dX8_become_30 : decode cX8_become 30 = .ok (.getfield 21, 3) := by decide +kernel
theorem dX8_become_33 : decode cX8_become 33 = .ok (.iconst 0, 1) := by decide +kernel
theorem dX8_become_34 : decode cX8_become 34 = .ok (.aload_n 0, 1) := by decide +kernel
theorem dX8_become_35 : decode cX8_become 35 = .ok (.getfield 21, 3) := by decide +kernel
theorem dX8_become_38 : decode cX8_become 38 = .ok (.arraylength, 1) := by decide +kernel
theorem dX8_become_39 : decode cX8_become 39 = .ok (.invokestatic 37, 3) := by decide +kernel
theorem dX8_become_42 : decode cX8_become 42 = .ok (.aload_n 1, 1) := by decide +kernel
theorem dX8_become_43 : decode cX8_become 43 = .ok (.getfield 25, 3) := by decide +kernel
theorem dX8_become_46 : decode cX8_become 46 = .ok (.iconst 0, 1) := by decide +kernel
theorem dX8_become_47 : decode cX8_become 47 = .ok (.aload_n 0, 1) := by decide +kernel
theorem dX8_become_48 : decode cX8_become 48 = .ok (.getfield 25, 3) := by decide +kernel
theorem dX8_become_51 : decode cX8_become 51 = .ok (.iconst 0, 1) := by decide +kernel
theorem dX8_become_52 : decode cX8_become 52 = .ok (.aload_n 0, 1) := by decide +kernel
theorem dX8_become_53 : decode cX8_become 53 = .ok (.getfield 25, 3) := by decide +kernel
theorem dX8_become_56 : decode cX8_become 56 = .ok (.arraylength, 1) := by decide +kernel
theorem dX8_become_57 : decode cX8_become 57 = .ok (.invokestatic 37, 3) := by decide +kernel
theorem dX8_become_60 : decode cX8_become 60 = .ok (.aload_n 1, 1) := by decide +kernel
theorem dX8_become_61 : decode cX8_become 61 = .ok (.getfield 28, 3) := by decide +kernel
theorem dX8_become_64 : decode cX8_become 64 = .ok (.iconst 0, 1) := by decide +kernel
theorem dX8_become_65 : decode cX8_become 65 = .ok (.aload_n 0, 1) := by decide +kernel
theorem dX8_become_66 : decode cX8_become 66 = .ok (.getfield 28, 3) := by decide +kernel
theorem dX8_become_69 : decode cX8_become 69 = .ok (.iconst 0, 1) := by decide +kernel
theorem dX8_become_70 : decode cX8_become 70 = .ok (.aload_n 0, 1) := by decide +kernel
theorem dX8_become_71 : decode cX8_become 71 = .ok (.getfield 28, 3) := by decide +kernel
theorem dX8_become_74 : decode cX8_become 74 = .ok (.arraylength, 1) := by decide +kernel
theorem dX8_become_75 : decode cX8_become 75 = .ok (.invokestatic 37, 3) := by decide +kernel
theorem dX8_become_78 : decode cX8_become 78 = .ok (.aload_n 0, 1) := by decide +kernel
theorem dX8_become_79 : decode cX8_become 79 = .ok (.aload_n 1, 1) := by decide +kernel
theorem dX8_become_80 : decode cX8_become 80 = .ok (.getfield 31, 3) := by decide +kernel
theorem dX8_become_83 : decode cX8_become 83 = .ok (.putfield 31, 3) := by decide +kernel
theorem dX8_become_86 : decode cX8_become 86 = .ok (.aload_n 0, 1) := by decide +kernel
theorem dX8_become_87 : decode cX8_become 87 = .ok (.aload_n 1, 1) := by decide +kernel
theorem dX8_become_88 : decode cX8_become 88 = .ok (.getfield 34, 3) := by decide +kernel
theorem dX8_become_91 : decode cX8_become 91 = .ok (.putfield 34, 3) := by decide +kernel
theorem dX8_become_94 : decode cX8_become 94 = .ok (.return_, 1) := by decide +kernel
theorem dX8_clear_0 : decode cX8_clear 0 = .ok (.aload_n 0, 1) := by decide +kernel
theorem dX8_clear_1 : decode cX8_clear 1 = .ok (.iconst 0, 1) := by decide +kernel
theorem dX8_clear_2 : decode cX8_clear 2 = .ok (.putfield 9, 3) := by decide +kernel
theorem dX8_clear_5 : decode cX8_clear 5 = .ok (.aload_n 0, 1) := by decide +kernel
theorem dX8_clear_6 : decode cX8_clear 6 = .ok (.iconst 0, 1) := by decide +kernel
theorem dX8_clear_7 : decode cX8_clear 7 = .ok (.putfield 15, 3) := by decide +kernel
theorem dX8_clear_10 : decode cX8_clear 10 = .ok (.aload_n 0, 1) := by decide +kernel
theorem dX8_clear_11 : decode cX8_clear 11 = .ok (.iconst 0, 1) := by decide +kernel
theorem dX8_clear_12 : decode cX8_clear 12 = .ok (.putfield 18, 3) := by decide +kernel
theorem dX8_clear_15 : decode cX8_clear 15 = .ok (.aload_n 0, 1) := by decide +kernel
theorem dX8_clear_16 : decode cX8_clear 16 = .ok (.getfield 21, 3) := by decide +kernel
theorem dX8_clear_19 : decode cX8_clear 19 = .ok (.iconst 0, 1) := by decide +kernel
theorem dX8_clear_20 : decode cX8_clear 20 = .ok (.invokestatic 43, 3) := by decide +kernel
theorem dX8_clear_23 : decode cX8_clear 23 = .ok (.aload_n 0, 1) := by decide +kernel
theorem dX8_clear_24 : decode cX8_clear 24 = .ok (.getfield 25, 3) := by decide +kernel
theorem dX8_clear_27 : decode cX8_clear 27 = .ok (.bipush (-2), 2) := by decide +kernel
theorem dX8_clear_29 : decode cX8_clear 29 = .ok (.invokestatic 43, 3) := by decide +kernel
theorem dX8_clear_32 : decode cX8_clear 32 = .ok (.iconst 0, 1) := by decide +kernel
theorem dX8_clear_33 : decode cX8_clear 33 = .ok (.istore_n 1, 1) := by decide +kernel
theorem dX8_clear_34 : decode cX8_clear 34 = .ok (.iload_n 1, 1) := by decide +kernel
theorem dX8_clear_35 : decode cX8_clear 35 = .ok (.bipush 6, 2) := by decide +kernel
theorem dX8_clear_37 : decode cX8_clear 37 = .ok (.if_icmp .ge 14, 3) := by decide +kernel
theorem dX8_clear_40 : decode cX8_clear 40 = .ok (.aload_n 0, 1) := by decide +kernel
theorem dX8_clear_41 : decode cX8_clear 41 = .ok (.iload_n 1, 1) := by decide +kernel
theorem dX8_clear_42 : decode cX8_clear 42 = .ok (.invokevirtual 49, 3) := by decide +kernel
theorem dX8_clear_45 : decode cX8_clear 45 = .ok (.iinc 1 1, 3) := by decide +kernel
theorem dX8_clear_48 : decode cX8_clear 48 = .ok (.goto (-14), 3) := by decide +kernel
theorem dX8_clear_51 : decode cX8_clear 51 = .ok (.aload_n 0, 1) := by decide +kernel
theorem dX8_clear_52 : decode cX8_clear 52 = .ok (.iconst 0, 1) := by decide +kernel
theorem dX8_clear_53 : decode cX8_clear 53 = .ok (.putfield 31, 3) := by decide +kernel
theorem dX8_clear_56 : decode cX8_clear 56 = .ok (.aload_n 0, 1) := by decide +kernel
theorem dX8_clear_57 : decode cX8_clear 57 = .ok (.iconst 0, 1) := by decide +kernel
theorem dX8_clear_58 : decode cX8_clear 58 = .ok (.putfield 34, 3) := by decide +kernel
theorem dX8_clear_61 : decode cX8_clear 61 = .ok (.return_, 1) := by decide +kernel
theorem dX8_makeTrue_0 : decode cX8_makeTrue 0 = .ok (.aload_n 0, 1) := by decide +kernel
theorem dX8_makeTrue_1 : decode cX8_makeTrue 1 = .ok (.getfield 28, 3) := by decide +kernel
theorem dX8_makeTrue_4 : decode cX8_makeTrue 4 = .ok (.iconst 4, 1) := by decide +kernel
theorem dX8_makeTrue_5 : decode cX8_makeTrue 5 = .ok (.iload_n 1, 1) := by decide +kernel
theorem dX8_makeTrue_6 : decode cX8_makeTrue 6 = .ok (.imul, 1) := by decide +kernel
theorem dX8_makeTrue_7 : decode cX8_makeTrue 7 = .ok (.iconst 0, 1) := by decide +kernel
theorem dX8_makeTrue_8 : decode cX8_makeTrue 8 = .ok (.iastore, 1) := by decide +kernel
theorem dX8_makeTrue_9 : decode cX8_makeTrue 9 = .ok (.iconst 1, 1) := by decide +kernel
theorem dX8_makeTrue_10 : decode cX8_makeTrue 10 = .ok (.istore_n 2, 1) := by decide +kernel
theorem dX8_makeTrue_11 : decode cX8_makeTrue 11 = .ok (.iload_n 2, 1) := by decide +kernel
theorem dX8_makeTrue_12 : decode cX8_makeTrue 12 = .ok (.iconst 4, 1) := by decide +kernel
theorem dX8_makeTrue_13 : decode cX8_makeTrue 13 = .ok (.if_icmp .ge 21, 3) := by decide +kernel
theorem dX8_makeTrue_16 : decode cX8_makeTrue 16 = .ok (.aload_n 0, 1) := by decide +kernel
theorem dX8_makeTrue_17 : decode cX8_makeTrue 17 = .ok (.getfield 28, 3) := by decide +kernel
theorem dX8_makeTrue_20 : decode cX8_makeTrue 20 = .ok (.iconst 4, 1) := by decide +kernel
theorem dX8_makeTrue_21 : decode cX8_makeTrue 21 = .ok (.iload_n 1, 1) := by decide +kernel
theorem dX8_makeTrue_22 : decode cX8_makeTrue 22 = .ok (.imul, 1) := by decide +kernel
theorem dX8_makeTrue_23 : decode cX8_makeTrue 23 = .ok (.iload_n 2, 1) := by decide +kernel
theorem dX8_makeTrue_24 : decode cX8_makeTrue 24 = .ok (.iadd, 1) := by decide +kernel
theorem dX8_makeTrue_25 : decode cX8_makeTrue 25 = .ok (.bipush (-2), 2) := by decide +kernel
theorem dX8_makeTrue_27 : decode cX8_makeTrue 27 = .ok (.iastore, 1) := by decide +kernel
theorem dX8_makeTrue_28 : decode cX8_makeTrue 28 = .ok (.iinc 2 1, 3) := by decide +kernel
theorem dX8_makeTrue_31 : decode cX8_makeTrue 31 = .ok (.goto (-20), 3) := by decide +kernel
theorem dX8_makeTrue_34 : decode cX8_makeTrue 34 = .ok (.return_, 1) := by decide +kernel
theorem dX8_places_0 : decode cX8_places 0 = .ok (.aload_n 0, 1) := by decide +kernel
theorem dX8_places_1 : decode cX8_places 1 = .ok (.getfield 9, 3) := by decide +kernel
theorem dX8_places_4 : decode cX8_places 4 = .ok (.aload_n 0, 1) := by decide +kernel
theorem dX8_places_5 : decode cX8_places 5 = .ok (.getfield 15, 3) := by decide +kernel
theorem dX8_places_8 : decode cX8_places 8 = .ok (.imul, 1) := by decide +kernel
theorem dX8_places_9 : decode cX8_places 9 = .ok (.ireturn, 1) := by decide +kernel
theorem dX8_holds_0 : decode cX8_holds 0 = .ok (.iload_n 1, 1) := by decide +kernel
theorem dX8_holds_1 : decode cX8_holds 1 = .ok (.bipush 6, 2) := by decide +kernel
theorem dX8_holds_3 : decode cX8_holds 3 = .ok (.irem, 1) := by decide +kernel
theorem dX8_holds_4 : decode cX8_holds 4 = .ok (.aload_n 0, 1) := by decide +kernel
theorem dX8_holds_5 : decode cX8_holds 5 = .ok (.getfield 9, 3) := by decide +kernel
theorem dX8_holds_8 : decode cX8_holds 8 = .ok (.if_icmp .ge 18, 3) := by decide +kernel
theorem dX8_holds_11 : decode cX8_holds 11 = .ok (.iload_n 1, 1) := by decide +kernel
theorem dX8_holds_12 : decode cX8_holds 12 = .ok (.bipush 6, 2) := by decide +kernel
theorem dX8_holds_14 : decode cX8_holds 14 = .ok (.idiv, 1) := by decide +kernel
theorem dX8_holds_15 : decode cX8_holds 15 = .ok (.aload_n 0, 1) := by decide +kernel
theorem dX8_holds_16 : decode cX8_holds 16 = .ok (.getfield 15, 3) := by decide +kernel
theorem dX8_holds_19 : decode cX8_holds 19 = .ok (.if_icmp .ge 7, 3) := by decide +kernel
theorem dX8_holds_22 : decode cX8_holds 22 = .ok (.iconst 1, 1) := by decide +kernel
theorem dX8_holds_23 : decode cX8_holds 23 = .ok (.goto 4, 3) := by decide +kernel
theorem dX8_holds_26 : decode cX8_holds 26 = .ok (.iconst 0, 1) := by decide +kernel
theorem dX8_holds_27 : decode cX8_holds 27 = .ok (.ireturn, 1) := by decide +kernel
theorem dX8_copyingTowns_0 : decode cX8_copyingTowns 0 = .ok (.iconst 0, 1) := by decide +kernel
theorem dX8_copyingTowns_1 : decode cX8_copyingTowns 1 = .ok (.istore_n 1, 1) := by decide +kernel
theorem dX8_copyingTowns_2 : decode cX8_copyingTowns 2 = .ok (.iconst 0, 1) := by decide +kernel
theorem dX8_copyingTowns_3 : decode cX8_copyingTowns 3 = .ok (.istore_n 2, 1) := by decide +kernel
theorem dX8_copyingTowns_4 : decode cX8_copyingTowns 4 = .ok (.iload_n 2, 1) := by decide +kernel
theorem dX8_copyingTowns_5 : decode cX8_copyingTowns 5 = .ok (.aload_n 0, 1) := by decide +kernel
theorem dX8_copyingTowns_6 : decode cX8_copyingTowns 6 = .ok (.getfield 18, 3) := by decide +kernel
theorem dX8_copyingTowns_9 : decode cX8_copyingTowns 9 = .ok (.if_icmp .ge 21, 3) := by decide +kernel
theorem dX8_copyingTowns_12 : decode cX8_copyingTowns 12 = .ok (.aload_n 0, 1) := by decide +kernel
theorem dX8_copyingTowns_13 : decode cX8_copyingTowns 13 = .ok (.getfield 25, 3) := by decide +kernel
theorem dX8_copyingTowns_16 : decode cX8_copyingTowns 16 = .ok (.iload_n 2, 1) := by decide +kernel
theorem dX8_copyingTowns_17 : decode cX8_copyingTowns 17 = .ok (.iaload, 1) := by decide +kernel
theorem dX8_copyingTowns_18 : decode cX8_copyingTowns 18 = .ok (.ifCond .lt 6, 3) := by decide +kernel
theorem dX8_copyingTowns_21 : decode cX8_copyingTowns 21 = .ok (.iinc 1 1, 3) := by decide +kernel
theorem dX8_copyingTowns_24 : decode cX8_copyingTowns 24 = .ok (.iinc 2 1, 3) := by decide +kernel
theorem dX8_copyingTowns_27 : decode cX8_copyingTowns 27 = .ok (.goto (-23), 3) := by decide +kernel
theorem dX8_copyingTowns_30 : decode cX8_copyingTowns 30 = .ok (.iload_n 1, 1) := by decide +kernel
theorem dX8_copyingTowns_31 : decode cX8_copyingTowns 31 = .ok (.ireturn, 1) := by decide +kernel
theorem dX8_sneezes_0 : decode cX8_sneezes 0 = .ok (.iconst 0, 1) := by decide +kernel
theorem dX8_sneezes_1 : decode cX8_sneezes 1 = .ok (.istore_n 1, 1) := by decide +kernel
theorem dX8_sneezes_2 : decode cX8_sneezes 2 = .ok (.iload_n 1, 1) := by decide +kernel
theorem dX8_sneezes_3 : decode cX8_sneezes 3 = .ok (.aload_n 0, 1) := by decide +kernel
theorem dX8_sneezes_4 : decode cX8_sneezes 4 = .ok (.getfield 18, 3) := by decide +kernel
theorem dX8_sneezes_7 : decode cX8_sneezes 7 = .ok (.if_icmp .ge 24, 3) := by decide +kernel
theorem dX8_sneezes_10 : decode cX8_sneezes 10 = .ok (.aload_n 0, 1) := by decide +kernel
theorem dX8_sneezes_11 : decode cX8_sneezes 11 = .ok (.getfield 28, 3) := by decide +kernel
theorem dX8_sneezes_14 : decode cX8_sneezes 14 = .ok (.iconst 4, 1) := by decide +kernel
theorem dX8_sneezes_15 : decode cX8_sneezes 15 = .ok (.iload_n 1, 1) := by decide +kernel
theorem dX8_sneezes_16 : decode cX8_sneezes 16 = .ok (.imul, 1) := by decide +kernel
theorem dX8_sneezes_17 : decode cX8_sneezes 17 = .ok (.iaload, 1) := by decide +kernel
theorem dX8_sneezes_18 : decode cX8_sneezes 18 = .ok (.bipush 9, 2) := by decide +kernel
theorem dX8_sneezes_20 : decode cX8_sneezes 20 = .ok (.if_icmp .ne 5, 3) := by decide +kernel
theorem dX8_sneezes_23 : decode cX8_sneezes 23 = .ok (.iconst 1, 1) := by decide +kernel
theorem dX8_sneezes_24 : decode cX8_sneezes 24 = .ok (.ireturn, 1) := by decide +kernel
theorem dX8_sneezes_25 : decode cX8_sneezes 25 = .ok (.iinc 1 1, 3) := by decide +kernel
theorem dX8_sneezes_28 : decode cX8_sneezes 28 = .ok (.goto (-26), 3) := by decide +kernel
theorem dX8_sneezes_31 : decode cX8_sneezes 31 = .ok (.iconst 0, 1) := by decide +kernel
theorem dX8_sneezes_32 : decode cX8_sneezes 32 = .ok (.ireturn, 1) := by decide +kernel
theorem dX8_looksLike_0 : decode cX8_looksLike 0 = .ok (.iconst 0, 1) := by decide +kernel
theorem dX8_looksLike_1 : decode cX8_looksLike 1 = .ok (.istore_n 2, 1) := by decide +kernel
theorem dX8_looksLike_2 : decode cX8_looksLike 2 = .ok (.iload_n 2, 1) := by decide +kernel
theorem dX8_looksLike_3 : decode cX8_looksLike 3 = .ok (.bipush 36, 2) := by decide +kernel
theorem dX8_looksLike_5 : decode cX8_looksLike 5 = .ok (.aload_n 0, 1) := by decide +kernel
theorem dX8_looksLike_6 : decode cX8_looksLike 6 = .ok (.getfield 18, 3) := by decide +kernel
theorem dX8_looksLike_9 : decode cX8_looksLike 9 = .ok (.imul, 1) := by decide +kernel
theorem dX8_looksLike_10 : decode cX8_looksLike 10 = .ok (.if_icmp .ge 26, 3) := by decide +kernel
theorem dX8_looksLike_13 : decode cX8_looksLike 13 = .ok (.aload_n 0, 1) := by decide +kernel
theorem dX8_looksLike_14 : decode cX8_looksLike 14 = .ok (.getfield 21, 3) := by decide +kernel
theorem dX8_looksLike_17 : decode cX8_looksLike 17 = .ok (.iload_n 2, 1) := by decide +kernel
theorem dX8_looksLike_18 : decode cX8_looksLike 18 = .ok (.iaload, 1) := by decide +kernel
theorem dX8_looksLike_19 : decode cX8_looksLike 19 = .ok (.aload_n 1, 1) := by decide +kernel
theorem dX8_looksLike_20 : decode cX8_looksLike 20 = .ok (.getfield 21, 3) := by decide +kernel
theorem dX8_looksLike_23 : decode cX8_looksLike 23 = .ok (.iload_n 2, 1) := by decide +kernel
theorem dX8_looksLike_24 : decode cX8_looksLike 24 = .ok (.iaload, 1) := by decide +kernel
theorem dX8_looksLike_25 : decode cX8_looksLike 25 = .ok (.if_icmp .eq 5, 3) := by decide +kernel
theorem dX8_looksLike_28 : decode cX8_looksLike 28 = .ok (.iconst 0, 1) := by decide +kernel
theorem dX8_looksLike_29 : decode cX8_looksLike 29 = .ok (.ireturn, 1) := by decide +kernel
theorem dX8_looksLike_30 : decode cX8_looksLike 30 = .ok (.iinc 2 1, 3) := by decide +kernel
theorem dX8_looksLike_33 : decode cX8_looksLike 33 = .ok (.goto (-31), 3) := by decide +kernel
theorem dX8_looksLike_36 : decode cX8_looksLike 36 = .ok (.iconst 1, 1) := by decide +kernel
theorem dX8_looksLike_37 : decode cX8_looksLike 37 = .ok (.ireturn, 1) := by decide +kernel
theorem dX8_goOn_0 : decode cX8_goOn 0 = .ok (.aload_n 0, 1) := by decide +kernel
theorem dX8_goOn_1 : decode cX8_goOn 1 = .ok (.getfield 21, 3) := by decide +kernel
theorem dX8_goOn_4 : decode cX8_goOn 4 = .ok (.iconst 0, 1) := by decide +kernel
theorem dX8_goOn_5 : decode cX8_goOn 5 = .ok (.aload_n 1, 1) := by decide +kernel
theorem dX8_goOn_6 : decode cX8_goOn 6 = .ok (.iconst 0, 1) := by decide +kernel
theorem dX8_goOn_7 : decode cX8_goOn 7 = .ok (.aload_n 0, 1) := by decide +kernel
theorem dX8_goOn_8 : decode cX8_goOn 8 = .ok (.getfield 21, 3) := by decide +kernel
theorem dX8_goOn_11 : decode cX8_goOn 11 = .ok (.arraylength, 1) := by decide +kernel
theorem dX8_goOn_12 : decode cX8_goOn 12 = .ok (.invokestatic 37, 3) := by decide +kernel
theorem dX8_goOn_15 : decode cX8_goOn 15 = .ok (.iconst 0, 1) := by decide +kernel
theorem dX8_goOn_16 : decode cX8_goOn 16 = .ok (.istore_n 2, 1) := by decide +kernel
theorem dX8_goOn_17 : decode cX8_goOn 17 = .ok (.iload_n 2, 1) := by decide +kernel
theorem dX8_goOn_18 : decode cX8_goOn 18 = .ok (.aload_n 0, 1) := by decide +kernel
theorem dX8_goOn_19 : decode cX8_goOn 19 = .ok (.getfield 18, 3) := by decide +kernel
theorem dX8_goOn_22 : decode cX8_goOn 22 = .ok (.if_icmp .ge 60, 3) := by decide +kernel
theorem dX8_goOn_25 : decode cX8_goOn 25 = .ok (.aload_n 0, 1) := by decide +kernel
theorem dX8_goOn_26 : decode cX8_goOn 26 = .ok (.getfield 25, 3) := by decide +kernel
theorem dX8_goOn_29 : decode cX8_goOn 29 = .ok (.iload_n 2, 1) := by decide +kernel
theorem dX8_goOn_30 : decode cX8_goOn 30 = .ok (.iaload, 1) := by decide +kernel
theorem dX8_goOn_31 : decode cX8_goOn 31 = .ok (.ifCond .lt 45, 3) := by decide +kernel
theorem dX8_goOn_34 : decode cX8_goOn 34 = .ok (.iconst (-1), 1) := by decide +kernel
theorem dX8_goOn_35 : decode cX8_goOn 35 = .ok (.istore_n 3, 1) := by decide +kernel
theorem dX8_goOn_36 : decode cX8_goOn 36 = .ok (.aload_n 0, 1) := by decide +kernel
theorem dX8_goOn_37 : decode cX8_goOn 37 = .ok (.getfield 28, 3) := by decide +kernel
theorem dX8_goOn_40 : decode cX8_goOn 40 = .ok (.iconst 4, 1) := by decide +kernel
theorem dX8_goOn_41 : decode cX8_goOn 41 = .ok (.iload_n 2, 1) := by decide +kernel
theorem dX8_goOn_42 : decode cX8_goOn 42 = .ok (.imul, 1) := by decide +kernel
theorem dX8_goOn_43 : decode cX8_goOn 43 = .ok (.iaload, 1) := by decide +kernel
theorem dX8_goOn_44 : decode cX8_goOn 44 = .ok (.bipush 9, 2) := by decide +kernel
theorem dX8_goOn_46 : decode cX8_goOn 46 = .ok (.if_icmp .ne 23, 3) := by decide +kernel
theorem dX8_goOn_49 : decode cX8_goOn 49 = .ok (.aload_n 0, 1) := by decide +kernel
theorem dX8_goOn_50 : decode cX8_goOn 50 = .ok (.aload_n 0, 1) := by decide +kernel
theorem dX8_goOn_51 : decode cX8_goOn 51 = .ok (.getfield 31, 3) := by decide +kernel
theorem dX8_goOn_54 : decode cX8_goOn 54 = .ok (.invokestatic 53, 3) := by decide +kernel
theorem dX8_goOn_57 : decode cX8_goOn 57 = .ok (.putfield 31, 3) := by decide +kernel
theorem dX8_goOn_60 : decode cX8_goOn 60 = .ok (.aload_n 0, 1) := by decide +kernel
theorem dX8_goOn_61 : decode cX8_goOn 61 = .ok (.aload_n 0, 1) := by decide +kernel
theorem dX8_goOn_62 : decode cX8_goOn 62 = .ok (.getfield 31, 3) := by decide +kernel
theorem dX8_goOn_65 : decode cX8_goOn 65 = .ok (.invokevirtual 57, 3) := by decide +kernel
theorem dX8_goOn_68 : decode cX8_goOn 68 = .ok (.istore_n 3, 1) := by decide +kernel
theorem dX8_goOn_69 : decode cX8_goOn 69 = .ok (.aload_n 0, 1) := by decide +kernel
theorem dX8_goOn_70 : decode cX8_goOn 70 = .ok (.iload_n 2, 1) := by decide +kernel
theorem dX8_goOn_71 : decode cX8_goOn 71 = .ok (.aload_n 1, 1) := by decide +kernel
theorem dX8_goOn_72 : decode cX8_goOn 72 = .ok (.iload_n 3, 1) := by decide +kernel
theorem dX8_goOn_73 : decode cX8_goOn 73 = .ok (.invokevirtual 60, 3) := by decide +kernel
theorem dX8_goOn_76 : decode cX8_goOn 76 = .ok (.iinc 2 1, 3) := by decide +kernel
theorem dX8_goOn_79 : decode cX8_goOn 79 = .ok (.goto (-62), 3) := by decide +kernel
theorem dX8_goOn_82 : decode cX8_goOn 82 = .ok (.return_, 1) := by decide +kernel
theorem dX8_build_0 : decode cX8_build 0 = .ok (.bipush 36, 2) := by decide +kernel
theorem dX8_build_2 : decode cX8_build 2 = .ok (.aload_n 0, 1) := by decide +kernel
theorem dX8_build_3 : decode cX8_build 3 = .ok (.getfield 25, 3) := by decide +kernel
theorem dX8_build_6 : decode cX8_build 6 = .ok (.iload_n 1, 1) := by decide +kernel
theorem dX8_build_7 : decode cX8_build 7 = .ok (.iaload, 1) := by decide +kernel
theorem dX8_build_8 : decode cX8_build 8 = .ok (.imul, 1) := by decide +kernel
theorem dX8_build_9 : decode cX8_build 9 = .ok (.istore 4, 2) := by decide +kernel
theorem dX8_build_11 : decode cX8_build 11 = .ok (.iconst 0, 1) := by decide +kernel
theorem dX8_build_12 : decode cX8_build 12 = .ok (.istore 5, 2) := by decide +kernel
theorem dX8_build_14 : decode cX8_build 14 = .ok (.iload 5, 2) := by decide +kernel
theorem dX8_build_16 : decode cX8_build 16 = .ok (.aload_n 0, 1) := by decide +kernel
theorem dX8_build_17 : decode cX8_build 17 = .ok (.getfield 15, 3) := by decide +kernel
theorem dX8_build_20 : decode cX8_build 20 = .ok (.if_icmp .ge 60, 3) := by decide +kernel
theorem dX8_build_23 : decode cX8_build 23 = .ok (.iconst 0, 1) := by decide +kernel
theorem dX8_build_24 : decode cX8_build 24 = .ok (.istore 6, 2) := by decide +kernel
theorem dX8_build_26 : decode cX8_build 26 = .ok (.iload 6, 2) := by decide +kernel
theorem dX8_build_28 : decode cX8_build 28 = .ok (.aload_n 0, 1) := by decide +kernel
theorem dX8_build_29 : decode cX8_build 29 = .ok (.getfield 9, 3) := by decide +kernel
theorem dX8_build_32 : decode cX8_build 32 = .ok (.if_icmp .ge 42, 3) := by decide +kernel
theorem dX8_build_35 : decode cX8_build 35 = .ok (.bipush 6, 2) := by decide +kernel
theorem dX8_build_37 : decode cX8_build 37 = .ok (.iload 5, 2) := by decide +kernel
theorem dX8_build_39 : decode cX8_build 39 = .ok (.imul, 1) := by decide +kernel
theorem dX8_build_40 : decode cX8_build 40 = .ok (.iload 6, 2) := by decide +kernel
theorem dX8_build_42 : decode cX8_build 42 = .ok (.iadd, 1) := by decide +kernel
theorem dX8_build_43 : decode cX8_build 43 = .ok (.istore 7, 2) := by decide +kernel
theorem dX8_build_45 : decode cX8_build 45 = .ok (.aload_n 0, 1) := by decide +kernel
theorem dX8_build_46 : decode cX8_build 46 = .ok (.getfield 21, 3) := by decide +kernel
theorem dX8_build_49 : decode cX8_build 49 = .ok (.bipush 36, 2) := by decide +kernel
theorem dX8_build_51 : decode cX8_build 51 = .ok (.iload_n 1, 1) := by decide +kernel
theorem dX8_build_52 : decode cX8_build 52 = .ok (.imul, 1) := by decide +kernel
theorem dX8_build_53 : decode cX8_build 53 = .ok (.iload 7, 2) := by decide +kernel
theorem dX8_build_55 : decode cX8_build 55 = .ok (.iadd, 1) := by decide +kernel
theorem dX8_build_56 : decode cX8_build 56 = .ok (.aload_n 0, 1) := by decide +kernel
theorem dX8_build_57 : decode cX8_build 57 = .ok (.iload_n 1, 1) := by decide +kernel
theorem dX8_build_58 : decode cX8_build 58 = .ok (.aload_n 2, 1) := by decide +kernel
theorem dX8_build_59 : decode cX8_build 59 = .ok (.iload 4, 2) := by decide +kernel
theorem dX8_build_61 : decode cX8_build 61 = .ok (.iload 7, 2) := by decide +kernel
theorem dX8_build_63 : decode cX8_build 63 = .ok (.iload_n 3, 1) := by decide +kernel
theorem dX8_build_64 : decode cX8_build 64 = .ok (.invokevirtual 64, 3) := by decide +kernel
theorem dX8_build_67 : decode cX8_build 67 = .ok (.iastore, 1) := by decide +kernel
theorem dX8_build_68 : decode cX8_build 68 = .ok (.iinc 6 1, 3) := by decide +kernel
theorem dX8_build_71 : decode cX8_build 71 = .ok (.goto (-45), 3) := by decide +kernel
theorem dX8_build_74 : decode cX8_build 74 = .ok (.iinc 5 1, 3) := by decide +kernel
theorem dX8_build_77 : decode cX8_build 77 = .ok (.goto (-63), 3) := by decide +kernel
theorem dX8_build_80 : decode cX8_build 80 = .ok (.return_, 1) := by decide +kernel
theorem dX8_nextSeed_0 : decode cX8_nextSeed 0 = .ok (.bipush 75, 2) := by decide +kernel
theorem dX8_nextSeed_2 : decode cX8_nextSeed 2 = .ok (.iload_n 0, 1) := by decide +kernel
theorem dX8_nextSeed_3 : decode cX8_nextSeed 3 = .ok (.imul, 1) := by decide +kernel
theorem dX8_nextSeed_4 : decode cX8_nextSeed 4 = .ok (.bipush 74, 2) := by decide +kernel
theorem dX8_nextSeed_6 : decode cX8_nextSeed 6 = .ok (.iadd, 1) := by decide +kernel
theorem dX8_nextSeed_7 : decode cX8_nextSeed 7 = .ok (.ldc 68, 2) := by decide +kernel
theorem dX8_nextSeed_9 : decode cX8_nextSeed 9 = .ok (.irem, 1) := by decide +kernel
theorem dX8_nextSeed_10 : decode cX8_nextSeed 10 = .ok (.ireturn, 1) := by decide +kernel
theorem dX8_drawnPlace_0 : decode cX8_drawnPlace 0 = .ok (.aload_n 0, 1) := by decide +kernel
theorem dX8_drawnPlace_1 : decode cX8_drawnPlace 1 = .ok (.getfield 9, 3) := by decide +kernel
theorem dX8_drawnPlace_4 : decode cX8_drawnPlace 4 = .ok (.ifCond .le 10, 3) := by decide +kernel
theorem dX8_drawnPlace_7 : decode cX8_drawnPlace 7 = .ok (.aload_n 0, 1) := by decide +kernel
theorem dX8_drawnPlace_8 : decode cX8_drawnPlace 8 = .ok (.getfield 15, 3) := by decide +kernel
theorem dX8_drawnPlace_11 : decode cX8_drawnPlace 11 = .ok (.ifCond .gt 5, 3) := by decide +kernel
theorem dX8_drawnPlace_14 : decode cX8_drawnPlace 14 = .ok (.iconst (-1), 1) := by decide +kernel
theorem dX8_drawnPlace_15 : decode cX8_drawnPlace 15 = .ok (.ireturn, 1) := by decide +kernel
theorem dX8_drawnPlace_16 : decode cX8_drawnPlace 16 = .ok (.iload_n 1, 1) := by decide +kernel
theorem dX8_drawnPlace_17 : decode cX8_drawnPlace 17 = .ok (.aload_n 0, 1) := by decide +kernel
theorem dX8_drawnPlace_18 : decode cX8_drawnPlace 18 = .ok (.getfield 9, 3) := by decide +kernel
theorem dX8_drawnPlace_21 : decode cX8_drawnPlace 21 = .ok (.aload_n 0, 1) := by decide +kernel
theorem dX8_drawnPlace_22 : decode cX8_drawnPlace 22 = .ok (.getfield 15, 3) := by decide +kernel
theorem dX8_drawnPlace_25 : decode cX8_drawnPlace 25 = .ok (.imul, 1) := by decide +kernel
theorem dX8_drawnPlace_26 : decode cX8_drawnPlace 26 = .ok (.irem, 1) := by decide +kernel
theorem dX8_drawnPlace_27 : decode cX8_drawnPlace 27 = .ok (.istore_n 2, 1) := by decide +kernel
theorem dX8_drawnPlace_28 : decode cX8_drawnPlace 28 = .ok (.bipush 6, 2) := by decide +kernel
theorem dX8_drawnPlace_30 : decode cX8_drawnPlace 30 = .ok (.iload_n 2, 1) := by decide +kernel
theorem dX8_drawnPlace_31 : decode cX8_drawnPlace 31 = .ok (.aload_n 0, 1) := by decide +kernel
theorem dX8_drawnPlace_32 : decode cX8_drawnPlace 32 = .ok (.getfield 9, 3) := by decide +kernel
theorem dX8_drawnPlace_35 : decode cX8_drawnPlace 35 = .ok (.idiv, 1) := by decide +kernel
theorem dX8_drawnPlace_36 : decode cX8_drawnPlace 36 = .ok (.imul, 1) := by decide +kernel
theorem dX8_drawnPlace_37 : decode cX8_drawnPlace 37 = .ok (.iload_n 2, 1) := by decide +kernel
theorem dX8_drawnPlace_38 : decode cX8_drawnPlace 38 = .ok (.aload_n 0, 1) := by decide +kernel
theorem dX8_drawnPlace_39 : decode cX8_drawnPlace 39 = .ok (.getfield 9, 3) := by decide +kernel
theorem dX8_drawnPlace_42 : decode cX8_drawnPlace 42 = .ok (.irem, 1) := by decide +kernel
theorem dX8_drawnPlace_43 : decode cX8_drawnPlace 43 = .ok (.iadd, 1) := by decide +kernel
theorem dX8_drawnPlace_44 : decode cX8_drawnPlace 44 = .ok (.ireturn, 1) := by decide +kernel
theorem dX8_markFor_0 : decode cX8_markFor 0 = .ok (.aload_n 0, 1) := by decide +kernel
theorem dX8_markFor_1 : decode cX8_markFor 1 = .ok (.iload_n 1, 1) := by decide +kernel
theorem dX8_markFor_2 : decode cX8_markFor 2 = .ok (.aload_n 2, 1) := by decide +kernel
theorem dX8_markFor_3 : decode cX8_markFor 3 = .ok (.iload_n 3, 1) := by decide +kernel
theorem dX8_markFor_4 : decode cX8_markFor 4 = .ok (.iload 4, 2) := by decide +kernel
theorem dX8_markFor_6 : decode cX8_markFor 6 = .ok (.iload 5, 2) := by decide +kernel
theorem dX8_markFor_8 : decode cX8_markFor 8 = .ok (.invokevirtual 69, 3) := by decide +kernel
theorem dX8_markFor_11 : decode cX8_markFor 11 = .ok (.istore 6, 2) := by decide +kernel
theorem dX8_markFor_13 : decode cX8_markFor 13 = .ok (.aload_n 0, 1) := by decide +kernel
theorem dX8_markFor_14 : decode cX8_markFor 14 = .ok (.getfield 28, 3) := by decide +kernel
theorem dX8_markFor_17 : decode cX8_markFor 17 = .ok (.iconst 4, 1) := by decide +kernel
theorem dX8_markFor_18 : decode cX8_markFor 18 = .ok (.iload_n 1, 1) := by decide +kernel
theorem dX8_markFor_19 : decode cX8_markFor 19 = .ok (.imul, 1) := by decide +kernel
theorem dX8_markFor_20 : decode cX8_markFor 20 = .ok (.iaload, 1) := by decide +kernel
theorem dX8_markFor_21 : decode cX8_markFor 21 = .ok (.istore 7, 2) := by decide +kernel
theorem dX8_markFor_23 : decode cX8_markFor 23 = .ok (.aload_n 0, 1) := by decide +kernel
theorem dX8_markFor_24 : decode cX8_markFor 24 = .ok (.getfield 28, 3) := by decide +kernel
theorem dX8_markFor_27 : decode cX8_markFor 27 = .ok (.iconst 4, 1) := by decide +kernel
theorem dX8_markFor_28 : decode cX8_markFor 28 = .ok (.iload_n 1, 1) := by decide +kernel
theorem dX8_markFor_29 : decode cX8_markFor 29 = .ok (.imul, 1) := by decide +kernel
theorem dX8_markFor_30 : decode cX8_markFor 30 = .ok (.iconst 1, 1) := by decide +kernel
theorem dX8_markFor_31 : decode cX8_markFor 31 = .ok (.iadd, 1) := by decide +kernel
theorem dX8_markFor_32 : decode cX8_markFor 32 = .ok (.iaload, 1) := by decide +kernel
theorem dX8_markFor_33 : decode cX8_markFor 33 = .ok (.istore 8, 2) := by decide +kernel
theorem dX8_markFor_35 : decode cX8_markFor 35 = .ok (.iload 6, 2) := by decide +kernel
theorem dX8_markFor_37 : decode cX8_markFor 37 = .ok (.iconst (-1), 1) := by decide +kernel
theorem dX8_markFor_38 : decode cX8_markFor 38 = .ok (.if_icmp .ne 17, 3) := by decide +kernel
theorem dX8_markFor_41 : decode cX8_markFor 41 = .ok (.iload 7, 2) := by decide +kernel
theorem dX8_markFor_43 : decode cX8_markFor 43 = .ok (.bipush 7, 2) := by decide +kernel
theorem dX8_markFor_45 : decode cX8_markFor 45 = .ok (.if_icmp .ne 7, 3) := by decide +kernel
theorem dX8_markFor_48 : decode cX8_markFor 48 = .ok (.iconst 0, 1) := by decide +kernel
theorem dX8_markFor_49 : decode cX8_markFor 49 = .ok (.goto 5, 3) := by decide +kernel
theorem dX8_markFor_52 : decode cX8_markFor 52 = .ok (.iload 8, 2) := by decide +kernel
theorem dX8_markFor_54 : decode cX8_markFor 54 = .ok (.ireturn, 1) := by decide +kernel
theorem dX8_markFor_55 : decode cX8_markFor 55 = .ok (.aload_n 2, 1) := by decide +kernel
theorem dX8_markFor_56 : decode cX8_markFor 56 = .ok (.iload_n 3, 1) := by decide +kernel
theorem dX8_markFor_57 : decode cX8_markFor 57 = .ok (.iload 6, 2) := by decide +kernel
theorem dX8_markFor_59 : decode cX8_markFor 59 = .ok (.iadd, 1) := by decide +kernel
theorem dX8_markFor_60 : decode cX8_markFor 60 = .ok (.iaload, 1) := by decide +kernel
theorem dX8_markFor_61 : decode cX8_markFor 61 = .ok (.istore 9, 2) := by decide +kernel
theorem dX8_markFor_63 : decode cX8_markFor 63 = .ok (.iload 7, 2) := by decide +kernel
theorem dX8_markFor_65 : decode cX8_markFor 65 = .ok (.iconst 5, 1) := by decide +kernel
theorem dX8_markFor_66 : decode cX8_markFor 66 = .ok (.if_icmp .ne 42, 3) := by decide +kernel
theorem dX8_markFor_69 : decode cX8_markFor 69 = .ok (.aload_n 0, 1) := by decide +kernel
theorem dX8_markFor_70 : decode cX8_markFor 70 = .ok (.getfield 28, 3) := by decide +kernel
theorem dX8_markFor_73 : decode cX8_markFor 73 = .ok (.iconst 4, 1) := by decide +kernel
theorem dX8_markFor_74 : decode cX8_markFor 74 = .ok (.iload_n 1, 1) := by decide +kernel
theorem dX8_markFor_75 : decode cX8_markFor 75 = .ok (.imul, 1) := by decide +kernel
theorem dX8_markFor_76 : decode cX8_markFor 76 = .ok (.iconst 2, 1) := by decide +kernel
theorem dX8_markFor_77 : decode cX8_markFor 77 = .ok (.iadd, 1) := by decide +kernel
theorem dX8_markFor_78 : decode cX8_markFor 78 = .ok (.iaload, 1) := by decide +kernel
theorem dX8_markFor_79 : decode cX8_markFor 79 = .ok (.istore 10, 2) := by decide +kernel
theorem dX8_markFor_81 : decode cX8_markFor 81 = .ok (.iload 9, 2) := by decide +kernel
theorem dX8_markFor_83 : decode cX8_markFor 83 = .ok (.iload 8, 2) := by decide +kernel
theorem dX8_markFor_85 : decode cX8_markFor 85 = .ok (.if_icmp .ne 8, 3) := by decide +kernel
theorem dX8_markFor_88 : decode cX8_markFor 88 = .ok (.iload 10, 2) := by decide +kernel
theorem dX8_markFor_90 : decode cX8_markFor 90 = .ok (.goto 17, 3) := by decide +kernel
theorem dX8_markFor_93 : decode cX8_markFor 93 = .ok (.iload 9, 2) := by decide +kernel
theorem dX8_markFor_95 : decode cX8_markFor 95 = .ok (.iload 10, 2) := by decide +kernel
theorem dX8_markFor_97 : decode cX8_markFor 97 = .ok (.if_icmp .ne 8, 3) := by decide +kernel
theorem dX8_markFor_100 : decode cX8_markFor 100 = .ok (.iload 8, 2) := by decide +kernel
theorem dX8_markFor_102 : decode cX8_markFor 102 = .ok (.goto 5, 3) := by decide +kernel
theorem dX8_markFor_105 : decode cX8_markFor 105 = .ok (.iload 9, 2) := by decide +kernel
theorem dX8_markFor_107 : decode cX8_markFor 107 = .ok (.ireturn, 1) := by decide +kernel
theorem dX8_markFor_108 : decode cX8_markFor 108 = .ok (.iload 9, 2) := by decide +kernel
theorem dX8_markFor_110 : decode cX8_markFor 110 = .ok (.ireturn, 1) := by decide +kernel
theorem dX8_source_0 : decode cX8_source 0 = .ok (.iload 4, 2) := by decide +kernel
theorem dX8_source_2 : decode cX8_source 2 = .ok (.bipush 6, 2) := by decide +kernel
theorem dX8_source_4 : decode cX8_source 4 = .ok (.irem, 1) := by decide +kernel
theorem dX8_source_5 : decode cX8_source 5 = .ok (.istore 6, 2) := by decide +kernel
theorem dX8_source_7 : decode cX8_source 7 = .ok (.iload 4, 2) := by decide +kernel
theorem dX8_source_9 : decode cX8_source 9 = .ok (.bipush 6, 2) := by decide +kernel
theorem dX8_source_11 : decode cX8_source 11 = .ok (.idiv, 1) := by decide +kernel
theorem dX8_source_12 : decode cX8_source 12 = .ok (.istore 7, 2) := by decide +kernel
theorem dX8_source_14 : decode cX8_source 14 = .ok (.aload_n 0, 1) := by decide +kernel
theorem dX8_source_15 : decode cX8_source 15 = .ok (.getfield 28, 3) := by decide +kernel
theorem dX8_source_18 : decode cX8_source 18 = .ok (.iconst 4, 1) := by decide +kernel
theorem dX8_source_19 : decode cX8_source 19 = .ok (.iload_n 1, 1) := by decide +kernel
theorem dX8_source_20 : decode cX8_source 20 = .ok (.imul, 1) := by decide +kernel
theorem dX8_source_21 : decode cX8_source 21 = .ok (.iconst 1, 1) := by decide +kernel
theorem dX8_source_22 : decode cX8_source 22 = .ok (.iadd, 1) := by decide +kernel
theorem dX8_source_23 : decode cX8_source 23 = .ok (.iaload, 1) := by decide +kernel
theorem dX8_source_24 : decode cX8_source 24 = .ok (.istore 8, 2) := by decide +kernel
theorem dX8_source_26 : decode cX8_source 26 = .ok (.aload_n 0, 1) := by decide +kernel
theorem dX8_source_27 : decode cX8_source 27 = .ok (.getfield 28, 3) := by decide +kernel
theorem dX8_source_30 : decode cX8_source 30 = .ok (.iconst 4, 1) := by decide +kernel
theorem dX8_source_31 : decode cX8_source 31 = .ok (.iload_n 1, 1) := by decide +kernel
theorem dX8_source_32 : decode cX8_source 32 = .ok (.imul, 1) := by decide +kernel
theorem dX8_source_33 : decode cX8_source 33 = .ok (.iconst 2, 1) := by decide +kernel
theorem dX8_source_34 : decode cX8_source 34 = .ok (.iadd, 1) := by decide +kernel
theorem dX8_source_35 : decode cX8_source 35 = .ok (.iaload, 1) := by decide +kernel
theorem dX8_source_36 : decode cX8_source 36 = .ok (.istore 9, 2) := by decide +kernel
theorem dX8_source_38 : decode cX8_source 38 = .ok (.aload_n 0, 1) := by decide +kernel
theorem dX8_source_39 : decode cX8_source 39 = .ok (.getfield 28, 3) := by decide +kernel
theorem dX8_source_42 : decode cX8_source 42 = .ok (.iconst 4, 1) := by decide +kernel
theorem dX8_source_43 : decode cX8_source 43 = .ok (.iload_n 1, 1) := by decide +kernel
theorem dX8_source_44 : decode cX8_source 44 = .ok (.imul, 1) := by decide +kernel
theorem dX8_source_45 : decode cX8_source 45 = .ok (.iaload, 1) := by decide +kernel
theorem dX8_source_46 : decode cX8_source 46 = .ok (.tableswitch 222 1 9 #[50, 79, 120, 135, 222, 158, 169, 187, 208], 50) := by decide +kernel
theorem dX8_source_96 : decode cX8_source 96 = .ok (.iload 6, 2) := by decide +kernel
theorem dX8_source_98 : decode cX8_source 98 = .ok (.iload 9, 2) := by decide +kernel
theorem dX8_source_100 : decode cX8_source 100 = .ok (.if_icmp .ne 22, 3) := by decide +kernel
theorem dX8_source_103 : decode cX8_source 103 = .ok (.iload 7, 2) := by decide +kernel
theorem dX8_source_105 : decode cX8_source 105 = .ok (.aload_n 0, 1) := by decide +kernel
theorem dX8_source_106 : decode cX8_source 106 = .ok (.getfield 28, 3) := by decide +kernel
theorem dX8_source_109 : decode cX8_source 109 = .ok (.iconst 4, 1) := by decide +kernel
theorem dX8_source_110 : decode cX8_source 110 = .ok (.iload_n 1, 1) := by decide +kernel
theorem dX8_source_111 : decode cX8_source 111 = .ok (.imul, 1) := by decide +kernel
theorem dX8_source_112 : decode cX8_source 112 = .ok (.iconst 3, 1) := by decide +kernel
theorem dX8_source_113 : decode cX8_source 113 = .ok (.iadd, 1) := by decide +kernel
theorem dX8_source_114 : decode cX8_source 114 = .ok (.iaload, 1) := by decide +kernel
theorem dX8_source_115 : decode cX8_source 115 = .ok (.if_icmp .ne 7, 3) := by decide +kernel
theorem dX8_source_118 : decode cX8_source 118 = .ok (.iconst (-1), 1) := by decide +kernel
theorem dX8_source_119 : decode cX8_source 119 = .ok (.goto 5, 3) := by decide +kernel
theorem dX8_source_122 : decode cX8_source 122 = .ok (.iload 4, 2) := by decide +kernel
theorem dX8_source_124 : decode cX8_source 124 = .ok (.ireturn, 1) := by decide +kernel
theorem dX8_source_125 : decode cX8_source 125 = .ok (.iconst 2, 1) := by decide +kernel
theorem dX8_source_126 : decode cX8_source 126 = .ok (.iload 8, 2) := by decide +kernel
theorem dX8_source_128 : decode cX8_source 128 = .ok (.imul, 1) := by decide +kernel
theorem dX8_source_129 : decode cX8_source 129 = .ok (.iconst 1, 1) := by decide +kernel
theorem dX8_source_130 : decode cX8_source 130 = .ok (.isub, 1) := by decide +kernel
theorem dX8_source_131 : decode cX8_source 131 = .ok (.iload 6, 2) := by decide +kernel
theorem dX8_source_133 : decode cX8_source 133 = .ok (.isub, 1) := by decide +kernel
theorem dX8_source_134 : decode cX8_source 134 = .ok (.istore 10, 2) := by decide +kernel
theorem dX8_source_136 : decode cX8_source 136 = .ok (.iload 6, 2) := by decide +kernel
theorem dX8_source_138 : decode cX8_source 138 = .ok (.iload 8, 2) := by decide +kernel
theorem dX8_source_140 : decode cX8_source 140 = .ok (.if_icmp .ge 8, 3) := by decide +kernel
theorem dX8_source_143 : decode cX8_source 143 = .ok (.iload 4, 2) := by decide +kernel
theorem dX8_source_145 : decode cX8_source 145 = .ok (.goto 20, 3) := by decide +kernel
theorem dX8_source_148 : decode cX8_source 148 = .ok (.bipush 6, 2) := by decide +kernel
theorem dX8_source_150 : decode cX8_source 150 = .ok (.iload 7, 2) := by decide +kernel
theorem dX8_source_152 : decode cX8_source 152 = .ok (.imul, 1) := by decide +kernel
theorem dX8_source_153 : decode cX8_source 153 = .ok (.iload 10, 2) := by decide +kernel
theorem dX8_source_155 : decode cX8_source 155 = .ok (.ifCond .le 8, 3) := by decide +kernel
theorem dX8_source_158 : decode cX8_source 158 = .ok (.iload 10, 2) := by decide +kernel
theorem dX8_source_160 : decode cX8_source 160 = .ok (.goto 4, 3) := by decide +kernel
theorem dX8_source_163 : decode cX8_source 163 = .ok (.iconst 0, 1) := by decide +kernel
theorem dX8_source_164 : decode cX8_source 164 = .ok (.iadd, 1) := by decide +kernel
theorem dX8_source_165 : decode cX8_source 165 = .ok (.ireturn, 1) := by decide +kernel
theorem dX8_source_166 : decode cX8_source 166 = .ok (.aload_n 0, 1) := by decide +kernel
theorem dX8_source_167 : decode cX8_source 167 = .ok (.iload 6, 2) := by decide +kernel
theorem dX8_source_169 : decode cX8_source 169 = .ok (.iload 8, 2) := by decide +kernel
theorem dX8_source_171 : decode cX8_source 171 = .ok (.isub, 1) := by decide +kernel
theorem dX8_source_172 : decode cX8_source 172 = .ok (.iload 7, 2) := by decide +kernel
theorem dX8_source_174 : decode cX8_source 174 = .ok (.iload 9, 2) := by decide +kernel
theorem dX8_source_176 : decode cX8_source 176 = .ok (.isub, 1) := by decide +kernel
theorem dX8_source_177 : decode cX8_source 177 = .ok (.invokevirtual 72, 3) := by decide +kernel
theorem dX8_source_180 : decode cX8_source 180 = .ok (.ireturn, 1) := by decide +kernel
theorem dX8_source_181 : decode cX8_source 181 = .ok (.bipush 6, 2) := by decide +kernel
theorem dX8_source_183 : decode cX8_source 183 = .ok (.aload_n 0, 1) := by decide +kernel
theorem dX8_source_184 : decode cX8_source 184 = .ok (.getfield 15, 3) := by decide +kernel
theorem dX8_source_187 : decode cX8_source 187 = .ok (.iconst 1, 1) := by decide +kernel
theorem dX8_source_188 : decode cX8_source 188 = .ok (.isub, 1) := by decide +kernel
theorem dX8_source_189 : decode cX8_source 189 = .ok (.iload 7, 2) := by decide +kernel
theorem dX8_source_191 : decode cX8_source 191 = .ok (.isub, 1) := by decide +kernel
theorem dX8_source_192 : decode cX8_source 192 = .ok (.imul, 1) := by decide +kernel
theorem dX8_source_193 : decode cX8_source 193 = .ok (.aload_n 0, 1) := by decide +kernel
theorem dX8_source_194 : decode cX8_source 194 = .ok (.getfield 9, 3) := by decide +kernel
theorem dX8_source_197 : decode cX8_source 197 = .ok (.iadd, 1) := by decide +kernel
theorem dX8_source_198 : decode cX8_source 198 = .ok (.iconst 1, 1) := by decide +kernel
theorem dX8_source_199 : decode cX8_source 199 = .ok (.isub, 1) := by decide +kernel
theorem dX8_source_200 : decode cX8_source 200 = .ok (.iload 6, 2) := by decide +kernel
theorem dX8_source_202 : decode cX8_source 202 = .ok (.isub, 1) := by decide +kernel
theorem dX8_source_203 : decode cX8_source 203 = .ok (.ireturn, 1) := by decide +kernel
theorem dX8_source_204 : decode cX8_source 204 = .ok (.aload_n 0, 1) := by decide +kernel
theorem dX8_source_205 : decode cX8_source 205 = .ok (.aload_n 2, 1) := by decide +kernel
theorem dX8_source_206 : decode cX8_source 206 = .ok (.iload_n 3, 1) := by decide +kernel
theorem dX8_source_207 : decode cX8_source 207 = .ok (.iload 4, 2) := by decide +kernel
theorem dX8_source_209 : decode cX8_source 209 = .ok (.iload 8, 2) := by decide +kernel
theorem dX8_source_211 : decode cX8_source 211 = .ok (.invokevirtual 76, 3) := by decide +kernel
theorem dX8_source_214 : decode cX8_source 214 = .ok (.ireturn, 1) := by decide +kernel
theorem dX8_source_215 : decode cX8_source 215 = .ok (.aload_n 2, 1) := by decide +kernel
theorem dX8_source_216 : decode cX8_source 216 = .ok (.iload_n 3, 1) := by decide +kernel
theorem dX8_source_217 : decode cX8_source 217 = .ok (.iload 4, 2) := by decide +kernel
theorem dX8_source_219 : decode cX8_source 219 = .ok (.iadd, 1) := by decide +kernel
theorem dX8_source_220 : decode cX8_source 220 = .ok (.iaload, 1) := by decide +kernel
theorem dX8_source_221 : decode cX8_source 221 = .ok (.iload 8, 2) := by decide +kernel
theorem dX8_source_223 : decode cX8_source 223 = .ok (.if_icmp .ne 7, 3) := by decide +kernel
theorem dX8_source_226 : decode cX8_source 226 = .ok (.iconst (-1), 1) := by decide +kernel
theorem dX8_source_227 : decode cX8_source 227 = .ok (.goto 5, 3) := by decide +kernel
theorem dX8_source_230 : decode cX8_source 230 = .ok (.iload 4, 2) := by decide +kernel
theorem dX8_source_232 : decode cX8_source 232 = .ok (.ireturn, 1) := by decide +kernel
theorem dX8_source_233 : decode cX8_source 233 = .ok (.bipush 6, 2) := by decide +kernel
theorem dX8_source_235 : decode cX8_source 235 = .ok (.iload 7, 2) := by decide +kernel
theorem dX8_source_237 : decode cX8_source 237 = .ok (.iload 8, 2) := by decide +kernel
theorem dX8_source_239 : decode cX8_source 239 = .ok (.imul, 1) := by decide +kernel
theorem dX8_source_240 : decode cX8_source 240 = .ok (.bipush 10, 2) := by decide +kernel
theorem dX8_source_242 : decode cX8_source 242 = .ok (.idiv, 1) := by decide +kernel
theorem dX8_source_243 : decode cX8_source 243 = .ok (.imul, 1) := by decide +kernel
theorem dX8_source_244 : decode cX8_source 244 = .ok (.iload 6, 2) := by decide +kernel
theorem dX8_source_246 : decode cX8_source 246 = .ok (.iload 8, 2) := by decide +kernel
theorem dX8_source_248 : decode cX8_source 248 = .ok (.imul, 1) := by decide +kernel
theorem dX8_source_249 : decode cX8_source 249 = .ok (.bipush 10, 2) := by decide +kernel
theorem dX8_source_251 : decode cX8_source 251 = .ok (.idiv, 1) := by decide +kernel
theorem dX8_source_252 : decode cX8_source 252 = .ok (.iadd, 1) := by decide +kernel
theorem dX8_source_253 : decode cX8_source 253 = .ok (.ireturn, 1) := by decide +kernel
theorem dX8_source_254 : decode cX8_source 254 = .ok (.iload 4, 2) := by decide +kernel
theorem dX8_source_256 : decode cX8_source 256 = .ok (.iload 5, 2) := by decide +kernel
theorem dX8_source_258 : decode cX8_source 258 = .ok (.if_icmp .ne 7, 3) := by decide +kernel
theorem dX8_source_261 : decode cX8_source 261 = .ok (.iconst (-1), 1) := by decide +kernel
theorem dX8_source_262 : decode cX8_source 262 = .ok (.goto 5, 3) := by decide +kernel
theorem dX8_source_265 : decode cX8_source 265 = .ok (.iload 4, 2) := by decide +kernel
theorem dX8_source_267 : decode cX8_source 267 = .ok (.ireturn, 1) := by decide +kernel
theorem dX8_source_268 : decode cX8_source 268 = .ok (.iload 4, 2) := by decide +kernel
theorem dX8_source_270 : decode cX8_source 270 = .ok (.ireturn, 1) := by decide +kernel
theorem dX8_shiftSource_0 : decode cX8_shiftSource 0 = .ok (.aload_n 0, 1) := by decide +kernel
theorem dX8_shiftSource_1 : decode cX8_shiftSource 1 = .ok (.getfield 9, 3) := by decide +kernel
theorem dX8_shiftSource_4 : decode cX8_shiftSource 4 = .ok (.ifCond .le 10, 3) := by decide +kernel
theorem dX8_shiftSource_7 : decode cX8_shiftSource 7 = .ok (.aload_n 0, 1) := by decide +kernel
theorem dX8_shiftSource_8 : decode cX8_shiftSource 8 = .ok (.getfield 15, 3) := by decide +kernel
theorem dX8_shiftSource_11 : decode cX8_shiftSource 11 = .ok (.ifCond .gt 5, 3) := by decide +kernel
theorem dX8_shiftSource_14 : decode cX8_shiftSource 14 = .ok (.iconst (-1), 1) := by decide +kernel
theorem dX8_shiftSource_15 : decode cX8_shiftSource 15 = .ok (.ireturn, 1) := by decide +kernel
theorem dX8_shiftSource_16 : decode cX8_shiftSource 16 = .ok (.bipush 6, 2) := by decide +kernel
theorem dX8_shiftSource_18 : decode cX8_shiftSource 18 = .ok (.iload_n 2, 1) := by decide +kernel
theorem dX8_shiftSource_19 : decode cX8_shiftSource 19 = .ok (.bipush 6, 2) := by decide +kernel
theorem dX8_shiftSource_21 : decode cX8_shiftSource 21 = .ok (.aload_n 0, 1) := by decide +kernel
theorem dX8_shiftSource_22 : decode cX8_shiftSource 22 = .ok (.getfield 15, 3) := by decide +kernel
theorem dX8_shiftSource_25 : decode cX8_shiftSource 25 = .ok (.imul, 1) := by decide +kernel
theorem dX8_shiftSource_26 : decode cX8_shiftSource 26 = .ok (.iadd, 1) := by decide +kernel
theorem dX8_shiftSource_27 : decode cX8_shiftSource 27 = .ok (.aload_n 0, 1) := by decide +kernel
theorem dX8_shiftSource_28 : decode cX8_shiftSource 28 = .ok (.getfield 15, 3) := by decide +kernel
theorem dX8_shiftSource_31 : decode cX8_shiftSource 31 = .ok (.irem, 1) := by decide +kernel
theorem dX8_shiftSource_32 : decode cX8_shiftSource 32 = .ok (.imul, 1) := by decide +kernel
theorem dX8_shiftSource_33 : decode cX8_shiftSource 33 = .ok (.iload_n 1, 1) := by decide +kernel
theorem dX8_shiftSource_34 : decode cX8_shiftSource 34 = .ok (.bipush 6, 2) := by decide +kernel
theorem dX8_shiftSource_36 : decode cX8_shiftSource 36 = .ok (.aload_n 0, 1) := by decide +kernel
theorem dX8_shiftSource_37 : decode cX8_shiftSource 37 = .ok (.getfield 9, 3) := by decide +kernel
theorem dX8_shiftSource_40 : decode cX8_shiftSource 40 = .ok (.imul, 1) := by decide +kernel
theorem dX8_shiftSource_41 : decode cX8_shiftSource 41 = .ok (.iadd, 1) := by decide +kernel
theorem dX8_shiftSource_42 : decode cX8_shiftSource 42 = .ok (.aload_n 0, 1) := by decide +kernel
theorem dX8_shiftSource_43 : decode cX8_shiftSource 43 = .ok (.getfield 9, 3) := by decide +kernel
theorem dX8_shiftSource_46 : decode cX8_shiftSource 46 = .ok (.irem, 1) := by decide +kernel
theorem dX8_shiftSource_47 : decode cX8_shiftSource 47 = .ok (.iadd, 1) := by decide +kernel
theorem dX8_shiftSource_48 : decode cX8_shiftSource 48 = .ok (.ireturn, 1) := by decide +kernel
theorem dX8_stainSource_0 : decode cX8_stainSource 0 = .ok (.iload_n 3, 1) := by decide +kernel
theorem dX8_stainSource_1 : decode cX8_stainSource 1 = .ok (.bipush 6, 2) := by decide +kernel
theorem dX8_stainSource_3 : decode cX8_stainSource 3 = .ok (.irem, 1) := by decide +kernel
theorem dX8_stainSource_4 : decode cX8_stainSource 4 = .ok (.istore 5, 2) := by decide +kernel
theorem dX8_stainSource_6 : decode cX8_stainSource 6 = .ok (.iload_n 3, 1) := by decide +kernel
theorem dX8_stainSource_7 : decode cX8_stainSource 7 = .ok (.bipush 6, 2) := by decide +kernel
theorem dX8_stainSource_9 : decode cX8_stainSource 9 = .ok (.idiv, 1) := by decide +kernel
theorem dX8_stainSource_10 : decode cX8_stainSource 10 = .ok (.istore 6, 2) := by decide +kernel
theorem dX8_stainSource_12 : decode cX8_stainSource 12 = .ok (.iload_n 2, 1) := by decide +kernel
theorem dX8_stainSource_13 : decode cX8_stainSource 13 = .ok (.iload_n 3, 1) := by decide +kernel
theorem dX8_stainSource_14 : decode cX8_stainSource 14 = .ok (.iadd, 1) := by decide +kernel
theorem dX8_stainSource_15 : decode cX8_stainSource 15 = .ok (.istore 7, 2) := by decide +kernel
theorem dX8_stainSource_17 : decode cX8_stainSource 17 = .ok (.aload_n 1, 1) := by decide +kernel
theorem dX8_stainSource_18 : decode cX8_stainSource 18 = .ok (.iload 7, 2) := by decide +kernel
theorem dX8_stainSource_20 : decode cX8_stainSource 20 = .ok (.iaload, 1) := by decide +kernel
theorem dX8_stainSource_21 : decode cX8_stainSource 21 = .ok (.iload 4, 2) := by decide +kernel
theorem dX8_stainSource_23 : decode cX8_stainSource 23 = .ok (.if_icmp .ne 5, 3) := by decide +kernel
theorem dX8_stainSource_26 : decode cX8_stainSource 26 = .ok (.iload_n 3, 1) := by decide +kernel
theorem dX8_stainSource_27 : decode cX8_stainSource 27 = .ok (.ireturn, 1) := by decide +kernel
theorem dX8_stainSource_28 : decode cX8_stainSource 28 = .ok (.iload 5, 2) := by decide +kernel
theorem dX8_stainSource_30 : decode cX8_stainSource 30 = .ok (.ifCond .le 18, 3) := by decide +kernel
theorem dX8_stainSource_33 : decode cX8_stainSource 33 = .ok (.aload_n 1, 1) := by decide +kernel
theorem dX8_stainSource_34 : decode cX8_stainSource 34 = .ok (.iload 7, 2) := by decide +kernel
theorem dX8_stainSource_36 : decode cX8_stainSource 36 = .ok (.iconst 1, 1) := by decide +kernel
theorem dX8_stainSource_37 : decode cX8_stainSource 37 = .ok (.isub, 1) := by decide +kernel
theorem dX8_stainSource_38 : decode cX8_stainSource 38 = .ok (.iaload, 1) := by decide +kernel
theorem dX8_stainSource_39 : decode cX8_stainSource 39 = .ok (.iload 4, 2) := by decide +kernel
theorem dX8_stainSource_41 : decode cX8_stainSource 41 = .ok (.if_icmp .ne 7, 3) := by decide +kernel
theorem dX8_stainSource_44 : decode cX8_stainSource 44 = .ok (.iload_n 3, 1) := by decide +kernel
theorem dX8_stainSource_45 : decode cX8_stainSource 45 = .ok (.iconst 1, 1) := by decide +kernel
theorem dX8_stainSource_46 : decode cX8_stainSource 46 = .ok (.isub, 1) := by decide +kernel
theorem dX8_stainSource_47 : decode cX8_stainSource 47 = .ok (.ireturn, 1) := by decide +kernel
theorem dX8_stainSource_48 : decode cX8_stainSource 48 = .ok (.iload 5, 2) := by decide +kernel
theorem dX8_stainSource_50 : decode cX8_stainSource 50 = .ok (.aload_n 0, 1) := by decide +kernel
theorem dX8_stainSource_51 : decode cX8_stainSource 51 = .ok (.getfield 9, 3) := by decide +kernel
theorem dX8_stainSource_54 : decode cX8_stainSource 54 = .ok (.iconst 1, 1) := by decide +kernel
theorem dX8_stainSource_55 : decode cX8_stainSource 55 = .ok (.isub, 1) := by decide +kernel
theorem dX8_stainSource_56 : decode cX8_stainSource 56 = .ok (.if_icmp .ge 18, 3) := by decide +kernel
theorem dX8_stainSource_59 : decode cX8_stainSource 59 = .ok (.aload_n 1, 1) := by decide +kernel
theorem dX8_stainSource_60 : decode cX8_stainSource 60 = .ok (.iload 7, 2) := by decide +kernel
theorem dX8_stainSource_62 : decode cX8_stainSource 62 = .ok (.iconst 1, 1) := by decide +kernel
theorem dX8_stainSource_63 : decode cX8_stainSource 63 = .ok (.iadd, 1) := by decide +kernel
theorem dX8_stainSource_64 : decode cX8_stainSource 64 = .ok (.iaload, 1) := by decide +kernel
theorem dX8_stainSource_65 : decode cX8_stainSource 65 = .ok (.iload 4, 2) := by decide +kernel
theorem dX8_stainSource_67 : decode cX8_stainSource 67 = .ok (.if_icmp .ne 7, 3) := by decide +kernel
theorem dX8_stainSource_70 : decode cX8_stainSource 70 = .ok (.iload_n 3, 1) := by decide +kernel
theorem dX8_stainSource_71 : decode cX8_stainSource 71 = .ok (.iconst 1, 1) := by decide +kernel
theorem dX8_stainSource_72 : decode cX8_stainSource 72 = .ok (.iadd, 1) := by decide +kernel
theorem dX8_stainSource_73 : decode cX8_stainSource 73 = .ok (.ireturn, 1) := by decide +kernel
theorem dX8_stainSource_74 : decode cX8_stainSource 74 = .ok (.iload 6, 2) := by decide +kernel
theorem dX8_stainSource_76 : decode cX8_stainSource 76 = .ok (.ifCond .le 20, 3) := by decide +kernel
theorem dX8_stainSource_79 : decode cX8_stainSource 79 = .ok (.aload_n 1, 1) := by decide +kernel
theorem dX8_stainSource_80 : decode cX8_stainSource 80 = .ok (.iload 7, 2) := by decide +kernel
theorem dX8_stainSource_82 : decode cX8_stainSource 82 = .ok (.bipush 6, 2) := by decide +kernel
theorem dX8_stainSource_84 : decode cX8_stainSource 84 = .ok (.isub, 1) := by decide +kernel
theorem dX8_stainSource_85 : decode cX8_stainSource 85 = .ok (.iaload, 1) := by decide +kernel
theorem dX8_stainSource_86 : decode cX8_stainSource 86 = .ok (.iload 4, 2) := by decide +kernel
theorem dX8_stainSource_88 : decode cX8_stainSource 88 = .ok (.if_icmp .ne 8, 3) := by decide +kernel
theorem dX8_stainSource_91 : decode cX8_stainSource 91 = .ok (.iload_n 3, 1) := by decide +kernel
theorem dX8_stainSource_92 : decode cX8_stainSource 92 = .ok (.bipush 6, 2) := by decide +kernel
theorem dX8_stainSource_94 : decode cX8_stainSource 94 = .ok (.isub, 1) := by decide +kernel
theorem dX8_stainSource_95 : decode cX8_stainSource 95 = .ok (.ireturn, 1) := by decide +kernel
theorem dX8_stainSource_96 : decode cX8_stainSource 96 = .ok (.iload 6, 2) := by decide +kernel
theorem dX8_stainSource_98 : decode cX8_stainSource 98 = .ok (.aload_n 0, 1) := by decide +kernel
theorem dX8_stainSource_99 : decode cX8_stainSource 99 = .ok (.getfield 15, 3) := by decide +kernel
theorem dX8_stainSource_102 : decode cX8_stainSource 102 = .ok (.iconst 1, 1) := by decide +kernel
theorem dX8_stainSource_103 : decode cX8_stainSource 103 = .ok (.isub, 1) := by decide +kernel
theorem dX8_stainSource_104 : decode cX8_stainSource 104 = .ok (.if_icmp .ge 22, 3) := by decide +kernel
theorem dX8_stainSource_107 : decode cX8_stainSource 107 = .ok (.aload_n 1, 1) := by decide +kernel
theorem dX8_stainSource_108 : decode cX8_stainSource 108 = .ok (.iload 7, 2) := by decide +kernel
theorem dX8_stainSource_110 : decode cX8_stainSource 110 = .ok (.bipush 6, 2) := by decide +kernel
theorem dX8_stainSource_112 : decode cX8_stainSource 112 = .ok (.iadd, 1) := by decide +kernel
theorem dX8_stainSource_113 : decode cX8_stainSource 113 = .ok (.iaload, 1) := by decide +kernel
theorem dX8_stainSource_114 : decode cX8_stainSource 114 = .ok (.iload 4, 2) := by decide +kernel
theorem dX8_stainSource_116 : decode cX8_stainSource 116 = .ok (.if_icmp .ne 10, 3) := by decide +kernel
theorem dX8_stainSource_119 : decode cX8_stainSource 119 = .ok (.iload_n 3, 1) := by decide +kernel
theorem dX8_stainSource_120 : decode cX8_stainSource 120 = .ok (.bipush 6, 2) := by decide +kernel
theorem dX8_stainSource_122 : decode cX8_stainSource 122 = .ok (.iadd, 1) := by decide +kernel
theorem dX8_stainSource_123 : decode cX8_stainSource 123 = .ok (.goto 4, 3) := by decide +kernel
theorem dX8_stainSource_126 : decode cX8_stainSource 126 = .ok (.iload_n 3, 1) := by decide +kernel
theorem dX8_stainSource_127 : decode cX8_stainSource 127 = .ok (.ireturn, 1) := by decide +kernel
theorem dX8_beside_0 : decode cX8_beside 0 = .ok (.iload_n 1, 1) := by decide +kernel
theorem dX8_beside_1 : decode cX8_beside 1 = .ok (.bipush 6, 2) := by decide +kernel
theorem dX8_beside_3 : decode cX8_beside 3 = .ok (.irem, 1) := by decide +kernel
theorem dX8_beside_4 : decode cX8_beside 4 = .ok (.istore_n 3, 1) := by decide +kernel
theorem dX8_beside_5 : decode cX8_beside 5 = .ok (.iload_n 1, 1) := by decide +kernel
theorem dX8_beside_6 : decode cX8_beside 6 = .ok (.bipush 6, 2) := by decide +kernel
theorem dX8_beside_8 : decode cX8_beside 8 = .ok (.idiv, 1) := by decide +kernel
theorem dX8_beside_9 : decode cX8_beside 9 = .ok (.istore 4, 2) := by decide +kernel
theorem dX8_beside_11 : decode cX8_beside 11 = .ok (.iload_n 2, 1) := by decide +kernel
theorem dX8_beside_12 : decode cX8_beside 12 = .ok (.tableswitch 72 0 2 #[28, 40, 58], 28) := by decide +kernel
theorem dX8_beside_40 : decode cX8_beside 40 = .ok (.iload_n 3, 1) := by decide +kernel
theorem dX8_beside_41 : decode cX8_beside 41 = .ok (.ifCond .le 9, 3) := by decide +kernel
theorem dX8_beside_44 : decode cX8_beside 44 = .ok (.iload_n 1, 1) := by decide +kernel
theorem dX8_beside_45 : decode cX8_beside 45 = .ok (.iconst 1, 1) := by decide +kernel
theorem dX8_beside_46 : decode cX8_beside 46 = .ok (.isub, 1) := by decide +kernel
theorem dX8_beside_47 : decode cX8_beside 47 = .ok (.goto 4, 3) := by decide +kernel
theorem dX8_beside_50 : decode cX8_beside 50 = .ok (.iconst (-1), 1) := by decide +kernel
theorem dX8_beside_51 : decode cX8_beside 51 = .ok (.ireturn, 1) := by decide +kernel
theorem dX8_beside_52 : decode cX8_beside 52 = .ok (.iload_n 3, 1) := by decide +kernel
theorem dX8_beside_53 : decode cX8_beside 53 = .ok (.aload_n 0, 1) := by decide +kernel
theorem dX8_beside_54 : decode cX8_beside 54 = .ok (.getfield 9, 3) := by decide +kernel
theorem dX8_beside_57 : decode cX8_beside 57 = .ok (.iconst 1, 1) := by decide +kernel
theorem dX8_beside_58 : decode cX8_beside 58 = .ok (.isub, 1) := by decide +kernel
theorem dX8_beside_59 : decode cX8_beside 59 = .ok (.if_icmp .ge 9, 3) := by decide +kernel
theorem dX8_beside_62 : decode cX8_beside 62 = .ok (.iload_n 1, 1) := by decide +kernel
theorem dX8_beside_63 : decode cX8_beside 63 = .ok (.iconst 1, 1) := by decide +kernel
theorem dX8_beside_64 : decode cX8_beside 64 = .ok (.iadd, 1) := by decide +kernel
theorem dX8_beside_65 : decode cX8_beside 65 = .ok (.goto 4, 3) := by decide +kernel
theorem dX8_beside_68 : decode cX8_beside 68 = .ok (.iconst (-1), 1) := by decide +kernel
theorem dX8_beside_69 : decode cX8_beside 69 = .ok (.ireturn, 1) := by decide +kernel
theorem dX8_beside_70 : decode cX8_beside 70 = .ok (.iload 4, 2) := by decide +kernel
theorem dX8_beside_72 : decode cX8_beside 72 = .ok (.ifCond .le 10, 3) := by decide +kernel
theorem dX8_beside_75 : decode cX8_beside 75 = .ok (.iload_n 1, 1) := by decide +kernel
theorem dX8_beside_76 : decode cX8_beside 76 = .ok (.bipush 6, 2) := by decide +kernel
theorem dX8_beside_78 : decode cX8_beside 78 = .ok (.isub, 1) := by decide +kernel
theorem dX8_beside_79 : decode cX8_beside 79 = .ok (.goto 4, 3) := by decide +kernel
theorem dX8_beside_82 : decode cX8_beside 82 = .ok (.iconst (-1), 1) := by decide +kernel
theorem dX8_beside_83 : decode cX8_beside 83 = .ok (.ireturn, 1) := by decide +kernel
theorem dX8_beside_84 : decode cX8_beside 84 = .ok (.iload 4, 2) := by decide +kernel
theorem dX8_beside_86 : decode cX8_beside 86 = .ok (.aload_n 0, 1) := by decide +kernel
theorem dX8_beside_87 : decode cX8_beside 87 = .ok (.getfield 15, 3) := by decide +kernel
theorem dX8_beside_90 : decode cX8_beside 90 = .ok (.iconst 1, 1) := by decide +kernel
theorem dX8_beside_91 : decode cX8_beside 91 = .ok (.isub, 1) := by decide +kernel
theorem dX8_beside_92 : decode cX8_beside 92 = .ok (.if_icmp .ge 10, 3) := by decide +kernel
theorem dX8_beside_95 : decode cX8_beside 95 = .ok (.iload_n 1, 1) := by decide +kernel
theorem dX8_beside_96 : decode cX8_beside 96 = .ok (.bipush 6, 2) := by decide +kernel
theorem dX8_beside_98 : decode cX8_beside 98 = .ok (.iadd, 1) := by decide +kernel
theorem dX8_beside_99 : decode cX8_beside 99 = .ok (.goto 4, 3) := by decide +kernel
theorem dX8_beside_102 : decode cX8_beside 102 = .ok (.iconst (-1), 1) := by decide +kernel
theorem dX8_beside_103 : decode cX8_beside 103 = .ok (.ireturn, 1) := by decide +kernel
theorem dX8_isEdge_0 : decode cX8_isEdge 0 = .ok (.iload_n 1, 1) := by decide +kernel
theorem dX8_isEdge_1 : decode cX8_isEdge 1 = .ok (.bipush 6, 2) := by decide +kernel
theorem dX8_isEdge_3 : decode cX8_isEdge 3 = .ok (.irem, 1) := by decide +kernel
theorem dX8_isEdge_4 : decode cX8_isEdge 4 = .ok (.istore_n 2, 1) := by decide +kernel
theorem dX8_isEdge_5 : decode cX8_isEdge 5 = .ok (.iload_n 1, 1) := by decide +kernel
theorem dX8_isEdge_6 : decode cX8_isEdge 6 = .ok (.bipush 6, 2) := by decide +kernel
theorem dX8_isEdge_8 : decode cX8_isEdge 8 = .ok (.idiv, 1) := by decide +kernel
theorem dX8_isEdge_9 : decode cX8_isEdge 9 = .ok (.istore_n 3, 1) := by decide +kernel
theorem dX8_isEdge_10 : decode cX8_isEdge 10 = .ok (.iload_n 2, 1) := by decide +kernel
theorem dX8_isEdge_11 : decode cX8_isEdge 11 = .ok (.ifCond .eq 27, 3) := by decide +kernel
theorem dX8_isEdge_14 : decode cX8_isEdge 14 = .ok (.iload_n 3, 1) := by decide +kernel
theorem dX8_isEdge_15 : decode cX8_isEdge 15 = .ok (.ifCond .eq 23, 3) := by decide +kernel
theorem dX8_isEdge_18 : decode cX8_isEdge 18 = .ok (.iload_n 2, 1) := by decide +kernel
theorem dX8_isEdge_19 : decode cX8_isEdge 19 = .ok (.aload_n 0, 1) := by decide +kernel
theorem dX8_isEdge_20 : decode cX8_isEdge 20 = .ok (.getfield 9, 3) := by decide +kernel
theorem dX8_isEdge_23 : decode cX8_isEdge 23 = .ok (.iconst 1, 1) := by decide +kernel
theorem dX8_isEdge_24 : decode cX8_isEdge 24 = .ok (.isub, 1) := by decide +kernel
theorem dX8_isEdge_25 : decode cX8_isEdge 25 = .ok (.if_icmp .eq 13, 3) := by decide +kernel
theorem dX8_isEdge_28 : decode cX8_isEdge 28 = .ok (.iload_n 3, 1) := by decide +kernel
theorem dX8_isEdge_29 : decode cX8_isEdge 29 = .ok (.aload_n 0, 1) := by decide +kernel
theorem dX8_isEdge_30 : decode cX8_isEdge 30 = .ok (.getfield 15, 3) := by decide +kernel
theorem dX8_isEdge_33 : decode cX8_isEdge 33 = .ok (.iconst 1, 1) := by decide +kernel
theorem dX8_isEdge_34 : decode cX8_isEdge 34 = .ok (.isub, 1) := by decide +kernel
theorem dX8_isEdge_35 : decode cX8_isEdge 35 = .ok (.if_icmp .ne 7, 3) := by decide +kernel
theorem dX8_isEdge_38 : decode cX8_isEdge 38 = .ok (.iconst 1, 1) := by decide +kernel
theorem dX8_isEdge_39 : decode cX8_isEdge 39 = .ok (.goto 4, 3) := by decide +kernel
theorem dX8_isEdge_42 : decode cX8_isEdge 42 = .ok (.iconst 0, 1) := by decide +kernel
theorem dX8_isEdge_43 : decode cX8_isEdge 43 = .ok (.ireturn, 1) := by decide +kernel
theorem dX9_init_0 : decode cX9_init 0 = .ok (.aload_n 0, 1) := by decide +kernel
theorem dX9_init_1 : decode cX9_init 1 = .ok (.invokespecial 3, 3) := by decide +kernel
theorem dX9_init_4 : decode cX9_init 4 = .ok (.aload_n 0, 1) := by decide +kernel
theorem dX9_init_5 : decode cX9_init 5 = .ok (.sipush 900, 3) := by decide +kernel
theorem dX9_init_8 : decode cX9_init 8 = .ok (.newarray .int, 2) := by decide +kernel
theorem dX9_init_10 : decode cX9_init 10 = .ok (.putfield 9, 3) := by decide +kernel
theorem dX9_init_13 : decode cX9_init 13 = .ok (.aload_n 0, 1) := by decide +kernel
theorem dX9_init_14 : decode cX9_init 14 = .ok (.iconst 0, 1) := by decide +kernel
theorem dX9_init_15 : decode cX9_init 15 = .ok (.putfield 13, 3) := by decide +kernel
theorem dX9_init_18 : decode cX9_init 18 = .ok (.aload_n 0, 1) := by decide +kernel
theorem dX9_init_19 : decode cX9_init 19 = .ok (.new 17, 3) := by decide +kernel
theorem dX9_init_22 : decode cX9_init 22 = .ok (.dup, 1) := by decide +kernel
theorem dX9_init_23 : decode cX9_init 23 = .ok (.invokespecial 19, 3) := by decide +kernel
theorem dX9_init_26 : decode cX9_init 26 = .ok (.putfield 20, 3) := by decide +kernel
theorem dX9_init_29 : decode cX9_init 29 = .ok (.aload_n 0, 1) := by decide +kernel
theorem dX9_init_30 : decode cX9_init 30 = .ok (.new 17, 3) := by decide +kernel
theorem dX9_init_33 : decode cX9_init 33 = .ok (.dup, 1) := by decide +kernel
theorem dX9_init_34 : decode cX9_init 34 = .ok (.invokespecial 19, 3) := by decide +kernel
theorem dX9_init_37 : decode cX9_init 37 = .ok (.putfield 24, 3) := by decide +kernel
theorem dX9_init_40 : decode cX9_init 40 = .ok (.aload_n 0, 1) := by decide +kernel
theorem dX9_init_41 : decode cX9_init 41 = .ok (.new 27, 3) := by decide +kernel
theorem dX9_init_44 : decode cX9_init 44 = .ok (.dup, 1) := by decide +kernel
theorem dX9_init_45 : decode cX9_init 45 = .ok (.invokespecial 29, 3) := by decide +kernel
theorem dX9_init_48 : decode cX9_init 48 = .ok (.putfield 30, 3) := by decide +kernel
theorem dX9_init_51 : decode cX9_init 51 = .ok (.aload_n 0, 1) := by decide +kernel
theorem dX9_init_52 : decode cX9_init 52 = .ok (.new 27, 3) := by decide +kernel
theorem dX9_init_55 : decode cX9_init 55 = .ok (.dup, 1) := by decide +kernel
theorem dX9_init_56 : decode cX9_init 56 = .ok (.invokespecial 29, 3) := by decide +kernel
theorem dX9_init_59 : decode cX9_init 59 = .ok (.putfield 34, 3) := by decide +kernel
theorem dX9_init_62 : decode cX9_init 62 = .ok (.aload_n 0, 1) := by decide +kernel
theorem dX9_init_63 : decode cX9_init 63 = .ok (.new 27, 3) := by decide +kernel
theorem dX9_init_66 : decode cX9_init 66 = .ok (.dup, 1) := by decide +kernel
theorem dX9_init_67 : decode cX9_init 67 = .ok (.invokespecial 29, 3) := by decide +kernel
theorem dX9_init_70 : decode cX9_init 70 = .ok (.putfield 37, 3) := by decide +kernel
theorem dX9_init_73 : decode cX9_init 73 = .ok (.aload_n 0, 1) := by decide +kernel
theorem dX9_init_74 : decode cX9_init 74 = .ok (.new 40, 3) := by decide +kernel
theorem dX9_init_77 : decode cX9_init 77 = .ok (.dup, 1) := by decide +kernel
theorem dX9_init_78 : decode cX9_init 78 = .ok (.invokespecial 42, 3) := by decide +kernel
theorem dX9_init_81 : decode cX9_init 81 = .ok (.putfield 43, 3) := by decide +kernel
theorem dX9_init_84 : decode cX9_init 84 = .ok (.aload_n 0, 1) := by decide +kernel
theorem dX9_init_85 : decode cX9_init 85 = .ok (.new 47, 3) := by decide +kernel
theorem dX9_init_88 : decode cX9_init 88 = .ok (.dup, 1) := by decide +kernel
theorem dX9_init_89 : decode cX9_init 89 = .ok (.aload_n 0, 1) := by decide +kernel
theorem dX9_init_90 : decode cX9_init 90 = .ok (.getfield 30, 3) := by decide +kernel
theorem dX9_init_93 : decode cX9_init 93 = .ok (.invokespecial 49, 3) := by decide +kernel
theorem dX9_init_96 : decode cX9_init 96 = .ok (.putfield 52, 3) := by decide +kernel
theorem dX9_init_99 : decode cX9_init 99 = .ok (.aload_n 0, 1) := by decide +kernel
theorem dX9_init_100 : decode cX9_init 100 = .ok (.new 56, 3) := by decide +kernel
theorem dX9_init_103 : decode cX9_init 103 = .ok (.dup, 1) := by decide +kernel
theorem dX9_init_104 : decode cX9_init 104 = .ok (.aload_n 0, 1) := by decide +kernel
theorem dX9_init_105 : decode cX9_init 105 = .ok (.getfield 52, 3) := by decide +kernel
theorem dX9_init_108 : decode cX9_init 108 = .ok (.invokespecial 58, 3) := by decide +kernel
theorem dX9_init_111 : decode cX9_init 111 = .ok (.putfield 61, 3) := by decide +kernel
theorem dX9_init_114 : decode cX9_init 114 = .ok (.aload_n 0, 1) := by decide +kernel
theorem dX9_init_115 : decode cX9_init 115 = .ok (.new 65, 3) := by decide +kernel
theorem dX9_init_118 : decode cX9_init 118 = .ok (.dup, 1) := by decide +kernel
theorem dX9_init_119 : decode cX9_init 119 = .ok (.aload_n 0, 1) := by decide +kernel
theorem dX9_init_120 : decode cX9_init 120 = .ok (.getfield 52, 3) := by decide +kernel
theorem dX9_init_123 : decode cX9_init 123 = .ok (.invokespecial 67, 3) := by decide +kernel
theorem dX9_init_126 : decode cX9_init 126 = .ok (.putfield 68, 3) := by decide +kernel
theorem dX9_init_129 : decode cX9_init 129 = .ok (.aload_n 0, 1) := by decide +kernel
theorem dX9_init_130 : decode cX9_init 130 = .ok (.new 72, 3) := by decide +kernel
theorem dX9_init_133 : decode cX9_init 133 = .ok (.dup, 1) := by decide +kernel
theorem dX9_init_134 : decode cX9_init 134 = .ok (.invokespecial 74, 3) := by decide +kernel
theorem dX9_init_137 : decode cX9_init 137 = .ok (.putfield 75, 3) := by decide +kernel
theorem dX9_init_140 : decode cX9_init 140 = .ok (.aload_n 0, 1) := by decide +kernel
theorem dX9_init_141 : decode cX9_init 141 = .ok (.bipush 36, 2) := by decide +kernel
theorem dX9_init_143 : decode cX9_init 143 = .ok (.newarray .int, 2) := by decide +kernel
theorem dX9_init_145 : decode cX9_init 145 = .ok (.putfield 79, 3) := by decide +kernel
theorem dX9_init_148 : decode cX9_init 148 = .ok (.aload_n 0, 1) := by decide +kernel
theorem dX9_init_149 : decode cX9_init 149 = .ok (.sipush 216, 3) := by decide +kernel
theorem dX9_init_152 : decode cX9_init 152 = .ok (.newarray .int, 2) := by decide +kernel
theorem dX9_init_154 : decode cX9_init 154 = .ok (.putfield 82, 3) := by decide +kernel
theorem dX9_init_157 : decode cX9_init 157 = .ok (.aload_n 0, 1) := by decide +kernel
theorem dX9_init_158 : decode cX9_init 158 = .ok (.iconst 0, 1) := by decide +kernel
theorem dX9_init_159 : decode cX9_init 159 = .ok (.putfield 85, 3) := by decide +kernel
theorem dX9_init_162 : decode cX9_init 162 = .ok (.aload_n 0, 1) := by decide +kernel
theorem dX9_init_163 : decode cX9_init 163 = .ok (.iconst 0, 1) := by decide +kernel
theorem dX9_init_164 : decode cX9_init 164 = .ok (.putfield 88, 3) := by decide +kernel
theorem dX9_init_167 : decode cX9_init 167 = .ok (.aload_n 0, 1) := by decide +kernel
theorem dX9_init_168 : decode cX9_init 168 = .ok (.iconst (-1), 1) := by decide +kernel
theorem dX9_init_169 : decode cX9_init 169 = .ok (.putfield 91, 3) := by decide +kernel
theorem dX9_init_172 : decode cX9_init 172 = .ok (.return_, 1) := by decide +kernel
theorem dX9_feed_0 : decode cX9_feed 0 = .ok (.aload_n 0, 1) := by decide +kernel
theorem dX9_feed_1 : decode cX9_feed 1 = .ok (.getfield 13, 3) := by decide +kernel
theorem dX9_feed_4 : decode cX9_feed 4 = .ok (.bipush 20, 2) := by decide +kernel
theorem dX9_feed_6 : decode cX9_feed 6 = .ok (.iadd, 1) := by decide +kernel
theorem dX9_feed_7 : decode cX9_feed 7 = .ok (.sipush 900, 3) := by decide +kernel
theorem dX9_feed_10 : decode cX9_feed 10 = .ok (.if_icmp .le 5, 3) := by decide +kernel
theorem dX9_feed_13 : decode cX9_feed 13 = .ok (.iconst (-1), 1) := by decide +kernel
theorem dX9_feed_14 : decode cX9_feed 14 = .ok (.ireturn, 1) := by decide +kernel
theorem dX9_feed_15 : decode cX9_feed 15 = .ok (.aload_n 0, 1) := by decide +kernel
theorem dX9_feed_16 : decode cX9_feed 16 = .ok (.iload_n 1, 1) := by decide +kernel
theorem dX9_feed_17 : decode cX9_feed 17 = .ok (.invokevirtual 94, 3) := by decide +kernel
theorem dX9_feed_20 : decode cX9_feed 20 = .ok (.aload_n 0, 1) := by decide +kernel
theorem dX9_feed_21 : decode cX9_feed 21 = .ok (.iload_n 2, 1) := by decide +kernel
theorem dX9_feed_22 : decode cX9_feed 22 = .ok (.invokevirtual 94, 3) := by decide +kernel
theorem dX9_feed_25 : decode cX9_feed 25 = .ok (.aload_n 0, 1) := by decide +kernel
theorem dX9_feed_26 : decode cX9_feed 26 = .ok (.iload_n 3, 1) := by decide +kernel
theorem dX9_feed_27 : decode cX9_feed 27 = .ok (.invokevirtual 94, 3) := by decide +kernel
theorem dX9_feed_30 : decode cX9_feed 30 = .ok (.aload_n 0, 1) := by decide +kernel
theorem dX9_feed_31 : decode cX9_feed 31 = .ok (.iload 4, 2) := by decide +kernel
theorem dX9_feed_33 : decode cX9_feed 33 = .ok (.invokevirtual 94, 3) := by decide +kernel
theorem dX9_feed_36 : decode cX9_feed 36 = .ok (.aload_n 0, 1) := by decide +kernel
theorem dX9_feed_37 : decode cX9_feed 37 = .ok (.iload 5, 2) := by decide +kernel
theorem dX9_feed_39 : decode cX9_feed 39 = .ok (.invokevirtual 94, 3) := by decide +kernel
theorem dX9_feed_42 : decode cX9_feed 42 = .ok (.aload_n 0, 1) := by decide +kernel
theorem dX9_feed_43 : decode cX9_feed 43 = .ok (.getfield 13, 3) := by decide +kernel
theorem dX9_feed_46 : decode cX9_feed 46 = .ok (.ireturn, 1) := by decide +kernel
theorem dX9_append_0 : decode cX9_append 0 = .ok (.bipush 24, 2) := by decide +kernel
theorem dX9_append_2 : decode cX9_append 2 = .ok (.istore_n 2, 1) := by decide +kernel
theorem dX9_append_3 : decode cX9_append 3 = .ok (.iload_n 2, 1) := by decide +kernel
theorem dX9_append_4 : decode cX9_append 4 = .ok (.ifCond .lt 35, 3) := by decide +kernel
theorem dX9_append_7 : decode cX9_append 7 = .ok (.aload_n 0, 1) := by decide +kernel
theorem dX9_append_8 : decode cX9_append 8 = .ok (.getfield 9, 3) := by decide +kernel
theorem dX9_append_11 : decode cX9_append 11 = .ok (.aload_n 0, 1) := by decide +kernel
theorem dX9_append_12 : decode cX9_append 12 = .ok (.getfield 13, 3) := by decide +kernel
theorem dX9_append_15 : decode cX9_append 15 = .ok (.iload_n 1, 1) := by decide +kernel
theorem dX9_append_16 : decode cX9_append 16 = .ok (.iload_n 2, 1) := by decide +kernel
theorem dX9_append_17 : decode cX9_append 17 = .ok (.iushr, 1) := by decide +kernel
theorem dX9_append_18 : decode cX9_append 18 = .ok (.sipush 255, 3) := by decide +kernel
theorem dX9_append_21 : decode cX9_append 21 = .ok (.iand, 1) := by decide +kernel
theorem dX9_append_22 : decode cX9_append 22 = .ok (.iastore, 1) := by decide +kernel
theorem dX9_append_23 : decode cX9_append 23 = .ok (.aload_n 0, 1) := by decide +kernel
theorem dX9_append_24 : decode cX9_append 24 = .ok (.dup, 1) := by decide +kernel
theorem dX9_append_25 : decode cX9_append 25 = .ok (.getfield 13, 3) := by decide +kernel
theorem dX9_append_28 : decode cX9_append 28 = .ok (.iconst 1, 1) := by decide +kernel
theorem dX9_append_29 : decode cX9_append 29 = .ok (.iadd, 1) := by decide +kernel
theorem dX9_append_30 : decode cX9_append 30 = .ok (.putfield 13, 3) := by decide +kernel
theorem dX9_append_33 : decode cX9_append 33 = .ok (.iinc 2 (-8), 3) := by decide +kernel
theorem dX9_append_36 : decode cX9_append 36 = .ok (.goto (-33), 3) := by decide +kernel
theorem dX9_append_39 : decode cX9_append 39 = .ok (.return_, 1) := by decide +kernel
theorem dX9_ring_0 : decode cX9_ring 0 = .ok (.iload_n 1, 1) := by decide +kernel
theorem dX9_ring_1 : decode cX9_ring 1 = .ok (.ifCond .lt 11, 3) := by decide +kernel
theorem dX9_ring_4 : decode cX9_ring 4 = .ok (.iload_n 1, 1) := by decide +kernel
theorem dX9_ring_5 : decode cX9_ring 5 = .ok (.aload_n 0, 1) := by decide +kernel
theorem dX9_ring_6 : decode cX9_ring 6 = .ok (.getfield 13, 3) := by decide +kernel
theorem dX9_ring_9 : decode cX9_ring 9 = .ok (.if_icmp .le 9, 3) := by decide +kernel
theorem dX9_ring_12 : decode cX9_ring 12 = .ok (.aload_n 0, 1) := by decide +kernel
theorem dX9_ring_13 : decode cX9_ring 13 = .ok (.iconst 2, 1) := by decide +kernel
theorem dX9_ring_14 : decode cX9_ring 14 = .ok (.invokevirtual 98, 3) := by decide +kernel
theorem dX9_ring_17 : decode cX9_ring 17 = .ok (.ireturn, 1) := by decide +kernel
theorem dX9_ring_18 : decode cX9_ring 18 = .ok (.aload_n 0, 1) := by decide +kernel
theorem dX9_ring_19 : decode cX9_ring 19 = .ok (.iconst 0, 1) := by decide +kernel
theorem dX9_ring_20 : decode cX9_ring 20 = .ok (.putfield 13, 3) := by decide +kernel
theorem dX9_ring_23 : decode cX9_ring 23 = .ok (.new 102, 3) := by decide +kernel
theorem dX9_ring_26 : decode cX9_ring 26 = .ok (.dup, 1) := by decide +kernel
theorem dX9_ring_27 : decode cX9_ring 27 = .ok (.aload_n 0, 1) := by decide +kernel
theorem dX9_ring_28 : decode cX9_ring 28 = .ok (.getfield 9, 3) := by decide +kernel
theorem dX9_ring_31 : decode cX9_ring 31 = .ok (.iload_n 1, 1) := by decide +kernel
theorem dX9_ring_32 : decode cX9_ring 32 = .ok (.aload_n 0, 1) := by decide +kernel
theorem dX9_ring_33 : decode cX9_ring 33 = .ok (.getfield 24, 3) := by decide +kernel
theorem dX9_ring_36 : decode cX9_ring 36 = .ok (.invokespecial 104, 3) := by decide +kernel
theorem dX9_ring_39 : decode cX9_ring 39 = .ok (.astore_n 2, 1) := by decide +kernel
theorem dX9_ring_40 : decode cX9_ring 40 = .ok (.aload_n 2, 1) := by decide +kernel
theorem dX9_ring_41 : decode cX9_ring 41 = .ok (.invokevirtual 107, 3) := by decide +kernel
theorem dX9_ring_44 : decode cX9_ring 44 = .ok (.istore_n 3, 1) := by decide +kernel
theorem dX9_ring_45 : decode cX9_ring 45 = .ok (.aload_n 0, 1) := by decide +kernel
theorem dX9_ring_46 : decode cX9_ring 46 = .ok (.aload_n 2, 1) := by decide +kernel
theorem dX9_ring_47 : decode cX9_ring 47 = .ok (.getfield 111, 3) := by decide +kernel
theorem dX9_ring_50 : decode cX9_ring 50 = .ok (.putfield 88, 3) := by decide +kernel
theorem dX9_ring_53 : decode cX9_ring 53 = .ok (.aload_n 0, 1) := by decide +kernel
theorem dX9_ring_54 : decode cX9_ring 54 = .ok (.aload_n 2, 1) := by decide +kernel
theorem dX9_ring_55 : decode cX9_ring 55 = .ok (.getfield 114, 3) := by decide +kernel
theorem dX9_ring_58 : decode cX9_ring 58 = .ok (.putfield 91, 3) := by decide +kernel
theorem dX9_ring_61 : decode cX9_ring 61 = .ok (.iload_n 3, 1) := by decide +kernel
theorem dX9_ring_62 : decode cX9_ring 62 = .ok (.ifCond .ne 9, 3) := by decide +kernel
theorem dX9_ring_65 : decode cX9_ring 65 = .ok (.aload_n 0, 1) := by decide +kernel
theorem dX9_ring_66 : decode cX9_ring 66 = .ok (.iconst 4, 1) := by decide +kernel
theorem dX9_ring_67 : decode cX9_ring 67 = .ok (.invokevirtual 98, 3) := by decide +kernel
theorem dX9_ring_70 : decode cX9_ring 70 = .ok (.ireturn, 1) := by decide +kernel
theorem dX9_ring_71 : decode cX9_ring 71 = .ok (.aload_n 0, 1) := by decide +kernel
theorem dX9_ring_72 : decode cX9_ring 72 = .ok (.getfield 20, 3) := by decide +kernel
theorem dX9_ring_75 : decode cX9_ring 75 = .ok (.astore 4, 2) := by decide +kernel
theorem dX9_ring_77 : decode cX9_ring 77 = .ok (.aload_n 0, 1) := by decide +kernel
theorem dX9_ring_78 : decode cX9_ring 78 = .ok (.aload_n 0, 1) := by decide +kernel
theorem dX9_ring_79 : decode cX9_ring 79 = .ok (.getfield 24, 3) := by decide +kernel
theorem dX9_ring_82 : decode cX9_ring 82 = .ok (.putfield 20, 3) := by decide +kernel
theorem dX9_ring_85 : decode cX9_ring 85 = .ok (.aload_n 0, 1) := by decide +kernel
theorem dX9_ring_86 : decode cX9_ring 86 = .ok (.aload 4, 2) := by decide +kernel
theorem dX9_ring_88 : decode cX9_ring 88 = .ok (.putfield 24, 3) := by decide +kernel
theorem dX9_ring_91 : decode cX9_ring 91 = .ok (.aload_n 0, 1) := by decide +kernel
theorem dX9_ring_92 : decode cX9_ring 92 = .ok (.getfield 30, 3) := by decide +kernel
theorem dX9_ring_95 : decode cX9_ring 95 = .ok (.aload_n 0, 1) := by decide +kernel
theorem dX9_ring_96 : decode cX9_ring 96 = .ok (.getfield 20, 3) := by decide +kernel
theorem dX9_ring_99 : decode cX9_ring 99 = .ok (.getfield 117, 3) := by decide +kernel
theorem dX9_ring_102 : decode cX9_ring 102 = .ok (.invokevirtual 120, 3) := by decide +kernel
theorem dX9_ring_105 : decode cX9_ring 105 = .ok (.aload_n 0, 1) := by decide +kernel
theorem dX9_ring_106 : decode cX9_ring 106 = .ok (.getfield 43, 3) := by decide +kernel
theorem dX9_ring_109 : decode cX9_ring 109 = .ok (.invokevirtual 123, 3) := by decide +kernel
theorem dX9_ring_112 : decode cX9_ring 112 = .ok (.aload_n 0, 1) := by decide +kernel
theorem dX9_ring_113 : decode cX9_ring 113 = .ok (.getfield 68, 3) := by decide +kernel
theorem dX9_ring_116 : decode cX9_ring 116 = .ok (.iconst 0, 1) := by decide +kernel
theorem dX9_ring_117 : decode cX9_ring 117 = .ok (.putfield 126, 3) := by decide +kernel
theorem dX9_ring_120 : decode cX9_ring 120 = .ok (.aload_n 0, 1) := by decide +kernel
theorem dX9_ring_121 : decode cX9_ring 121 = .ok (.aload_n 0, 1) := by decide +kernel
theorem dX9_ring_122 : decode cX9_ring 122 = .ok (.getfield 30, 3) := by decide +kernel
theorem dX9_ring_125 : decode cX9_ring 125 = .ok (.getfield 130, 3) := by decide +kernel
theorem dX9_ring_128 : decode cX9_ring 128 = .ok (.invokevirtual 133, 3) := by decide +kernel
theorem dX9_ring_131 : decode cX9_ring 131 = .ok (.ireturn, 1) := by decide +kernel
theorem dX9_fault_0 : decode cX9_fault 0 = .ok (.aload_n 0, 1) := by decide +kernel
theorem dX9_fault_1 : decode cX9_fault 1 = .ok (.getfield 88, 3) := by decide +kernel
theorem dX9_fault_4 : decode cX9_fault 4 = .ok (.ireturn, 1) := by decide +kernel
theorem dX9_where_0 : decode cX9_where 0 = .ok (.aload_n 0, 1) := by decide +kernel
theorem dX9_where_1 : decode cX9_where 1 = .ok (.getfield 85, 3) := by decide +kernel
theorem dX9_where_4 : decode cX9_where 4 = .ok (.iconst 4, 1) := by decide +kernel
theorem dX9_where_5 : decode cX9_where 5 = .ok (.if_icmp .ne 10, 3) := by decide +kernel
theorem dX9_where_8 : decode cX9_where 8 = .ok (.aload_n 0, 1) := by decide +kernel
theorem dX9_where_9 : decode cX9_where 9 = .ok (.getfield 91, 3) := by decide +kernel
theorem dX9_where_12 : decode cX9_where 12 = .ok (.goto 4, 3) := by decide +kernel
theorem dX9_where_15 : decode cX9_where 15 = .ok (.iconst (-1), 1) := by decide +kernel
theorem dX9_where_16 : decode cX9_where 16 = .ok (.ireturn, 1) := by decide +kernel
theorem dX9_copies_0 : decode cX9_copies 0 = .ok (.aload_n 0, 1) := by decide +kernel
theorem dX9_copies_1 : decode cX9_copies 1 = .ok (.iload_n 1, 1) := by decide +kernel
theorem dX9_copies_2 : decode cX9_copies 2 = .ok (.invokevirtual 136, 3) := by decide +kernel
theorem dX9_copies_5 : decode cX9_copies 5 = .ok (.ifCond .ne 9, 3) := by decide +kernel
theorem dX9_copies_8 : decode cX9_copies 8 = .ok (.aload_n 0, 1) := by decide +kernel
theorem dX9_copies_9 : decode cX9_copies 9 = .ok (.iconst 1, 1) := by decide +kernel
theorem dX9_copies_10 : decode cX9_copies 10 = .ok (.invokevirtual 98, 3) := by decide +kernel
theorem dX9_copies_13 : decode cX9_copies 13 = .ok (.ireturn, 1) := by decide +kernel
theorem dX9_copies_14 : decode cX9_copies 14 = .ok (.aload_n 0, 1) := by decide +kernel
theorem dX9_copies_15 : decode cX9_copies 15 = .ok (.aload_n 0, 1) := by decide +kernel
theorem dX9_copies_16 : decode cX9_copies 16 = .ok (.getfield 30, 3) := by decide +kernel
theorem dX9_copies_19 : decode cX9_copies 19 = .ok (.getfield 140, 3) := by decide +kernel
theorem dX9_copies_22 : decode cX9_copies 22 = .ok (.iload_n 1, 1) := by decide +kernel
theorem dX9_copies_23 : decode cX9_copies 23 = .ok (.iaload, 1) := by decide +kernel
theorem dX9_copies_24 : decode cX9_copies 24 = .ok (.invokevirtual 133, 3) := by decide +kernel
theorem dX9_copies_27 : decode cX9_copies 27 = .ok (.ireturn, 1) := by decide +kernel
theorem dX9_error_0 : decode cX9_error 0 = .ok (.aload_n 0, 1) := by decide +kernel
theorem dX9_error_1 : decode cX9_error 1 = .ok (.iload_n 1, 1) := by decide +kernel
theorem dX9_error_2 : decode cX9_error 2 = .ok (.invokevirtual 136, 3) := by decide +kernel
theorem dX9_error_5 : decode cX9_error 5 = .ok (.ifCond .eq 12, 3) := by decide +kernel
theorem dX9_error_8 : decode cX9_error 8 = .ok (.iload_n 2, 1) := by decide +kernel
theorem dX9_error_9 : decode cX9_error 9 = .ok (.ifCond .lt 8, 3) := by decide +kernel
theorem dX9_error_12 : decode cX9_error 12 = .ok (.iload_n 2, 1) := by decide +kernel
theorem dX9_error_13 : decode cX9_error 13 = .ok (.iconst 4, 1) := by decide +kernel
theorem dX9_error_14 : decode cX9_error 14 = .ok (.if_icmp .lt 9, 3) := by decide +kernel
theorem dX9_error_17 : decode cX9_error 17 = .ok (.aload_n 0, 1) := by decide +kernel
theorem dX9_error_18 : decode cX9_error 18 = .ok (.iconst 1, 1) := by decide +kernel
theorem dX9_error_19 : decode cX9_error 19 = .ok (.invokevirtual 98, 3) := by decide +kernel
theorem dX9_error_22 : decode cX9_error 22 = .ok (.ireturn, 1) := by decide +kernel
theorem dX9_error_23 : decode cX9_error 23 = .ok (.aload_n 0, 1) := by decide +kernel
theorem dX9_error_24 : decode cX9_error 24 = .ok (.aload_n 0, 1) := by decide +kernel
theorem dX9_error_25 : decode cX9_error 25 = .ok (.getfield 30, 3) := by decide +kernel
theorem dX9_error_28 : decode cX9_error 28 = .ok (.getfield 143, 3) := by decide +kernel
theorem dX9_error_31 : decode cX9_error 31 = .ok (.iconst 4, 1) := by decide +kernel
theorem dX9_error_32 : decode cX9_error 32 = .ok (.iload_n 1, 1) := by decide +kernel
theorem dX9_error_33 : decode cX9_error 33 = .ok (.imul, 1) := by decide +kernel
theorem dX9_error_34 : decode cX9_error 34 = .ok (.iload_n 2, 1) := by decide +kernel
theorem dX9_error_35 : decode cX9_error 35 = .ok (.iadd, 1) := by decide +kernel
theorem dX9_error_36 : decode cX9_error 36 = .ok (.iaload, 1) := by decide +kernel
theorem dX9_error_37 : decode cX9_error 37 = .ok (.invokevirtual 133, 3) := by decide +kernel
theorem dX9_error_40 : decode cX9_error 40 = .ok (.ireturn, 1) := by decide +kernel
theorem dX9_cell_0 : decode cX9_cell 0 = .ok (.aload_n 0, 1) := by decide +kernel
theorem dX9_cell_1 : decode cX9_cell 1 = .ok (.iload_n 1, 1) := by decide +kernel
theorem dX9_cell_2 : decode cX9_cell 2 = .ok (.invokevirtual 136, 3) := by decide +kernel
theorem dX9_cell_5 : decode cX9_cell 5 = .ok (.ifCond .eq 11, 3) := by decide +kernel
theorem dX9_cell_8 : decode cX9_cell 8 = .ok (.aload_n 0, 1) := by decide +kernel
theorem dX9_cell_9 : decode cX9_cell 9 = .ok (.iload_n 2, 1) := by decide +kernel
theorem dX9_cell_10 : decode cX9_cell 10 = .ok (.invokevirtual 146, 3) := by decide +kernel
theorem dX9_cell_13 : decode cX9_cell 13 = .ok (.ifCond .ne 9, 3) := by decide +kernel
theorem dX9_cell_16 : decode cX9_cell 16 = .ok (.aload_n 0, 1) := by decide +kernel
theorem dX9_cell_17 : decode cX9_cell 17 = .ok (.iconst 1, 1) := by decide +kernel
theorem dX9_cell_18 : decode cX9_cell 18 = .ok (.invokevirtual 98, 3) := by decide +kernel
theorem dX9_cell_21 : decode cX9_cell 21 = .ok (.ireturn, 1) := by decide +kernel
theorem dX9_cell_22 : decode cX9_cell 22 = .ok (.aload_n 0, 1) := by decide +kernel
theorem dX9_cell_23 : decode cX9_cell 23 = .ok (.aload_n 0, 1) := by decide +kernel
theorem dX9_cell_24 : decode cX9_cell 24 = .ok (.getfield 30, 3) := by decide +kernel
theorem dX9_cell_27 : decode cX9_cell 27 = .ok (.getfield 149, 3) := by decide +kernel
theorem dX9_cell_30 : decode cX9_cell 30 = .ok (.bipush 36, 2) := by decide +kernel
theorem dX9_cell_32 : decode cX9_cell 32 = .ok (.iload_n 1, 1) := by decide +kernel
theorem dX9_cell_33 : decode cX9_cell 33 = .ok (.imul, 1) := by decide +kernel
theorem dX9_cell_34 : decode cX9_cell 34 = .ok (.iload_n 2, 1) := by decide +kernel
theorem dX9_cell_35 : decode cX9_cell 35 = .ok (.invokestatic 152, 3) := by decide +kernel
theorem dX9_cell_38 : decode cX9_cell 38 = .ok (.iadd, 1) := by decide +kernel
theorem dX9_cell_39 : decode cX9_cell 39 = .ok (.iaload, 1) := by decide +kernel
theorem dX9_cell_40 : decode cX9_cell 40 = .ok (.invokevirtual 133, 3) := by decide +kernel
theorem dX9_cell_43 : decode cX9_cell 43 = .ok (.ireturn, 1) := by decide +kernel
theorem dX9_first_0 : decode cX9_first 0 = .ok (.aload_n 0, 1) := by decide +kernel
theorem dX9_first_1 : decode cX9_first 1 = .ok (.iload_n 1, 1) := by decide +kernel
theorem dX9_first_2 : decode cX9_first 2 = .ok (.invokevirtual 136, 3) := by decide +kernel
theorem dX9_first_5 : decode cX9_first 5 = .ok (.ifCond .eq 11, 3) := by decide +kernel
theorem dX9_first_8 : decode cX9_first 8 = .ok (.aload_n 0, 1) := by decide +kernel
theorem dX9_first_9 : decode cX9_first 9 = .ok (.iload_n 2, 1) := by decide +kernel
theorem dX9_first_10 : decode cX9_first 10 = .ok (.invokevirtual 146, 3) := by decide +kernel
theorem dX9_first_13 : decode cX9_first 13 = .ok (.ifCond .ne 9, 3) := by decide +kernel
theorem dX9_first_16 : decode cX9_first 16 = .ok (.aload_n 0, 1) := by decide +kernel
theorem dX9_first_17 : decode cX9_first 17 = .ok (.iconst 1, 1) := by decide +kernel
theorem dX9_first_18 : decode cX9_first 18 = .ok (.invokevirtual 98, 3) := by decide +kernel
theorem dX9_first_21 : decode cX9_first 21 = .ok (.ireturn, 1) := by decide +kernel
theorem dX9_first_22 : decode cX9_first 22 = .ok (.aload_n 0, 1) := by decide +kernel
theorem dX9_first_23 : decode cX9_first 23 = .ok (.aload_n 0, 1) := by decide +kernel
theorem dX9_first_24 : decode cX9_first 24 = .ok (.getfield 20, 3) := by decide +kernel
theorem dX9_first_27 : decode cX9_first 27 = .ok (.getfield 117, 3) := by decide +kernel
theorem dX9_first_30 : decode cX9_first 30 = .ok (.getfield 149, 3) := by decide +kernel
theorem dX9_first_33 : decode cX9_first 33 = .ok (.bipush 36, 2) := by decide +kernel
theorem dX9_first_35 : decode cX9_first 35 = .ok (.iload_n 1, 1) := by decide +kernel
theorem dX9_first_36 : decode cX9_first 36 = .ok (.imul, 1) := by decide +kernel
theorem dX9_first_37 : decode cX9_first 37 = .ok (.iload_n 2, 1) := by decide +kernel
theorem dX9_first_38 : decode cX9_first 38 = .ok (.invokestatic 152, 3) := by decide +kernel
theorem dX9_first_41 : decode cX9_first 41 = .ok (.iadd, 1) := by decide +kernel
theorem dX9_first_42 : decode cX9_first 42 = .ok (.iaload, 1) := by decide +kernel
theorem dX9_first_43 : decode cX9_first 43 = .ok (.invokevirtual 133, 3) := by decide +kernel
theorem dX9_first_46 : decode cX9_first 46 = .ok (.ireturn, 1) := by decide +kernel
theorem dX9_after_0 : decode cX9_after 0 = .ok (.aload_n 0, 1) := by decide +kernel
theorem dX9_after_1 : decode cX9_after 1 = .ok (.iload_n 1, 1) := by decide +kernel
theorem dX9_after_2 : decode cX9_after 2 = .ok (.invokevirtual 136, 3) := by decide +kernel
theorem dX9_after_5 : decode cX9_after 5 = .ok (.ifCond .eq 11, 3) := by decide +kernel
theorem dX9_after_8 : decode cX9_after 8 = .ok (.aload_n 0, 1) := by decide +kernel
theorem dX9_after_9 : decode cX9_after 9 = .ok (.iload_n 2, 1) := by decide +kernel
theorem dX9_after_10 : decode cX9_after 10 = .ok (.invokevirtual 146, 3) := by decide +kernel
theorem dX9_after_13 : decode cX9_after 13 = .ok (.ifCond .ne 9, 3) := by decide +kernel
theorem dX9_after_16 : decode cX9_after 16 = .ok (.aload_n 0, 1) := by decide +kernel
theorem dX9_after_17 : decode cX9_after 17 = .ok (.iconst 1, 1) := by decide +kernel
theorem dX9_after_18 : decode cX9_after 18 = .ok (.invokevirtual 98, 3) := by decide +kernel
theorem dX9_after_21 : decode cX9_after 21 = .ok (.ireturn, 1) := by decide +kernel
theorem dX9_after_22 : decode cX9_after 22 = .ok (.iload_n 3, 1) := by decide +kernel
theorem dX9_after_23 : decode cX9_after 23 = .ok (.bipush 60, 2) := by decide +kernel
theorem dX9_after_25 : decode cX9_after 25 = .ok (.invokestatic 155, 3) := by decide +kernel
theorem dX9_after_28 : decode cX9_after 28 = .ok (.ifCond .ne 9, 3) := by decide +kernel
theorem dX9_after_31 : decode cX9_after 31 = .ok (.aload_n 0, 1) := by decide +kernel
theorem dX9_after_32 : decode cX9_after 32 = .ok (.iconst 2, 1) := by decide +kernel
theorem dX9_after_33 : decode cX9_after 33 = .ok (.invokevirtual 98, 3) := by decide +kernel
theorem dX9_after_36 : decode cX9_after 36 = .ok (.ireturn, 1) := by decide +kernel
theorem dX9_after_37 : decode cX9_after 37 = .ok (.aload_n 0, 1) := by decide +kernel
theorem dX9_after_38 : decode cX9_after 38 = .ok (.aload_n 0, 1) := by decide +kernel
theorem dX9_after_39 : decode cX9_after 39 = .ok (.getfield 52, 3) := by decide +kernel
theorem dX9_after_42 : decode cX9_after 42 = .ok (.aload_n 0, 1) := by decide +kernel
theorem dX9_after_43 : decode cX9_after 43 = .ok (.getfield 30, 3) := by decide +kernel
theorem dX9_after_46 : decode cX9_after 46 = .ok (.iload_n 1, 1) := by decide +kernel
theorem dX9_after_47 : decode cX9_after 47 = .ok (.iload_n 2, 1) := by decide +kernel
theorem dX9_after_48 : decode cX9_after 48 = .ok (.invokestatic 152, 3) := by decide +kernel
theorem dX9_after_51 : decode cX9_after 51 = .ok (.iload_n 3, 1) := by decide +kernel
theorem dX9_after_52 : decode cX9_after 52 = .ok (.invokevirtual 159, 3) := by decide +kernel
theorem dX9_after_55 : decode cX9_after 55 = .ok (.invokevirtual 133, 3) := by decide +kernel
theorem dX9_after_58 : decode cX9_after 58 = .ok (.ireturn, 1) := by decide +kernel
theorem dX9_many_0 : decode cX9_many 0 = .ok (.aload_n 0, 1) := by decide +kernel
theorem dX9_many_1 : decode cX9_many 1 = .ok (.iload_n 1, 1) := by decide +kernel
theorem dX9_many_2 : decode cX9_many 2 = .ok (.invokevirtual 136, 3) := by decide +kernel
theorem dX9_many_5 : decode cX9_many 5 = .ok (.ifCond .eq 11, 3) := by decide +kernel
theorem dX9_many_8 : decode cX9_many 8 = .ok (.aload_n 0, 1) := by decide +kernel
theorem dX9_many_9 : decode cX9_many 9 = .ok (.iload_n 2, 1) := by decide +kernel
theorem dX9_many_10 : decode cX9_many 10 = .ok (.invokevirtual 163, 3) := by decide +kernel
theorem dX9_many_13 : decode cX9_many 13 = .ok (.ifCond .ne 9, 3) := by decide +kernel
theorem dX9_many_16 : decode cX9_many 16 = .ok (.aload_n 0, 1) := by decide +kernel
theorem dX9_many_17 : decode cX9_many 17 = .ok (.iconst 1, 1) := by decide +kernel
theorem dX9_many_18 : decode cX9_many 18 = .ok (.invokevirtual 98, 3) := by decide +kernel
theorem dX9_many_21 : decode cX9_many 21 = .ok (.ireturn, 1) := by decide +kernel
theorem dX9_many_22 : decode cX9_many 22 = .ok (.iload_n 3, 1) := by decide +kernel
theorem dX9_many_23 : decode cX9_many 23 = .ok (.bipush 60, 2) := by decide +kernel
theorem dX9_many_25 : decode cX9_many 25 = .ok (.invokestatic 155, 3) := by decide +kernel
theorem dX9_many_28 : decode cX9_many 28 = .ok (.ifCond .ne 9, 3) := by decide +kernel
theorem dX9_many_31 : decode cX9_many 31 = .ok (.aload_n 0, 1) := by decide +kernel
theorem dX9_many_32 : decode cX9_many 32 = .ok (.iconst 2, 1) := by decide +kernel
theorem dX9_many_33 : decode cX9_many 33 = .ok (.invokevirtual 98, 3) := by decide +kernel
theorem dX9_many_36 : decode cX9_many 36 = .ok (.ireturn, 1) := by decide +kernel
theorem dX9_many_37 : decode cX9_many 37 = .ok (.aload_n 0, 1) := by decide +kernel
theorem dX9_many_38 : decode cX9_many 38 = .ok (.getfield 52, 3) := by decide +kernel
theorem dX9_many_41 : decode cX9_many 41 = .ok (.aload_n 0, 1) := by decide +kernel
theorem dX9_many_42 : decode cX9_many 42 = .ok (.getfield 30, 3) := by decide +kernel
theorem dX9_many_45 : decode cX9_many 45 = .ok (.iload_n 1, 1) := by decide +kernel
theorem dX9_many_46 : decode cX9_many 46 = .ok (.iload_n 3, 1) := by decide +kernel
theorem dX9_many_47 : decode cX9_many 47 = .ok (.aload_n 0, 1) := by decide +kernel
theorem dX9_many_48 : decode cX9_many 48 = .ok (.getfield 79, 3) := by decide +kernel
theorem dX9_many_51 : decode cX9_many 51 = .ok (.invokevirtual 166, 3) := by decide +kernel
theorem dX9_many_54 : decode cX9_many 54 = .ok (.iconst 0, 1) := by decide +kernel
theorem dX9_many_55 : decode cX9_many 55 = .ok (.istore 4, 2) := by decide +kernel
theorem dX9_many_57 : decode cX9_many 57 = .ok (.iconst 0, 1) := by decide +kernel
theorem dX9_many_58 : decode cX9_many 58 = .ok (.istore 5, 2) := by decide +kernel
theorem dX9_many_60 : decode cX9_many 60 = .ok (.iload 5, 2) := by decide +kernel
theorem dX9_many_62 : decode cX9_many 62 = .ok (.bipush 36, 2) := by decide +kernel
theorem dX9_many_64 : decode cX9_many 64 = .ok (.if_icmp .ge 35, 3) := by decide +kernel
theorem dX9_many_67 : decode cX9_many 67 = .ok (.aload_n 0, 1) := by decide +kernel
theorem dX9_many_68 : decode cX9_many 68 = .ok (.getfield 30, 3) := by decide +kernel
theorem dX9_many_71 : decode cX9_many 71 = .ok (.iload 5, 2) := by decide +kernel
theorem dX9_many_73 : decode cX9_many 73 = .ok (.invokevirtual 170, 3) := by decide +kernel
theorem dX9_many_76 : decode cX9_many 76 = .ok (.ifCond .eq 17, 3) := by decide +kernel
theorem dX9_many_79 : decode cX9_many 79 = .ok (.aload_n 0, 1) := by decide +kernel
theorem dX9_many_80 : decode cX9_many 80 = .ok (.getfield 79, 3) := by decide +kernel
theorem dX9_many_83 : decode cX9_many 83 = .ok (.iload 5, 2) := by decide +kernel
theorem dX9_many_85 : decode cX9_many 85 = .ok (.iaload, 1) := by decide +kernel
theorem dX9_many_86 : decode cX9_many 86 = .ok (.iload_n 2, 1) := by decide +kernel
theorem dX9_many_87 : decode cX9_many 87 = .ok (.if_icmp .ne 6, 3) := by decide +kernel
theorem dX9_many_90 : decode cX9_many 90 = .ok (.iinc 4 1, 3) := by decide +kernel
theorem dX9_many_93 : decode cX9_many 93 = .ok (.iinc 5 1, 3) := by decide +kernel
theorem dX9_many_96 : decode cX9_many 96 = .ok (.goto (-36), 3) := by decide +kernel
theorem dX9_many_99 : decode cX9_many 99 = .ok (.aload_n 0, 1) := by decide +kernel
theorem dX9_many_100 : decode cX9_many 100 = .ok (.iload 4, 2) := by decide +kernel
theorem dX9_many_102 : decode cX9_many 102 = .ok (.invokevirtual 133, 3) := by decide +kernel
theorem dX9_many_105 : decode cX9_many 105 = .ok (.ireturn, 1) := by decide +kernel
theorem dX9_unlike_0 : decode cX9_unlike 0 = .ok (.aload_n 0, 1) := by decide +kernel
theorem dX9_unlike_1 : decode cX9_unlike 1 = .ok (.iload_n 1, 1) := by decide +kernel
theorem dX9_unlike_2 : decode cX9_unlike 2 = .ok (.invokevirtual 136, 3) := by decide +kernel
theorem dX9_unlike_5 : decode cX9_unlike 5 = .ok (.ifCond .eq 11, 3) := by decide +kernel
theorem dX9_unlike_8 : decode cX9_unlike 8 = .ok (.aload_n 0, 1) := by decide +kernel
theorem dX9_unlike_9 : decode cX9_unlike 9 = .ok (.iload_n 2, 1) := by decide +kernel
theorem dX9_unlike_10 : decode cX9_unlike 10 = .ok (.invokevirtual 136, 3) := by decide +kernel
theorem dX9_unlike_13 : decode cX9_unlike 13 = .ok (.ifCond .ne 9, 3) := by decide +kernel
theorem dX9_unlike_16 : decode cX9_unlike 16 = .ok (.aload_n 0, 1) := by decide +kernel
theorem dX9_unlike_17 : decode cX9_unlike 17 = .ok (.iconst 1, 1) := by decide +kernel
theorem dX9_unlike_18 : decode cX9_unlike 18 = .ok (.invokevirtual 98, 3) := by decide +kernel
theorem dX9_unlike_21 : decode cX9_unlike 21 = .ok (.ireturn, 1) := by decide +kernel
theorem dX9_unlike_22 : decode cX9_unlike 22 = .ok (.iload_n 3, 1) := by decide +kernel
theorem dX9_unlike_23 : decode cX9_unlike 23 = .ok (.bipush 60, 2) := by decide +kernel
theorem dX9_unlike_25 : decode cX9_unlike 25 = .ok (.invokestatic 155, 3) := by decide +kernel
theorem dX9_unlike_28 : decode cX9_unlike 28 = .ok (.ifCond .ne 9, 3) := by decide +kernel
theorem dX9_unlike_31 : decode cX9_unlike 31 = .ok (.aload_n 0, 1) := by decide +kernel
theorem dX9_unlike_32 : decode cX9_unlike 32 = .ok (.iconst 2, 1) := by decide +kernel
theorem dX9_unlike_33 : decode cX9_unlike 33 = .ok (.invokevirtual 98, 3) := by decide +kernel
theorem dX9_unlike_36 : decode cX9_unlike 36 = .ok (.ireturn, 1) := by decide +kernel
theorem dX9_unlike_37 : decode cX9_unlike 37 = .ok (.aload_n 0, 1) := by decide +kernel
theorem dX9_unlike_38 : decode cX9_unlike 38 = .ok (.getfield 52, 3) := by decide +kernel
theorem dX9_unlike_41 : decode cX9_unlike 41 = .ok (.aload_n 0, 1) := by decide +kernel
theorem dX9_unlike_42 : decode cX9_unlike 42 = .ok (.getfield 30, 3) := by decide +kernel
theorem dX9_unlike_45 : decode cX9_unlike 45 = .ok (.iload_n 1, 1) := by decide +kernel
theorem dX9_unlike_46 : decode cX9_unlike 46 = .ok (.iload_n 3, 1) := by decide +kernel
theorem dX9_unlike_47 : decode cX9_unlike 47 = .ok (.aload_n 0, 1) := by decide +kernel
theorem dX9_unlike_48 : decode cX9_unlike 48 = .ok (.getfield 79, 3) := by decide +kernel
theorem dX9_unlike_51 : decode cX9_unlike 51 = .ok (.invokevirtual 166, 3) := by decide +kernel
theorem dX9_unlike_54 : decode cX9_unlike 54 = .ok (.aload_n 0, 1) := by decide +kernel
theorem dX9_unlike_55 : decode cX9_unlike 55 = .ok (.getfield 52, 3) := by decide +kernel
theorem dX9_unlike_58 : decode cX9_unlike 58 = .ok (.aload_n 0, 1) := by decide +kernel
theorem dX9_unlike_59 : decode cX9_unlike 59 = .ok (.getfield 30, 3) := by decide +kernel
theorem dX9_unlike_62 : decode cX9_unlike 62 = .ok (.iload_n 2, 1) := by decide +kernel
theorem dX9_unlike_63 : decode cX9_unlike 63 = .ok (.iload_n 3, 1) := by decide +kernel
theorem dX9_unlike_64 : decode cX9_unlike 64 = .ok (.aload_n 0, 1) := by decide +kernel
theorem dX9_unlike_65 : decode cX9_unlike 65 = .ok (.getfield 75, 3) := by decide +kernel
theorem dX9_unlike_68 : decode cX9_unlike 68 = .ok (.getfield 173, 3) := by decide +kernel
theorem dX9_unlike_71 : decode cX9_unlike 71 = .ok (.invokevirtual 166, 3) := by decide +kernel
theorem dX9_unlike_74 : decode cX9_unlike 74 = .ok (.aload_n 0, 1) := by decide +kernel
theorem dX9_unlike_75 : decode cX9_unlike 75 = .ok (.aload_n 0, 1) := by decide +kernel
theorem dX9_unlike_76 : decode cX9_unlike 76 = .ok (.getfield 30, 3) := by decide +kernel
theorem dX9_unlike_79 : decode cX9_unlike 79 = .ok (.invokevirtual 176, 3) := by decide +kernel
theorem dX9_unlike_82 : decode cX9_unlike 82 = .ok (.aload_n 0, 1) := by decide +kernel
theorem dX9_unlike_83 : decode cX9_unlike 83 = .ok (.aload_n 0, 1) := by decide +kernel
theorem dX9_unlike_84 : decode cX9_unlike 84 = .ok (.getfield 75, 3) := by decide +kernel
theorem dX9_unlike_87 : decode cX9_unlike 87 = .ok (.getfield 173, 3) := by decide +kernel
theorem dX9_unlike_90 : decode cX9_unlike 90 = .ok (.iconst 0, 1) := by decide +kernel
theorem dX9_unlike_91 : decode cX9_unlike 91 = .ok (.invokevirtual 180, 3) := by decide +kernel
theorem dX9_unlike_94 : decode cX9_unlike 94 = .ok (.isub, 1) := by decide +kernel
theorem dX9_unlike_95 : decode cX9_unlike 95 = .ok (.invokevirtual 133, 3) := by decide +kernel
theorem dX9_unlike_98 : decode cX9_unlike 98 = .ok (.ireturn, 1) := by decide +kernel
theorem dX9_trueOnes_0 : decode cX9_trueOnes 0 = .ok (.aload_n 0, 1) := by decide +kernel
theorem dX9_trueOnes_1 : decode cX9_trueOnes 1 = .ok (.iload_n 1, 1) := by decide +kernel
theorem dX9_trueOnes_2 : decode cX9_trueOnes 2 = .ok (.invokevirtual 136, 3) := by decide +kernel
theorem dX9_trueOnes_5 : decode cX9_trueOnes 5 = .ok (.ifCond .ne 9, 3) := by decide +kernel
theorem dX9_trueOnes_8 : decode cX9_trueOnes 8 = .ok (.aload_n 0, 1) := by decide +kernel
theorem dX9_trueOnes_9 : decode cX9_trueOnes 9 = .ok (.iconst 1, 1) := by decide +kernel
theorem dX9_trueOnes_10 : decode cX9_trueOnes 10 = .ok (.invokevirtual 98, 3) := by decide +kernel
theorem dX9_trueOnes_13 : decode cX9_trueOnes 13 = .ok (.ireturn, 1) := by decide +kernel
theorem dX9_trueOnes_14 : decode cX9_trueOnes 14 = .ok (.iload_n 2, 1) := by decide +kernel
theorem dX9_trueOnes_15 : decode cX9_trueOnes 15 = .ok (.bipush 60, 2) := by decide +kernel
theorem dX9_trueOnes_17 : decode cX9_trueOnes 17 = .ok (.invokestatic 155, 3) := by decide +kernel
theorem dX9_trueOnes_20 : decode cX9_trueOnes 20 = .ok (.ifCond .ne 9, 3) := by decide +kernel
theorem dX9_trueOnes_23 : decode cX9_trueOnes 23 = .ok (.aload_n 0, 1) := by decide +kernel
theorem dX9_trueOnes_24 : decode cX9_trueOnes 24 = .ok (.iconst 2, 1) := by decide +kernel
theorem dX9_trueOnes_25 : decode cX9_trueOnes 25 = .ok (.invokevirtual 98, 3) := by decide +kernel
theorem dX9_trueOnes_28 : decode cX9_trueOnes 28 = .ok (.ireturn, 1) := by decide +kernel
theorem dX9_trueOnes_29 : decode cX9_trueOnes 29 = .ok (.aload_n 0, 1) := by decide +kernel
theorem dX9_trueOnes_30 : decode cX9_trueOnes 30 = .ok (.getfield 52, 3) := by decide +kernel
theorem dX9_trueOnes_33 : decode cX9_trueOnes 33 = .ok (.aload_n 0, 1) := by decide +kernel
theorem dX9_trueOnes_34 : decode cX9_trueOnes 34 = .ok (.getfield 30, 3) := by decide +kernel
theorem dX9_trueOnes_37 : decode cX9_trueOnes 37 = .ok (.iload_n 1, 1) := by decide +kernel
theorem dX9_trueOnes_38 : decode cX9_trueOnes 38 = .ok (.iload_n 2, 1) := by decide +kernel
theorem dX9_trueOnes_39 : decode cX9_trueOnes 39 = .ok (.aload_n 0, 1) := by decide +kernel
theorem dX9_trueOnes_40 : decode cX9_trueOnes 40 = .ok (.getfield 79, 3) := by decide +kernel
theorem dX9_trueOnes_43 : decode cX9_trueOnes 43 = .ok (.invokevirtual 166, 3) := by decide +kernel
theorem dX9_trueOnes_46 : decode cX9_trueOnes 46 = .ok (.aload_n 0, 1) := by decide +kernel
theorem dX9_trueOnes_47 : decode cX9_trueOnes 47 = .ok (.aload_n 0, 1) := by decide +kernel
theorem dX9_trueOnes_48 : decode cX9_trueOnes 48 = .ok (.aload_n 0, 1) := by decide +kernel
theorem dX9_trueOnes_49 : decode cX9_trueOnes 49 = .ok (.getfield 20, 3) := by decide +kernel
theorem dX9_trueOnes_52 : decode cX9_trueOnes 52 = .ok (.getfield 117, 3) := by decide +kernel
theorem dX9_trueOnes_55 : decode cX9_trueOnes 55 = .ok (.getfield 149, 3) := by decide +kernel
theorem dX9_trueOnes_58 : decode cX9_trueOnes 58 = .ok (.bipush 36, 2) := by decide +kernel
theorem dX9_trueOnes_60 : decode cX9_trueOnes 60 = .ok (.iload_n 1, 1) := by decide +kernel
theorem dX9_trueOnes_61 : decode cX9_trueOnes 61 = .ok (.imul, 1) := by decide +kernel
theorem dX9_trueOnes_62 : decode cX9_trueOnes 62 = .ok (.invokevirtual 180, 3) := by decide +kernel
theorem dX9_trueOnes_65 : decode cX9_trueOnes 65 = .ok (.invokevirtual 133, 3) := by decide +kernel
theorem dX9_trueOnes_68 : decode cX9_trueOnes 68 = .ok (.ireturn, 1) := by decide +kernel
theorem dX9_likeOnes_0 : decode cX9_likeOnes 0 = .ok (.iconst 0, 1) := by decide +kernel
theorem dX9_likeOnes_1 : decode cX9_likeOnes 1 = .ok (.istore_n 3, 1) := by decide +kernel
theorem dX9_likeOnes_2 : decode cX9_likeOnes 2 = .ok (.iconst 0, 1) := by decide +kernel
theorem dX9_likeOnes_3 : decode cX9_likeOnes 3 = .ok (.istore 4, 2) := by decide +kernel
theorem dX9_likeOnes_5 : decode cX9_likeOnes 5 = .ok (.iload 4, 2) := by decide +kernel
theorem dX9_likeOnes_7 : decode cX9_likeOnes 7 = .ok (.bipush 36, 2) := by decide +kernel
theorem dX9_likeOnes_9 : decode cX9_likeOnes 9 = .ok (.if_icmp .ge 40, 3) := by decide +kernel
theorem dX9_likeOnes_12 : decode cX9_likeOnes 12 = .ok (.aload_n 0, 1) := by decide +kernel
theorem dX9_likeOnes_13 : decode cX9_likeOnes 13 = .ok (.getfield 30, 3) := by decide +kernel
theorem dX9_likeOnes_16 : decode cX9_likeOnes 16 = .ok (.iload 4, 2) := by decide +kernel
theorem dX9_likeOnes_18 : decode cX9_likeOnes 18 = .ok (.invokevirtual 170, 3) := by decide +kernel
theorem dX9_likeOnes_21 : decode cX9_likeOnes 21 = .ok (.ifCond .eq 22, 3) := by decide +kernel
theorem dX9_likeOnes_24 : decode cX9_likeOnes 24 = .ok (.aload_n 0, 1) := by decide +kernel
theorem dX9_likeOnes_25 : decode cX9_likeOnes 25 = .ok (.getfield 79, 3) := by decide +kernel
theorem dX9_likeOnes_28 : decode cX9_likeOnes 28 = .ok (.iload 4, 2) := by decide +kernel
theorem dX9_likeOnes_30 : decode cX9_likeOnes 30 = .ok (.iaload, 1) := by decide +kernel
theorem dX9_likeOnes_31 : decode cX9_likeOnes 31 = .ok (.aload_n 1, 1) := by decide +kernel
theorem dX9_likeOnes_32 : decode cX9_likeOnes 32 = .ok (.iload_n 2, 1) := by decide +kernel
theorem dX9_likeOnes_33 : decode cX9_likeOnes 33 = .ok (.iload 4, 2) := by decide +kernel
theorem dX9_likeOnes_35 : decode cX9_likeOnes 35 = .ok (.iadd, 1) := by decide +kernel
theorem dX9_likeOnes_36 : decode cX9_likeOnes 36 = .ok (.iaload, 1) := by decide +kernel
theorem dX9_likeOnes_37 : decode cX9_likeOnes 37 = .ok (.if_icmp .ne 6, 3) := by decide +kernel
theorem dX9_likeOnes_40 : decode cX9_likeOnes 40 = .ok (.iinc 3 1, 3) := by decide +kernel
theorem dX9_likeOnes_43 : decode cX9_likeOnes 43 = .ok (.iinc 4 1, 3) := by decide +kernel
theorem dX9_likeOnes_46 : decode cX9_likeOnes 46 = .ok (.goto (-41), 3) := by decide +kernel
theorem dX9_likeOnes_49 : decode cX9_likeOnes 49 = .ok (.iload_n 3, 1) := by decide +kernel
theorem dX9_likeOnes_50 : decode cX9_likeOnes 50 = .ok (.ireturn, 1) := by decide +kernel
theorem dX9_when_0 : decode cX9_when 0 = .ok (.aload_n 0, 1) := by decide +kernel
theorem dX9_when_1 : decode cX9_when 1 = .ok (.iload_n 1, 1) := by decide +kernel
theorem dX9_when_2 : decode cX9_when 2 = .ok (.invokevirtual 136, 3) := by decide +kernel
theorem dX9_when_5 : decode cX9_when 5 = .ok (.ifCond .eq 19, 3) := by decide +kernel
theorem dX9_when_8 : decode cX9_when 8 = .ok (.aload_n 0, 1) := by decide +kernel
theorem dX9_when_9 : decode cX9_when 9 = .ok (.iload_n 2, 1) := by decide +kernel
theorem dX9_when_10 : decode cX9_when 10 = .ok (.invokevirtual 146, 3) := by decide +kernel
theorem dX9_when_13 : decode cX9_when 13 = .ok (.ifCond .eq 11, 3) := by decide +kernel
theorem dX9_when_16 : decode cX9_when 16 = .ok (.aload_n 0, 1) := by decide +kernel
theorem dX9_when_17 : decode cX9_when 17 = .ok (.iload_n 3, 1) := by decide +kernel
theorem dX9_when_18 : decode cX9_when 18 = .ok (.invokevirtual 163, 3) := by decide +kernel
theorem dX9_when_21 : decode cX9_when 21 = .ok (.ifCond .ne 9, 3) := by decide +kernel
theorem dX9_when_24 : decode cX9_when 24 = .ok (.aload_n 0, 1) := by decide +kernel
theorem dX9_when_25 : decode cX9_when 25 = .ok (.iconst 1, 1) := by decide +kernel
theorem dX9_when_26 : decode cX9_when 26 = .ok (.invokevirtual 98, 3) := by decide +kernel
theorem dX9_when_29 : decode cX9_when 29 = .ok (.ireturn, 1) := by decide +kernel
theorem dX9_when_30 : decode cX9_when 30 = .ok (.aload_n 0, 1) := by decide +kernel
theorem dX9_when_31 : decode cX9_when 31 = .ok (.getfield 34, 3) := by decide +kernel
theorem dX9_when_34 : decode cX9_when 34 = .ok (.aload_n 0, 1) := by decide +kernel
theorem dX9_when_35 : decode cX9_when 35 = .ok (.getfield 30, 3) := by decide +kernel
theorem dX9_when_38 : decode cX9_when 38 = .ok (.invokevirtual 120, 3) := by decide +kernel
theorem dX9_when_41 : decode cX9_when 41 = .ok (.bipush 36, 2) := by decide +kernel
theorem dX9_when_43 : decode cX9_when 43 = .ok (.iload_n 1, 1) := by decide +kernel
theorem dX9_when_44 : decode cX9_when 44 = .ok (.imul, 1) := by decide +kernel
theorem dX9_when_45 : decode cX9_when 45 = .ok (.iload_n 2, 1) := by decide +kernel
theorem dX9_when_46 : decode cX9_when 46 = .ok (.invokestatic 152, 3) := by decide +kernel
theorem dX9_when_49 : decode cX9_when 49 = .ok (.iadd, 1) := by decide +kernel
theorem dX9_when_50 : decode cX9_when 50 = .ok (.istore 4, 2) := by decide +kernel
theorem dX9_when_52 : decode cX9_when 52 = .ok (.iconst 0, 1) := by decide +kernel
theorem dX9_when_53 : decode cX9_when 53 = .ok (.istore 5, 2) := by decide +kernel
theorem dX9_when_55 : decode cX9_when 55 = .ok (.iload 5, 2) := by decide +kernel
theorem dX9_when_57 : decode cX9_when 57 = .ok (.bipush 60, 2) := by decide +kernel
theorem dX9_when_59 : decode cX9_when 59 = .ok (.if_icmp .gt 41, 3) := by decide +kernel
theorem dX9_when_62 : decode cX9_when 62 = .ok (.aload_n 0, 1) := by decide +kernel
theorem dX9_when_63 : decode cX9_when 63 = .ok (.getfield 34, 3) := by decide +kernel
theorem dX9_when_66 : decode cX9_when 66 = .ok (.getfield 149, 3) := by decide +kernel
theorem dX9_when_69 : decode cX9_when 69 = .ok (.iload 4, 2) := by decide +kernel
theorem dX9_when_71 : decode cX9_when 71 = .ok (.iaload, 1) := by decide +kernel
theorem dX9_when_72 : decode cX9_when 72 = .ok (.iload_n 3, 1) := by decide +kernel
theorem dX9_when_73 : decode cX9_when 73 = .ok (.if_icmp .ne 10, 3) := by decide +kernel
theorem dX9_when_76 : decode cX9_when 76 = .ok (.aload_n 0, 1) := by decide +kernel
theorem dX9_when_77 : decode cX9_when 77 = .ok (.iload 5, 2) := by decide +kernel
theorem dX9_when_79 : decode cX9_when 79 = .ok (.invokevirtual 133, 3) := by decide +kernel
theorem dX9_when_82 : decode cX9_when 82 = .ok (.ireturn, 1) := by decide +kernel
theorem dX9_when_83 : decode cX9_when 83 = .ok (.aload_n 0, 1) := by decide +kernel
theorem dX9_when_84 : decode cX9_when 84 = .ok (.getfield 34, 3) := by decide +kernel
theorem dX9_when_87 : decode cX9_when 87 = .ok (.aload_n 0, 1) := by decide +kernel
theorem dX9_when_88 : decode cX9_when 88 = .ok (.getfield 82, 3) := by decide +kernel
theorem dX9_when_91 : decode cX9_when 91 = .ok (.invokevirtual 184, 3) := by decide +kernel
theorem dX9_when_94 : decode cX9_when 94 = .ok (.iinc 5 1, 3) := by decide +kernel
theorem dX9_when_97 : decode cX9_when 97 = .ok (.goto (-42), 3) := by decide +kernel
theorem dX9_when_100 : decode cX9_when 100 = .ok (.aload_n 0, 1) := by decide +kernel
theorem dX9_when_101 : decode cX9_when 101 = .ok (.bipush (-2), 2) := by decide +kernel
theorem dX9_when_103 : decode cX9_when 103 = .ok (.invokevirtual 133, 3) := by decide +kernel
theorem dX9_when_106 : decode cX9_when 106 = .ok (.ireturn, 1) := by decide +kernel
theorem dX9_areas_0 : decode cX9_areas 0 = .ok (.aload_n 0, 1) := by decide +kernel
theorem dX9_areas_1 : decode cX9_areas 1 = .ok (.iload_n 1, 1) := by decide +kernel
theorem dX9_areas_2 : decode cX9_areas 2 = .ok (.invokevirtual 136, 3) := by decide +kernel
theorem dX9_areas_5 : decode cX9_areas 5 = .ok (.ifCond .eq 11, 3) := by decide +kernel
theorem dX9_areas_8 : decode cX9_areas 8 = .ok (.aload_n 0, 1) := by decide +kernel
theorem dX9_areas_9 : decode cX9_areas 9 = .ok (.iload_n 2, 1) := by decide +kernel
theorem dX9_areas_10 : decode cX9_areas 10 = .ok (.invokevirtual 163, 3) := by decide +kernel
theorem dX9_areas_13 : decode cX9_areas 13 = .ok (.ifCond .ne 9, 3) := by decide +kernel
theorem dX9_areas_16 : decode cX9_areas 16 = .ok (.aload_n 0, 1) := by decide +kernel
theorem dX9_areas_17 : decode cX9_areas 17 = .ok (.iconst 1, 1) := by decide +kernel
theorem dX9_areas_18 : decode cX9_areas 18 = .ok (.invokevirtual 98, 3) := by decide +kernel
theorem dX9_areas_21 : decode cX9_areas 21 = .ok (.ireturn, 1) := by decide +kernel
theorem dX9_areas_22 : decode cX9_areas 22 = .ok (.iload_n 3, 1) := by decide +kernel
theorem dX9_areas_23 : decode cX9_areas 23 = .ok (.bipush 60, 2) := by decide +kernel
theorem dX9_areas_25 : decode cX9_areas 25 = .ok (.invokestatic 155, 3) := by decide +kernel
theorem dX9_areas_28 : decode cX9_areas 28 = .ok (.ifCond .ne 9, 3) := by decide +kernel
theorem dX9_areas_31 : decode cX9_areas 31 = .ok (.aload_n 0, 1) := by decide +kernel
theorem dX9_areas_32 : decode cX9_areas 32 = .ok (.iconst 2, 1) := by decide +kernel
theorem dX9_areas_33 : decode cX9_areas 33 = .ok (.invokevirtual 98, 3) := by decide +kernel
theorem dX9_areas_36 : decode cX9_areas 36 = .ok (.ireturn, 1) := by decide +kernel
theorem dX9_areas_37 : decode cX9_areas 37 = .ok (.aload_n 0, 1) := by decide +kernel
theorem dX9_areas_38 : decode cX9_areas 38 = .ok (.iload_n 1, 1) := by decide +kernel
theorem dX9_areas_39 : decode cX9_areas 39 = .ok (.iload_n 2, 1) := by decide +kernel
theorem dX9_areas_40 : decode cX9_areas 40 = .ok (.iload_n 3, 1) := by decide +kernel
theorem dX9_areas_41 : decode cX9_areas 41 = .ok (.invokevirtual 188, 3) := by decide +kernel
theorem dX9_areas_44 : decode cX9_areas 44 = .ok (.aload_n 0, 1) := by decide +kernel
theorem dX9_areas_45 : decode cX9_areas 45 = .ok (.aload_n 0, 1) := by decide +kernel
theorem dX9_areas_46 : decode cX9_areas 46 = .ok (.getfield 75, 3) := by decide +kernel
theorem dX9_areas_49 : decode cX9_areas 49 = .ok (.getfield 192, 3) := by decide +kernel
theorem dX9_areas_52 : decode cX9_areas 52 = .ok (.invokevirtual 133, 3) := by decide +kernel
theorem dX9_areas_55 : decode cX9_areas 55 = .ok (.ireturn, 1) := by decide +kernel
theorem dX9_largest_0 : decode cX9_largest 0 = .ok (.aload_n 0, 1) := by decide +kernel
theorem dX9_largest_1 : decode cX9_largest 1 = .ok (.iload_n 1, 1) := by decide +kernel
theorem dX9_largest_2 : decode cX9_largest 2 = .ok (.invokevirtual 136, 3) := by decide +kernel
theorem dX9_largest_5 : decode cX9_largest 5 = .ok (.ifCond .eq 11, 3) := by decide +kernel
theorem dX9_largest_8 : decode cX9_largest 8 = .ok (.aload_n 0, 1) := by decide +kernel
theorem dX9_largest_9 : decode cX9_largest 9 = .ok (.iload_n 2, 1) := by decide +kernel
theorem dX9_largest_10 : decode cX9_largest 10 = .ok (.invokevirtual 163, 3) := by decide +kernel
theorem dX9_largest_13 : decode cX9_largest 13 = .ok (.ifCond .ne 9, 3) := by decide +kernel
theorem dX9_largest_16 : decode cX9_largest 16 = .ok (.aload_n 0, 1) := by decide +kernel
theorem dX9_largest_17 : decode cX9_largest 17 = .ok (.iconst 1, 1) := by decide +kernel
theorem dX9_largest_18 : decode cX9_largest 18 = .ok (.invokevirtual 98, 3) := by decide +kernel
theorem dX9_largest_21 : decode cX9_largest 21 = .ok (.ireturn, 1) := by decide +kernel
theorem dX9_largest_22 : decode cX9_largest 22 = .ok (.iload_n 3, 1) := by decide +kernel
theorem dX9_largest_23 : decode cX9_largest 23 = .ok (.bipush 60, 2) := by decide +kernel
theorem dX9_largest_25 : decode cX9_largest 25 = .ok (.invokestatic 155, 3) := by decide +kernel
theorem dX9_largest_28 : decode cX9_largest 28 = .ok (.ifCond .ne 9, 3) := by decide +kernel
theorem dX9_largest_31 : decode cX9_largest 31 = .ok (.aload_n 0, 1) := by decide +kernel
theorem dX9_largest_32 : decode cX9_largest 32 = .ok (.iconst 2, 1) := by decide +kernel
theorem dX9_largest_33 : decode cX9_largest 33 = .ok (.invokevirtual 98, 3) := by decide +kernel
theorem dX9_largest_36 : decode cX9_largest 36 = .ok (.ireturn, 1) := by decide +kernel
theorem dX9_largest_37 : decode cX9_largest 37 = .ok (.aload_n 0, 1) := by decide +kernel
theorem dX9_largest_38 : decode cX9_largest 38 = .ok (.iload_n 1, 1) := by decide +kernel
theorem dX9_largest_39 : decode cX9_largest 39 = .ok (.iload_n 2, 1) := by decide +kernel
theorem dX9_largest_40 : decode cX9_largest 40 = .ok (.iload_n 3, 1) := by decide +kernel
theorem dX9_largest_41 : decode cX9_largest 41 = .ok (.invokevirtual 188, 3) := by decide +kernel
theorem dX9_largest_44 : decode cX9_largest 44 = .ok (.aload_n 0, 1) := by decide +kernel
theorem dX9_largest_45 : decode cX9_largest 45 = .ok (.aload_n 0, 1) := by decide +kernel
theorem dX9_largest_46 : decode cX9_largest 46 = .ok (.getfield 75, 3) := by decide +kernel
theorem dX9_largest_49 : decode cX9_largest 49 = .ok (.getfield 195, 3) := by decide +kernel
theorem dX9_largest_52 : decode cX9_largest 52 = .ok (.invokevirtual 133, 3) := by decide +kernel
theorem dX9_largest_55 : decode cX9_largest 55 = .ok (.ireturn, 1) := by decide +kernel
theorem dX9_surveyBehind_0 : decode cX9_surveyBehind 0 = .ok (.aload_n 0, 1) := by decide +kernel
theorem dX9_surveyBehind_1 : decode cX9_surveyBehind 1 = .ok (.getfield 52, 3) := by decide +kernel
theorem dX9_surveyBehind_4 : decode cX9_surveyBehind 4 = .ok (.aload_n 0, 1) := by decide +kernel
theorem dX9_surveyBehind_5 : decode cX9_surveyBehind 5 = .ok (.getfield 30, 3) := by decide +kernel
theorem dX9_surveyBehind_8 : decode cX9_surveyBehind 8 = .ok (.iload_n 1, 1) := by decide +kernel
theorem dX9_surveyBehind_9 : decode cX9_surveyBehind 9 = .ok (.iload_n 3, 1) := by decide +kernel
theorem dX9_surveyBehind_10 : decode cX9_surveyBehind 10 = .ok (.aload_n 0, 1) := by decide +kernel
theorem dX9_surveyBehind_11 : decode cX9_surveyBehind 11 = .ok (.getfield 75, 3) := by decide +kernel
theorem dX9_surveyBehind_14 : decode cX9_surveyBehind 14 = .ok (.getfield 173, 3) := by decide +kernel
theorem dX9_surveyBehind_17 : decode cX9_surveyBehind 17 = .ok (.invokevirtual 166, 3) := by decide +kernel
theorem dX9_surveyBehind_20 : decode cX9_surveyBehind 20 = .ok (.aload_n 0, 1) := by decide +kernel
theorem dX9_surveyBehind_21 : decode cX9_surveyBehind 21 = .ok (.getfield 75, 3) := by decide +kernel
theorem dX9_surveyBehind_24 : decode cX9_surveyBehind 24 = .ok (.aload_n 0, 1) := by decide +kernel
theorem dX9_surveyBehind_25 : decode cX9_surveyBehind 25 = .ok (.getfield 30, 3) := by decide +kernel
theorem dX9_surveyBehind_28 : decode cX9_surveyBehind 28 = .ok (.iload_n 2, 1) := by decide +kernel
theorem dX9_surveyBehind_29 : decode cX9_surveyBehind 29 = .ok (.invokevirtual 198, 3) := by decide +kernel
theorem dX9_surveyBehind_32 : decode cX9_surveyBehind 32 = .ok (.return_, 1) := by decide +kernel
theorem dX9_scale_0 : decode cX9_scale 0 = .ok (.aload_n 0, 1) := by decide +kernel
theorem dX9_scale_1 : decode cX9_scale 1 = .ok (.iload_n 1, 1) := by decide +kernel
theorem dX9_scale_2 : decode cX9_scale 2 = .ok (.invokevirtual 136, 3) := by decide +kernel
theorem dX9_scale_5 : decode cX9_scale 5 = .ok (.ifCond .ne 10, 3) := by decide +kernel
theorem dX9_scale_8 : decode cX9_scale 8 = .ok (.aload_n 0, 1) := by decide +kernel
theorem dX9_scale_9 : decode cX9_scale 9 = .ok (.iconst 1, 1) := by decide +kernel
theorem dX9_scale_10 : decode cX9_scale 10 = .ok (.invokevirtual 98, 3) := by decide +kernel
theorem dX9_scale_13 : decode cX9_scale 13 = .ok (.i2l, 1) := by decide +kernel
theorem dX9_scale_14 : decode cX9_scale 14 = .ok (.lreturn, 1) := by decide +kernel
theorem dX9_scale_15 : decode cX9_scale 15 = .ok (.iload_n 2, 1) := by decide +kernel
theorem dX9_scale_16 : decode cX9_scale 16 = .ok (.bipush 12, 2) := by decide +kernel
theorem dX9_scale_18 : decode cX9_scale 18 = .ok (.invokestatic 155, 3) := by decide +kernel
theorem dX9_scale_21 : decode cX9_scale 21 = .ok (.ifCond .ne 10, 3) := by decide +kernel
theorem dX9_scale_24 : decode cX9_scale 24 = .ok (.aload_n 0, 1) := by decide +kernel
theorem dX9_scale_25 : decode cX9_scale 25 = .ok (.iconst 2, 1) := by decide +kernel
theorem dX9_scale_26 : decode cX9_scale 26 = .ok (.invokevirtual 98, 3) := by decide +kernel
theorem dX9_scale_29 : decode cX9_scale 29 = .ok (.i2l, 1) := by decide +kernel
theorem dX9_scale_30 : decode cX9_scale 30 = .ok (.lreturn, 1) := by decide +kernel
theorem dX9_scale_31 : decode cX9_scale 31 = .ok (.lconst 1, 1) := by decide +kernel
theorem dX9_scale_32 : decode cX9_scale 32 = .ok (.lstore 4, 2) := by decide +kernel
theorem dX9_scale_34 : decode cX9_scale 34 = .ok (.lconst 1, 1) := by decide +kernel
theorem dX9_scale_35 : decode cX9_scale 35 = .ok (.lstore 6, 2) := by decide +kernel
theorem dX9_scale_37 : decode cX9_scale 37 = .ok (.iload_n 1, 1) := by decide +kernel
theorem dX9_scale_38 : decode cX9_scale 38 = .ok (.istore 8, 2) := by decide +kernel
theorem dX9_scale_40 : decode cX9_scale 40 = .ok (.iload_n 2, 1) := by decide +kernel
theorem dX9_scale_41 : decode cX9_scale 41 = .ok (.istore 9, 2) := by decide +kernel
theorem dX9_scale_43 : decode cX9_scale 43 = .ok (.iload 9, 2) := by decide +kernel
theorem dX9_scale_45 : decode cX9_scale 45 = .ok (.ifCond .le 71, 3) := by decide +kernel
theorem dX9_scale_48 : decode cX9_scale 48 = .ok (.iload 8, 2) := by decide +kernel
theorem dX9_scale_50 : decode cX9_scale 50 = .ok (.ifCond .lt 66, 3) := by decide +kernel
theorem dX9_scale_53 : decode cX9_scale 53 = .ok (.aload_n 0, 1) := by decide +kernel
theorem dX9_scale_54 : decode cX9_scale 54 = .ok (.getfield 30, 3) := by decide +kernel
theorem dX9_scale_57 : decode cX9_scale 57 = .ok (.getfield 143, 3) := by decide +kernel
theorem dX9_scale_60 : decode cX9_scale 60 = .ok (.iconst 4, 1) := by decide +kernel
theorem dX9_scale_61 : decode cX9_scale 61 = .ok (.iload 8, 2) := by decide +kernel
theorem dX9_scale_63 : decode cX9_scale 63 = .ok (.imul, 1) := by decide +kernel
theorem dX9_scale_64 : decode cX9_scale 64 = .ok (.iaload, 1) := by decide +kernel
theorem dX9_scale_65 : decode cX9_scale 65 = .ok (.bipush 8, 2) := by decide +kernel
theorem dX9_scale_67 : decode cX9_scale 67 = .ok (.if_icmp .ne 31, 3) := by decide +kernel
theorem dX9_scale_70 : decode cX9_scale 70 = .ok (.lload 4, 2) := by decide +kernel
theorem dX9_scale_72 : decode cX9_scale 72 = .ok (.aload_n 0, 1) := by decide +kernel
theorem dX9_scale_73 : decode cX9_scale 73 = .ok (.getfield 30, 3) := by decide +kernel
theorem dX9_scale_76 : decode cX9_scale 76 = .ok (.getfield 143, 3) := by decide +kernel
theorem dX9_scale_79 : decode cX9_scale 79 = .ok (.iconst 4, 1) := by decide +kernel
theorem dX9_scale_80 : decode cX9_scale 80 = .ok (.iload 8, 2) := by decide +kernel
theorem dX9_scale_82 : decode cX9_scale 82 = .ok (.imul, 1) := by decide +kernel
theorem dX9_scale_83 : decode cX9_scale 83 = .ok (.iconst 1, 1) := by decide +kernel
theorem dX9_scale_84 : decode cX9_scale 84 = .ok (.iadd, 1) := by decide +kernel
theorem dX9_scale_85 : decode cX9_scale 85 = .ok (.iaload, 1) := by decide +kernel
theorem dX9_scale_86 : decode cX9_scale 86 = .ok (.i2l, 1) := by decide +kernel
theorem dX9_scale_87 : decode cX9_scale 87 = .ok (.lmul, 1) := by decide +kernel
theorem dX9_scale_88 : decode cX9_scale 88 = .ok (.lstore 4, 2) := by decide +kernel
theorem dX9_scale_90 : decode cX9_scale 90 = .ok (.lload 6, 2) := by decide +kernel
theorem dX9_scale_92 : decode cX9_scale 92 = .ok (.ldc2_w 202, 3) := by decide +kernel
theorem dX9_scale_95 : decode cX9_scale 95 = .ok (.lmul, 1) := by decide +kernel
theorem dX9_scale_96 : decode cX9_scale 96 = .ok (.lstore 6, 2) := by decide +kernel
theorem dX9_scale_98 : decode cX9_scale 98 = .ok (.aload_n 0, 1) := by decide +kernel
theorem dX9_scale_99 : decode cX9_scale 99 = .ok (.getfield 30, 3) := by decide +kernel
theorem dX9_scale_102 : decode cX9_scale 102 = .ok (.getfield 140, 3) := by decide +kernel
theorem dX9_scale_105 : decode cX9_scale 105 = .ok (.iload 8, 2) := by decide +kernel
theorem dX9_scale_107 : decode cX9_scale 107 = .ok (.iaload, 1) := by decide +kernel
theorem dX9_scale_108 : decode cX9_scale 108 = .ok (.istore 8, 2) := by decide +kernel
theorem dX9_scale_110 : decode cX9_scale 110 = .ok (.iinc 9 (-1), 3) := by decide +kernel
theorem dX9_scale_113 : decode cX9_scale 113 = .ok (.goto (-70), 3) := by decide +kernel
theorem dX9_scale_116 : decode cX9_scale 116 = .ok (.lload 4, 2) := by decide +kernel
theorem dX9_scale_118 : decode cX9_scale 118 = .ok (.lload 6, 2) := by decide +kernel
theorem dX9_scale_120 : decode cX9_scale 120 = .ok (.invokestatic 204, 3) := by decide +kernel
theorem dX9_scale_123 : decode cX9_scale 123 = .ok (.lstore 9, 2) := by decide +kernel
theorem dX9_scale_125 : decode cX9_scale 125 = .ok (.aload_n 0, 1) := by decide +kernel
theorem dX9_scale_126 : decode cX9_scale 126 = .ok (.iconst 0, 1) := by decide +kernel
theorem dX9_scale_127 : decode cX9_scale 127 = .ok (.invokevirtual 133, 3) := by decide +kernel
theorem dX9_scale_130 : decode cX9_scale 130 = .ok (.pop, 1) := by decide +kernel
theorem dX9_scale_131 : decode cX9_scale 131 = .ok (.iload_n 3, 1) := by decide +kernel
theorem dX9_scale_132 : decode cX9_scale 132 = .ok (.ifCond .eq 8, 3) := by decide +kernel
theorem dX9_scale_135 : decode cX9_scale 135 = .ok (.lload 6, 2) := by decide +kernel
theorem dX9_scale_137 : decode cX9_scale 137 = .ok (.goto 5, 3) := by decide +kernel
theorem dX9_scale_140 : decode cX9_scale 140 = .ok (.lload 4, 2) := by decide +kernel
theorem dX9_scale_142 : decode cX9_scale 142 = .ok (.lload 9, 2) := by decide +kernel
theorem dX9_scale_144 : decode cX9_scale 144 = .ok (.ldiv, 1) := by decide +kernel
theorem dX9_scale_145 : decode cX9_scale 145 = .ok (.lreturn, 1) := by decide +kernel
theorem dX9_commonDivisor_0 : decode cX9_commonDivisor 0 = .ok (.lload_n 0, 1) := by decide +kernel
theorem dX9_commonDivisor_1 : decode cX9_commonDivisor 1 = .ok (.lstore 4, 2) := by decide +kernel
theorem dX9_commonDivisor_3 : decode cX9_commonDivisor 3 = .ok (.lload_n 2, 1) := by decide +kernel
theorem dX9_commonDivisor_4 : decode cX9_commonDivisor 4 = .ok (.lstore 6, 2) := by decide +kernel
theorem dX9_commonDivisor_6 : decode cX9_commonDivisor 6 = .ok (.iconst 0, 1) := by decide +kernel
theorem dX9_commonDivisor_7 : decode cX9_commonDivisor 7 = .ok (.istore 8, 2) := by decide +kernel
theorem dX9_commonDivisor_9 : decode cX9_commonDivisor 9 = .ok (.iload 8, 2) := by decide +kernel
theorem dX9_commonDivisor_11 : decode cX9_commonDivisor 11 = .ok (.sipush 200, 3) := by decide +kernel
theorem dX9_commonDivisor_14 : decode cX9_commonDivisor 14 = .ok (.if_icmp .ge 31, 3) := by decide +kernel
theorem dX9_commonDivisor_17 : decode cX9_commonDivisor 17 = .ok (.lload 6, 2) := by decide +kernel
theorem dX9_commonDivisor_19 : decode cX9_commonDivisor 19 = .ok (.lconst 0, 1) := by decide +kernel
theorem dX9_commonDivisor_20 : decode cX9_commonDivisor 20 = .ok (.lcmp, 1) := by decide +kernel
theorem dX9_commonDivisor_21 : decode cX9_commonDivisor 21 = .ok (.ifCond .le 24, 3) := by decide +kernel
theorem dX9_commonDivisor_24 : decode cX9_commonDivisor 24 = .ok (.lload 4, 2) := by decide +kernel
theorem dX9_commonDivisor_26 : decode cX9_commonDivisor 26 = .ok (.lload 6, 2) := by decide +kernel
theorem dX9_commonDivisor_28 : decode cX9_commonDivisor 28 = .ok (.lrem, 1) := by decide +kernel
theorem dX9_commonDivisor_29 : decode cX9_commonDivisor 29 = .ok (.lstore 9, 2) := by decide +kernel
theorem dX9_commonDivisor_31 : decode cX9_commonDivisor 31 = .ok (.lload 6, 2) := by decide +kernel
theorem dX9_commonDivisor_33 : decode cX9_commonDivisor 33 = .ok (.lstore 4, 2) := by decide +kernel
theorem dX9_commonDivisor_35 : decode cX9_commonDivisor 35 = .ok (.lload 9, 2) := by decide +kernel
theorem dX9_commonDivisor_37 : decode cX9_commonDivisor 37 = .ok (.lstore 6, 2) := by decide +kernel
theorem dX9_commonDivisor_39 : decode cX9_commonDivisor 39 = .ok (.iinc 8 1, 3) := by decide +kernel
theorem dX9_commonDivisor_42 : decode cX9_commonDivisor 42 = .ok (.goto (-33), 3) := by decide +kernel
theorem dX9_commonDivisor_45 : decode cX9_commonDivisor 45 = .ok (.lload 4, 2) := by decide +kernel
theorem dX9_commonDivisor_47 : decode cX9_commonDivisor 47 = .ok (.lconst 0, 1) := by decide +kernel
theorem dX9_commonDivisor_48 : decode cX9_commonDivisor 48 = .ok (.lcmp, 1) := by decide +kernel
theorem dX9_commonDivisor_49 : decode cX9_commonDivisor 49 = .ok (.ifCond .le 8, 3) := by decide +kernel
theorem dX9_commonDivisor_52 : decode cX9_commonDivisor 52 = .ok (.lload 4, 2) := by decide +kernel
theorem dX9_commonDivisor_54 : decode cX9_commonDivisor 54 = .ok (.goto 4, 3) := by decide +kernel
theorem dX9_commonDivisor_57 : decode cX9_commonDivisor 57 = .ok (.lconst 1, 1) := by decide +kernel
theorem dX9_commonDivisor_58 : decode cX9_commonDivisor 58 = .ok (.lreturn, 1) := by decide +kernel
theorem dX9_round_0 : decode cX9_round 0 = .ok (.aload_n 0, 1) := by decide +kernel
theorem dX9_round_1 : decode cX9_round 1 = .ok (.getfield 30, 3) := by decide +kernel
theorem dX9_round_4 : decode cX9_round 4 = .ok (.getfield 130, 3) := by decide +kernel
theorem dX9_round_7 : decode cX9_round 7 = .ok (.ifCond .ne 9, 3) := by decide +kernel
theorem dX9_round_10 : decode cX9_round 10 = .ok (.aload_n 0, 1) := by decide +kernel
theorem dX9_round_11 : decode cX9_round 11 = .ok (.iconst 1, 1) := by decide +kernel
theorem dX9_round_12 : decode cX9_round 12 = .ok (.invokevirtual 98, 3) := by decide +kernel
theorem dX9_round_15 : decode cX9_round 15 = .ok (.ireturn, 1) := by decide +kernel
theorem dX9_round_16 : decode cX9_round 16 = .ok (.aload_n 0, 1) := by decide +kernel
theorem dX9_round_17 : decode cX9_round 17 = .ok (.getfield 30, 3) := by decide +kernel
theorem dX9_round_20 : decode cX9_round 20 = .ok (.invokevirtual 208, 3) := by decide +kernel
theorem dX9_round_23 : decode cX9_round 23 = .ok (.ifCond .eq 10, 3) := by decide +kernel
theorem dX9_round_26 : decode cX9_round 26 = .ok (.aload_n 0, 1) := by decide +kernel
theorem dX9_round_27 : decode cX9_round 27 = .ok (.bipush 6, 2) := by decide +kernel
theorem dX9_round_29 : decode cX9_round 29 = .ok (.invokevirtual 98, 3) := by decide +kernel
theorem dX9_round_32 : decode cX9_round 32 = .ok (.ireturn, 1) := by decide +kernel
theorem dX9_round_33 : decode cX9_round 33 = .ok (.aload_n 0, 1) := by decide +kernel
theorem dX9_round_34 : decode cX9_round 34 = .ok (.invokevirtual 211, 3) := by decide +kernel
theorem dX9_round_37 : decode cX9_round 37 = .ok (.istore_n 2, 1) := by decide +kernel
theorem dX9_round_38 : decode cX9_round 38 = .ok (.iload_n 2, 1) := by decide +kernel
theorem dX9_round_39 : decode cX9_round 39 = .ok (.ifCond .ne 7, 3) := by decide +kernel
theorem dX9_round_42 : decode cX9_round 42 = .ok (.iconst 0, 1) := by decide +kernel
theorem dX9_round_43 : decode cX9_round 43 = .ok (.goto 8, 3) := by decide +kernel
theorem dX9_round_46 : decode cX9_round 46 = .ok (.aload_n 0, 1) := by decide +kernel
theorem dX9_round_47 : decode cX9_round 47 = .ok (.iload_n 2, 1) := by decide +kernel
theorem dX9_round_48 : decode cX9_round 48 = .ok (.invokevirtual 214, 3) := by decide +kernel
theorem dX9_round_51 : decode cX9_round 51 = .ok (.istore_n 3, 1) := by decide +kernel
theorem dX9_round_52 : decode cX9_round 52 = .ok (.iload_n 2, 1) := by decide +kernel
theorem dX9_round_53 : decode cX9_round 53 = .ok (.ifCond .eq 12, 3) := by decide +kernel
theorem dX9_round_56 : decode cX9_round 56 = .ok (.iload_n 3, 1) := by decide +kernel
theorem dX9_round_57 : decode cX9_round 57 = .ok (.iload_n 2, 1) := by decide +kernel
theorem dX9_round_58 : decode cX9_round 58 = .ok (.iadd, 1) := by decide +kernel
theorem dX9_round_59 : decode cX9_round 59 = .ok (.sipush 400, 3) := by decide +kernel
theorem dX9_round_62 : decode cX9_round 62 = .ok (.if_icmp .le 10, 3) := by decide +kernel
theorem dX9_round_65 : decode cX9_round 65 = .ok (.aload_n 0, 1) := by decide +kernel
theorem dX9_round_66 : decode cX9_round 66 = .ok (.bipush (-2), 2) := by decide +kernel
theorem dX9_round_68 : decode cX9_round 68 = .ok (.invokevirtual 133, 3) := by decide +kernel
theorem dX9_round_71 : decode cX9_round 71 = .ok (.ireturn, 1) := by decide +kernel
theorem dX9_round_72 : decode cX9_round 72 = .ok (.aload_n 0, 1) := by decide +kernel
theorem dX9_round_73 : decode cX9_round 73 = .ok (.iload_n 1, 1) := by decide +kernel
theorem dX9_round_74 : decode cX9_round 74 = .ok (.ifCond .eq 7, 3) := by decide +kernel
theorem dX9_round_77 : decode cX9_round 77 = .ok (.iload_n 3, 1) := by decide +kernel
theorem dX9_round_78 : decode cX9_round 78 = .ok (.goto 4, 3) := by decide +kernel
theorem dX9_round_81 : decode cX9_round 81 = .ok (.iload_n 2, 1) := by decide +kernel
theorem dX9_round_82 : decode cX9_round 82 = .ok (.invokevirtual 133, 3) := by decide +kernel
theorem dX9_round_85 : decode cX9_round 85 = .ok (.ireturn, 1) := by decide +kernel
theorem dX9_roundLength_0 : decode cX9_roundLength 0 = .ok (.aload_n 0, 1) := by decide +kernel
theorem dX9_roundLength_1 : decode cX9_roundLength 1 = .ok (.getfield 34, 3) := by decide +kernel
theorem dX9_roundLength_4 : decode cX9_roundLength 4 = .ok (.aload_n 0, 1) := by decide +kernel
theorem dX9_roundLength_5 : decode cX9_roundLength 5 = .ok (.getfield 30, 3) := by decide +kernel
theorem dX9_roundLength_8 : decode cX9_roundLength 8 = .ok (.invokevirtual 120, 3) := by decide +kernel
theorem dX9_roundLength_11 : decode cX9_roundLength 11 = .ok (.aload_n 0, 1) := by decide +kernel
theorem dX9_roundLength_12 : decode cX9_roundLength 12 = .ok (.getfield 37, 3) := by decide +kernel
theorem dX9_roundLength_15 : decode cX9_roundLength 15 = .ok (.aload_n 0, 1) := by decide +kernel
theorem dX9_roundLength_16 : decode cX9_roundLength 16 = .ok (.getfield 30, 3) := by decide +kernel
theorem dX9_roundLength_19 : decode cX9_roundLength 19 = .ok (.invokevirtual 120, 3) := by decide +kernel
theorem dX9_roundLength_22 : decode cX9_roundLength 22 = .ok (.iconst 0, 1) := by decide +kernel
theorem dX9_roundLength_23 : decode cX9_roundLength 23 = .ok (.istore_n 1, 1) := by decide +kernel
theorem dX9_roundLength_24 : decode cX9_roundLength 24 = .ok (.iconst 1, 1) := by decide +kernel
theorem dX9_roundLength_25 : decode cX9_roundLength 25 = .ok (.istore_n 2, 1) := by decide +kernel
theorem dX9_roundLength_26 : decode cX9_roundLength 26 = .ok (.iconst 0, 1) := by decide +kernel
theorem dX9_roundLength_27 : decode cX9_roundLength 27 = .ok (.istore_n 3, 1) := by decide +kernel
theorem dX9_roundLength_28 : decode cX9_roundLength 28 = .ok (.iload_n 3, 1) := by decide +kernel
theorem dX9_roundLength_29 : decode cX9_roundLength 29 = .ok (.sipush 1000, 3) := by decide +kernel
theorem dX9_roundLength_32 : decode cX9_roundLength 32 = .ok (.if_icmp .ge 61, 3) := by decide +kernel
theorem dX9_roundLength_35 : decode cX9_roundLength 35 = .ok (.aload_n 0, 1) := by decide +kernel
theorem dX9_roundLength_36 : decode cX9_roundLength 36 = .ok (.getfield 37, 3) := by decide +kernel
theorem dX9_roundLength_39 : decode cX9_roundLength 39 = .ok (.aload_n 0, 1) := by decide +kernel
theorem dX9_roundLength_40 : decode cX9_roundLength 40 = .ok (.getfield 82, 3) := by decide +kernel
theorem dX9_roundLength_43 : decode cX9_roundLength 43 = .ok (.invokevirtual 184, 3) := by decide +kernel
theorem dX9_roundLength_46 : decode cX9_roundLength 46 = .ok (.iinc 1 1, 3) := by decide +kernel
theorem dX9_roundLength_49 : decode cX9_roundLength 49 = .ok (.aload_n 0, 1) := by decide +kernel
theorem dX9_roundLength_50 : decode cX9_roundLength 50 = .ok (.getfield 37, 3) := by decide +kernel
theorem dX9_roundLength_53 : decode cX9_roundLength 53 = .ok (.aload_n 0, 1) := by decide +kernel
theorem dX9_roundLength_54 : decode cX9_roundLength 54 = .ok (.getfield 34, 3) := by decide +kernel
theorem dX9_roundLength_57 : decode cX9_roundLength 57 = .ok (.invokevirtual 217, 3) := by decide +kernel
theorem dX9_roundLength_60 : decode cX9_roundLength 60 = .ok (.ifCond .eq 5, 3) := by decide +kernel
theorem dX9_roundLength_63 : decode cX9_roundLength 63 = .ok (.iload_n 1, 1) := by decide +kernel
theorem dX9_roundLength_64 : decode cX9_roundLength 64 = .ok (.ireturn, 1) := by decide +kernel
theorem dX9_roundLength_65 : decode cX9_roundLength 65 = .ok (.iload_n 1, 1) := by decide +kernel
theorem dX9_roundLength_66 : decode cX9_roundLength 66 = .ok (.iload_n 2, 1) := by decide +kernel
theorem dX9_roundLength_67 : decode cX9_roundLength 67 = .ok (.if_icmp .ne 20, 3) := by decide +kernel
theorem dX9_roundLength_70 : decode cX9_roundLength 70 = .ok (.aload_n 0, 1) := by decide +kernel
theorem dX9_roundLength_71 : decode cX9_roundLength 71 = .ok (.getfield 34, 3) := by decide +kernel
theorem dX9_roundLength_74 : decode cX9_roundLength 74 = .ok (.aload_n 0, 1) := by decide +kernel
theorem dX9_roundLength_75 : decode cX9_roundLength 75 = .ok (.getfield 37, 3) := by decide +kernel
theorem dX9_roundLength_78 : decode cX9_roundLength 78 = .ok (.invokevirtual 120, 3) := by decide +kernel
theorem dX9_roundLength_81 : decode cX9_roundLength 81 = .ok (.iload_n 2, 1) := by decide +kernel
theorem dX9_roundLength_82 : decode cX9_roundLength 82 = .ok (.iconst 2, 1) := by decide +kernel
theorem dX9_roundLength_83 : decode cX9_roundLength 83 = .ok (.imul, 1) := by decide +kernel
theorem dX9_roundLength_84 : decode cX9_roundLength 84 = .ok (.istore_n 2, 1) := by decide +kernel
theorem dX9_roundLength_85 : decode cX9_roundLength 85 = .ok (.iconst 0, 1) := by decide +kernel
theorem dX9_roundLength_86 : decode cX9_roundLength 86 = .ok (.istore_n 1, 1) := by decide +kernel
theorem dX9_roundLength_87 : decode cX9_roundLength 87 = .ok (.iinc 3 1, 3) := by decide +kernel
theorem dX9_roundLength_90 : decode cX9_roundLength 90 = .ok (.goto (-62), 3) := by decide +kernel
theorem dX9_roundLength_93 : decode cX9_roundLength 93 = .ok (.iconst 0, 1) := by decide +kernel
theorem dX9_roundLength_94 : decode cX9_roundLength 94 = .ok (.ireturn, 1) := by decide +kernel
theorem dX9_roundBegin_0 : decode cX9_roundBegin 0 = .ok (.aload_n 0, 1) := by decide +kernel
theorem dX9_roundBegin_1 : decode cX9_roundBegin 1 = .ok (.getfield 34, 3) := by decide +kernel
theorem dX9_roundBegin_4 : decode cX9_roundBegin 4 = .ok (.aload_n 0, 1) := by decide +kernel
theorem dX9_roundBegin_5 : decode cX9_roundBegin 5 = .ok (.getfield 30, 3) := by decide +kernel
theorem dX9_roundBegin_8 : decode cX9_roundBegin 8 = .ok (.invokevirtual 120, 3) := by decide +kernel
theorem dX9_roundBegin_11 : decode cX9_roundBegin 11 = .ok (.aload_n 0, 1) := by decide +kernel
theorem dX9_roundBegin_12 : decode cX9_roundBegin 12 = .ok (.getfield 37, 3) := by decide +kernel
theorem dX9_roundBegin_15 : decode cX9_roundBegin 15 = .ok (.aload_n 0, 1) := by decide +kernel
theorem dX9_roundBegin_16 : decode cX9_roundBegin 16 = .ok (.getfield 30, 3) := by decide +kernel
theorem dX9_roundBegin_19 : decode cX9_roundBegin 19 = .ok (.invokevirtual 120, 3) := by decide +kernel
theorem dX9_roundBegin_22 : decode cX9_roundBegin 22 = .ok (.iconst 0, 1) := by decide +kernel
theorem dX9_roundBegin_23 : decode cX9_roundBegin 23 = .ok (.istore_n 2, 1) := by decide +kernel
theorem dX9_roundBegin_24 : decode cX9_roundBegin 24 = .ok (.iload_n 2, 1) := by decide +kernel
theorem dX9_roundBegin_25 : decode cX9_roundBegin 25 = .ok (.iload_n 1, 1) := by decide +kernel
theorem dX9_roundBegin_26 : decode cX9_roundBegin 26 = .ok (.if_icmp .ge 20, 3) := by decide +kernel
theorem dX9_roundBegin_29 : decode cX9_roundBegin 29 = .ok (.aload_n 0, 1) := by decide +kernel
theorem dX9_roundBegin_30 : decode cX9_roundBegin 30 = .ok (.getfield 37, 3) := by decide +kernel
theorem dX9_roundBegin_33 : decode cX9_roundBegin 33 = .ok (.aload_n 0, 1) := by decide +kernel
theorem dX9_roundBegin_34 : decode cX9_roundBegin 34 = .ok (.getfield 82, 3) := by decide +kernel
theorem dX9_roundBegin_37 : decode cX9_roundBegin 37 = .ok (.invokevirtual 184, 3) := by decide +kernel
theorem dX9_roundBegin_40 : decode cX9_roundBegin 40 = .ok (.iinc 2 1, 3) := by decide +kernel
theorem dX9_roundBegin_43 : decode cX9_roundBegin 43 = .ok (.goto (-19), 3) := by decide +kernel
theorem dX9_roundBegin_46 : decode cX9_roundBegin 46 = .ok (.iconst 0, 1) := by decide +kernel
theorem dX9_roundBegin_47 : decode cX9_roundBegin 47 = .ok (.istore_n 2, 1) := by decide +kernel
theorem dX9_roundBegin_48 : decode cX9_roundBegin 48 = .ok (.iload_n 2, 1) := by decide +kernel
theorem dX9_roundBegin_49 : decode cX9_roundBegin 49 = .ok (.sipush 400, 3) := by decide +kernel
theorem dX9_roundBegin_52 : decode cX9_roundBegin 52 = .ok (.if_icmp .gt 47, 3) := by decide +kernel
theorem dX9_roundBegin_55 : decode cX9_roundBegin 55 = .ok (.aload_n 0, 1) := by decide +kernel
theorem dX9_roundBegin_56 : decode cX9_roundBegin 56 = .ok (.getfield 37, 3) := by decide +kernel
theorem dX9_roundBegin_59 : decode cX9_roundBegin 59 = .ok (.aload_n 0, 1) := by decide +kernel
theorem dX9_roundBegin_60 : decode cX9_roundBegin 60 = .ok (.getfield 34, 3) := by decide +kernel
theorem dX9_roundBegin_63 : decode cX9_roundBegin 63 = .ok (.invokevirtual 217, 3) := by decide +kernel
theorem dX9_roundBegin_66 : decode cX9_roundBegin 66 = .ok (.ifCond .eq 5, 3) := by decide +kernel
theorem dX9_roundBegin_69 : decode cX9_roundBegin 69 = .ok (.iload_n 2, 1) := by decide +kernel
theorem dX9_roundBegin_70 : decode cX9_roundBegin 70 = .ok (.ireturn, 1) := by decide +kernel
theorem dX9_roundBegin_71 : decode cX9_roundBegin 71 = .ok (.aload_n 0, 1) := by decide +kernel
theorem dX9_roundBegin_72 : decode cX9_roundBegin 72 = .ok (.getfield 34, 3) := by decide +kernel
theorem dX9_roundBegin_75 : decode cX9_roundBegin 75 = .ok (.aload_n 0, 1) := by decide +kernel
theorem dX9_roundBegin_76 : decode cX9_roundBegin 76 = .ok (.getfield 82, 3) := by decide +kernel
theorem dX9_roundBegin_79 : decode cX9_roundBegin 79 = .ok (.invokevirtual 184, 3) := by decide +kernel
theorem dX9_roundBegin_82 : decode cX9_roundBegin 82 = .ok (.aload_n 0, 1) := by decide +kernel
theorem dX9_roundBegin_83 : decode cX9_roundBegin 83 = .ok (.getfield 37, 3) := by decide +kernel
theorem dX9_roundBegin_86 : decode cX9_roundBegin 86 = .ok (.aload_n 0, 1) := by decide +kernel
theorem dX9_roundBegin_87 : decode cX9_roundBegin 87 = .ok (.getfield 82, 3) := by decide +kernel
theorem dX9_roundBegin_90 : decode cX9_roundBegin 90 = .ok (.invokevirtual 184, 3) := by decide +kernel
theorem dX9_roundBegin_93 : decode cX9_roundBegin 93 = .ok (.iinc 2 1, 3) := by decide +kernel
theorem dX9_roundBegin_96 : decode cX9_roundBegin 96 = .ok (.goto (-48), 3) := by decide +kernel
theorem dX9_roundBegin_99 : decode cX9_roundBegin 99 = .ok (.sipush 401, 3) := by decide +kernel
theorem dX9_roundBegin_102 : decode cX9_roundBegin 102 = .ok (.ireturn, 1) := by decide +kernel
theorem dX9_origin_0 : decode cX9_origin 0 = .ok (.aload_n 0, 1) := by decide +kernel
theorem dX9_origin_1 : decode cX9_origin 1 = .ok (.iload_n 1, 1) := by decide +kernel
theorem dX9_origin_2 : decode cX9_origin 2 = .ok (.invokevirtual 136, 3) := by decide +kernel
theorem dX9_origin_5 : decode cX9_origin 5 = .ok (.ifCond .eq 11, 3) := by decide +kernel
theorem dX9_origin_8 : decode cX9_origin 8 = .ok (.aload_n 0, 1) := by decide +kernel
theorem dX9_origin_9 : decode cX9_origin 9 = .ok (.iload_n 2, 1) := by decide +kernel
theorem dX9_origin_10 : decode cX9_origin 10 = .ok (.invokevirtual 146, 3) := by decide +kernel
theorem dX9_origin_13 : decode cX9_origin 13 = .ok (.ifCond .ne 9, 3) := by decide +kernel
theorem dX9_origin_16 : decode cX9_origin 16 = .ok (.aload_n 0, 1) := by decide +kernel
theorem dX9_origin_17 : decode cX9_origin 17 = .ok (.iconst 1, 1) := by decide +kernel
theorem dX9_origin_18 : decode cX9_origin 18 = .ok (.invokevirtual 98, 3) := by decide +kernel
theorem dX9_origin_21 : decode cX9_origin 21 = .ok (.ireturn, 1) := by decide +kernel
theorem dX9_origin_22 : decode cX9_origin 22 = .ok (.iload_n 3, 1) := by decide +kernel
theorem dX9_origin_23 : decode cX9_origin 23 = .ok (.bipush 60, 2) := by decide +kernel
theorem dX9_origin_25 : decode cX9_origin 25 = .ok (.invokestatic 155, 3) := by decide +kernel
theorem dX9_origin_28 : decode cX9_origin 28 = .ok (.ifCond .ne 9, 3) := by decide +kernel
theorem dX9_origin_31 : decode cX9_origin 31 = .ok (.aload_n 0, 1) := by decide +kernel
theorem dX9_origin_32 : decode cX9_origin 32 = .ok (.iconst 2, 1) := by decide +kernel
theorem dX9_origin_33 : decode cX9_origin 33 = .ok (.invokevirtual 98, 3) := by decide +kernel
theorem dX9_origin_36 : decode cX9_origin 36 = .ok (.ireturn, 1) := by decide +kernel
theorem dX9_origin_37 : decode cX9_origin 37 = .ok (.aload_n 0, 1) := by decide +kernel
theorem dX9_origin_38 : decode cX9_origin 38 = .ok (.getfield 52, 3) := by decide +kernel
theorem dX9_origin_41 : decode cX9_origin 41 = .ok (.aload_n 0, 1) := by decide +kernel
theorem dX9_origin_42 : decode cX9_origin 42 = .ok (.getfield 30, 3) := by decide +kernel
theorem dX9_origin_45 : decode cX9_origin 45 = .ok (.iload_n 1, 1) := by decide +kernel
theorem dX9_origin_46 : decode cX9_origin 46 = .ok (.iload_n 2, 1) := by decide +kernel
theorem dX9_origin_47 : decode cX9_origin 47 = .ok (.invokestatic 152, 3) := by decide +kernel
theorem dX9_origin_50 : decode cX9_origin 50 = .ok (.iload_n 3, 1) := by decide +kernel
theorem dX9_origin_51 : decode cX9_origin 51 = .ok (.invokevirtual 159, 3) := by decide +kernel
theorem dX9_origin_54 : decode cX9_origin 54 = .ok (.pop, 1) := by decide +kernel
theorem dX9_origin_55 : decode cX9_origin 55 = .ok (.aload_n 0, 1) := by decide +kernel
theorem dX9_origin_56 : decode cX9_origin 56 = .ok (.getfield 52, 3) := by decide +kernel
theorem dX9_origin_59 : decode cX9_origin 59 = .ok (.iload_n 2, 1) := by decide +kernel
theorem dX9_origin_60 : decode cX9_origin 60 = .ok (.invokestatic 152, 3) := by decide +kernel
theorem dX9_origin_63 : decode cX9_origin 63 = .ok (.invokevirtual 221, 3) := by decide +kernel
theorem dX9_origin_66 : decode cX9_origin 66 = .ok (.istore 4, 2) := by decide +kernel
theorem dX9_origin_68 : decode cX9_origin 68 = .ok (.aload_n 0, 1) := by decide +kernel
theorem dX9_origin_69 : decode cX9_origin 69 = .ok (.iload 4, 2) := by decide +kernel
theorem dX9_origin_71 : decode cX9_origin 71 = .ok (.iconst (-1), 1) := by decide +kernel
theorem dX9_origin_72 : decode cX9_origin 72 = .ok (.if_icmp .ne 8, 3) := by decide +kernel
theorem dX9_origin_75 : decode cX9_origin 75 = .ok (.bipush (-2), 2) := by decide +kernel
theorem dX9_origin_77 : decode cX9_origin 77 = .ok (.goto 19, 3) := by decide +kernel
theorem dX9_origin_80 : decode cX9_origin 80 = .ok (.bipush 100, 2) := by decide +kernel
theorem dX9_origin_82 : decode cX9_origin 82 = .ok (.aload_n 0, 1) := by decide +kernel
theorem dX9_origin_83 : decode cX9_origin 83 = .ok (.getfield 52, 3) := by decide +kernel
theorem dX9_origin_86 : decode cX9_origin 86 = .ok (.invokevirtual 224, 3) := by decide +kernel
theorem dX9_origin_89 : decode cX9_origin 89 = .ok (.imul, 1) := by decide +kernel
theorem dX9_origin_90 : decode cX9_origin 90 = .ok (.iload 4, 2) := by decide +kernel
theorem dX9_origin_92 : decode cX9_origin 92 = .ok (.invokestatic 227, 3) := by decide +kernel
theorem dX9_origin_95 : decode cX9_origin 95 = .ok (.iadd, 1) := by decide +kernel
theorem dX9_origin_96 : decode cX9_origin 96 = .ok (.invokevirtual 133, 3) := by decide +kernel
theorem dX9_origin_99 : decode cX9_origin 99 = .ok (.ireturn, 1) := by decide +kernel
theorem dX9_blame_0 : decode cX9_blame 0 = .ok (.aload_n 0, 1) := by decide +kernel
theorem dX9_blame_1 : decode cX9_blame 1 = .ok (.iload_n 1, 1) := by decide +kernel
theorem dX9_blame_2 : decode cX9_blame 2 = .ok (.invokevirtual 136, 3) := by decide +kernel
theorem dX9_blame_5 : decode cX9_blame 5 = .ok (.ifCond .eq 11, 3) := by decide +kernel
theorem dX9_blame_8 : decode cX9_blame 8 = .ok (.aload_n 0, 1) := by decide +kernel
theorem dX9_blame_9 : decode cX9_blame 9 = .ok (.iload_n 2, 1) := by decide +kernel
theorem dX9_blame_10 : decode cX9_blame 10 = .ok (.invokevirtual 146, 3) := by decide +kernel
theorem dX9_blame_13 : decode cX9_blame 13 = .ok (.ifCond .ne 9, 3) := by decide +kernel
theorem dX9_blame_16 : decode cX9_blame 16 = .ok (.aload_n 0, 1) := by decide +kernel
theorem dX9_blame_17 : decode cX9_blame 17 = .ok (.iconst 1, 1) := by decide +kernel
theorem dX9_blame_18 : decode cX9_blame 18 = .ok (.invokevirtual 98, 3) := by decide +kernel
theorem dX9_blame_21 : decode cX9_blame 21 = .ok (.ireturn, 1) := by decide +kernel
theorem dX9_blame_22 : decode cX9_blame 22 = .ok (.iload_n 3, 1) := by decide +kernel
theorem dX9_blame_23 : decode cX9_blame 23 = .ok (.bipush 60, 2) := by decide +kernel
theorem dX9_blame_25 : decode cX9_blame 25 = .ok (.invokestatic 155, 3) := by decide +kernel
theorem dX9_blame_28 : decode cX9_blame 28 = .ok (.ifCond .ne 9, 3) := by decide +kernel
theorem dX9_blame_31 : decode cX9_blame 31 = .ok (.aload_n 0, 1) := by decide +kernel
theorem dX9_blame_32 : decode cX9_blame 32 = .ok (.iconst 2, 1) := by decide +kernel
theorem dX9_blame_33 : decode cX9_blame 33 = .ok (.invokevirtual 98, 3) := by decide +kernel
theorem dX9_blame_36 : decode cX9_blame 36 = .ok (.ireturn, 1) := by decide +kernel
theorem dX9_blame_37 : decode cX9_blame 37 = .ok (.aload_n 0, 1) := by decide +kernel
theorem dX9_blame_38 : decode cX9_blame 38 = .ok (.getfield 52, 3) := by decide +kernel
theorem dX9_blame_41 : decode cX9_blame 41 = .ok (.aload_n 0, 1) := by decide +kernel
theorem dX9_blame_42 : decode cX9_blame 42 = .ok (.getfield 30, 3) := by decide +kernel
theorem dX9_blame_45 : decode cX9_blame 45 = .ok (.iload_n 1, 1) := by decide +kernel
theorem dX9_blame_46 : decode cX9_blame 46 = .ok (.iload_n 2, 1) := by decide +kernel
theorem dX9_blame_47 : decode cX9_blame 47 = .ok (.invokestatic 152, 3) := by decide +kernel
theorem dX9_blame_50 : decode cX9_blame 50 = .ok (.iload_n 3, 1) := by decide +kernel
theorem dX9_blame_51 : decode cX9_blame 51 = .ok (.invokevirtual 159, 3) := by decide +kernel
theorem dX9_blame_54 : decode cX9_blame 54 = .ok (.istore 4, 2) := by decide +kernel
theorem dX9_blame_56 : decode cX9_blame 56 = .ok (.iconst 0, 1) := by decide +kernel
theorem dX9_blame_57 : decode cX9_blame 57 = .ok (.istore 5, 2) := by decide +kernel
theorem dX9_blame_59 : decode cX9_blame 59 = .ok (.iconst 0, 1) := by decide +kernel
theorem dX9_blame_60 : decode cX9_blame 60 = .ok (.istore 6, 2) := by decide +kernel
theorem dX9_blame_62 : decode cX9_blame 62 = .ok (.iload 6, 2) := by decide +kernel
theorem dX9_blame_64 : decode cX9_blame 64 = .ok (.aload_n 0, 1) := by decide +kernel
theorem dX9_blame_65 : decode cX9_blame 65 = .ok (.getfield 30, 3) := by decide +kernel
theorem dX9_blame_68 : decode cX9_blame 68 = .ok (.getfield 130, 3) := by decide +kernel
theorem dX9_blame_71 : decode cX9_blame 71 = .ok (.if_icmp .ge 75, 3) := by decide +kernel
theorem dX9_blame_74 : decode cX9_blame 74 = .ok (.aload_n 0, 1) := by decide +kernel
theorem dX9_blame_75 : decode cX9_blame 75 = .ok (.getfield 30, 3) := by decide +kernel
theorem dX9_blame_78 : decode cX9_blame 78 = .ok (.getfield 143, 3) := by decide +kernel
theorem dX9_blame_81 : decode cX9_blame 81 = .ok (.iconst 4, 1) := by decide +kernel
theorem dX9_blame_82 : decode cX9_blame 82 = .ok (.iload 6, 2) := by decide +kernel
theorem dX9_blame_84 : decode cX9_blame 84 = .ok (.imul, 1) := by decide +kernel
theorem dX9_blame_85 : decode cX9_blame 85 = .ok (.iaload, 1) := by decide +kernel
theorem dX9_blame_86 : decode cX9_blame 86 = .ok (.ifCond .eq 54, 3) := by decide +kernel
theorem dX9_blame_89 : decode cX9_blame 89 = .ok (.aload_n 0, 1) := by decide +kernel
theorem dX9_blame_90 : decode cX9_blame 90 = .ok (.getfield 34, 3) := by decide +kernel
theorem dX9_blame_93 : decode cX9_blame 93 = .ok (.aload_n 0, 1) := by decide +kernel
theorem dX9_blame_94 : decode cX9_blame 94 = .ok (.getfield 30, 3) := by decide +kernel
theorem dX9_blame_97 : decode cX9_blame 97 = .ok (.invokevirtual 120, 3) := by decide +kernel
theorem dX9_blame_100 : decode cX9_blame 100 = .ok (.aload_n 0, 1) := by decide +kernel
theorem dX9_blame_101 : decode cX9_blame 101 = .ok (.getfield 34, 3) := by decide +kernel
theorem dX9_blame_104 : decode cX9_blame 104 = .ok (.iload 6, 2) := by decide +kernel
theorem dX9_blame_106 : decode cX9_blame 106 = .ok (.invokevirtual 230, 3) := by decide +kernel
theorem dX9_blame_109 : decode cX9_blame 109 = .ok (.aload_n 0, 1) := by decide +kernel
theorem dX9_blame_110 : decode cX9_blame 110 = .ok (.getfield 52, 3) := by decide +kernel
theorem dX9_blame_113 : decode cX9_blame 113 = .ok (.aload_n 0, 1) := by decide +kernel
theorem dX9_blame_114 : decode cX9_blame 114 = .ok (.getfield 34, 3) := by decide +kernel
theorem dX9_blame_117 : decode cX9_blame 117 = .ok (.iload_n 1, 1) := by decide +kernel
theorem dX9_blame_118 : decode cX9_blame 118 = .ok (.iload_n 2, 1) := by decide +kernel
theorem dX9_blame_119 : decode cX9_blame 119 = .ok (.invokestatic 152, 3) := by decide +kernel
theorem dX9_blame_122 : decode cX9_blame 122 = .ok (.iload_n 3, 1) := by decide +kernel
theorem dX9_blame_123 : decode cX9_blame 123 = .ok (.invokevirtual 159, 3) := by decide +kernel
theorem dX9_blame_126 : decode cX9_blame 126 = .ok (.iload 4, 2) := by decide +kernel
theorem dX9_blame_128 : decode cX9_blame 128 = .ok (.if_icmp .eq 12, 3) := by decide +kernel
theorem dX9_blame_131 : decode cX9_blame 131 = .ok (.iload 5, 2) := by decide +kernel
theorem dX9_blame_133 : decode cX9_blame 133 = .ok (.iconst 1, 1) := by decide +kernel
theorem dX9_blame_134 : decode cX9_blame 134 = .ok (.iload 6, 2) := by decide +kernel
theorem dX9_blame_136 : decode cX9_blame 136 = .ok (.ishl, 1) := by decide +kernel
theorem dX9_blame_137 : decode cX9_blame 137 = .ok (.ior, 1) := by decide +kernel
theorem dX9_blame_138 : decode cX9_blame 138 = .ok (.istore 5, 2) := by decide +kernel
theorem dX9_blame_140 : decode cX9_blame 140 = .ok (.iinc 6 1, 3) := by decide +kernel
theorem dX9_blame_143 : decode cX9_blame 143 = .ok (.goto (-81), 3) := by decide +kernel
theorem dX9_blame_146 : decode cX9_blame 146 = .ok (.aload_n 0, 1) := by decide +kernel
theorem dX9_blame_147 : decode cX9_blame 147 = .ok (.iload 5, 2) := by decide +kernel
theorem dX9_blame_149 : decode cX9_blame 149 = .ok (.invokevirtual 133, 3) := by decide +kernel
theorem dX9_blame_152 : decode cX9_blame 152 = .ok (.ireturn, 1) := by decide +kernel
theorem dX9_loop_0 : decode cX9_loop 0 = .ok (.aload_n 0, 1) := by decide +kernel
theorem dX9_loop_1 : decode cX9_loop 1 = .ok (.iload_n 1, 1) := by decide +kernel
theorem dX9_loop_2 : decode cX9_loop 2 = .ok (.invokevirtual 136, 3) := by decide +kernel
theorem dX9_loop_5 : decode cX9_loop 5 = .ok (.ifCond .ne 9, 3) := by decide +kernel
theorem dX9_loop_8 : decode cX9_loop 8 = .ok (.aload_n 0, 1) := by decide +kernel
theorem dX9_loop_9 : decode cX9_loop 9 = .ok (.iconst 1, 1) := by decide +kernel
theorem dX9_loop_10 : decode cX9_loop 10 = .ok (.invokevirtual 98, 3) := by decide +kernel
theorem dX9_loop_13 : decode cX9_loop 13 = .ok (.ireturn, 1) := by decide +kernel
theorem dX9_loop_14 : decode cX9_loop 14 = .ok (.aload_n 0, 1) := by decide +kernel
theorem dX9_loop_15 : decode cX9_loop 15 = .ok (.getfield 30, 3) := by decide +kernel
theorem dX9_loop_18 : decode cX9_loop 18 = .ok (.getfield 140, 3) := by decide +kernel
theorem dX9_loop_21 : decode cX9_loop 21 = .ok (.iload_n 1, 1) := by decide +kernel
theorem dX9_loop_22 : decode cX9_loop 22 = .ok (.iaload, 1) := by decide +kernel
theorem dX9_loop_23 : decode cX9_loop 23 = .ok (.istore_n 2, 1) := by decide +kernel
theorem dX9_loop_24 : decode cX9_loop 24 = .ok (.iconst 1, 1) := by decide +kernel
theorem dX9_loop_25 : decode cX9_loop 25 = .ok (.istore_n 3, 1) := by decide +kernel
theorem dX9_loop_26 : decode cX9_loop 26 = .ok (.iload_n 3, 1) := by decide +kernel
theorem dX9_loop_27 : decode cX9_loop 27 = .ok (.bipush 6, 2) := by decide +kernel
theorem dX9_loop_29 : decode cX9_loop 29 = .ok (.if_icmp .gt 34, 3) := by decide +kernel
theorem dX9_loop_32 : decode cX9_loop 32 = .ok (.iload_n 2, 1) := by decide +kernel
theorem dX9_loop_33 : decode cX9_loop 33 = .ok (.ifCond .lt 30, 3) := by decide +kernel
theorem dX9_loop_36 : decode cX9_loop 36 = .ok (.iload_n 2, 1) := by decide +kernel
theorem dX9_loop_37 : decode cX9_loop 37 = .ok (.iload_n 1, 1) := by decide +kernel
theorem dX9_loop_38 : decode cX9_loop 38 = .ok (.if_icmp .ne 9, 3) := by decide +kernel
theorem dX9_loop_41 : decode cX9_loop 41 = .ok (.aload_n 0, 1) := by decide +kernel
theorem dX9_loop_42 : decode cX9_loop 42 = .ok (.iload_n 3, 1) := by decide +kernel
theorem dX9_loop_43 : decode cX9_loop 43 = .ok (.invokevirtual 133, 3) := by decide +kernel
theorem dX9_loop_46 : decode cX9_loop 46 = .ok (.ireturn, 1) := by decide +kernel
theorem dX9_loop_47 : decode cX9_loop 47 = .ok (.aload_n 0, 1) := by decide +kernel
theorem dX9_loop_48 : decode cX9_loop 48 = .ok (.getfield 30, 3) := by decide +kernel
theorem dX9_loop_51 : decode cX9_loop 51 = .ok (.getfield 140, 3) := by decide +kernel
theorem dX9_loop_54 : decode cX9_loop 54 = .ok (.iload_n 2, 1) := by decide +kernel
theorem dX9_loop_55 : decode cX9_loop 55 = .ok (.iaload, 1) := by decide +kernel
theorem dX9_loop_56 : decode cX9_loop 56 = .ok (.istore_n 2, 1) := by decide +kernel
theorem dX9_loop_57 : decode cX9_loop 57 = .ok (.iinc 3 1, 3) := by decide +kernel
theorem dX9_loop_60 : decode cX9_loop 60 = .ok (.goto (-34), 3) := by decide +kernel
theorem dX9_loop_63 : decode cX9_loop 63 = .ok (.aload_n 0, 1) := by decide +kernel
theorem dX9_loop_64 : decode cX9_loop 64 = .ok (.iconst 0, 1) := by decide +kernel
theorem dX9_loop_65 : decode cX9_loop 65 = .ok (.invokevirtual 133, 3) := by decide +kernel
theorem dX9_loop_68 : decode cX9_loop 68 = .ok (.ireturn, 1) := by decide +kernel
theorem dX9_depth_0 : decode cX9_depth 0 = .ok (.aload_n 0, 1) := by decide +kernel
theorem dX9_depth_1 : decode cX9_depth 1 = .ok (.iload_n 1, 1) := by decide +kernel
theorem dX9_depth_2 : decode cX9_depth 2 = .ok (.invokevirtual 136, 3) := by decide +kernel
theorem dX9_depth_5 : decode cX9_depth 5 = .ok (.ifCond .ne 9, 3) := by decide +kernel
theorem dX9_depth_8 : decode cX9_depth 8 = .ok (.aload_n 0, 1) := by decide +kernel
theorem dX9_depth_9 : decode cX9_depth 9 = .ok (.iconst 1, 1) := by decide +kernel
theorem dX9_depth_10 : decode cX9_depth 10 = .ok (.invokevirtual 98, 3) := by decide +kernel
theorem dX9_depth_13 : decode cX9_depth 13 = .ok (.ireturn, 1) := by decide +kernel
theorem dX9_depth_14 : decode cX9_depth 14 = .ok (.iload_n 1, 1) := by decide +kernel
theorem dX9_depth_15 : decode cX9_depth 15 = .ok (.istore_n 2, 1) := by decide +kernel
theorem dX9_depth_16 : decode cX9_depth 16 = .ok (.iconst 0, 1) := by decide +kernel
theorem dX9_depth_17 : decode cX9_depth 17 = .ok (.istore_n 3, 1) := by decide +kernel
theorem dX9_depth_18 : decode cX9_depth 18 = .ok (.iload_n 3, 1) := by decide +kernel
theorem dX9_depth_19 : decode cX9_depth 19 = .ok (.bipush 6, 2) := by decide +kernel
theorem dX9_depth_21 : decode cX9_depth 21 = .ok (.if_icmp .ge 37, 3) := by decide +kernel
theorem dX9_depth_24 : decode cX9_depth 24 = .ok (.aload_n 0, 1) := by decide +kernel
theorem dX9_depth_25 : decode cX9_depth 25 = .ok (.getfield 30, 3) := by decide +kernel
theorem dX9_depth_28 : decode cX9_depth 28 = .ok (.getfield 140, 3) := by decide +kernel
theorem dX9_depth_31 : decode cX9_depth 31 = .ok (.iload_n 2, 1) := by decide +kernel
theorem dX9_depth_32 : decode cX9_depth 32 = .ok (.iaload, 1) := by decide +kernel
theorem dX9_depth_33 : decode cX9_depth 33 = .ok (.ifCond .ge 9, 3) := by decide +kernel
theorem dX9_depth_36 : decode cX9_depth 36 = .ok (.aload_n 0, 1) := by decide +kernel
theorem dX9_depth_37 : decode cX9_depth 37 = .ok (.iload_n 3, 1) := by decide +kernel
theorem dX9_depth_38 : decode cX9_depth 38 = .ok (.invokevirtual 133, 3) := by decide +kernel
theorem dX9_depth_41 : decode cX9_depth 41 = .ok (.ireturn, 1) := by decide +kernel
theorem dX9_depth_42 : decode cX9_depth 42 = .ok (.aload_n 0, 1) := by decide +kernel
theorem dX9_depth_43 : decode cX9_depth 43 = .ok (.getfield 30, 3) := by decide +kernel
theorem dX9_depth_46 : decode cX9_depth 46 = .ok (.getfield 140, 3) := by decide +kernel
theorem dX9_depth_49 : decode cX9_depth 49 = .ok (.iload_n 2, 1) := by decide +kernel
theorem dX9_depth_50 : decode cX9_depth 50 = .ok (.iaload, 1) := by decide +kernel
theorem dX9_depth_51 : decode cX9_depth 51 = .ok (.istore_n 2, 1) := by decide +kernel
theorem dX9_depth_52 : decode cX9_depth 52 = .ok (.iinc 3 1, 3) := by decide +kernel
theorem dX9_depth_55 : decode cX9_depth 55 = .ok (.goto (-37), 3) := by decide +kernel
theorem dX9_depth_58 : decode cX9_depth 58 = .ok (.aload_n 0, 1) := by decide +kernel
theorem dX9_depth_59 : decode cX9_depth 59 = .ok (.bipush (-2), 2) := by decide +kernel
theorem dX9_depth_61 : decode cX9_depth 61 = .ok (.invokevirtual 133, 3) := by decide +kernel
theorem dX9_depth_64 : decode cX9_depth 64 = .ok (.ireturn, 1) := by decide +kernel
theorem dX9_strokes_0 : decode cX9_strokes 0 = .ok (.aload_n 0, 1) := by decide +kernel
theorem dX9_strokes_1 : decode cX9_strokes 1 = .ok (.iload_n 1, 1) := by decide +kernel
theorem dX9_strokes_2 : decode cX9_strokes 2 = .ok (.iload_n 2, 1) := by decide +kernel
theorem dX9_strokes_3 : decode cX9_strokes 3 = .ok (.iload_n 3, 1) := by decide +kernel
theorem dX9_strokes_4 : decode cX9_strokes 4 = .ok (.iload 4, 2) := by decide +kernel
theorem dX9_strokes_6 : decode cX9_strokes 6 = .ok (.iload 5, 2) := by decide +kernel
theorem dX9_strokes_8 : decode cX9_strokes 8 = .ok (.iload 6, 2) := by decide +kernel
theorem dX9_strokes_10 : decode cX9_strokes 10 = .ok (.invokevirtual 233, 3) := by decide +kernel
theorem dX9_strokes_13 : decode cX9_strokes 13 = .ok (.istore 7, 2) := by decide +kernel
theorem dX9_strokes_15 : decode cX9_strokes 15 = .ok (.iload 7, 2) := by decide +kernel
theorem dX9_strokes_17 : decode cX9_strokes 17 = .ok (.ifCond .eq 10, 3) := by decide +kernel
theorem dX9_strokes_20 : decode cX9_strokes 20 = .ok (.aload_n 0, 1) := by decide +kernel
theorem dX9_strokes_21 : decode cX9_strokes 21 = .ok (.iload 7, 2) := by decide +kernel
theorem dX9_strokes_23 : decode cX9_strokes 23 = .ok (.invokevirtual 98, 3) := by decide +kernel
theorem dX9_strokes_26 : decode cX9_strokes 26 = .ok (.ireturn, 1) := by decide +kernel
theorem dX9_strokes_27 : decode cX9_strokes 27 = .ok (.aload_n 0, 1) := by decide +kernel
theorem dX9_strokes_28 : decode cX9_strokes 28 = .ok (.aload_n 0, 1) := by decide +kernel
theorem dX9_strokes_29 : decode cX9_strokes 29 = .ok (.getfield 61, 3) := by decide +kernel
theorem dX9_strokes_32 : decode cX9_strokes 32 = .ok (.aload_n 0, 1) := by decide +kernel
theorem dX9_strokes_33 : decode cX9_strokes 33 = .ok (.getfield 30, 3) := by decide +kernel
theorem dX9_strokes_36 : decode cX9_strokes 36 = .ok (.iload_n 1, 1) := by decide +kernel
theorem dX9_strokes_37 : decode cX9_strokes 37 = .ok (.iload_n 2, 1) := by decide +kernel
theorem dX9_strokes_38 : decode cX9_strokes 38 = .ok (.iload_n 3, 1) := by decide +kernel
theorem dX9_strokes_39 : decode cX9_strokes 39 = .ok (.iload 4, 2) := by decide +kernel
theorem dX9_strokes_41 : decode cX9_strokes 41 = .ok (.invokestatic 152, 3) := by decide +kernel
theorem dX9_strokes_44 : decode cX9_strokes 44 = .ok (.iload 5, 2) := by decide +kernel
theorem dX9_strokes_46 : decode cX9_strokes 46 = .ok (.iload 6, 2) := by decide +kernel
theorem dX9_strokes_48 : decode cX9_strokes 48 = .ok (.invokevirtual 237, 3) := by decide +kernel
theorem dX9_strokes_51 : decode cX9_strokes 51 = .ok (.invokevirtual 133, 3) := by decide +kernel
theorem dX9_strokes_54 : decode cX9_strokes 54 = .ok (.ireturn, 1) := by decide +kernel
theorem dX9_strokeAt_0 : decode cX9_strokeAt 0 = .ok (.aload_n 0, 1) := by decide +kernel
theorem dX9_strokeAt_1 : decode cX9_strokeAt 1 = .ok (.iload_n 1, 1) := by decide +kernel
theorem dX9_strokeAt_2 : decode cX9_strokeAt 2 = .ok (.iload_n 2, 1) := by decide +kernel
theorem dX9_strokeAt_3 : decode cX9_strokeAt 3 = .ok (.iload_n 3, 1) := by decide +kernel
theorem dX9_strokeAt_4 : decode cX9_strokeAt 4 = .ok (.iload 4, 2) := by decide +kernel
theorem dX9_strokeAt_6 : decode cX9_strokeAt 6 = .ok (.iload 5, 2) := by decide +kernel
theorem dX9_strokeAt_8 : decode cX9_strokeAt 8 = .ok (.iload 6, 2) := by decide +kernel
theorem dX9_strokeAt_10 : decode cX9_strokeAt 10 = .ok (.invokevirtual 233, 3) := by decide +kernel
theorem dX9_strokeAt_13 : decode cX9_strokeAt 13 = .ok (.istore 8, 2) := by decide +kernel
theorem dX9_strokeAt_15 : decode cX9_strokeAt 15 = .ok (.iload 8, 2) := by decide +kernel
theorem dX9_strokeAt_17 : decode cX9_strokeAt 17 = .ok (.ifCond .eq 10, 3) := by decide +kernel
theorem dX9_strokeAt_20 : decode cX9_strokeAt 20 = .ok (.aload_n 0, 1) := by decide +kernel
theorem dX9_strokeAt_21 : decode cX9_strokeAt 21 = .ok (.iload 8, 2) := by decide +kernel
theorem dX9_strokeAt_23 : decode cX9_strokeAt 23 = .ok (.invokevirtual 98, 3) := by decide +kernel
theorem dX9_strokeAt_26 : decode cX9_strokeAt 26 = .ok (.ireturn, 1) := by decide +kernel
theorem dX9_strokeAt_27 : decode cX9_strokeAt 27 = .ok (.aload_n 0, 1) := by decide +kernel
theorem dX9_strokeAt_28 : decode cX9_strokeAt 28 = .ok (.getfield 61, 3) := by decide +kernel
theorem dX9_strokeAt_31 : decode cX9_strokeAt 31 = .ok (.aload_n 0, 1) := by decide +kernel
theorem dX9_strokeAt_32 : decode cX9_strokeAt 32 = .ok (.getfield 30, 3) := by decide +kernel
theorem dX9_strokeAt_35 : decode cX9_strokeAt 35 = .ok (.iload_n 1, 1) := by decide +kernel
theorem dX9_strokeAt_36 : decode cX9_strokeAt 36 = .ok (.iload_n 2, 1) := by decide +kernel
theorem dX9_strokeAt_37 : decode cX9_strokeAt 37 = .ok (.iload_n 3, 1) := by decide +kernel
theorem dX9_strokeAt_38 : decode cX9_strokeAt 38 = .ok (.iload 4, 2) := by decide +kernel
theorem dX9_strokeAt_40 : decode cX9_strokeAt 40 = .ok (.invokestatic 152, 3) := by decide +kernel
theorem dX9_strokeAt_43 : decode cX9_strokeAt 43 = .ok (.iload 5, 2) := by decide +kernel
theorem dX9_strokeAt_45 : decode cX9_strokeAt 45 = .ok (.iload 6, 2) := by decide +kernel
theorem dX9_strokeAt_47 : decode cX9_strokeAt 47 = .ok (.invokevirtual 237, 3) := by decide +kernel
theorem dX9_strokeAt_50 : decode cX9_strokeAt 50 = .ok (.istore 9, 2) := by decide +kernel
theorem dX9_strokeAt_52 : decode cX9_strokeAt 52 = .ok (.iload 7, 2) := by decide +kernel
theorem dX9_strokeAt_54 : decode cX9_strokeAt 54 = .ok (.ifCond .lt 10, 3) := by decide +kernel
theorem dX9_strokeAt_57 : decode cX9_strokeAt 57 = .ok (.iload 7, 2) := by decide +kernel
theorem dX9_strokeAt_59 : decode cX9_strokeAt 59 = .ok (.iload 9, 2) := by decide +kernel
theorem dX9_strokeAt_61 : decode cX9_strokeAt 61 = .ok (.if_icmp .lt 9, 3) := by decide +kernel
theorem dX9_strokeAt_64 : decode cX9_strokeAt 64 = .ok (.aload_n 0, 1) := by decide +kernel
theorem dX9_strokeAt_65 : decode cX9_strokeAt 65 = .ok (.iconst 1, 1) := by decide +kernel
theorem dX9_strokeAt_66 : decode cX9_strokeAt 66 = .ok (.invokevirtual 98, 3) := by decide +kernel
theorem dX9_strokeAt_69 : decode cX9_strokeAt 69 = .ok (.ireturn, 1) := by decide +kernel
theorem dX9_strokeAt_70 : decode cX9_strokeAt 70 = .ok (.aload_n 0, 1) := by decide +kernel
theorem dX9_strokeAt_71 : decode cX9_strokeAt 71 = .ok (.aload_n 0, 1) := by decide +kernel
theorem dX9_strokeAt_72 : decode cX9_strokeAt 72 = .ok (.getfield 61, 3) := by decide +kernel
theorem dX9_strokeAt_75 : decode cX9_strokeAt 75 = .ok (.getfield 241, 3) := by decide +kernel
theorem dX9_strokeAt_78 : decode cX9_strokeAt 78 = .ok (.iload 7, 2) := by decide +kernel
theorem dX9_strokeAt_80 : decode cX9_strokeAt 80 = .ok (.iaload, 1) := by decide +kernel
theorem dX9_strokeAt_81 : decode cX9_strokeAt 81 = .ok (.invokestatic 227, 3) := by decide +kernel
theorem dX9_strokeAt_84 : decode cX9_strokeAt 84 = .ok (.invokevirtual 133, 3) := by decide +kernel
theorem dX9_strokeAt_87 : decode cX9_strokeAt 87 = .ok (.ireturn, 1) := by decide +kernel
theorem dX9_strokeRefusal_0 : decode cX9_strokeRefusal 0 = .ok (.aload_n 0, 1) := by decide +kernel
theorem dX9_strokeRefusal_1 : decode cX9_strokeRefusal 1 = .ok (.iload_n 1, 1) := by decide +kernel
theorem dX9_strokeRefusal_2 : decode cX9_strokeRefusal 2 = .ok (.invokevirtual 136, 3) := by decide +kernel
theorem dX9_strokeRefusal_5 : decode cX9_strokeRefusal 5 = .ok (.ifCond .eq 37, 3) := by decide +kernel
theorem dX9_strokeRefusal_8 : decode cX9_strokeRefusal 8 = .ok (.aload_n 0, 1) := by decide +kernel
theorem dX9_strokeRefusal_9 : decode cX9_strokeRefusal 9 = .ok (.iload_n 2, 1) := by decide +kernel
theorem dX9_strokeRefusal_10 : decode cX9_strokeRefusal 10 = .ok (.invokevirtual 163, 3) := by decide +kernel
theorem dX9_strokeRefusal_13 : decode cX9_strokeRefusal 13 = .ok (.ifCond .eq 29, 3) := by decide +kernel
theorem dX9_strokeRefusal_16 : decode cX9_strokeRefusal 16 = .ok (.aload_n 0, 1) := by decide +kernel
theorem dX9_strokeRefusal_17 : decode cX9_strokeRefusal 17 = .ok (.iload_n 3, 1) := by decide +kernel
theorem dX9_strokeRefusal_18 : decode cX9_strokeRefusal 18 = .ok (.invokevirtual 136, 3) := by decide +kernel
theorem dX9_strokeRefusal_21 : decode cX9_strokeRefusal 21 = .ok (.ifCond .eq 21, 3) := by decide +kernel
theorem dX9_strokeRefusal_24 : decode cX9_strokeRefusal 24 = .ok (.aload_n 0, 1) := by decide +kernel
theorem dX9_strokeRefusal_25 : decode cX9_strokeRefusal 25 = .ok (.iload 4, 2) := by decide +kernel
theorem dX9_strokeRefusal_27 : decode cX9_strokeRefusal 27 = .ok (.invokevirtual 146, 3) := by decide +kernel
theorem dX9_strokeRefusal_30 : decode cX9_strokeRefusal 30 = .ok (.ifCond .eq 12, 3) := by decide +kernel
theorem dX9_strokeRefusal_33 : decode cX9_strokeRefusal 33 = .ok (.aload_n 0, 1) := by decide +kernel
theorem dX9_strokeRefusal_34 : decode cX9_strokeRefusal 34 = .ok (.iload 5, 2) := by decide +kernel
theorem dX9_strokeRefusal_36 : decode cX9_strokeRefusal 36 = .ok (.invokevirtual 163, 3) := by decide +kernel
theorem dX9_strokeRefusal_39 : decode cX9_strokeRefusal 39 = .ok (.ifCond .ne 5, 3) := by decide +kernel
theorem dX9_strokeRefusal_42 : decode cX9_strokeRefusal 42 = .ok (.iconst 1, 1) := by decide +kernel
theorem dX9_strokeRefusal_43 : decode cX9_strokeRefusal 43 = .ok (.ireturn, 1) := by decide +kernel
theorem dX9_strokeRefusal_44 : decode cX9_strokeRefusal 44 = .ok (.iload 6, 2) := by decide +kernel
theorem dX9_strokeRefusal_46 : decode cX9_strokeRefusal 46 = .ok (.bipush 12, 2) := by decide +kernel
theorem dX9_strokeRefusal_48 : decode cX9_strokeRefusal 48 = .ok (.invokestatic 155, 3) := by decide +kernel
theorem dX9_strokeRefusal_51 : decode cX9_strokeRefusal 51 = .ok (.ifCond .eq 7, 3) := by decide +kernel
theorem dX9_strokeRefusal_54 : decode cX9_strokeRefusal 54 = .ok (.iconst 0, 1) := by decide +kernel
theorem dX9_strokeRefusal_55 : decode cX9_strokeRefusal 55 = .ok (.goto 4, 3) := by decide +kernel
theorem dX9_strokeRefusal_58 : decode cX9_strokeRefusal 58 = .ok (.iconst 2, 1) := by decide +kernel
theorem dX9_strokeRefusal_59 : decode cX9_strokeRefusal 59 = .ok (.ireturn, 1) := by decide +kernel
theorem dX9_ink_0 : decode cX9_ink 0 = .ok (.aload_n 0, 1) := by decide +kernel
theorem dX9_ink_1 : decode cX9_ink 1 = .ok (.iload_n 1, 1) := by decide +kernel
theorem dX9_ink_2 : decode cX9_ink 2 = .ok (.invokevirtual 136, 3) := by decide +kernel
theorem dX9_ink_5 : decode cX9_ink 5 = .ok (.ifCond .eq 19, 3) := by decide +kernel
theorem dX9_ink_8 : decode cX9_ink 8 = .ok (.aload_n 0, 1) := by decide +kernel
theorem dX9_ink_9 : decode cX9_ink 9 = .ok (.iload_n 2, 1) := by decide +kernel
theorem dX9_ink_10 : decode cX9_ink 10 = .ok (.invokevirtual 146, 3) := by decide +kernel
theorem dX9_ink_13 : decode cX9_ink 13 = .ok (.ifCond .eq 11, 3) := by decide +kernel
theorem dX9_ink_16 : decode cX9_ink 16 = .ok (.aload_n 0, 1) := by decide +kernel
theorem dX9_ink_17 : decode cX9_ink 17 = .ok (.iload_n 3, 1) := by decide +kernel
theorem dX9_ink_18 : decode cX9_ink 18 = .ok (.invokevirtual 163, 3) := by decide +kernel
theorem dX9_ink_21 : decode cX9_ink 21 = .ok (.ifCond .ne 9, 3) := by decide +kernel
theorem dX9_ink_24 : decode cX9_ink 24 = .ok (.aload_n 0, 1) := by decide +kernel
theorem dX9_ink_25 : decode cX9_ink 25 = .ok (.iconst 1, 1) := by decide +kernel
theorem dX9_ink_26 : decode cX9_ink 26 = .ok (.invokevirtual 98, 3) := by decide +kernel
theorem dX9_ink_29 : decode cX9_ink 29 = .ok (.ireturn, 1) := by decide +kernel
theorem dX9_ink_30 : decode cX9_ink 30 = .ok (.aload_n 0, 1) := by decide +kernel
theorem dX9_ink_31 : decode cX9_ink 31 = .ok (.getfield 30, 3) := by decide +kernel
theorem dX9_ink_34 : decode cX9_ink 34 = .ok (.getfield 149, 3) := by decide +kernel
theorem dX9_ink_37 : decode cX9_ink 37 = .ok (.bipush 36, 2) := by decide +kernel
theorem dX9_ink_39 : decode cX9_ink 39 = .ok (.iload_n 1, 1) := by decide +kernel
theorem dX9_ink_40 : decode cX9_ink 40 = .ok (.imul, 1) := by decide +kernel
theorem dX9_ink_41 : decode cX9_ink 41 = .ok (.aload_n 0, 1) := by decide +kernel
theorem dX9_ink_42 : decode cX9_ink 42 = .ok (.getfield 75, 3) := by decide +kernel
theorem dX9_ink_45 : decode cX9_ink 45 = .ok (.getfield 173, 3) := by decide +kernel
theorem dX9_ink_48 : decode cX9_ink 48 = .ok (.iconst 0, 1) := by decide +kernel
theorem dX9_ink_49 : decode cX9_ink 49 = .ok (.bipush 36, 2) := by decide +kernel
theorem dX9_ink_51 : decode cX9_ink 51 = .ok (.invokestatic 244, 3) := by decide +kernel
theorem dX9_ink_54 : decode cX9_ink 54 = .ok (.aload_n 0, 1) := by decide +kernel
theorem dX9_ink_55 : decode cX9_ink 55 = .ok (.aload_n 0, 1) := by decide +kernel
theorem dX9_ink_56 : decode cX9_ink 56 = .ok (.getfield 75, 3) := by decide +kernel
theorem dX9_ink_59 : decode cX9_ink 59 = .ok (.aload_n 0, 1) := by decide +kernel
theorem dX9_ink_60 : decode cX9_ink 60 = .ok (.getfield 30, 3) := by decide +kernel
theorem dX9_ink_63 : decode cX9_ink 63 = .ok (.iload_n 2, 1) := by decide +kernel
theorem dX9_ink_64 : decode cX9_ink 64 = .ok (.invokestatic 152, 3) := by decide +kernel
theorem dX9_ink_67 : decode cX9_ink 67 = .ok (.iload_n 3, 1) := by decide +kernel
theorem dX9_ink_68 : decode cX9_ink 68 = .ok (.invokevirtual 250, 3) := by decide +kernel
theorem dX9_ink_71 : decode cX9_ink 71 = .ok (.invokevirtual 133, 3) := by decide +kernel
theorem dX9_ink_74 : decode cX9_ink 74 = .ok (.ireturn, 1) := by decide +kernel
theorem dX9_judge_0 : decode cX9_judge 0 = .ok (.aload_n 0, 1) := by decide +kernel
theorem dX9_judge_1 : decode cX9_judge 1 = .ok (.getfield 30, 3) := by decide +kernel
theorem dX9_judge_4 : decode cX9_judge 4 = .ok (.getfield 130, 3) := by decide +kernel
theorem dX9_judge_7 : decode cX9_judge 7 = .ok (.ifCond .ne 9, 3) := by decide +kernel
theorem dX9_judge_10 : decode cX9_judge 10 = .ok (.aload_n 0, 1) := by decide +kernel
theorem dX9_judge_11 : decode cX9_judge 11 = .ok (.iconst 1, 1) := by decide +kernel
theorem dX9_judge_12 : decode cX9_judge 12 = .ok (.invokevirtual 98, 3) := by decide +kernel
theorem dX9_judge_15 : decode cX9_judge 15 = .ok (.ireturn, 1) := by decide +kernel
theorem dX9_judge_16 : decode cX9_judge 16 = .ok (.aload_n 0, 1) := by decide +kernel
theorem dX9_judge_17 : decode cX9_judge 17 = .ok (.aload_n 0, 1) := by decide +kernel
theorem dX9_judge_18 : decode cX9_judge 18 = .ok (.getfield 68, 3) := by decide +kernel
theorem dX9_judge_21 : decode cX9_judge 21 = .ok (.aload_n 0, 1) := by decide +kernel
theorem dX9_judge_22 : decode cX9_judge 22 = .ok (.getfield 20, 3) := by decide +kernel
theorem dX9_judge_25 : decode cX9_judge 25 = .ok (.aload_n 0, 1) := by decide +kernel
theorem dX9_judge_26 : decode cX9_judge 26 = .ok (.getfield 20, 3) := by decide +kernel
theorem dX9_judge_29 : decode cX9_judge 29 = .ok (.getfield 117, 3) := by decide +kernel
theorem dX9_judge_32 : decode cX9_judge 32 = .ok (.invokevirtual 254, 3) := by decide +kernel
theorem dX9_judge_35 : decode cX9_judge 35 = .ok (.invokevirtual 133, 3) := by decide +kernel
theorem dX9_judge_38 : decode cX9_judge 38 = .ok (.ireturn, 1) := by decide +kernel
theorem dX9_fits_0 : decode cX9_fits 0 = .ok (.aload_n 0, 1) := by decide +kernel
theorem dX9_fits_1 : decode cX9_fits 1 = .ok (.invokevirtual 258, 3) := by decide +kernel
theorem dX9_fits_4 : decode cX9_fits 4 = .ok (.istore_n 1, 1) := by decide +kernel
theorem dX9_fits_5 : decode cX9_fits 5 = .ok (.iload_n 1, 1) := by decide +kernel
theorem dX9_fits_6 : decode cX9_fits 6 = .ok (.ifCond .eq 9, 3) := by decide +kernel
theorem dX9_fits_9 : decode cX9_fits 9 = .ok (.aload_n 0, 1) := by decide +kernel
theorem dX9_fits_10 : decode cX9_fits 10 = .ok (.iload_n 1, 1) := by decide +kernel
theorem dX9_fits_11 : decode cX9_fits 11 = .ok (.invokevirtual 98, 3) := by decide +kernel
theorem dX9_fits_14 : decode cX9_fits 14 = .ok (.ireturn, 1) := by decide +kernel
theorem dX9_fits_15 : decode cX9_fits 15 = .ok (.aload_n 0, 1) := by decide +kernel
theorem dX9_fits_16 : decode cX9_fits 16 = .ok (.getfield 68, 3) := by decide +kernel
theorem dX9_fits_19 : decode cX9_fits 19 = .ok (.aload_n 0, 1) := by decide +kernel
theorem dX9_fits_20 : decode cX9_fits 20 = .ok (.getfield 20, 3) := by decide +kernel
theorem dX9_fits_23 : decode cX9_fits 23 = .ok (.aload_n 0, 1) := by decide +kernel
theorem dX9_fits_24 : decode cX9_fits 24 = .ok (.getfield 34, 3) := by decide +kernel
theorem dX9_fits_27 : decode cX9_fits 27 = .ok (.invokevirtual 261, 3) := by decide +kernel
theorem dX9_fits_30 : decode cX9_fits 30 = .ok (.aload_n 0, 1) := by decide +kernel
theorem dX9_fits_31 : decode cX9_fits 31 = .ok (.aload_n 0, 1) := by decide +kernel
theorem dX9_fits_32 : decode cX9_fits 32 = .ok (.getfield 68, 3) := by decide +kernel
theorem dX9_fits_35 : decode cX9_fits 35 = .ok (.getfield 265, 3) := by decide +kernel
theorem dX9_fits_38 : decode cX9_fits 38 = .ok (.invokevirtual 133, 3) := by decide +kernel
theorem dX9_fits_41 : decode cX9_fits 41 = .ok (.ireturn, 1) := by decide +kernel
theorem dX9_fit_0 : decode cX9_fit 0 = .ok (.aload_n 0, 1) := by decide +kernel
theorem dX9_fit_1 : decode cX9_fit 1 = .ok (.invokevirtual 258, 3) := by decide +kernel
theorem dX9_fit_4 : decode cX9_fit 4 = .ok (.istore_n 3, 1) := by decide +kernel
theorem dX9_fit_5 : decode cX9_fit 5 = .ok (.iload_n 3, 1) := by decide +kernel
theorem dX9_fit_6 : decode cX9_fit 6 = .ok (.ifCond .eq 9, 3) := by decide +kernel
theorem dX9_fit_9 : decode cX9_fit 9 = .ok (.aload_n 0, 1) := by decide +kernel
theorem dX9_fit_10 : decode cX9_fit 10 = .ok (.iload_n 3, 1) := by decide +kernel
theorem dX9_fit_11 : decode cX9_fit 11 = .ok (.invokevirtual 98, 3) := by decide +kernel
theorem dX9_fit_14 : decode cX9_fit 14 = .ok (.ireturn, 1) := by decide +kernel
theorem dX9_fit_15 : decode cX9_fit 15 = .ok (.aload_n 0, 1) := by decide +kernel
theorem dX9_fit_16 : decode cX9_fit 16 = .ok (.getfield 68, 3) := by decide +kernel
theorem dX9_fit_19 : decode cX9_fit 19 = .ok (.aload_n 0, 1) := by decide +kernel
theorem dX9_fit_20 : decode cX9_fit 20 = .ok (.getfield 20, 3) := by decide +kernel
theorem dX9_fit_23 : decode cX9_fit 23 = .ok (.aload_n 0, 1) := by decide +kernel
theorem dX9_fit_24 : decode cX9_fit 24 = .ok (.getfield 34, 3) := by decide +kernel
theorem dX9_fit_27 : decode cX9_fit 27 = .ok (.invokevirtual 261, 3) := by decide +kernel
theorem dX9_fit_30 : decode cX9_fit 30 = .ok (.aload_n 0, 1) := by decide +kernel
theorem dX9_fit_31 : decode cX9_fit 31 = .ok (.iload_n 2, 1) := by decide +kernel
theorem dX9_fit_32 : decode cX9_fit 32 = .ok (.invokevirtual 136, 3) := by decide +kernel
theorem dX9_fit_35 : decode cX9_fit 35 = .ok (.ifCond .eq 14, 3) := by decide +kernel
theorem dX9_fit_38 : decode cX9_fit 38 = .ok (.aload_n 0, 1) := by decide +kernel
theorem dX9_fit_39 : decode cX9_fit 39 = .ok (.getfield 20, 3) := by decide +kernel
theorem dX9_fit_42 : decode cX9_fit 42 = .ok (.iload_n 2, 1) := by decide +kernel
theorem dX9_fit_43 : decode cX9_fit 43 = .ok (.invokevirtual 266, 3) := by decide +kernel
theorem dX9_fit_46 : decode cX9_fit 46 = .ok (.goto 4, 3) := by decide +kernel
theorem dX9_fit_49 : decode cX9_fit 49 = .ok (.iconst (-1), 1) := by decide +kernel
theorem dX9_fit_50 : decode cX9_fit 50 = .ok (.istore 4, 2) := by decide +kernel
theorem dX9_fit_52 : decode cX9_fit 52 = .ok (.iload 4, 2) := by decide +kernel
theorem dX9_fit_54 : decode cX9_fit 54 = .ok (.iconst (-1), 1) := by decide +kernel
theorem dX9_fit_55 : decode cX9_fit 55 = .ok (.if_icmp .eq 18, 3) := by decide +kernel
theorem dX9_fit_58 : decode cX9_fit 58 = .ok (.iload_n 1, 1) := by decide +kernel
theorem dX9_fit_59 : decode cX9_fit 59 = .ok (.ifCond .lt 14, 3) := by decide +kernel
theorem dX9_fit_62 : decode cX9_fit 62 = .ok (.iload_n 1, 1) := by decide +kernel
theorem dX9_fit_63 : decode cX9_fit 63 = .ok (.aload_n 0, 1) := by decide +kernel
theorem dX9_fit_64 : decode cX9_fit 64 = .ok (.getfield 68, 3) := by decide +kernel
theorem dX9_fit_67 : decode cX9_fit 67 = .ok (.getfield 265, 3) := by decide +kernel
theorem dX9_fit_70 : decode cX9_fit 70 = .ok (.if_icmp .lt 9, 3) := by decide +kernel
theorem dX9_fit_73 : decode cX9_fit 73 = .ok (.aload_n 0, 1) := by decide +kernel
theorem dX9_fit_74 : decode cX9_fit 74 = .ok (.iconst 1, 1) := by decide +kernel
theorem dX9_fit_75 : decode cX9_fit 75 = .ok (.invokevirtual 98, 3) := by decide +kernel
theorem dX9_fit_78 : decode cX9_fit 78 = .ok (.ireturn, 1) := by decide +kernel
theorem dX9_fit_79 : decode cX9_fit 79 = .ok (.aload_n 0, 1) := by decide +kernel
theorem dX9_fit_80 : decode cX9_fit 80 = .ok (.aload_n 0, 1) := by decide +kernel
theorem dX9_fit_81 : decode cX9_fit 81 = .ok (.getfield 68, 3) := by decide +kernel
theorem dX9_fit_84 : decode cX9_fit 84 = .ok (.aload_n 0, 1) := by decide +kernel
theorem dX9_fit_85 : decode cX9_fit 85 = .ok (.getfield 20, 3) := by decide +kernel
theorem dX9_fit_88 : decode cX9_fit 88 = .ok (.aload_n 0, 1) := by decide +kernel
theorem dX9_fit_89 : decode cX9_fit 89 = .ok (.getfield 68, 3) := by decide +kernel
theorem dX9_fit_92 : decode cX9_fit 92 = .ok (.getfield 269, 3) := by decide +kernel
theorem dX9_fit_95 : decode cX9_fit 95 = .ok (.iload_n 1, 1) := by decide +kernel
theorem dX9_fit_96 : decode cX9_fit 96 = .ok (.iaload, 1) := by decide +kernel
theorem dX9_fit_97 : decode cX9_fit 97 = .ok (.iload 4, 2) := by decide +kernel
theorem dX9_fit_99 : decode cX9_fit 99 = .ok (.invokevirtual 272, 3) := by decide +kernel
theorem dX9_fit_102 : decode cX9_fit 102 = .ok (.invokevirtual 133, 3) := by decide +kernel
theorem dX9_fit_105 : decode cX9_fit 105 = .ok (.ireturn, 1) := by decide +kernel
theorem dX9_surely_0 : decode cX9_surely 0 = .ok (.aload_n 0, 1) := by decide +kernel
theorem dX9_surely_1 : decode cX9_surely 1 = .ok (.invokevirtual 258, 3) := by decide +kernel
theorem dX9_surely_4 : decode cX9_surely 4 = .ok (.istore_n 2, 1) := by decide +kernel
theorem dX9_surely_5 : decode cX9_surely 5 = .ok (.iload_n 2, 1) := by decide +kernel
theorem dX9_surely_6 : decode cX9_surely 6 = .ok (.ifCond .eq 9, 3) := by decide +kernel
theorem dX9_surely_9 : decode cX9_surely 9 = .ok (.aload_n 0, 1) := by decide +kernel
theorem dX9_surely_10 : decode cX9_surely 10 = .ok (.iload_n 2, 1) := by decide +kernel
theorem dX9_surely_11 : decode cX9_surely 11 = .ok (.invokevirtual 98, 3) := by decide +kernel
theorem dX9_surely_14 : decode cX9_surely 14 = .ok (.ireturn, 1) := by decide +kernel
theorem dX9_surely_15 : decode cX9_surely 15 = .ok (.aload_n 0, 1) := by decide +kernel
theorem dX9_surely_16 : decode cX9_surely 16 = .ok (.iload_n 1, 1) := by decide +kernel
theorem dX9_surely_17 : decode cX9_surely 17 = .ok (.invokevirtual 136, 3) := by decide +kernel
theorem dX9_surely_20 : decode cX9_surely 20 = .ok (.ifCond .eq 14, 3) := by decide +kernel
theorem dX9_surely_23 : decode cX9_surely 23 = .ok (.aload_n 0, 1) := by decide +kernel
theorem dX9_surely_24 : decode cX9_surely 24 = .ok (.getfield 20, 3) := by decide +kernel
theorem dX9_surely_27 : decode cX9_surely 27 = .ok (.iload_n 1, 1) := by decide +kernel
theorem dX9_surely_28 : decode cX9_surely 28 = .ok (.invokevirtual 266, 3) := by decide +kernel
theorem dX9_surely_31 : decode cX9_surely 31 = .ok (.goto 4, 3) := by decide +kernel
theorem dX9_surely_34 : decode cX9_surely 34 = .ok (.iconst (-1), 1) := by decide +kernel
theorem dX9_surely_35 : decode cX9_surely 35 = .ok (.istore_n 3, 1) := by decide +kernel
theorem dX9_surely_36 : decode cX9_surely 36 = .ok (.iload_n 3, 1) := by decide +kernel
theorem dX9_surely_37 : decode cX9_surely 37 = .ok (.iconst (-1), 1) := by decide +kernel
theorem dX9_surely_38 : decode cX9_surely 38 = .ok (.if_icmp .ne 9, 3) := by decide +kernel
theorem dX9_surely_41 : decode cX9_surely 41 = .ok (.aload_n 0, 1) := by decide +kernel
theorem dX9_surely_42 : decode cX9_surely 42 = .ok (.iconst 1, 1) := by decide +kernel
theorem dX9_surely_43 : decode cX9_surely 43 = .ok (.invokevirtual 98, 3) := by decide +kernel
theorem dX9_surely_46 : decode cX9_surely 46 = .ok (.ireturn, 1) := by decide +kernel
theorem dX9_surely_47 : decode cX9_surely 47 = .ok (.aload_n 0, 1) := by decide +kernel
theorem dX9_surely_48 : decode cX9_surely 48 = .ok (.getfield 68, 3) := by decide +kernel
theorem dX9_surely_51 : decode cX9_surely 51 = .ok (.aload_n 0, 1) := by decide +kernel
theorem dX9_surely_52 : decode cX9_surely 52 = .ok (.getfield 20, 3) := by decide +kernel
theorem dX9_surely_55 : decode cX9_surely 55 = .ok (.aload_n 0, 1) := by decide +kernel
theorem dX9_surely_56 : decode cX9_surely 56 = .ok (.getfield 34, 3) := by decide +kernel
theorem dX9_surely_59 : decode cX9_surely 59 = .ok (.invokevirtual 261, 3) := by decide +kernel
theorem dX9_surely_62 : decode cX9_surely 62 = .ok (.aload_n 0, 1) := by decide +kernel
theorem dX9_surely_63 : decode cX9_surely 63 = .ok (.aload_n 0, 1) := by decide +kernel
theorem dX9_surely_64 : decode cX9_surely 64 = .ok (.getfield 68, 3) := by decide +kernel
theorem dX9_surely_67 : decode cX9_surely 67 = .ok (.aload_n 0, 1) := by decide +kernel
theorem dX9_surely_68 : decode cX9_surely 68 = .ok (.getfield 20, 3) := by decide +kernel
theorem dX9_surely_71 : decode cX9_surely 71 = .ok (.iload_n 3, 1) := by decide +kernel
theorem dX9_surely_72 : decode cX9_surely 72 = .ok (.invokevirtual 276, 3) := by decide +kernel
theorem dX9_surely_75 : decode cX9_surely 75 = .ok (.invokevirtual 133, 3) := by decide +kernel
theorem dX9_surely_78 : decode cX9_surely 78 = .ok (.ireturn, 1) := by decide +kernel
theorem dX9_fitRefusal_0 : decode cX9_fitRefusal 0 = .ok (.aload_n 0, 1) := by decide +kernel
theorem dX9_fitRefusal_1 : decode cX9_fitRefusal 1 = .ok (.getfield 30, 3) := by decide +kernel
theorem dX9_fitRefusal_4 : decode cX9_fitRefusal 4 = .ok (.getfield 130, 3) := by decide +kernel
theorem dX9_fitRefusal_7 : decode cX9_fitRefusal 7 = .ok (.ifCond .ne 5, 3) := by decide +kernel
theorem dX9_fitRefusal_10 : decode cX9_fitRefusal 10 = .ok (.iconst 1, 1) := by decide +kernel
theorem dX9_fitRefusal_11 : decode cX9_fitRefusal 11 = .ok (.ireturn, 1) := by decide +kernel
theorem dX9_fitRefusal_12 : decode cX9_fitRefusal 12 = .ok (.aload_n 0, 1) := by decide +kernel
theorem dX9_fitRefusal_13 : decode cX9_fitRefusal 13 = .ok (.getfield 20, 3) := by decide +kernel
theorem dX9_fitRefusal_16 : decode cX9_fitRefusal 16 = .ok (.invokevirtual 280, 3) := by decide +kernel
theorem dX9_fitRefusal_19 : decode cX9_fitRefusal 19 = .ok (.ifCond .eq 13, 3) := by decide +kernel
theorem dX9_fitRefusal_22 : decode cX9_fitRefusal 22 = .ok (.aload_n 0, 1) := by decide +kernel
theorem dX9_fitRefusal_23 : decode cX9_fitRefusal 23 = .ok (.getfield 20, 3) := by decide +kernel
theorem dX9_fitRefusal_26 : decode cX9_fitRefusal 26 = .ok (.getfield 283, 3) := by decide +kernel
theorem dX9_fitRefusal_29 : decode cX9_fitRefusal 29 = .ok (.ifCond .ne 8, 3) := by decide +kernel
theorem dX9_fitRefusal_32 : decode cX9_fitRefusal 32 = .ok (.bipush 6, 2) := by decide +kernel
theorem dX9_fitRefusal_34 : decode cX9_fitRefusal 34 = .ok (.goto 4, 3) := by decide +kernel
theorem dX9_fitRefusal_37 : decode cX9_fitRefusal 37 = .ok (.iconst 0, 1) := by decide +kernel
theorem dX9_fitRefusal_38 : decode cX9_fitRefusal 38 = .ok (.ireturn, 1) := by decide +kernel
theorem dX9_rounds_0 : decode cX9_rounds 0 = .ok (.aload_n 0, 1) := by decide +kernel
theorem dX9_rounds_1 : decode cX9_rounds 1 = .ok (.getfield 30, 3) := by decide +kernel
theorem dX9_rounds_4 : decode cX9_rounds 4 = .ok (.getfield 130, 3) := by decide +kernel
theorem dX9_rounds_7 : decode cX9_rounds 7 = .ok (.ifCond .ne 9, 3) := by decide +kernel
theorem dX9_rounds_10 : decode cX9_rounds 10 = .ok (.aload_n 0, 1) := by decide +kernel
theorem dX9_rounds_11 : decode cX9_rounds 11 = .ok (.iconst 1, 1) := by decide +kernel
theorem dX9_rounds_12 : decode cX9_rounds 12 = .ok (.invokevirtual 98, 3) := by decide +kernel
theorem dX9_rounds_15 : decode cX9_rounds 15 = .ok (.ireturn, 1) := by decide +kernel
theorem dX9_rounds_16 : decode cX9_rounds 16 = .ok (.iload_n 1, 1) := by decide +kernel
theorem dX9_rounds_17 : decode cX9_rounds 17 = .ok (.iconst 1, 1) := by decide +kernel
theorem dX9_rounds_18 : decode cX9_rounds 18 = .ok (.if_icmp .lt 9, 3) := by decide +kernel
theorem dX9_rounds_21 : decode cX9_rounds 21 = .ok (.iload_n 1, 1) := by decide +kernel
theorem dX9_rounds_22 : decode cX9_rounds 22 = .ok (.bipush 60, 2) := by decide +kernel
theorem dX9_rounds_24 : decode cX9_rounds 24 = .ok (.if_icmp .le 9, 3) := by decide +kernel
theorem dX9_rounds_27 : decode cX9_rounds 27 = .ok (.aload_n 0, 1) := by decide +kernel
theorem dX9_rounds_28 : decode cX9_rounds 28 = .ok (.iconst 2, 1) := by decide +kernel
theorem dX9_rounds_29 : decode cX9_rounds 29 = .ok (.invokevirtual 98, 3) := by decide +kernel
theorem dX9_rounds_32 : decode cX9_rounds 32 = .ok (.ireturn, 1) := by decide +kernel
theorem dX9_rounds_33 : decode cX9_rounds 33 = .ok (.aload_n 0, 1) := by decide +kernel
theorem dX9_rounds_34 : decode cX9_rounds 34 = .ok (.getfield 43, 3) := by decide +kernel
theorem dX9_rounds_37 : decode cX9_rounds 37 = .ok (.aload_n 0, 1) := by decide +kernel
theorem dX9_rounds_38 : decode cX9_rounds 38 = .ok (.getfield 30, 3) := by decide +kernel
theorem dX9_rounds_41 : decode cX9_rounds 41 = .ok (.invokevirtual 286, 3) := by decide +kernel
theorem dX9_rounds_44 : decode cX9_rounds 44 = .ok (.iconst 0, 1) := by decide +kernel
theorem dX9_rounds_45 : decode cX9_rounds 45 = .ok (.istore_n 2, 1) := by decide +kernel
theorem dX9_rounds_46 : decode cX9_rounds 46 = .ok (.iload_n 2, 1) := by decide +kernel
theorem dX9_rounds_47 : decode cX9_rounds 47 = .ok (.iload_n 1, 1) := by decide +kernel
theorem dX9_rounds_48 : decode cX9_rounds 48 = .ok (.if_icmp .ge 20, 3) := by decide +kernel
theorem dX9_rounds_51 : decode cX9_rounds 51 = .ok (.aload_n 0, 1) := by decide +kernel
theorem dX9_rounds_52 : decode cX9_rounds 52 = .ok (.getfield 30, 3) := by decide +kernel
theorem dX9_rounds_55 : decode cX9_rounds 55 = .ok (.aload_n 0, 1) := by decide +kernel
theorem dX9_rounds_56 : decode cX9_rounds 56 = .ok (.getfield 82, 3) := by decide +kernel
theorem dX9_rounds_59 : decode cX9_rounds 59 = .ok (.invokevirtual 184, 3) := by decide +kernel
theorem dX9_rounds_62 : decode cX9_rounds 62 = .ok (.iinc 2 1, 3) := by decide +kernel
theorem dX9_rounds_65 : decode cX9_rounds 65 = .ok (.goto (-19), 3) := by decide +kernel
theorem dX9_rounds_68 : decode cX9_rounds 68 = .ok (.aload_n 0, 1) := by decide +kernel
theorem dX9_rounds_69 : decode cX9_rounds 69 = .ok (.getfield 30, 3) := by decide +kernel
theorem dX9_rounds_72 : decode cX9_rounds 72 = .ok (.dup, 1) := by decide +kernel
theorem dX9_rounds_73 : decode cX9_rounds 73 = .ok (.getfield 289, 3) := by decide +kernel
theorem dX9_rounds_76 : decode cX9_rounds 76 = .ok (.iload_n 1, 1) := by decide +kernel
theorem dX9_rounds_77 : decode cX9_rounds 77 = .ok (.iadd, 1) := by decide +kernel
theorem dX9_rounds_78 : decode cX9_rounds 78 = .ok (.putfield 289, 3) := by decide +kernel
theorem dX9_rounds_81 : decode cX9_rounds 81 = .ok (.aload_n 0, 1) := by decide +kernel
theorem dX9_rounds_82 : decode cX9_rounds 82 = .ok (.aload_n 0, 1) := by decide +kernel
theorem dX9_rounds_83 : decode cX9_rounds 83 = .ok (.getfield 30, 3) := by decide +kernel
theorem dX9_rounds_86 : decode cX9_rounds 86 = .ok (.getfield 289, 3) := by decide +kernel
theorem dX9_rounds_89 : decode cX9_rounds 89 = .ok (.invokevirtual 133, 3) := by decide +kernel
theorem dX9_rounds_92 : decode cX9_rounds 92 = .ok (.ireturn, 1) := by decide +kernel
theorem dX9_draw_0 : decode cX9_draw 0 = .ok (.aload_n 0, 1) := by decide +kernel
theorem dX9_draw_1 : decode cX9_draw 1 = .ok (.iload_n 1, 1) := by decide +kernel
theorem dX9_draw_2 : decode cX9_draw 2 = .ok (.invokevirtual 136, 3) := by decide +kernel
theorem dX9_draw_5 : decode cX9_draw 5 = .ok (.ifCond .eq 19, 3) := by decide +kernel
theorem dX9_draw_8 : decode cX9_draw 8 = .ok (.aload_n 0, 1) := by decide +kernel
theorem dX9_draw_9 : decode cX9_draw 9 = .ok (.iload_n 2, 1) := by decide +kernel
theorem dX9_draw_10 : decode cX9_draw 10 = .ok (.invokevirtual 146, 3) := by decide +kernel
theorem dX9_draw_13 : decode cX9_draw 13 = .ok (.ifCond .eq 11, 3) := by decide +kernel
theorem dX9_draw_16 : decode cX9_draw 16 = .ok (.aload_n 0, 1) := by decide +kernel
theorem dX9_draw_17 : decode cX9_draw 17 = .ok (.iload_n 3, 1) := by decide +kernel
theorem dX9_draw_18 : decode cX9_draw 18 = .ok (.invokevirtual 163, 3) := by decide +kernel
theorem dX9_draw_21 : decode cX9_draw 21 = .ok (.ifCond .ne 9, 3) := by decide +kernel
theorem dX9_draw_24 : decode cX9_draw 24 = .ok (.aload_n 0, 1) := by decide +kernel
theorem dX9_draw_25 : decode cX9_draw 25 = .ok (.iconst 1, 1) := by decide +kernel
theorem dX9_draw_26 : decode cX9_draw 26 = .ok (.invokevirtual 292, 3) := by decide +kernel
theorem dX9_draw_29 : decode cX9_draw 29 = .ok (.ireturn, 1) := by decide +kernel
theorem dX9_draw_30 : decode cX9_draw 30 = .ok (.bipush 36, 2) := by decide +kernel
theorem dX9_draw_32 : decode cX9_draw 32 = .ok (.iload_n 1, 1) := by decide +kernel
theorem dX9_draw_33 : decode cX9_draw 33 = .ok (.imul, 1) := by decide +kernel
theorem dX9_draw_34 : decode cX9_draw 34 = .ok (.iload_n 2, 1) := by decide +kernel
theorem dX9_draw_35 : decode cX9_draw 35 = .ok (.invokestatic 152, 3) := by decide +kernel
theorem dX9_draw_38 : decode cX9_draw 38 = .ok (.iadd, 1) := by decide +kernel
theorem dX9_draw_39 : decode cX9_draw 39 = .ok (.istore 4, 2) := by decide +kernel
theorem dX9_draw_41 : decode cX9_draw 41 = .ok (.aload_n 0, 1) := by decide +kernel
theorem dX9_draw_42 : decode cX9_draw 42 = .ok (.getfield 30, 3) := by decide +kernel
theorem dX9_draw_45 : decode cX9_draw 45 = .ok (.getfield 149, 3) := by decide +kernel
theorem dX9_draw_48 : decode cX9_draw 48 = .ok (.iload 4, 2) := by decide +kernel
theorem dX9_draw_50 : decode cX9_draw 50 = .ok (.iaload, 1) := by decide +kernel
theorem dX9_draw_51 : decode cX9_draw 51 = .ok (.iload_n 3, 1) := by decide +kernel
theorem dX9_draw_52 : decode cX9_draw 52 = .ok (.if_icmp .ne 9, 3) := by decide +kernel
theorem dX9_draw_55 : decode cX9_draw 55 = .ok (.aload_n 0, 1) := by decide +kernel
theorem dX9_draw_56 : decode cX9_draw 56 = .ok (.iconst 5, 1) := by decide +kernel
theorem dX9_draw_57 : decode cX9_draw 57 = .ok (.invokevirtual 292, 3) := by decide +kernel
theorem dX9_draw_60 : decode cX9_draw 60 = .ok (.ireturn, 1) := by decide +kernel
theorem dX9_draw_61 : decode cX9_draw 61 = .ok (.aload_n 0, 1) := by decide +kernel
theorem dX9_draw_62 : decode cX9_draw 62 = .ok (.getfield 43, 3) := by decide +kernel
theorem dX9_draw_65 : decode cX9_draw 65 = .ok (.aload_n 0, 1) := by decide +kernel
theorem dX9_draw_66 : decode cX9_draw 66 = .ok (.getfield 30, 3) := by decide +kernel
theorem dX9_draw_69 : decode cX9_draw 69 = .ok (.invokevirtual 286, 3) := by decide +kernel
theorem dX9_draw_72 : decode cX9_draw 72 = .ok (.aload_n 0, 1) := by decide +kernel
theorem dX9_draw_73 : decode cX9_draw 73 = .ok (.getfield 30, 3) := by decide +kernel
theorem dX9_draw_76 : decode cX9_draw 76 = .ok (.getfield 149, 3) := by decide +kernel
theorem dX9_draw_79 : decode cX9_draw 79 = .ok (.iload 4, 2) := by decide +kernel
theorem dX9_draw_81 : decode cX9_draw 81 = .ok (.iload_n 3, 1) := by decide +kernel
theorem dX9_draw_82 : decode cX9_draw 82 = .ok (.iastore, 1) := by decide +kernel
theorem dX9_draw_83 : decode cX9_draw 83 = .ok (.aload_n 0, 1) := by decide +kernel
theorem dX9_draw_84 : decode cX9_draw 84 = .ok (.invokevirtual 295, 3) := by decide +kernel
theorem dX9_draw_87 : decode cX9_draw 87 = .ok (.ireturn, 1) := by decide +kernel
theorem dX9_mend_0 : decode cX9_mend 0 = .ok (.aload_n 0, 1) := by decide +kernel
theorem dX9_mend_1 : decode cX9_mend 1 = .ok (.iload_n 1, 1) := by decide +kernel
theorem dX9_mend_2 : decode cX9_mend 2 = .ok (.invokevirtual 136, 3) := by decide +kernel
theorem dX9_mend_5 : decode cX9_mend 5 = .ok (.ifCond .ne 9, 3) := by decide +kernel
theorem dX9_mend_8 : decode cX9_mend 8 = .ok (.aload_n 0, 1) := by decide +kernel
theorem dX9_mend_9 : decode cX9_mend 9 = .ok (.iconst 1, 1) := by decide +kernel
theorem dX9_mend_10 : decode cX9_mend 10 = .ok (.invokevirtual 292, 3) := by decide +kernel
theorem dX9_mend_13 : decode cX9_mend 13 = .ok (.ireturn, 1) := by decide +kernel
theorem dX9_mend_14 : decode cX9_mend 14 = .ok (.aload_n 0, 1) := by decide +kernel
theorem dX9_mend_15 : decode cX9_mend 15 = .ok (.getfield 30, 3) := by decide +kernel
theorem dX9_mend_18 : decode cX9_mend 18 = .ok (.getfield 143, 3) := by decide +kernel
theorem dX9_mend_21 : decode cX9_mend 21 = .ok (.iconst 4, 1) := by decide +kernel
theorem dX9_mend_22 : decode cX9_mend 22 = .ok (.iload_n 1, 1) := by decide +kernel
theorem dX9_mend_23 : decode cX9_mend 23 = .ok (.imul, 1) := by decide +kernel
theorem dX9_mend_24 : decode cX9_mend 24 = .ok (.iaload, 1) := by decide +kernel
theorem dX9_mend_25 : decode cX9_mend 25 = .ok (.ifCond .ne 9, 3) := by decide +kernel
theorem dX9_mend_28 : decode cX9_mend 28 = .ok (.aload_n 0, 1) := by decide +kernel
theorem dX9_mend_29 : decode cX9_mend 29 = .ok (.iconst 5, 1) := by decide +kernel
theorem dX9_mend_30 : decode cX9_mend 30 = .ok (.invokevirtual 292, 3) := by decide +kernel
theorem dX9_mend_33 : decode cX9_mend 33 = .ok (.ireturn, 1) := by decide +kernel
theorem dX9_mend_34 : decode cX9_mend 34 = .ok (.aload_n 0, 1) := by decide +kernel
theorem dX9_mend_35 : decode cX9_mend 35 = .ok (.getfield 43, 3) := by decide +kernel
theorem dX9_mend_38 : decode cX9_mend 38 = .ok (.aload_n 0, 1) := by decide +kernel
theorem dX9_mend_39 : decode cX9_mend 39 = .ok (.getfield 30, 3) := by decide +kernel
theorem dX9_mend_42 : decode cX9_mend 42 = .ok (.invokevirtual 286, 3) := by decide +kernel
theorem dX9_mend_45 : decode cX9_mend 45 = .ok (.aload_n 0, 1) := by decide +kernel
theorem dX9_mend_46 : decode cX9_mend 46 = .ok (.getfield 30, 3) := by decide +kernel
theorem dX9_mend_49 : decode cX9_mend 49 = .ok (.iload_n 1, 1) := by decide +kernel
theorem dX9_mend_50 : decode cX9_mend 50 = .ok (.invokevirtual 230, 3) := by decide +kernel
theorem dX9_mend_53 : decode cX9_mend 53 = .ok (.aload_n 0, 1) := by decide +kernel
theorem dX9_mend_54 : decode cX9_mend 54 = .ok (.invokevirtual 295, 3) := by decide +kernel
theorem dX9_mend_57 : decode cX9_mend 57 = .ok (.ireturn, 1) := by decide +kernel
theorem dX9_copy_0 : decode cX9_copy 0 = .ok (.aload_n 0, 1) := by decide +kernel
theorem dX9_copy_1 : decode cX9_copy 1 = .ok (.iload_n 1, 1) := by decide +kernel
theorem dX9_copy_2 : decode cX9_copy 2 = .ok (.invokevirtual 136, 3) := by decide +kernel
theorem dX9_copy_5 : decode cX9_copy 5 = .ok (.ifCond .eq 11, 3) := by decide +kernel
theorem dX9_copy_8 : decode cX9_copy 8 = .ok (.aload_n 0, 1) := by decide +kernel
theorem dX9_copy_9 : decode cX9_copy 9 = .ok (.iload_n 2, 1) := by decide +kernel
theorem dX9_copy_10 : decode cX9_copy 10 = .ok (.invokevirtual 136, 3) := by decide +kernel
theorem dX9_copy_13 : decode cX9_copy 13 = .ok (.ifCond .ne 9, 3) := by decide +kernel
theorem dX9_copy_16 : decode cX9_copy 16 = .ok (.aload_n 0, 1) := by decide +kernel
theorem dX9_copy_17 : decode cX9_copy 17 = .ok (.iconst 1, 1) := by decide +kernel
theorem dX9_copy_18 : decode cX9_copy 18 = .ok (.invokevirtual 292, 3) := by decide +kernel
theorem dX9_copy_21 : decode cX9_copy 21 = .ok (.ireturn, 1) := by decide +kernel
theorem dX9_copy_22 : decode cX9_copy 22 = .ok (.aload_n 0, 1) := by decide +kernel
theorem dX9_copy_23 : decode cX9_copy 23 = .ok (.getfield 30, 3) := by decide +kernel
theorem dX9_copy_26 : decode cX9_copy 26 = .ok (.getfield 140, 3) := by decide +kernel
theorem dX9_copy_29 : decode cX9_copy 29 = .ok (.iload_n 1, 1) := by decide +kernel
theorem dX9_copy_30 : decode cX9_copy 30 = .ok (.iaload, 1) := by decide +kernel
theorem dX9_copy_31 : decode cX9_copy 31 = .ok (.iload_n 2, 1) := by decide +kernel
theorem dX9_copy_32 : decode cX9_copy 32 = .ok (.if_icmp .ne 9, 3) := by decide +kernel
theorem dX9_copy_35 : decode cX9_copy 35 = .ok (.aload_n 0, 1) := by decide +kernel
theorem dX9_copy_36 : decode cX9_copy 36 = .ok (.iconst 5, 1) := by decide +kernel
theorem dX9_copy_37 : decode cX9_copy 37 = .ok (.invokevirtual 292, 3) := by decide +kernel
theorem dX9_copy_40 : decode cX9_copy 40 = .ok (.ireturn, 1) := by decide +kernel
theorem dX9_copy_41 : decode cX9_copy 41 = .ok (.aload_n 0, 1) := by decide +kernel
theorem dX9_copy_42 : decode cX9_copy 42 = .ok (.getfield 43, 3) := by decide +kernel
theorem dX9_copy_45 : decode cX9_copy 45 = .ok (.aload_n 0, 1) := by decide +kernel
theorem dX9_copy_46 : decode cX9_copy 46 = .ok (.getfield 30, 3) := by decide +kernel
theorem dX9_copy_49 : decode cX9_copy 49 = .ok (.invokevirtual 286, 3) := by decide +kernel
theorem dX9_copy_52 : decode cX9_copy 52 = .ok (.aload_n 0, 1) := by decide +kernel
theorem dX9_copy_53 : decode cX9_copy 53 = .ok (.getfield 30, 3) := by decide +kernel
theorem dX9_copy_56 : decode cX9_copy 56 = .ok (.getfield 140, 3) := by decide +kernel
theorem dX9_copy_59 : decode cX9_copy 59 = .ok (.iload_n 1, 1) := by decide +kernel
theorem dX9_copy_60 : decode cX9_copy 60 = .ok (.iload_n 2, 1) := by decide +kernel
theorem dX9_copy_61 : decode cX9_copy 61 = .ok (.iastore, 1) := by decide +kernel
theorem dX9_copy_62 : decode cX9_copy 62 = .ok (.aload_n 0, 1) := by decide +kernel
theorem dX9_copy_63 : decode cX9_copy 63 = .ok (.invokevirtual 295, 3) := by decide +kernel
theorem dX9_copy_66 : decode cX9_copy 66 = .ok (.ireturn, 1) := by decide +kernel
theorem dX9_seed_0 : decode cX9_seed 0 = .ok (.aload_n 0, 1) := by decide +kernel
theorem dX9_seed_1 : decode cX9_seed 1 = .ok (.getfield 30, 3) := by decide +kernel
theorem dX9_seed_4 : decode cX9_seed 4 = .ok (.getfield 130, 3) := by decide +kernel
theorem dX9_seed_7 : decode cX9_seed 7 = .ok (.ifCond .ne 9, 3) := by decide +kernel
theorem dX9_seed_10 : decode cX9_seed 10 = .ok (.aload_n 0, 1) := by decide +kernel
theorem dX9_seed_11 : decode cX9_seed 11 = .ok (.iconst 1, 1) := by decide +kernel
theorem dX9_seed_12 : decode cX9_seed 12 = .ok (.invokevirtual 292, 3) := by decide +kernel
theorem dX9_seed_15 : decode cX9_seed 15 = .ok (.ireturn, 1) := by decide +kernel
theorem dX9_seed_16 : decode cX9_seed 16 = .ok (.iload_n 1, 1) := by decide +kernel
theorem dX9_seed_17 : decode cX9_seed 17 = .ok (.ifCond .lt 10, 3) := by decide +kernel
theorem dX9_seed_20 : decode cX9_seed 20 = .ok (.iload_n 1, 1) := by decide +kernel
theorem dX9_seed_21 : decode cX9_seed 21 = .ok (.ldc_w 298, 3) := by decide +kernel
theorem dX9_seed_24 : decode cX9_seed 24 = .ok (.if_icmp .lt 9, 3) := by decide +kernel
theorem dX9_seed_27 : decode cX9_seed 27 = .ok (.aload_n 0, 1) := by decide +kernel
theorem dX9_seed_28 : decode cX9_seed 28 = .ok (.iconst 2, 1) := by decide +kernel
theorem dX9_seed_29 : decode cX9_seed 29 = .ok (.invokevirtual 292, 3) := by decide +kernel
theorem dX9_seed_32 : decode cX9_seed 32 = .ok (.ireturn, 1) := by decide +kernel
theorem dX9_seed_33 : decode cX9_seed 33 = .ok (.aload_n 0, 1) := by decide +kernel
theorem dX9_seed_34 : decode cX9_seed 34 = .ok (.getfield 30, 3) := by decide +kernel
theorem dX9_seed_37 : decode cX9_seed 37 = .ok (.iload_n 1, 1) := by decide +kernel
theorem dX9_seed_38 : decode cX9_seed 38 = .ok (.putfield 299, 3) := by decide +kernel
theorem dX9_seed_41 : decode cX9_seed 41 = .ok (.aload_n 0, 1) := by decide +kernel
theorem dX9_seed_42 : decode cX9_seed 42 = .ok (.invokevirtual 295, 3) := by decide +kernel
theorem dX9_seed_45 : decode cX9_seed 45 = .ok (.ireturn, 1) := by decide +kernel
theorem dX9_undo_0 : decode cX9_undo 0 = .ok (.aload_n 0, 1) := by decide +kernel
theorem dX9_undo_1 : decode cX9_undo 1 = .ok (.getfield 43, 3) := by decide +kernel
theorem dX9_undo_4 : decode cX9_undo 4 = .ok (.getfield 302, 3) := by decide +kernel
theorem dX9_undo_7 : decode cX9_undo 7 = .ok (.ifCond .ne 10, 3) := by decide +kernel
theorem dX9_undo_10 : decode cX9_undo 10 = .ok (.aload_n 0, 1) := by decide +kernel
theorem dX9_undo_11 : decode cX9_undo 11 = .ok (.bipush 6, 2) := by decide +kernel
theorem dX9_undo_13 : decode cX9_undo 13 = .ok (.invokevirtual 292, 3) := by decide +kernel
theorem dX9_undo_16 : decode cX9_undo 16 = .ok (.ireturn, 1) := by decide +kernel
theorem dX9_undo_17 : decode cX9_undo 17 = .ok (.aload_n 0, 1) := by decide +kernel
theorem dX9_undo_18 : decode cX9_undo 18 = .ok (.getfield 43, 3) := by decide +kernel
theorem dX9_undo_21 : decode cX9_undo 21 = .ok (.aload_n 0, 1) := by decide +kernel
theorem dX9_undo_22 : decode cX9_undo 22 = .ok (.getfield 30, 3) := by decide +kernel
theorem dX9_undo_25 : decode cX9_undo 25 = .ok (.invokevirtual 305, 3) := by decide +kernel
theorem dX9_undo_28 : decode cX9_undo 28 = .ok (.aload_n 0, 1) := by decide +kernel
theorem dX9_undo_29 : decode cX9_undo 29 = .ok (.invokevirtual 295, 3) := by decide +kernel
theorem dX9_undo_32 : decode cX9_undo 32 = .ok (.ireturn, 1) := by decide +kernel
theorem dX9_keep_0 : decode cX9_keep 0 = .ok (.aload_n 0, 1) := by decide +kernel
theorem dX9_keep_1 : decode cX9_keep 1 = .ok (.getfield 30, 3) := by decide +kernel
theorem dX9_keep_4 : decode cX9_keep 4 = .ok (.getfield 130, 3) := by decide +kernel
theorem dX9_keep_7 : decode cX9_keep 7 = .ok (.ifCond .ne 9, 3) := by decide +kernel
theorem dX9_keep_10 : decode cX9_keep 10 = .ok (.aload_n 0, 1) := by decide +kernel
theorem dX9_keep_11 : decode cX9_keep 11 = .ok (.iconst 1, 1) := by decide +kernel
theorem dX9_keep_12 : decode cX9_keep 12 = .ok (.invokevirtual 98, 3) := by decide +kernel
theorem dX9_keep_15 : decode cX9_keep 15 = .ok (.ireturn, 1) := by decide +kernel
theorem dX9_keep_16 : decode cX9_keep 16 = .ok (.aload_n 0, 1) := by decide +kernel
theorem dX9_keep_17 : decode cX9_keep 17 = .ok (.getfield 43, 3) := by decide +kernel
theorem dX9_keep_20 : decode cX9_keep 20 = .ok (.getfield 308, 3) := by decide +kernel
theorem dX9_keep_23 : decode cX9_keep 23 = .ok (.iconst 3, 1) := by decide +kernel
theorem dX9_keep_24 : decode cX9_keep 24 = .ok (.if_icmp .lt 9, 3) := by decide +kernel
theorem dX9_keep_27 : decode cX9_keep 27 = .ok (.aload_n 0, 1) := by decide +kernel
theorem dX9_keep_28 : decode cX9_keep 28 = .ok (.iconst 3, 1) := by decide +kernel
theorem dX9_keep_29 : decode cX9_keep 29 = .ok (.invokevirtual 98, 3) := by decide +kernel
theorem dX9_keep_32 : decode cX9_keep 32 = .ok (.ireturn, 1) := by decide +kernel
theorem dX9_keep_33 : decode cX9_keep 33 = .ok (.aload_n 0, 1) := by decide +kernel
theorem dX9_keep_34 : decode cX9_keep 34 = .ok (.aload_n 0, 1) := by decide +kernel
theorem dX9_keep_35 : decode cX9_keep 35 = .ok (.getfield 43, 3) := by decide +kernel
theorem dX9_keep_38 : decode cX9_keep 38 = .ok (.aload_n 0, 1) := by decide +kernel
theorem dX9_keep_39 : decode cX9_keep 39 = .ok (.getfield 30, 3) := by decide +kernel
theorem dX9_keep_42 : decode cX9_keep 42 = .ok (.invokevirtual 311, 3) := by decide +kernel
theorem dX9_keep_45 : decode cX9_keep 45 = .ok (.invokevirtual 133, 3) := by decide +kernel
theorem dX9_keep_48 : decode cX9_keep 48 = .ok (.ireturn, 1) := by decide +kernel
theorem dX9_back_0 : decode cX9_back 0 = .ok (.iload_n 1, 1) := by decide +kernel
theorem dX9_back_1 : decode cX9_back 1 = .ok (.ifCond .lt 14, 3) := by decide +kernel
theorem dX9_back_4 : decode cX9_back 4 = .ok (.iload_n 1, 1) := by decide +kernel
theorem dX9_back_5 : decode cX9_back 5 = .ok (.aload_n 0, 1) := by decide +kernel
theorem dX9_back_6 : decode cX9_back 6 = .ok (.getfield 43, 3) := by decide +kernel
theorem dX9_back_9 : decode cX9_back 9 = .ok (.getfield 308, 3) := by decide +kernel
theorem dX9_back_12 : decode cX9_back 12 = .ok (.if_icmp .lt 9, 3) := by decide +kernel
theorem dX9_back_15 : decode cX9_back 15 = .ok (.aload_n 0, 1) := by decide +kernel
theorem dX9_back_16 : decode cX9_back 16 = .ok (.iconst 1, 1) := by decide +kernel
theorem dX9_back_17 : decode cX9_back 17 = .ok (.invokevirtual 292, 3) := by decide +kernel
theorem dX9_back_20 : decode cX9_back 20 = .ok (.ireturn, 1) := by decide +kernel
theorem dX9_back_21 : decode cX9_back 21 = .ok (.aload_n 0, 1) := by decide +kernel
theorem dX9_back_22 : decode cX9_back 22 = .ok (.getfield 30, 3) := by decide +kernel
theorem dX9_back_25 : decode cX9_back 25 = .ok (.aload_n 0, 1) := by decide +kernel
theorem dX9_back_26 : decode cX9_back 26 = .ok (.getfield 43, 3) := by decide +kernel
theorem dX9_back_29 : decode cX9_back 29 = .ok (.getfield 315, 3) := by decide +kernel
theorem dX9_back_32 : decode cX9_back 32 = .ok (.iload_n 1, 1) := by decide +kernel
theorem dX9_back_33 : decode cX9_back 33 = .ok (.aaload, 1) := by decide +kernel
theorem dX9_back_34 : decode cX9_back 34 = .ok (.invokevirtual 120, 3) := by decide +kernel
theorem dX9_back_37 : decode cX9_back 37 = .ok (.aload_n 0, 1) := by decide +kernel
theorem dX9_back_38 : decode cX9_back 38 = .ok (.getfield 43, 3) := by decide +kernel
theorem dX9_back_41 : decode cX9_back 41 = .ok (.iconst 0, 1) := by decide +kernel
theorem dX9_back_42 : decode cX9_back 42 = .ok (.putfield 302, 3) := by decide +kernel
theorem dX9_back_45 : decode cX9_back 45 = .ok (.aload_n 0, 1) := by decide +kernel
theorem dX9_back_46 : decode cX9_back 46 = .ok (.invokevirtual 295, 3) := by decide +kernel
theorem dX9_back_49 : decode cX9_back 49 = .ok (.ireturn, 1) := by decide +kernel
theorem dX9_led_0 : decode cX9_led 0 = .ok (.iconst 0, 1) := by decide +kernel
theorem dX9_led_1 : decode cX9_led 1 = .ok (.istore_n 2, 1) := by decide +kernel
theorem dX9_led_2 : decode cX9_led 2 = .ok (.iconst 0, 1) := by decide +kernel
theorem dX9_led_3 : decode cX9_led 3 = .ok (.istore_n 3, 1) := by decide +kernel
theorem dX9_led_4 : decode cX9_led 4 = .ok (.iload_n 3, 1) := by decide +kernel
theorem dX9_led_5 : decode cX9_led 5 = .ok (.aload_n 0, 1) := by decide +kernel
theorem dX9_led_6 : decode cX9_led 6 = .ok (.getfield 30, 3) := by decide +kernel
theorem dX9_led_9 : decode cX9_led 9 = .ok (.getfield 130, 3) := by decide +kernel
theorem dX9_led_12 : decode cX9_led 12 = .ok (.if_icmp .ge 27, 3) := by decide +kernel
theorem dX9_led_15 : decode cX9_led 15 = .ok (.aload_n 0, 1) := by decide +kernel
theorem dX9_led_16 : decode cX9_led 16 = .ok (.iload_n 3, 1) := by decide +kernel
theorem dX9_led_17 : decode cX9_led 17 = .ok (.invokevirtual 319, 3) := by decide +kernel
theorem dX9_led_20 : decode cX9_led 20 = .ok (.ifCond .eq 13, 3) := by decide +kernel
theorem dX9_led_23 : decode cX9_led 23 = .ok (.iload_n 2, 1) := by decide +kernel
theorem dX9_led_24 : decode cX9_led 24 = .ok (.iload_n 1, 1) := by decide +kernel
theorem dX9_led_25 : decode cX9_led 25 = .ok (.if_icmp .ne 5, 3) := by decide +kernel
theorem dX9_led_28 : decode cX9_led 28 = .ok (.iload_n 3, 1) := by decide +kernel
theorem dX9_led_29 : decode cX9_led 29 = .ok (.ireturn, 1) := by decide +kernel
theorem dX9_led_30 : decode cX9_led 30 = .ok (.iinc 2 1, 3) := by decide +kernel
theorem dX9_led_33 : decode cX9_led 33 = .ok (.iinc 3 1, 3) := by decide +kernel
theorem dX9_led_36 : decode cX9_led 36 = .ok (.goto (-32), 3) := by decide +kernel
theorem dX9_led_39 : decode cX9_led 39 = .ok (.new 322, 3) := by decide +kernel
theorem dX9_led_42 : decode cX9_led 42 = .ok (.dup, 1) := by decide +kernel
theorem dX9_led_43 : decode cX9_led 43 = .ok (.invokespecial 324, 3) := by decide +kernel
theorem dX9_led_46 : decode cX9_led 46 = .ok (.athrow, 1) := by decide +kernel
theorem dX9_isLed_0 : decode cX9_isLed 0 = .ok (.bipush 36, 2) := by decide +kernel
theorem dX9_isLed_2 : decode cX9_isLed 2 = .ok (.iload_n 1, 1) := by decide +kernel
theorem dX9_isLed_3 : decode cX9_isLed 3 = .ok (.imul, 1) := by decide +kernel
theorem dX9_isLed_4 : decode cX9_isLed 4 = .ok (.istore_n 2, 1) := by decide +kernel
theorem dX9_isLed_5 : decode cX9_isLed 5 = .ok (.iload_n 2, 1) := by decide +kernel
theorem dX9_isLed_6 : decode cX9_isLed 6 = .ok (.bipush 36, 2) := by decide +kernel
theorem dX9_isLed_8 : decode cX9_isLed 8 = .ok (.iload_n 1, 1) := by decide +kernel
theorem dX9_isLed_9 : decode cX9_isLed 9 = .ok (.iconst 1, 1) := by decide +kernel
theorem dX9_isLed_10 : decode cX9_isLed 10 = .ok (.iadd, 1) := by decide +kernel
theorem dX9_isLed_11 : decode cX9_isLed 11 = .ok (.imul, 1) := by decide +kernel
theorem dX9_isLed_12 : decode cX9_isLed 12 = .ok (.if_icmp .ge 35, 3) := by decide +kernel
theorem dX9_isLed_15 : decode cX9_isLed 15 = .ok (.aload_n 0, 1) := by decide +kernel
theorem dX9_isLed_16 : decode cX9_isLed 16 = .ok (.getfield 30, 3) := by decide +kernel
theorem dX9_isLed_19 : decode cX9_isLed 19 = .ok (.getfield 149, 3) := by decide +kernel
theorem dX9_isLed_22 : decode cX9_isLed 22 = .ok (.iload_n 2, 1) := by decide +kernel
theorem dX9_isLed_23 : decode cX9_isLed 23 = .ok (.iaload, 1) := by decide +kernel
theorem dX9_isLed_24 : decode cX9_isLed 24 = .ok (.aload_n 0, 1) := by decide +kernel
theorem dX9_isLed_25 : decode cX9_isLed 25 = .ok (.getfield 20, 3) := by decide +kernel
theorem dX9_isLed_28 : decode cX9_isLed 28 = .ok (.getfield 117, 3) := by decide +kernel
theorem dX9_isLed_31 : decode cX9_isLed 31 = .ok (.getfield 149, 3) := by decide +kernel
theorem dX9_isLed_34 : decode cX9_isLed 34 = .ok (.iload_n 2, 1) := by decide +kernel
theorem dX9_isLed_35 : decode cX9_isLed 35 = .ok (.iaload, 1) := by decide +kernel
theorem dX9_isLed_36 : decode cX9_isLed 36 = .ok (.if_icmp .eq 5, 3) := by decide +kernel
theorem dX9_isLed_39 : decode cX9_isLed 39 = .ok (.iconst 1, 1) := by decide +kernel
theorem dX9_isLed_40 : decode cX9_isLed 40 = .ok (.ireturn, 1) := by decide +kernel
theorem dX9_isLed_41 : decode cX9_isLed 41 = .ok (.iinc 2 1, 3) := by decide +kernel
theorem dX9_isLed_44 : decode cX9_isLed 44 = .ok (.goto (-39), 3) := by decide +kernel
theorem dX9_isLed_47 : decode cX9_isLed 47 = .ok (.iconst 0, 1) := by decide +kernel
theorem dX9_isLed_48 : decode cX9_isLed 48 = .ok (.ireturn, 1) := by decide +kernel
theorem dX9_size_0 : decode cX9_size 0 = .ok (.iload_n 1, 1) := by decide +kernel
theorem dX9_size_1 : decode cX9_size 1 = .ok (.tableswitch 156 0 11 #[63, 71, 79, 87, 95, 103, 111, 119, 127, 135, 143, 151], 63) := by decide +kernel
theorem dX9_size_64 : decode cX9_size 64 = .ok (.aload_n 0, 1) := by decide +kernel
theorem dX9_size_65 : decode cX9_size 65 = .ok (.getfield 30, 3) := by decide +kernel
theorem dX9_size_68 : decode cX9_size 68 = .ok (.getfield 325, 3) := by decide +kernel
theorem dX9_size_71 : decode cX9_size 71 = .ok (.ireturn, 1) := by decide +kernel
theorem dX9_size_72 : decode cX9_size 72 = .ok (.aload_n 0, 1) := by decide +kernel
theorem dX9_size_73 : decode cX9_size 73 = .ok (.getfield 30, 3) := by decide +kernel
theorem dX9_size_76 : decode cX9_size 76 = .ok (.getfield 328, 3) := by decide +kernel
theorem dX9_size_79 : decode cX9_size 79 = .ok (.ireturn, 1) := by decide +kernel
theorem dX9_size_80 : decode cX9_size 80 = .ok (.aload_n 0, 1) := by decide +kernel
theorem dX9_size_81 : decode cX9_size 81 = .ok (.getfield 20, 3) := by decide +kernel
theorem dX9_size_84 : decode cX9_size 84 = .ok (.getfield 331, 3) := by decide +kernel
theorem dX9_size_87 : decode cX9_size 87 = .ok (.ireturn, 1) := by decide +kernel
theorem dX9_size_88 : decode cX9_size 88 = .ok (.aload_n 0, 1) := by decide +kernel
theorem dX9_size_89 : decode cX9_size 89 = .ok (.getfield 30, 3) := by decide +kernel
theorem dX9_size_92 : decode cX9_size 92 = .ok (.getfield 130, 3) := by decide +kernel
theorem dX9_size_95 : decode cX9_size 95 = .ok (.ireturn, 1) := by decide +kernel
theorem dX9_size_96 : decode cX9_size 96 = .ok (.aload_n 0, 1) := by decide +kernel
theorem dX9_size_97 : decode cX9_size 97 = .ok (.getfield 30, 3) := by decide +kernel
theorem dX9_size_100 : decode cX9_size 100 = .ok (.invokevirtual 334, 3) := by decide +kernel
theorem dX9_size_103 : decode cX9_size 103 = .ok (.ireturn, 1) := by decide +kernel
theorem dX9_size_104 : decode cX9_size 104 = .ok (.aload_n 0, 1) := by decide +kernel
theorem dX9_size_105 : decode cX9_size 105 = .ok (.getfield 20, 3) := by decide +kernel
theorem dX9_size_108 : decode cX9_size 108 = .ok (.getfield 283, 3) := by decide +kernel
theorem dX9_size_111 : decode cX9_size 111 = .ok (.ireturn, 1) := by decide +kernel
theorem dX9_size_112 : decode cX9_size 112 = .ok (.aload_n 0, 1) := by decide +kernel
theorem dX9_size_113 : decode cX9_size 113 = .ok (.getfield 20, 3) := by decide +kernel
theorem dX9_size_116 : decode cX9_size 116 = .ok (.getfield 337, 3) := by decide +kernel
theorem dX9_size_119 : decode cX9_size 119 = .ok (.ireturn, 1) := by decide +kernel
theorem dX9_size_120 : decode cX9_size 120 = .ok (.aload_n 0, 1) := by decide +kernel
theorem dX9_size_121 : decode cX9_size 121 = .ok (.getfield 30, 3) := by decide +kernel
theorem dX9_size_124 : decode cX9_size 124 = .ok (.getfield 289, 3) := by decide +kernel
theorem dX9_size_127 : decode cX9_size 127 = .ok (.ireturn, 1) := by decide +kernel
theorem dX9_size_128 : decode cX9_size 128 = .ok (.aload_n 0, 1) := by decide +kernel
theorem dX9_size_129 : decode cX9_size 129 = .ok (.getfield 30, 3) := by decide +kernel
theorem dX9_size_132 : decode cX9_size 132 = .ok (.getfield 299, 3) := by decide +kernel
theorem dX9_size_135 : decode cX9_size 135 = .ok (.ireturn, 1) := by decide +kernel
theorem dX9_size_136 : decode cX9_size 136 = .ok (.aload_n 0, 1) := by decide +kernel
theorem dX9_size_137 : decode cX9_size 137 = .ok (.getfield 43, 3) := by decide +kernel
theorem dX9_size_140 : decode cX9_size 140 = .ok (.getfield 302, 3) := by decide +kernel
theorem dX9_size_143 : decode cX9_size 143 = .ok (.ireturn, 1) := by decide +kernel
theorem dX9_size_144 : decode cX9_size 144 = .ok (.aload_n 0, 1) := by decide +kernel
theorem dX9_size_145 : decode cX9_size 145 = .ok (.getfield 43, 3) := by decide +kernel
theorem dX9_size_148 : decode cX9_size 148 = .ok (.getfield 308, 3) := by decide +kernel
theorem dX9_size_151 : decode cX9_size 151 = .ok (.ireturn, 1) := by decide +kernel
theorem dX9_size_152 : decode cX9_size 152 = .ok (.aload_n 0, 1) := by decide +kernel
theorem dX9_size_153 : decode cX9_size 153 = .ok (.getfield 13, 3) := by decide +kernel
theorem dX9_size_156 : decode cX9_size 156 = .ok (.ireturn, 1) := by decide +kernel
theorem dX9_size_157 : decode cX9_size 157 = .ok (.iconst (-1), 1) := by decide +kernel
theorem dX9_size_158 : decode cX9_size 158 = .ok (.ireturn, 1) := by decide +kernel
theorem dX9_trouble_0 : decode cX9_trouble 0 = .ok (.aload_n 0, 1) := by decide +kernel
theorem dX9_trouble_1 : decode cX9_trouble 1 = .ok (.getfield 85, 3) := by decide +kernel
theorem dX9_trouble_4 : decode cX9_trouble 4 = .ok (.ireturn, 1) := by decide +kernel
theorem dX9_refused_0 : decode cX9_refused 0 = .ok (.aload_n 0, 1) := by decide +kernel
theorem dX9_refused_1 : decode cX9_refused 1 = .ok (.iload_n 1, 1) := by decide +kernel
theorem dX9_refused_2 : decode cX9_refused 2 = .ok (.putfield 85, 3) := by decide +kernel
theorem dX9_refused_5 : decode cX9_refused 5 = .ok (.iconst (-1), 1) := by decide +kernel
theorem dX9_refused_6 : decode cX9_refused 6 = .ok (.ireturn, 1) := by decide +kernel
theorem dX9_answered_0 : decode cX9_answered 0 = .ok (.aload_n 0, 1) := by decide +kernel
theorem dX9_answered_1 : decode cX9_answered 1 = .ok (.iconst 0, 1) := by decide +kernel
theorem dX9_answered_2 : decode cX9_answered 2 = .ok (.putfield 85, 3) := by decide +kernel
theorem dX9_answered_5 : decode cX9_answered 5 = .ok (.iload_n 1, 1) := by decide +kernel
theorem dX9_answered_6 : decode cX9_answered 6 = .ok (.ireturn, 1) := by decide +kernel
theorem dX9_denied_0 : decode cX9_denied 0 = .ok (.aload_n 0, 1) := by decide +kernel
theorem dX9_denied_1 : decode cX9_denied 1 = .ok (.iload_n 1, 1) := by decide +kernel
theorem dX9_denied_2 : decode cX9_denied 2 = .ok (.putfield 85, 3) := by decide +kernel
theorem dX9_denied_5 : decode cX9_denied 5 = .ok (.iconst 0, 1) := by decide +kernel
theorem dX9_denied_6 : decode cX9_denied 6 = .ok (.ireturn, 1) := by decide +kernel
theorem dX9_granted_0 : decode cX9_granted 0 = .ok (.aload_n 0, 1) := by decide +kernel
theorem dX9_granted_1 : decode cX9_granted 1 = .ok (.iconst 0, 1) := by decide +kernel
theorem dX9_granted_2 : decode cX9_granted 2 = .ok (.putfield 85, 3) := by decide +kernel
theorem dX9_granted_5 : decode cX9_granted 5 = .ok (.iconst 1, 1) := by decide +kernel
theorem dX9_granted_6 : decode cX9_granted 6 = .ok (.ireturn, 1) := by decide +kernel
theorem dX9_isTown_0 : decode cX9_isTown 0 = .ok (.iload_n 1, 1) := by decide +kernel
theorem dX9_isTown_1 : decode cX9_isTown 1 = .ok (.ifCond .lt 18, 3) := by decide +kernel
theorem dX9_isTown_4 : decode cX9_isTown 4 = .ok (.iload_n 1, 1) := by decide +kernel
theorem dX9_isTown_5 : decode cX9_isTown 5 = .ok (.aload_n 0, 1) := by decide +kernel
theorem dX9_isTown_6 : decode cX9_isTown 6 = .ok (.getfield 30, 3) := by decide +kernel
theorem dX9_isTown_9 : decode cX9_isTown 9 = .ok (.getfield 130, 3) := by decide +kernel
theorem dX9_isTown_12 : decode cX9_isTown 12 = .ok (.if_icmp .ge 7, 3) := by decide +kernel
theorem dX9_isTown_15 : decode cX9_isTown 15 = .ok (.iconst 1, 1) := by decide +kernel
theorem dX9_isTown_16 : decode cX9_isTown 16 = .ok (.goto 4, 3) := by decide +kernel
theorem dX9_isTown_19 : decode cX9_isTown 19 = .ok (.iconst 0, 1) := by decide +kernel
theorem dX9_isTown_20 : decode cX9_isTown 20 = .ok (.ireturn, 1) := by decide +kernel
theorem dX9_isMark_0 : decode cX9_isMark 0 = .ok (.iload_n 1, 1) := by decide +kernel
theorem dX9_isMark_1 : decode cX9_isMark 1 = .ok (.ifCond .lt 18, 3) := by decide +kernel
theorem dX9_isMark_4 : decode cX9_isMark 4 = .ok (.iload_n 1, 1) := by decide +kernel
theorem dX9_isMark_5 : decode cX9_isMark 5 = .ok (.aload_n 0, 1) := by decide +kernel
theorem dX9_isMark_6 : decode cX9_isMark 6 = .ok (.getfield 20, 3) := by decide +kernel
theorem dX9_isMark_9 : decode cX9_isMark 9 = .ok (.getfield 331, 3) := by decide +kernel
theorem dX9_isMark_12 : decode cX9_isMark 12 = .ok (.if_icmp .ge 7, 3) := by decide +kernel
theorem dX9_isMark_15 : decode cX9_isMark 15 = .ok (.iconst 1, 1) := by decide +kernel
theorem dX9_isMark_16 : decode cX9_isMark 16 = .ok (.goto 4, 3) := by decide +kernel
theorem dX9_isMark_19 : decode cX9_isMark 19 = .ok (.iconst 0, 1) := by decide +kernel
theorem dX9_isMark_20 : decode cX9_isMark 20 = .ok (.ireturn, 1) := by decide +kernel
theorem dX9_isPlace_0 : decode cX9_isPlace 0 = .ok (.iload_n 1, 1) := by decide +kernel
theorem dX9_isPlace_1 : decode cX9_isPlace 1 = .ok (.ifCond .lt 35, 3) := by decide +kernel
theorem dX9_isPlace_4 : decode cX9_isPlace 4 = .ok (.iload_n 1, 1) := by decide +kernel
theorem dX9_isPlace_5 : decode cX9_isPlace 5 = .ok (.bipush 10, 2) := by decide +kernel
theorem dX9_isPlace_7 : decode cX9_isPlace 7 = .ok (.idiv, 1) := by decide +kernel
theorem dX9_isPlace_8 : decode cX9_isPlace 8 = .ok (.aload_n 0, 1) := by decide +kernel
theorem dX9_isPlace_9 : decode cX9_isPlace 9 = .ok (.getfield 30, 3) := by decide +kernel
theorem dX9_isPlace_12 : decode cX9_isPlace 12 = .ok (.getfield 325, 3) := by decide +kernel
theorem dX9_isPlace_15 : decode cX9_isPlace 15 = .ok (.if_icmp .ge 21, 3) := by decide +kernel
theorem dX9_isPlace_18 : decode cX9_isPlace 18 = .ok (.iload_n 1, 1) := by decide +kernel
theorem dX9_isPlace_19 : decode cX9_isPlace 19 = .ok (.bipush 10, 2) := by decide +kernel
theorem dX9_isPlace_21 : decode cX9_isPlace 21 = .ok (.irem, 1) := by decide +kernel
theorem dX9_isPlace_22 : decode cX9_isPlace 22 = .ok (.aload_n 0, 1) := by decide +kernel
theorem dX9_isPlace_23 : decode cX9_isPlace 23 = .ok (.getfield 30, 3) := by decide +kernel
theorem dX9_isPlace_26 : decode cX9_isPlace 26 = .ok (.getfield 328, 3) := by decide +kernel
theorem dX9_isPlace_29 : decode cX9_isPlace 29 = .ok (.if_icmp .ge 7, 3) := by decide +kernel
theorem dX9_isPlace_32 : decode cX9_isPlace 32 = .ok (.iconst 1, 1) := by decide +kernel
theorem dX9_isPlace_33 : decode cX9_isPlace 33 = .ok (.goto 4, 3) := by decide +kernel
theorem dX9_isPlace_36 : decode cX9_isPlace 36 = .ok (.iconst 0, 1) := by decide +kernel
theorem dX9_isPlace_37 : decode cX9_isPlace 37 = .ok (.ireturn, 1) := by decide +kernel
theorem dX9_isBehind_0 : decode cX9_isBehind 0 = .ok (.iload_n 0, 1) := by decide +kernel
theorem dX9_isBehind_1 : decode cX9_isBehind 1 = .ok (.ifCond .lt 12, 3) := by decide +kernel
theorem dX9_isBehind_4 : decode cX9_isBehind 4 = .ok (.iload_n 0, 1) := by decide +kernel
theorem dX9_isBehind_5 : decode cX9_isBehind 5 = .ok (.iload_n 1, 1) := by decide +kernel
theorem dX9_isBehind_6 : decode cX9_isBehind 6 = .ok (.if_icmp .gt 7, 3) := by decide +kernel
theorem dX9_isBehind_9 : decode cX9_isBehind 9 = .ok (.iconst 1, 1) := by decide +kernel
theorem dX9_isBehind_10 : decode cX9_isBehind 10 = .ok (.goto 4, 3) := by decide +kernel
theorem dX9_isBehind_13 : decode cX9_isBehind 13 = .ok (.iconst 0, 1) := by decide +kernel
theorem dX9_isBehind_14 : decode cX9_isBehind 14 = .ok (.ireturn, 1) := by decide +kernel
theorem dX9_inner_0 : decode cX9_inner 0 = .ok (.bipush 6, 2) := by decide +kernel
theorem dX9_inner_2 : decode cX9_inner 2 = .ok (.iload_n 0, 1) := by decide +kernel
theorem dX9_inner_3 : decode cX9_inner 3 = .ok (.bipush 10, 2) := by decide +kernel
theorem dX9_inner_5 : decode cX9_inner 5 = .ok (.irem, 1) := by decide +kernel
theorem dX9_inner_6 : decode cX9_inner 6 = .ok (.imul, 1) := by decide +kernel
theorem dX9_inner_7 : decode cX9_inner 7 = .ok (.iload_n 0, 1) := by decide +kernel
theorem dX9_inner_8 : decode cX9_inner 8 = .ok (.bipush 10, 2) := by decide +kernel
theorem dX9_inner_10 : decode cX9_inner 10 = .ok (.idiv, 1) := by decide +kernel
theorem dX9_inner_11 : decode cX9_inner 11 = .ok (.iadd, 1) := by decide +kernel
theorem dX9_inner_12 : decode cX9_inner 12 = .ok (.ireturn, 1) := by decide +kernel
theorem dX9_outer_0 : decode cX9_outer 0 = .ok (.bipush 10, 2) := by decide +kernel
theorem dX9_outer_2 : decode cX9_outer 2 = .ok (.iload_n 0, 1) := by decide +kernel
theorem dX9_outer_3 : decode cX9_outer 3 = .ok (.bipush 6, 2) := by decide +kernel
theorem dX9_outer_5 : decode cX9_outer 5 = .ok (.irem, 1) := by decide +kernel
theorem dX9_outer_6 : decode cX9_outer 6 = .ok (.imul, 1) := by decide +kernel
theorem dX9_outer_7 : decode cX9_outer 7 = .ok (.iload_n 0, 1) := by decide +kernel
theorem dX9_outer_8 : decode cX9_outer 8 = .ok (.bipush 6, 2) := by decide +kernel
theorem dX9_outer_10 : decode cX9_outer 10 = .ok (.idiv, 1) := by decide +kernel
theorem dX9_outer_11 : decode cX9_outer 11 = .ok (.iadd, 1) := by decide +kernel
theorem dX9_outer_12 : decode cX9_outer 12 = .ok (.ireturn, 1) := by decide +kernel
theorem dX10_init_0 : decode cX10_init 0 = .ok (.aload_n 0, 1) := by decide +kernel
theorem dX10_init_1 : decode cX10_init 1 = .ok (.invokespecial 3, 3) := by decide +kernel
theorem dX10_init_4 : decode cX10_init 4 = .ok (.aload_n 0, 1) := by decide +kernel
theorem dX10_init_5 : decode cX10_init 5 = .ok (.sipush 216, 3) := by decide +kernel
theorem dX10_init_8 : decode cX10_init 8 = .ok (.newarray .int, 2) := by decide +kernel
theorem dX10_init_10 : decode cX10_init 10 = .ok (.putfield 9, 3) := by decide +kernel
theorem dX10_init_13 : decode cX10_init 13 = .ok (.aload_n 0, 1) := by decide +kernel
theorem dX10_init_14 : decode cX10_init 14 = .ok (.bipush 6, 2) := by decide +kernel
theorem dX10_init_16 : decode cX10_init 16 = .ok (.newarray .int, 2) := by decide +kernel
theorem dX10_init_18 : decode cX10_init 18 = .ok (.putfield 15, 3) := by decide +kernel
theorem dX10_init_21 : decode cX10_init 21 = .ok (.aload_n 0, 1) := by decide +kernel
theorem dX10_init_22 : decode cX10_init 22 = .ok (.bipush 24, 2) := by decide +kernel
theorem dX10_init_24 : decode cX10_init 24 = .ok (.newarray .int, 2) := by decide +kernel
theorem dX10_init_26 : decode cX10_init 26 = .ok (.putfield 18, 3) := by decide +kernel
theorem dX10_init_29 : decode cX10_init 29 = .ok (.aload_n 0, 1) := by decide +kernel
theorem dX10_init_30 : decode cX10_init 30 = .ok (.bipush 20, 2) := by decide +kernel
theorem dX10_init_32 : decode cX10_init 32 = .ok (.newarray .int, 2) := by decide +kernel
theorem dX10_init_34 : decode cX10_init 34 = .ok (.putfield 21, 3) := by decide +kernel
theorem dX10_init_37 : decode cX10_init 37 = .ok (.aload_n 0, 1) := by decide +kernel
theorem dX10_init_38 : decode cX10_init 38 = .ok (.bipush 8, 2) := by decide +kernel
theorem dX10_init_40 : decode cX10_init 40 = .ok (.newarray .int, 2) := by decide +kernel
theorem dX10_init_42 : decode cX10_init 42 = .ok (.putfield 24, 3) := by decide +kernel
theorem dX10_init_45 : decode cX10_init 45 = .ok (.aload_n 0, 1) := by decide +kernel
theorem dX10_init_46 : decode cX10_init 46 = .ok (.bipush 8, 2) := by decide +kernel
theorem dX10_init_48 : decode cX10_init 48 = .ok (.newarray .int, 2) := by decide +kernel
theorem dX10_init_50 : decode cX10_init 50 = .ok (.putfield 27, 3) := by decide +kernel
theorem dX10_init_53 : decode cX10_init 53 = .ok (.aload_n 0, 1) := by decide +kernel
theorem dX10_init_54 : decode cX10_init 54 = .ok (.bipush 8, 2) := by decide +kernel
theorem dX10_init_56 : decode cX10_init 56 = .ok (.newarray .int, 2) := by decide +kernel
theorem dX10_init_58 : decode cX10_init 58 = .ok (.putfield 30, 3) := by decide +kernel
theorem dX10_init_61 : decode cX10_init 61 = .ok (.aload_n 0, 1) := by decide +kernel
theorem dX10_init_62 : decode cX10_init 62 = .ok (.bipush 8, 2) := by decide +kernel
theorem dX10_init_64 : decode cX10_init 64 = .ok (.newarray .int, 2) := by decide +kernel
theorem dX10_init_66 : decode cX10_init 66 = .ok (.putfield 33, 3) := by decide +kernel
theorem dX10_init_69 : decode cX10_init 69 = .ok (.aload_n 0, 1) := by decide +kernel
theorem dX10_init_70 : decode cX10_init 70 = .ok (.bipush 6, 2) := by decide +kernel
theorem dX10_init_72 : decode cX10_init 72 = .ok (.newarray .long, 2) := by decide +kernel
theorem dX10_init_74 : decode cX10_init 74 = .ok (.putfield 36, 3) := by decide +kernel
theorem dX10_init_77 : decode cX10_init 77 = .ok (.return_, 1) := by decide +kernel
theorem dX10_find_0 : decode cX10_find 0 = .ok (.iconst 0, 1) := by decide +kernel
theorem dX10_find_1 : decode cX10_find 1 = .ok (.istore_n 3, 1) := by decide +kernel
theorem dX10_find_2 : decode cX10_find 2 = .ok (.iload_n 3, 1) := by decide +kernel
theorem dX10_find_3 : decode cX10_find 3 = .ok (.aload_n 0, 1) := by decide +kernel
theorem dX10_find_4 : decode cX10_find 4 = .ok (.getfield 40, 3) := by decide +kernel
theorem dX10_find_7 : decode cX10_find 7 = .ok (.if_icmp .ge 22, 3) := by decide +kernel
theorem dX10_find_10 : decode cX10_find 10 = .ok (.aload_n 0, 1) := by decide +kernel
theorem dX10_find_11 : decode cX10_find 11 = .ok (.getfield 36, 3) := by decide +kernel
theorem dX10_find_14 : decode cX10_find 14 = .ok (.iload_n 3, 1) := by decide +kernel
theorem dX10_find_15 : decode cX10_find 15 = .ok (.laload, 1) := by decide +kernel
theorem dX10_find_16 : decode cX10_find 16 = .ok (.lload_n 1, 1) := by decide +kernel
theorem dX10_find_17 : decode cX10_find 17 = .ok (.lcmp, 1) := by decide +kernel
theorem dX10_find_18 : decode cX10_find 18 = .ok (.ifCond .ne 5, 3) := by decide +kernel
theorem dX10_find_21 : decode cX10_find 21 = .ok (.iload_n 3, 1) := by decide +kernel
theorem dX10_find_22 : decode cX10_find 22 = .ok (.ireturn, 1) := by decide +kernel
theorem dX10_find_23 : decode cX10_find 23 = .ok (.iinc 3 1, 3) := by decide +kernel
theorem dX10_find_26 : decode cX10_find 26 = .ok (.goto (-24), 3) := by decide +kernel
theorem dX10_find_29 : decode cX10_find 29 = .ok (.iconst (-1), 1) := by decide +kernel
theorem dX10_find_30 : decode cX10_find 30 = .ok (.ireturn, 1) := by decide +kernel
theorem dX10_all_0 : decode cX10_all 0 = .ok (.aload_n 0, 1) := by decide +kernel
theorem dX10_all_1 : decode cX10_all 1 = .ok (.getfield 44, 3) := by decide +kernel
theorem dX10_all_4 : decode cX10_all 4 = .ok (.aload_n 0, 1) := by decide +kernel
theorem dX10_all_5 : decode cX10_all 5 = .ok (.getfield 47, 3) := by decide +kernel
theorem dX10_all_8 : decode cX10_all 8 = .ok (.imul, 1) := by decide +kernel
theorem dX10_all_9 : decode cX10_all 9 = .ok (.ireturn, 1) := by decide +kernel
theorem dX11_init_0 : decode cX11_init 0 = .ok (.aload_n 0, 1) := by decide +kernel
theorem dX11_init_1 : decode cX11_init 1 = .ok (.invokespecial 3, 3) := by decide +kernel
theorem dX11_init_4 : decode cX11_init 4 = .ok (.aload_n 0, 1) := by decide +kernel
theorem dX11_init_5 : decode cX11_init 5 = .ok (.iconst (-1), 1) := by decide +kernel
theorem dX11_init_6 : decode cX11_init 6 = .ok (.putfield 9, 3) := by decide +kernel
theorem dX11_init_9 : decode cX11_init 9 = .ok (.aload_n 0, 1) := by decide +kernel
theorem dX11_init_10 : decode cX11_init 10 = .ok (.sipush 900, 3) := by decide +kernel
theorem dX11_init_13 : decode cX11_init 13 = .ok (.newarray .byte, 2) := by decide +kernel
theorem dX11_init_15 : decode cX11_init 15 = .ok (.putfield 13, 3) := by decide +kernel
theorem dX11_init_18 : decode cX11_init 18 = .ok (.aload_n 0, 1) := by decide +kernel
theorem dX11_init_19 : decode cX11_init 19 = .ok (.sipush 248, 3) := by decide +kernel
theorem dX11_init_22 : decode cX11_init 22 = .ok (.newarray .int, 2) := by decide +kernel
theorem dX11_init_24 : decode cX11_init 24 = .ok (.putfield 17, 3) := by decide +kernel
theorem dX11_init_27 : decode cX11_init 27 = .ok (.aload_n 0, 1) := by decide +kernel
theorem dX11_init_28 : decode cX11_init 28 = .ok (.sipush 2976, 3) := by decide +kernel
theorem dX11_init_31 : decode cX11_init 31 = .ok (.newarray .int, 2) := by decide +kernel
theorem dX11_init_33 : decode cX11_init 33 = .ok (.putfield 21, 3) := by decide +kernel
theorem dX11_init_36 : decode cX11_init 36 = .ok (.aload_n 0, 1) := by decide +kernel
theorem dX11_init_37 : decode cX11_init 37 = .ok (.sipush 744, 3) := by decide +kernel
theorem dX11_init_40 : decode cX11_init 40 = .ok (.newarray .int, 2) := by decide +kernel
theorem dX11_init_42 : decode cX11_init 42 = .ok (.putfield 24, 3) := by decide +kernel
theorem dX11_init_45 : decode cX11_init 45 = .ok (.aload_n 0, 1) := by decide +kernel
theorem dX11_init_46 : decode cX11_init 46 = .ok (.ldc 27, 2) := by decide +kernel
theorem dX11_init_48 : decode cX11_init 48 = .ok (.newarray .int, 2) := by decide +kernel
theorem dX11_init_50 : decode cX11_init 50 = .ok (.putfield 28, 3) := by decide +kernel
theorem dX11_init_53 : decode cX11_init 53 = .ok (.aload_n 0, 1) := by decide +kernel
theorem dX11_init_54 : decode cX11_init 54 = .ok (.bipush 6, 2) := by decide +kernel
theorem dX11_init_56 : decode cX11_init 56 = .ok (.newarray .int, 2) := by decide +kernel
theorem dX11_init_58 : decode cX11_init 58 = .ok (.putfield 31, 3) := by decide +kernel
theorem dX11_init_61 : decode cX11_init 61 = .ok (.aload_n 0, 1) := by decide +kernel
theorem dX11_init_62 : decode cX11_init 62 = .ok (.bipush 24, 2) := by decide +kernel
theorem dX11_init_64 : decode cX11_init 64 = .ok (.newarray .int, 2) := by decide +kernel
theorem dX11_init_66 : decode cX11_init 66 = .ok (.putfield 34, 3) := by decide +kernel
theorem dX11_init_69 : decode cX11_init 69 = .ok (.aload_n 0, 1) := by decide +kernel
theorem dX11_init_70 : decode cX11_init 70 = .ok (.sipush 2406, 3) := by decide +kernel
theorem dX11_init_73 : decode cX11_init 73 = .ok (.newarray .int, 2) := by decide +kernel
theorem dX11_init_75 : decode cX11_init 75 = .ok (.putfield 37, 3) := by decide +kernel
theorem dX11_init_78 : decode cX11_init 78 = .ok (.aload_n 0, 1) := by decide +kernel
theorem dX11_init_79 : decode cX11_init 79 = .ok (.bipush 36, 2) := by decide +kernel
theorem dX11_init_81 : decode cX11_init 81 = .ok (.newarray .boolean, 2) := by decide +kernel
theorem dX11_init_83 : decode cX11_init 83 = .ok (.putfield 40, 3) := by decide +kernel
theorem dX11_init_86 : decode cX11_init 86 = .ok (.aload_n 0, 1) := by decide +kernel
theorem dX11_init_87 : decode cX11_init 87 = .ok (.bipush 36, 2) := by decide +kernel
theorem dX11_init_89 : decode cX11_init 89 = .ok (.newarray .int, 2) := by decide +kernel
theorem dX11_init_91 : decode cX11_init 91 = .ok (.putfield 44, 3) := by decide +kernel
theorem dX11_init_94 : decode cX11_init 94 = .ok (.aload_n 0, 1) := by decide +kernel
theorem dX11_init_95 : decode cX11_init 95 = .ok (.sipush 401, 3) := by decide +kernel
theorem dX11_init_98 : decode cX11_init 98 = .ok (.newarray .long, 2) := by decide +kernel
theorem dX11_init_100 : decode cX11_init 100 = .ok (.putfield 47, 3) := by decide +kernel
theorem dX11_init_103 : decode cX11_init 103 = .ok (.aload_n 0, 1) := by decide +kernel
theorem dX11_init_104 : decode cX11_init 104 = .ok (.bipush 36, 2) := by decide +kernel
theorem dX11_init_106 : decode cX11_init 106 = .ok (.newarray .int, 2) := by decide +kernel
theorem dX11_init_108 : decode cX11_init 108 = .ok (.putfield 51, 3) := by decide +kernel
theorem dX11_init_111 : decode cX11_init 111 = .ok (.aload_n 0, 1) := by decide +kernel
theorem dX11_init_112 : decode cX11_init 112 = .ok (.iconst 3, 1) := by decide +kernel
theorem dX11_init_113 : decode cX11_init 113 = .ok (.newarray .int, 2) := by decide +kernel
theorem dX11_init_115 : decode cX11_init 115 = .ok (.putfield 54, 3) := by decide +kernel
theorem dX11_init_118 : decode cX11_init 118 = .ok (.aload_n 0, 1) := by decide +kernel
theorem dX11_init_119 : decode cX11_init 119 = .ok (.iconst 3, 1) := by decide +kernel
theorem dX11_init_120 : decode cX11_init 120 = .ok (.newarray .int, 2) := by decide +kernel
theorem dX11_init_122 : decode cX11_init 122 = .ok (.putfield 57, 3) := by decide +kernel
theorem dX11_init_125 : decode cX11_init 125 = .ok (.aload_n 0, 1) := by decide +kernel
theorem dX11_init_126 : decode cX11_init 126 = .ok (.sipush 216, 3) := by decide +kernel
theorem dX11_init_129 : decode cX11_init 129 = .ok (.newarray .boolean, 2) := by decide +kernel
theorem dX11_init_131 : decode cX11_init 131 = .ok (.putfield 60, 3) := by decide +kernel
theorem dX11_init_134 : decode cX11_init 134 = .ok (.aload_n 0, 1) := by decide +kernel
theorem dX11_init_135 : decode cX11_init 135 = .ok (.sipush 216, 3) := by decide +kernel
theorem dX11_init_138 : decode cX11_init 138 = .ok (.newarray .boolean, 2) := by decide +kernel
theorem dX11_init_140 : decode cX11_init 140 = .ok (.putfield 63, 3) := by decide +kernel
theorem dX11_init_143 : decode cX11_init 143 = .ok (.aload_n 0, 1) := by decide +kernel
theorem dX11_init_144 : decode cX11_init 144 = .ok (.bipush 36, 2) := by decide +kernel
theorem dX11_init_146 : decode cX11_init 146 = .ok (.newarray .int, 2) := by decide +kernel
theorem dX11_init_148 : decode cX11_init 148 = .ok (.putfield 66, 3) := by decide +kernel
theorem dX11_init_151 : decode cX11_init 151 = .ok (.aload_n 0, 1) := by decide +kernel
theorem dX11_init_152 : decode cX11_init 152 = .ok (.bipush 6, 2) := by decide +kernel
theorem dX11_init_154 : decode cX11_init 154 = .ok (.newarray .int, 2) := by decide +kernel
theorem dX11_init_156 : decode cX11_init 156 = .ok (.putfield 69, 3) := by decide +kernel
theorem dX11_init_159 : decode cX11_init 159 = .ok (.aload_n 0, 1) := by decide +kernel
theorem dX11_init_160 : decode cX11_init 160 = .ok (.bipush 6, 2) := by decide +kernel
theorem dX11_init_162 : decode cX11_init 162 = .ok (.newarray .int, 2) := by decide +kernel
theorem dX11_init_164 : decode cX11_init 164 = .ok (.putfield 72, 3) := by decide +kernel
theorem dX11_init_167 : decode cX11_init 167 = .ok (.aload_n 0, 1) := by decide +kernel
theorem dX11_init_168 : decode cX11_init 168 = .ok (.bipush 6, 2) := by decide +kernel
theorem dX11_init_170 : decode cX11_init 170 = .ok (.newarray .int, 2) := by decide +kernel
theorem dX11_init_172 : decode cX11_init 172 = .ok (.putfield 75, 3) := by decide +kernel
theorem dX11_init_175 : decode cX11_init 175 = .ok (.return_, 1) := by decide +kernel
theorem dX11_thrown_0 : decode cX11_thrown 0 = .ok (.aload_n 0, 1) := by decide +kernel
theorem dX11_thrown_1 : decode cX11_thrown 1 = .ok (.getfield 78, 3) := by decide +kernel
theorem dX11_thrown_4 : decode cX11_thrown 4 = .ok (.ireturn, 1) := by decide +kernel
theorem dX11_refused_0 : decode cX11_refused 0 = .ok (.aload_n 0, 1) := by decide +kernel
theorem dX11_refused_1 : decode cX11_refused 1 = .ok (.iload_n 1, 1) := by decide +kernel
theorem dX11_refused_2 : decode cX11_refused 2 = .ok (.putfield 81, 3) := by decide +kernel
theorem dX11_refused_5 : decode cX11_refused 5 = .ok (.aload_n 0, 1) := by decide +kernel
theorem dX11_refused_6 : decode cX11_refused 6 = .ok (.iconst (-1), 1) := by decide +kernel
theorem dX11_refused_7 : decode cX11_refused 7 = .ok (.putfield 9, 3) := by decide +kernel
theorem dX11_refused_10 : decode cX11_refused 10 = .ok (.iconst (-1), 1) := by decide +kernel
theorem dX11_refused_11 : decode cX11_refused 11 = .ok (.ireturn, 1) := by decide +kernel
theorem dX11_denied_0 : decode cX11_denied 0 = .ok (.aload_n 0, 1) := by decide +kernel
theorem dX11_denied_1 : decode cX11_denied 1 = .ok (.iload_n 1, 1) := by decide +kernel
theorem dX11_denied_2 : decode cX11_denied 2 = .ok (.invokevirtual 84, 3) := by decide +kernel
theorem dX11_denied_5 : decode cX11_denied 5 = .ok (.pop, 1) := by decide +kernel
theorem dX11_denied_6 : decode cX11_denied 6 = .ok (.iconst 0, 1) := by decide +kernel
theorem dX11_denied_7 : decode cX11_denied 7 = .ok (.ireturn, 1) := by decide +kernel
theorem dX11_good_0 : decode cX11_good 0 = .ok (.aload_n 0, 1) := by decide +kernel
theorem dX11_good_1 : decode cX11_good 1 = .ok (.iconst 0, 1) := by decide +kernel
theorem dX11_good_2 : decode cX11_good 2 = .ok (.putfield 81, 3) := by decide +kernel
theorem dX11_good_5 : decode cX11_good 5 = .ok (.aload_n 0, 1) := by decide +kernel
theorem dX11_good_6 : decode cX11_good 6 = .ok (.iconst (-1), 1) := by decide +kernel
theorem dX11_good_7 : decode cX11_good 7 = .ok (.putfield 9, 3) := by decide +kernel
theorem dX11_good_10 : decode cX11_good 10 = .ok (.iload_n 1, 1) := by decide +kernel
theorem dX11_good_11 : decode cX11_good 11 = .ok (.ireturn, 1) := by decide +kernel
theorem dX11_granted_0 : decode cX11_granted 0 = .ok (.aload_n 0, 1) := by decide +kernel
theorem dX11_granted_1 : decode cX11_granted 1 = .ok (.iconst 0, 1) := by decide +kernel
theorem dX11_granted_2 : decode cX11_granted 2 = .ok (.invokevirtual 88, 3) := by decide +kernel
theorem dX11_granted_5 : decode cX11_granted 5 = .ok (.pop, 1) := by decide +kernel
theorem dX11_granted_6 : decode cX11_granted 6 = .ok (.iconst 1, 1) := by decide +kernel
theorem dX11_granted_7 : decode cX11_granted 7 = .ok (.ireturn, 1) := by decide +kernel
theorem dX11_in_0 : decode cX11_in 0 = .ok (.iload_n 0, 1) := by decide +kernel
theorem dX11_in_1 : decode cX11_in 1 = .ok (.iload_n 1, 1) := by decide +kernel
theorem dX11_in_2 : decode cX11_in 2 = .ok (.if_icmp .lt 12, 3) := by decide +kernel
theorem dX11_in_5 : decode cX11_in 5 = .ok (.iload_n 0, 1) := by decide +kernel
theorem dX11_in_6 : decode cX11_in 6 = .ok (.iload_n 2, 1) := by decide +kernel
theorem dX11_in_7 : decode cX11_in 7 = .ok (.if_icmp .gt 7, 3) := by decide +kernel
theorem dX11_in_10 : decode cX11_in 10 = .ok (.iconst 1, 1) := by decide +kernel
theorem dX11_in_11 : decode cX11_in 11 = .ok (.goto 4, 3) := by decide +kernel
theorem dX11_in_14 : decode cX11_in 14 = .ok (.iconst 0, 1) := by decide +kernel
theorem dX11_in_15 : decode cX11_in 15 = .ok (.ireturn, 1) := by decide +kernel
theorem dX11_common_0 : decode cX11_common 0 = .ok (.lload_n 0, 1) := by decide +kernel
theorem dX11_common_1 : decode cX11_common 1 = .ok (.lstore 4, 2) := by decide +kernel
theorem dX11_common_3 : decode cX11_common 3 = .ok (.lload_n 2, 1) := by decide +kernel
theorem dX11_common_4 : decode cX11_common 4 = .ok (.lstore 6, 2) := by decide +kernel
theorem dX11_common_6 : decode cX11_common 6 = .ok (.lload 6, 2) := by decide +kernel
theorem dX11_common_8 : decode cX11_common 8 = .ok (.lconst 0, 1) := by decide +kernel
theorem dX11_common_9 : decode cX11_common 9 = .ok (.lcmp, 1) := by decide +kernel
theorem dX11_common_10 : decode cX11_common 10 = .ok (.ifCond .eq 21, 3) := by decide +kernel
theorem dX11_common_13 : decode cX11_common 13 = .ok (.lload 4, 2) := by decide +kernel
theorem dX11_common_15 : decode cX11_common 15 = .ok (.lload 6, 2) := by decide +kernel
theorem dX11_common_17 : decode cX11_common 17 = .ok (.lrem, 1) := by decide +kernel
theorem dX11_common_18 : decode cX11_common 18 = .ok (.lstore 8, 2) := by decide +kernel
theorem dX11_common_20 : decode cX11_common 20 = .ok (.lload 6, 2) := by decide +kernel
theorem dX11_common_22 : decode cX11_common 22 = .ok (.lstore 4, 2) := by decide +kernel
theorem dX11_common_24 : decode cX11_common 24 = .ok (.lload 8, 2) := by decide +kernel
theorem dX11_common_26 : decode cX11_common 26 = .ok (.lstore 6, 2) := by decide +kernel
theorem dX11_common_28 : decode cX11_common 28 = .ok (.goto (-22), 3) := by decide +kernel
theorem dX11_common_31 : decode cX11_common 31 = .ok (.lload 4, 2) := by decide +kernel
theorem dX11_common_33 : decode cX11_common 33 = .ok (.lreturn, 1) := by decide +kernel
theorem dX11_fraction_0 : decode cX11_fraction 0 = .ok (.aload_n 0, 1) := by decide +kernel
theorem dX11_fraction_1 : decode cX11_fraction 1 = .ok (.iconst 0, 1) := by decide +kernel
theorem dX11_fraction_2 : decode cX11_fraction 2 = .ok (.invokevirtual 88, 3) := by decide +kernel
theorem dX11_fraction_5 : decode cX11_fraction 5 = .ok (.pop, 1) := by decide +kernel
theorem dX11_fraction_6 : decode cX11_fraction 6 = .ok (.iload 5, 2) := by decide +kernel
theorem dX11_fraction_8 : decode cX11_fraction 8 = .ok (.ifCond .eq 7, 3) := by decide +kernel
theorem dX11_fraction_11 : decode cX11_fraction 11 = .ok (.lload_n 3, 1) := by decide +kernel
theorem dX11_fraction_12 : decode cX11_fraction 12 = .ok (.goto 4, 3) := by decide +kernel
theorem dX11_fraction_15 : decode cX11_fraction 15 = .ok (.lload_n 1, 1) := by decide +kernel
theorem dX11_fraction_16 : decode cX11_fraction 16 = .ok (.lload_n 1, 1) := by decide +kernel
theorem dX11_fraction_17 : decode cX11_fraction 17 = .ok (.lload_n 3, 1) := by decide +kernel
theorem dX11_fraction_18 : decode cX11_fraction 18 = .ok (.invokestatic 91, 3) := by decide +kernel
theorem dX11_fraction_21 : decode cX11_fraction 21 = .ok (.ldiv, 1) := by decide +kernel
theorem dX11_fraction_22 : decode cX11_fraction 22 = .ok (.lreturn, 1) := by decide +kernel
theorem dX11_byteAt_0 : decode cX11_byteAt 0 = .ok (.iload_n 1, 1) := by decide +kernel
theorem dX11_byteAt_1 : decode cX11_byteAt 1 = .ok (.aload_n 0, 1) := by decide +kernel
theorem dX11_byteAt_2 : decode cX11_byteAt 2 = .ok (.getfield 95, 3) := by decide +kernel
theorem dX11_byteAt_5 : decode cX11_byteAt 5 = .ok (.if_icmp .ge 16, 3) := by decide +kernel
theorem dX11_byteAt_8 : decode cX11_byteAt 8 = .ok (.aload_n 0, 1) := by decide +kernel
theorem dX11_byteAt_9 : decode cX11_byteAt 9 = .ok (.getfield 13, 3) := by decide +kernel
theorem dX11_byteAt_12 : decode cX11_byteAt 12 = .ok (.iload_n 1, 1) := by decide +kernel
theorem dX11_byteAt_13 : decode cX11_byteAt 13 = .ok (.baload, 1) := by decide +kernel
theorem dX11_byteAt_14 : decode cX11_byteAt 14 = .ok (.sipush 255, 3) := by decide +kernel
theorem dX11_byteAt_17 : decode cX11_byteAt 17 = .ok (.iand, 1) := by decide +kernel
theorem dX11_byteAt_18 : decode cX11_byteAt 18 = .ok (.goto 4, 3) := by decide +kernel
theorem dX11_byteAt_21 : decode cX11_byteAt 21 = .ok (.iconst (-1), 1) := by decide +kernel
theorem dX11_byteAt_22 : decode cX11_byteAt 22 = .ok (.ireturn, 1) := by decide +kernel
theorem dX11_isLetter_0 : decode cX11_isLetter 0 = .ok (.iload_n 0, 1) := by decide +kernel
theorem dX11_isLetter_1 : decode cX11_isLetter 1 = .ok (.bipush 97, 2) := by decide +kernel
theorem dX11_isLetter_3 : decode cX11_isLetter 3 = .ok (.if_icmp .lt 13, 3) := by decide +kernel
theorem dX11_isLetter_6 : decode cX11_isLetter 6 = .ok (.iload_n 0, 1) := by decide +kernel
theorem dX11_isLetter_7 : decode cX11_isLetter 7 = .ok (.bipush 122, 2) := by decide +kernel
theorem dX11_isLetter_9 : decode cX11_isLetter 9 = .ok (.if_icmp .gt 7, 3) := by decide +kernel
theorem dX11_isLetter_12 : decode cX11_isLetter 12 = .ok (.iconst 1, 1) := by decide +kernel
theorem dX11_isLetter_13 : decode cX11_isLetter 13 = .ok (.goto 4, 3) := by decide +kernel
theorem dX11_isLetter_16 : decode cX11_isLetter 16 = .ok (.iconst 0, 1) := by decide +kernel
theorem dX11_isLetter_17 : decode cX11_isLetter 17 = .ok (.ireturn, 1) := by decide +kernel
theorem dX11_isDigit_0 : decode cX11_isDigit 0 = .ok (.iload_n 0, 1) := by decide +kernel
theorem dX11_isDigit_1 : decode cX11_isDigit 1 = .ok (.bipush 48, 2) := by decide +kernel
theorem dX11_isDigit_3 : decode cX11_isDigit 3 = .ok (.if_icmp .lt 13, 3) := by decide +kernel
theorem dX11_isDigit_6 : decode cX11_isDigit 6 = .ok (.iload_n 0, 1) := by decide +kernel
theorem dX11_isDigit_7 : decode cX11_isDigit 7 = .ok (.bipush 57, 2) := by decide +kernel
theorem dX11_isDigit_9 : decode cX11_isDigit 9 = .ok (.if_icmp .gt 7, 3) := by decide +kernel
theorem dX11_isDigit_12 : decode cX11_isDigit 12 = .ok (.iconst 1, 1) := by decide +kernel
theorem dX11_isDigit_13 : decode cX11_isDigit 13 = .ok (.goto 4, 3) := by decide +kernel
theorem dX11_isDigit_16 : decode cX11_isDigit 16 = .ok (.iconst 0, 1) := by decide +kernel
theorem dX11_isDigit_17 : decode cX11_isDigit 17 = .ok (.ireturn, 1) := by decide +kernel
theorem dX11_wordOf_0 : decode cX11_wordOf 0 = .ok (.lconst 0, 1) := by decide +kernel
theorem dX11_wordOf_1 : decode cX11_wordOf 1 = .ok (.lstore_n 1, 1) := by decide +kernel
theorem dX11_wordOf_2 : decode cX11_wordOf 2 = .ok (.iconst 0, 1) := by decide +kernel
theorem dX11_wordOf_3 : decode cX11_wordOf 3 = .ok (.istore_n 3, 1) := by decide +kernel
theorem dX11_wordOf_4 : decode cX11_wordOf 4 = .ok (.iload_n 3, 1) := by decide +kernel
theorem dX11_wordOf_5 : decode cX11_wordOf 5 = .ok (.aload_n 0, 1) := by decide +kernel
theorem dX11_wordOf_6 : decode cX11_wordOf 6 = .ok (.invokevirtual 98, 3) := by decide +kernel
theorem dX11_wordOf_9 : decode cX11_wordOf 9 = .ok (.if_icmp .ge 27, 3) := by decide +kernel
theorem dX11_wordOf_12 : decode cX11_wordOf 12 = .ok (.ldc2_w 104, 3) := by decide +kernel
theorem dX11_wordOf_15 : decode cX11_wordOf 15 = .ok (.lload_n 1, 1) := by decide +kernel
theorem dX11_wordOf_16 : decode cX11_wordOf 16 = .ok (.lmul, 1) := by decide +kernel
theorem dX11_wordOf_17 : decode cX11_wordOf 17 = .ok (.aload_n 0, 1) := by decide +kernel
theorem dX11_wordOf_18 : decode cX11_wordOf 18 = .ok (.iload_n 3, 1) := by decide +kernel
theorem dX11_wordOf_19 : decode cX11_wordOf 19 = .ok (.invokevirtual 106, 3) := by decide +kernel
theorem dX11_wordOf_22 : decode cX11_wordOf 22 = .ok (.bipush 97, 2) := by decide +kernel
theorem dX11_wordOf_24 : decode cX11_wordOf 24 = .ok (.isub, 1) := by decide +kernel
theorem dX11_wordOf_25 : decode cX11_wordOf 25 = .ok (.iconst 1, 1) := by decide +kernel
theorem dX11_wordOf_26 : decode cX11_wordOf 26 = .ok (.iadd, 1) := by decide +kernel
theorem dX11_wordOf_27 : decode cX11_wordOf 27 = .ok (.i2l, 1) := by decide +kernel
theorem dX11_wordOf_28 : decode cX11_wordOf 28 = .ok (.ladd, 1) := by decide +kernel
theorem dX11_wordOf_29 : decode cX11_wordOf 29 = .ok (.lstore_n 1, 1) := by decide +kernel
theorem dX11_wordOf_30 : decode cX11_wordOf 30 = .ok (.iinc 3 1, 3) := by decide +kernel
theorem dX11_wordOf_33 : decode cX11_wordOf 33 = .ok (.goto (-29), 3) := by decide +kernel
theorem dX11_wordOf_36 : decode cX11_wordOf 36 = .ok (.lload_n 1, 1) := by decide +kernel
theorem dX11_wordOf_37 : decode cX11_wordOf 37 = .ok (.lreturn, 1) := by decide +kernel
theorem dX11_goesOn_0 : decode cX11_goesOn 0 = .ok (.aload_n 0, 1) := by decide +kernel
theorem dX11_goesOn_1 : decode cX11_goesOn 1 = .ok (.getfield 110, 3) := by decide +kernel
theorem dX11_goesOn_4 : decode cX11_goesOn 4 = .ok (.iconst 5, 1) := by decide +kernel
theorem dX11_goesOn_5 : decode cX11_goesOn 5 = .ok (.if_icmp .ne 4, 3) := by decide +kernel
theorem dX11_goesOn_8 : decode cX11_goesOn 8 = .ok (.return_, 1) := by decide +kernel
theorem dX11_goesOn_9 : decode cX11_goesOn 9 = .ok (.aload_n 0, 1) := by decide +kernel
theorem dX11_goesOn_10 : decode cX11_goesOn 10 = .ok (.aload_n 0, 1) := by decide +kernel
theorem dX11_goesOn_11 : decode cX11_goesOn 11 = .ok (.getfield 113, 3) := by decide +kernel
theorem dX11_goesOn_14 : decode cX11_goesOn 14 = .ok (.invokevirtual 116, 3) := by decide +kernel
theorem dX11_goesOn_17 : decode cX11_goesOn 17 = .ok (.bipush 32, 2) := by decide +kernel
theorem dX11_goesOn_19 : decode cX11_goesOn 19 = .ok (.if_icmp .ne 16, 3) := by decide +kernel
theorem dX11_goesOn_22 : decode cX11_goesOn 22 = .ok (.aload_n 0, 1) := by decide +kernel
theorem dX11_goesOn_23 : decode cX11_goesOn 23 = .ok (.dup, 1) := by decide +kernel
theorem dX11_goesOn_24 : decode cX11_goesOn 24 = .ok (.getfield 113, 3) := by decide +kernel
theorem dX11_goesOn_27 : decode cX11_goesOn 27 = .ok (.iconst 1, 1) := by decide +kernel
theorem dX11_goesOn_28 : decode cX11_goesOn 28 = .ok (.iadd, 1) := by decide +kernel
theorem dX11_goesOn_29 : decode cX11_goesOn 29 = .ok (.putfield 113, 3) := by decide +kernel
theorem dX11_goesOn_32 : decode cX11_goesOn 32 = .ok (.goto (-23), 3) := by decide +kernel
theorem dX11_goesOn_35 : decode cX11_goesOn 35 = .ok (.aload_n 0, 1) := by decide +kernel
theorem dX11_goesOn_36 : decode cX11_goesOn 36 = .ok (.aload_n 0, 1) := by decide +kernel
theorem dX11_goesOn_37 : decode cX11_goesOn 37 = .ok (.getfield 113, 3) := by decide +kernel
theorem dX11_goesOn_40 : decode cX11_goesOn 40 = .ok (.putfield 119, 3) := by decide +kernel
theorem dX11_goesOn_43 : decode cX11_goesOn 43 = .ok (.aload_n 0, 1) := by decide +kernel
theorem dX11_goesOn_44 : decode cX11_goesOn 44 = .ok (.iconst 0, 1) := by decide +kernel
theorem dX11_goesOn_45 : decode cX11_goesOn 45 = .ok (.putfield 110, 3) := by decide +kernel
theorem dX11_goesOn_48 : decode cX11_goesOn 48 = .ok (.aload_n 0, 1) := by decide +kernel
theorem dX11_goesOn_49 : decode cX11_goesOn 49 = .ok (.iconst 0, 1) := by decide +kernel
theorem dX11_goesOn_50 : decode cX11_goesOn 50 = .ok (.putfield 122, 3) := by decide +kernel
theorem dX11_goesOn_53 : decode cX11_goesOn 53 = .ok (.aload_n 0, 1) := by decide +kernel
theorem dX11_goesOn_54 : decode cX11_goesOn 54 = .ok (.aload_n 0, 1) := by decide +kernel
theorem dX11_goesOn_55 : decode cX11_goesOn 55 = .ok (.getfield 113, 3) := by decide +kernel
theorem dX11_goesOn_58 : decode cX11_goesOn 58 = .ok (.invokevirtual 116, 3) := by decide +kernel
theorem dX11_goesOn_61 : decode cX11_goesOn 61 = .ok (.istore_n 1, 1) := by decide +kernel
theorem dX11_goesOn_62 : decode cX11_goesOn 62 = .ok (.iconst 0, 1) := by decide +kernel
theorem dX11_goesOn_63 : decode cX11_goesOn 63 = .ok (.istore_n 2, 1) := by decide +kernel
theorem dX11_goesOn_64 : decode cX11_goesOn 64 = .ok (.iload_n 1, 1) := by decide +kernel
theorem dX11_goesOn_65 : decode cX11_goesOn 65 = .ok (.iconst (-1), 1) := by decide +kernel
theorem dX11_goesOn_66 : decode cX11_goesOn 66 = .ok (.if_icmp .ne 11, 3) := by decide +kernel
theorem dX11_goesOn_69 : decode cX11_goesOn 69 = .ok (.aload_n 0, 1) := by decide +kernel
theorem dX11_goesOn_70 : decode cX11_goesOn 70 = .ok (.iconst 1, 1) := by decide +kernel
theorem dX11_goesOn_71 : decode cX11_goesOn 71 = .ok (.putfield 110, 3) := by decide +kernel
theorem dX11_goesOn_74 : decode cX11_goesOn 74 = .ok (.goto 212, 3) := by decide +kernel
theorem dX11_goesOn_77 : decode cX11_goesOn 77 = .ok (.iload_n 1, 1) := by decide +kernel
