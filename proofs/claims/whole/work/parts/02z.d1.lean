theorem dX0_init_0 : decode cX0_init 0 = .ok (.aload_n 0, 1) := by decide +kernel
theorem dX0_init_1 : decode cX0_init 1 = .ok (.invokespecial 3, 3) := by decide +kernel
theorem dX0_init_4 : decode cX0_init 4 = .ok (.aload_n 0, 1) := by decide +kernel
theorem dX0_init_5 : decode cX0_init 5 = .ok (.iconst 0, 1) := by decide +kernel
theorem dX0_init_6 : decode cX0_init 6 = .ok (.putfield 9, 3) := by decide +kernel
theorem dX0_init_9 : decode cX0_init 9 = .ok (.aload_n 0, 1) := by decide +kernel
theorem dX0_init_10 : decode cX0_init 10 = .ok (.iconst 0, 1) := by decide +kernel
theorem dX0_init_11 : decode cX0_init 11 = .ok (.putfield 15, 3) := by decide +kernel
theorem dX0_init_14 : decode cX0_init 14 = .ok (.aload_n 0, 1) := by decide +kernel
theorem dX0_init_15 : decode cX0_init 15 = .ok (.bipush 61, 2) := by decide +kernel
theorem dX0_init_17 : decode cX0_init 17 = .ok (.newarray .int, 2) := by decide +kernel
theorem dX0_init_19 : decode cX0_init 19 = .ok (.putfield 18, 3) := by decide +kernel
theorem dX0_init_22 : decode cX0_init 22 = .ok (.aload_n 0, 1) := by decide +kernel
theorem dX0_init_23 : decode cX0_init 23 = .ok (.bipush 61, 2) := by decide +kernel
theorem dX0_init_25 : decode cX0_init 25 = .ok (.newarray .int, 2) := by decide +kernel
theorem dX0_init_27 : decode cX0_init 27 = .ok (.putfield 22, 3) := by decide +kernel
theorem dX0_init_30 : decode cX0_init 30 = .ok (.aload_n 0, 1) := by decide +kernel
theorem dX0_init_31 : decode cX0_init 31 = .ok (.sipush 2196, 3) := by decide +kernel
theorem dX0_init_34 : decode cX0_init 34 = .ok (.newarray .int, 2) := by decide +kernel
theorem dX0_init_36 : decode cX0_init 36 = .ok (.putfield 25, 3) := by decide +kernel
theorem dX0_init_39 : decode cX0_init 39 = .ok (.aload_n 0, 1) := by decide +kernel
theorem dX0_init_40 : decode cX0_init 40 = .ok (.sipush 2196, 3) := by decide +kernel
theorem dX0_init_43 : decode cX0_init 43 = .ok (.newarray .int, 2) := by decide +kernel
theorem dX0_init_45 : decode cX0_init 45 = .ok (.putfield 28, 3) := by decide +kernel
theorem dX0_init_48 : decode cX0_init 48 = .ok (.aload_n 0, 1) := by decide +kernel
theorem dX0_init_49 : decode cX0_init 49 = .ok (.bipush 61, 2) := by decide +kernel
theorem dX0_init_51 : decode cX0_init 51 = .ok (.newarray .int, 2) := by decide +kernel
theorem dX0_init_53 : decode cX0_init 53 = .ok (.putfield 31, 3) := by decide +kernel
theorem dX0_init_56 : decode cX0_init 56 = .ok (.aload_n 0, 1) := by decide +kernel
theorem dX0_init_57 : decode cX0_init 57 = .ok (.bipush 61, 2) := by decide +kernel
theorem dX0_init_59 : decode cX0_init 59 = .ok (.newarray .long, 2) := by decide +kernel
theorem dX0_init_61 : decode cX0_init 61 = .ok (.putfield 34, 3) := by decide +kernel
theorem dX0_init_64 : decode cX0_init 64 = .ok (.aload_n 0, 1) := by decide +kernel
theorem dX0_init_65 : decode cX0_init 65 = .ok (.aload_n 1, 1) := by decide +kernel
theorem dX0_init_66 : decode cX0_init 66 = .ok (.putfield 38, 3) := by decide +kernel
theorem dX0_init_69 : decode cX0_init 69 = .ok (.return_, 1) := by decide +kernel
theorem dX0_markBehind_0 : decode cX0_markBehind 0 = .ok (.aload_n 0, 1) := by decide +kernel
theorem dX0_markBehind_1 : decode cX0_markBehind 1 = .ok (.aload_n 1, 1) := by decide +kernel
theorem dX0_markBehind_2 : decode cX0_markBehind 2 = .ok (.iload_n 2, 1) := by decide +kernel
theorem dX0_markBehind_3 : decode cX0_markBehind 3 = .ok (.iload 4, 2) := by decide +kernel
theorem dX0_markBehind_5 : decode cX0_markBehind 5 = .ok (.invokevirtual 42, 3) := by decide +kernel
theorem dX0_markBehind_8 : decode cX0_markBehind 8 = .ok (.aload_n 0, 1) := by decide +kernel
theorem dX0_markBehind_9 : decode cX0_markBehind 9 = .ok (.aload_n 0, 1) := by decide +kernel
theorem dX0_markBehind_10 : decode cX0_markBehind 10 = .ok (.getfield 9, 3) := by decide +kernel
theorem dX0_markBehind_13 : decode cX0_markBehind 13 = .ok (.iload_n 3, 1) := by decide +kernel
theorem dX0_markBehind_14 : decode cX0_markBehind 14 = .ok (.invokevirtual 46, 3) := by decide +kernel
theorem dX0_markBehind_17 : decode cX0_markBehind 17 = .ok (.aload_n 0, 1) := by decide +kernel
theorem dX0_markBehind_18 : decode cX0_markBehind 18 = .ok (.invokevirtual 50, 3) := by decide +kernel
theorem dX0_markBehind_21 : decode cX0_markBehind 21 = .ok (.aload_n 0, 1) := by decide +kernel
theorem dX0_markBehind_22 : decode cX0_markBehind 22 = .ok (.iload_n 3, 1) := by decide +kernel
theorem dX0_markBehind_23 : decode cX0_markBehind 23 = .ok (.invokevirtual 53, 3) := by decide +kernel
theorem dX0_markBehind_26 : decode cX0_markBehind 26 = .ok (.ireturn, 1) := by decide +kernel
theorem dX0_mapBehind_0 : decode cX0_mapBehind 0 = .ok (.aload_n 0, 1) := by decide +kernel
theorem dX0_mapBehind_1 : decode cX0_mapBehind 1 = .ok (.aload_n 1, 1) := by decide +kernel
theorem dX0_mapBehind_2 : decode cX0_mapBehind 2 = .ok (.iload_n 2, 1) := by decide +kernel
theorem dX0_mapBehind_3 : decode cX0_mapBehind 3 = .ok (.iload_n 3, 1) := by decide +kernel
theorem dX0_mapBehind_4 : decode cX0_mapBehind 4 = .ok (.invokevirtual 42, 3) := by decide +kernel
theorem dX0_mapBehind_7 : decode cX0_mapBehind 7 = .ok (.iconst 0, 1) := by decide +kernel
theorem dX0_mapBehind_8 : decode cX0_mapBehind 8 = .ok (.istore 5, 2) := by decide +kernel
theorem dX0_mapBehind_10 : decode cX0_mapBehind 10 = .ok (.iload 5, 2) := by decide +kernel
theorem dX0_mapBehind_12 : decode cX0_mapBehind 12 = .ok (.bipush 36, 2) := by decide +kernel
theorem dX0_mapBehind_14 : decode cX0_mapBehind 14 = .ok (.if_icmp .ge 28, 3) := by decide +kernel
theorem dX0_mapBehind_17 : decode cX0_mapBehind 17 = .ok (.aload_n 1, 1) := by decide +kernel
theorem dX0_mapBehind_18 : decode cX0_mapBehind 18 = .ok (.iload 5, 2) := by decide +kernel
theorem dX0_mapBehind_20 : decode cX0_mapBehind 20 = .ok (.invokevirtual 57, 3) := by decide +kernel
theorem dX0_mapBehind_23 : decode cX0_mapBehind 23 = .ok (.ifCond .eq 13, 3) := by decide +kernel
theorem dX0_mapBehind_26 : decode cX0_mapBehind 26 = .ok (.aload_n 0, 1) := by decide +kernel
theorem dX0_mapBehind_27 : decode cX0_mapBehind 27 = .ok (.aload_n 0, 1) := by decide +kernel
theorem dX0_mapBehind_28 : decode cX0_mapBehind 28 = .ok (.getfield 9, 3) := by decide +kernel
theorem dX0_mapBehind_31 : decode cX0_mapBehind 31 = .ok (.iload 5, 2) := by decide +kernel
theorem dX0_mapBehind_33 : decode cX0_mapBehind 33 = .ok (.invokevirtual 46, 3) := by decide +kernel
theorem dX0_mapBehind_36 : decode cX0_mapBehind 36 = .ok (.iinc 5 1, 3) := by decide +kernel
theorem dX0_mapBehind_39 : decode cX0_mapBehind 39 = .ok (.goto (-29), 3) := by decide +kernel
theorem dX0_mapBehind_42 : decode cX0_mapBehind 42 = .ok (.aload_n 0, 1) := by decide +kernel
theorem dX0_mapBehind_43 : decode cX0_mapBehind 43 = .ok (.invokevirtual 50, 3) := by decide +kernel
theorem dX0_mapBehind_46 : decode cX0_mapBehind 46 = .ok (.aload_n 0, 1) := by decide +kernel
theorem dX0_mapBehind_47 : decode cX0_mapBehind 47 = .ok (.iconst 0, 1) := by decide +kernel
theorem dX0_mapBehind_48 : decode cX0_mapBehind 48 = .ok (.invokevirtual 53, 3) := by decide +kernel
theorem dX0_mapBehind_51 : decode cX0_mapBehind 51 = .ok (.pop, 1) := by decide +kernel
theorem dX0_mapBehind_52 : decode cX0_mapBehind 52 = .ok (.aload_n 0, 1) := by decide +kernel
theorem dX0_mapBehind_53 : decode cX0_mapBehind 53 = .ok (.getfield 25, 3) := by decide +kernel
theorem dX0_mapBehind_56 : decode cX0_mapBehind 56 = .ok (.bipush 36, 2) := by decide +kernel
theorem dX0_mapBehind_58 : decode cX0_mapBehind 58 = .ok (.aload_n 0, 1) := by decide +kernel
theorem dX0_mapBehind_59 : decode cX0_mapBehind 59 = .ok (.getfield 9, 3) := by decide +kernel
theorem dX0_mapBehind_62 : decode cX0_mapBehind 62 = .ok (.imul, 1) := by decide +kernel
theorem dX0_mapBehind_63 : decode cX0_mapBehind 63 = .ok (.aload 4, 2) := by decide +kernel
theorem dX0_mapBehind_65 : decode cX0_mapBehind 65 = .ok (.iconst 0, 1) := by decide +kernel
theorem dX0_mapBehind_66 : decode cX0_mapBehind 66 = .ok (.bipush 36, 2) := by decide +kernel
theorem dX0_mapBehind_68 : decode cX0_mapBehind 68 = .ok (.invokestatic 63, 3) := by decide +kernel
theorem dX0_mapBehind_71 : decode cX0_mapBehind 71 = .ok (.return_, 1) := by decide +kernel
theorem dX0_lay_0 : decode cX0_lay 0 = .ok (.aload_n 0, 1) := by decide +kernel
theorem dX0_lay_1 : decode cX0_lay 1 = .ok (.aload_n 1, 1) := by decide +kernel
theorem dX0_lay_2 : decode cX0_lay 2 = .ok (.putfield 38, 3) := by decide +kernel
theorem dX0_lay_5 : decode cX0_lay 5 = .ok (.aload_n 0, 1) := by decide +kernel
theorem dX0_lay_6 : decode cX0_lay 6 = .ok (.iconst 0, 1) := by decide +kernel
theorem dX0_lay_7 : decode cX0_lay 7 = .ok (.iload_n 3, 1) := by decide +kernel
theorem dX0_lay_8 : decode cX0_lay 8 = .ok (.bipush 60, 2) := by decide +kernel
theorem dX0_lay_10 : decode cX0_lay 10 = .ok (.invokestatic 69, 3) := by decide +kernel
theorem dX0_lay_13 : decode cX0_lay 13 = .ok (.invokestatic 75, 3) := by decide +kernel
theorem dX0_lay_16 : decode cX0_lay 16 = .ok (.putfield 9, 3) := by decide +kernel
theorem dX0_lay_19 : decode cX0_lay 19 = .ok (.aload_n 0, 1) := by decide +kernel
theorem dX0_lay_20 : decode cX0_lay 20 = .ok (.aload_n 0, 1) := by decide +kernel
theorem dX0_lay_21 : decode cX0_lay 21 = .ok (.getfield 9, 3) := by decide +kernel
theorem dX0_lay_24 : decode cX0_lay 24 = .ok (.putfield 15, 3) := by decide +kernel
theorem dX0_lay_27 : decode cX0_lay 27 = .ok (.aload_n 0, 1) := by decide +kernel
theorem dX0_lay_28 : decode cX0_lay 28 = .ok (.getfield 18, 3) := by decide +kernel
theorem dX0_lay_31 : decode cX0_lay 31 = .ok (.aload_n 0, 1) := by decide +kernel
theorem dX0_lay_32 : decode cX0_lay 32 = .ok (.getfield 9, 3) := by decide +kernel
theorem dX0_lay_35 : decode cX0_lay 35 = .ok (.iload_n 2, 1) := by decide +kernel
theorem dX0_lay_36 : decode cX0_lay 36 = .ok (.iastore, 1) := by decide +kernel
theorem dX0_lay_37 : decode cX0_lay 37 = .ok (.aload_n 0, 1) := by decide +kernel
theorem dX0_lay_38 : decode cX0_lay 38 = .ok (.getfield 31, 3) := by decide +kernel
theorem dX0_lay_41 : decode cX0_lay 41 = .ok (.aload_n 0, 1) := by decide +kernel
theorem dX0_lay_42 : decode cX0_lay 42 = .ok (.getfield 9, 3) := by decide +kernel
theorem dX0_lay_45 : decode cX0_lay 45 = .ok (.iconst 0, 1) := by decide +kernel
theorem dX0_lay_46 : decode cX0_lay 46 = .ok (.iastore, 1) := by decide +kernel
theorem dX0_lay_47 : decode cX0_lay 47 = .ok (.aload_n 0, 1) := by decide +kernel
theorem dX0_lay_48 : decode cX0_lay 48 = .ok (.getfield 34, 3) := by decide +kernel
theorem dX0_lay_51 : decode cX0_lay 51 = .ok (.aload_n 0, 1) := by decide +kernel
theorem dX0_lay_52 : decode cX0_lay 52 = .ok (.getfield 9, 3) := by decide +kernel
theorem dX0_lay_55 : decode cX0_lay 55 = .ok (.lconst 0, 1) := by decide +kernel
theorem dX0_lay_56 : decode cX0_lay 56 = .ok (.lastore, 1) := by decide +kernel
theorem dX0_lay_57 : decode cX0_lay 57 = .ok (.aload_n 0, 1) := by decide +kernel
theorem dX0_lay_58 : decode cX0_lay 58 = .ok (.getfield 9, 3) := by decide +kernel
theorem dX0_lay_61 : decode cX0_lay 61 = .ok (.istore 4, 2) := by decide +kernel
theorem dX0_lay_63 : decode cX0_lay 63 = .ok (.iload 4, 2) := by decide +kernel
theorem dX0_lay_65 : decode cX0_lay 65 = .ok (.ifCond .le 73, 3) := by decide +kernel
theorem dX0_lay_68 : decode cX0_lay 68 = .ok (.aload_n 1, 1) := by decide +kernel
theorem dX0_lay_69 : decode cX0_lay 69 = .ok (.getfield 78, 3) := by decide +kernel
theorem dX0_lay_72 : decode cX0_lay 72 = .ok (.aload_n 0, 1) := by decide +kernel
theorem dX0_lay_73 : decode cX0_lay 73 = .ok (.getfield 18, 3) := by decide +kernel
theorem dX0_lay_76 : decode cX0_lay 76 = .ok (.iload 4, 2) := by decide +kernel
theorem dX0_lay_78 : decode cX0_lay 78 = .ok (.iaload, 1) := by decide +kernel
theorem dX0_lay_79 : decode cX0_lay 79 = .ok (.iaload, 1) := by decide +kernel
theorem dX0_lay_80 : decode cX0_lay 80 = .ok (.ifCond .lt 58, 3) := by decide +kernel
theorem dX0_lay_83 : decode cX0_lay 83 = .ok (.aload_n 0, 1) := by decide +kernel
theorem dX0_lay_84 : decode cX0_lay 84 = .ok (.iload 4, 2) := by decide +kernel
theorem dX0_lay_86 : decode cX0_lay 86 = .ok (.iconst 1, 1) := by decide +kernel
theorem dX0_lay_87 : decode cX0_lay 87 = .ok (.isub, 1) := by decide +kernel
theorem dX0_lay_88 : decode cX0_lay 88 = .ok (.putfield 15, 3) := by decide +kernel
theorem dX0_lay_91 : decode cX0_lay 91 = .ok (.aload_n 0, 1) := by decide +kernel
theorem dX0_lay_92 : decode cX0_lay 92 = .ok (.getfield 18, 3) := by decide +kernel
theorem dX0_lay_95 : decode cX0_lay 95 = .ok (.aload_n 0, 1) := by decide +kernel
theorem dX0_lay_96 : decode cX0_lay 96 = .ok (.getfield 15, 3) := by decide +kernel
theorem dX0_lay_99 : decode cX0_lay 99 = .ok (.aload_n 1, 1) := by decide +kernel
theorem dX0_lay_100 : decode cX0_lay 100 = .ok (.getfield 78, 3) := by decide +kernel
theorem dX0_lay_103 : decode cX0_lay 103 = .ok (.aload_n 0, 1) := by decide +kernel
theorem dX0_lay_104 : decode cX0_lay 104 = .ok (.getfield 18, 3) := by decide +kernel
theorem dX0_lay_107 : decode cX0_lay 107 = .ok (.iload 4, 2) := by decide +kernel
theorem dX0_lay_109 : decode cX0_lay 109 = .ok (.iaload, 1) := by decide +kernel
theorem dX0_lay_110 : decode cX0_lay 110 = .ok (.iaload, 1) := by decide +kernel
theorem dX0_lay_111 : decode cX0_lay 111 = .ok (.iastore, 1) := by decide +kernel
theorem dX0_lay_112 : decode cX0_lay 112 = .ok (.aload_n 0, 1) := by decide +kernel
theorem dX0_lay_113 : decode cX0_lay 113 = .ok (.getfield 31, 3) := by decide +kernel
theorem dX0_lay_116 : decode cX0_lay 116 = .ok (.aload_n 0, 1) := by decide +kernel
theorem dX0_lay_117 : decode cX0_lay 117 = .ok (.getfield 15, 3) := by decide +kernel
theorem dX0_lay_120 : decode cX0_lay 120 = .ok (.iconst 0, 1) := by decide +kernel
theorem dX0_lay_121 : decode cX0_lay 121 = .ok (.iastore, 1) := by decide +kernel
theorem dX0_lay_122 : decode cX0_lay 122 = .ok (.aload_n 0, 1) := by decide +kernel
theorem dX0_lay_123 : decode cX0_lay 123 = .ok (.getfield 34, 3) := by decide +kernel
theorem dX0_lay_126 : decode cX0_lay 126 = .ok (.aload_n 0, 1) := by decide +kernel
theorem dX0_lay_127 : decode cX0_lay 127 = .ok (.getfield 15, 3) := by decide +kernel
theorem dX0_lay_130 : decode cX0_lay 130 = .ok (.lconst 0, 1) := by decide +kernel
theorem dX0_lay_131 : decode cX0_lay 131 = .ok (.lastore, 1) := by decide +kernel
theorem dX0_lay_132 : decode cX0_lay 132 = .ok (.iinc 4 (-1), 3) := by decide +kernel
theorem dX0_lay_135 : decode cX0_lay 135 = .ok (.goto (-72), 3) := by decide +kernel
theorem dX0_lay_138 : decode cX0_lay 138 = .ok (.aload_n 1, 1) := by decide +kernel
theorem dX0_lay_139 : decode cX0_lay 139 = .ok (.invokevirtual 81, 3) := by decide +kernel
theorem dX0_lay_142 : decode cX0_lay 142 = .ok (.ifCond .eq 7, 3) := by decide +kernel
theorem dX0_lay_145 : decode cX0_lay 145 = .ok (.aload_n 0, 1) := by decide +kernel
theorem dX0_lay_146 : decode cX0_lay 146 = .ok (.invokevirtual 85, 3) := by decide +kernel
theorem dX0_lay_149 : decode cX0_lay 149 = .ok (.return_, 1) := by decide +kernel
theorem dX0_drawAll_0 : decode cX0_drawAll 0 = .ok (.aload_n 0, 1) := by decide +kernel
theorem dX0_drawAll_1 : decode cX0_drawAll 1 = .ok (.getfield 38, 3) := by decide +kernel
theorem dX0_drawAll_4 : decode cX0_drawAll 4 = .ok (.getfield 88, 3) := by decide +kernel
theorem dX0_drawAll_7 : decode cX0_drawAll 7 = .ok (.istore_n 1, 1) := by decide +kernel
theorem dX0_drawAll_8 : decode cX0_drawAll 8 = .ok (.iconst 1, 1) := by decide +kernel
theorem dX0_drawAll_9 : decode cX0_drawAll 9 = .ok (.istore_n 2, 1) := by decide +kernel
theorem dX0_drawAll_10 : decode cX0_drawAll 10 = .ok (.iload_n 2, 1) := by decide +kernel
theorem dX0_drawAll_11 : decode cX0_drawAll 11 = .ok (.aload_n 0, 1) := by decide +kernel
theorem dX0_drawAll_12 : decode cX0_drawAll 12 = .ok (.getfield 9, 3) := by decide +kernel
theorem dX0_drawAll_15 : decode cX0_drawAll 15 = .ok (.if_icmp .gt 81, 3) := by decide +kernel
theorem dX0_drawAll_18 : decode cX0_drawAll 18 = .ok (.iconst 0, 1) := by decide +kernel
theorem dX0_drawAll_19 : decode cX0_drawAll 19 = .ok (.istore_n 3, 1) := by decide +kernel
theorem dX0_drawAll_20 : decode cX0_drawAll 20 = .ok (.iload_n 3, 1) := by decide +kernel
theorem dX0_drawAll_21 : decode cX0_drawAll 21 = .ok (.aload_n 0, 1) := by decide +kernel
theorem dX0_drawAll_22 : decode cX0_drawAll 22 = .ok (.getfield 38, 3) := by decide +kernel
theorem dX0_drawAll_25 : decode cX0_drawAll 25 = .ok (.getfield 91, 3) := by decide +kernel
theorem dX0_drawAll_28 : decode cX0_drawAll 28 = .ok (.if_icmp .ge 62, 3) := by decide +kernel
theorem dX0_drawAll_31 : decode cX0_drawAll 31 = .ok (.aload_n 0, 1) := by decide +kernel
theorem dX0_drawAll_32 : decode cX0_drawAll 32 = .ok (.getfield 38, 3) := by decide +kernel
theorem dX0_drawAll_35 : decode cX0_drawAll 35 = .ok (.getfield 93, 3) := by decide +kernel
theorem dX0_drawAll_38 : decode cX0_drawAll 38 = .ok (.iconst 4, 1) := by decide +kernel
theorem dX0_drawAll_39 : decode cX0_drawAll 39 = .ok (.iload_n 3, 1) := by decide +kernel
theorem dX0_drawAll_40 : decode cX0_drawAll 40 = .ok (.imul, 1) := by decide +kernel
theorem dX0_drawAll_41 : decode cX0_drawAll 41 = .ok (.iaload, 1) := by decide +kernel
theorem dX0_drawAll_42 : decode cX0_drawAll 42 = .ok (.bipush 9, 2) := by decide +kernel
theorem dX0_drawAll_44 : decode cX0_drawAll 44 = .ok (.if_icmp .ne 40, 3) := by decide +kernel
theorem dX0_drawAll_47 : decode cX0_drawAll 47 = .ok (.iload_n 1, 1) := by decide +kernel
theorem dX0_drawAll_48 : decode cX0_drawAll 48 = .ok (.invokestatic 96, 3) := by decide +kernel
theorem dX0_drawAll_51 : decode cX0_drawAll 51 = .ok (.istore_n 1, 1) := by decide +kernel
theorem dX0_drawAll_52 : decode cX0_drawAll 52 = .ok (.iload_n 2, 1) := by decide +kernel
theorem dX0_drawAll_53 : decode cX0_drawAll 53 = .ok (.aload_n 0, 1) := by decide +kernel
theorem dX0_drawAll_54 : decode cX0_drawAll 54 = .ok (.getfield 15, 3) := by decide +kernel
theorem dX0_drawAll_57 : decode cX0_drawAll 57 = .ok (.if_icmp .le 27, 3) := by decide +kernel
theorem dX0_drawAll_60 : decode cX0_drawAll 60 = .ok (.aload_n 0, 1) := by decide +kernel
theorem dX0_drawAll_61 : decode cX0_drawAll 61 = .ok (.getfield 18, 3) := by decide +kernel
theorem dX0_drawAll_64 : decode cX0_drawAll 64 = .ok (.iload_n 2, 1) := by decide +kernel
theorem dX0_drawAll_65 : decode cX0_drawAll 65 = .ok (.iaload, 1) := by decide +kernel
theorem dX0_drawAll_66 : decode cX0_drawAll 66 = .ok (.iload_n 3, 1) := by decide +kernel
theorem dX0_drawAll_67 : decode cX0_drawAll 67 = .ok (.if_icmp .ne 17, 3) := by decide +kernel
theorem dX0_drawAll_70 : decode cX0_drawAll 70 = .ok (.aload_n 0, 1) := by decide +kernel
theorem dX0_drawAll_71 : decode cX0_drawAll 71 = .ok (.getfield 22, 3) := by decide +kernel
theorem dX0_drawAll_74 : decode cX0_drawAll 74 = .ok (.iload_n 2, 1) := by decide +kernel
theorem dX0_drawAll_75 : decode cX0_drawAll 75 = .ok (.aload_n 0, 1) := by decide +kernel
theorem dX0_drawAll_76 : decode cX0_drawAll 76 = .ok (.getfield 38, 3) := by decide +kernel
theorem dX0_drawAll_79 : decode cX0_drawAll 79 = .ok (.iload_n 1, 1) := by decide +kernel
theorem dX0_drawAll_80 : decode cX0_drawAll 80 = .ok (.invokevirtual 99, 3) := by decide +kernel
theorem dX0_drawAll_83 : decode cX0_drawAll 83 = .ok (.iastore, 1) := by decide +kernel
theorem dX0_drawAll_84 : decode cX0_drawAll 84 = .ok (.iinc 3 1, 3) := by decide +kernel
theorem dX0_drawAll_87 : decode cX0_drawAll 87 = .ok (.goto (-67), 3) := by decide +kernel
theorem dX0_drawAll_90 : decode cX0_drawAll 90 = .ok (.iinc 2 1, 3) := by decide +kernel
theorem dX0_drawAll_93 : decode cX0_drawAll 93 = .ok (.goto (-83), 3) := by decide +kernel
theorem dX0_drawAll_96 : decode cX0_drawAll 96 = .ok (.return_, 1) := by decide +kernel
theorem dX0_want_0 : decode cX0_want 0 = .ok (.lconst 1, 1) := by decide +kernel
theorem dX0_want_1 : decode cX0_want 1 = .ok (.iload_n 2, 1) := by decide +kernel
theorem dX0_want_2 : decode cX0_want 2 = .ok (.lshl, 1) := by decide +kernel
theorem dX0_want_3 : decode cX0_want 3 = .ok (.lstore_n 3, 1) := by decide +kernel
theorem dX0_want_4 : decode cX0_want 4 = .ok (.aload_n 0, 1) := by decide +kernel
theorem dX0_want_5 : decode cX0_want 5 = .ok (.getfield 34, 3) := by decide +kernel
theorem dX0_want_8 : decode cX0_want 8 = .ok (.iload_n 1, 1) := by decide +kernel
theorem dX0_want_9 : decode cX0_want 9 = .ok (.laload, 1) := by decide +kernel
theorem dX0_want_10 : decode cX0_want 10 = .ok (.lload_n 3, 1) := by decide +kernel
theorem dX0_want_11 : decode cX0_want 11 = .ok (.land, 1) := by decide +kernel
theorem dX0_want_12 : decode cX0_want 12 = .ok (.lconst 0, 1) := by decide +kernel
theorem dX0_want_13 : decode cX0_want 13 = .ok (.lcmp, 1) := by decide +kernel
theorem dX0_want_14 : decode cX0_want 14 = .ok (.ifCond .ne 40, 3) := by decide +kernel
theorem dX0_want_17 : decode cX0_want 17 = .ok (.aload_n 0, 1) := by decide +kernel
theorem dX0_want_18 : decode cX0_want 18 = .ok (.getfield 34, 3) := by decide +kernel
theorem dX0_want_21 : decode cX0_want 21 = .ok (.iload_n 1, 1) := by decide +kernel
theorem dX0_want_22 : decode cX0_want 22 = .ok (.dup2, 1) := by decide +kernel
theorem dX0_want_23 : decode cX0_want 23 = .ok (.laload, 1) := by decide +kernel
theorem dX0_want_24 : decode cX0_want 24 = .ok (.lload_n 3, 1) := by decide +kernel
theorem dX0_want_25 : decode cX0_want 25 = .ok (.lor, 1) := by decide +kernel
theorem dX0_want_26 : decode cX0_want 26 = .ok (.lastore, 1) := by decide +kernel
theorem dX0_want_27 : decode cX0_want 27 = .ok (.aload_n 0, 1) := by decide +kernel
theorem dX0_want_28 : decode cX0_want 28 = .ok (.getfield 28, 3) := by decide +kernel
theorem dX0_want_31 : decode cX0_want 31 = .ok (.bipush 36, 2) := by decide +kernel
theorem dX0_want_33 : decode cX0_want 33 = .ok (.iload_n 1, 1) := by decide +kernel
theorem dX0_want_34 : decode cX0_want 34 = .ok (.imul, 1) := by decide +kernel
theorem dX0_want_35 : decode cX0_want 35 = .ok (.aload_n 0, 1) := by decide +kernel
theorem dX0_want_36 : decode cX0_want 36 = .ok (.getfield 31, 3) := by decide +kernel
theorem dX0_want_39 : decode cX0_want 39 = .ok (.iload_n 1, 1) := by decide +kernel
theorem dX0_want_40 : decode cX0_want 40 = .ok (.iaload, 1) := by decide +kernel
theorem dX0_want_41 : decode cX0_want 41 = .ok (.iadd, 1) := by decide +kernel
theorem dX0_want_42 : decode cX0_want 42 = .ok (.iload_n 2, 1) := by decide +kernel
theorem dX0_want_43 : decode cX0_want 43 = .ok (.iastore, 1) := by decide +kernel
theorem dX0_want_44 : decode cX0_want 44 = .ok (.aload_n 0, 1) := by decide +kernel
theorem dX0_want_45 : decode cX0_want 45 = .ok (.getfield 31, 3) := by decide +kernel
theorem dX0_want_48 : decode cX0_want 48 = .ok (.iload_n 1, 1) := by decide +kernel
theorem dX0_want_49 : decode cX0_want 49 = .ok (.dup2, 1) := by decide +kernel
theorem dX0_want_50 : decode cX0_want 50 = .ok (.iaload, 1) := by decide +kernel
theorem dX0_want_51 : decode cX0_want 51 = .ok (.iconst 1, 1) := by decide +kernel
theorem dX0_want_52 : decode cX0_want 52 = .ok (.iadd, 1) := by decide +kernel
theorem dX0_want_53 : decode cX0_want 53 = .ok (.iastore, 1) := by decide +kernel
theorem dX0_want_54 : decode cX0_want 54 = .ok (.return_, 1) := by decide +kernel
theorem dX0_prepare_0 : decode cX0_prepare 0 = .ok (.aload_n 0, 1) := by decide +kernel
theorem dX0_prepare_1 : decode cX0_prepare 1 = .ok (.getfield 9, 3) := by decide +kernel
theorem dX0_prepare_4 : decode cX0_prepare 4 = .ok (.istore_n 1, 1) := by decide +kernel
theorem dX0_prepare_5 : decode cX0_prepare 5 = .ok (.iload_n 1, 1) := by decide +kernel
theorem dX0_prepare_6 : decode cX0_prepare 6 = .ok (.aload_n 0, 1) := by decide +kernel
theorem dX0_prepare_7 : decode cX0_prepare 7 = .ok (.getfield 15, 3) := by decide +kernel
theorem dX0_prepare_10 : decode cX0_prepare 10 = .ok (.if_icmp .le 104, 3) := by decide +kernel
theorem dX0_prepare_13 : decode cX0_prepare 13 = .ok (.aload_n 0, 1) := by decide +kernel
theorem dX0_prepare_14 : decode cX0_prepare 14 = .ok (.getfield 38, 3) := by decide +kernel
theorem dX0_prepare_17 : decode cX0_prepare 17 = .ok (.getfield 93, 3) := by decide +kernel
theorem dX0_prepare_20 : decode cX0_prepare 20 = .ok (.iconst 4, 1) := by decide +kernel
theorem dX0_prepare_21 : decode cX0_prepare 21 = .ok (.aload_n 0, 1) := by decide +kernel
theorem dX0_prepare_22 : decode cX0_prepare 22 = .ok (.getfield 18, 3) := by decide +kernel
theorem dX0_prepare_25 : decode cX0_prepare 25 = .ok (.iload_n 1, 1) := by decide +kernel
theorem dX0_prepare_26 : decode cX0_prepare 26 = .ok (.iaload, 1) := by decide +kernel
theorem dX0_prepare_27 : decode cX0_prepare 27 = .ok (.imul, 1) := by decide +kernel
theorem dX0_prepare_28 : decode cX0_prepare 28 = .ok (.iaload, 1) := by decide +kernel
theorem dX0_prepare_29 : decode cX0_prepare 29 = .ok (.bipush 6, 2) := by decide +kernel
theorem dX0_prepare_31 : decode cX0_prepare 31 = .ok (.if_icmp .ne 7, 3) := by decide +kernel
theorem dX0_prepare_34 : decode cX0_prepare 34 = .ok (.iconst 1, 1) := by decide +kernel
theorem dX0_prepare_35 : decode cX0_prepare 35 = .ok (.goto 4, 3) := by decide +kernel
theorem dX0_prepare_38 : decode cX0_prepare 38 = .ok (.iconst 0, 1) := by decide +kernel
theorem dX0_prepare_39 : decode cX0_prepare 39 = .ok (.istore_n 2, 1) := by decide +kernel
theorem dX0_prepare_40 : decode cX0_prepare 40 = .ok (.iconst 0, 1) := by decide +kernel
theorem dX0_prepare_41 : decode cX0_prepare 41 = .ok (.istore_n 3, 1) := by decide +kernel
theorem dX0_prepare_42 : decode cX0_prepare 42 = .ok (.iload_n 3, 1) := by decide +kernel
theorem dX0_prepare_43 : decode cX0_prepare 43 = .ok (.aload_n 0, 1) := by decide +kernel
theorem dX0_prepare_44 : decode cX0_prepare 44 = .ok (.getfield 31, 3) := by decide +kernel
theorem dX0_prepare_47 : decode cX0_prepare 47 = .ok (.iload_n 1, 1) := by decide +kernel
theorem dX0_prepare_48 : decode cX0_prepare 48 = .ok (.iaload, 1) := by decide +kernel
theorem dX0_prepare_49 : decode cX0_prepare 49 = .ok (.if_icmp .ge 59, 3) := by decide +kernel
theorem dX0_prepare_52 : decode cX0_prepare 52 = .ok (.aload_n 0, 1) := by decide +kernel
theorem dX0_prepare_53 : decode cX0_prepare 53 = .ok (.getfield 28, 3) := by decide +kernel
theorem dX0_prepare_56 : decode cX0_prepare 56 = .ok (.bipush 36, 2) := by decide +kernel
theorem dX0_prepare_58 : decode cX0_prepare 58 = .ok (.iload_n 1, 1) := by decide +kernel
theorem dX0_prepare_59 : decode cX0_prepare 59 = .ok (.imul, 1) := by decide +kernel
theorem dX0_prepare_60 : decode cX0_prepare 60 = .ok (.iload_n 3, 1) := by decide +kernel
theorem dX0_prepare_61 : decode cX0_prepare 61 = .ok (.iadd, 1) := by decide +kernel
theorem dX0_prepare_62 : decode cX0_prepare 62 = .ok (.iaload, 1) := by decide +kernel
theorem dX0_prepare_63 : decode cX0_prepare 63 = .ok (.istore 4, 2) := by decide +kernel
theorem dX0_prepare_65 : decode cX0_prepare 65 = .ok (.aload_n 0, 1) := by decide +kernel
theorem dX0_prepare_66 : decode cX0_prepare 66 = .ok (.iload_n 1, 1) := by decide +kernel
theorem dX0_prepare_67 : decode cX0_prepare 67 = .ok (.iload 4, 2) := by decide +kernel
theorem dX0_prepare_69 : decode cX0_prepare 69 = .ok (.invokevirtual 102, 3) := by decide +kernel
theorem dX0_prepare_72 : decode cX0_prepare 72 = .ok (.istore 5, 2) := by decide +kernel
theorem dX0_prepare_74 : decode cX0_prepare 74 = .ok (.iload 5, 2) := by decide +kernel
theorem dX0_prepare_76 : decode cX0_prepare 76 = .ok (.iconst (-1), 1) := by decide +kernel
theorem dX0_prepare_77 : decode cX0_prepare 77 = .ok (.if_icmp .eq 12, 3) := by decide +kernel
theorem dX0_prepare_80 : decode cX0_prepare 80 = .ok (.aload_n 0, 1) := by decide +kernel
theorem dX0_prepare_81 : decode cX0_prepare 81 = .ok (.iload_n 1, 1) := by decide +kernel
theorem dX0_prepare_82 : decode cX0_prepare 82 = .ok (.iconst 1, 1) := by decide +kernel
theorem dX0_prepare_83 : decode cX0_prepare 83 = .ok (.isub, 1) := by decide +kernel
theorem dX0_prepare_84 : decode cX0_prepare 84 = .ok (.iload 5, 2) := by decide +kernel
theorem dX0_prepare_86 : decode cX0_prepare 86 = .ok (.invokevirtual 46, 3) := by decide +kernel
theorem dX0_prepare_89 : decode cX0_prepare 89 = .ok (.iload_n 2, 1) := by decide +kernel
theorem dX0_prepare_90 : decode cX0_prepare 90 = .ok (.ifCond .eq 12, 3) := by decide +kernel
theorem dX0_prepare_93 : decode cX0_prepare 93 = .ok (.aload_n 0, 1) := by decide +kernel
theorem dX0_prepare_94 : decode cX0_prepare 94 = .ok (.iload_n 1, 1) := by decide +kernel
theorem dX0_prepare_95 : decode cX0_prepare 95 = .ok (.iconst 1, 1) := by decide +kernel
theorem dX0_prepare_96 : decode cX0_prepare 96 = .ok (.isub, 1) := by decide +kernel
theorem dX0_prepare_97 : decode cX0_prepare 97 = .ok (.iload 4, 2) := by decide +kernel
theorem dX0_prepare_99 : decode cX0_prepare 99 = .ok (.invokevirtual 105, 3) := by decide +kernel
theorem dX0_prepare_102 : decode cX0_prepare 102 = .ok (.iinc 3 1, 3) := by decide +kernel
theorem dX0_prepare_105 : decode cX0_prepare 105 = .ok (.goto (-63), 3) := by decide +kernel
theorem dX0_prepare_108 : decode cX0_prepare 108 = .ok (.iinc 1 (-1), 3) := by decide +kernel
theorem dX0_prepare_111 : decode cX0_prepare 111 = .ok (.goto (-106), 3) := by decide +kernel
theorem dX0_prepare_114 : decode cX0_prepare 114 = .ok (.aload_n 0, 1) := by decide +kernel
theorem dX0_prepare_115 : decode cX0_prepare 115 = .ok (.getfield 38, 3) := by decide +kernel
theorem dX0_prepare_118 : decode cX0_prepare 118 = .ok (.getfield 108, 3) := by decide +kernel
theorem dX0_prepare_121 : decode cX0_prepare 121 = .ok (.bipush 36, 2) := by decide +kernel
theorem dX0_prepare_123 : decode cX0_prepare 123 = .ok (.aload_n 0, 1) := by decide +kernel
theorem dX0_prepare_124 : decode cX0_prepare 124 = .ok (.getfield 18, 3) := by decide +kernel
theorem dX0_prepare_127 : decode cX0_prepare 127 = .ok (.aload_n 0, 1) := by decide +kernel
theorem dX0_prepare_128 : decode cX0_prepare 128 = .ok (.getfield 15, 3) := by decide +kernel
theorem dX0_prepare_131 : decode cX0_prepare 131 = .ok (.iaload, 1) := by decide +kernel
theorem dX0_prepare_132 : decode cX0_prepare 132 = .ok (.imul, 1) := by decide +kernel
theorem dX0_prepare_133 : decode cX0_prepare 133 = .ok (.aload_n 0, 1) := by decide +kernel
theorem dX0_prepare_134 : decode cX0_prepare 134 = .ok (.getfield 25, 3) := by decide +kernel
theorem dX0_prepare_137 : decode cX0_prepare 137 = .ok (.bipush 36, 2) := by decide +kernel
theorem dX0_prepare_139 : decode cX0_prepare 139 = .ok (.aload_n 0, 1) := by decide +kernel
theorem dX0_prepare_140 : decode cX0_prepare 140 = .ok (.getfield 15, 3) := by decide +kernel
theorem dX0_prepare_143 : decode cX0_prepare 143 = .ok (.imul, 1) := by decide +kernel
theorem dX0_prepare_144 : decode cX0_prepare 144 = .ok (.bipush 36, 2) := by decide +kernel
theorem dX0_prepare_146 : decode cX0_prepare 146 = .ok (.invokestatic 63, 3) := by decide +kernel
theorem dX0_prepare_149 : decode cX0_prepare 149 = .ok (.return_, 1) := by decide +kernel
theorem dX0_wantAround_0 : decode cX0_wantAround 0 = .ok (.iconst 0, 1) := by decide +kernel
theorem dX0_wantAround_1 : decode cX0_wantAround 1 = .ok (.istore_n 3, 1) := by decide +kernel
theorem dX0_wantAround_2 : decode cX0_wantAround 2 = .ok (.iload_n 3, 1) := by decide +kernel
theorem dX0_wantAround_3 : decode cX0_wantAround 3 = .ok (.iconst 4, 1) := by decide +kernel
theorem dX0_wantAround_4 : decode cX0_wantAround 4 = .ok (.if_icmp .ge 33, 3) := by decide +kernel
theorem dX0_wantAround_7 : decode cX0_wantAround 7 = .ok (.aload_n 0, 1) := by decide +kernel
theorem dX0_wantAround_8 : decode cX0_wantAround 8 = .ok (.getfield 38, 3) := by decide +kernel
theorem dX0_wantAround_11 : decode cX0_wantAround 11 = .ok (.iload_n 2, 1) := by decide +kernel
theorem dX0_wantAround_12 : decode cX0_wantAround 12 = .ok (.iload_n 3, 1) := by decide +kernel
theorem dX0_wantAround_13 : decode cX0_wantAround 13 = .ok (.invokevirtual 111, 3) := by decide +kernel
theorem dX0_wantAround_16 : decode cX0_wantAround 16 = .ok (.istore 4, 2) := by decide +kernel
theorem dX0_wantAround_18 : decode cX0_wantAround 18 = .ok (.iload 4, 2) := by decide +kernel
theorem dX0_wantAround_20 : decode cX0_wantAround 20 = .ok (.iconst (-1), 1) := by decide +kernel
theorem dX0_wantAround_21 : decode cX0_wantAround 21 = .ok (.if_icmp .eq 10, 3) := by decide +kernel
theorem dX0_wantAround_24 : decode cX0_wantAround 24 = .ok (.aload_n 0, 1) := by decide +kernel
theorem dX0_wantAround_25 : decode cX0_wantAround 25 = .ok (.iload_n 1, 1) := by decide +kernel
theorem dX0_wantAround_26 : decode cX0_wantAround 26 = .ok (.iload 4, 2) := by decide +kernel
theorem dX0_wantAround_28 : decode cX0_wantAround 28 = .ok (.invokevirtual 46, 3) := by decide +kernel
theorem dX0_wantAround_31 : decode cX0_wantAround 31 = .ok (.iinc 3 1, 3) := by decide +kernel
theorem dX0_wantAround_34 : decode cX0_wantAround 34 = .ok (.goto (-32), 3) := by decide +kernel
theorem dX0_wantAround_37 : decode cX0_wantAround 37 = .ok (.return_, 1) := by decide +kernel
theorem dX0_source_0 : decode cX0_source 0 = .ok (.aload_n 0, 1) := by decide +kernel
theorem dX0_source_1 : decode cX0_source 1 = .ok (.getfield 38, 3) := by decide +kernel
theorem dX0_source_4 : decode cX0_source 4 = .ok (.getfield 93, 3) := by decide +kernel
theorem dX0_source_7 : decode cX0_source 7 = .ok (.iconst 4, 1) := by decide +kernel
theorem dX0_source_8 : decode cX0_source 8 = .ok (.aload_n 0, 1) := by decide +kernel
theorem dX0_source_9 : decode cX0_source 9 = .ok (.getfield 18, 3) := by decide +kernel
theorem dX0_source_12 : decode cX0_source 12 = .ok (.iload_n 1, 1) := by decide +kernel
theorem dX0_source_13 : decode cX0_source 13 = .ok (.iaload, 1) := by decide +kernel
theorem dX0_source_14 : decode cX0_source 14 = .ok (.imul, 1) := by decide +kernel
theorem dX0_source_15 : decode cX0_source 15 = .ok (.iaload, 1) := by decide +kernel
theorem dX0_source_16 : decode cX0_source 16 = .ok (.istore_n 3, 1) := by decide +kernel
theorem dX0_source_17 : decode cX0_source 17 = .ok (.iload_n 3, 1) := by decide +kernel
theorem dX0_source_18 : decode cX0_source 18 = .ok (.bipush 7, 2) := by decide +kernel
theorem dX0_source_20 : decode cX0_source 20 = .ok (.if_icmp .eq 9, 3) := by decide +kernel
theorem dX0_source_23 : decode cX0_source 23 = .ok (.iload_n 3, 1) := by decide +kernel
theorem dX0_source_24 : decode cX0_source 24 = .ok (.bipush 6, 2) := by decide +kernel
theorem dX0_source_26 : decode cX0_source 26 = .ok (.if_icmp .ne 5, 3) := by decide +kernel
theorem dX0_source_29 : decode cX0_source 29 = .ok (.iload_n 2, 1) := by decide +kernel
theorem dX0_source_30 : decode cX0_source 30 = .ok (.ireturn, 1) := by decide +kernel
theorem dX0_source_31 : decode cX0_source 31 = .ok (.aload_n 0, 1) := by decide +kernel
theorem dX0_source_32 : decode cX0_source 32 = .ok (.getfield 38, 3) := by decide +kernel
theorem dX0_source_35 : decode cX0_source 35 = .ok (.aload_n 0, 1) := by decide +kernel
theorem dX0_source_36 : decode cX0_source 36 = .ok (.getfield 18, 3) := by decide +kernel
theorem dX0_source_39 : decode cX0_source 39 = .ok (.iload_n 1, 1) := by decide +kernel
theorem dX0_source_40 : decode cX0_source 40 = .ok (.iaload, 1) := by decide +kernel
theorem dX0_source_41 : decode cX0_source 41 = .ok (.aload_n 0, 1) := by decide +kernel
theorem dX0_source_42 : decode cX0_source 42 = .ok (.getfield 25, 3) := by decide +kernel
theorem dX0_source_45 : decode cX0_source 45 = .ok (.iconst 0, 1) := by decide +kernel
theorem dX0_source_46 : decode cX0_source 46 = .ok (.iload_n 2, 1) := by decide +kernel
theorem dX0_source_47 : decode cX0_source 47 = .ok (.aload_n 0, 1) := by decide +kernel
theorem dX0_source_48 : decode cX0_source 48 = .ok (.getfield 22, 3) := by decide +kernel
theorem dX0_source_51 : decode cX0_source 51 = .ok (.iload_n 1, 1) := by decide +kernel
theorem dX0_source_52 : decode cX0_source 52 = .ok (.iaload, 1) := by decide +kernel
theorem dX0_source_53 : decode cX0_source 53 = .ok (.invokevirtual 114, 3) := by decide +kernel
theorem dX0_source_56 : decode cX0_source 56 = .ok (.ireturn, 1) := by decide +kernel
theorem dX0_build_0 : decode cX0_build 0 = .ok (.aload_n 0, 1) := by decide +kernel
theorem dX0_build_1 : decode cX0_build 1 = .ok (.getfield 15, 3) := by decide +kernel
theorem dX0_build_4 : decode cX0_build 4 = .ok (.iconst 1, 1) := by decide +kernel
theorem dX0_build_5 : decode cX0_build 5 = .ok (.iadd, 1) := by decide +kernel
theorem dX0_build_6 : decode cX0_build 6 = .ok (.istore_n 2, 1) := by decide +kernel
theorem dX0_build_7 : decode cX0_build 7 = .ok (.iload_n 2, 1) := by decide +kernel
theorem dX0_build_8 : decode cX0_build 8 = .ok (.aload_n 0, 1) := by decide +kernel
theorem dX0_build_9 : decode cX0_build 9 = .ok (.getfield 9, 3) := by decide +kernel
theorem dX0_build_12 : decode cX0_build 12 = .ok (.if_icmp .gt 87, 3) := by decide +kernel
theorem dX0_build_15 : decode cX0_build 15 = .ok (.bipush 36, 2) := by decide +kernel
theorem dX0_build_17 : decode cX0_build 17 = .ok (.iload_n 2, 1) := by decide +kernel
theorem dX0_build_18 : decode cX0_build 18 = .ok (.imul, 1) := by decide +kernel
theorem dX0_build_19 : decode cX0_build 19 = .ok (.istore_n 3, 1) := by decide +kernel
theorem dX0_build_20 : decode cX0_build 20 = .ok (.iload_n 3, 1) := by decide +kernel
theorem dX0_build_21 : decode cX0_build 21 = .ok (.bipush 36, 2) := by decide +kernel
theorem dX0_build_23 : decode cX0_build 23 = .ok (.isub, 1) := by decide +kernel
theorem dX0_build_24 : decode cX0_build 24 = .ok (.istore 4, 2) := by decide +kernel
theorem dX0_build_26 : decode cX0_build 26 = .ok (.iconst 0, 1) := by decide +kernel
theorem dX0_build_27 : decode cX0_build 27 = .ok (.istore 5, 2) := by decide +kernel
theorem dX0_build_29 : decode cX0_build 29 = .ok (.iload 5, 2) := by decide +kernel
theorem dX0_build_31 : decode cX0_build 31 = .ok (.aload_n 0, 1) := by decide +kernel
theorem dX0_build_32 : decode cX0_build 32 = .ok (.getfield 31, 3) := by decide +kernel
theorem dX0_build_35 : decode cX0_build 35 = .ok (.iload_n 2, 1) := by decide +kernel
theorem dX0_build_36 : decode cX0_build 36 = .ok (.iaload, 1) := by decide +kernel
theorem dX0_build_37 : decode cX0_build 37 = .ok (.if_icmp .ge 56, 3) := by decide +kernel
theorem dX0_build_40 : decode cX0_build 40 = .ok (.aload_n 0, 1) := by decide +kernel
theorem dX0_build_41 : decode cX0_build 41 = .ok (.getfield 28, 3) := by decide +kernel
theorem dX0_build_44 : decode cX0_build 44 = .ok (.iload_n 3, 1) := by decide +kernel
theorem dX0_build_45 : decode cX0_build 45 = .ok (.iload 5, 2) := by decide +kernel
theorem dX0_build_47 : decode cX0_build 47 = .ok (.iadd, 1) := by decide +kernel
theorem dX0_build_48 : decode cX0_build 48 = .ok (.iaload, 1) := by decide +kernel
theorem dX0_build_49 : decode cX0_build 49 = .ok (.istore 6, 2) := by decide +kernel
theorem dX0_build_51 : decode cX0_build 51 = .ok (.aload_n 0, 1) := by decide +kernel
theorem dX0_build_52 : decode cX0_build 52 = .ok (.getfield 25, 3) := by decide +kernel
theorem dX0_build_55 : decode cX0_build 55 = .ok (.iload_n 3, 1) := by decide +kernel
theorem dX0_build_56 : decode cX0_build 56 = .ok (.iload 6, 2) := by decide +kernel
theorem dX0_build_58 : decode cX0_build 58 = .ok (.iadd, 1) := by decide +kernel
theorem dX0_build_59 : decode cX0_build 59 = .ok (.aload_n 0, 1) := by decide +kernel
theorem dX0_build_60 : decode cX0_build 60 = .ok (.getfield 38, 3) := by decide +kernel
theorem dX0_build_63 : decode cX0_build 63 = .ok (.aload_n 0, 1) := by decide +kernel
theorem dX0_build_64 : decode cX0_build 64 = .ok (.getfield 18, 3) := by decide +kernel
theorem dX0_build_67 : decode cX0_build 67 = .ok (.iload_n 2, 1) := by decide +kernel
theorem dX0_build_68 : decode cX0_build 68 = .ok (.iaload, 1) := by decide +kernel
theorem dX0_build_69 : decode cX0_build 69 = .ok (.aload_n 0, 1) := by decide +kernel
theorem dX0_build_70 : decode cX0_build 70 = .ok (.getfield 25, 3) := by decide +kernel
theorem dX0_build_73 : decode cX0_build 73 = .ok (.iload 4, 2) := by decide +kernel
theorem dX0_build_75 : decode cX0_build 75 = .ok (.iload 6, 2) := by decide +kernel
theorem dX0_build_77 : decode cX0_build 77 = .ok (.aload_n 0, 1) := by decide +kernel
theorem dX0_build_78 : decode cX0_build 78 = .ok (.getfield 22, 3) := by decide +kernel
theorem dX0_build_81 : decode cX0_build 81 = .ok (.iload_n 2, 1) := by decide +kernel
theorem dX0_build_82 : decode cX0_build 82 = .ok (.iaload, 1) := by decide +kernel
theorem dX0_build_83 : decode cX0_build 83 = .ok (.invokevirtual 117, 3) := by decide +kernel
theorem dX0_build_86 : decode cX0_build 86 = .ok (.iastore, 1) := by decide +kernel
theorem dX0_build_87 : decode cX0_build 87 = .ok (.iinc 5 1, 3) := by decide +kernel
theorem dX0_build_90 : decode cX0_build 90 = .ok (.goto (-61), 3) := by decide +kernel
theorem dX0_build_93 : decode cX0_build 93 = .ok (.iinc 2 1, 3) := by decide +kernel
theorem dX0_build_96 : decode cX0_build 96 = .ok (.goto (-89), 3) := by decide +kernel
theorem dX0_build_99 : decode cX0_build 99 = .ok (.aload_n 0, 1) := by decide +kernel
theorem dX0_build_100 : decode cX0_build 100 = .ok (.getfield 25, 3) := by decide +kernel
theorem dX0_build_103 : decode cX0_build 103 = .ok (.bipush 36, 2) := by decide +kernel
theorem dX0_build_105 : decode cX0_build 105 = .ok (.aload_n 0, 1) := by decide +kernel
theorem dX0_build_106 : decode cX0_build 106 = .ok (.getfield 9, 3) := by decide +kernel
theorem dX0_build_109 : decode cX0_build 109 = .ok (.imul, 1) := by decide +kernel
theorem dX0_build_110 : decode cX0_build 110 = .ok (.iload_n 1, 1) := by decide +kernel
theorem dX0_build_111 : decode cX0_build 111 = .ok (.iadd, 1) := by decide +kernel
theorem dX0_build_112 : decode cX0_build 112 = .ok (.iaload, 1) := by decide +kernel
theorem dX0_build_113 : decode cX0_build 113 = .ok (.ireturn, 1) := by decide +kernel
theorem dX0_beginTown_0 : decode cX0_beginTown 0 = .ok (.aload_n 0, 1) := by decide +kernel
theorem dX0_beginTown_1 : decode cX0_beginTown 1 = .ok (.getfield 18, 3) := by decide +kernel
theorem dX0_beginTown_4 : decode cX0_beginTown 4 = .ok (.aload_n 0, 1) := by decide +kernel
theorem dX0_beginTown_5 : decode cX0_beginTown 5 = .ok (.getfield 15, 3) := by decide +kernel
theorem dX0_beginTown_8 : decode cX0_beginTown 8 = .ok (.iaload, 1) := by decide +kernel
theorem dX0_beginTown_9 : decode cX0_beginTown 9 = .ok (.ireturn, 1) := by decide +kernel
theorem dX0_matters_0 : decode cX0_matters 0 = .ok (.aload_n 0, 1) := by decide +kernel
theorem dX0_matters_1 : decode cX0_matters 1 = .ok (.getfield 34, 3) := by decide +kernel
theorem dX0_matters_4 : decode cX0_matters 4 = .ok (.aload_n 0, 1) := by decide +kernel
theorem dX0_matters_5 : decode cX0_matters 5 = .ok (.getfield 15, 3) := by decide +kernel
theorem dX0_matters_8 : decode cX0_matters 8 = .ok (.laload, 1) := by decide +kernel
theorem dX0_matters_9 : decode cX0_matters 9 = .ok (.iload_n 1, 1) := by decide +kernel
theorem dX0_matters_10 : decode cX0_matters 10 = .ok (.lushr, 1) := by decide +kernel
theorem dX0_matters_11 : decode cX0_matters 11 = .ok (.lconst 1, 1) := by decide +kernel
theorem dX0_matters_12 : decode cX0_matters 12 = .ok (.land, 1) := by decide +kernel
theorem dX0_matters_13 : decode cX0_matters 13 = .ok (.lconst 0, 1) := by decide +kernel
theorem dX0_matters_14 : decode cX0_matters 14 = .ok (.lcmp, 1) := by decide +kernel
theorem dX0_matters_15 : decode cX0_matters 15 = .ok (.ifCond .eq 7, 3) := by decide +kernel
theorem dX0_matters_18 : decode cX0_matters 18 = .ok (.iconst 1, 1) := by decide +kernel
theorem dX0_matters_19 : decode cX0_matters 19 = .ok (.goto 4, 3) := by decide +kernel
theorem dX0_matters_22 : decode cX0_matters 22 = .ok (.iconst 0, 1) := by decide +kernel
theorem dX0_matters_23 : decode cX0_matters 23 = .ok (.ireturn, 1) := by decide +kernel
theorem dX0_beginMark_0 : decode cX0_beginMark 0 = .ok (.aload_n 0, 1) := by decide +kernel
theorem dX0_beginMark_1 : decode cX0_beginMark 1 = .ok (.getfield 25, 3) := by decide +kernel
theorem dX0_beginMark_4 : decode cX0_beginMark 4 = .ok (.bipush 36, 2) := by decide +kernel
theorem dX0_beginMark_6 : decode cX0_beginMark 6 = .ok (.aload_n 0, 1) := by decide +kernel
theorem dX0_beginMark_7 : decode cX0_beginMark 7 = .ok (.getfield 15, 3) := by decide +kernel
theorem dX0_beginMark_10 : decode cX0_beginMark 10 = .ok (.imul, 1) := by decide +kernel
theorem dX0_beginMark_11 : decode cX0_beginMark 11 = .ok (.iload_n 1, 1) := by decide +kernel
theorem dX0_beginMark_12 : decode cX0_beginMark 12 = .ok (.iadd, 1) := by decide +kernel
theorem dX0_beginMark_13 : decode cX0_beginMark 13 = .ok (.iaload, 1) := by decide +kernel
theorem dX0_beginMark_14 : decode cX0_beginMark 14 = .ok (.ireturn, 1) := by decide +kernel
theorem dX0_sourceOf_0 : decode cX0_sourceOf 0 = .ok (.iload_n 1, 1) := by decide +kernel
theorem dX0_sourceOf_1 : decode cX0_sourceOf 1 = .ok (.istore_n 2, 1) := by decide +kernel
theorem dX0_sourceOf_2 : decode cX0_sourceOf 2 = .ok (.aload_n 0, 1) := by decide +kernel
theorem dX0_sourceOf_3 : decode cX0_sourceOf 3 = .ok (.getfield 9, 3) := by decide +kernel
theorem dX0_sourceOf_6 : decode cX0_sourceOf 6 = .ok (.istore_n 3, 1) := by decide +kernel
theorem dX0_sourceOf_7 : decode cX0_sourceOf 7 = .ok (.iload_n 3, 1) := by decide +kernel
theorem dX0_sourceOf_8 : decode cX0_sourceOf 8 = .ok (.aload_n 0, 1) := by decide +kernel
theorem dX0_sourceOf_9 : decode cX0_sourceOf 9 = .ok (.getfield 15, 3) := by decide +kernel
theorem dX0_sourceOf_12 : decode cX0_sourceOf 12 = .ok (.if_icmp .le 45, 3) := by decide +kernel
theorem dX0_sourceOf_15 : decode cX0_sourceOf 15 = .ok (.iload_n 2, 1) := by decide +kernel
theorem dX0_sourceOf_16 : decode cX0_sourceOf 16 = .ok (.iconst (-1), 1) := by decide +kernel
theorem dX0_sourceOf_17 : decode cX0_sourceOf 17 = .ok (.if_icmp .eq 40, 3) := by decide +kernel
theorem dX0_sourceOf_20 : decode cX0_sourceOf 20 = .ok (.aload_n 0, 1) := by decide +kernel
theorem dX0_sourceOf_21 : decode cX0_sourceOf 21 = .ok (.getfield 38, 3) := by decide +kernel
theorem dX0_sourceOf_24 : decode cX0_sourceOf 24 = .ok (.aload_n 0, 1) := by decide +kernel
theorem dX0_sourceOf_25 : decode cX0_sourceOf 25 = .ok (.getfield 18, 3) := by decide +kernel
theorem dX0_sourceOf_28 : decode cX0_sourceOf 28 = .ok (.iload_n 3, 1) := by decide +kernel
theorem dX0_sourceOf_29 : decode cX0_sourceOf 29 = .ok (.iaload, 1) := by decide +kernel
theorem dX0_sourceOf_30 : decode cX0_sourceOf 30 = .ok (.aload_n 0, 1) := by decide +kernel
theorem dX0_sourceOf_31 : decode cX0_sourceOf 31 = .ok (.getfield 25, 3) := by decide +kernel
theorem dX0_sourceOf_34 : decode cX0_sourceOf 34 = .ok (.bipush 36, 2) := by decide +kernel
theorem dX0_sourceOf_36 : decode cX0_sourceOf 36 = .ok (.iload_n 3, 1) := by decide +kernel
theorem dX0_sourceOf_37 : decode cX0_sourceOf 37 = .ok (.iconst 1, 1) := by decide +kernel
theorem dX0_sourceOf_38 : decode cX0_sourceOf 38 = .ok (.isub, 1) := by decide +kernel
theorem dX0_sourceOf_39 : decode cX0_sourceOf 39 = .ok (.imul, 1) := by decide +kernel
theorem dX0_sourceOf_40 : decode cX0_sourceOf 40 = .ok (.iload_n 2, 1) := by decide +kernel
theorem dX0_sourceOf_41 : decode cX0_sourceOf 41 = .ok (.aload_n 0, 1) := by decide +kernel
theorem dX0_sourceOf_42 : decode cX0_sourceOf 42 = .ok (.getfield 22, 3) := by decide +kernel
theorem dX0_sourceOf_45 : decode cX0_sourceOf 45 = .ok (.iload_n 3, 1) := by decide +kernel
theorem dX0_sourceOf_46 : decode cX0_sourceOf 46 = .ok (.iaload, 1) := by decide +kernel
theorem dX0_sourceOf_47 : decode cX0_sourceOf 47 = .ok (.invokevirtual 114, 3) := by decide +kernel
theorem dX0_sourceOf_50 : decode cX0_sourceOf 50 = .ok (.istore_n 2, 1) := by decide +kernel
theorem dX0_sourceOf_51 : decode cX0_sourceOf 51 = .ok (.iinc 3 (-1), 3) := by decide +kernel
theorem dX0_sourceOf_54 : decode cX0_sourceOf 54 = .ok (.goto (-47), 3) := by decide +kernel
theorem dX0_sourceOf_57 : decode cX0_sourceOf 57 = .ok (.iload_n 2, 1) := by decide +kernel
theorem dX0_sourceOf_58 : decode cX0_sourceOf 58 = .ok (.ireturn, 1) := by decide +kernel
theorem dX1_init_0 : decode cX1_init 0 = .ok (.aload_n 0, 1) := by decide +kernel
theorem dX1_init_1 : decode cX1_init 1 = .ok (.invokespecial 3, 3) := by decide +kernel
theorem dX1_init_4 : decode cX1_init 4 = .ok (.aload_n 0, 1) := by decide +kernel
theorem dX1_init_5 : decode cX1_init 5 = .ok (.iconst 0, 1) := by decide +kernel
theorem dX1_init_6 : decode cX1_init 6 = .ok (.putfield 9, 3) := by decide +kernel
theorem dX1_init_9 : decode cX1_init 9 = .ok (.aload_n 0, 1) := by decide +kernel
theorem dX1_init_10 : decode cX1_init 10 = .ok (.sipush 625, 3) := by decide +kernel
theorem dX1_init_13 : decode cX1_init 13 = .ok (.newarray .int, 2) := by decide +kernel
theorem dX1_init_15 : decode cX1_init 15 = .ok (.putfield 15, 3) := by decide +kernel
theorem dX1_init_18 : decode cX1_init 18 = .ok (.aload_n 0, 1) := by decide +kernel
theorem dX1_init_19 : decode cX1_init 19 = .ok (.iconst 0, 1) := by decide +kernel
theorem dX1_init_20 : decode cX1_init 20 = .ok (.putfield 19, 3) := by decide +kernel
theorem dX1_init_23 : decode cX1_init 23 = .ok (.aload_n 0, 1) := by decide +kernel
theorem dX1_init_24 : decode cX1_init 24 = .ok (.aload_n 1, 1) := by decide +kernel
theorem dX1_init_25 : decode cX1_init 25 = .ok (.putfield 23, 3) := by decide +kernel
theorem dX1_init_28 : decode cX1_init 28 = .ok (.return_, 1) := by decide +kernel
theorem dX1_firstNotSo_0 : decode cX1_firstNotSo 0 = .ok (.iconst 0, 1) := by decide +kernel
theorem dX1_firstNotSo_1 : decode cX1_firstNotSo 1 = .ok (.istore_n 3, 1) := by decide +kernel
theorem dX1_firstNotSo_2 : decode cX1_firstNotSo 2 = .ok (.iload_n 3, 1) := by decide +kernel
theorem dX1_firstNotSo_3 : decode cX1_firstNotSo 3 = .ok (.aload_n 1, 1) := by decide +kernel
theorem dX1_firstNotSo_4 : decode cX1_firstNotSo 4 = .ok (.getfield 27, 3) := by decide +kernel
theorem dX1_firstNotSo_7 : decode cX1_firstNotSo 7 = .ok (.if_icmp .ge 50, 3) := by decide +kernel
theorem dX1_firstNotSo_10 : decode cX1_firstNotSo 10 = .ok (.aload_n 0, 1) := by decide +kernel
theorem dX1_firstNotSo_11 : decode cX1_firstNotSo 11 = .ok (.getfield 23, 3) := by decide +kernel
theorem dX1_firstNotSo_14 : decode cX1_firstNotSo 14 = .ok (.aload_n 2, 1) := by decide +kernel
theorem dX1_firstNotSo_15 : decode cX1_firstNotSo 15 = .ok (.aload_n 1, 1) := by decide +kernel
theorem dX1_firstNotSo_16 : decode cX1_firstNotSo 16 = .ok (.getfield 32, 3) := by decide +kernel
theorem dX1_firstNotSo_19 : decode cX1_firstNotSo 19 = .ok (.iload_n 3, 1) := by decide +kernel
theorem dX1_firstNotSo_20 : decode cX1_firstNotSo 20 = .ok (.iaload, 1) := by decide +kernel
theorem dX1_firstNotSo_21 : decode cX1_firstNotSo 21 = .ok (.aload_n 1, 1) := by decide +kernel
theorem dX1_firstNotSo_22 : decode cX1_firstNotSo 22 = .ok (.getfield 35, 3) := by decide +kernel
theorem dX1_firstNotSo_25 : decode cX1_firstNotSo 25 = .ok (.iload_n 3, 1) := by decide +kernel
theorem dX1_firstNotSo_26 : decode cX1_firstNotSo 26 = .ok (.iaload, 1) := by decide +kernel
theorem dX1_firstNotSo_27 : decode cX1_firstNotSo 27 = .ok (.aload_n 1, 1) := by decide +kernel
theorem dX1_firstNotSo_28 : decode cX1_firstNotSo 28 = .ok (.getfield 38, 3) := by decide +kernel
theorem dX1_firstNotSo_31 : decode cX1_firstNotSo 31 = .ok (.iload_n 3, 1) := by decide +kernel
theorem dX1_firstNotSo_32 : decode cX1_firstNotSo 32 = .ok (.iaload, 1) := by decide +kernel
theorem dX1_firstNotSo_33 : decode cX1_firstNotSo 33 = .ok (.invokevirtual 41, 3) := by decide +kernel
theorem dX1_firstNotSo_36 : decode cX1_firstNotSo 36 = .ok (.istore 4, 2) := by decide +kernel
theorem dX1_firstNotSo_38 : decode cX1_firstNotSo 38 = .ok (.iload 4, 2) := by decide +kernel
theorem dX1_firstNotSo_40 : decode cX1_firstNotSo 40 = .ok (.aload_n 1, 1) := by decide +kernel
theorem dX1_firstNotSo_41 : decode cX1_firstNotSo 41 = .ok (.getfield 47, 3) := by decide +kernel
theorem dX1_firstNotSo_44 : decode cX1_firstNotSo 44 = .ok (.iload_n 3, 1) := by decide +kernel
theorem dX1_firstNotSo_45 : decode cX1_firstNotSo 45 = .ok (.iaload, 1) := by decide +kernel
theorem dX1_firstNotSo_46 : decode cX1_firstNotSo 46 = .ok (.if_icmp .eq 5, 3) := by decide +kernel
theorem dX1_firstNotSo_49 : decode cX1_firstNotSo 49 = .ok (.iload_n 3, 1) := by decide +kernel
theorem dX1_firstNotSo_50 : decode cX1_firstNotSo 50 = .ok (.ireturn, 1) := by decide +kernel
theorem dX1_firstNotSo_51 : decode cX1_firstNotSo 51 = .ok (.iinc 3 1, 3) := by decide +kernel
theorem dX1_firstNotSo_54 : decode cX1_firstNotSo 54 = .ok (.goto (-52), 3) := by decide +kernel
theorem dX1_firstNotSo_57 : decode cX1_firstNotSo 57 = .ok (.bipush (-2), 2) := by decide +kernel
theorem dX1_firstNotSo_59 : decode cX1_firstNotSo 59 = .ok (.ireturn, 1) := by decide +kernel
theorem dX1_find_0 : decode cX1_find 0 = .ok (.aload_n 0, 1) := by decide +kernel
theorem dX1_find_1 : decode cX1_find 1 = .ok (.getfield 9, 3) := by decide +kernel
theorem dX1_find_4 : decode cX1_find 4 = .ok (.ifCond .eq 4, 3) := by decide +kernel
theorem dX1_find_7 : decode cX1_find 7 = .ok (.return_, 1) := by decide +kernel
theorem dX1_find_8 : decode cX1_find 8 = .ok (.aload_n 0, 1) := by decide +kernel
theorem dX1_find_9 : decode cX1_find 9 = .ok (.iconst 1, 1) := by decide +kernel
theorem dX1_find_10 : decode cX1_find 10 = .ok (.putfield 9, 3) := by decide +kernel
theorem dX1_find_13 : decode cX1_find 13 = .ok (.aload_n 0, 1) := by decide +kernel
theorem dX1_find_14 : decode cX1_find 14 = .ok (.iconst 0, 1) := by decide +kernel
theorem dX1_find_15 : decode cX1_find 15 = .ok (.putfield 19, 3) := by decide +kernel
theorem dX1_find_18 : decode cX1_find 18 = .ok (.aload_n 1, 1) := by decide +kernel
theorem dX1_find_19 : decode cX1_find 19 = .ok (.aload_n 1, 1) := by decide +kernel
theorem dX1_find_20 : decode cX1_find 20 = .ok (.invokevirtual 50, 3) := by decide +kernel
theorem dX1_find_23 : decode cX1_find 23 = .ok (.invokestatic 54, 3) := by decide +kernel
theorem dX1_find_26 : decode cX1_find 26 = .ok (.istore_n 3, 1) := by decide +kernel
theorem dX1_find_27 : decode cX1_find 27 = .ok (.aload_n 2, 1) := by decide +kernel
theorem dX1_find_28 : decode cX1_find 28 = .ok (.aload_n 1, 1) := by decide +kernel
theorem dX1_find_29 : decode cX1_find 29 = .ok (.getfield 58, 3) := by decide +kernel
theorem dX1_find_32 : decode cX1_find 32 = .ok (.invokevirtual 62, 3) := by decide +kernel
theorem dX1_find_35 : decode cX1_find 35 = .ok (.iconst 0, 1) := by decide +kernel
theorem dX1_find_36 : decode cX1_find 36 = .ok (.istore 4, 2) := by decide +kernel
theorem dX1_find_38 : decode cX1_find 38 = .ok (.iload 4, 2) := by decide +kernel
theorem dX1_find_40 : decode cX1_find 40 = .ok (.iload_n 3, 1) := by decide +kernel
theorem dX1_find_41 : decode cX1_find 41 = .ok (.if_icmp .ge 49, 3) := by decide +kernel
theorem dX1_find_44 : decode cX1_find 44 = .ok (.aload_n 0, 1) := by decide +kernel
theorem dX1_find_45 : decode cX1_find 45 = .ok (.aload_n 1, 1) := by decide +kernel
theorem dX1_find_46 : decode cX1_find 46 = .ok (.aload_n 2, 1) := by decide +kernel
theorem dX1_find_47 : decode cX1_find 47 = .ok (.iload 4, 2) := by decide +kernel
theorem dX1_find_49 : decode cX1_find 49 = .ok (.invokevirtual 68, 3) := by decide +kernel
theorem dX1_find_52 : decode cX1_find 52 = .ok (.aload_n 0, 1) := by decide +kernel
theorem dX1_find_53 : decode cX1_find 53 = .ok (.aload_n 1, 1) := by decide +kernel
theorem dX1_find_54 : decode cX1_find 54 = .ok (.aload_n 2, 1) := by decide +kernel
theorem dX1_find_55 : decode cX1_find 55 = .ok (.invokevirtual 72, 3) := by decide +kernel
theorem dX1_find_58 : decode cX1_find 58 = .ok (.bipush (-2), 2) := by decide +kernel
theorem dX1_find_60 : decode cX1_find 60 = .ok (.if_icmp .ne 24, 3) := by decide +kernel
theorem dX1_find_63 : decode cX1_find 63 = .ok (.aload_n 0, 1) := by decide +kernel
theorem dX1_find_64 : decode cX1_find 64 = .ok (.getfield 15, 3) := by decide +kernel
theorem dX1_find_67 : decode cX1_find 67 = .ok (.aload_n 0, 1) := by decide +kernel
theorem dX1_find_68 : decode cX1_find 68 = .ok (.getfield 19, 3) := by decide +kernel
theorem dX1_find_71 : decode cX1_find 71 = .ok (.iload 4, 2) := by decide +kernel
theorem dX1_find_73 : decode cX1_find 73 = .ok (.iastore, 1) := by decide +kernel
theorem dX1_find_74 : decode cX1_find 74 = .ok (.aload_n 0, 1) := by decide +kernel
theorem dX1_find_75 : decode cX1_find 75 = .ok (.dup, 1) := by decide +kernel
theorem dX1_find_76 : decode cX1_find 76 = .ok (.getfield 19, 3) := by decide +kernel
theorem dX1_find_79 : decode cX1_find 79 = .ok (.iconst 1, 1) := by decide +kernel
theorem dX1_find_80 : decode cX1_find 80 = .ok (.iadd, 1) := by decide +kernel
theorem dX1_find_81 : decode cX1_find 81 = .ok (.putfield 19, 3) := by decide +kernel
theorem dX1_find_84 : decode cX1_find 84 = .ok (.iinc 4 1, 3) := by decide +kernel
theorem dX1_find_87 : decode cX1_find 87 = .ok (.goto (-49), 3) := by decide +kernel
theorem dX1_find_90 : decode cX1_find 90 = .ok (.return_, 1) := by decide +kernel
theorem dX1_weight_0 : decode cX1_weight 0 = .ok (.iconst 1, 1) := by decide +kernel
theorem dX1_weight_1 : decode cX1_weight 1 = .ok (.istore_n 2, 1) := by decide +kernel
theorem dX1_weight_2 : decode cX1_weight 2 = .ok (.iconst 0, 1) := by decide +kernel
theorem dX1_weight_3 : decode cX1_weight 3 = .ok (.istore_n 3, 1) := by decide +kernel
theorem dX1_weight_4 : decode cX1_weight 4 = .ok (.iload_n 3, 1) := by decide +kernel
theorem dX1_weight_5 : decode cX1_weight 5 = .ok (.iload_n 1, 1) := by decide +kernel
theorem dX1_weight_6 : decode cX1_weight 6 = .ok (.if_icmp .ge 21, 3) := by decide +kernel
theorem dX1_weight_9 : decode cX1_weight 9 = .ok (.iload_n 3, 1) := by decide +kernel
theorem dX1_weight_10 : decode cX1_weight 10 = .ok (.iconst 4, 1) := by decide +kernel
theorem dX1_weight_11 : decode cX1_weight 11 = .ok (.if_icmp .ge 16, 3) := by decide +kernel
theorem dX1_weight_14 : decode cX1_weight 14 = .ok (.iload_n 2, 1) := by decide +kernel
theorem dX1_weight_15 : decode cX1_weight 15 = .ok (.aload_n 0, 1) := by decide +kernel
theorem dX1_weight_16 : decode cX1_weight 16 = .ok (.getfield 76, 3) := by decide +kernel
theorem dX1_weight_19 : decode cX1_weight 19 = .ok (.imul, 1) := by decide +kernel
theorem dX1_weight_20 : decode cX1_weight 20 = .ok (.istore_n 2, 1) := by decide +kernel
theorem dX1_weight_21 : decode cX1_weight 21 = .ok (.iinc 3 1, 3) := by decide +kernel
theorem dX1_weight_24 : decode cX1_weight 24 = .ok (.goto (-20), 3) := by decide +kernel
theorem dX1_weight_27 : decode cX1_weight 27 = .ok (.iload_n 2, 1) := by decide +kernel
theorem dX1_weight_28 : decode cX1_weight 28 = .ok (.ireturn, 1) := by decide +kernel
theorem dX1_setGuesses_0 : decode cX1_setGuesses 0 = .ok (.iconst 0, 1) := by decide +kernel
theorem dX1_setGuesses_1 : decode cX1_setGuesses 1 = .ok (.istore 4, 2) := by decide +kernel
theorem dX1_setGuesses_3 : decode cX1_setGuesses 3 = .ok (.iconst 0, 1) := by decide +kernel
theorem dX1_setGuesses_4 : decode cX1_setGuesses 4 = .ok (.istore 5, 2) := by decide +kernel
theorem dX1_setGuesses_6 : decode cX1_setGuesses 6 = .ok (.iload 5, 2) := by decide +kernel
theorem dX1_setGuesses_8 : decode cX1_setGuesses 8 = .ok (.aload_n 1, 1) := by decide +kernel
theorem dX1_setGuesses_9 : decode cX1_setGuesses 9 = .ok (.getfield 58, 3) := by decide +kernel
theorem dX1_setGuesses_12 : decode cX1_setGuesses 12 = .ok (.getfield 79, 3) := by decide +kernel
theorem dX1_setGuesses_15 : decode cX1_setGuesses 15 = .ok (.if_icmp .ge 51, 3) := by decide +kernel
theorem dX1_setGuesses_18 : decode cX1_setGuesses 18 = .ok (.aload_n 1, 1) := by decide +kernel
theorem dX1_setGuesses_19 : decode cX1_setGuesses 19 = .ok (.iload 5, 2) := by decide +kernel
theorem dX1_setGuesses_21 : decode cX1_setGuesses 21 = .ok (.invokevirtual 82, 3) := by decide +kernel
theorem dX1_setGuesses_24 : decode cX1_setGuesses 24 = .ok (.ifCond .eq 36, 3) := by decide +kernel
theorem dX1_setGuesses_27 : decode cX1_setGuesses 27 = .ok (.aload_n 0, 1) := by decide +kernel
theorem dX1_setGuesses_28 : decode cX1_setGuesses 28 = .ok (.aload_n 1, 1) := by decide +kernel
theorem dX1_setGuesses_29 : decode cX1_setGuesses 29 = .ok (.iload_n 3, 1) := by decide +kernel
theorem dX1_setGuesses_30 : decode cX1_setGuesses 30 = .ok (.iload 4, 2) := by decide +kernel
theorem dX1_setGuesses_32 : decode cX1_setGuesses 32 = .ok (.invokevirtual 86, 3) := by decide +kernel
theorem dX1_setGuesses_35 : decode cX1_setGuesses 35 = .ok (.istore 6, 2) := by decide +kernel
theorem dX1_setGuesses_37 : decode cX1_setGuesses 37 = .ok (.aload_n 1, 1) := by decide +kernel
theorem dX1_setGuesses_38 : decode cX1_setGuesses 38 = .ok (.getfield 90, 3) := by decide +kernel
theorem dX1_setGuesses_41 : decode cX1_setGuesses 41 = .ok (.iconst 4, 1) := by decide +kernel
theorem dX1_setGuesses_42 : decode cX1_setGuesses 42 = .ok (.iload 6, 2) := by decide +kernel
theorem dX1_setGuesses_44 : decode cX1_setGuesses 44 = .ok (.imul, 1) := by decide +kernel
theorem dX1_setGuesses_45 : decode cX1_setGuesses 45 = .ok (.aload_n 2, 1) := by decide +kernel
theorem dX1_setGuesses_46 : decode cX1_setGuesses 46 = .ok (.getfield 93, 3) := by decide +kernel
theorem dX1_setGuesses_49 : decode cX1_setGuesses 49 = .ok (.iconst 4, 1) := by decide +kernel
theorem dX1_setGuesses_50 : decode cX1_setGuesses 50 = .ok (.iload 5, 2) := by decide +kernel
theorem dX1_setGuesses_52 : decode cX1_setGuesses 52 = .ok (.imul, 1) := by decide +kernel
theorem dX1_setGuesses_53 : decode cX1_setGuesses 53 = .ok (.iconst 4, 1) := by decide +kernel
theorem dX1_setGuesses_54 : decode cX1_setGuesses 54 = .ok (.invokestatic 96, 3) := by decide +kernel
theorem dX1_setGuesses_57 : decode cX1_setGuesses 57 = .ok (.iinc 4 1, 3) := by decide +kernel
theorem dX1_setGuesses_60 : decode cX1_setGuesses 60 = .ok (.iinc 5 1, 3) := by decide +kernel
theorem dX1_setGuesses_63 : decode cX1_setGuesses 63 = .ok (.goto (-57), 3) := by decide +kernel
theorem dX1_setGuesses_66 : decode cX1_setGuesses 66 = .ok (.return_, 1) := by decide +kernel
theorem dX1_guessIn_0 : decode cX1_guessIn 0 = .ok (.aload_n 1, 1) := by decide +kernel
theorem dX1_guessIn_1 : decode cX1_guessIn 1 = .ok (.aload_n 1, 1) := by decide +kernel
theorem dX1_guessIn_2 : decode cX1_guessIn 2 = .ok (.invokevirtual 50, 3) := by decide +kernel
theorem dX1_guessIn_5 : decode cX1_guessIn 5 = .ok (.iconst 1, 1) := by decide +kernel
theorem dX1_guessIn_6 : decode cX1_guessIn 6 = .ok (.isub, 1) := by decide +kernel
theorem dX1_guessIn_7 : decode cX1_guessIn 7 = .ok (.iload_n 3, 1) := by decide +kernel
theorem dX1_guessIn_8 : decode cX1_guessIn 8 = .ok (.isub, 1) := by decide +kernel
theorem dX1_guessIn_9 : decode cX1_guessIn 9 = .ok (.invokestatic 54, 3) := by decide +kernel
theorem dX1_guessIn_12 : decode cX1_guessIn 12 = .ok (.istore 4, 2) := by decide +kernel
theorem dX1_guessIn_14 : decode cX1_guessIn 14 = .ok (.iload 4, 2) := by decide +kernel
theorem dX1_guessIn_16 : decode cX1_guessIn 16 = .ok (.ifCond .le 22, 3) := by decide +kernel
theorem dX1_guessIn_19 : decode cX1_guessIn 19 = .ok (.aload_n 1, 1) := by decide +kernel
theorem dX1_guessIn_20 : decode cX1_guessIn 20 = .ok (.getfield 76, 3) := by decide +kernel
theorem dX1_guessIn_23 : decode cX1_guessIn 23 = .ok (.ifCond .le 15, 3) := by decide +kernel
theorem dX1_guessIn_26 : decode cX1_guessIn 26 = .ok (.iload_n 2, 1) := by decide +kernel
theorem dX1_guessIn_27 : decode cX1_guessIn 27 = .ok (.iload 4, 2) := by decide +kernel
theorem dX1_guessIn_29 : decode cX1_guessIn 29 = .ok (.idiv, 1) := by decide +kernel
theorem dX1_guessIn_30 : decode cX1_guessIn 30 = .ok (.aload_n 1, 1) := by decide +kernel
theorem dX1_guessIn_31 : decode cX1_guessIn 31 = .ok (.getfield 76, 3) := by decide +kernel
theorem dX1_guessIn_34 : decode cX1_guessIn 34 = .ok (.irem, 1) := by decide +kernel
theorem dX1_guessIn_35 : decode cX1_guessIn 35 = .ok (.goto 4, 3) := by decide +kernel
theorem dX1_guessIn_38 : decode cX1_guessIn 38 = .ok (.iconst 0, 1) := by decide +kernel
theorem dX1_guessIn_39 : decode cX1_guessIn 39 = .ok (.ireturn, 1) := by decide +kernel
theorem dX1_sureGuess_0 : decode cX1_sureGuess 0 = .ok (.aload_n 0, 1) := by decide +kernel
theorem dX1_sureGuess_1 : decode cX1_sureGuess 1 = .ok (.getfield 19, 3) := by decide +kernel
theorem dX1_sureGuess_4 : decode cX1_sureGuess 4 = .ok (.ifCond .ne 6, 3) := by decide +kernel
theorem dX1_sureGuess_7 : decode cX1_sureGuess 7 = .ok (.bipush (-2), 2) := by decide +kernel
theorem dX1_sureGuess_9 : decode cX1_sureGuess 9 = .ok (.ireturn, 1) := by decide +kernel
theorem dX1_sureGuess_10 : decode cX1_sureGuess 10 = .ok (.aload_n 0, 1) := by decide +kernel
theorem dX1_sureGuess_11 : decode cX1_sureGuess 11 = .ok (.aload_n 1, 1) := by decide +kernel
theorem dX1_sureGuess_12 : decode cX1_sureGuess 12 = .ok (.aload_n 0, 1) := by decide +kernel
theorem dX1_sureGuess_13 : decode cX1_sureGuess 13 = .ok (.getfield 15, 3) := by decide +kernel
theorem dX1_sureGuess_16 : decode cX1_sureGuess 16 = .ok (.iconst 0, 1) := by decide +kernel
theorem dX1_sureGuess_17 : decode cX1_sureGuess 17 = .ok (.iaload, 1) := by decide +kernel
theorem dX1_sureGuess_18 : decode cX1_sureGuess 18 = .ok (.iload_n 2, 1) := by decide +kernel
theorem dX1_sureGuess_19 : decode cX1_sureGuess 19 = .ok (.invokevirtual 86, 3) := by decide +kernel
theorem dX1_sureGuess_22 : decode cX1_sureGuess 22 = .ok (.istore_n 3, 1) := by decide +kernel
theorem dX1_sureGuess_23 : decode cX1_sureGuess 23 = .ok (.iconst 1, 1) := by decide +kernel
theorem dX1_sureGuess_24 : decode cX1_sureGuess 24 = .ok (.istore 4, 2) := by decide +kernel
theorem dX1_sureGuess_26 : decode cX1_sureGuess 26 = .ok (.iload 4, 2) := by decide +kernel
theorem dX1_sureGuess_28 : decode cX1_sureGuess 28 = .ok (.aload_n 0, 1) := by decide +kernel
theorem dX1_sureGuess_29 : decode cX1_sureGuess 29 = .ok (.getfield 19, 3) := by decide +kernel
theorem dX1_sureGuess_32 : decode cX1_sureGuess 32 = .ok (.if_icmp .ge 29, 3) := by decide +kernel
theorem dX1_sureGuess_35 : decode cX1_sureGuess 35 = .ok (.aload_n 0, 1) := by decide +kernel
theorem dX1_sureGuess_36 : decode cX1_sureGuess 36 = .ok (.aload_n 1, 1) := by decide +kernel
theorem dX1_sureGuess_37 : decode cX1_sureGuess 37 = .ok (.aload_n 0, 1) := by decide +kernel
theorem dX1_sureGuess_38 : decode cX1_sureGuess 38 = .ok (.getfield 15, 3) := by decide +kernel
theorem dX1_sureGuess_41 : decode cX1_sureGuess 41 = .ok (.iload 4, 2) := by decide +kernel
theorem dX1_sureGuess_43 : decode cX1_sureGuess 43 = .ok (.iaload, 1) := by decide +kernel
theorem dX1_sureGuess_44 : decode cX1_sureGuess 44 = .ok (.iload_n 2, 1) := by decide +kernel
theorem dX1_sureGuess_45 : decode cX1_sureGuess 45 = .ok (.invokevirtual 86, 3) := by decide +kernel
theorem dX1_sureGuess_48 : decode cX1_sureGuess 48 = .ok (.iload_n 3, 1) := by decide +kernel
theorem dX1_sureGuess_49 : decode cX1_sureGuess 49 = .ok (.if_icmp .eq 6, 3) := by decide +kernel
theorem dX1_sureGuess_52 : decode cX1_sureGuess 52 = .ok (.bipush (-2), 2) := by decide +kernel
theorem dX1_sureGuess_54 : decode cX1_sureGuess 54 = .ok (.ireturn, 1) := by decide +kernel
theorem dX1_sureGuess_55 : decode cX1_sureGuess 55 = .ok (.iinc 4 1, 3) := by decide +kernel
theorem dX1_sureGuess_58 : decode cX1_sureGuess 58 = .ok (.goto (-32), 3) := by decide +kernel
theorem dX1_sureGuess_61 : decode cX1_sureGuess 61 = .ok (.iload_n 3, 1) := by decide +kernel
theorem dX1_sureGuess_62 : decode cX1_sureGuess 62 = .ok (.ireturn, 1) := by decide +kernel
theorem dX2_init_0 : decode cX2_init 0 = .ok (.aload_n 0, 1) := by decide +kernel
theorem dX2_init_1 : decode cX2_init 1 = .ok (.invokespecial 3, 3) := by decide +kernel
theorem dX2_init_4 : decode cX2_init 4 = .ok (.aload_n 0, 1) := by decide +kernel
theorem dX2_init_5 : decode cX2_init 5 = .ok (.bipush 36, 2) := by decide +kernel
theorem dX2_init_7 : decode cX2_init 7 = .ok (.newarray .int, 2) := by decide +kernel
theorem dX2_init_9 : decode cX2_init 9 = .ok (.putfield 9, 3) := by decide +kernel
theorem dX2_init_12 : decode cX2_init 12 = .ok (.aload_n 0, 1) := by decide +kernel
theorem dX2_init_13 : decode cX2_init 13 = .ok (.iconst 0, 1) := by decide +kernel
theorem dX2_init_14 : decode cX2_init 14 = .ok (.putfield 15, 3) := by decide +kernel
theorem dX2_init_17 : decode cX2_init 17 = .ok (.aload_n 0, 1) := by decide +kernel
theorem dX2_init_18 : decode cX2_init 18 = .ok (.iconst 0, 1) := by decide +kernel
theorem dX2_init_19 : decode cX2_init 19 = .ok (.putfield 19, 3) := by decide +kernel
theorem dX2_init_22 : decode cX2_init 22 = .ok (.aload_n 0, 1) := by decide +kernel
theorem dX2_init_23 : decode cX2_init 23 = .ok (.bipush 36, 2) := by decide +kernel
theorem dX2_init_25 : decode cX2_init 25 = .ok (.newarray .int, 2) := by decide +kernel
theorem dX2_init_27 : decode cX2_init 27 = .ok (.putfield 22, 3) := by decide +kernel
theorem dX2_init_30 : decode cX2_init 30 = .ok (.aload_n 0, 1) := by decide +kernel
theorem dX2_init_31 : decode cX2_init 31 = .ok (.bipush 36, 2) := by decide +kernel
theorem dX2_init_33 : decode cX2_init 33 = .ok (.newarray .boolean, 2) := by decide +kernel
theorem dX2_init_35 : decode cX2_init 35 = .ok (.putfield 25, 3) := by decide +kernel
theorem dX2_init_38 : decode cX2_init 38 = .ok (.aload_n 0, 1) := by decide +kernel
theorem dX2_init_39 : decode cX2_init 39 = .ok (.bipush 36, 2) := by decide +kernel
theorem dX2_init_41 : decode cX2_init 41 = .ok (.newarray .int, 2) := by decide +kernel
theorem dX2_init_43 : decode cX2_init 43 = .ok (.putfield 29, 3) := by decide +kernel
theorem dX2_init_46 : decode cX2_init 46 = .ok (.return_, 1) := by decide +kernel
theorem dX2_survey_0 : decode cX2_survey 0 = .ok (.aload_n 0, 1) := by decide +kernel
theorem dX2_survey_1 : decode cX2_survey 1 = .ok (.iconst 0, 1) := by decide +kernel
theorem dX2_survey_2 : decode cX2_survey 2 = .ok (.putfield 15, 3) := by decide +kernel
theorem dX2_survey_5 : decode cX2_survey 5 = .ok (.aload_n 0, 1) := by decide +kernel
theorem dX2_survey_6 : decode cX2_survey 6 = .ok (.iconst 0, 1) := by decide +kernel
theorem dX2_survey_7 : decode cX2_survey 7 = .ok (.putfield 19, 3) := by decide +kernel
theorem dX2_survey_10 : decode cX2_survey 10 = .ok (.iconst 0, 1) := by decide +kernel
theorem dX2_survey_11 : decode cX2_survey 11 = .ok (.istore_n 3, 1) := by decide +kernel
theorem dX2_survey_12 : decode cX2_survey 12 = .ok (.iload_n 3, 1) := by decide +kernel
theorem dX2_survey_13 : decode cX2_survey 13 = .ok (.bipush 36, 2) := by decide +kernel
theorem dX2_survey_15 : decode cX2_survey 15 = .ok (.if_icmp .ge 38, 3) := by decide +kernel
theorem dX2_survey_18 : decode cX2_survey 18 = .ok (.aload_n 0, 1) := by decide +kernel
theorem dX2_survey_19 : decode cX2_survey 19 = .ok (.getfield 25, 3) := by decide +kernel
theorem dX2_survey_22 : decode cX2_survey 22 = .ok (.iload_n 3, 1) := by decide +kernel
theorem dX2_survey_23 : decode cX2_survey 23 = .ok (.aload_n 1, 1) := by decide +kernel
theorem dX2_survey_24 : decode cX2_survey 24 = .ok (.iload_n 3, 1) := by decide +kernel
theorem dX2_survey_25 : decode cX2_survey 25 = .ok (.invokevirtual 32, 3) := by decide +kernel
theorem dX2_survey_28 : decode cX2_survey 28 = .ok (.ifCond .eq 13, 3) := by decide +kernel
theorem dX2_survey_31 : decode cX2_survey 31 = .ok (.aload_n 0, 1) := by decide +kernel
theorem dX2_survey_32 : decode cX2_survey 32 = .ok (.getfield 9, 3) := by decide +kernel
theorem dX2_survey_35 : decode cX2_survey 35 = .ok (.iload_n 3, 1) := by decide +kernel
theorem dX2_survey_36 : decode cX2_survey 36 = .ok (.iaload, 1) := by decide +kernel
theorem dX2_survey_37 : decode cX2_survey 37 = .ok (.iload_n 2, 1) := by decide +kernel
theorem dX2_survey_38 : decode cX2_survey 38 = .ok (.if_icmp .eq 7, 3) := by decide +kernel
theorem dX2_survey_41 : decode cX2_survey 41 = .ok (.iconst 1, 1) := by decide +kernel
theorem dX2_survey_42 : decode cX2_survey 42 = .ok (.goto 4, 3) := by decide +kernel
theorem dX2_survey_45 : decode cX2_survey 45 = .ok (.iconst 0, 1) := by decide +kernel
theorem dX2_survey_46 : decode cX2_survey 46 = .ok (.bastore, 1) := by decide +kernel
theorem dX2_survey_47 : decode cX2_survey 47 = .ok (.iinc 3 1, 3) := by decide +kernel
theorem dX2_survey_50 : decode cX2_survey 50 = .ok (.goto (-38), 3) := by decide +kernel
theorem dX2_survey_53 : decode cX2_survey 53 = .ok (.iconst 0, 1) := by decide +kernel
theorem dX2_survey_54 : decode cX2_survey 54 = .ok (.istore_n 3, 1) := by decide +kernel
theorem dX2_survey_55 : decode cX2_survey 55 = .ok (.iload_n 3, 1) := by decide +kernel
theorem dX2_survey_56 : decode cX2_survey 56 = .ok (.bipush 36, 2) := by decide +kernel
theorem dX2_survey_58 : decode cX2_survey 58 = .ok (.if_icmp .ge 45, 3) := by decide +kernel
theorem dX2_survey_61 : decode cX2_survey 61 = .ok (.aload_n 0, 1) := by decide +kernel
theorem dX2_survey_62 : decode cX2_survey 62 = .ok (.getfield 25, 3) := by decide +kernel
theorem dX2_survey_65 : decode cX2_survey 65 = .ok (.iload_n 3, 1) := by decide +kernel
theorem dX2_survey_66 : decode cX2_survey 66 = .ok (.baload, 1) := by decide +kernel
theorem dX2_survey_67 : decode cX2_survey 67 = .ok (.ifCond .ne 30, 3) := by decide +kernel
theorem dX2_survey_70 : decode cX2_survey 70 = .ok (.aload_n 0, 1) := by decide +kernel
theorem dX2_survey_71 : decode cX2_survey 71 = .ok (.dup, 1) := by decide +kernel
theorem dX2_survey_72 : decode cX2_survey 72 = .ok (.getfield 15, 3) := by decide +kernel
theorem dX2_survey_75 : decode cX2_survey 75 = .ok (.iconst 1, 1) := by decide +kernel
theorem dX2_survey_76 : decode cX2_survey 76 = .ok (.iadd, 1) := by decide +kernel
theorem dX2_survey_77 : decode cX2_survey 77 = .ok (.putfield 15, 3) := by decide +kernel
theorem dX2_survey_80 : decode cX2_survey 80 = .ok (.aload_n 0, 1) := by decide +kernel
theorem dX2_survey_81 : decode cX2_survey 81 = .ok (.aload_n 0, 1) := by decide +kernel
theorem dX2_survey_82 : decode cX2_survey 82 = .ok (.getfield 19, 3) := by decide +kernel
theorem dX2_survey_85 : decode cX2_survey 85 = .ok (.aload_n 0, 1) := by decide +kernel
theorem dX2_survey_86 : decode cX2_survey 86 = .ok (.aload_n 1, 1) := by decide +kernel
theorem dX2_survey_87 : decode cX2_survey 87 = .ok (.iload_n 3, 1) := by decide +kernel
theorem dX2_survey_88 : decode cX2_survey 88 = .ok (.invokevirtual 38, 3) := by decide +kernel
theorem dX2_survey_91 : decode cX2_survey 91 = .ok (.invokestatic 42, 3) := by decide +kernel
theorem dX2_survey_94 : decode cX2_survey 94 = .ok (.putfield 19, 3) := by decide +kernel
theorem dX2_survey_97 : decode cX2_survey 97 = .ok (.iinc 3 1, 3) := by decide +kernel
theorem dX2_survey_100 : decode cX2_survey 100 = .ok (.goto (-45), 3) := by decide +kernel
theorem dX2_survey_103 : decode cX2_survey 103 = .ok (.return_, 1) := by decide +kernel
theorem dX2_areaFrom_0 : decode cX2_areaFrom 0 = .ok (.iconst 1, 1) := by decide +kernel
theorem dX2_areaFrom_1 : decode cX2_areaFrom 1 = .ok (.istore_n 3, 1) := by decide +kernel
theorem dX2_areaFrom_2 : decode cX2_areaFrom 2 = .ok (.aload_n 0, 1) := by decide +kernel
theorem dX2_areaFrom_3 : decode cX2_areaFrom 3 = .ok (.getfield 22, 3) := by decide +kernel
theorem dX2_areaFrom_6 : decode cX2_areaFrom 6 = .ok (.iconst 0, 1) := by decide +kernel
theorem dX2_areaFrom_7 : decode cX2_areaFrom 7 = .ok (.iload_n 2, 1) := by decide +kernel
theorem dX2_areaFrom_8 : decode cX2_areaFrom 8 = .ok (.iastore, 1) := by decide +kernel
theorem dX2_areaFrom_9 : decode cX2_areaFrom 9 = .ok (.aload_n 0, 1) := by decide +kernel
theorem dX2_areaFrom_10 : decode cX2_areaFrom 10 = .ok (.getfield 25, 3) := by decide +kernel
theorem dX2_areaFrom_13 : decode cX2_areaFrom 13 = .ok (.iload_n 2, 1) := by decide +kernel
theorem dX2_areaFrom_14 : decode cX2_areaFrom 14 = .ok (.iconst 1, 1) := by decide +kernel
theorem dX2_areaFrom_15 : decode cX2_areaFrom 15 = .ok (.bastore, 1) := by decide +kernel
theorem dX2_areaFrom_16 : decode cX2_areaFrom 16 = .ok (.iconst 0, 1) := by decide +kernel
theorem dX2_areaFrom_17 : decode cX2_areaFrom 17 = .ok (.istore 4, 2) := by decide +kernel
theorem dX2_areaFrom_19 : decode cX2_areaFrom 19 = .ok (.iload 4, 2) := by decide +kernel
theorem dX2_areaFrom_21 : decode cX2_areaFrom 21 = .ok (.iload_n 3, 1) := by decide +kernel
theorem dX2_areaFrom_22 : decode cX2_areaFrom 22 = .ok (.if_icmp .ge 81, 3) := by decide +kernel
theorem dX2_areaFrom_25 : decode cX2_areaFrom 25 = .ok (.iload 4, 2) := by decide +kernel
theorem dX2_areaFrom_27 : decode cX2_areaFrom 27 = .ok (.bipush 36, 2) := by decide +kernel
theorem dX2_areaFrom_29 : decode cX2_areaFrom 29 = .ok (.if_icmp .ge 74, 3) := by decide +kernel
theorem dX2_areaFrom_32 : decode cX2_areaFrom 32 = .ok (.iconst 0, 1) := by decide +kernel
theorem dX2_areaFrom_33 : decode cX2_areaFrom 33 = .ok (.istore 5, 2) := by decide +kernel
theorem dX2_areaFrom_35 : decode cX2_areaFrom 35 = .ok (.iload 5, 2) := by decide +kernel
theorem dX2_areaFrom_37 : decode cX2_areaFrom 37 = .ok (.iconst 4, 1) := by decide +kernel
theorem dX2_areaFrom_38 : decode cX2_areaFrom 38 = .ok (.if_icmp .ge 59, 3) := by decide +kernel
theorem dX2_areaFrom_41 : decode cX2_areaFrom 41 = .ok (.aload_n 1, 1) := by decide +kernel
theorem dX2_areaFrom_42 : decode cX2_areaFrom 42 = .ok (.aload_n 0, 1) := by decide +kernel
theorem dX2_areaFrom_43 : decode cX2_areaFrom 43 = .ok (.getfield 22, 3) := by decide +kernel
theorem dX2_areaFrom_46 : decode cX2_areaFrom 46 = .ok (.iload 4, 2) := by decide +kernel
theorem dX2_areaFrom_48 : decode cX2_areaFrom 48 = .ok (.iaload, 1) := by decide +kernel
theorem dX2_areaFrom_49 : decode cX2_areaFrom 49 = .ok (.iload 5, 2) := by decide +kernel
theorem dX2_areaFrom_51 : decode cX2_areaFrom 51 = .ok (.invokevirtual 48, 3) := by decide +kernel
theorem dX2_areaFrom_54 : decode cX2_areaFrom 54 = .ok (.istore 6, 2) := by decide +kernel
theorem dX2_areaFrom_56 : decode cX2_areaFrom 56 = .ok (.iload 6, 2) := by decide +kernel
theorem dX2_areaFrom_58 : decode cX2_areaFrom 58 = .ok (.iconst (-1), 1) := by decide +kernel
theorem dX2_areaFrom_59 : decode cX2_areaFrom 59 = .ok (.if_icmp .eq 32, 3) := by decide +kernel
theorem dX2_areaFrom_62 : decode cX2_areaFrom 62 = .ok (.aload_n 0, 1) := by decide +kernel
theorem dX2_areaFrom_63 : decode cX2_areaFrom 63 = .ok (.getfield 25, 3) := by decide +kernel
theorem dX2_areaFrom_66 : decode cX2_areaFrom 66 = .ok (.iload 6, 2) := by decide +kernel
theorem dX2_areaFrom_68 : decode cX2_areaFrom 68 = .ok (.baload, 1) := by decide +kernel
theorem dX2_areaFrom_69 : decode cX2_areaFrom 69 = .ok (.ifCond .ne 22, 3) := by decide +kernel
theorem dX2_areaFrom_72 : decode cX2_areaFrom 72 = .ok (.aload_n 0, 1) := by decide +kernel
theorem dX2_areaFrom_73 : decode cX2_areaFrom 73 = .ok (.getfield 25, 3) := by decide +kernel
theorem dX2_areaFrom_76 : decode cX2_areaFrom 76 = .ok (.iload 6, 2) := by decide +kernel
theorem dX2_areaFrom_78 : decode cX2_areaFrom 78 = .ok (.iconst 1, 1) := by decide +kernel
theorem dX2_areaFrom_79 : decode cX2_areaFrom 79 = .ok (.bastore, 1) := by decide +kernel
theorem dX2_areaFrom_80 : decode cX2_areaFrom 80 = .ok (.aload_n 0, 1) := by decide +kernel
theorem dX2_areaFrom_81 : decode cX2_areaFrom 81 = .ok (.getfield 22, 3) := by decide +kernel
theorem dX2_areaFrom_84 : decode cX2_areaFrom 84 = .ok (.iload_n 3, 1) := by decide +kernel
theorem dX2_areaFrom_85 : decode cX2_areaFrom 85 = .ok (.iload 6, 2) := by decide +kernel
theorem dX2_areaFrom_87 : decode cX2_areaFrom 87 = .ok (.iastore, 1) := by decide +kernel
theorem dX2_areaFrom_88 : decode cX2_areaFrom 88 = .ok (.iinc 3 1, 3) := by decide +kernel
theorem dX2_areaFrom_91 : decode cX2_areaFrom 91 = .ok (.iinc 5 1, 3) := by decide +kernel
theorem dX2_areaFrom_94 : decode cX2_areaFrom 94 = .ok (.goto (-59), 3) := by decide +kernel
theorem dX2_areaFrom_97 : decode cX2_areaFrom 97 = .ok (.iinc 4 1, 3) := by decide +kernel
theorem dX2_areaFrom_100 : decode cX2_areaFrom 100 = .ok (.goto (-81), 3) := by decide +kernel
theorem dX2_areaFrom_103 : decode cX2_areaFrom 103 = .ok (.iload_n 3, 1) := by decide +kernel
theorem dX2_areaFrom_104 : decode cX2_areaFrom 104 = .ok (.ireturn, 1) := by decide +kernel
theorem dX2_leastInk_0 : decode cX2_leastInk 0 = .ok (.aload_n 0, 1) := by decide +kernel
theorem dX2_leastInk_1 : decode cX2_leastInk 1 = .ok (.getfield 29, 3) := by decide +kernel
theorem dX2_leastInk_4 : decode cX2_leastInk 4 = .ok (.sipush 1000, 3) := by decide +kernel
theorem dX2_leastInk_7 : decode cX2_leastInk 7 = .ok (.invokestatic 51, 3) := by decide +kernel
theorem dX2_leastInk_10 : decode cX2_leastInk 10 = .ok (.iconst 1, 1) := by decide +kernel
theorem dX2_leastInk_11 : decode cX2_leastInk 11 = .ok (.istore 4, 2) := by decide +kernel
theorem dX2_leastInk_13 : decode cX2_leastInk 13 = .ok (.iconst 0, 1) := by decide +kernel
theorem dX2_leastInk_14 : decode cX2_leastInk 14 = .ok (.istore 5, 2) := by decide +kernel
theorem dX2_leastInk_16 : decode cX2_leastInk 16 = .ok (.iload 5, 2) := by decide +kernel
theorem dX2_leastInk_18 : decode cX2_leastInk 18 = .ok (.bipush 36, 2) := by decide +kernel
theorem dX2_leastInk_20 : decode cX2_leastInk 20 = .ok (.if_icmp .gt 82, 3) := by decide +kernel
theorem dX2_leastInk_23 : decode cX2_leastInk 23 = .ok (.iload 4, 2) := by decide +kernel
theorem dX2_leastInk_25 : decode cX2_leastInk 25 = .ok (.ifCond .eq 77, 3) := by decide +kernel
theorem dX2_leastInk_28 : decode cX2_leastInk 28 = .ok (.iconst 0, 1) := by decide +kernel
theorem dX2_leastInk_29 : decode cX2_leastInk 29 = .ok (.istore 4, 2) := by decide +kernel
theorem dX2_leastInk_31 : decode cX2_leastInk 31 = .ok (.iconst 0, 1) := by decide +kernel
theorem dX2_leastInk_32 : decode cX2_leastInk 32 = .ok (.istore 6, 2) := by decide +kernel
theorem dX2_leastInk_34 : decode cX2_leastInk 34 = .ok (.iload 6, 2) := by decide +kernel
theorem dX2_leastInk_36 : decode cX2_leastInk 36 = .ok (.bipush 36, 2) := by decide +kernel
theorem dX2_leastInk_38 : decode cX2_leastInk 38 = .ok (.if_icmp .ge 58, 3) := by decide +kernel
theorem dX2_leastInk_41 : decode cX2_leastInk 41 = .ok (.aload_n 1, 1) := by decide +kernel
theorem dX2_leastInk_42 : decode cX2_leastInk 42 = .ok (.iload 6, 2) := by decide +kernel
theorem dX2_leastInk_44 : decode cX2_leastInk 44 = .ok (.invokevirtual 32, 3) := by decide +kernel
theorem dX2_leastInk_47 : decode cX2_leastInk 47 = .ok (.ifCond .eq 14, 3) := by decide +kernel
theorem dX2_leastInk_50 : decode cX2_leastInk 50 = .ok (.aload_n 0, 1) := by decide +kernel
theorem dX2_leastInk_51 : decode cX2_leastInk 51 = .ok (.aload_n 1, 1) := by decide +kernel
theorem dX2_leastInk_52 : decode cX2_leastInk 52 = .ok (.iload 6, 2) := by decide +kernel
theorem dX2_leastInk_54 : decode cX2_leastInk 54 = .ok (.iload_n 3, 1) := by decide +kernel
theorem dX2_leastInk_55 : decode cX2_leastInk 55 = .ok (.invokevirtual 57, 3) := by decide +kernel
theorem dX2_leastInk_58 : decode cX2_leastInk 58 = .ok (.goto 6, 3) := by decide +kernel
theorem dX2_leastInk_61 : decode cX2_leastInk 61 = .ok (.sipush 1000, 3) := by decide +kernel
theorem dX2_leastInk_64 : decode cX2_leastInk 64 = .ok (.istore 7, 2) := by decide +kernel
theorem dX2_leastInk_66 : decode cX2_leastInk 66 = .ok (.iload 7, 2) := by decide +kernel
theorem dX2_leastInk_68 : decode cX2_leastInk 68 = .ok (.aload_n 0, 1) := by decide +kernel
theorem dX2_leastInk_69 : decode cX2_leastInk 69 = .ok (.getfield 29, 3) := by decide +kernel
theorem dX2_leastInk_72 : decode cX2_leastInk 72 = .ok (.iload 6, 2) := by decide +kernel
theorem dX2_leastInk_74 : decode cX2_leastInk 74 = .ok (.iaload, 1) := by decide +kernel
theorem dX2_leastInk_75 : decode cX2_leastInk 75 = .ok (.if_icmp .ge 15, 3) := by decide +kernel
theorem dX2_leastInk_78 : decode cX2_leastInk 78 = .ok (.aload_n 0, 1) := by decide +kernel
theorem dX2_leastInk_79 : decode cX2_leastInk 79 = .ok (.getfield 29, 3) := by decide +kernel
theorem dX2_leastInk_82 : decode cX2_leastInk 82 = .ok (.iload 6, 2) := by decide +kernel
theorem dX2_leastInk_84 : decode cX2_leastInk 84 = .ok (.iload 7, 2) := by decide +kernel
theorem dX2_leastInk_86 : decode cX2_leastInk 86 = .ok (.iastore, 1) := by decide +kernel
theorem dX2_leastInk_87 : decode cX2_leastInk 87 = .ok (.iconst 1, 1) := by decide +kernel
theorem dX2_leastInk_88 : decode cX2_leastInk 88 = .ok (.istore 4, 2) := by decide +kernel
theorem dX2_leastInk_90 : decode cX2_leastInk 90 = .ok (.iinc 6 1, 3) := by decide +kernel
theorem dX2_leastInk_93 : decode cX2_leastInk 93 = .ok (.goto (-59), 3) := by decide +kernel
theorem dX2_leastInk_96 : decode cX2_leastInk 96 = .ok (.iinc 5 1, 3) := by decide +kernel
theorem dX2_leastInk_99 : decode cX2_leastInk 99 = .ok (.goto (-83), 3) := by decide +kernel
theorem dX2_leastInk_102 : decode cX2_leastInk 102 = .ok (.aload_n 0, 1) := by decide +kernel
theorem dX2_leastInk_103 : decode cX2_leastInk 103 = .ok (.getfield 29, 3) := by decide +kernel
theorem dX2_leastInk_106 : decode cX2_leastInk 106 = .ok (.iload_n 2, 1) := by decide +kernel
theorem dX2_leastInk_107 : decode cX2_leastInk 107 = .ok (.iaload, 1) := by decide +kernel
theorem dX2_leastInk_108 : decode cX2_leastInk 108 = .ok (.ireturn, 1) := by decide +kernel
theorem dX2_wayBy_0 : decode cX2_wayBy 0 = .ok (.aload_n 1, 1) := by decide +kernel
theorem dX2_wayBy_1 : decode cX2_wayBy 1 = .ok (.iload_n 2, 1) := by decide +kernel
theorem dX2_wayBy_2 : decode cX2_wayBy 2 = .ok (.invokevirtual 61, 3) := by decide +kernel
theorem dX2_wayBy_5 : decode cX2_wayBy 5 = .ok (.ifCond .eq 7, 3) := by decide +kernel
theorem dX2_wayBy_8 : decode cX2_wayBy 8 = .ok (.iconst 0, 1) := by decide +kernel
theorem dX2_wayBy_9 : decode cX2_wayBy 9 = .ok (.goto 6, 3) := by decide +kernel
theorem dX2_wayBy_12 : decode cX2_wayBy 12 = .ok (.sipush 1000, 3) := by decide +kernel
theorem dX2_wayBy_15 : decode cX2_wayBy 15 = .ok (.istore 4, 2) := by decide +kernel
theorem dX2_wayBy_17 : decode cX2_wayBy 17 = .ok (.iconst 0, 1) := by decide +kernel
theorem dX2_wayBy_18 : decode cX2_wayBy 18 = .ok (.istore 5, 2) := by decide +kernel
theorem dX2_wayBy_20 : decode cX2_wayBy 20 = .ok (.iload 5, 2) := by decide +kernel
theorem dX2_wayBy_22 : decode cX2_wayBy 22 = .ok (.iconst 4, 1) := by decide +kernel
theorem dX2_wayBy_23 : decode cX2_wayBy 23 = .ok (.if_icmp .ge 38, 3) := by decide +kernel
theorem dX2_wayBy_26 : decode cX2_wayBy 26 = .ok (.aload_n 1, 1) := by decide +kernel
theorem dX2_wayBy_27 : decode cX2_wayBy 27 = .ok (.iload_n 2, 1) := by decide +kernel
theorem dX2_wayBy_28 : decode cX2_wayBy 28 = .ok (.iload 5, 2) := by decide +kernel
theorem dX2_wayBy_30 : decode cX2_wayBy 30 = .ok (.invokevirtual 48, 3) := by decide +kernel
theorem dX2_wayBy_33 : decode cX2_wayBy 33 = .ok (.istore 6, 2) := by decide +kernel
theorem dX2_wayBy_35 : decode cX2_wayBy 35 = .ok (.iload 6, 2) := by decide +kernel
theorem dX2_wayBy_37 : decode cX2_wayBy 37 = .ok (.iconst (-1), 1) := by decide +kernel
theorem dX2_wayBy_38 : decode cX2_wayBy 38 = .ok (.if_icmp .eq 17, 3) := by decide +kernel
theorem dX2_wayBy_41 : decode cX2_wayBy 41 = .ok (.iload 4, 2) := by decide +kernel
theorem dX2_wayBy_43 : decode cX2_wayBy 43 = .ok (.aload_n 0, 1) := by decide +kernel
theorem dX2_wayBy_44 : decode cX2_wayBy 44 = .ok (.getfield 29, 3) := by decide +kernel
theorem dX2_wayBy_47 : decode cX2_wayBy 47 = .ok (.iload 6, 2) := by decide +kernel
theorem dX2_wayBy_49 : decode cX2_wayBy 49 = .ok (.iaload, 1) := by decide +kernel
theorem dX2_wayBy_50 : decode cX2_wayBy 50 = .ok (.invokestatic 64, 3) := by decide +kernel
theorem dX2_wayBy_53 : decode cX2_wayBy 53 = .ok (.istore 4, 2) := by decide +kernel
theorem dX2_wayBy_55 : decode cX2_wayBy 55 = .ok (.iinc 5 1, 3) := by decide +kernel
theorem dX2_wayBy_58 : decode cX2_wayBy 58 = .ok (.goto (-38), 3) := by decide +kernel
theorem dX2_wayBy_61 : decode cX2_wayBy 61 = .ok (.aload_n 0, 1) := by decide +kernel
theorem dX2_wayBy_62 : decode cX2_wayBy 62 = .ok (.getfield 9, 3) := by decide +kernel
theorem dX2_wayBy_65 : decode cX2_wayBy 65 = .ok (.iload_n 2, 1) := by decide +kernel
theorem dX2_wayBy_66 : decode cX2_wayBy 66 = .ok (.iaload, 1) := by decide +kernel
theorem dX2_wayBy_67 : decode cX2_wayBy 67 = .ok (.iload_n 3, 1) := by decide +kernel
theorem dX2_wayBy_68 : decode cX2_wayBy 68 = .ok (.if_icmp .ne 8, 3) := by decide +kernel
theorem dX2_wayBy_71 : decode cX2_wayBy 71 = .ok (.iload 4, 2) := by decide +kernel
theorem dX2_wayBy_73 : decode cX2_wayBy 73 = .ok (.goto 7, 3) := by decide +kernel
theorem dX2_wayBy_76 : decode cX2_wayBy 76 = .ok (.iload 4, 2) := by decide +kernel
theorem dX2_wayBy_78 : decode cX2_wayBy 78 = .ok (.iconst 1, 1) := by decide +kernel
theorem dX2_wayBy_79 : decode cX2_wayBy 79 = .ok (.iadd, 1) := by decide +kernel
theorem dX2_wayBy_80 : decode cX2_wayBy 80 = .ok (.ireturn, 1) := by decide +kernel
theorem dX3_init_0 : decode cX3_init 0 = .ok (.aload_n 0, 1) := by decide +kernel
theorem dX3_init_1 : decode cX3_init 1 = .ok (.invokespecial 3, 3) := by decide +kernel
theorem dX3_init_4 : decode cX3_init 4 = .ok (.aload_n 0, 1) := by decide +kernel
theorem dX3_init_5 : decode cX3_init 5 = .ok (.bipush 12, 2) := by decide +kernel
theorem dX3_init_7 : decode cX3_init 7 = .ok (.anewarray 9, 3) := by decide +kernel
theorem dX3_init_10 : decode cX3_init 10 = .ok (.putfield 11, 3) := by decide +kernel
theorem dX3_init_13 : decode cX3_init 13 = .ok (.aload_n 0, 1) := by decide +kernel
theorem dX3_init_14 : decode cX3_init 14 = .ok (.iconst 0, 1) := by decide +kernel
theorem dX3_init_15 : decode cX3_init 15 = .ok (.putfield 17, 3) := by decide +kernel
theorem dX3_init_18 : decode cX3_init 18 = .ok (.aload_n 0, 1) := by decide +kernel
theorem dX3_init_19 : decode cX3_init 19 = .ok (.iconst 3, 1) := by decide +kernel
theorem dX3_init_20 : decode cX3_init 20 = .ok (.anewarray 9, 3) := by decide +kernel
theorem dX3_init_23 : decode cX3_init 23 = .ok (.putfield 21, 3) := by decide +kernel
theorem dX3_init_26 : decode cX3_init 26 = .ok (.aload_n 0, 1) := by decide +kernel
theorem dX3_init_27 : decode cX3_init 27 = .ok (.iconst 0, 1) := by decide +kernel
theorem dX3_init_28 : decode cX3_init 28 = .ok (.putfield 24, 3) := by decide +kernel
theorem dX3_init_31 : decode cX3_init 31 = .ok (.iconst 0, 1) := by decide +kernel
theorem dX3_init_32 : decode cX3_init 32 = .ok (.istore_n 1, 1) := by decide +kernel
theorem dX3_init_33 : decode cX3_init 33 = .ok (.iload_n 1, 1) := by decide +kernel
theorem dX3_init_34 : decode cX3_init 34 = .ok (.bipush 12, 2) := by decide +kernel
theorem dX3_init_36 : decode cX3_init 36 = .ok (.if_icmp .ge 22, 3) := by decide +kernel
theorem dX3_init_39 : decode cX3_init 39 = .ok (.aload_n 0, 1) := by decide +kernel
theorem dX3_init_40 : decode cX3_init 40 = .ok (.getfield 11, 3) := by decide +kernel
theorem dX3_init_43 : decode cX3_init 43 = .ok (.iload_n 1, 1) := by decide +kernel
theorem dX3_init_44 : decode cX3_init 44 = .ok (.new 9, 3) := by decide +kernel
theorem dX3_init_47 : decode cX3_init 47 = .ok (.dup, 1) := by decide +kernel
theorem dX3_init_48 : decode cX3_init 48 = .ok (.invokespecial 27, 3) := by decide +kernel
theorem dX3_init_51 : decode cX3_init 51 = .ok (.aastore, 1) := by decide +kernel
theorem dX3_init_52 : decode cX3_init 52 = .ok (.iinc 1 1, 3) := by decide +kernel
theorem dX3_init_55 : decode cX3_init 55 = .ok (.goto (-22), 3) := by decide +kernel
theorem dX3_init_58 : decode cX3_init 58 = .ok (.iconst 0, 1) := by decide +kernel
theorem dX3_init_59 : decode cX3_init 59 = .ok (.istore_n 1, 1) := by decide +kernel
theorem dX3_init_60 : decode cX3_init 60 = .ok (.iload_n 1, 1) := by decide +kernel
theorem dX3_init_61 : decode cX3_init 61 = .ok (.iconst 3, 1) := by decide +kernel
theorem dX3_init_62 : decode cX3_init 62 = .ok (.if_icmp .ge 22, 3) := by decide +kernel
theorem dX3_init_65 : decode cX3_init 65 = .ok (.aload_n 0, 1) := by decide +kernel
theorem dX3_init_66 : decode cX3_init 66 = .ok (.getfield 21, 3) := by decide +kernel
theorem dX3_init_69 : decode cX3_init 69 = .ok (.iload_n 1, 1) := by decide +kernel
theorem dX3_init_70 : decode cX3_init 70 = .ok (.new 9, 3) := by decide +kernel
theorem dX3_init_73 : decode cX3_init 73 = .ok (.dup, 1) := by decide +kernel
theorem dX3_init_74 : decode cX3_init 74 = .ok (.invokespecial 27, 3) := by decide +kernel
theorem dX3_init_77 : decode cX3_init 77 = .ok (.aastore, 1) := by decide +kernel
theorem dX3_init_78 : decode cX3_init 78 = .ok (.iinc 1 1, 3) := by decide +kernel
theorem dX3_init_81 : decode cX3_init 81 = .ok (.goto (-21), 3) := by decide +kernel
theorem dX3_init_84 : decode cX3_init 84 = .ok (.return_, 1) := by decide +kernel
theorem dX3_forgetAll_0 : decode cX3_forgetAll 0 = .ok (.aload_n 0, 1) := by decide +kernel
theorem dX3_forgetAll_1 : decode cX3_forgetAll 1 = .ok (.iconst 0, 1) := by decide +kernel
theorem dX3_forgetAll_2 : decode cX3_forgetAll 2 = .ok (.putfield 17, 3) := by decide +kernel
theorem dX3_forgetAll_5 : decode cX3_forgetAll 5 = .ok (.aload_n 0, 1) := by decide +kernel
theorem dX3_forgetAll_6 : decode cX3_forgetAll 6 = .ok (.iconst 0, 1) := by decide +kernel
theorem dX3_forgetAll_7 : decode cX3_forgetAll 7 = .ok (.putfield 24, 3) := by decide +kernel
theorem dX3_forgetAll_10 : decode cX3_forgetAll 10 = .ok (.return_, 1) := by decide +kernel
theorem dX3_remember_0 : decode cX3_remember 0 = .ok (.aload_n 0, 1) := by decide +kernel
theorem dX3_remember_1 : decode cX3_remember 1 = .ok (.getfield 17, 3) := by decide +kernel
theorem dX3_remember_4 : decode cX3_remember 4 = .ok (.bipush 12, 2) := by decide +kernel
theorem dX3_remember_6 : decode cX3_remember 6 = .ok (.if_icmp .lt 7, 3) := by decide +kernel
theorem dX3_remember_9 : decode cX3_remember 9 = .ok (.aload_n 0, 1) := by decide +kernel
theorem dX3_remember_10 : decode cX3_remember 10 = .ok (.invokevirtual 28, 3) := by decide +kernel
theorem dX3_remember_13 : decode cX3_remember 13 = .ok (.aload_n 0, 1) := by decide +kernel
theorem dX3_remember_14 : decode cX3_remember 14 = .ok (.getfield 11, 3) := by decide +kernel
theorem dX3_remember_17 : decode cX3_remember 17 = .ok (.aload_n 0, 1) := by decide +kernel
theorem dX3_remember_18 : decode cX3_remember 18 = .ok (.getfield 17, 3) := by decide +kernel
theorem dX3_remember_21 : decode cX3_remember 21 = .ok (.aaload, 1) := by decide +kernel
theorem dX3_remember_22 : decode cX3_remember 22 = .ok (.aload_n 1, 1) := by decide +kernel
theorem dX3_remember_23 : decode cX3_remember 23 = .ok (.invokevirtual 31, 3) := by decide +kernel
theorem dX3_remember_26 : decode cX3_remember 26 = .ok (.aload_n 0, 1) := by decide +kernel
theorem dX3_remember_27 : decode cX3_remember 27 = .ok (.dup, 1) := by decide +kernel
theorem dX3_remember_28 : decode cX3_remember 28 = .ok (.getfield 17, 3) := by decide +kernel
theorem dX3_remember_31 : decode cX3_remember 31 = .ok (.iconst 1, 1) := by decide +kernel
theorem dX3_remember_32 : decode cX3_remember 32 = .ok (.iadd, 1) := by decide +kernel
theorem dX3_remember_33 : decode cX3_remember 33 = .ok (.putfield 17, 3) := by decide +kernel
theorem dX3_remember_36 : decode cX3_remember 36 = .ok (.return_, 1) := by decide +kernel
theorem dX3_forgetOldest_0 : decode cX3_forgetOldest 0 = .ok (.aload_n 0, 1) := by decide +kernel
theorem dX3_forgetOldest_1 : decode cX3_forgetOldest 1 = .ok (.getfield 11, 3) := by decide +kernel
theorem dX3_forgetOldest_4 : decode cX3_forgetOldest 4 = .ok (.iconst 0, 1) := by decide +kernel
theorem dX3_forgetOldest_5 : decode cX3_forgetOldest 5 = .ok (.aaload, 1) := by decide +kernel
theorem dX3_forgetOldest_6 : decode cX3_forgetOldest 6 = .ok (.astore_n 1, 1) := by decide +kernel
theorem dX3_forgetOldest_7 : decode cX3_forgetOldest 7 = .ok (.iconst 1, 1) := by decide +kernel
theorem dX3_forgetOldest_8 : decode cX3_forgetOldest 8 = .ok (.istore_n 2, 1) := by decide +kernel
theorem dX3_forgetOldest_9 : decode cX3_forgetOldest 9 = .ok (.iload_n 2, 1) := by decide +kernel
theorem dX3_forgetOldest_10 : decode cX3_forgetOldest 10 = .ok (.bipush 12, 2) := by decide +kernel
theorem dX3_forgetOldest_12 : decode cX3_forgetOldest 12 = .ok (.if_icmp .ge 23, 3) := by decide +kernel
theorem dX3_forgetOldest_15 : decode cX3_forgetOldest 15 = .ok (.aload_n 0, 1) := by decide +kernel
theorem dX3_forgetOldest_16 : decode cX3_forgetOldest 16 = .ok (.getfield 11, 3) := by decide +kernel
theorem dX3_forgetOldest_19 : decode cX3_forgetOldest 19 = .ok (.iload_n 2, 1) := by decide +kernel
theorem dX3_forgetOldest_20 : decode cX3_forgetOldest 20 = .ok (.iconst 1, 1) := by decide +kernel
theorem dX3_forgetOldest_21 : decode cX3_forgetOldest 21 = .ok (.isub, 1) := by decide +kernel
theorem dX3_forgetOldest_22 : decode cX3_forgetOldest 22 = .ok (.aload_n 0, 1) := by decide +kernel
theorem dX3_forgetOldest_23 : decode cX3_forgetOldest 23 = .ok (.getfield 11, 3) := by decide +kernel
theorem dX3_forgetOldest_26 : decode cX3_forgetOldest 26 = .ok (.iload_n 2, 1) := by decide +kernel
theorem dX3_forgetOldest_27 : decode cX3_forgetOldest 27 = .ok (.aaload, 1) := by decide +kernel
theorem dX3_forgetOldest_28 : decode cX3_forgetOldest 28 = .ok (.aastore, 1) := by decide +kernel
theorem dX3_forgetOldest_29 : decode cX3_forgetOldest 29 = .ok (.iinc 2 1, 3) := by decide +kernel
theorem dX3_forgetOldest_32 : decode cX3_forgetOldest 32 = .ok (.goto (-23), 3) := by decide +kernel
theorem dX3_forgetOldest_35 : decode cX3_forgetOldest 35 = .ok (.aload_n 0, 1) := by decide +kernel
theorem dX3_forgetOldest_36 : decode cX3_forgetOldest 36 = .ok (.getfield 11, 3) := by decide +kernel
theorem dX3_forgetOldest_39 : decode cX3_forgetOldest 39 = .ok (.bipush 11, 2) := by decide +kernel
theorem dX3_forgetOldest_41 : decode cX3_forgetOldest 41 = .ok (.aload_n 1, 1) := by decide +kernel
theorem dX3_forgetOldest_42 : decode cX3_forgetOldest 42 = .ok (.aastore, 1) := by decide +kernel
theorem dX3_forgetOldest_43 : decode cX3_forgetOldest 43 = .ok (.aload_n 0, 1) := by decide +kernel
theorem dX3_forgetOldest_44 : decode cX3_forgetOldest 44 = .ok (.bipush 11, 2) := by decide +kernel
theorem dX3_forgetOldest_46 : decode cX3_forgetOldest 46 = .ok (.putfield 17, 3) := by decide +kernel
theorem dX3_forgetOldest_49 : decode cX3_forgetOldest 49 = .ok (.return_, 1) := by decide +kernel
theorem dX3_recall_0 : decode cX3_recall 0 = .ok (.aload_n 0, 1) := by decide +kernel
theorem dX3_recall_1 : decode cX3_recall 1 = .ok (.getfield 17, 3) := by decide +kernel
theorem dX3_recall_4 : decode cX3_recall 4 = .ok (.ifCond .le 26, 3) := by decide +kernel
theorem dX3_recall_7 : decode cX3_recall 7 = .ok (.aload_n 0, 1) := by decide +kernel
theorem dX3_recall_8 : decode cX3_recall 8 = .ok (.dup, 1) := by decide +kernel
theorem dX3_recall_9 : decode cX3_recall 9 = .ok (.getfield 17, 3) := by decide +kernel
theorem dX3_recall_12 : decode cX3_recall 12 = .ok (.iconst 1, 1) := by decide +kernel
theorem dX3_recall_13 : decode cX3_recall 13 = .ok (.isub, 1) := by decide +kernel
theorem dX3_recall_14 : decode cX3_recall 14 = .ok (.putfield 17, 3) := by decide +kernel
theorem dX3_recall_17 : decode cX3_recall 17 = .ok (.aload_n 1, 1) := by decide +kernel
theorem dX3_recall_18 : decode cX3_recall 18 = .ok (.aload_n 0, 1) := by decide +kernel
theorem dX3_recall_19 : decode cX3_recall 19 = .ok (.getfield 11, 3) := by decide +kernel
theorem dX3_recall_22 : decode cX3_recall 22 = .ok (.aload_n 0, 1) := by decide +kernel
theorem dX3_recall_23 : decode cX3_recall 23 = .ok (.getfield 17, 3) := by decide +kernel
theorem dX3_recall_26 : decode cX3_recall 26 = .ok (.aaload, 1) := by decide +kernel
theorem dX3_recall_27 : decode cX3_recall 27 = .ok (.invokevirtual 31, 3) := by decide +kernel
theorem dX3_recall_30 : decode cX3_recall 30 = .ok (.return_, 1) := by decide +kernel
theorem dX3_hold_0 : decode cX3_hold 0 = .ok (.aload_n 0, 1) := by decide +kernel
theorem dX3_hold_1 : decode cX3_hold 1 = .ok (.getfield 24, 3) := by decide +kernel
theorem dX3_hold_4 : decode cX3_hold 4 = .ok (.iconst 3, 1) := by decide +kernel
theorem dX3_hold_5 : decode cX3_hold 5 = .ok (.if_icmp .lt 5, 3) := by decide +kernel
theorem dX3_hold_8 : decode cX3_hold 8 = .ok (.iconst (-1), 1) := by decide +kernel
theorem dX3_hold_9 : decode cX3_hold 9 = .ok (.ireturn, 1) := by decide +kernel
theorem dX3_hold_10 : decode cX3_hold 10 = .ok (.aload_n 0, 1) := by decide +kernel
theorem dX3_hold_11 : decode cX3_hold 11 = .ok (.getfield 21, 3) := by decide +kernel
theorem dX3_hold_14 : decode cX3_hold 14 = .ok (.aload_n 0, 1) := by decide +kernel
theorem dX3_hold_15 : decode cX3_hold 15 = .ok (.getfield 24, 3) := by decide +kernel
theorem dX3_hold_18 : decode cX3_hold 18 = .ok (.aaload, 1) := by decide +kernel
theorem dX3_hold_19 : decode cX3_hold 19 = .ok (.aload_n 1, 1) := by decide +kernel
theorem dX3_hold_20 : decode cX3_hold 20 = .ok (.invokevirtual 31, 3) := by decide +kernel
theorem dX3_hold_23 : decode cX3_hold 23 = .ok (.aload_n 0, 1) := by decide +kernel
theorem dX3_hold_24 : decode cX3_hold 24 = .ok (.dup, 1) := by decide +kernel
theorem dX3_hold_25 : decode cX3_hold 25 = .ok (.getfield 24, 3) := by decide +kernel
theorem dX3_hold_28 : decode cX3_hold 28 = .ok (.iconst 1, 1) := by decide +kernel
theorem dX3_hold_29 : decode cX3_hold 29 = .ok (.iadd, 1) := by decide +kernel
theorem dX3_hold_30 : decode cX3_hold 30 = .ok (.putfield 24, 3) := by decide +kernel
theorem dX3_hold_33 : decode cX3_hold 33 = .ok (.aload_n 0, 1) := by decide +kernel
theorem dX3_hold_34 : decode cX3_hold 34 = .ok (.getfield 24, 3) := by decide +kernel
theorem dX3_hold_37 : decode cX3_hold 37 = .ok (.iconst 1, 1) := by decide +kernel
theorem dX3_hold_38 : decode cX3_hold 38 = .ok (.isub, 1) := by decide +kernel
theorem dX3_hold_39 : decode cX3_hold 39 = .ok (.ireturn, 1) := by decide +kernel
theorem dX4_init_0 : decode cX4_init 0 = .ok (.aload_n 0, 1) := by decide +kernel
theorem dX4_init_1 : decode cX4_init 1 = .ok (.invokespecial 3, 3) := by decide +kernel
theorem dX4_init_4 : decode cX4_init 4 = .ok (.aload_n 0, 1) := by decide +kernel
theorem dX4_init_5 : decode cX4_init 5 = .ok (.iconst 0, 1) := by decide +kernel
theorem dX4_init_6 : decode cX4_init 6 = .ok (.putfield 9, 3) := by decide +kernel
theorem dX4_init_9 : decode cX4_init 9 = .ok (.aload_n 0, 1) := by decide +kernel
theorem dX4_init_10 : decode cX4_init 10 = .ok (.iconst (-1), 1) := by decide +kernel
theorem dX4_init_11 : decode cX4_init 11 = .ok (.putfield 15, 3) := by decide +kernel
theorem dX4_init_14 : decode cX4_init 14 = .ok (.aload_n 0, 1) := by decide +kernel
theorem dX4_init_15 : decode cX4_init 15 = .ok (.iconst 0, 1) := by decide +kernel
theorem dX4_init_16 : decode cX4_init 16 = .ok (.putfield 18, 3) := by decide +kernel
theorem dX4_init_19 : decode cX4_init 19 = .ok (.aload_n 0, 1) := by decide +kernel
theorem dX4_init_20 : decode cX4_init 20 = .ok (.iconst 0, 1) := by decide +kernel
theorem dX4_init_21 : decode cX4_init 21 = .ok (.putfield 21, 3) := by decide +kernel
theorem dX4_init_24 : decode cX4_init 24 = .ok (.aload_n 0, 1) := by decide +kernel
theorem dX4_init_25 : decode cX4_init 25 = .ok (.iconst 0, 1) := by decide +kernel
theorem dX4_init_26 : decode cX4_init 26 = .ok (.putfield 24, 3) := by decide +kernel
theorem dX4_init_29 : decode cX4_init 29 = .ok (.aload_n 0, 1) := by decide +kernel
theorem dX4_init_30 : decode cX4_init 30 = .ok (.iconst 0, 1) := by decide +kernel
theorem dX4_init_31 : decode cX4_init 31 = .ok (.putfield 27, 3) := by decide +kernel
theorem dX4_init_34 : decode cX4_init 34 = .ok (.aload_n 0, 1) := by decide +kernel
theorem dX4_init_35 : decode cX4_init 35 = .ok (.lconst 0, 1) := by decide +kernel
theorem dX4_init_36 : decode cX4_init 36 = .ok (.putfield 30, 3) := by decide +kernel
theorem dX4_init_39 : decode cX4_init 39 = .ok (.aload_n 0, 1) := by decide +kernel
theorem dX4_init_40 : decode cX4_init 40 = .ok (.aload_n 1, 1) := by decide +kernel
theorem dX4_init_41 : decode cX4_init 41 = .ok (.putfield 34, 3) := by decide +kernel
theorem dX4_init_44 : decode cX4_init 44 = .ok (.aload_n 0, 1) := by decide +kernel
theorem dX4_init_45 : decode cX4_init 45 = .ok (.iload_n 2, 1) := by decide +kernel
theorem dX4_init_46 : decode cX4_init 46 = .ok (.aload_n 1, 1) := by decide +kernel
theorem dX4_init_47 : decode cX4_init 47 = .ok (.arraylength, 1) := by decide +kernel
theorem dX4_init_48 : decode cX4_init 48 = .ok (.invokestatic 38, 3) := by decide +kernel
theorem dX4_init_51 : decode cX4_init 51 = .ok (.putfield 44, 3) := by decide +kernel
theorem dX4_init_54 : decode cX4_init 54 = .ok (.aload_n 0, 1) := by decide +kernel
theorem dX4_init_55 : decode cX4_init 55 = .ok (.aload_n 3, 1) := by decide +kernel
theorem dX4_init_56 : decode cX4_init 56 = .ok (.putfield 47, 3) := by decide +kernel
theorem dX4_init_59 : decode cX4_init 59 = .ok (.return_, 1) := by decide +kernel
theorem dX4_read_0 : decode cX4_read 0 = .ok (.aload_n 0, 1) := by decide +kernel
theorem dX4_read_1 : decode cX4_read 1 = .ok (.getfield 47, 3) := by decide +kernel
theorem dX4_read_4 : decode cX4_read 4 = .ok (.invokevirtual 51, 3) := by decide +kernel
theorem dX4_read_7 : decode cX4_read 7 = .ok (.aload_n 0, 1) := by decide +kernel
theorem dX4_read_8 : decode cX4_read 8 = .ok (.invokevirtual 56, 3) := by decide +kernel
theorem dX4_read_11 : decode cX4_read 11 = .ok (.iconst 0, 1) := by decide +kernel
theorem dX4_read_12 : decode cX4_read 12 = .ok (.istore_n 1, 1) := by decide +kernel
theorem dX4_read_13 : decode cX4_read 13 = .ok (.iload_n 1, 1) := by decide +kernel
theorem dX4_read_14 : decode cX4_read 14 = .ok (.sipush 900, 3) := by decide +kernel
theorem dX4_read_17 : decode cX4_read 17 = .ok (.if_icmp .gt 157, 3) := by decide +kernel
theorem dX4_read_20 : decode cX4_read 20 = .ok (.aload_n 0, 1) := by decide +kernel
theorem dX4_read_21 : decode cX4_read 21 = .ok (.invokevirtual 59, 3) := by decide +kernel
theorem dX4_read_24 : decode cX4_read 24 = .ok (.istore_n 2, 1) := by decide +kernel
theorem dX4_read_25 : decode cX4_read 25 = .ok (.aload_n 0, 1) := by decide +kernel
theorem dX4_read_26 : decode cX4_read 26 = .ok (.iload_n 2, 1) := by decide +kernel
theorem dX4_read_27 : decode cX4_read 27 = .ok (.invokevirtual 63, 3) := by decide +kernel
theorem dX4_read_30 : decode cX4_read 30 = .ok (.ifCond .ne 5, 3) := by decide +kernel
theorem dX4_read_33 : decode cX4_read 33 = .ok (.iconst 0, 1) := by decide +kernel
theorem dX4_read_34 : decode cX4_read 34 = .ok (.ireturn, 1) := by decide +kernel
theorem dX4_read_35 : decode cX4_read 35 = .ok (.aload_n 0, 1) := by decide +kernel
theorem dX4_read_36 : decode cX4_read 36 = .ok (.invokevirtual 56, 3) := by decide +kernel
theorem dX4_read_39 : decode cX4_read 39 = .ok (.iload_n 2, 1) := by decide +kernel
theorem dX4_read_40 : decode cX4_read 40 = .ok (.tableswitch 64 0 3 #[32, 40, 48, 56], 32) := by decide +kernel
theorem dX4_read_72 : decode cX4_read 72 = .ok (.aload_n 0, 1) := by decide +kernel
theorem dX4_read_73 : decode cX4_read 73 = .ok (.invokevirtual 67, 3) := by decide +kernel
theorem dX4_read_76 : decode cX4_read 76 = .ok (.istore_n 3, 1) := by decide +kernel
theorem dX4_read_77 : decode cX4_read 77 = .ok (.goto 32, 3) := by decide +kernel
theorem dX4_read_80 : decode cX4_read 80 = .ok (.aload_n 0, 1) := by decide +kernel
theorem dX4_read_81 : decode cX4_read 81 = .ok (.invokevirtual 71, 3) := by decide +kernel
theorem dX4_read_84 : decode cX4_read 84 = .ok (.istore_n 3, 1) := by decide +kernel
theorem dX4_read_85 : decode cX4_read 85 = .ok (.goto 24, 3) := by decide +kernel
theorem dX4_read_88 : decode cX4_read 88 = .ok (.aload_n 0, 1) := by decide +kernel
theorem dX4_read_89 : decode cX4_read 89 = .ok (.invokevirtual 74, 3) := by decide +kernel
theorem dX4_read_92 : decode cX4_read 92 = .ok (.istore_n 3, 1) := by decide +kernel
theorem dX4_read_93 : decode cX4_read 93 = .ok (.goto 16, 3) := by decide +kernel
theorem dX4_read_96 : decode cX4_read 96 = .ok (.aload_n 0, 1) := by decide +kernel
theorem dX4_read_97 : decode cX4_read 97 = .ok (.invokevirtual 77, 3) := by decide +kernel
theorem dX4_read_100 : decode cX4_read 100 = .ok (.istore_n 3, 1) := by decide +kernel
theorem dX4_read_101 : decode cX4_read 101 = .ok (.goto 8, 3) := by decide +kernel
theorem dX4_read_104 : decode cX4_read 104 = .ok (.aload_n 0, 1) := by decide +kernel
theorem dX4_read_105 : decode cX4_read 105 = .ok (.invokevirtual 80, 3) := by decide +kernel
theorem dX4_read_108 : decode cX4_read 108 = .ok (.istore_n 3, 1) := by decide +kernel
theorem dX4_read_109 : decode cX4_read 109 = .ok (.iload_n 3, 1) := by decide +kernel
theorem dX4_read_110 : decode cX4_read 110 = .ok (.ifCond .ne 5, 3) := by decide +kernel
theorem dX4_read_113 : decode cX4_read 113 = .ok (.iconst 0, 1) := by decide +kernel
theorem dX4_read_114 : decode cX4_read 114 = .ok (.ireturn, 1) := by decide +kernel
theorem dX4_read_115 : decode cX4_read 115 = .ok (.aload_n 0, 1) := by decide +kernel
theorem dX4_read_116 : decode cX4_read 116 = .ok (.getfield 18, 3) := by decide +kernel
theorem dX4_read_119 : decode cX4_read 119 = .ok (.ifCond .ne 31, 3) := by decide +kernel
theorem dX4_read_122 : decode cX4_read 122 = .ok (.aload_n 0, 1) := by decide +kernel
theorem dX4_read_123 : decode cX4_read 123 = .ok (.getfield 47, 3) := by decide +kernel
theorem dX4_read_126 : decode cX4_read 126 = .ok (.getfield 83, 3) := by decide +kernel
theorem dX4_read_129 : decode cX4_read 129 = .ok (.getfield 87, 3) := by decide +kernel
theorem dX4_read_132 : decode cX4_read 132 = .ok (.ifCond .gt 12, 3) := by decide +kernel
theorem dX4_read_135 : decode cX4_read 135 = .ok (.aload_n 0, 1) := by decide +kernel
theorem dX4_read_136 : decode cX4_read 136 = .ok (.bipush 6, 2) := by decide +kernel
theorem dX4_read_138 : decode cX4_read 138 = .ok (.invokevirtual 92, 3) := by decide +kernel
theorem dX4_read_141 : decode cX4_read 141 = .ok (.ifCond .eq 7, 3) := by decide +kernel
theorem dX4_read_144 : decode cX4_read 144 = .ok (.iconst 1, 1) := by decide +kernel
theorem dX4_read_145 : decode cX4_read 145 = .ok (.goto 4, 3) := by decide +kernel
theorem dX4_read_148 : decode cX4_read 148 = .ok (.iconst 0, 1) := by decide +kernel
theorem dX4_read_149 : decode cX4_read 149 = .ok (.ireturn, 1) := by decide +kernel
theorem dX4_read_150 : decode cX4_read 150 = .ok (.aload_n 0, 1) := by decide +kernel
theorem dX4_read_151 : decode cX4_read 151 = .ok (.getfield 18, 3) := by decide +kernel
theorem dX4_read_154 : decode cX4_read 154 = .ok (.iconst 3, 1) := by decide +kernel
theorem dX4_read_155 : decode cX4_read 155 = .ok (.if_icmp .eq 9, 3) := by decide +kernel
theorem dX4_read_158 : decode cX4_read 158 = .ok (.aload_n 0, 1) := by decide +kernel
theorem dX4_read_159 : decode cX4_read 159 = .ok (.iconst 1, 1) := by decide +kernel
theorem dX4_read_160 : decode cX4_read 160 = .ok (.invokevirtual 92, 3) := by decide +kernel
theorem dX4_read_163 : decode cX4_read 163 = .ok (.ireturn, 1) := by decide +kernel
theorem dX4_read_164 : decode cX4_read 164 = .ok (.aload_n 0, 1) := by decide +kernel
theorem dX4_read_165 : decode cX4_read 165 = .ok (.invokevirtual 56, 3) := by decide +kernel
theorem dX4_read_168 : decode cX4_read 168 = .ok (.iinc 1 1, 3) := by decide +kernel
theorem dX4_read_171 : decode cX4_read 171 = .ok (.goto (-158), 3) := by decide +kernel
theorem dX4_read_174 : decode cX4_read 174 = .ok (.aload_n 0, 1) := by decide +kernel
theorem dX4_read_175 : decode cX4_read 175 = .ok (.iconst 1, 1) := by decide +kernel
theorem dX4_read_176 : decode cX4_read 176 = .ok (.invokevirtual 92, 3) := by decide +kernel
theorem dX4_read_179 : decode cX4_read 179 = .ok (.ireturn, 1) := by decide +kernel
theorem dX4_fail_0 : decode cX4_fail 0 = .ok (.aload_n 0, 1) := by decide +kernel
theorem dX4_fail_1 : decode cX4_fail 1 = .ok (.iload_n 1, 1) := by decide +kernel
theorem dX4_fail_2 : decode cX4_fail 2 = .ok (.putfield 9, 3) := by decide +kernel
theorem dX4_fail_5 : decode cX4_fail 5 = .ok (.aload_n 0, 1) := by decide +kernel
theorem dX4_fail_6 : decode cX4_fail 6 = .ok (.aload_n 0, 1) := by decide +kernel
theorem dX4_fail_7 : decode cX4_fail 7 = .ok (.getfield 21, 3) := by decide +kernel
theorem dX4_fail_10 : decode cX4_fail 10 = .ok (.putfield 15, 3) := by decide +kernel
theorem dX4_fail_13 : decode cX4_fail 13 = .ok (.iconst 0, 1) := by decide +kernel
theorem dX4_fail_14 : decode cX4_fail 14 = .ok (.ireturn, 1) := by decide +kernel
theorem dX4_failed_0 : decode cX4_failed 0 = .ok (.aload_n 0, 1) := by decide +kernel
theorem dX4_failed_1 : decode cX4_failed 1 = .ok (.iload_n 1, 1) := by decide +kernel
theorem dX4_failed_2 : decode cX4_failed 2 = .ok (.invokevirtual 92, 3) := by decide +kernel
theorem dX4_failed_5 : decode cX4_failed 5 = .ok (.pop, 1) := by decide +kernel
theorem dX4_failed_6 : decode cX4_failed 6 = .ok (.iconst (-1), 1) := by decide +kernel
theorem dX4_failed_7 : decode cX4_failed 7 = .ok (.ireturn, 1) := by decide +kernel
theorem dX4_take_0 : decode cX4_take 0 = .ok (.aload_n 0, 1) := by decide +kernel
theorem dX4_take_1 : decode cX4_take 1 = .ok (.aload_n 0, 1) := by decide +kernel
theorem dX4_take_2 : decode cX4_take 2 = .ok (.getfield 24, 3) := by decide +kernel
theorem dX4_take_5 : decode cX4_take 5 = .ok (.putfield 21, 3) := by decide +kernel
theorem dX4_take_8 : decode cX4_take 8 = .ok (.aload_n 0, 1) := by decide +kernel
theorem dX4_take_9 : decode cX4_take 9 = .ok (.getfield 21, 3) := by decide +kernel
theorem dX4_take_12 : decode cX4_take 12 = .ok (.aload_n 0, 1) := by decide +kernel
theorem dX4_take_13 : decode cX4_take 13 = .ok (.getfield 44, 3) := by decide +kernel
theorem dX4_take_16 : decode cX4_take 16 = .ok (.if_icmp .ge 30, 3) := by decide +kernel
theorem dX4_take_19 : decode cX4_take 19 = .ok (.aload_n 0, 1) := by decide +kernel
theorem dX4_take_20 : decode cX4_take 20 = .ok (.getfield 34, 3) := by decide +kernel
theorem dX4_take_23 : decode cX4_take 23 = .ok (.aload_n 0, 1) := by decide +kernel
theorem dX4_take_24 : decode cX4_take 24 = .ok (.getfield 21, 3) := by decide +kernel
theorem dX4_take_27 : decode cX4_take 27 = .ok (.iaload, 1) := by decide +kernel
theorem dX4_take_28 : decode cX4_take 28 = .ok (.bipush 32, 2) := by decide +kernel
theorem dX4_take_30 : decode cX4_take 30 = .ok (.if_icmp .ne 16, 3) := by decide +kernel
theorem dX4_take_33 : decode cX4_take 33 = .ok (.aload_n 0, 1) := by decide +kernel
theorem dX4_take_34 : decode cX4_take 34 = .ok (.dup, 1) := by decide +kernel
theorem dX4_take_35 : decode cX4_take 35 = .ok (.getfield 21, 3) := by decide +kernel
theorem dX4_take_38 : decode cX4_take 38 = .ok (.iconst 1, 1) := by decide +kernel
theorem dX4_take_39 : decode cX4_take 39 = .ok (.iadd, 1) := by decide +kernel
theorem dX4_take_40 : decode cX4_take 40 = .ok (.putfield 21, 3) := by decide +kernel
theorem dX4_take_43 : decode cX4_take 43 = .ok (.goto (-35), 3) := by decide +kernel
theorem dX4_take_46 : decode cX4_take 46 = .ok (.aload_n 0, 1) := by decide +kernel
theorem dX4_take_47 : decode cX4_take 47 = .ok (.aload_n 0, 1) := by decide +kernel
theorem dX4_take_48 : decode cX4_take 48 = .ok (.getfield 21, 3) := by decide +kernel
theorem dX4_take_51 : decode cX4_take 51 = .ok (.putfield 24, 3) := by decide +kernel
theorem dX4_take_54 : decode cX4_take 54 = .ok (.aload_n 0, 1) := by decide +kernel
theorem dX4_take_55 : decode cX4_take 55 = .ok (.lconst 0, 1) := by decide +kernel
theorem dX4_take_56 : decode cX4_take 56 = .ok (.putfield 30, 3) := by decide +kernel
theorem dX4_take_59 : decode cX4_take 59 = .ok (.aload_n 0, 1) := by decide +kernel
theorem dX4_take_60 : decode cX4_take 60 = .ok (.getfield 24, 3) := by decide +kernel
theorem dX4_take_63 : decode cX4_take 63 = .ok (.aload_n 0, 1) := by decide +kernel
theorem dX4_take_64 : decode cX4_take 64 = .ok (.getfield 44, 3) := by decide +kernel
theorem dX4_take_67 : decode cX4_take 67 = .ok (.if_icmp .ge 73, 3) := by decide +kernel
theorem dX4_take_70 : decode cX4_take 70 = .ok (.aload_n 0, 1) := by decide +kernel
theorem dX4_take_71 : decode cX4_take 71 = .ok (.getfield 34, 3) := by decide +kernel
theorem dX4_take_74 : decode cX4_take 74 = .ok (.aload_n 0, 1) := by decide +kernel
theorem dX4_take_75 : decode cX4_take 75 = .ok (.getfield 24, 3) := by decide +kernel
theorem dX4_take_78 : decode cX4_take 78 = .ok (.iaload, 1) := by decide +kernel
theorem dX4_take_79 : decode cX4_take 79 = .ok (.bipush 97, 2) := by decide +kernel
theorem dX4_take_81 : decode cX4_take 81 = .ok (.if_icmp .lt 59, 3) := by decide +kernel
theorem dX4_take_84 : decode cX4_take 84 = .ok (.aload_n 0, 1) := by decide +kernel
theorem dX4_take_85 : decode cX4_take 85 = .ok (.getfield 34, 3) := by decide +kernel
theorem dX4_take_88 : decode cX4_take 88 = .ok (.aload_n 0, 1) := by decide +kernel
theorem dX4_take_89 : decode cX4_take 89 = .ok (.getfield 24, 3) := by decide +kernel
theorem dX4_take_92 : decode cX4_take 92 = .ok (.iaload, 1) := by decide +kernel
theorem dX4_take_93 : decode cX4_take 93 = .ok (.bipush 122, 2) := by decide +kernel
theorem dX4_take_95 : decode cX4_take 95 = .ok (.if_icmp .gt 45, 3) := by decide +kernel
theorem dX4_take_98 : decode cX4_take 98 = .ok (.aload_n 0, 1) := by decide +kernel
theorem dX4_take_99 : decode cX4_take 99 = .ok (.ldc2_w 95, 3) := by decide +kernel
theorem dX4_take_102 : decode cX4_take 102 = .ok (.aload_n 0, 1) := by decide +kernel
theorem dX4_take_103 : decode cX4_take 103 = .ok (.getfield 30, 3) := by decide +kernel
theorem dX4_take_106 : decode cX4_take 106 = .ok (.lmul, 1) := by decide +kernel
theorem dX4_take_107 : decode cX4_take 107 = .ok (.aload_n 0, 1) := by decide +kernel
theorem dX4_take_108 : decode cX4_take 108 = .ok (.getfield 34, 3) := by decide +kernel
theorem dX4_take_111 : decode cX4_take 111 = .ok (.aload_n 0, 1) := by decide +kernel
theorem dX4_take_112 : decode cX4_take 112 = .ok (.getfield 24, 3) := by decide +kernel
theorem dX4_take_115 : decode cX4_take 115 = .ok (.iaload, 1) := by decide +kernel
theorem dX4_take_116 : decode cX4_take 116 = .ok (.i2l, 1) := by decide +kernel
theorem dX4_take_117 : decode cX4_take 117 = .ok (.ladd, 1) := by decide +kernel
theorem dX4_take_118 : decode cX4_take 118 = .ok (.ldc2_w 97, 3) := by decide +kernel
theorem dX4_take_121 : decode cX4_take 121 = .ok (.lsub, 1) := by decide +kernel
theorem dX4_take_122 : decode cX4_take 122 = .ok (.lconst 1, 1) := by decide +kernel
theorem dX4_take_123 : decode cX4_take 123 = .ok (.ladd, 1) := by decide +kernel
theorem dX4_take_124 : decode cX4_take 124 = .ok (.putfield 30, 3) := by decide +kernel
theorem dX4_take_127 : decode cX4_take 127 = .ok (.aload_n 0, 1) := by decide +kernel
theorem dX4_take_128 : decode cX4_take 128 = .ok (.dup, 1) := by decide +kernel
theorem dX4_take_129 : decode cX4_take 129 = .ok (.getfield 24, 3) := by decide +kernel
theorem dX4_take_132 : decode cX4_take 132 = .ok (.iconst 1, 1) := by decide +kernel
theorem dX4_take_133 : decode cX4_take 133 = .ok (.iadd, 1) := by decide +kernel
theorem dX4_take_134 : decode cX4_take 134 = .ok (.putfield 24, 3) := by decide +kernel
theorem dX4_take_137 : decode cX4_take 137 = .ok (.goto (-78), 3) := by decide +kernel
theorem dX4_take_140 : decode cX4_take 140 = .ok (.aload_n 0, 1) := by decide +kernel
theorem dX4_take_141 : decode cX4_take 141 = .ok (.getfield 24, 3) := by decide +kernel
theorem dX4_take_144 : decode cX4_take 144 = .ok (.aload_n 0, 1) := by decide +kernel
theorem dX4_take_145 : decode cX4_take 145 = .ok (.getfield 21, 3) := by decide +kernel
theorem dX4_take_148 : decode cX4_take 148 = .ok (.if_icmp .le 27, 3) := by decide +kernel
theorem dX4_take_151 : decode cX4_take 151 = .ok (.aload_n 0, 1) := by decide +kernel
theorem dX4_take_152 : decode cX4_take 152 = .ok (.aload_n 0, 1) := by decide +kernel
theorem dX4_take_153 : decode cX4_take 153 = .ok (.getfield 24, 3) := by decide +kernel
theorem dX4_take_156 : decode cX4_take 156 = .ok (.aload_n 0, 1) := by decide +kernel
theorem dX4_take_157 : decode cX4_take 157 = .ok (.getfield 21, 3) := by decide +kernel
theorem dX4_take_160 : decode cX4_take 160 = .ok (.isub, 1) := by decide +kernel
theorem dX4_take_161 : decode cX4_take 161 = .ok (.bipush 8, 2) := by decide +kernel
theorem dX4_take_163 : decode cX4_take 163 = .ok (.if_icmp .gt 7, 3) := by decide +kernel
theorem dX4_take_166 : decode cX4_take 166 = .ok (.iconst 1, 1) := by decide +kernel
theorem dX4_take_167 : decode cX4_take 167 = .ok (.goto 4, 3) := by decide +kernel
theorem dX4_take_170 : decode cX4_take 170 = .ok (.iconst 5, 1) := by decide +kernel
theorem dX4_take_171 : decode cX4_take 171 = .ok (.putfield 18, 3) := by decide +kernel
theorem dX4_take_174 : decode cX4_take 174 = .ok (.return_, 1) := by decide +kernel
theorem dX4_take_175 : decode cX4_take 175 = .ok (.aload_n 0, 1) := by decide +kernel
theorem dX4_take_176 : decode cX4_take 176 = .ok (.iconst 0, 1) := by decide +kernel
theorem dX4_take_177 : decode cX4_take 177 = .ok (.putfield 27, 3) := by decide +kernel
theorem dX4_take_180 : decode cX4_take 180 = .ok (.aload_n 0, 1) := by decide +kernel
theorem dX4_take_181 : decode cX4_take 181 = .ok (.getfield 24, 3) := by decide +kernel
theorem dX4_take_184 : decode cX4_take 184 = .ok (.aload_n 0, 1) := by decide +kernel
theorem dX4_take_185 : decode cX4_take 185 = .ok (.getfield 44, 3) := by decide +kernel
theorem dX4_take_188 : decode cX4_take 188 = .ok (.if_icmp .ge 68, 3) := by decide +kernel
theorem dX4_take_191 : decode cX4_take 191 = .ok (.aload_n 0, 1) := by decide +kernel
theorem dX4_take_192 : decode cX4_take 192 = .ok (.getfield 34, 3) := by decide +kernel
theorem dX4_take_195 : decode cX4_take 195 = .ok (.aload_n 0, 1) := by decide +kernel
theorem dX4_take_196 : decode cX4_take 196 = .ok (.getfield 24, 3) := by decide +kernel
theorem dX4_take_199 : decode cX4_take 199 = .ok (.iaload, 1) := by decide +kernel
theorem dX4_take_200 : decode cX4_take 200 = .ok (.bipush 48, 2) := by decide +kernel
theorem dX4_take_202 : decode cX4_take 202 = .ok (.if_icmp .lt 54, 3) := by decide +kernel
theorem dX4_take_205 : decode cX4_take 205 = .ok (.aload_n 0, 1) := by decide +kernel
theorem dX4_take_206 : decode cX4_take 206 = .ok (.getfield 34, 3) := by decide +kernel
theorem dX4_take_209 : decode cX4_take 209 = .ok (.aload_n 0, 1) := by decide +kernel
theorem dX4_take_210 : decode cX4_take 210 = .ok (.getfield 24, 3) := by decide +kernel
theorem dX4_take_213 : decode cX4_take 213 = .ok (.iaload, 1) := by decide +kernel
theorem dX4_take_214 : decode cX4_take 214 = .ok (.bipush 57, 2) := by decide +kernel
theorem dX4_take_216 : decode cX4_take 216 = .ok (.if_icmp .gt 40, 3) := by decide +kernel
theorem dX4_take_219 : decode cX4_take 219 = .ok (.aload_n 0, 1) := by decide +kernel
theorem dX4_take_220 : decode cX4_take 220 = .ok (.bipush 10, 2) := by decide +kernel
theorem dX4_take_222 : decode cX4_take 222 = .ok (.aload_n 0, 1) := by decide +kernel
theorem dX4_take_223 : decode cX4_take 223 = .ok (.getfield 27, 3) := by decide +kernel
theorem dX4_take_226 : decode cX4_take 226 = .ok (.imul, 1) := by decide +kernel
theorem dX4_take_227 : decode cX4_take 227 = .ok (.aload_n 0, 1) := by decide +kernel
theorem dX4_take_228 : decode cX4_take 228 = .ok (.getfield 34, 3) := by decide +kernel
theorem dX4_take_231 : decode cX4_take 231 = .ok (.aload_n 0, 1) := by decide +kernel
theorem dX4_take_232 : decode cX4_take 232 = .ok (.getfield 24, 3) := by decide +kernel
theorem dX4_take_235 : decode cX4_take 235 = .ok (.iaload, 1) := by decide +kernel
theorem dX4_take_236 : decode cX4_take 236 = .ok (.iadd, 1) := by decide +kernel
theorem dX4_take_237 : decode cX4_take 237 = .ok (.bipush 48, 2) := by decide +kernel
theorem dX4_take_239 : decode cX4_take 239 = .ok (.isub, 1) := by decide +kernel
theorem dX4_take_240 : decode cX4_take 240 = .ok (.putfield 27, 3) := by decide +kernel
theorem dX4_take_243 : decode cX4_take 243 = .ok (.aload_n 0, 1) := by decide +kernel
theorem dX4_take_244 : decode cX4_take 244 = .ok (.dup, 1) := by decide +kernel
theorem dX4_take_245 : decode cX4_take 245 = .ok (.getfield 24, 3) := by decide +kernel
theorem dX4_take_248 : decode cX4_take 248 = .ok (.iconst 1, 1) := by decide +kernel
theorem dX4_take_249 : decode cX4_take 249 = .ok (.iadd, 1) := by decide +kernel
theorem dX4_take_250 : decode cX4_take 250 = .ok (.putfield 24, 3) := by decide +kernel
theorem dX4_take_253 : decode cX4_take 253 = .ok (.goto (-73), 3) := by decide +kernel
theorem dX4_take_256 : decode cX4_take 256 = .ok (.aload_n 0, 1) := by decide +kernel
theorem dX4_take_257 : decode cX4_take 257 = .ok (.getfield 24, 3) := by decide +kernel
theorem dX4_take_260 : decode cX4_take 260 = .ok (.aload_n 0, 1) := by decide +kernel
theorem dX4_take_261 : decode cX4_take 261 = .ok (.getfield 21, 3) := by decide +kernel
theorem dX4_take_264 : decode cX4_take 264 = .ok (.if_icmp .le 28, 3) := by decide +kernel
theorem dX4_take_267 : decode cX4_take 267 = .ok (.aload_n 0, 1) := by decide +kernel
theorem dX4_take_268 : decode cX4_take 268 = .ok (.aload_n 0, 1) := by decide +kernel
theorem dX4_take_269 : decode cX4_take 269 = .ok (.getfield 24, 3) := by decide +kernel
theorem dX4_take_272 : decode cX4_take 272 = .ok (.aload_n 0, 1) := by decide +kernel
theorem dX4_take_273 : decode cX4_take 273 = .ok (.getfield 21, 3) := by decide +kernel
theorem dX4_take_276 : decode cX4_take 276 = .ok (.isub, 1) := by decide +kernel
theorem dX4_take_277 : decode cX4_take 277 = .ok (.iconst 2, 1) := by decide +kernel
theorem dX4_take_278 : decode cX4_take 278 = .ok (.if_icmp .gt 7, 3) := by decide +kernel
theorem dX4_take_281 : decode cX4_take 281 = .ok (.iconst 2, 1) := by decide +kernel
theorem dX4_take_282 : decode cX4_take 282 = .ok (.goto 4, 3) := by decide +kernel
theorem dX4_take_285 : decode cX4_take 285 = .ok (.iconst 5, 1) := by decide +kernel
theorem dX4_take_286 : decode cX4_take 286 = .ok (.putfield 18, 3) := by decide +kernel
theorem dX4_take_289 : decode cX4_take 289 = .ok (.goto 73, 3) := by decide +kernel
theorem dX4_take_292 : decode cX4_take 292 = .ok (.aload_n 0, 1) := by decide +kernel
theorem dX4_take_293 : decode cX4_take 293 = .ok (.getfield 21, 3) := by decide +kernel
theorem dX4_take_296 : decode cX4_take 296 = .ok (.aload_n 0, 1) := by decide +kernel
theorem dX4_take_297 : decode cX4_take 297 = .ok (.getfield 44, 3) := by decide +kernel
theorem dX4_take_300 : decode cX4_take 300 = .ok (.if_icmp .lt 11, 3) := by decide +kernel
theorem dX4_take_303 : decode cX4_take 303 = .ok (.aload_n 0, 1) := by decide +kernel
theorem dX4_take_304 : decode cX4_take 304 = .ok (.iconst 0, 1) := by decide +kernel
theorem dX4_take_305 : decode cX4_take 305 = .ok (.putfield 18, 3) := by decide +kernel
theorem dX4_take_308 : decode cX4_take 308 = .ok (.goto 54, 3) := by decide +kernel
theorem dX4_take_311 : decode cX4_take 311 = .ok (.aload_n 0, 1) := by decide +kernel
theorem dX4_take_312 : decode cX4_take 312 = .ok (.aload_n 0, 1) := by decide +kernel
theorem dX4_take_313 : decode cX4_take 313 = .ok (.getfield 34, 3) := by decide +kernel
theorem dX4_take_316 : decode cX4_take 316 = .ok (.aload_n 0, 1) := by decide +kernel
theorem dX4_take_317 : decode cX4_take 317 = .ok (.getfield 21, 3) := by decide +kernel
theorem dX4_take_320 : decode cX4_take 320 = .ok (.iaload, 1) := by decide +kernel
theorem dX4_take_321 : decode cX4_take 321 = .ok (.bipush 59, 2) := by decide +kernel
theorem dX4_take_323 : decode cX4_take 323 = .ok (.if_icmp .ne 7, 3) := by decide +kernel
theorem dX4_take_326 : decode cX4_take 326 = .ok (.iconst 3, 1) := by decide +kernel
theorem dX4_take_327 : decode cX4_take 327 = .ok (.goto 22, 3) := by decide +kernel
theorem dX4_take_330 : decode cX4_take 330 = .ok (.aload_n 0, 1) := by decide +kernel
theorem dX4_take_331 : decode cX4_take 331 = .ok (.getfield 34, 3) := by decide +kernel
theorem dX4_take_334 : decode cX4_take 334 = .ok (.aload_n 0, 1) := by decide +kernel
theorem dX4_take_335 : decode cX4_take 335 = .ok (.getfield 21, 3) := by decide +kernel
theorem dX4_take_338 : decode cX4_take 338 = .ok (.iaload, 1) := by decide +kernel
theorem dX4_take_339 : decode cX4_take 339 = .ok (.bipush 44, 2) := by decide +kernel
theorem dX4_take_341 : decode cX4_take 341 = .ok (.if_icmp .ne 7, 3) := by decide +kernel
theorem dX4_take_344 : decode cX4_take 344 = .ok (.iconst 4, 1) := by decide +kernel
theorem dX4_take_345 : decode cX4_take 345 = .ok (.goto 4, 3) := by decide +kernel
theorem dX4_take_348 : decode cX4_take 348 = .ok (.iconst 5, 1) := by decide +kernel
theorem dX4_take_349 : decode cX4_take 349 = .ok (.putfield 18, 3) := by decide +kernel
theorem dX4_take_352 : decode cX4_take 352 = .ok (.aload_n 0, 1) := by decide +kernel
theorem dX4_take_353 : decode cX4_take 353 = .ok (.dup, 1) := by decide +kernel
theorem dX4_take_354 : decode cX4_take 354 = .ok (.getfield 24, 3) := by decide +kernel
theorem dX4_take_357 : decode cX4_take 357 = .ok (.iconst 1, 1) := by decide +kernel
theorem dX4_take_358 : decode cX4_take 358 = .ok (.iadd, 1) := by decide +kernel
theorem dX4_take_359 : decode cX4_take 359 = .ok (.putfield 24, 3) := by decide +kernel
theorem dX4_take_362 : decode cX4_take 362 = .ok (.return_, 1) := by decide +kernel
theorem dX4_isWord_0 : decode cX4_isWord 0 = .ok (.aload_n 0, 1) := by decide +kernel
theorem dX4_isWord_1 : decode cX4_isWord 1 = .ok (.getfield 18, 3) := by decide +kernel
theorem dX4_isWord_4 : decode cX4_isWord 4 = .ok (.iconst 1, 1) := by decide +kernel
theorem dX4_isWord_5 : decode cX4_isWord 5 = .ok (.if_icmp .ne 19, 3) := by decide +kernel
theorem dX4_isWord_8 : decode cX4_isWord 8 = .ok (.aload_n 0, 1) := by decide +kernel
theorem dX4_isWord_9 : decode cX4_isWord 9 = .ok (.getfield 24, 3) := by decide +kernel
theorem dX4_isWord_12 : decode cX4_isWord 12 = .ok (.aload_n 0, 1) := by decide +kernel
theorem dX4_isWord_13 : decode cX4_isWord 13 = .ok (.getfield 21, 3) := by decide +kernel
theorem dX4_isWord_16 : decode cX4_isWord 16 = .ok (.isub, 1) := by decide +kernel
theorem dX4_isWord_17 : decode cX4_isWord 17 = .ok (.aload_n 1, 1) := by decide +kernel
theorem dX4_isWord_18 : decode cX4_isWord 18 = .ok (.invokevirtual 99, 3) := by decide +kernel
theorem dX4_isWord_21 : decode cX4_isWord 21 = .ok (.if_icmp .eq 5, 3) := by decide +kernel
theorem dX4_isWord_24 : decode cX4_isWord 24 = .ok (.iconst 0, 1) := by decide +kernel
theorem dX4_isWord_25 : decode cX4_isWord 25 = .ok (.ireturn, 1) := by decide +kernel
theorem dX4_isWord_26 : decode cX4_isWord 26 = .ok (.iconst 0, 1) := by decide +kernel
theorem dX4_isWord_27 : decode cX4_isWord 27 = .ok (.istore_n 2, 1) := by decide +kernel
theorem dX4_isWord_28 : decode cX4_isWord 28 = .ok (.iload_n 2, 1) := by decide +kernel
theorem dX4_isWord_29 : decode cX4_isWord 29 = .ok (.aload_n 1, 1) := by decide +kernel
theorem dX4_isWord_30 : decode cX4_isWord 30 = .ok (.invokevirtual 99, 3) := by decide +kernel
theorem dX4_isWord_33 : decode cX4_isWord 33 = .ok (.if_icmp .ge 30, 3) := by decide +kernel
theorem dX4_isWord_36 : decode cX4_isWord 36 = .ok (.aload_n 0, 1) := by decide +kernel
theorem dX4_isWord_37 : decode cX4_isWord 37 = .ok (.getfield 34, 3) := by decide +kernel
theorem dX4_isWord_40 : decode cX4_isWord 40 = .ok (.aload_n 0, 1) := by decide +kernel
theorem dX4_isWord_41 : decode cX4_isWord 41 = .ok (.getfield 21, 3) := by decide +kernel
theorem dX4_isWord_44 : decode cX4_isWord 44 = .ok (.iload_n 2, 1) := by decide +kernel
theorem dX4_isWord_45 : decode cX4_isWord 45 = .ok (.iadd, 1) := by decide +kernel
theorem dX4_isWord_46 : decode cX4_isWord 46 = .ok (.iaload, 1) := by decide +kernel
theorem dX4_isWord_47 : decode cX4_isWord 47 = .ok (.aload_n 1, 1) := by decide +kernel
theorem dX4_isWord_48 : decode cX4_isWord 48 = .ok (.iload_n 2, 1) := by decide +kernel
theorem dX4_isWord_49 : decode cX4_isWord 49 = .ok (.invokevirtual 104, 3) := by decide +kernel
theorem dX4_isWord_52 : decode cX4_isWord 52 = .ok (.if_icmp .eq 5, 3) := by decide +kernel
theorem dX4_isWord_55 : decode cX4_isWord 55 = .ok (.iconst 0, 1) := by decide +kernel
theorem dX4_isWord_56 : decode cX4_isWord 56 = .ok (.ireturn, 1) := by decide +kernel
theorem dX4_isWord_57 : decode cX4_isWord 57 = .ok (.iinc 2 1, 3) := by decide +kernel
theorem dX4_isWord_60 : decode cX4_isWord 60 = .ok (.goto (-32), 3) := by decide +kernel
theorem dX4_isWord_63 : decode cX4_isWord 63 = .ok (.iconst 1, 1) := by decide +kernel
theorem dX4_isWord_64 : decode cX4_isWord 64 = .ok (.ireturn, 1) := by decide +kernel
theorem dX4_wordDue_0 : decode cX4_wordDue 0 = .ok (.aload_n 0, 1) := by decide +kernel
theorem dX4_wordDue_1 : decode cX4_wordDue 1 = .ok (.aload_n 1, 1) := by decide +kernel
theorem dX4_wordDue_2 : decode cX4_wordDue 2 = .ok (.invokevirtual 108, 3) := by decide +kernel
theorem dX4_wordDue_5 : decode cX4_wordDue 5 = .ok (.ifCond .ne 9, 3) := by decide +kernel
theorem dX4_wordDue_8 : decode cX4_wordDue 8 = .ok (.aload_n 0, 1) := by decide +kernel
theorem dX4_wordDue_9 : decode cX4_wordDue 9 = .ok (.iconst 1, 1) := by decide +kernel
theorem dX4_wordDue_10 : decode cX4_wordDue 10 = .ok (.invokevirtual 92, 3) := by decide +kernel
theorem dX4_wordDue_13 : decode cX4_wordDue 13 = .ok (.ireturn, 1) := by decide +kernel
theorem dX4_wordDue_14 : decode cX4_wordDue 14 = .ok (.aload_n 0, 1) := by decide +kernel
theorem dX4_wordDue_15 : decode cX4_wordDue 15 = .ok (.invokevirtual 56, 3) := by decide +kernel
theorem dX4_wordDue_18 : decode cX4_wordDue 18 = .ok (.iconst 1, 1) := by decide +kernel
theorem dX4_wordDue_19 : decode cX4_wordDue 19 = .ok (.ireturn, 1) := by decide +kernel
theorem dX4_wholeDue_0 : decode cX4_wholeDue 0 = .ok (.aload_n 0, 1) := by decide +kernel
theorem dX4_wholeDue_1 : decode cX4_wholeDue 1 = .ok (.getfield 18, 3) := by decide +kernel
theorem dX4_wholeDue_4 : decode cX4_wholeDue 4 = .ok (.iconst 2, 1) := by decide +kernel
theorem dX4_wholeDue_5 : decode cX4_wholeDue 5 = .ok (.if_icmp .eq 9, 3) := by decide +kernel
theorem dX4_wholeDue_8 : decode cX4_wholeDue 8 = .ok (.aload_n 0, 1) := by decide +kernel
theorem dX4_wholeDue_9 : decode cX4_wholeDue 9 = .ok (.iconst 1, 1) := by decide +kernel
theorem dX4_wholeDue_10 : decode cX4_wholeDue 10 = .ok (.invokevirtual 112, 3) := by decide +kernel
theorem dX4_wholeDue_13 : decode cX4_wholeDue 13 = .ok (.ireturn, 1) := by decide +kernel
theorem dX4_wholeDue_14 : decode cX4_wholeDue 14 = .ok (.aload_n 0, 1) := by decide +kernel
theorem dX4_wholeDue_15 : decode cX4_wholeDue 15 = .ok (.getfield 27, 3) := by decide +kernel
theorem dX4_wholeDue_18 : decode cX4_wholeDue 18 = .ok (.iload_n 1, 1) := by decide +kernel
theorem dX4_wholeDue_19 : decode cX4_wholeDue 19 = .ok (.if_icmp .lt 11, 3) := by decide +kernel
theorem dX4_wholeDue_22 : decode cX4_wholeDue 22 = .ok (.aload_n 0, 1) := by decide +kernel
theorem dX4_wholeDue_23 : decode cX4_wholeDue 23 = .ok (.getfield 27, 3) := by decide +kernel
theorem dX4_wholeDue_26 : decode cX4_wholeDue 26 = .ok (.iload_n 2, 1) := by decide +kernel
theorem dX4_wholeDue_27 : decode cX4_wholeDue 27 = .ok (.if_icmp .le 9, 3) := by decide +kernel
theorem dX4_wholeDue_30 : decode cX4_wholeDue 30 = .ok (.aload_n 0, 1) := by decide +kernel
theorem dX4_wholeDue_31 : decode cX4_wholeDue 31 = .ok (.iconst 4, 1) := by decide +kernel
theorem dX4_wholeDue_32 : decode cX4_wholeDue 32 = .ok (.invokevirtual 112, 3) := by decide +kernel
theorem dX4_wholeDue_35 : decode cX4_wholeDue 35 = .ok (.ireturn, 1) := by decide +kernel
theorem dX4_wholeDue_36 : decode cX4_wholeDue 36 = .ok (.aload_n 0, 1) := by decide +kernel
theorem dX4_wholeDue_37 : decode cX4_wholeDue 37 = .ok (.getfield 27, 3) := by decide +kernel
theorem dX4_wholeDue_40 : decode cX4_wholeDue 40 = .ok (.istore_n 3, 1) := by decide +kernel
theorem dX4_wholeDue_41 : decode cX4_wholeDue 41 = .ok (.aload_n 0, 1) := by decide +kernel
theorem dX4_wholeDue_42 : decode cX4_wholeDue 42 = .ok (.invokevirtual 56, 3) := by decide +kernel
theorem dX4_wholeDue_45 : decode cX4_wholeDue 45 = .ok (.iload_n 3, 1) := by decide +kernel
theorem dX4_wholeDue_46 : decode cX4_wholeDue 46 = .ok (.ireturn, 1) := by decide +kernel
theorem dX4_markDue_0 : decode cX4_markDue 0 = .ok (.aload_n 0, 1) := by decide +kernel
theorem dX4_markDue_1 : decode cX4_markDue 1 = .ok (.getfield 18, 3) := by decide +kernel
theorem dX4_markDue_4 : decode cX4_markDue 4 = .ok (.iconst 1, 1) := by decide +kernel
theorem dX4_markDue_5 : decode cX4_markDue 5 = .ok (.if_icmp .eq 9, 3) := by decide +kernel
theorem dX4_markDue_8 : decode cX4_markDue 8 = .ok (.aload_n 0, 1) := by decide +kernel
theorem dX4_markDue_9 : decode cX4_markDue 9 = .ok (.iconst 1, 1) := by decide +kernel
theorem dX4_markDue_10 : decode cX4_markDue 10 = .ok (.invokevirtual 112, 3) := by decide +kernel
theorem dX4_markDue_13 : decode cX4_markDue 13 = .ok (.ireturn, 1) := by decide +kernel
theorem dX4_markDue_14 : decode cX4_markDue 14 = .ok (.aload_n 0, 1) := by decide +kernel
theorem dX4_markDue_15 : decode cX4_markDue 15 = .ok (.getfield 34, 3) := by decide +kernel
theorem dX4_markDue_18 : decode cX4_markDue 18 = .ok (.aload_n 0, 1) := by decide +kernel
theorem dX4_markDue_19 : decode cX4_markDue 19 = .ok (.getfield 21, 3) := by decide +kernel
theorem dX4_markDue_22 : decode cX4_markDue 22 = .ok (.iaload, 1) := by decide +kernel
theorem dX4_markDue_23 : decode cX4_markDue 23 = .ok (.bipush 97, 2) := by decide +kernel
theorem dX4_markDue_25 : decode cX4_markDue 25 = .ok (.isub, 1) := by decide +kernel
theorem dX4_markDue_26 : decode cX4_markDue 26 = .ok (.istore_n 2, 1) := by decide +kernel
theorem dX4_markDue_27 : decode cX4_markDue 27 = .ok (.aload_n 0, 1) := by decide +kernel
theorem dX4_markDue_28 : decode cX4_markDue 28 = .ok (.getfield 24, 3) := by decide +kernel
theorem dX4_markDue_31 : decode cX4_markDue 31 = .ok (.aload_n 0, 1) := by decide +kernel
theorem dX4_markDue_32 : decode cX4_markDue 32 = .ok (.getfield 21, 3) := by decide +kernel
theorem dX4_markDue_35 : decode cX4_markDue 35 = .ok (.isub, 1) := by decide +kernel
theorem dX4_markDue_36 : decode cX4_markDue 36 = .ok (.iconst 1, 1) := by decide +kernel
theorem dX4_markDue_37 : decode cX4_markDue 37 = .ok (.if_icmp .ne 14, 3) := by decide +kernel
theorem dX4_markDue_40 : decode cX4_markDue 40 = .ok (.iload_n 2, 1) := by decide +kernel
theorem dX4_markDue_41 : decode cX4_markDue 41 = .ok (.aload_n 0, 1) := by decide +kernel
theorem dX4_markDue_42 : decode cX4_markDue 42 = .ok (.getfield 47, 3) := by decide +kernel
theorem dX4_markDue_45 : decode cX4_markDue 45 = .ok (.getfield 116, 3) := by decide +kernel
theorem dX4_markDue_48 : decode cX4_markDue 48 = .ok (.if_icmp .lt 10, 3) := by decide +kernel
theorem dX4_markDue_51 : decode cX4_markDue 51 = .ok (.aload_n 0, 1) := by decide +kernel
theorem dX4_markDue_52 : decode cX4_markDue 52 = .ok (.bipush 7, 2) := by decide +kernel
theorem dX4_markDue_54 : decode cX4_markDue 54 = .ok (.invokevirtual 112, 3) := by decide +kernel
theorem dX4_markDue_57 : decode cX4_markDue 57 = .ok (.ireturn, 1) := by decide +kernel
theorem dX4_markDue_58 : decode cX4_markDue 58 = .ok (.iload_n 2, 1) := by decide +kernel
theorem dX4_markDue_59 : decode cX4_markDue 59 = .ok (.iload_n 1, 1) := by decide +kernel
theorem dX4_markDue_60 : decode cX4_markDue 60 = .ok (.if_icmp .ne 9, 3) := by decide +kernel
theorem dX4_markDue_63 : decode cX4_markDue 63 = .ok (.aload_n 0, 1) := by decide +kernel
theorem dX4_markDue_64 : decode cX4_markDue 64 = .ok (.iconst 3, 1) := by decide +kernel
theorem dX4_markDue_65 : decode cX4_markDue 65 = .ok (.invokevirtual 112, 3) := by decide +kernel
theorem dX4_markDue_68 : decode cX4_markDue 68 = .ok (.ireturn, 1) := by decide +kernel
theorem dX4_markDue_69 : decode cX4_markDue 69 = .ok (.aload_n 0, 1) := by decide +kernel
theorem dX4_markDue_70 : decode cX4_markDue 70 = .ok (.invokevirtual 56, 3) := by decide +kernel
theorem dX4_markDue_73 : decode cX4_markDue 73 = .ok (.iload_n 2, 1) := by decide +kernel
theorem dX4_markDue_74 : decode cX4_markDue 74 = .ok (.ireturn, 1) := by decide +kernel
theorem dX4_isName_0 : decode cX4_isName 0 = .ok (.aload_n 0, 1) := by decide +kernel
theorem dX4_isName_1 : decode cX4_isName 1 = .ok (.getfield 18, 3) := by decide +kernel
theorem dX4_isName_4 : decode cX4_isName 4 = .ok (.iconst 1, 1) := by decide +kernel
theorem dX4_isName_5 : decode cX4_isName 5 = .ok (.if_icmp .ne 24, 3) := by decide +kernel
theorem dX4_isName_8 : decode cX4_isName 8 = .ok (.aload_n 0, 1) := by decide +kernel
theorem dX4_isName_9 : decode cX4_isName 9 = .ok (.ldc 119, 2) := by decide +kernel
theorem dX4_isName_11 : decode cX4_isName 11 = .ok (.invokevirtual 108, 3) := by decide +kernel
theorem dX4_isName_14 : decode cX4_isName 14 = .ok (.ifCond .ne 15, 3) := by decide +kernel
theorem dX4_isName_17 : decode cX4_isName 17 = .ok (.aload_n 0, 1) := by decide +kernel
theorem dX4_isName_18 : decode cX4_isName 18 = .ok (.invokevirtual 59, 3) := by decide +kernel
theorem dX4_isName_21 : decode cX4_isName 21 = .ok (.iconst (-1), 1) := by decide +kernel
theorem dX4_isName_22 : decode cX4_isName 22 = .ok (.if_icmp .ne 7, 3) := by decide +kernel
theorem dX4_isName_25 : decode cX4_isName 25 = .ok (.iconst 1, 1) := by decide +kernel
theorem dX4_isName_26 : decode cX4_isName 26 = .ok (.goto 4, 3) := by decide +kernel
theorem dX4_isName_29 : decode cX4_isName 29 = .ok (.iconst 0, 1) := by decide +kernel
theorem dX4_isName_30 : decode cX4_isName 30 = .ok (.ireturn, 1) := by decide +kernel
theorem dX4_townHere_0 : decode cX4_townHere 0 = .ok (.aload_n 0, 1) := by decide +kernel
theorem dX4_townHere_1 : decode cX4_townHere 1 = .ok (.invokevirtual 121, 3) := by decide +kernel
theorem dX4_townHere_4 : decode cX4_townHere 4 = .ok (.ifCond .ne 9, 3) := by decide +kernel
theorem dX4_townHere_7 : decode cX4_townHere 7 = .ok (.aload_n 0, 1) := by decide +kernel
theorem dX4_townHere_8 : decode cX4_townHere 8 = .ok (.iconst 1, 1) := by decide +kernel
theorem dX4_townHere_9 : decode cX4_townHere 9 = .ok (.invokevirtual 112, 3) := by decide +kernel
theorem dX4_townHere_12 : decode cX4_townHere 12 = .ok (.ireturn, 1) := by decide +kernel
theorem dX4_townHere_13 : decode cX4_townHere 13 = .ok (.aload_n 0, 1) := by decide +kernel
theorem dX4_townHere_14 : decode cX4_townHere 14 = .ok (.getfield 47, 3) := by decide +kernel
theorem dX4_townHere_17 : decode cX4_townHere 17 = .ok (.aload_n 0, 1) := by decide +kernel
theorem dX4_townHere_18 : decode cX4_townHere 18 = .ok (.getfield 30, 3) := by decide +kernel
theorem dX4_townHere_21 : decode cX4_townHere 21 = .ok (.invokevirtual 124, 3) := by decide +kernel
theorem dX4_townHere_24 : decode cX4_townHere 24 = .ok (.istore_n 1, 1) := by decide +kernel
theorem dX4_townHere_25 : decode cX4_townHere 25 = .ok (.iload_n 1, 1) := by decide +kernel
theorem dX4_townHere_26 : decode cX4_townHere 26 = .ok (.iconst (-1), 1) := by decide +kernel
theorem dX4_townHere_27 : decode cX4_townHere 27 = .ok (.if_icmp .ne 11, 3) := by decide +kernel
theorem dX4_townHere_30 : decode cX4_townHere 30 = .ok (.aload_n 0, 1) := by decide +kernel
theorem dX4_townHere_31 : decode cX4_townHere 31 = .ok (.iconst 2, 1) := by decide +kernel
theorem dX4_townHere_32 : decode cX4_townHere 32 = .ok (.invokevirtual 112, 3) := by decide +kernel
theorem dX4_townHere_35 : decode cX4_townHere 35 = .ok (.goto 4, 3) := by decide +kernel
theorem dX4_townHere_38 : decode cX4_townHere 38 = .ok (.iload_n 1, 1) := by decide +kernel
theorem dX4_townHere_39 : decode cX4_townHere 39 = .ok (.ireturn, 1) := by decide +kernel
theorem dX4_lineSort_0 : decode cX4_lineSort 0 = .ok (.aload_n 0, 1) := by decide +kernel
theorem dX4_lineSort_1 : decode cX4_lineSort 1 = .ok (.ldc 128, 2) := by decide +kernel
theorem dX4_lineSort_3 : decode cX4_lineSort 3 = .ok (.invokevirtual 108, 3) := by decide +kernel
theorem dX4_lineSort_6 : decode cX4_lineSort 6 = .ok (.ifCond .eq 7, 3) := by decide +kernel
theorem dX4_lineSort_9 : decode cX4_lineSort 9 = .ok (.iconst 0, 1) := by decide +kernel
theorem dX4_lineSort_10 : decode cX4_lineSort 10 = .ok (.goto 56, 3) := by decide +kernel
theorem dX4_lineSort_13 : decode cX4_lineSort 13 = .ok (.aload_n 0, 1) := by decide +kernel
theorem dX4_lineSort_14 : decode cX4_lineSort 14 = .ok (.ldc 130, 2) := by decide +kernel
theorem dX4_lineSort_16 : decode cX4_lineSort 16 = .ok (.invokevirtual 108, 3) := by decide +kernel
theorem dX4_lineSort_19 : decode cX4_lineSort 19 = .ok (.ifCond .eq 7, 3) := by decide +kernel
theorem dX4_lineSort_22 : decode cX4_lineSort 22 = .ok (.iconst 1, 1) := by decide +kernel
theorem dX4_lineSort_23 : decode cX4_lineSort 23 = .ok (.goto 43, 3) := by decide +kernel
theorem dX4_lineSort_26 : decode cX4_lineSort 26 = .ok (.aload_n 0, 1) := by decide +kernel
theorem dX4_lineSort_27 : decode cX4_lineSort 27 = .ok (.ldc 132, 2) := by decide +kernel
theorem dX4_lineSort_29 : decode cX4_lineSort 29 = .ok (.invokevirtual 108, 3) := by decide +kernel
theorem dX4_lineSort_32 : decode cX4_lineSort 32 = .ok (.ifCond .eq 7, 3) := by decide +kernel
theorem dX4_lineSort_35 : decode cX4_lineSort 35 = .ok (.iconst 2, 1) := by decide +kernel
theorem dX4_lineSort_36 : decode cX4_lineSort 36 = .ok (.goto 30, 3) := by decide +kernel
theorem dX4_lineSort_39 : decode cX4_lineSort 39 = .ok (.aload_n 0, 1) := by decide +kernel
theorem dX4_lineSort_40 : decode cX4_lineSort 40 = .ok (.ldc 134, 2) := by decide +kernel
theorem dX4_lineSort_42 : decode cX4_lineSort 42 = .ok (.invokevirtual 108, 3) := by decide +kernel
theorem dX4_lineSort_45 : decode cX4_lineSort 45 = .ok (.ifCond .eq 7, 3) := by decide +kernel
theorem dX4_lineSort_48 : decode cX4_lineSort 48 = .ok (.iconst 3, 1) := by decide +kernel
theorem dX4_lineSort_49 : decode cX4_lineSort 49 = .ok (.goto 17, 3) := by decide +kernel
theorem dX4_lineSort_52 : decode cX4_lineSort 52 = .ok (.aload_n 0, 1) := by decide +kernel
theorem dX4_lineSort_53 : decode cX4_lineSort 53 = .ok (.ldc 136, 2) := by decide +kernel
theorem dX4_lineSort_55 : decode cX4_lineSort 55 = .ok (.invokevirtual 108, 3) := by decide +kernel
theorem dX4_lineSort_58 : decode cX4_lineSort 58 = .ok (.ifCond .eq 7, 3) := by decide +kernel
theorem dX4_lineSort_61 : decode cX4_lineSort 61 = .ok (.iconst 4, 1) := by decide +kernel
theorem dX4_lineSort_62 : decode cX4_lineSort 62 = .ok (.goto 4, 3) := by decide +kernel
theorem dX4_lineSort_65 : decode cX4_lineSort 65 = .ok (.iconst (-1), 1) := by decide +kernel
theorem dX4_lineSort_66 : decode cX4_lineSort 66 = .ok (.ireturn, 1) := by decide +kernel
theorem dX4_mayCome_0 : decode cX4_mayCome 0 = .ok (.aload_n 0, 1) := by decide +kernel
theorem dX4_mayCome_1 : decode cX4_mayCome 1 = .ok (.getfield 47, 3) := by decide +kernel
theorem dX4_mayCome_4 : decode cX4_mayCome 4 = .ok (.getfield 116, 3) := by decide +kernel
theorem dX4_mayCome_7 : decode cX4_mayCome 7 = .ok (.ifCond .le 7, 3) := by decide +kernel
theorem dX4_mayCome_10 : decode cX4_mayCome 10 = .ok (.iconst 1, 1) := by decide +kernel
theorem dX4_mayCome_11 : decode cX4_mayCome 11 = .ok (.goto 4, 3) := by decide +kernel
theorem dX4_mayCome_14 : decode cX4_mayCome 14 = .ok (.iconst 0, 1) := by decide +kernel
theorem dX4_mayCome_15 : decode cX4_mayCome 15 = .ok (.istore_n 2, 1) := by decide +kernel
theorem dX4_mayCome_16 : decode cX4_mayCome 16 = .ok (.iload_n 1, 1) := by decide +kernel
theorem dX4_mayCome_17 : decode cX4_mayCome 17 = .ok (.iconst (-1), 1) := by decide +kernel
theorem dX4_mayCome_18 : decode cX4_mayCome 18 = .ok (.if_icmp .ne 9, 3) := by decide +kernel
theorem dX4_mayCome_21 : decode cX4_mayCome 21 = .ok (.aload_n 0, 1) := by decide +kernel
theorem dX4_mayCome_22 : decode cX4_mayCome 22 = .ok (.iconst 1, 1) := by decide +kernel
theorem dX4_mayCome_23 : decode cX4_mayCome 23 = .ok (.invokevirtual 92, 3) := by decide +kernel
theorem dX4_mayCome_26 : decode cX4_mayCome 26 = .ok (.ireturn, 1) := by decide +kernel
theorem dX4_mayCome_27 : decode cX4_mayCome 27 = .ok (.iload_n 1, 1) := by decide +kernel
theorem dX4_mayCome_28 : decode cX4_mayCome 28 = .ok (.ifCond .ne 13, 3) := by decide +kernel
theorem dX4_mayCome_31 : decode cX4_mayCome 31 = .ok (.iload_n 2, 1) := by decide +kernel
theorem dX4_mayCome_32 : decode cX4_mayCome 32 = .ok (.ifCond .eq 9, 3) := by decide +kernel
theorem dX4_mayCome_35 : decode cX4_mayCome 35 = .ok (.aload_n 0, 1) := by decide +kernel
theorem dX4_mayCome_36 : decode cX4_mayCome 36 = .ok (.iconst 3, 1) := by decide +kernel
theorem dX4_mayCome_37 : decode cX4_mayCome 37 = .ok (.invokevirtual 92, 3) := by decide +kernel
theorem dX4_mayCome_40 : decode cX4_mayCome 40 = .ok (.ireturn, 1) := by decide +kernel
theorem dX4_mayCome_41 : decode cX4_mayCome 41 = .ok (.aload_n 0, 1) := by decide +kernel
theorem dX4_mayCome_42 : decode cX4_mayCome 42 = .ok (.iload_n 1, 1) := by decide +kernel
theorem dX4_mayCome_43 : decode cX4_mayCome 43 = .ok (.invokevirtual 138, 3) := by decide +kernel
theorem dX4_mayCome_46 : decode cX4_mayCome 46 = .ok (.ifCond .eq 9, 3) := by decide +kernel
theorem dX4_mayCome_49 : decode cX4_mayCome 49 = .ok (.aload_n 0, 1) := by decide +kernel
theorem dX4_mayCome_50 : decode cX4_mayCome 50 = .ok (.iconst 5, 1) := by decide +kernel
theorem dX4_mayCome_51 : decode cX4_mayCome 51 = .ok (.invokevirtual 92, 3) := by decide +kernel
theorem dX4_mayCome_54 : decode cX4_mayCome 54 = .ok (.ireturn, 1) := by decide +kernel
theorem dX4_mayCome_55 : decode cX4_mayCome 55 = .ok (.iload_n 1, 1) := by decide +kernel
theorem dX4_mayCome_56 : decode cX4_mayCome 56 = .ok (.ifCond .eq 16, 3) := by decide +kernel
theorem dX4_mayCome_59 : decode cX4_mayCome 59 = .ok (.iload_n 2, 1) := by decide +kernel
theorem dX4_mayCome_60 : decode cX4_mayCome 60 = .ok (.ifCond .ne 12, 3) := by decide +kernel
theorem dX4_mayCome_63 : decode cX4_mayCome 63 = .ok (.aload_n 0, 1) := by decide +kernel
theorem dX4_mayCome_64 : decode cX4_mayCome 64 = .ok (.bipush 6, 2) := by decide +kernel
theorem dX4_mayCome_66 : decode cX4_mayCome 66 = .ok (.invokevirtual 92, 3) := by decide +kernel
theorem dX4_mayCome_69 : decode cX4_mayCome 69 = .ok (.ifCond .eq 7, 3) := by decide +kernel
theorem dX4_mayCome_72 : decode cX4_mayCome 72 = .ok (.iconst 1, 1) := by decide +kernel
theorem dX4_mayCome_73 : decode cX4_mayCome 73 = .ok (.goto 4, 3) := by decide +kernel
theorem dX4_mayCome_76 : decode cX4_mayCome 76 = .ok (.iconst 0, 1) := by decide +kernel
theorem dX4_mayCome_77 : decode cX4_mayCome 77 = .ok (.ireturn, 1) := by decide +kernel
theorem dX4_isFull_0 : decode cX4_isFull 0 = .ok (.iload_n 1, 1) := by decide +kernel
theorem dX4_isFull_1 : decode cX4_isFull 1 = .ok (.iconst 1, 1) := by decide +kernel
theorem dX4_isFull_2 : decode cX4_isFull 2 = .ok (.if_icmp .ne 18, 3) := by decide +kernel
theorem dX4_isFull_5 : decode cX4_isFull 5 = .ok (.aload_n 0, 1) := by decide +kernel
theorem dX4_isFull_6 : decode cX4_isFull 6 = .ok (.getfield 47, 3) := by decide +kernel
theorem dX4_isFull_9 : decode cX4_isFull 9 = .ok (.getfield 83, 3) := by decide +kernel
theorem dX4_isFull_12 : decode cX4_isFull 12 = .ok (.getfield 87, 3) := by decide +kernel
theorem dX4_isFull_15 : decode cX4_isFull 15 = .ok (.bipush 6, 2) := by decide +kernel
theorem dX4_isFull_17 : decode cX4_isFull 17 = .ok (.if_icmp .ge 36, 3) := by decide +kernel
theorem dX4_isFull_20 : decode cX4_isFull 20 = .ok (.iload_n 1, 1) := by decide +kernel
theorem dX4_isFull_21 : decode cX4_isFull 21 = .ok (.iconst 3, 1) := by decide +kernel
theorem dX4_isFull_22 : decode cX4_isFull 22 = .ok (.if_icmp .ne 14, 3) := by decide +kernel
theorem dX4_isFull_25 : decode cX4_isFull 25 = .ok (.aload_n 0, 1) := by decide +kernel
theorem dX4_isFull_26 : decode cX4_isFull 26 = .ok (.getfield 47, 3) := by decide +kernel
theorem dX4_isFull_29 : decode cX4_isFull 29 = .ok (.getfield 141, 3) := by decide +kernel
theorem dX4_isFull_32 : decode cX4_isFull 32 = .ok (.iconst 5, 1) := by decide +kernel
theorem dX4_isFull_33 : decode cX4_isFull 33 = .ok (.if_icmp .ge 20, 3) := by decide +kernel
theorem dX4_isFull_36 : decode cX4_isFull 36 = .ok (.iload_n 1, 1) := by decide +kernel
theorem dX4_isFull_37 : decode cX4_isFull 37 = .ok (.iconst 4, 1) := by decide +kernel
theorem dX4_isFull_38 : decode cX4_isFull 38 = .ok (.if_icmp .ne 19, 3) := by decide +kernel
theorem dX4_isFull_41 : decode cX4_isFull 41 = .ok (.aload_n 0, 1) := by decide +kernel
theorem dX4_isFull_42 : decode cX4_isFull 42 = .ok (.getfield 47, 3) := by decide +kernel
theorem dX4_isFull_45 : decode cX4_isFull 45 = .ok (.getfield 144, 3) := by decide +kernel
theorem dX4_isFull_48 : decode cX4_isFull 48 = .ok (.bipush 8, 2) := by decide +kernel
theorem dX4_isFull_50 : decode cX4_isFull 50 = .ok (.if_icmp .lt 7, 3) := by decide +kernel
theorem dX4_isFull_53 : decode cX4_isFull 53 = .ok (.iconst 1, 1) := by decide +kernel
theorem dX4_isFull_54 : decode cX4_isFull 54 = .ok (.goto 4, 3) := by decide +kernel
theorem dX4_isFull_57 : decode cX4_isFull 57 = .ok (.iconst 0, 1) := by decide +kernel
theorem dX4_isFull_58 : decode cX4_isFull 58 = .ok (.ireturn, 1) := by decide +kernel
theorem dX4_readRing_0 : decode cX4_readRing 0 = .ok (.aload_n 0, 1) := by decide +kernel
theorem dX4_readRing_1 : decode cX4_readRing 1 = .ok (.ldc 147, 2) := by decide +kernel
theorem dX4_readRing_3 : decode cX4_readRing 3 = .ok (.invokevirtual 149, 3) := by decide +kernel
theorem dX4_readRing_6 : decode cX4_readRing 6 = .ok (.ifCond .eq 13, 3) := by decide +kernel
theorem dX4_readRing_9 : decode cX4_readRing 9 = .ok (.aload_n 0, 1) := by decide +kernel
theorem dX4_readRing_10 : decode cX4_readRing 10 = .ok (.iconst 2, 1) := by decide +kernel
theorem dX4_readRing_11 : decode cX4_readRing 11 = .ok (.bipush 6, 2) := by decide +kernel
theorem dX4_readRing_13 : decode cX4_readRing 13 = .ok (.invokevirtual 152, 3) := by decide +kernel
theorem dX4_readRing_16 : decode cX4_readRing 16 = .ok (.goto 4, 3) := by decide +kernel
theorem dX4_readRing_19 : decode cX4_readRing 19 = .ok (.iconst (-1), 1) := by decide +kernel
theorem dX4_readRing_20 : decode cX4_readRing 20 = .ok (.istore_n 1, 1) := by decide +kernel
theorem dX4_readRing_21 : decode cX4_readRing 21 = .ok (.iload_n 1, 1) := by decide +kernel
theorem dX4_readRing_22 : decode cX4_readRing 22 = .ok (.iconst (-1), 1) := by decide +kernel
theorem dX4_readRing_23 : decode cX4_readRing 23 = .ok (.if_icmp .eq 22, 3) := by decide +kernel
theorem dX4_readRing_26 : decode cX4_readRing 26 = .ok (.aload_n 0, 1) := by decide +kernel
theorem dX4_readRing_27 : decode cX4_readRing 27 = .ok (.ldc 155, 2) := by decide +kernel
theorem dX4_readRing_29 : decode cX4_readRing 29 = .ok (.invokevirtual 149, 3) := by decide +kernel
theorem dX4_readRing_32 : decode cX4_readRing 32 = .ok (.ifCond .eq 13, 3) := by decide +kernel
theorem dX4_readRing_35 : decode cX4_readRing 35 = .ok (.aload_n 0, 1) := by decide +kernel
theorem dX4_readRing_36 : decode cX4_readRing 36 = .ok (.iconst 2, 1) := by decide +kernel
theorem dX4_readRing_37 : decode cX4_readRing 37 = .ok (.bipush 6, 2) := by decide +kernel
theorem dX4_readRing_39 : decode cX4_readRing 39 = .ok (.invokevirtual 152, 3) := by decide +kernel
theorem dX4_readRing_42 : decode cX4_readRing 42 = .ok (.goto 4, 3) := by decide +kernel
theorem dX4_readRing_45 : decode cX4_readRing 45 = .ok (.iconst (-1), 1) := by decide +kernel
theorem dX4_readRing_46 : decode cX4_readRing 46 = .ok (.istore_n 2, 1) := by decide +kernel
theorem dX4_readRing_47 : decode cX4_readRing 47 = .ok (.iload_n 2, 1) := by decide +kernel
theorem dX4_readRing_48 : decode cX4_readRing 48 = .ok (.iconst (-1), 1) := by decide +kernel
theorem dX4_readRing_49 : decode cX4_readRing 49 = .ok (.if_icmp .eq 22, 3) := by decide +kernel
theorem dX4_readRing_52 : decode cX4_readRing 52 = .ok (.aload_n 0, 1) := by decide +kernel
theorem dX4_readRing_53 : decode cX4_readRing 53 = .ok (.ldc 157, 2) := by decide +kernel
theorem dX4_readRing_55 : decode cX4_readRing 55 = .ok (.invokevirtual 149, 3) := by decide +kernel
theorem dX4_readRing_58 : decode cX4_readRing 58 = .ok (.ifCond .eq 13, 3) := by decide +kernel
theorem dX4_readRing_61 : decode cX4_readRing 61 = .ok (.aload_n 0, 1) := by decide +kernel
theorem dX4_readRing_62 : decode cX4_readRing 62 = .ok (.iconst 2, 1) := by decide +kernel
theorem dX4_readRing_63 : decode cX4_readRing 63 = .ok (.bipush 6, 2) := by decide +kernel
theorem dX4_readRing_65 : decode cX4_readRing 65 = .ok (.invokevirtual 152, 3) := by decide +kernel
theorem dX4_readRing_68 : decode cX4_readRing 68 = .ok (.goto 4, 3) := by decide +kernel
theorem dX4_readRing_71 : decode cX4_readRing 71 = .ok (.iconst (-1), 1) := by decide +kernel
theorem dX4_readRing_72 : decode cX4_readRing 72 = .ok (.istore_n 3, 1) := by decide +kernel
theorem dX4_readRing_73 : decode cX4_readRing 73 = .ok (.iload_n 3, 1) := by decide +kernel
theorem dX4_readRing_74 : decode cX4_readRing 74 = .ok (.iconst (-1), 1) := by decide +kernel
theorem dX4_readRing_75 : decode cX4_readRing 75 = .ok (.if_icmp .ne 5, 3) := by decide +kernel
theorem dX4_readRing_78 : decode cX4_readRing 78 = .ok (.iconst 0, 1) := by decide +kernel
theorem dX4_readRing_79 : decode cX4_readRing 79 = .ok (.ireturn, 1) := by decide +kernel
theorem dX4_readRing_80 : decode cX4_readRing 80 = .ok (.aload_n 0, 1) := by decide +kernel
theorem dX4_readRing_81 : decode cX4_readRing 81 = .ok (.getfield 47, 3) := by decide +kernel
theorem dX4_readRing_84 : decode cX4_readRing 84 = .ok (.getfield 83, 3) := by decide +kernel
theorem dX4_readRing_87 : decode cX4_readRing 87 = .ok (.iload_n 1, 1) := by decide +kernel
theorem dX4_readRing_88 : decode cX4_readRing 88 = .ok (.putfield 158, 3) := by decide +kernel
theorem dX4_readRing_91 : decode cX4_readRing 91 = .ok (.aload_n 0, 1) := by decide +kernel
theorem dX4_readRing_92 : decode cX4_readRing 92 = .ok (.getfield 47, 3) := by decide +kernel
theorem dX4_readRing_95 : decode cX4_readRing 95 = .ok (.getfield 83, 3) := by decide +kernel
theorem dX4_readRing_98 : decode cX4_readRing 98 = .ok (.iload_n 2, 1) := by decide +kernel
theorem dX4_readRing_99 : decode cX4_readRing 99 = .ok (.putfield 160, 3) := by decide +kernel
theorem dX4_readRing_102 : decode cX4_readRing 102 = .ok (.aload_n 0, 1) := by decide +kernel
theorem dX4_readRing_103 : decode cX4_readRing 103 = .ok (.getfield 47, 3) := by decide +kernel
theorem dX4_readRing_106 : decode cX4_readRing 106 = .ok (.iload_n 3, 1) := by decide +kernel
theorem dX4_readRing_107 : decode cX4_readRing 107 = .ok (.putfield 116, 3) := by decide +kernel
theorem dX4_readRing_110 : decode cX4_readRing 110 = .ok (.iconst 1, 1) := by decide +kernel
theorem dX4_readRing_111 : decode cX4_readRing 111 = .ok (.ireturn, 1) := by decide +kernel
theorem dX4_readTown_0 : decode cX4_readTown 0 = .ok (.aload_n 0, 1) := by decide +kernel
theorem dX4_readTown_1 : decode cX4_readTown 1 = .ok (.invokevirtual 121, 3) := by decide +kernel
theorem dX4_readTown_4 : decode cX4_readTown 4 = .ok (.ifCond .ne 9, 3) := by decide +kernel
theorem dX4_readTown_7 : decode cX4_readTown 7 = .ok (.aload_n 0, 1) := by decide +kernel
theorem dX4_readTown_8 : decode cX4_readTown 8 = .ok (.iconst 1, 1) := by decide +kernel
theorem dX4_readTown_9 : decode cX4_readTown 9 = .ok (.invokevirtual 92, 3) := by decide +kernel
theorem dX4_readTown_12 : decode cX4_readTown 12 = .ok (.ireturn, 1) := by decide +kernel
theorem dX4_readTown_13 : decode cX4_readTown 13 = .ok (.aload_n 0, 1) := by decide +kernel
theorem dX4_readTown_14 : decode cX4_readTown 14 = .ok (.getfield 47, 3) := by decide +kernel
theorem dX4_readTown_17 : decode cX4_readTown 17 = .ok (.aload_n 0, 1) := by decide +kernel
theorem dX4_readTown_18 : decode cX4_readTown 18 = .ok (.getfield 30, 3) := by decide +kernel
theorem dX4_readTown_21 : decode cX4_readTown 21 = .ok (.invokevirtual 124, 3) := by decide +kernel
theorem dX4_readTown_24 : decode cX4_readTown 24 = .ok (.iconst (-1), 1) := by decide +kernel
theorem dX4_readTown_25 : decode cX4_readTown 25 = .ok (.if_icmp .eq 9, 3) := by decide +kernel
theorem dX4_readTown_28 : decode cX4_readTown 28 = .ok (.aload_n 0, 1) := by decide +kernel
theorem dX4_readTown_29 : decode cX4_readTown 29 = .ok (.iconst 3, 1) := by decide +kernel
theorem dX4_readTown_30 : decode cX4_readTown 30 = .ok (.invokevirtual 92, 3) := by decide +kernel
theorem dX4_readTown_33 : decode cX4_readTown 33 = .ok (.ireturn, 1) := by decide +kernel
theorem dX4_readTown_34 : decode cX4_readTown 34 = .ok (.aload_n 0, 1) := by decide +kernel
theorem dX4_readTown_35 : decode cX4_readTown 35 = .ok (.getfield 47, 3) := by decide +kernel
theorem dX4_readTown_38 : decode cX4_readTown 38 = .ok (.getfield 83, 3) := by decide +kernel
theorem dX4_readTown_41 : decode cX4_readTown 41 = .ok (.getfield 87, 3) := by decide +kernel
theorem dX4_readTown_44 : decode cX4_readTown 44 = .ok (.istore_n 1, 1) := by decide +kernel
theorem dX4_readTown_45 : decode cX4_readTown 45 = .ok (.aload_n 0, 1) := by decide +kernel
theorem dX4_readTown_46 : decode cX4_readTown 46 = .ok (.getfield 47, 3) := by decide +kernel
theorem dX4_readTown_49 : decode cX4_readTown 49 = .ok (.getfield 162, 3) := by decide +kernel
theorem dX4_readTown_52 : decode cX4_readTown 52 = .ok (.iload_n 1, 1) := by decide +kernel
theorem dX4_readTown_53 : decode cX4_readTown 53 = .ok (.aload_n 0, 1) := by decide +kernel
theorem dX4_readTown_54 : decode cX4_readTown 54 = .ok (.getfield 30, 3) := by decide +kernel
theorem dX4_readTown_57 : decode cX4_readTown 57 = .ok (.lastore, 1) := by decide +kernel
theorem dX4_readTown_58 : decode cX4_readTown 58 = .ok (.aload_n 0, 1) := by decide +kernel
theorem dX4_readTown_59 : decode cX4_readTown 59 = .ok (.invokevirtual 56, 3) := by decide +kernel
theorem dX4_readTown_62 : decode cX4_readTown 62 = .ok (.iconst 0, 1) := by decide +kernel
theorem dX4_readTown_63 : decode cX4_readTown 63 = .ok (.istore_n 2, 1) := by decide +kernel
theorem dX4_readTown_64 : decode cX4_readTown 64 = .ok (.iload_n 2, 1) := by decide +kernel
theorem dX4_readTown_65 : decode cX4_readTown 65 = .ok (.aload_n 0, 1) := by decide +kernel
theorem dX4_readTown_66 : decode cX4_readTown 66 = .ok (.getfield 47, 3) := by decide +kernel
theorem dX4_readTown_69 : decode cX4_readTown 69 = .ok (.getfield 83, 3) := by decide +kernel
theorem dX4_readTown_72 : decode cX4_readTown 72 = .ok (.getfield 160, 3) := by decide +kernel
theorem dX4_readTown_75 : decode cX4_readTown 75 = .ok (.if_icmp .ge 71, 3) := by decide +kernel
theorem dX4_readTown_78 : decode cX4_readTown 78 = .ok (.iload_n 2, 1) := by decide +kernel
theorem dX4_readTown_79 : decode cX4_readTown 79 = .ok (.ifCond .le 43, 3) := by decide +kernel
theorem dX4_readTown_82 : decode cX4_readTown 82 = .ok (.aload_n 0, 1) := by decide +kernel
theorem dX4_readTown_83 : decode cX4_readTown 83 = .ok (.getfield 18, 3) := by decide +kernel
theorem dX4_readTown_86 : decode cX4_readTown 86 = .ok (.iconst 3, 1) := by decide +kernel
theorem dX4_readTown_87 : decode cX4_readTown 87 = .ok (.if_icmp .eq 10, 3) := by decide +kernel
theorem dX4_readTown_90 : decode cX4_readTown 90 = .ok (.aload_n 0, 1) := by decide +kernel
theorem dX4_readTown_91 : decode cX4_readTown 91 = .ok (.getfield 18, 3) := by decide +kernel
theorem dX4_readTown_94 : decode cX4_readTown 94 = .ok (.ifCond .ne 10, 3) := by decide +kernel
theorem dX4_readTown_97 : decode cX4_readTown 97 = .ok (.aload_n 0, 1) := by decide +kernel
theorem dX4_readTown_98 : decode cX4_readTown 98 = .ok (.bipush 6, 2) := by decide +kernel
theorem dX4_readTown_100 : decode cX4_readTown 100 = .ok (.invokevirtual 92, 3) := by decide +kernel
theorem dX4_readTown_103 : decode cX4_readTown 103 = .ok (.ireturn, 1) := by decide +kernel
theorem dX4_readTown_104 : decode cX4_readTown 104 = .ok (.aload_n 0, 1) := by decide +kernel
theorem dX4_readTown_105 : decode cX4_readTown 105 = .ok (.getfield 18, 3) := by decide +kernel
theorem dX4_readTown_108 : decode cX4_readTown 108 = .ok (.iconst 4, 1) := by decide +kernel
theorem dX4_readTown_109 : decode cX4_readTown 109 = .ok (.if_icmp .eq 9, 3) := by decide +kernel
theorem dX4_readTown_112 : decode cX4_readTown 112 = .ok (.aload_n 0, 1) := by decide +kernel
theorem dX4_readTown_113 : decode cX4_readTown 113 = .ok (.iconst 1, 1) := by decide +kernel
theorem dX4_readTown_114 : decode cX4_readTown 114 = .ok (.invokevirtual 92, 3) := by decide +kernel
theorem dX4_readTown_117 : decode cX4_readTown 117 = .ok (.ireturn, 1) := by decide +kernel
theorem dX4_readTown_118 : decode cX4_readTown 118 = .ok (.aload_n 0, 1) := by decide +kernel
theorem dX4_readTown_119 : decode cX4_readTown 119 = .ok (.invokevirtual 56, 3) := by decide +kernel
theorem dX4_readTown_122 : decode cX4_readTown 122 = .ok (.aload_n 0, 1) := by decide +kernel
theorem dX4_readTown_123 : decode cX4_readTown 123 = .ok (.bipush 36, 2) := by decide +kernel
theorem dX4_readTown_125 : decode cX4_readTown 125 = .ok (.iload_n 1, 1) := by decide +kernel
theorem dX4_readTown_126 : decode cX4_readTown 126 = .ok (.imul, 1) := by decide +kernel
theorem dX4_readTown_127 : decode cX4_readTown 127 = .ok (.bipush 6, 2) := by decide +kernel
theorem dX4_readTown_129 : decode cX4_readTown 129 = .ok (.iload_n 2, 1) := by decide +kernel
theorem dX4_readTown_130 : decode cX4_readTown 130 = .ok (.imul, 1) := by decide +kernel
theorem dX4_readTown_131 : decode cX4_readTown 131 = .ok (.iadd, 1) := by decide +kernel
theorem dX4_readTown_132 : decode cX4_readTown 132 = .ok (.invokevirtual 166, 3) := by decide +kernel
theorem dX4_readTown_135 : decode cX4_readTown 135 = .ok (.ifCond .ne 5, 3) := by decide +kernel
theorem dX4_readTown_138 : decode cX4_readTown 138 = .ok (.iconst 0, 1) := by decide +kernel
theorem dX4_readTown_139 : decode cX4_readTown 139 = .ok (.ireturn, 1) := by decide +kernel
theorem dX4_readTown_140 : decode cX4_readTown 140 = .ok (.iinc 2 1, 3) := by decide +kernel
theorem dX4_readTown_143 : decode cX4_readTown 143 = .ok (.goto (-79), 3) := by decide +kernel
theorem dX4_readTown_146 : decode cX4_readTown 146 = .ok (.aload_n 0, 1) := by decide +kernel
theorem dX4_readTown_147 : decode cX4_readTown 147 = .ok (.getfield 47, 3) := by decide +kernel
theorem dX4_readTown_150 : decode cX4_readTown 150 = .ok (.getfield 83, 3) := by decide +kernel
theorem dX4_readTown_153 : decode cX4_readTown 153 = .ok (.dup, 1) := by decide +kernel
theorem dX4_readTown_154 : decode cX4_readTown 154 = .ok (.getfield 87, 3) := by decide +kernel
theorem dX4_readTown_157 : decode cX4_readTown 157 = .ok (.iconst 1, 1) := by decide +kernel
theorem dX4_readTown_158 : decode cX4_readTown 158 = .ok (.iadd, 1) := by decide +kernel
theorem dX4_readTown_159 : decode cX4_readTown 159 = .ok (.putfield 87, 3) := by decide +kernel
theorem dX4_readTown_162 : decode cX4_readTown 162 = .ok (.iconst 1, 1) := by decide +kernel
theorem dX4_readTown_163 : decode cX4_readTown 163 = .ok (.ireturn, 1) := by decide +kernel
theorem dX4_readRow_0 : decode cX4_readRow 0 = .ok (.aload_n 0, 1) := by decide +kernel
theorem dX4_readRow_1 : decode cX4_readRow 1 = .ok (.getfield 18, 3) := by decide +kernel
theorem dX4_readRow_4 : decode cX4_readRow 4 = .ok (.iconst 1, 1) := by decide +kernel
theorem dX4_readRow_5 : decode cX4_readRow 5 = .ok (.if_icmp .eq 9, 3) := by decide +kernel
theorem dX4_readRow_8 : decode cX4_readRow 8 = .ok (.aload_n 0, 1) := by decide +kernel
theorem dX4_readRow_9 : decode cX4_readRow 9 = .ok (.iconst 1, 1) := by decide +kernel
theorem dX4_readRow_10 : decode cX4_readRow 10 = .ok (.invokevirtual 92, 3) := by decide +kernel
theorem dX4_readRow_13 : decode cX4_readRow 13 = .ok (.ireturn, 1) := by decide +kernel
theorem dX4_readRow_14 : decode cX4_readRow 14 = .ok (.aload_n 0, 1) := by decide +kernel
theorem dX4_readRow_15 : decode cX4_readRow 15 = .ok (.getfield 24, 3) := by decide +kernel
theorem dX4_readRow_18 : decode cX4_readRow 18 = .ok (.aload_n 0, 1) := by decide +kernel
theorem dX4_readRow_19 : decode cX4_readRow 19 = .ok (.getfield 21, 3) := by decide +kernel
theorem dX4_readRow_22 : decode cX4_readRow 22 = .ok (.isub, 1) := by decide +kernel
theorem dX4_readRow_23 : decode cX4_readRow 23 = .ok (.aload_n 0, 1) := by decide +kernel
theorem dX4_readRow_24 : decode cX4_readRow 24 = .ok (.getfield 47, 3) := by decide +kernel
theorem dX4_readRow_27 : decode cX4_readRow 27 = .ok (.getfield 83, 3) := by decide +kernel
theorem dX4_readRow_30 : decode cX4_readRow 30 = .ok (.getfield 158, 3) := by decide +kernel
theorem dX4_readRow_33 : decode cX4_readRow 33 = .ok (.if_icmp .eq 10, 3) := by decide +kernel
theorem dX4_readRow_36 : decode cX4_readRow 36 = .ok (.aload_n 0, 1) := by decide +kernel
theorem dX4_readRow_37 : decode cX4_readRow 37 = .ok (.bipush 7, 2) := by decide +kernel
theorem dX4_readRow_39 : decode cX4_readRow 39 = .ok (.invokevirtual 92, 3) := by decide +kernel
theorem dX4_readRow_42 : decode cX4_readRow 42 = .ok (.ireturn, 1) := by decide +kernel
theorem dX4_readRow_43 : decode cX4_readRow 43 = .ok (.iconst 0, 1) := by decide +kernel
theorem dX4_readRow_44 : decode cX4_readRow 44 = .ok (.istore_n 2, 1) := by decide +kernel
theorem dX4_readRow_45 : decode cX4_readRow 45 = .ok (.iload_n 2, 1) := by decide +kernel
theorem dX4_readRow_46 : decode cX4_readRow 46 = .ok (.aload_n 0, 1) := by decide +kernel
theorem dX4_readRow_47 : decode cX4_readRow 47 = .ok (.getfield 47, 3) := by decide +kernel
theorem dX4_readRow_50 : decode cX4_readRow 50 = .ok (.getfield 83, 3) := by decide +kernel
theorem dX4_readRow_53 : decode cX4_readRow 53 = .ok (.getfield 158, 3) := by decide +kernel
theorem dX4_readRow_56 : decode cX4_readRow 56 = .ok (.if_icmp .ge 57, 3) := by decide +kernel
theorem dX4_readRow_59 : decode cX4_readRow 59 = .ok (.aload_n 0, 1) := by decide +kernel
theorem dX4_readRow_60 : decode cX4_readRow 60 = .ok (.getfield 34, 3) := by decide +kernel
theorem dX4_readRow_63 : decode cX4_readRow 63 = .ok (.aload_n 0, 1) := by decide +kernel
theorem dX4_readRow_64 : decode cX4_readRow 64 = .ok (.getfield 21, 3) := by decide +kernel
theorem dX4_readRow_67 : decode cX4_readRow 67 = .ok (.iload_n 2, 1) := by decide +kernel
theorem dX4_readRow_68 : decode cX4_readRow 68 = .ok (.iadd, 1) := by decide +kernel
theorem dX4_readRow_69 : decode cX4_readRow 69 = .ok (.iaload, 1) := by decide +kernel
theorem dX4_readRow_70 : decode cX4_readRow 70 = .ok (.bipush 97, 2) := by decide +kernel
theorem dX4_readRow_72 : decode cX4_readRow 72 = .ok (.isub, 1) := by decide +kernel
theorem dX4_readRow_73 : decode cX4_readRow 73 = .ok (.istore_n 3, 1) := by decide +kernel
theorem dX4_readRow_74 : decode cX4_readRow 74 = .ok (.iload_n 3, 1) := by decide +kernel
theorem dX4_readRow_75 : decode cX4_readRow 75 = .ok (.aload_n 0, 1) := by decide +kernel
theorem dX4_readRow_76 : decode cX4_readRow 76 = .ok (.getfield 47, 3) := by decide +kernel
theorem dX4_readRow_79 : decode cX4_readRow 79 = .ok (.getfield 116, 3) := by decide +kernel
theorem dX4_readRow_82 : decode cX4_readRow 82 = .ok (.if_icmp .lt 10, 3) := by decide +kernel
theorem dX4_readRow_85 : decode cX4_readRow 85 = .ok (.aload_n 0, 1) := by decide +kernel
theorem dX4_readRow_86 : decode cX4_readRow 86 = .ok (.bipush 7, 2) := by decide +kernel
theorem dX4_readRow_88 : decode cX4_readRow 88 = .ok (.invokevirtual 92, 3) := by decide +kernel
theorem dX4_readRow_91 : decode cX4_readRow 91 = .ok (.ireturn, 1) := by decide +kernel
theorem dX4_readRow_92 : decode cX4_readRow 92 = .ok (.aload_n 0, 1) := by decide +kernel
theorem dX4_readRow_93 : decode cX4_readRow 93 = .ok (.getfield 47, 3) := by decide +kernel
theorem dX4_readRow_96 : decode cX4_readRow 96 = .ok (.getfield 83, 3) := by decide +kernel
theorem dX4_readRow_99 : decode cX4_readRow 99 = .ok (.getfield 169, 3) := by decide +kernel
theorem dX4_readRow_102 : decode cX4_readRow 102 = .ok (.iload_n 1, 1) := by decide +kernel
theorem dX4_readRow_103 : decode cX4_readRow 103 = .ok (.iload_n 2, 1) := by decide +kernel
theorem dX4_readRow_104 : decode cX4_readRow 104 = .ok (.iadd, 1) := by decide +kernel
theorem dX4_readRow_105 : decode cX4_readRow 105 = .ok (.iload_n 3, 1) := by decide +kernel
theorem dX4_readRow_106 : decode cX4_readRow 106 = .ok (.iastore, 1) := by decide +kernel
theorem dX4_readRow_107 : decode cX4_readRow 107 = .ok (.iinc 2 1, 3) := by decide +kernel
theorem dX4_readRow_110 : decode cX4_readRow 110 = .ok (.goto (-65), 3) := by decide +kernel
theorem dX4_readRow_113 : decode cX4_readRow 113 = .ok (.aload_n 0, 1) := by decide +kernel
theorem dX4_readRow_114 : decode cX4_readRow 114 = .ok (.invokevirtual 56, 3) := by decide +kernel
theorem dX4_readRow_117 : decode cX4_readRow 117 = .ok (.iconst 1, 1) := by decide +kernel
theorem dX4_readRow_118 : decode cX4_readRow 118 = .ok (.ireturn, 1) := by decide +kernel
theorem dX4_readCopies_0 : decode cX4_readCopies 0 = .ok (.aload_n 0, 1) := by decide +kernel
theorem dX4_readCopies_1 : decode cX4_readCopies 1 = .ok (.invokevirtual 172, 3) := by decide +kernel
theorem dX4_readCopies_4 : decode cX4_readCopies 4 = .ok (.istore_n 1, 1) := by decide +kernel
theorem dX4_readCopies_5 : decode cX4_readCopies 5 = .ok (.iload_n 1, 1) := by decide +kernel
theorem dX4_readCopies_6 : decode cX4_readCopies 6 = .ok (.iconst (-1), 1) := by decide +kernel
theorem dX4_readCopies_7 : decode cX4_readCopies 7 = .ok (.if_icmp .ne 5, 3) := by decide +kernel
theorem dX4_readCopies_10 : decode cX4_readCopies 10 = .ok (.iconst 0, 1) := by decide +kernel
theorem dX4_readCopies_11 : decode cX4_readCopies 11 = .ok (.ireturn, 1) := by decide +kernel
theorem dX4_readCopies_12 : decode cX4_readCopies 12 = .ok (.aload_n 0, 1) := by decide +kernel
theorem dX4_readCopies_13 : decode cX4_readCopies 13 = .ok (.getfield 47, 3) := by decide +kernel
theorem dX4_readCopies_16 : decode cX4_readCopies 16 = .ok (.getfield 83, 3) := by decide +kernel
theorem dX4_readCopies_19 : decode cX4_readCopies 19 = .ok (.getfield 175, 3) := by decide +kernel
theorem dX4_readCopies_22 : decode cX4_readCopies 22 = .ok (.iload_n 1, 1) := by decide +kernel
theorem dX4_readCopies_23 : decode cX4_readCopies 23 = .ok (.iaload, 1) := by decide +kernel
theorem dX4_readCopies_24 : decode cX4_readCopies 24 = .ok (.ifCond .lt 9, 3) := by decide +kernel
theorem dX4_readCopies_27 : decode cX4_readCopies 27 = .ok (.aload_n 0, 1) := by decide +kernel
theorem dX4_readCopies_28 : decode cX4_readCopies 28 = .ok (.iconst 3, 1) := by decide +kernel
theorem dX4_readCopies_29 : decode cX4_readCopies 29 = .ok (.invokevirtual 92, 3) := by decide +kernel
theorem dX4_readCopies_32 : decode cX4_readCopies 32 = .ok (.ireturn, 1) := by decide +kernel
theorem dX4_readCopies_33 : decode cX4_readCopies 33 = .ok (.aload_n 0, 1) := by decide +kernel
theorem dX4_readCopies_34 : decode cX4_readCopies 34 = .ok (.invokevirtual 56, 3) := by decide +kernel
theorem dX4_readCopies_37 : decode cX4_readCopies 37 = .ok (.aload_n 0, 1) := by decide +kernel
theorem dX4_readCopies_38 : decode cX4_readCopies 38 = .ok (.invokevirtual 172, 3) := by decide +kernel
theorem dX4_readCopies_41 : decode cX4_readCopies 41 = .ok (.istore_n 2, 1) := by decide +kernel
theorem dX4_readCopies_42 : decode cX4_readCopies 42 = .ok (.iload_n 2, 1) := by decide +kernel
theorem dX4_readCopies_43 : decode cX4_readCopies 43 = .ok (.iconst (-1), 1) := by decide +kernel
theorem dX4_readCopies_44 : decode cX4_readCopies 44 = .ok (.if_icmp .ne 5, 3) := by decide +kernel
theorem dX4_readCopies_47 : decode cX4_readCopies 47 = .ok (.iconst 0, 1) := by decide +kernel
theorem dX4_readCopies_48 : decode cX4_readCopies 48 = .ok (.ireturn, 1) := by decide +kernel
theorem dX4_readCopies_49 : decode cX4_readCopies 49 = .ok (.aload_n 0, 1) := by decide +kernel
theorem dX4_readCopies_50 : decode cX4_readCopies 50 = .ok (.invokevirtual 56, 3) := by decide +kernel
theorem dX4_readCopies_53 : decode cX4_readCopies 53 = .ok (.aload_n 0, 1) := by decide +kernel
theorem dX4_readCopies_54 : decode cX4_readCopies 54 = .ok (.ldc 119, 2) := by decide +kernel
theorem dX4_readCopies_56 : decode cX4_readCopies 56 = .ok (.invokevirtual 149, 3) := by decide +kernel
theorem dX4_readCopies_59 : decode cX4_readCopies 59 = .ok (.ifCond .ne 5, 3) := by decide +kernel
theorem dX4_readCopies_62 : decode cX4_readCopies 62 = .ok (.iconst 0, 1) := by decide +kernel
theorem dX4_readCopies_63 : decode cX4_readCopies 63 = .ok (.ireturn, 1) := by decide +kernel
theorem dX4_readCopies_64 : decode cX4_readCopies 64 = .ok (.aload_n 0, 1) := by decide +kernel
theorem dX4_readCopies_65 : decode cX4_readCopies 65 = .ok (.getfield 47, 3) := by decide +kernel
theorem dX4_readCopies_68 : decode cX4_readCopies 68 = .ok (.getfield 83, 3) := by decide +kernel
theorem dX4_readCopies_71 : decode cX4_readCopies 71 = .ok (.getfield 175, 3) := by decide +kernel
theorem dX4_readCopies_74 : decode cX4_readCopies 74 = .ok (.iload_n 1, 1) := by decide +kernel
theorem dX4_readCopies_75 : decode cX4_readCopies 75 = .ok (.iload_n 2, 1) := by decide +kernel
theorem dX4_readCopies_76 : decode cX4_readCopies 76 = .ok (.iastore, 1) := by decide +kernel
theorem dX4_readCopies_77 : decode cX4_readCopies 77 = .ok (.aload_n 0, 1) := by decide +kernel
theorem dX4_readCopies_78 : decode cX4_readCopies 78 = .ok (.invokevirtual 178, 3) := by decide +kernel
theorem dX4_readCopies_81 : decode cX4_readCopies 81 = .ok (.istore_n 3, 1) := by decide +kernel
theorem dX4_readCopies_82 : decode cX4_readCopies 82 = .ok (.iload_n 3, 1) := by decide +kernel
theorem dX4_readCopies_83 : decode cX4_readCopies 83 = .ok (.bipush 10, 2) := by decide +kernel
theorem dX4_readCopies_85 : decode cX4_readCopies 85 = .ok (.if_icmp .ne 20, 3) := by decide +kernel
theorem dX4_readCopies_88 : decode cX4_readCopies 88 = .ok (.aload_n 0, 1) := by decide +kernel
theorem dX4_readCopies_89 : decode cX4_readCopies 89 = .ok (.getfield 47, 3) := by decide +kernel
theorem dX4_readCopies_92 : decode cX4_readCopies 92 = .ok (.invokevirtual 181, 3) := by decide +kernel
theorem dX4_readCopies_95 : decode cX4_readCopies 95 = .ok (.iconst 4, 1) := by decide +kernel
theorem dX4_readCopies_96 : decode cX4_readCopies 96 = .ok (.if_icmp .lt 9, 3) := by decide +kernel
theorem dX4_readCopies_99 : decode cX4_readCopies 99 = .ok (.aload_n 0, 1) := by decide +kernel
theorem dX4_readCopies_100 : decode cX4_readCopies 100 = .ok (.iconst 5, 1) := by decide +kernel
theorem dX4_readCopies_101 : decode cX4_readCopies 101 = .ok (.invokevirtual 92, 3) := by decide +kernel
theorem dX4_readCopies_104 : decode cX4_readCopies 104 = .ok (.ireturn, 1) := by decide +kernel
theorem dX4_readCopies_105 : decode cX4_readCopies 105 = .ok (.aload_n 0, 1) := by decide +kernel
theorem dX4_readCopies_106 : decode cX4_readCopies 106 = .ok (.iload_n 3, 1) := by decide +kernel
theorem dX4_readCopies_107 : decode cX4_readCopies 107 = .ok (.aload_n 0, 1) := by decide +kernel
theorem dX4_readCopies_108 : decode cX4_readCopies 108 = .ok (.getfield 47, 3) := by decide +kernel
theorem dX4_readCopies_111 : decode cX4_readCopies 111 = .ok (.getfield 83, 3) := by decide +kernel
theorem dX4_readCopies_114 : decode cX4_readCopies 114 = .ok (.getfield 184, 3) := by decide +kernel
theorem dX4_readCopies_117 : decode cX4_readCopies 117 = .ok (.iconst 4, 1) := by decide +kernel
theorem dX4_readCopies_118 : decode cX4_readCopies 118 = .ok (.iload_n 1, 1) := by decide +kernel
theorem dX4_readCopies_119 : decode cX4_readCopies 119 = .ok (.imul, 1) := by decide +kernel
theorem dX4_readCopies_120 : decode cX4_readCopies 120 = .ok (.invokevirtual 187, 3) := by decide +kernel
theorem dX4_readCopies_123 : decode cX4_readCopies 123 = .ok (.ireturn, 1) := by decide +kernel
theorem dX4_readGuess_0 : decode cX4_readGuess 0 = .ok (.aload_n 0, 1) := by decide +kernel
theorem dX4_readGuess_1 : decode cX4_readGuess 1 = .ok (.invokevirtual 178, 3) := by decide +kernel
theorem dX4_readGuess_4 : decode cX4_readGuess 4 = .ok (.istore_n 1, 1) := by decide +kernel
theorem dX4_readGuess_5 : decode cX4_readGuess 5 = .ok (.iload_n 1, 1) := by decide +kernel
theorem dX4_readGuess_6 : decode cX4_readGuess 6 = .ok (.bipush 10, 2) := by decide +kernel
theorem dX4_readGuess_8 : decode cX4_readGuess 8 = .ok (.if_icmp .eq 9, 3) := by decide +kernel
theorem dX4_readGuess_11 : decode cX4_readGuess 11 = .ok (.iload_n 1, 1) := by decide +kernel
theorem dX4_readGuess_12 : decode cX4_readGuess 12 = .ok (.bipush 9, 2) := by decide +kernel
theorem dX4_readGuess_14 : decode cX4_readGuess 14 = .ok (.if_icmp .ne 9, 3) := by decide +kernel
theorem dX4_readGuess_17 : decode cX4_readGuess 17 = .ok (.aload_n 0, 1) := by decide +kernel
theorem dX4_readGuess_18 : decode cX4_readGuess 18 = .ok (.iconst 1, 1) := by decide +kernel
theorem dX4_readGuess_19 : decode cX4_readGuess 19 = .ok (.invokevirtual 92, 3) := by decide +kernel
theorem dX4_readGuess_22 : decode cX4_readGuess 22 = .ok (.ireturn, 1) := by decide +kernel
theorem dX4_readGuess_23 : decode cX4_readGuess 23 = .ok (.aload_n 0, 1) := by decide +kernel
theorem dX4_readGuess_24 : decode cX4_readGuess 24 = .ok (.iload_n 1, 1) := by decide +kernel
theorem dX4_readGuess_25 : decode cX4_readGuess 25 = .ok (.aload_n 0, 1) := by decide +kernel
theorem dX4_readGuess_26 : decode cX4_readGuess 26 = .ok (.getfield 47, 3) := by decide +kernel
theorem dX4_readGuess_29 : decode cX4_readGuess 29 = .ok (.getfield 191, 3) := by decide +kernel
theorem dX4_readGuess_32 : decode cX4_readGuess 32 = .ok (.iconst 4, 1) := by decide +kernel
theorem dX4_readGuess_33 : decode cX4_readGuess 33 = .ok (.aload_n 0, 1) := by decide +kernel
theorem dX4_readGuess_34 : decode cX4_readGuess 34 = .ok (.getfield 47, 3) := by decide +kernel
theorem dX4_readGuess_37 : decode cX4_readGuess 37 = .ok (.getfield 141, 3) := by decide +kernel
theorem dX4_readGuess_40 : decode cX4_readGuess 40 = .ok (.imul, 1) := by decide +kernel
theorem dX4_readGuess_41 : decode cX4_readGuess 41 = .ok (.invokevirtual 187, 3) := by decide +kernel
theorem dX4_readGuess_44 : decode cX4_readGuess 44 = .ok (.ifCond .ne 5, 3) := by decide +kernel
theorem dX4_readGuess_47 : decode cX4_readGuess 47 = .ok (.iconst 0, 1) := by decide +kernel
theorem dX4_readGuess_48 : decode cX4_readGuess 48 = .ok (.ireturn, 1) := by decide +kernel
theorem dX4_readGuess_49 : decode cX4_readGuess 49 = .ok (.aload_n 0, 1) := by decide +kernel
theorem dX4_readGuess_50 : decode cX4_readGuess 50 = .ok (.getfield 47, 3) := by decide +kernel
theorem dX4_readGuess_53 : decode cX4_readGuess 53 = .ok (.dup, 1) := by decide +kernel
theorem dX4_readGuess_54 : decode cX4_readGuess 54 = .ok (.getfield 141, 3) := by decide +kernel
theorem dX4_readGuess_57 : decode cX4_readGuess 57 = .ok (.iconst 1, 1) := by decide +kernel
theorem dX4_readGuess_58 : decode cX4_readGuess 58 = .ok (.iadd, 1) := by decide +kernel
theorem dX4_readGuess_59 : decode cX4_readGuess 59 = .ok (.putfield 141, 3) := by decide +kernel
theorem dX4_readGuess_62 : decode cX4_readGuess 62 = .ok (.iconst 1, 1) := by decide +kernel
theorem dX4_readGuess_63 : decode cX4_readGuess 63 = .ok (.ireturn, 1) := by decide +kernel
theorem dX4_readSeen_0 : decode cX4_readSeen 0 = .ok (.aload_n 0, 1) := by decide +kernel
theorem dX4_readSeen_1 : decode cX4_readSeen 1 = .ok (.invokevirtual 172, 3) := by decide +kernel
theorem dX4_readSeen_4 : decode cX4_readSeen 4 = .ok (.istore_n 1, 1) := by decide +kernel
theorem dX4_readSeen_5 : decode cX4_readSeen 5 = .ok (.iload_n 1, 1) := by decide +kernel
theorem dX4_readSeen_6 : decode cX4_readSeen 6 = .ok (.iconst (-1), 1) := by decide +kernel
theorem dX4_readSeen_7 : decode cX4_readSeen 7 = .ok (.if_icmp .ne 5, 3) := by decide +kernel
theorem dX4_readSeen_10 : decode cX4_readSeen 10 = .ok (.iconst 0, 1) := by decide +kernel
theorem dX4_readSeen_11 : decode cX4_readSeen 11 = .ok (.ireturn, 1) := by decide +kernel
theorem dX4_readSeen_12 : decode cX4_readSeen 12 = .ok (.aload_n 0, 1) := by decide +kernel
theorem dX4_readSeen_13 : decode cX4_readSeen 13 = .ok (.invokevirtual 56, 3) := by decide +kernel
theorem dX4_readSeen_16 : decode cX4_readSeen 16 = .ok (.aload_n 0, 1) := by decide +kernel
theorem dX4_readSeen_17 : decode cX4_readSeen 17 = .ok (.iconst 1, 1) := by decide +kernel
theorem dX4_readSeen_18 : decode cX4_readSeen 18 = .ok (.bipush 20, 2) := by decide +kernel
theorem dX4_readSeen_20 : decode cX4_readSeen 20 = .ok (.invokevirtual 152, 3) := by decide +kernel
theorem dX4_readSeen_23 : decode cX4_readSeen 23 = .ok (.istore_n 2, 1) := by decide +kernel
theorem dX4_readSeen_24 : decode cX4_readSeen 24 = .ok (.iload_n 2, 1) := by decide +kernel
theorem dX4_readSeen_25 : decode cX4_readSeen 25 = .ok (.iconst (-1), 1) := by decide +kernel
theorem dX4_readSeen_26 : decode cX4_readSeen 26 = .ok (.if_icmp .ne 7, 3) := by decide +kernel
theorem dX4_readSeen_29 : decode cX4_readSeen 29 = .ok (.iconst (-1), 1) := by decide +kernel
theorem dX4_readSeen_30 : decode cX4_readSeen 30 = .ok (.goto 20, 3) := by decide +kernel
theorem dX4_readSeen_33 : decode cX4_readSeen 33 = .ok (.aload_n 0, 1) := by decide +kernel
theorem dX4_readSeen_34 : decode cX4_readSeen 34 = .ok (.iconst 0, 1) := by decide +kernel
theorem dX4_readSeen_35 : decode cX4_readSeen 35 = .ok (.aload_n 0, 1) := by decide +kernel
theorem dX4_readSeen_36 : decode cX4_readSeen 36 = .ok (.getfield 47, 3) := by decide +kernel
theorem dX4_readSeen_39 : decode cX4_readSeen 39 = .ok (.getfield 83, 3) := by decide +kernel
theorem dX4_readSeen_42 : decode cX4_readSeen 42 = .ok (.getfield 158, 3) := by decide +kernel
theorem dX4_readSeen_45 : decode cX4_readSeen 45 = .ok (.iconst 1, 1) := by decide +kernel
theorem dX4_readSeen_46 : decode cX4_readSeen 46 = .ok (.isub, 1) := by decide +kernel
theorem dX4_readSeen_47 : decode cX4_readSeen 47 = .ok (.invokevirtual 152, 3) := by decide +kernel
theorem dX4_readSeen_50 : decode cX4_readSeen 50 = .ok (.istore_n 3, 1) := by decide +kernel
theorem dX4_readSeen_51 : decode cX4_readSeen 51 = .ok (.iload_n 3, 1) := by decide +kernel
theorem dX4_readSeen_52 : decode cX4_readSeen 52 = .ok (.iconst (-1), 1) := by decide +kernel
theorem dX4_readSeen_53 : decode cX4_readSeen 53 = .ok (.if_icmp .ne 7, 3) := by decide +kernel
theorem dX4_readSeen_56 : decode cX4_readSeen 56 = .ok (.iconst (-1), 1) := by decide +kernel
theorem dX4_readSeen_57 : decode cX4_readSeen 57 = .ok (.goto 20, 3) := by decide +kernel
theorem dX4_readSeen_60 : decode cX4_readSeen 60 = .ok (.aload_n 0, 1) := by decide +kernel
theorem dX4_readSeen_61 : decode cX4_readSeen 61 = .ok (.iconst 0, 1) := by decide +kernel
theorem dX4_readSeen_62 : decode cX4_readSeen 62 = .ok (.aload_n 0, 1) := by decide +kernel
theorem dX4_readSeen_63 : decode cX4_readSeen 63 = .ok (.getfield 47, 3) := by decide +kernel
theorem dX4_readSeen_66 : decode cX4_readSeen 66 = .ok (.getfield 83, 3) := by decide +kernel
theorem dX4_readSeen_69 : decode cX4_readSeen 69 = .ok (.getfield 160, 3) := by decide +kernel
theorem dX4_readSeen_72 : decode cX4_readSeen 72 = .ok (.iconst 1, 1) := by decide +kernel
theorem dX4_readSeen_73 : decode cX4_readSeen 73 = .ok (.isub, 1) := by decide +kernel
theorem dX4_readSeen_74 : decode cX4_readSeen 74 = .ok (.invokevirtual 152, 3) := by decide +kernel
theorem dX4_readSeen_77 : decode cX4_readSeen 77 = .ok (.istore 4, 2) := by decide +kernel
theorem dX4_readSeen_79 : decode cX4_readSeen 79 = .ok (.iload 4, 2) := by decide +kernel
theorem dX4_readSeen_81 : decode cX4_readSeen 81 = .ok (.iconst (-1), 1) := by decide +kernel
theorem dX4_readSeen_82 : decode cX4_readSeen 82 = .ok (.if_icmp .ne 7, 3) := by decide +kernel
theorem dX4_readSeen_85 : decode cX4_readSeen 85 = .ok (.iconst (-1), 1) := by decide +kernel
theorem dX4_readSeen_86 : decode cX4_readSeen 86 = .ok (.goto 8, 3) := by decide +kernel
theorem dX4_readSeen_89 : decode cX4_readSeen 89 = .ok (.aload_n 0, 1) := by decide +kernel
theorem dX4_readSeen_90 : decode cX4_readSeen 90 = .ok (.iconst (-1), 1) := by decide +kernel
theorem dX4_readSeen_91 : decode cX4_readSeen 91 = .ok (.invokevirtual 194, 3) := by decide +kernel
theorem dX4_readSeen_94 : decode cX4_readSeen 94 = .ok (.istore 5, 2) := by decide +kernel
theorem dX4_readSeen_96 : decode cX4_readSeen 96 = .ok (.iload 5, 2) := by decide +kernel
theorem dX4_readSeen_98 : decode cX4_readSeen 98 = .ok (.iconst (-1), 1) := by decide +kernel
theorem dX4_readSeen_99 : decode cX4_readSeen 99 = .ok (.if_icmp .ne 5, 3) := by decide +kernel
theorem dX4_readSeen_102 : decode cX4_readSeen 102 = .ok (.iconst 0, 1) := by decide +kernel
theorem dX4_readSeen_103 : decode cX4_readSeen 103 = .ok (.ireturn, 1) := by decide +kernel
theorem dX4_readSeen_104 : decode cX4_readSeen 104 = .ok (.aload_n 0, 1) := by decide +kernel
theorem dX4_readSeen_105 : decode cX4_readSeen 105 = .ok (.getfield 47, 3) := by decide +kernel
theorem dX4_readSeen_108 : decode cX4_readSeen 108 = .ok (.getfield 144, 3) := by decide +kernel
theorem dX4_readSeen_111 : decode cX4_readSeen 111 = .ok (.istore 6, 2) := by decide +kernel
theorem dX4_readSeen_113 : decode cX4_readSeen 113 = .ok (.aload_n 0, 1) := by decide +kernel
theorem dX4_readSeen_114 : decode cX4_readSeen 114 = .ok (.getfield 47, 3) := by decide +kernel
theorem dX4_readSeen_117 : decode cX4_readSeen 117 = .ok (.getfield 197, 3) := by decide +kernel
theorem dX4_readSeen_120 : decode cX4_readSeen 120 = .ok (.iload 6, 2) := by decide +kernel
theorem dX4_readSeen_122 : decode cX4_readSeen 122 = .ok (.iload_n 1, 1) := by decide +kernel
theorem dX4_readSeen_123 : decode cX4_readSeen 123 = .ok (.iastore, 1) := by decide +kernel
theorem dX4_readSeen_124 : decode cX4_readSeen 124 = .ok (.aload_n 0, 1) := by decide +kernel
theorem dX4_readSeen_125 : decode cX4_readSeen 125 = .ok (.getfield 47, 3) := by decide +kernel
theorem dX4_readSeen_128 : decode cX4_readSeen 128 = .ok (.getfield 200, 3) := by decide +kernel
theorem dX4_readSeen_131 : decode cX4_readSeen 131 = .ok (.iload 6, 2) := by decide +kernel
theorem dX4_readSeen_133 : decode cX4_readSeen 133 = .ok (.iload_n 2, 1) := by decide +kernel
theorem dX4_readSeen_134 : decode cX4_readSeen 134 = .ok (.iastore, 1) := by decide +kernel
theorem dX4_readSeen_135 : decode cX4_readSeen 135 = .ok (.aload_n 0, 1) := by decide +kernel
theorem dX4_readSeen_136 : decode cX4_readSeen 136 = .ok (.getfield 47, 3) := by decide +kernel
theorem dX4_readSeen_139 : decode cX4_readSeen 139 = .ok (.getfield 203, 3) := by decide +kernel
theorem dX4_readSeen_142 : decode cX4_readSeen 142 = .ok (.iload 6, 2) := by decide +kernel
theorem dX4_readSeen_144 : decode cX4_readSeen 144 = .ok (.bipush 6, 2) := by decide +kernel
theorem dX4_readSeen_146 : decode cX4_readSeen 146 = .ok (.iload 4, 2) := by decide +kernel
theorem dX4_readSeen_148 : decode cX4_readSeen 148 = .ok (.imul, 1) := by decide +kernel
theorem dX4_readSeen_149 : decode cX4_readSeen 149 = .ok (.iload_n 3, 1) := by decide +kernel
theorem dX4_readSeen_150 : decode cX4_readSeen 150 = .ok (.iadd, 1) := by decide +kernel
theorem dX4_readSeen_151 : decode cX4_readSeen 151 = .ok (.iastore, 1) := by decide +kernel
theorem dX4_readSeen_152 : decode cX4_readSeen 152 = .ok (.aload_n 0, 1) := by decide +kernel
theorem dX4_readSeen_153 : decode cX4_readSeen 153 = .ok (.getfield 47, 3) := by decide +kernel
theorem dX4_readSeen_156 : decode cX4_readSeen 156 = .ok (.getfield 206, 3) := by decide +kernel
theorem dX4_readSeen_159 : decode cX4_readSeen 159 = .ok (.iload 6, 2) := by decide +kernel
theorem dX4_readSeen_161 : decode cX4_readSeen 161 = .ok (.iload 5, 2) := by decide +kernel
theorem dX4_readSeen_163 : decode cX4_readSeen 163 = .ok (.iastore, 1) := by decide +kernel
theorem dX4_readSeen_164 : decode cX4_readSeen 164 = .ok (.aload_n 0, 1) := by decide +kernel
theorem dX4_readSeen_165 : decode cX4_readSeen 165 = .ok (.getfield 47, 3) := by decide +kernel
theorem dX4_readSeen_168 : decode cX4_readSeen 168 = .ok (.dup, 1) := by decide +kernel
theorem dX4_readSeen_169 : decode cX4_readSeen 169 = .ok (.getfield 144, 3) := by decide +kernel
theorem dX4_readSeen_172 : decode cX4_readSeen 172 = .ok (.iconst 1, 1) := by decide +kernel
theorem dX4_readSeen_173 : decode cX4_readSeen 173 = .ok (.iadd, 1) := by decide +kernel
theorem dX4_readSeen_174 : decode cX4_readSeen 174 = .ok (.putfield 144, 3) := by decide +kernel
theorem dX4_readSeen_177 : decode cX4_readSeen 177 = .ok (.iconst 1, 1) := by decide +kernel
theorem dX4_readSeen_178 : decode cX4_readSeen 178 = .ok (.ireturn, 1) := by decide +kernel
theorem dX4_errorSort_0 : decode cX4_errorSort 0 = .ok (.iconst 0, 1) := by decide +kernel
theorem dX4_errorSort_1 : decode cX4_errorSort 1 = .ok (.istore_n 1, 1) := by decide +kernel
theorem dX4_errorSort_2 : decode cX4_errorSort 2 = .ok (.iload_n 1, 1) := by decide +kernel
theorem dX4_errorSort_3 : decode cX4_errorSort 3 = .ok (.bipush 10, 2) := by decide +kernel
theorem dX4_errorSort_5 : decode cX4_errorSort 5 = .ok (.if_icmp .gt 22, 3) := by decide +kernel
theorem dX4_errorSort_8 : decode cX4_errorSort 8 = .ok (.aload_n 0, 1) := by decide +kernel
theorem dX4_errorSort_9 : decode cX4_errorSort 9 = .ok (.iload_n 1, 1) := by decide +kernel
theorem dX4_errorSort_10 : decode cX4_errorSort 10 = .ok (.invokestatic 209, 3) := by decide +kernel
theorem dX4_errorSort_13 : decode cX4_errorSort 13 = .ok (.invokevirtual 108, 3) := by decide +kernel
theorem dX4_errorSort_16 : decode cX4_errorSort 16 = .ok (.ifCond .eq 5, 3) := by decide +kernel
theorem dX4_errorSort_19 : decode cX4_errorSort 19 = .ok (.iload_n 1, 1) := by decide +kernel
theorem dX4_errorSort_20 : decode cX4_errorSort 20 = .ok (.ireturn, 1) := by decide +kernel
theorem dX4_errorSort_21 : decode cX4_errorSort 21 = .ok (.iinc 1 1, 3) := by decide +kernel
theorem dX4_errorSort_24 : decode cX4_errorSort 24 = .ok (.goto (-22), 3) := by decide +kernel
theorem dX4_errorSort_27 : decode cX4_errorSort 27 = .ok (.iconst (-1), 1) := by decide +kernel
theorem dX4_errorSort_28 : decode cX4_errorSort 28 = .ok (.ireturn, 1) := by decide +kernel
theorem dX4_errorWord_0 : decode cX4_errorWord 0 = .ok (.iload_n 0, 1) := by decide +kernel
theorem dX4_errorWord_1 : decode cX4_errorWord 1 = .ok (.tableswitch 85 0 9 #[55, 58, 61, 64, 67, 70, 73, 76, 79, 82], 55) := by decide +kernel
theorem dX4_errorWord_56 : decode cX4_errorWord 56 = .ok (.ldc 213, 2) := by decide +kernel
theorem dX4_errorWord_58 : decode cX4_errorWord 58 = .ok (.areturn, 1) := by decide +kernel
theorem dX4_errorWord_59 : decode cX4_errorWord 59 = .ok (.ldc 215, 2) := by decide +kernel
theorem dX4_errorWord_61 : decode cX4_errorWord 61 = .ok (.areturn, 1) := by decide +kernel
theorem dX4_errorWord_62 : decode cX4_errorWord 62 = .ok (.ldc 217, 2) := by decide +kernel
theorem dX4_errorWord_64 : decode cX4_errorWord 64 = .ok (.areturn, 1) := by decide +kernel
theorem dX4_errorWord_65 : decode cX4_errorWord 65 = .ok (.ldc 219, 2) := by decide +kernel
theorem dX4_errorWord_67 : decode cX4_errorWord 67 = .ok (.areturn, 1) := by decide +kernel
theorem dX4_errorWord_68 : decode cX4_errorWord 68 = .ok (.ldc 221, 2) := by decide +kernel
theorem dX4_errorWord_70 : decode cX4_errorWord 70 = .ok (.areturn, 1) := by decide +kernel
theorem dX4_errorWord_71 : decode cX4_errorWord 71 = .ok (.ldc 223, 2) := by decide +kernel
theorem dX4_errorWord_73 : decode cX4_errorWord 73 = .ok (.areturn, 1) := by decide +kernel
theorem dX4_errorWord_74 : decode cX4_errorWord 74 = .ok (.ldc 225, 2) := by decide +kernel
theorem dX4_errorWord_76 : decode cX4_errorWord 76 = .ok (.areturn, 1) := by decide +kernel
theorem dX4_errorWord_77 : decode cX4_errorWord 77 = .ok (.ldc 227, 2) := by decide +kernel
theorem dX4_errorWord_79 : decode cX4_errorWord 79 = .ok (.areturn, 1) := by decide +kernel
theorem dX4_errorWord_80 : decode cX4_errorWord 80 = .ok (.ldc 229, 2) := by decide +kernel
theorem dX4_errorWord_82 : decode cX4_errorWord 82 = .ok (.areturn, 1) := by decide +kernel
theorem dX4_errorWord_83 : decode cX4_errorWord 83 = .ok (.ldc 231, 2) := by decide +kernel
theorem dX4_errorWord_85 : decode cX4_errorWord 85 = .ok (.areturn, 1) := by decide +kernel
theorem dX4_errorWord_86 : decode cX4_errorWord 86 = .ok (.ldc 233, 2) := by decide +kernel
theorem dX4_errorWord_88 : decode cX4_errorWord 88 = .ok (.areturn, 1) := by decide +kernel
theorem dX4_errorParts_0 : decode cX4_errorParts 0 = .ok (.iload_n 0, 1) := by decide +kernel
theorem dX4_errorParts_1 : decode cX4_errorParts 1 = .ok (.tableswitch 75 1 9 #[51, 54, 57, 75, 60, 63, 66, 69, 72], 51) := by decide +kernel
theorem dX4_errorParts_52 : decode cX4_errorParts 52 = .ok (.ldc 235, 2) := by decide +kernel
theorem dX4_errorParts_54 : decode cX4_errorParts 54 = .ok (.areturn, 1) := by decide +kernel
theorem dX4_errorParts_55 : decode cX4_errorParts 55 = .ok (.ldc 237, 2) := by decide +kernel
theorem dX4_errorParts_57 : decode cX4_errorParts 57 = .ok (.areturn, 1) := by decide +kernel
theorem dX4_errorParts_58 : decode cX4_errorParts 58 = .ok (.ldc 239, 2) := by decide +kernel
theorem dX4_errorParts_60 : decode cX4_errorParts 60 = .ok (.areturn, 1) := by decide +kernel
theorem dX4_errorParts_61 : decode cX4_errorParts 61 = .ok (.ldc 241, 2) := by decide +kernel
theorem dX4_errorParts_63 : decode cX4_errorParts 63 = .ok (.areturn, 1) := by decide +kernel
theorem dX4_errorParts_64 : decode cX4_errorParts 64 = .ok (.ldc 243, 2) := by decide +kernel
theorem dX4_errorParts_66 : decode cX4_errorParts 66 = .ok (.areturn, 1) := by decide +kernel
theorem dX4_errorParts_67 : decode cX4_errorParts 67 = .ok (.ldc 243, 2) := by decide +kernel
theorem dX4_errorParts_69 : decode cX4_errorParts 69 = .ok (.areturn, 1) := by decide +kernel
theorem dX4_errorParts_70 : decode cX4_errorParts 70 = .ok (.ldc 245, 2) := by decide +kernel
theorem dX4_errorParts_72 : decode cX4_errorParts 72 = .ok (.areturn, 1) := by decide +kernel
theorem dX4_errorParts_73 : decode cX4_errorParts 73 = .ok (.ldc 243, 2) := by decide +kernel
theorem dX4_errorParts_75 : decode cX4_errorParts 75 = .ok (.areturn, 1) := by decide +kernel
theorem dX4_errorParts_76 : decode cX4_errorParts 76 = .ok (.ldc 247, 2) := by decide +kernel
theorem dX4_errorParts_78 : decode cX4_errorParts 78 = .ok (.areturn, 1) := by decide +kernel
theorem dX4_readError_0 : decode cX4_readError 0 = .ok (.iload_n 1, 1) := by decide +kernel
theorem dX4_readError_1 : decode cX4_readError 1 = .ok (.iconst (-1), 1) := by decide +kernel
theorem dX4_readError_2 : decode cX4_readError 2 = .ok (.if_icmp .ne 9, 3) := by decide +kernel
theorem dX4_readError_5 : decode cX4_readError 5 = .ok (.aload_n 0, 1) := by decide +kernel
theorem dX4_readError_6 : decode cX4_readError 6 = .ok (.iconst 1, 1) := by decide +kernel
theorem dX4_readError_7 : decode cX4_readError 7 = .ok (.invokevirtual 92, 3) := by decide +kernel
theorem dX4_readError_10 : decode cX4_readError 10 = .ok (.ireturn, 1) := by decide +kernel
theorem dX4_readError_11 : decode cX4_readError 11 = .ok (.aload_n 0, 1) := by decide +kernel
theorem dX4_readError_12 : decode cX4_readError 12 = .ok (.invokevirtual 56, 3) := by decide +kernel
theorem dX4_readError_15 : decode cX4_readError 15 = .ok (.aload_n 2, 1) := by decide +kernel
theorem dX4_readError_16 : decode cX4_readError 16 = .ok (.iload_n 3, 1) := by decide +kernel
theorem dX4_readError_17 : decode cX4_readError 17 = .ok (.iload_n 1, 1) := by decide +kernel
theorem dX4_readError_18 : decode cX4_readError 18 = .ok (.iastore, 1) := by decide +kernel
theorem dX4_readError_19 : decode cX4_readError 19 = .ok (.iload_n 1, 1) := by decide +kernel
theorem dX4_readError_20 : decode cX4_readError 20 = .ok (.invokestatic 249, 3) := by decide +kernel
theorem dX4_readError_23 : decode cX4_readError 23 = .ok (.astore 4, 2) := by decide +kernel
theorem dX4_readError_25 : decode cX4_readError 25 = .ok (.iconst 0, 1) := by decide +kernel
theorem dX4_readError_26 : decode cX4_readError 26 = .ok (.istore 5, 2) := by decide +kernel
theorem dX4_readError_28 : decode cX4_readError 28 = .ok (.iload 5, 2) := by decide +kernel
theorem dX4_readError_30 : decode cX4_readError 30 = .ok (.aload 4, 2) := by decide +kernel
theorem dX4_readError_32 : decode cX4_readError 32 = .ok (.invokevirtual 99, 3) := by decide +kernel
theorem dX4_readError_35 : decode cX4_readError 35 = .ok (.if_icmp .ge 45, 3) := by decide +kernel
theorem dX4_readError_38 : decode cX4_readError 38 = .ok (.aload_n 0, 1) := by decide +kernel
theorem dX4_readError_39 : decode cX4_readError 39 = .ok (.aload 4, 2) := by decide +kernel
theorem dX4_readError_41 : decode cX4_readError 41 = .ok (.iload 5, 2) := by decide +kernel
theorem dX4_readError_43 : decode cX4_readError 43 = .ok (.invokevirtual 104, 3) := by decide +kernel
theorem dX4_readError_46 : decode cX4_readError 46 = .ok (.aload_n 2, 1) := by decide +kernel
theorem dX4_readError_47 : decode cX4_readError 47 = .ok (.iload_n 3, 1) := by decide +kernel
theorem dX4_readError_48 : decode cX4_readError 48 = .ok (.iconst 1, 1) := by decide +kernel
theorem dX4_readError_49 : decode cX4_readError 49 = .ok (.iadd, 1) := by decide +kernel
theorem dX4_readError_50 : decode cX4_readError 50 = .ok (.iaload, 1) := by decide +kernel
theorem dX4_readError_51 : decode cX4_readError 51 = .ok (.invokevirtual 252, 3) := by decide +kernel
theorem dX4_readError_54 : decode cX4_readError 54 = .ok (.istore 6, 2) := by decide +kernel
theorem dX4_readError_56 : decode cX4_readError 56 = .ok (.iload 6, 2) := by decide +kernel
theorem dX4_readError_58 : decode cX4_readError 58 = .ok (.iconst (-1), 1) := by decide +kernel
theorem dX4_readError_59 : decode cX4_readError 59 = .ok (.if_icmp .ne 5, 3) := by decide +kernel
theorem dX4_readError_62 : decode cX4_readError 62 = .ok (.iconst 0, 1) := by decide +kernel
theorem dX4_readError_63 : decode cX4_readError 63 = .ok (.ireturn, 1) := by decide +kernel
theorem dX4_readError_64 : decode cX4_readError 64 = .ok (.aload_n 2, 1) := by decide +kernel
theorem dX4_readError_65 : decode cX4_readError 65 = .ok (.iload_n 3, 1) := by decide +kernel
theorem dX4_readError_66 : decode cX4_readError 66 = .ok (.iconst 1, 1) := by decide +kernel
theorem dX4_readError_67 : decode cX4_readError 67 = .ok (.iadd, 1) := by decide +kernel
theorem dX4_readError_68 : decode cX4_readError 68 = .ok (.iload 5, 2) := by decide +kernel
theorem dX4_readError_70 : decode cX4_readError 70 = .ok (.iadd, 1) := by decide +kernel
theorem dX4_readError_71 : decode cX4_readError 71 = .ok (.iload 6, 2) := by decide +kernel
theorem dX4_readError_73 : decode cX4_readError 73 = .ok (.iastore, 1) := by decide +kernel
theorem dX4_readError_74 : decode cX4_readError 74 = .ok (.iinc 5 1, 3) := by decide +kernel
theorem dX4_readError_77 : decode cX4_readError 77 = .ok (.goto (-49), 3) := by decide +kernel
theorem dX4_readError_80 : decode cX4_readError 80 = .ok (.iconst 1, 1) := by decide +kernel
theorem dX4_readError_81 : decode cX4_readError 81 = .ok (.ireturn, 1) := by decide +kernel
theorem dX4_partDue_0 : decode cX4_partDue 0 = .ok (.iload_n 1, 1) := by decide +kernel
theorem dX4_partDue_1 : decode cX4_partDue 1 = .ok (.tableswitch 168 102 121 #[143, 168, 168, 168, 168, 168, 168, 95, 168, 101, 168, 168, 168, 161, 168, 168, 168, 168, 107, 125], 95) := by decide +kernel
theorem dX4_partDue_96 : decode cX4_partDue 96 = .ok (.aload_n 0, 1) := by decide +kernel
theorem dX4_partDue_97 : decode cX4_partDue 97 = .ok (.iconst (-1), 1) := by decide +kernel
theorem dX4_partDue_98 : decode cX4_partDue 98 = .ok (.invokevirtual 194, 3) := by decide +kernel
theorem dX4_partDue_101 : decode cX4_partDue 101 = .ok (.ireturn, 1) := by decide +kernel
theorem dX4_partDue_102 : decode cX4_partDue 102 = .ok (.aload_n 0, 1) := by decide +kernel
theorem dX4_partDue_103 : decode cX4_partDue 103 = .ok (.iload_n 2, 1) := by decide +kernel
theorem dX4_partDue_104 : decode cX4_partDue 104 = .ok (.invokevirtual 194, 3) := by decide +kernel
theorem dX4_partDue_107 : decode cX4_partDue 107 = .ok (.ireturn, 1) := by decide +kernel
theorem dX4_partDue_108 : decode cX4_partDue 108 = .ok (.aload_n 0, 1) := by decide +kernel
theorem dX4_partDue_109 : decode cX4_partDue 109 = .ok (.iconst 0, 1) := by decide +kernel
theorem dX4_partDue_110 : decode cX4_partDue 110 = .ok (.aload_n 0, 1) := by decide +kernel
theorem dX4_partDue_111 : decode cX4_partDue 111 = .ok (.getfield 47, 3) := by decide +kernel
theorem dX4_partDue_114 : decode cX4_partDue 114 = .ok (.getfield 83, 3) := by decide +kernel
theorem dX4_partDue_117 : decode cX4_partDue 117 = .ok (.getfield 158, 3) := by decide +kernel
theorem dX4_partDue_120 : decode cX4_partDue 120 = .ok (.iconst 1, 1) := by decide +kernel
theorem dX4_partDue_121 : decode cX4_partDue 121 = .ok (.isub, 1) := by decide +kernel
theorem dX4_partDue_122 : decode cX4_partDue 122 = .ok (.invokevirtual 152, 3) := by decide +kernel
theorem dX4_partDue_125 : decode cX4_partDue 125 = .ok (.ireturn, 1) := by decide +kernel
theorem dX4_partDue_126 : decode cX4_partDue 126 = .ok (.aload_n 0, 1) := by decide +kernel
theorem dX4_partDue_127 : decode cX4_partDue 127 = .ok (.iconst 0, 1) := by decide +kernel
theorem dX4_partDue_128 : decode cX4_partDue 128 = .ok (.aload_n 0, 1) := by decide +kernel
theorem dX4_partDue_129 : decode cX4_partDue 129 = .ok (.getfield 47, 3) := by decide +kernel
theorem dX4_partDue_132 : decode cX4_partDue 132 = .ok (.getfield 83, 3) := by decide +kernel
theorem dX4_partDue_135 : decode cX4_partDue 135 = .ok (.getfield 160, 3) := by decide +kernel
theorem dX4_partDue_138 : decode cX4_partDue 138 = .ok (.iconst 1, 1) := by decide +kernel
theorem dX4_partDue_139 : decode cX4_partDue 139 = .ok (.isub, 1) := by decide +kernel
theorem dX4_partDue_140 : decode cX4_partDue 140 = .ok (.invokevirtual 152, 3) := by decide +kernel
theorem dX4_partDue_143 : decode cX4_partDue 143 = .ok (.ireturn, 1) := by decide +kernel
theorem dX4_partDue_144 : decode cX4_partDue 144 = .ok (.aload_n 0, 1) := by decide +kernel
theorem dX4_partDue_145 : decode cX4_partDue 145 = .ok (.iconst 1, 1) := by decide +kernel
theorem dX4_partDue_146 : decode cX4_partDue 146 = .ok (.aload_n 0, 1) := by decide +kernel
theorem dX4_partDue_147 : decode cX4_partDue 147 = .ok (.getfield 47, 3) := by decide +kernel
theorem dX4_partDue_150 : decode cX4_partDue 150 = .ok (.getfield 83, 3) := by decide +kernel
theorem dX4_partDue_153 : decode cX4_partDue 153 = .ok (.getfield 158, 3) := by decide +kernel
theorem dX4_partDue_156 : decode cX4_partDue 156 = .ok (.iconst 1, 1) := by decide +kernel
theorem dX4_partDue_157 : decode cX4_partDue 157 = .ok (.isub, 1) := by decide +kernel
theorem dX4_partDue_158 : decode cX4_partDue 158 = .ok (.invokevirtual 152, 3) := by decide +kernel
theorem dX4_partDue_161 : decode cX4_partDue 161 = .ok (.ireturn, 1) := by decide +kernel
theorem dX4_partDue_162 : decode cX4_partDue 162 = .ok (.aload_n 0, 1) := by decide +kernel
theorem dX4_partDue_163 : decode cX4_partDue 163 = .ok (.iconst 0, 1) := by decide +kernel
theorem dX4_partDue_164 : decode cX4_partDue 164 = .ok (.iconst 5, 1) := by decide +kernel
theorem dX4_partDue_165 : decode cX4_partDue 165 = .ok (.invokevirtual 152, 3) := by decide +kernel
theorem dX4_partDue_168 : decode cX4_partDue 168 = .ok (.ireturn, 1) := by decide +kernel
theorem dX4_partDue_169 : decode cX4_partDue 169 = .ok (.aload_n 0, 1) := by decide +kernel
theorem dX4_partDue_170 : decode cX4_partDue 170 = .ok (.iconst 5, 1) := by decide +kernel
theorem dX4_partDue_171 : decode cX4_partDue 171 = .ok (.bipush 9, 2) := by decide +kernel
theorem dX4_partDue_173 : decode cX4_partDue 173 = .ok (.invokevirtual 152, 3) := by decide +kernel
theorem dX4_partDue_176 : decode cX4_partDue 176 = .ok (.ireturn, 1) := by decide +kernel
theorem dX5_init_0 : decode cX5_init 0 = .ok (.aload_n 0, 1) := by decide +kernel
theorem dX5_init_1 : decode cX5_init 1 = .ok (.invokespecial 3, 3) := by decide +kernel
theorem dX5_init_4 : decode cX5_init 4 = .ok (.aload_n 0, 1) := by decide +kernel
theorem dX5_init_5 : decode cX5_init 5 = .ok (.iconst 0, 1) := by decide +kernel
theorem dX5_init_6 : decode cX5_init 6 = .ok (.putfield 9, 3) := by decide +kernel
theorem dX5_init_9 : decode cX5_init 9 = .ok (.aload_n 0, 1) := by decide +kernel
theorem dX5_init_10 : decode cX5_init 10 = .ok (.new 15, 3) := by decide +kernel
theorem dX5_init_13 : decode cX5_init 13 = .ok (.dup, 1) := by decide +kernel
theorem dX5_init_14 : decode cX5_init 14 = .ok (.invokespecial 17, 3) := by decide +kernel
theorem dX5_init_17 : decode cX5_init 17 = .ok (.putfield 18, 3) := by decide +kernel
theorem dX5_init_20 : decode cX5_init 20 = .ok (.aload_n 0, 1) := by decide +kernel
theorem dX5_init_21 : decode cX5_init 21 = .ok (.bipush 6, 2) := by decide +kernel
theorem dX5_init_23 : decode cX5_init 23 = .ok (.newarray .long, 2) := by decide +kernel
theorem dX5_init_25 : decode cX5_init 25 = .ok (.putfield 22, 3) := by decide +kernel
theorem dX5_init_28 : decode cX5_init 28 = .ok (.aload_n 0, 1) := by decide +kernel
theorem dX5_init_29 : decode cX5_init 29 = .ok (.bipush 20, 2) := by decide +kernel
theorem dX5_init_31 : decode cX5_init 31 = .ok (.newarray .int, 2) := by decide +kernel
theorem dX5_init_33 : decode cX5_init 33 = .ok (.putfield 26, 3) := by decide +kernel
theorem dX5_init_36 : decode cX5_init 36 = .ok (.aload_n 0, 1) := by decide +kernel
theorem dX5_init_37 : decode cX5_init 37 = .ok (.iconst 0, 1) := by decide +kernel
theorem dX5_init_38 : decode cX5_init 38 = .ok (.putfield 30, 3) := by decide +kernel
theorem dX5_init_41 : decode cX5_init 41 = .ok (.aload_n 0, 1) := by decide +kernel
theorem dX5_init_42 : decode cX5_init 42 = .ok (.bipush 8, 2) := by decide +kernel
theorem dX5_init_44 : decode cX5_init 44 = .ok (.newarray .int, 2) := by decide +kernel
theorem dX5_init_46 : decode cX5_init 46 = .ok (.putfield 33, 3) := by decide +kernel
theorem dX5_init_49 : decode cX5_init 49 = .ok (.aload_n 0, 1) := by decide +kernel
theorem dX5_init_50 : decode cX5_init 50 = .ok (.bipush 8, 2) := by decide +kernel
theorem dX5_init_52 : decode cX5_init 52 = .ok (.newarray .int, 2) := by decide +kernel
theorem dX5_init_54 : decode cX5_init 54 = .ok (.putfield 36, 3) := by decide +kernel
theorem dX5_init_57 : decode cX5_init 57 = .ok (.aload_n 0, 1) := by decide +kernel
theorem dX5_init_58 : decode cX5_init 58 = .ok (.bipush 8, 2) := by decide +kernel
theorem dX5_init_60 : decode cX5_init 60 = .ok (.newarray .int, 2) := by decide +kernel
theorem dX5_init_62 : decode cX5_init 62 = .ok (.putfield 39, 3) := by decide +kernel
theorem dX5_init_65 : decode cX5_init 65 = .ok (.aload_n 0, 1) := by decide +kernel
theorem dX5_init_66 : decode cX5_init 66 = .ok (.bipush 8, 2) := by decide +kernel
theorem dX5_init_68 : decode cX5_init 68 = .ok (.newarray .int, 2) := by decide +kernel
theorem dX5_init_70 : decode cX5_init 70 = .ok (.putfield 42, 3) := by decide +kernel
theorem dX5_init_73 : decode cX5_init 73 = .ok (.aload_n 0, 1) := by decide +kernel
theorem dX5_init_74 : decode cX5_init 74 = .ok (.iconst 0, 1) := by decide +kernel
theorem dX5_init_75 : decode cX5_init 75 = .ok (.putfield 45, 3) := by decide +kernel
theorem dX5_init_78 : decode cX5_init 78 = .ok (.return_, 1) := by decide +kernel
theorem dX5_clear_0 : decode cX5_clear 0 = .ok (.aload_n 0, 1) := by decide +kernel
theorem dX5_clear_1 : decode cX5_clear 1 = .ok (.iconst 0, 1) := by decide +kernel
theorem dX5_clear_2 : decode cX5_clear 2 = .ok (.putfield 9, 3) := by decide +kernel
theorem dX5_clear_5 : decode cX5_clear 5 = .ok (.aload_n 0, 1) := by decide +kernel
theorem dX5_clear_6 : decode cX5_clear 6 = .ok (.getfield 18, 3) := by decide +kernel
theorem dX5_clear_9 : decode cX5_clear 9 = .ok (.invokevirtual 48, 3) := by decide +kernel
theorem dX5_clear_12 : decode cX5_clear 12 = .ok (.aload_n 0, 1) := by decide +kernel
theorem dX5_clear_13 : decode cX5_clear 13 = .ok (.getfield 26, 3) := by decide +kernel
theorem dX5_clear_16 : decode cX5_clear 16 = .ok (.bipush (-2), 2) := by decide +kernel
theorem dX5_clear_18 : decode cX5_clear 18 = .ok (.invokestatic 51, 3) := by decide +kernel
theorem dX5_clear_21 : decode cX5_clear 21 = .ok (.aload_n 0, 1) := by decide +kernel
theorem dX5_clear_22 : decode cX5_clear 22 = .ok (.iconst 0, 1) := by decide +kernel
theorem dX5_clear_23 : decode cX5_clear 23 = .ok (.putfield 30, 3) := by decide +kernel
theorem dX5_clear_26 : decode cX5_clear 26 = .ok (.aload_n 0, 1) := by decide +kernel
theorem dX5_clear_27 : decode cX5_clear 27 = .ok (.iconst 0, 1) := by decide +kernel
theorem dX5_clear_28 : decode cX5_clear 28 = .ok (.putfield 45, 3) := by decide +kernel
theorem dX5_clear_31 : decode cX5_clear 31 = .ok (.return_, 1) := by decide +kernel
theorem dX5_townNamed_0 : decode cX5_townNamed 0 = .ok (.iconst 0, 1) := by decide +kernel
theorem dX5_townNamed_1 : decode cX5_townNamed 1 = .ok (.istore_n 3, 1) := by decide +kernel
theorem dX5_townNamed_2 : decode cX5_townNamed 2 = .ok (.iload_n 3, 1) := by decide +kernel
theorem dX5_townNamed_3 : decode cX5_townNamed 3 = .ok (.aload_n 0, 1) := by decide +kernel
theorem dX5_townNamed_4 : decode cX5_townNamed 4 = .ok (.getfield 18, 3) := by decide +kernel
theorem dX5_townNamed_7 : decode cX5_townNamed 7 = .ok (.getfield 57, 3) := by decide +kernel
theorem dX5_townNamed_10 : decode cX5_townNamed 10 = .ok (.if_icmp .ge 22, 3) := by decide +kernel
theorem dX5_townNamed_13 : decode cX5_townNamed 13 = .ok (.aload_n 0, 1) := by decide +kernel
theorem dX5_townNamed_14 : decode cX5_townNamed 14 = .ok (.getfield 22, 3) := by decide +kernel
theorem dX5_townNamed_17 : decode cX5_townNamed 17 = .ok (.iload_n 3, 1) := by decide +kernel
theorem dX5_townNamed_18 : decode cX5_townNamed 18 = .ok (.laload, 1) := by decide +kernel
theorem dX5_townNamed_19 : decode cX5_townNamed 19 = .ok (.lload_n 1, 1) := by decide +kernel
theorem dX5_townNamed_20 : decode cX5_townNamed 20 = .ok (.lcmp, 1) := by decide +kernel
theorem dX5_townNamed_21 : decode cX5_townNamed 21 = .ok (.ifCond .ne 5, 3) := by decide +kernel
theorem dX5_townNamed_24 : decode cX5_townNamed 24 = .ok (.iload_n 3, 1) := by decide +kernel
theorem dX5_townNamed_25 : decode cX5_townNamed 25 = .ok (.ireturn, 1) := by decide +kernel
theorem dX5_townNamed_26 : decode cX5_townNamed 26 = .ok (.iinc 3 1, 3) := by decide +kernel
theorem dX5_townNamed_29 : decode cX5_townNamed 29 = .ok (.goto (-27), 3) := by decide +kernel
theorem dX5_townNamed_32 : decode cX5_townNamed 32 = .ok (.iconst (-1), 1) := by decide +kernel
theorem dX5_townNamed_33 : decode cX5_townNamed 33 = .ok (.ireturn, 1) := by decide +kernel
theorem dX5_isUnknown_0 : decode cX5_isUnknown 0 = .ok (.aload_n 0, 1) := by decide +kernel
theorem dX5_isUnknown_1 : decode cX5_isUnknown 1 = .ok (.getfield 18, 3) := by decide +kernel
theorem dX5_isUnknown_4 : decode cX5_isUnknown 4 = .ok (.getfield 60, 3) := by decide +kernel
theorem dX5_isUnknown_7 : decode cX5_isUnknown 7 = .ok (.iconst 4, 1) := by decide +kernel
theorem dX5_isUnknown_8 : decode cX5_isUnknown 8 = .ok (.iload_n 1, 1) := by decide +kernel
theorem dX5_isUnknown_9 : decode cX5_isUnknown 9 = .ok (.imul, 1) := by decide +kernel
theorem dX5_isUnknown_10 : decode cX5_isUnknown 10 = .ok (.iaload, 1) := by decide +kernel
theorem dX5_isUnknown_11 : decode cX5_isUnknown 11 = .ok (.bipush 10, 2) := by decide +kernel
theorem dX5_isUnknown_13 : decode cX5_isUnknown 13 = .ok (.if_icmp .ne 7, 3) := by decide +kernel
theorem dX5_isUnknown_16 : decode cX5_isUnknown 16 = .ok (.iconst 1, 1) := by decide +kernel
theorem dX5_isUnknown_17 : decode cX5_isUnknown 17 = .ok (.goto 4, 3) := by decide +kernel
theorem dX5_isUnknown_20 : decode cX5_isUnknown 20 = .ok (.iconst 0, 1) := by decide +kernel
theorem dX5_isUnknown_21 : decode cX5_isUnknown 21 = .ok (.ireturn, 1) := by decide +kernel
theorem dX5_unknownCount_0 : decode cX5_unknownCount 0 = .ok (.aload_n 0, 1) := by decide +kernel
theorem dX5_unknownCount_1 : decode cX5_unknownCount 1 = .ok (.aload_n 0, 1) := by decide +kernel
theorem dX5_unknownCount_2 : decode cX5_unknownCount 2 = .ok (.getfield 18, 3) := by decide +kernel
theorem dX5_unknownCount_5 : decode cX5_unknownCount 5 = .ok (.getfield 57, 3) := by decide +kernel
theorem dX5_unknownCount_8 : decode cX5_unknownCount 8 = .ok (.invokevirtual 63, 3) := by decide +kernel
theorem dX5_unknownCount_11 : decode cX5_unknownCount 11 = .ok (.ireturn, 1) := by decide +kernel
theorem dX5_unknownNumber_0 : decode cX5_unknownNumber 0 = .ok (.aload_n 0, 1) := by decide +kernel
theorem dX5_unknownNumber_1 : decode cX5_unknownNumber 1 = .ok (.iload_n 1, 1) := by decide +kernel
theorem dX5_unknownNumber_2 : decode cX5_unknownNumber 2 = .ok (.invokevirtual 67, 3) := by decide +kernel
theorem dX5_unknownNumber_5 : decode cX5_unknownNumber 5 = .ok (.ifCond .eq 11, 3) := by decide +kernel
theorem dX5_unknownNumber_8 : decode cX5_unknownNumber 8 = .ok (.aload_n 0, 1) := by decide +kernel
theorem dX5_unknownNumber_9 : decode cX5_unknownNumber 9 = .ok (.iload_n 1, 1) := by decide +kernel
theorem dX5_unknownNumber_10 : decode cX5_unknownNumber 10 = .ok (.invokevirtual 63, 3) := by decide +kernel
theorem dX5_unknownNumber_13 : decode cX5_unknownNumber 13 = .ok (.goto 4, 3) := by decide +kernel
theorem dX5_unknownNumber_16 : decode cX5_unknownNumber 16 = .ok (.iconst (-1), 1) := by decide +kernel
theorem dX5_unknownNumber_17 : decode cX5_unknownNumber 17 = .ok (.ireturn, 1) := by decide +kernel
theorem dX5_unknownsBelow_0 : decode cX5_unknownsBelow 0 = .ok (.iconst 0, 1) := by decide +kernel
theorem dX5_unknownsBelow_1 : decode cX5_unknownsBelow 1 = .ok (.istore_n 2, 1) := by decide +kernel
theorem dX5_unknownsBelow_2 : decode cX5_unknownsBelow 2 = .ok (.iconst 0, 1) := by decide +kernel
theorem dX5_unknownsBelow_3 : decode cX5_unknownsBelow 3 = .ok (.istore_n 3, 1) := by decide +kernel
theorem dX5_unknownsBelow_4 : decode cX5_unknownsBelow 4 = .ok (.iload_n 3, 1) := by decide +kernel
theorem dX5_unknownsBelow_5 : decode cX5_unknownsBelow 5 = .ok (.iload_n 1, 1) := by decide +kernel
theorem dX5_unknownsBelow_6 : decode cX5_unknownsBelow 6 = .ok (.if_icmp .ge 20, 3) := by decide +kernel
theorem dX5_unknownsBelow_9 : decode cX5_unknownsBelow 9 = .ok (.aload_n 0, 1) := by decide +kernel
theorem dX5_unknownsBelow_10 : decode cX5_unknownsBelow 10 = .ok (.iload_n 3, 1) := by decide +kernel
theorem dX5_unknownsBelow_11 : decode cX5_unknownsBelow 11 = .ok (.invokevirtual 67, 3) := by decide +kernel
theorem dX5_unknownsBelow_14 : decode cX5_unknownsBelow 14 = .ok (.ifCond .eq 6, 3) := by decide +kernel
theorem dX5_unknownsBelow_17 : decode cX5_unknownsBelow 17 = .ok (.iinc 2 1, 3) := by decide +kernel
theorem dX5_unknownsBelow_20 : decode cX5_unknownsBelow 20 = .ok (.iinc 3 1, 3) := by decide +kernel
theorem dX5_unknownsBelow_23 : decode cX5_unknownsBelow 23 = .ok (.goto (-19), 3) := by decide +kernel
theorem dX5_unknownsBelow_26 : decode cX5_unknownsBelow 26 = .ok (.iload_n 2, 1) := by decide +kernel
theorem dX5_unknownsBelow_27 : decode cX5_unknownsBelow 27 = .ok (.ireturn, 1) := by decide +kernel
theorem dX6_init_0 : decode cX6_init 0 = .ok (.aload_n 0, 1) := by decide +kernel
theorem dX6_init_1 : decode cX6_init 1 = .ok (.invokespecial 3, 3) := by decide +kernel
theorem dX6_init_4 : decode cX6_init 4 = .ok (.aload_n 0, 1) := by decide +kernel
theorem dX6_init_5 : decode cX6_init 5 = .ok (.bipush 36, 2) := by decide +kernel
theorem dX6_init_7 : decode cX6_init 7 = .ok (.newarray .int, 2) := by decide +kernel
theorem dX6_init_9 : decode cX6_init 9 = .ok (.putfield 9, 3) := by decide +kernel
theorem dX6_init_12 : decode cX6_init 12 = .ok (.aload_n 0, 1) := by decide +kernel
theorem dX6_init_13 : decode cX6_init 13 = .ok (.iconst 0, 1) := by decide +kernel
theorem dX6_init_14 : decode cX6_init 14 = .ok (.putfield 15, 3) := by decide +kernel
theorem dX6_init_17 : decode cX6_init 17 = .ok (.aload_n 0, 1) := by decide +kernel
theorem dX6_init_18 : decode cX6_init 18 = .ok (.iconst 3, 1) := by decide +kernel
theorem dX6_init_19 : decode cX6_init 19 = .ok (.newarray .int, 2) := by decide +kernel
theorem dX6_init_21 : decode cX6_init 21 = .ok (.putfield 19, 3) := by decide +kernel
theorem dX6_init_24 : decode cX6_init 24 = .ok (.aload_n 0, 1) := by decide +kernel
theorem dX6_init_25 : decode cX6_init 25 = .ok (.iconst 3, 1) := by decide +kernel
theorem dX6_init_26 : decode cX6_init 26 = .ok (.newarray .int, 2) := by decide +kernel
theorem dX6_init_28 : decode cX6_init 28 = .ok (.putfield 22, 3) := by decide +kernel
theorem dX6_init_31 : decode cX6_init 31 = .ok (.aload_n 0, 1) := by decide +kernel
theorem dX6_init_32 : decode cX6_init 32 = .ok (.sipush 192, 3) := by decide +kernel
theorem dX6_init_35 : decode cX6_init 35 = .ok (.newarray .int, 2) := by decide +kernel
theorem dX6_init_37 : decode cX6_init 37 = .ok (.putfield 25, 3) := by decide +kernel
theorem dX6_init_40 : decode cX6_init 40 = .ok (.aload_n 0, 1) := by decide +kernel
theorem dX6_init_41 : decode cX6_init 41 = .ok (.aload_n 1, 1) := by decide +kernel
theorem dX6_init_42 : decode cX6_init 42 = .ok (.putfield 28, 3) := by decide +kernel
theorem dX6_init_45 : decode cX6_init 45 = .ok (.aload_n 0, 1) := by decide +kernel
theorem dX6_init_46 : decode cX6_init 46 = .ok (.new 32, 3) := by decide +kernel
theorem dX6_init_49 : decode cX6_init 49 = .ok (.dup, 1) := by decide +kernel
theorem dX6_init_50 : decode cX6_init 50 = .ok (.aload_n 1, 1) := by decide +kernel
theorem dX6_init_51 : decode cX6_init 51 = .ok (.invokespecial 34, 3) := by decide +kernel
theorem dX6_init_54 : decode cX6_init 54 = .ok (.putfield 37, 3) := by decide +kernel
theorem dX6_init_57 : decode cX6_init 57 = .ok (.return_, 1) := by decide +kernel
theorem dX6_fewest_0 : decode cX6_fewest 0 = .ok (.aload_n 0, 1) := by decide +kernel
theorem dX6_fewest_1 : decode cX6_fewest 1 = .ok (.getfield 28, 3) := by decide +kernel
theorem dX6_fewest_4 : decode cX6_fewest 4 = .ok (.aload_n 1, 1) := by decide +kernel
theorem dX6_fewest_5 : decode cX6_fewest 5 = .ok (.iload 4, 2) := by decide +kernel
theorem dX6_fewest_7 : decode cX6_fewest 7 = .ok (.iload 5, 2) := by decide +kernel
theorem dX6_fewest_9 : decode cX6_fewest 9 = .ok (.iload 7, 2) := by decide +kernel
theorem dX6_fewest_11 : decode cX6_fewest 11 = .ok (.invokevirtual 41, 3) := by decide +kernel
theorem dX6_fewest_14 : decode cX6_fewest 14 = .ok (.iload 6, 2) := by decide +kernel
theorem dX6_fewest_16 : decode cX6_fewest 16 = .ok (.if_icmp .ne 5, 3) := by decide +kernel
theorem dX6_fewest_19 : decode cX6_fewest 19 = .ok (.iconst 0, 1) := by decide +kernel
theorem dX6_fewest_20 : decode cX6_fewest 20 = .ok (.ireturn, 1) := by decide +kernel
theorem dX6_fewest_21 : decode cX6_fewest 21 = .ok (.aload_n 0, 1) := by decide +kernel
theorem dX6_fewest_22 : decode cX6_fewest 22 = .ok (.getfield 28, 3) := by decide +kernel
theorem dX6_fewest_25 : decode cX6_fewest 25 = .ok (.invokevirtual 47, 3) := by decide +kernel
theorem dX6_fewest_28 : decode cX6_fewest 28 = .ok (.iload_n 2, 1) := by decide +kernel
theorem dX6_fewest_29 : decode cX6_fewest 29 = .ok (.if_icmp .eq 6, 3) := by decide +kernel
theorem dX6_fewest_32 : decode cX6_fewest 32 = .ok (.bipush (-2), 2) := by decide +kernel
theorem dX6_fewest_34 : decode cX6_fewest 34 = .ok (.ireturn, 1) := by decide +kernel
theorem dX6_fewest_35 : decode cX6_fewest 35 = .ok (.aload_n 0, 1) := by decide +kernel
theorem dX6_fewest_36 : decode cX6_fewest 36 = .ok (.iload_n 3, 1) := by decide +kernel
theorem dX6_fewest_37 : decode cX6_fewest 37 = .ok (.invokevirtual 51, 3) := by decide +kernel
theorem dX6_fewest_40 : decode cX6_fewest 40 = .ok (.iconst 1, 1) := by decide +kernel
theorem dX6_fewest_41 : decode cX6_fewest 41 = .ok (.istore 8, 2) := by decide +kernel
theorem dX6_fewest_43 : decode cX6_fewest 43 = .ok (.iload 8, 2) := by decide +kernel
theorem dX6_fewest_45 : decode cX6_fewest 45 = .ok (.iconst 3, 1) := by decide +kernel
theorem dX6_fewest_46 : decode cX6_fewest 46 = .ok (.if_icmp .gt 35, 3) := by decide +kernel
theorem dX6_fewest_49 : decode cX6_fewest 49 = .ok (.iload 8, 2) := by decide +kernel
theorem dX6_fewest_51 : decode cX6_fewest 51 = .ok (.aload_n 0, 1) := by decide +kernel
theorem dX6_fewest_52 : decode cX6_fewest 52 = .ok (.getfield 15, 3) := by decide +kernel
theorem dX6_fewest_55 : decode cX6_fewest 55 = .ok (.if_icmp .gt 26, 3) := by decide +kernel
theorem dX6_fewest_58 : decode cX6_fewest 58 = .ok (.aload_n 0, 1) := by decide +kernel
theorem dX6_fewest_59 : decode cX6_fewest 59 = .ok (.iload 8, 2) := by decide +kernel
theorem dX6_fewest_61 : decode cX6_fewest 61 = .ok (.iload_n 3, 1) := by decide +kernel
theorem dX6_fewest_62 : decode cX6_fewest 62 = .ok (.iload 5, 2) := by decide +kernel
theorem dX6_fewest_64 : decode cX6_fewest 64 = .ok (.iload 6, 2) := by decide +kernel
theorem dX6_fewest_66 : decode cX6_fewest 66 = .ok (.invokevirtual 55, 3) := by decide +kernel
theorem dX6_fewest_69 : decode cX6_fewest 69 = .ok (.ifCond .eq 6, 3) := by decide +kernel
theorem dX6_fewest_72 : decode cX6_fewest 72 = .ok (.iload 8, 2) := by decide +kernel
theorem dX6_fewest_74 : decode cX6_fewest 74 = .ok (.ireturn, 1) := by decide +kernel
theorem dX6_fewest_75 : decode cX6_fewest 75 = .ok (.iinc 8 1, 3) := by decide +kernel
theorem dX6_fewest_78 : decode cX6_fewest 78 = .ok (.goto (-35), 3) := by decide +kernel
theorem dX6_fewest_81 : decode cX6_fewest 81 = .ok (.bipush (-2), 2) := by decide +kernel
theorem dX6_fewest_83 : decode cX6_fewest 83 = .ok (.ireturn, 1) := by decide +kernel
theorem dX6_listOpen_0 : decode cX6_listOpen 0 = .ok (.aload_n 0, 1) := by decide +kernel
theorem dX6_listOpen_1 : decode cX6_listOpen 1 = .ok (.iconst 0, 1) := by decide +kernel
theorem dX6_listOpen_2 : decode cX6_listOpen 2 = .ok (.putfield 15, 3) := by decide +kernel
theorem dX6_listOpen_5 : decode cX6_listOpen 5 = .ok (.iconst 0, 1) := by decide +kernel
theorem dX6_listOpen_6 : decode cX6_listOpen 6 = .ok (.istore_n 2, 1) := by decide +kernel
theorem dX6_listOpen_7 : decode cX6_listOpen 7 = .ok (.iload_n 2, 1) := by decide +kernel
theorem dX6_listOpen_8 : decode cX6_listOpen 8 = .ok (.bipush 6, 2) := by decide +kernel
theorem dX6_listOpen_10 : decode cX6_listOpen 10 = .ok (.if_icmp .ge 77, 3) := by decide +kernel
theorem dX6_listOpen_13 : decode cX6_listOpen 13 = .ok (.iconst 0, 1) := by decide +kernel
theorem dX6_listOpen_14 : decode cX6_listOpen 14 = .ok (.istore_n 3, 1) := by decide +kernel
theorem dX6_listOpen_15 : decode cX6_listOpen 15 = .ok (.iload_n 3, 1) := by decide +kernel
theorem dX6_listOpen_16 : decode cX6_listOpen 16 = .ok (.bipush 6, 2) := by decide +kernel
theorem dX6_listOpen_18 : decode cX6_listOpen 18 = .ok (.if_icmp .ge 63, 3) := by decide +kernel
theorem dX6_listOpen_21 : decode cX6_listOpen 21 = .ok (.bipush 6, 2) := by decide +kernel
theorem dX6_listOpen_23 : decode cX6_listOpen 23 = .ok (.iload_n 3, 1) := by decide +kernel
theorem dX6_listOpen_24 : decode cX6_listOpen 24 = .ok (.imul, 1) := by decide +kernel
theorem dX6_listOpen_25 : decode cX6_listOpen 25 = .ok (.iload_n 2, 1) := by decide +kernel
theorem dX6_listOpen_26 : decode cX6_listOpen 26 = .ok (.iadd, 1) := by decide +kernel
theorem dX6_listOpen_27 : decode cX6_listOpen 27 = .ok (.istore 4, 2) := by decide +kernel
theorem dX6_listOpen_29 : decode cX6_listOpen 29 = .ok (.aload_n 0, 1) := by decide +kernel
theorem dX6_listOpen_30 : decode cX6_listOpen 30 = .ok (.getfield 28, 3) := by decide +kernel
theorem dX6_listOpen_33 : decode cX6_listOpen 33 = .ok (.iload 4, 2) := by decide +kernel
theorem dX6_listOpen_35 : decode cX6_listOpen 35 = .ok (.invokevirtual 59, 3) := by decide +kernel
theorem dX6_listOpen_38 : decode cX6_listOpen 38 = .ok (.ifCond .eq 37, 3) := by decide +kernel
theorem dX6_listOpen_41 : decode cX6_listOpen 41 = .ok (.aload_n 0, 1) := by decide +kernel
theorem dX6_listOpen_42 : decode cX6_listOpen 42 = .ok (.getfield 28, 3) := by decide +kernel
theorem dX6_listOpen_45 : decode cX6_listOpen 45 = .ok (.iload 4, 2) := by decide +kernel
theorem dX6_listOpen_47 : decode cX6_listOpen 47 = .ok (.invokevirtual 63, 3) := by decide +kernel
theorem dX6_listOpen_50 : decode cX6_listOpen 50 = .ok (.iload_n 1, 1) := by decide +kernel
theorem dX6_listOpen_51 : decode cX6_listOpen 51 = .ok (.if_icmp .eq 24, 3) := by decide +kernel
theorem dX6_listOpen_54 : decode cX6_listOpen 54 = .ok (.aload_n 0, 1) := by decide +kernel
theorem dX6_listOpen_55 : decode cX6_listOpen 55 = .ok (.getfield 9, 3) := by decide +kernel
theorem dX6_listOpen_58 : decode cX6_listOpen 58 = .ok (.aload_n 0, 1) := by decide +kernel
theorem dX6_listOpen_59 : decode cX6_listOpen 59 = .ok (.getfield 15, 3) := by decide +kernel
theorem dX6_listOpen_62 : decode cX6_listOpen 62 = .ok (.iload 4, 2) := by decide +kernel
theorem dX6_listOpen_64 : decode cX6_listOpen 64 = .ok (.iastore, 1) := by decide +kernel
theorem dX6_listOpen_65 : decode cX6_listOpen 65 = .ok (.aload_n 0, 1) := by decide +kernel
theorem dX6_listOpen_66 : decode cX6_listOpen 66 = .ok (.dup, 1) := by decide +kernel
theorem dX6_listOpen_67 : decode cX6_listOpen 67 = .ok (.getfield 15, 3) := by decide +kernel
theorem dX6_listOpen_70 : decode cX6_listOpen 70 = .ok (.iconst 1, 1) := by decide +kernel
theorem dX6_listOpen_71 : decode cX6_listOpen 71 = .ok (.iadd, 1) := by decide +kernel
theorem dX6_listOpen_72 : decode cX6_listOpen 72 = .ok (.putfield 15, 3) := by decide +kernel
theorem dX6_listOpen_75 : decode cX6_listOpen 75 = .ok (.iinc 3 1, 3) := by decide +kernel
theorem dX6_listOpen_78 : decode cX6_listOpen 78 = .ok (.goto (-63), 3) := by decide +kernel
theorem dX6_listOpen_81 : decode cX6_listOpen 81 = .ok (.iinc 2 1, 3) := by decide +kernel
theorem dX6_listOpen_84 : decode cX6_listOpen 84 = .ok (.goto (-77), 3) := by decide +kernel
theorem dX6_listOpen_87 : decode cX6_listOpen 87 = .ok (.return_, 1) := by decide +kernel
theorem dX6_find_0 : decode cX6_find 0 = .ok (.iconst 0, 1) := by decide +kernel
theorem dX6_find_1 : decode cX6_find 1 = .ok (.istore 5, 2) := by decide +kernel
theorem dX6_find_3 : decode cX6_find 3 = .ok (.iload 5, 2) := by decide +kernel
theorem dX6_find_5 : decode cX6_find 5 = .ok (.iload_n 1, 1) := by decide +kernel
theorem dX6_find_6 : decode cX6_find 6 = .ok (.if_icmp .ge 18, 3) := by decide +kernel
theorem dX6_find_9 : decode cX6_find 9 = .ok (.aload_n 0, 1) := by decide +kernel
theorem dX6_find_10 : decode cX6_find 10 = .ok (.getfield 22, 3) := by decide +kernel
theorem dX6_find_13 : decode cX6_find 13 = .ok (.iload 5, 2) := by decide +kernel
theorem dX6_find_15 : decode cX6_find 15 = .ok (.iload 5, 2) := by decide +kernel
theorem dX6_find_17 : decode cX6_find 17 = .ok (.iastore, 1) := by decide +kernel
theorem dX6_find_18 : decode cX6_find 18 = .ok (.iinc 5 1, 3) := by decide +kernel
theorem dX6_find_21 : decode cX6_find 21 = .ok (.goto (-18), 3) := by decide +kernel
theorem dX6_find_24 : decode cX6_find 24 = .ok (.iconst 1, 1) := by decide +kernel
theorem dX6_find_25 : decode cX6_find 25 = .ok (.istore 5, 2) := by decide +kernel
theorem dX6_find_27 : decode cX6_find 27 = .ok (.iconst 0, 1) := by decide +kernel
theorem dX6_find_28 : decode cX6_find 28 = .ok (.istore 6, 2) := by decide +kernel
theorem dX6_find_30 : decode cX6_find 30 = .ok (.iload 6, 2) := by decide +kernel
theorem dX6_find_32 : decode cX6_find 32 = .ok (.sipush 200, 3) := by decide +kernel
theorem dX6_find_35 : decode cX6_find 35 = .ok (.if_icmp .ge 77, 3) := by decide +kernel
theorem dX6_find_38 : decode cX6_find 38 = .ok (.iload 5, 2) := by decide +kernel
theorem dX6_find_40 : decode cX6_find 40 = .ok (.ifCond .eq 72, 3) := by decide +kernel
theorem dX6_find_43 : decode cX6_find 43 = .ok (.aload_n 0, 1) := by decide +kernel
theorem dX6_find_44 : decode cX6_find 44 = .ok (.getfield 37, 3) := by decide +kernel
theorem dX6_find_47 : decode cX6_find 47 = .ok (.invokevirtual 67, 3) := by decide +kernel
theorem dX6_find_50 : decode cX6_find 50 = .ok (.iconst 0, 1) := by decide +kernel
theorem dX6_find_51 : decode cX6_find 51 = .ok (.istore 7, 2) := by decide +kernel
theorem dX6_find_53 : decode cX6_find 53 = .ok (.iload 7, 2) := by decide +kernel
theorem dX6_find_55 : decode cX6_find 55 = .ok (.bipush 64, 2) := by decide +kernel
theorem dX6_find_57 : decode cX6_find 57 = .ok (.if_icmp .ge 29, 3) := by decide +kernel
theorem dX6_find_60 : decode cX6_find 60 = .ok (.iload 5, 2) := by decide +kernel
theorem dX6_find_62 : decode cX6_find 62 = .ok (.ifCond .eq 24, 3) := by decide +kernel
theorem dX6_find_65 : decode cX6_find 65 = .ok (.aload_n 0, 1) := by decide +kernel
theorem dX6_find_66 : decode cX6_find 66 = .ok (.iload 7, 2) := by decide +kernel
theorem dX6_find_68 : decode cX6_find 68 = .ok (.iload_n 1, 1) := by decide +kernel
theorem dX6_find_69 : decode cX6_find 69 = .ok (.iload_n 2, 1) := by decide +kernel
theorem dX6_find_70 : decode cX6_find 70 = .ok (.invokevirtual 70, 3) := by decide +kernel
theorem dX6_find_73 : decode cX6_find 73 = .ok (.aload_n 0, 1) := by decide +kernel
theorem dX6_find_74 : decode cX6_find 74 = .ok (.iload_n 1, 1) := by decide +kernel
theorem dX6_find_75 : decode cX6_find 75 = .ok (.invokevirtual 74, 3) := by decide +kernel
theorem dX6_find_78 : decode cX6_find 78 = .ok (.istore 5, 2) := by decide +kernel
theorem dX6_find_80 : decode cX6_find 80 = .ok (.iinc 7 1, 3) := by decide +kernel
theorem dX6_find_83 : decode cX6_find 83 = .ok (.goto (-30), 3) := by decide +kernel
theorem dX6_find_86 : decode cX6_find 86 = .ok (.aload_n 0, 1) := by decide +kernel
theorem dX6_find_87 : decode cX6_find 87 = .ok (.aload_n 0, 1) := by decide +kernel
theorem dX6_find_88 : decode cX6_find 88 = .ok (.getfield 37, 3) := by decide +kernel
theorem dX6_find_91 : decode cX6_find 91 = .ok (.iload_n 3, 1) := by decide +kernel
theorem dX6_find_92 : decode cX6_find 92 = .ok (.iload 4, 2) := by decide +kernel
theorem dX6_find_94 : decode cX6_find 94 = .ok (.invokevirtual 77, 3) := by decide +kernel
theorem dX6_find_97 : decode cX6_find 97 = .ok (.iload_n 1, 1) := by decide +kernel
theorem dX6_find_98 : decode cX6_find 98 = .ok (.invokevirtual 81, 3) := by decide +kernel
theorem dX6_find_101 : decode cX6_find 101 = .ok (.ifCond .eq 5, 3) := by decide +kernel
theorem dX6_find_104 : decode cX6_find 104 = .ok (.iconst 1, 1) := by decide +kernel
theorem dX6_find_105 : decode cX6_find 105 = .ok (.ireturn, 1) := by decide +kernel
theorem dX6_find_106 : decode cX6_find 106 = .ok (.iinc 6 1, 3) := by decide +kernel
theorem dX6_find_109 : decode cX6_find 109 = .ok (.goto (-79), 3) := by decide +kernel
theorem dX6_find_112 : decode cX6_find 112 = .ok (.iconst 0, 1) := by decide +kernel
theorem dX6_find_113 : decode cX6_find 113 = .ok (.ireturn, 1) := by decide +kernel
theorem dX6_tryPick_0 : decode cX6_tryPick 0 = .ok (.iconst 0, 1) := by decide +kernel
theorem dX6_tryPick_1 : decode cX6_tryPick 1 = .ok (.istore 4, 2) := by decide +kernel
theorem dX6_tryPick_3 : decode cX6_tryPick 3 = .ok (.iload 4, 2) := by decide +kernel
theorem dX6_tryPick_5 : decode cX6_tryPick 5 = .ok (.iload_n 2, 1) := by decide +kernel
theorem dX6_tryPick_6 : decode cX6_tryPick 6 = .ok (.if_icmp .ge 47, 3) := by decide +kernel
theorem dX6_tryPick_9 : decode cX6_tryPick 9 = .ok (.aload_n 0, 1) := by decide +kernel
theorem dX6_tryPick_10 : decode cX6_tryPick 10 = .ok (.getfield 9, 3) := by decide +kernel
theorem dX6_tryPick_13 : decode cX6_tryPick 13 = .ok (.aload_n 0, 1) := by decide +kernel
theorem dX6_tryPick_14 : decode cX6_tryPick 14 = .ok (.getfield 22, 3) := by decide +kernel
theorem dX6_tryPick_17 : decode cX6_tryPick 17 = .ok (.iload 4, 2) := by decide +kernel
theorem dX6_tryPick_19 : decode cX6_tryPick 19 = .ok (.iaload, 1) := by decide +kernel
theorem dX6_tryPick_20 : decode cX6_tryPick 20 = .ok (.iaload, 1) := by decide +kernel
theorem dX6_tryPick_21 : decode cX6_tryPick 21 = .ok (.istore 5, 2) := by decide +kernel
theorem dX6_tryPick_23 : decode cX6_tryPick 23 = .ok (.aload_n 0, 1) := by decide +kernel
theorem dX6_tryPick_24 : decode cX6_tryPick 24 = .ok (.getfield 37, 3) := by decide +kernel
theorem dX6_tryPick_27 : decode cX6_tryPick 27 = .ok (.iload_n 1, 1) := by decide +kernel
theorem dX6_tryPick_28 : decode cX6_tryPick 28 = .ok (.iload 5, 2) := by decide +kernel
theorem dX6_tryPick_30 : decode cX6_tryPick 30 = .ok (.iload_n 3, 1) := by decide +kernel
theorem dX6_tryPick_31 : decode cX6_tryPick 31 = .ok (.invokevirtual 85, 3) := by decide +kernel
theorem dX6_tryPick_34 : decode cX6_tryPick 34 = .ok (.aload_n 0, 1) := by decide +kernel
theorem dX6_tryPick_35 : decode cX6_tryPick 35 = .ok (.getfield 25, 3) := by decide +kernel
theorem dX6_tryPick_38 : decode cX6_tryPick 38 = .ok (.iconst 3, 1) := by decide +kernel
theorem dX6_tryPick_39 : decode cX6_tryPick 39 = .ok (.iload_n 1, 1) := by decide +kernel
theorem dX6_tryPick_40 : decode cX6_tryPick 40 = .ok (.imul, 1) := by decide +kernel
theorem dX6_tryPick_41 : decode cX6_tryPick 41 = .ok (.iload 4, 2) := by decide +kernel
theorem dX6_tryPick_43 : decode cX6_tryPick 43 = .ok (.iadd, 1) := by decide +kernel
theorem dX6_tryPick_44 : decode cX6_tryPick 44 = .ok (.iload 5, 2) := by decide +kernel
theorem dX6_tryPick_46 : decode cX6_tryPick 46 = .ok (.iastore, 1) := by decide +kernel
theorem dX6_tryPick_47 : decode cX6_tryPick 47 = .ok (.iinc 4 1, 3) := by decide +kernel
theorem dX6_tryPick_50 : decode cX6_tryPick 50 = .ok (.goto (-47), 3) := by decide +kernel
theorem dX6_tryPick_53 : decode cX6_tryPick 53 = .ok (.return_, 1) := by decide +kernel
theorem dX6_goToNextPick_0 : decode cX6_goToNextPick 0 = .ok (.iload_n 1, 1) := by decide +kernel
theorem dX6_goToNextPick_1 : decode cX6_goToNextPick 1 = .ok (.iconst 1, 1) := by decide +kernel
theorem dX6_goToNextPick_2 : decode cX6_goToNextPick 2 = .ok (.isub, 1) := by decide +kernel
theorem dX6_goToNextPick_3 : decode cX6_goToNextPick 3 = .ok (.istore_n 2, 1) := by decide +kernel
theorem dX6_goToNextPick_4 : decode cX6_goToNextPick 4 = .ok (.iload_n 2, 1) := by decide +kernel
theorem dX6_goToNextPick_5 : decode cX6_goToNextPick 5 = .ok (.ifCond .lt 69, 3) := by decide +kernel
theorem dX6_goToNextPick_8 : decode cX6_goToNextPick 8 = .ok (.aload_n 0, 1) := by decide +kernel
theorem dX6_goToNextPick_9 : decode cX6_goToNextPick 9 = .ok (.getfield 22, 3) := by decide +kernel
theorem dX6_goToNextPick_12 : decode cX6_goToNextPick 12 = .ok (.iload_n 2, 1) := by decide +kernel
theorem dX6_goToNextPick_13 : decode cX6_goToNextPick 13 = .ok (.iaload, 1) := by decide +kernel
theorem dX6_goToNextPick_14 : decode cX6_goToNextPick 14 = .ok (.aload_n 0, 1) := by decide +kernel
theorem dX6_goToNextPick_15 : decode cX6_goToNextPick 15 = .ok (.getfield 15, 3) := by decide +kernel
theorem dX6_goToNextPick_18 : decode cX6_goToNextPick 18 = .ok (.iload_n 1, 1) := by decide +kernel
theorem dX6_goToNextPick_19 : decode cX6_goToNextPick 19 = .ok (.isub, 1) := by decide +kernel
theorem dX6_goToNextPick_20 : decode cX6_goToNextPick 20 = .ok (.iload_n 2, 1) := by decide +kernel
theorem dX6_goToNextPick_21 : decode cX6_goToNextPick 21 = .ok (.iadd, 1) := by decide +kernel
theorem dX6_goToNextPick_22 : decode cX6_goToNextPick 22 = .ok (.if_icmp .ge 46, 3) := by decide +kernel
theorem dX6_goToNextPick_25 : decode cX6_goToNextPick 25 = .ok (.aload_n 0, 1) := by decide +kernel
theorem dX6_goToNextPick_26 : decode cX6_goToNextPick 26 = .ok (.getfield 22, 3) := by decide +kernel
theorem dX6_goToNextPick_29 : decode cX6_goToNextPick 29 = .ok (.iload_n 2, 1) := by decide +kernel
theorem dX6_goToNextPick_30 : decode cX6_goToNextPick 30 = .ok (.dup2, 1) := by decide +kernel
theorem dX6_goToNextPick_31 : decode cX6_goToNextPick 31 = .ok (.iaload, 1) := by decide +kernel
theorem dX6_goToNextPick_32 : decode cX6_goToNextPick 32 = .ok (.iconst 1, 1) := by decide +kernel
theorem dX6_goToNextPick_33 : decode cX6_goToNextPick 33 = .ok (.iadd, 1) := by decide +kernel
theorem dX6_goToNextPick_34 : decode cX6_goToNextPick 34 = .ok (.iastore, 1) := by decide +kernel
theorem dX6_goToNextPick_35 : decode cX6_goToNextPick 35 = .ok (.iload_n 2, 1) := by decide +kernel
theorem dX6_goToNextPick_36 : decode cX6_goToNextPick 36 = .ok (.iconst 1, 1) := by decide +kernel
theorem dX6_goToNextPick_37 : decode cX6_goToNextPick 37 = .ok (.iadd, 1) := by decide +kernel
theorem dX6_goToNextPick_38 : decode cX6_goToNextPick 38 = .ok (.istore_n 3, 1) := by decide +kernel
theorem dX6_goToNextPick_39 : decode cX6_goToNextPick 39 = .ok (.iload_n 3, 1) := by decide +kernel
theorem dX6_goToNextPick_40 : decode cX6_goToNextPick 40 = .ok (.iload_n 1, 1) := by decide +kernel
theorem dX6_goToNextPick_41 : decode cX6_goToNextPick 41 = .ok (.if_icmp .ge 25, 3) := by decide +kernel
theorem dX6_goToNextPick_44 : decode cX6_goToNextPick 44 = .ok (.aload_n 0, 1) := by decide +kernel
theorem dX6_goToNextPick_45 : decode cX6_goToNextPick 45 = .ok (.getfield 22, 3) := by decide +kernel
theorem dX6_goToNextPick_48 : decode cX6_goToNextPick 48 = .ok (.iload_n 3, 1) := by decide +kernel
theorem dX6_goToNextPick_49 : decode cX6_goToNextPick 49 = .ok (.aload_n 0, 1) := by decide +kernel
theorem dX6_goToNextPick_50 : decode cX6_goToNextPick 50 = .ok (.getfield 22, 3) := by decide +kernel
theorem dX6_goToNextPick_53 : decode cX6_goToNextPick 53 = .ok (.iload_n 3, 1) := by decide +kernel
theorem dX6_goToNextPick_54 : decode cX6_goToNextPick 54 = .ok (.iconst 1, 1) := by decide +kernel
theorem dX6_goToNextPick_55 : decode cX6_goToNextPick 55 = .ok (.isub, 1) := by decide +kernel
theorem dX6_goToNextPick_56 : decode cX6_goToNextPick 56 = .ok (.iaload, 1) := by decide +kernel
theorem dX6_goToNextPick_57 : decode cX6_goToNextPick 57 = .ok (.iconst 1, 1) := by decide +kernel
theorem dX6_goToNextPick_58 : decode cX6_goToNextPick 58 = .ok (.iadd, 1) := by decide +kernel
theorem dX6_goToNextPick_59 : decode cX6_goToNextPick 59 = .ok (.iastore, 1) := by decide +kernel
theorem dX6_goToNextPick_60 : decode cX6_goToNextPick 60 = .ok (.iinc 3 1, 3) := by decide +kernel
theorem dX6_goToNextPick_63 : decode cX6_goToNextPick 63 = .ok (.goto (-24), 3) := by decide +kernel
theorem dX6_goToNextPick_66 : decode cX6_goToNextPick 66 = .ok (.iconst 1, 1) := by decide +kernel
theorem dX6_goToNextPick_67 : decode cX6_goToNextPick 67 = .ok (.ireturn, 1) := by decide +kernel
theorem dX6_goToNextPick_68 : decode cX6_goToNextPick 68 = .ok (.iinc 2 (-1), 3) := by decide +kernel
theorem dX6_goToNextPick_71 : decode cX6_goToNextPick 71 = .ok (.goto (-67), 3) := by decide +kernel
theorem dX6_goToNextPick_74 : decode cX6_goToNextPick 74 = .ok (.iconst 0, 1) := by decide +kernel
theorem dX6_goToNextPick_75 : decode cX6_goToNextPick 75 = .ok (.ireturn, 1) := by decide +kernel
theorem dX6_takeFirst_0 : decode cX6_takeFirst 0 = .ok (.iconst 0, 1) := by decide +kernel
theorem dX6_takeFirst_1 : decode cX6_takeFirst 1 = .ok (.istore 4, 2) := by decide +kernel
theorem dX6_takeFirst_3 : decode cX6_takeFirst 3 = .ok (.iload 4, 2) := by decide +kernel
theorem dX6_takeFirst_5 : decode cX6_takeFirst 5 = .ok (.bipush 64, 2) := by decide +kernel
theorem dX6_takeFirst_7 : decode cX6_takeFirst 7 = .ok (.if_icmp .ge 39, 3) := by decide +kernel
theorem dX6_takeFirst_10 : decode cX6_takeFirst 10 = .ok (.lload_n 1, 1) := by decide +kernel
theorem dX6_takeFirst_11 : decode cX6_takeFirst 11 = .ok (.iload 4, 2) := by decide +kernel
theorem dX6_takeFirst_13 : decode cX6_takeFirst 13 = .ok (.lushr, 1) := by decide +kernel
theorem dX6_takeFirst_14 : decode cX6_takeFirst 14 = .ok (.lconst 1, 1) := by decide +kernel
theorem dX6_takeFirst_15 : decode cX6_takeFirst 15 = .ok (.land, 1) := by decide +kernel
theorem dX6_takeFirst_16 : decode cX6_takeFirst 16 = .ok (.lconst 0, 1) := by decide +kernel
theorem dX6_takeFirst_17 : decode cX6_takeFirst 17 = .ok (.lcmp, 1) := by decide +kernel
theorem dX6_takeFirst_18 : decode cX6_takeFirst 18 = .ok (.ifCond .eq 22, 3) := by decide +kernel
theorem dX6_takeFirst_21 : decode cX6_takeFirst 21 = .ok (.aload_n 0, 1) := by decide +kernel
theorem dX6_takeFirst_22 : decode cX6_takeFirst 22 = .ok (.getfield 25, 3) := by decide +kernel
theorem dX6_takeFirst_25 : decode cX6_takeFirst 25 = .ok (.iconst 3, 1) := by decide +kernel
theorem dX6_takeFirst_26 : decode cX6_takeFirst 26 = .ok (.iload 4, 2) := by decide +kernel
theorem dX6_takeFirst_28 : decode cX6_takeFirst 28 = .ok (.imul, 1) := by decide +kernel
theorem dX6_takeFirst_29 : decode cX6_takeFirst 29 = .ok (.aload_n 0, 1) := by decide +kernel
theorem dX6_takeFirst_30 : decode cX6_takeFirst 30 = .ok (.getfield 19, 3) := by decide +kernel
theorem dX6_takeFirst_33 : decode cX6_takeFirst 33 = .ok (.iconst 0, 1) := by decide +kernel
theorem dX6_takeFirst_34 : decode cX6_takeFirst 34 = .ok (.iload_n 3, 1) := by decide +kernel
theorem dX6_takeFirst_35 : decode cX6_takeFirst 35 = .ok (.invokestatic 88, 3) := by decide +kernel
theorem dX6_takeFirst_38 : decode cX6_takeFirst 38 = .ok (.iconst 1, 1) := by decide +kernel
theorem dX6_takeFirst_39 : decode cX6_takeFirst 39 = .ok (.ireturn, 1) := by decide +kernel
theorem dX6_takeFirst_40 : decode cX6_takeFirst 40 = .ok (.iinc 4 1, 3) := by decide +kernel
theorem dX6_takeFirst_43 : decode cX6_takeFirst 43 = .ok (.goto (-40), 3) := by decide +kernel
theorem dX6_takeFirst_46 : decode cX6_takeFirst 46 = .ok (.iconst 0, 1) := by decide +kernel
theorem dX6_takeFirst_47 : decode cX6_takeFirst 47 = .ok (.ireturn, 1) := by decide +kernel
theorem dX7_init_0 : decode cX7_init 0 = .ok (.aload_n 0, 1) := by decide +kernel
theorem dX7_init_1 : decode cX7_init 1 = .ok (.invokespecial 3, 3) := by decide +kernel
theorem dX7_init_4 : decode cX7_init 4 = .ok (.aload_n 0, 1) := by decide +kernel
theorem dX7_init_5 : decode cX7_init 5 = .ok (.bipush 108, 2) := by decide +kernel
theorem dX7_init_7 : decode cX7_init 7 = .ok (.newarray .long, 2) := by decide +kernel
theorem dX7_init_9 : decode cX7_init 9 = .ok (.putfield 11, 3) := by decide +kernel
theorem dX7_init_12 : decode cX7_init 12 = .ok (.aload_n 0, 1) := by decide +kernel
theorem dX7_init_13 : decode cX7_init 13 = .ok (.bipush 108, 2) := by decide +kernel
theorem dX7_init_15 : decode cX7_init 15 = .ok (.newarray .long, 2) := by decide +kernel
theorem dX7_init_17 : decode cX7_init 17 = .ok (.putfield 15, 3) := by decide +kernel
theorem dX7_init_20 : decode cX7_init 20 = .ok (.aload_n 0, 1) := by decide +kernel
theorem dX7_init_21 : decode cX7_init 21 = .ok (.bipush 36, 2) := by decide +kernel
theorem dX7_init_23 : decode cX7_init 23 = .ok (.newarray .long, 2) := by decide +kernel
theorem dX7_init_25 : decode cX7_init 25 = .ok (.putfield 18, 3) := by decide +kernel
theorem dX7_init_28 : decode cX7_init 28 = .ok (.aload_n 0, 1) := by decide +kernel
theorem dX7_init_29 : decode cX7_init 29 = .ok (.aload_n 1, 1) := by decide +kernel
theorem dX7_init_30 : decode cX7_init 30 = .ok (.putfield 21, 3) := by decide +kernel
theorem dX7_init_33 : decode cX7_init 33 = .ok (.return_, 1) := by decide +kernel
theorem dX7_begin_0 : decode cX7_begin 0 = .ok (.iconst 0, 1) := by decide +kernel
theorem dX7_begin_1 : decode cX7_begin 1 = .ok (.istore_n 1, 1) := by decide +kernel
theorem dX7_begin_2 : decode cX7_begin 2 = .ok (.iload_n 1, 1) := by decide +kernel
theorem dX7_begin_3 : decode cX7_begin 3 = .ok (.aload_n 0, 1) := by decide +kernel
theorem dX7_begin_4 : decode cX7_begin 4 = .ok (.getfield 21, 3) := by decide +kernel
theorem dX7_begin_7 : decode cX7_begin 7 = .ok (.getfield 25, 3) := by decide +kernel
theorem dX7_begin_10 : decode cX7_begin 10 = .ok (.aload_n 0, 1) := by decide +kernel
theorem dX7_begin_11 : decode cX7_begin 11 = .ok (.getfield 21, 3) := by decide +kernel
theorem dX7_begin_14 : decode cX7_begin 14 = .ok (.getfield 31, 3) := by decide +kernel
theorem dX7_begin_17 : decode cX7_begin 17 = .ok (.iaload, 1) := by decide +kernel
theorem dX7_begin_18 : decode cX7_begin 18 = .ok (.if_icmp .ge 49, 3) := by decide +kernel
theorem dX7_begin_21 : decode cX7_begin 21 = .ok (.aload_n 0, 1) := by decide +kernel
theorem dX7_begin_22 : decode cX7_begin 22 = .ok (.getfield 21, 3) := by decide +kernel
theorem dX7_begin_25 : decode cX7_begin 25 = .ok (.getfield 35, 3) := by decide +kernel
theorem dX7_begin_28 : decode cX7_begin 28 = .ok (.bipush 36, 2) := by decide +kernel
theorem dX7_begin_30 : decode cX7_begin 30 = .ok (.aload_n 0, 1) := by decide +kernel
theorem dX7_begin_31 : decode cX7_begin 31 = .ok (.getfield 21, 3) := by decide +kernel
theorem dX7_begin_34 : decode cX7_begin 34 = .ok (.getfield 31, 3) := by decide +kernel
theorem dX7_begin_37 : decode cX7_begin 37 = .ok (.imul, 1) := by decide +kernel
theorem dX7_begin_38 : decode cX7_begin 38 = .ok (.iload_n 1, 1) := by decide +kernel
theorem dX7_begin_39 : decode cX7_begin 39 = .ok (.iadd, 1) := by decide +kernel
theorem dX7_begin_40 : decode cX7_begin 40 = .ok (.iaload, 1) := by decide +kernel
theorem dX7_begin_41 : decode cX7_begin 41 = .ok (.istore_n 2, 1) := by decide +kernel
theorem dX7_begin_42 : decode cX7_begin 42 = .ok (.aload_n 0, 1) := by decide +kernel
theorem dX7_begin_43 : decode cX7_begin 43 = .ok (.getfield 11, 3) := by decide +kernel
theorem dX7_begin_46 : decode cX7_begin 46 = .ok (.iload_n 2, 1) := by decide +kernel
theorem dX7_begin_47 : decode cX7_begin 47 = .ok (.ldc2_w 38, 3) := by decide +kernel
theorem dX7_begin_50 : decode cX7_begin 50 = .ok (.aload_n 0, 1) := by decide +kernel
theorem dX7_begin_51 : decode cX7_begin 51 = .ok (.getfield 21, 3) := by decide +kernel
theorem dX7_begin_54 : decode cX7_begin 54 = .ok (.iload_n 2, 1) := by decide +kernel
theorem dX7_begin_55 : decode cX7_begin 55 = .ok (.invokevirtual 40, 3) := by decide +kernel
theorem dX7_begin_58 : decode cX7_begin 58 = .ok (.invokestatic 44, 3) := by decide +kernel
theorem dX7_begin_61 : decode cX7_begin 61 = .ok (.iinc 1 1, 3) := by decide +kernel
theorem dX7_begin_64 : decode cX7_begin 64 = .ok (.goto (-62), 3) := by decide +kernel
theorem dX7_begin_67 : decode cX7_begin 67 = .ok (.return_, 1) := by decide +kernel
theorem dX7_put_0 : decode cX7_put 0 = .ok (.aload_n 0, 1) := by decide +kernel
theorem dX7_put_1 : decode cX7_put 1 = .ok (.getfield 11, 3) := by decide +kernel
theorem dX7_put_4 : decode cX7_put 4 = .ok (.iload_n 2, 1) := by decide +kernel
theorem dX7_put_5 : decode cX7_put 5 = .ok (.lconst 1, 1) := by decide +kernel
theorem dX7_put_6 : decode cX7_put 6 = .ok (.iload_n 1, 1) := by decide +kernel
theorem dX7_put_7 : decode cX7_put 7 = .ok (.lshl, 1) := by decide +kernel
theorem dX7_put_8 : decode cX7_put 8 = .ok (.iload_n 3, 1) := by decide +kernel
theorem dX7_put_9 : decode cX7_put 9 = .ok (.invokestatic 44, 3) := by decide +kernel
theorem dX7_put_12 : decode cX7_put 12 = .ok (.return_, 1) := by decide +kernel
theorem dX7_having_0 : decode cX7_having 0 = .ok (.aload_n 0, 1) := by decide +kernel
theorem dX7_having_1 : decode cX7_having 1 = .ok (.getfield 21, 3) := by decide +kernel
theorem dX7_having_4 : decode cX7_having 4 = .ok (.getfield 31, 3) := by decide +kernel
theorem dX7_having_7 : decode cX7_having 7 = .ok (.iconst 1, 1) := by decide +kernel
theorem dX7_having_8 : decode cX7_having 8 = .ok (.iadd, 1) := by decide +kernel
theorem dX7_having_9 : decode cX7_having 9 = .ok (.istore_n 3, 1) := by decide +kernel
theorem dX7_having_10 : decode cX7_having 10 = .ok (.iload_n 3, 1) := by decide +kernel
theorem dX7_having_11 : decode cX7_having 11 = .ok (.aload_n 0, 1) := by decide +kernel
theorem dX7_having_12 : decode cX7_having 12 = .ok (.getfield 21, 3) := by decide +kernel
theorem dX7_having_15 : decode cX7_having 15 = .ok (.getfield 48, 3) := by decide +kernel
theorem dX7_having_18 : decode cX7_having 18 = .ok (.if_icmp .gt 34, 3) := by decide +kernel
theorem dX7_having_21 : decode cX7_having 21 = .ok (.aload_n 0, 1) := by decide +kernel
theorem dX7_having_22 : decode cX7_having 22 = .ok (.iload_n 3, 1) := by decide +kernel
theorem dX7_having_23 : decode cX7_having 23 = .ok (.invokevirtual 51, 3) := by decide +kernel
theorem dX7_having_26 : decode cX7_having 26 = .ok (.aload_n 0, 1) := by decide +kernel
theorem dX7_having_27 : decode cX7_having 27 = .ok (.getfield 15, 3) := by decide +kernel
theorem dX7_having_30 : decode cX7_having 30 = .ok (.astore 4, 2) := by decide +kernel
theorem dX7_having_32 : decode cX7_having 32 = .ok (.aload_n 0, 1) := by decide +kernel
theorem dX7_having_33 : decode cX7_having 33 = .ok (.aload_n 0, 1) := by decide +kernel
theorem dX7_having_34 : decode cX7_having 34 = .ok (.getfield 11, 3) := by decide +kernel
theorem dX7_having_37 : decode cX7_having 37 = .ok (.putfield 15, 3) := by decide +kernel
theorem dX7_having_40 : decode cX7_having 40 = .ok (.aload_n 0, 1) := by decide +kernel
theorem dX7_having_41 : decode cX7_having 41 = .ok (.aload 4, 2) := by decide +kernel
theorem dX7_having_43 : decode cX7_having 43 = .ok (.putfield 11, 3) := by decide +kernel
theorem dX7_having_46 : decode cX7_having 46 = .ok (.iinc 3 1, 3) := by decide +kernel
theorem dX7_having_49 : decode cX7_having 49 = .ok (.goto (-39), 3) := by decide +kernel
theorem dX7_having_52 : decode cX7_having 52 = .ok (.aload_n 0, 1) := by decide +kernel
theorem dX7_having_53 : decode cX7_having 53 = .ok (.iload_n 1, 1) := by decide +kernel
theorem dX7_having_54 : decode cX7_having 54 = .ok (.iload_n 2, 1) := by decide +kernel
theorem dX7_having_55 : decode cX7_having 55 = .ok (.invokevirtual 55, 3) := by decide +kernel
theorem dX7_having_58 : decode cX7_having 58 = .ok (.lreturn, 1) := by decide +kernel
theorem dX7_build_0 : decode cX7_build 0 = .ok (.iconst 4, 1) := by decide +kernel
theorem dX7_build_1 : decode cX7_build 1 = .ok (.aload_n 0, 1) := by decide +kernel
theorem dX7_build_2 : decode cX7_build 2 = .ok (.getfield 21, 3) := by decide +kernel
theorem dX7_build_5 : decode cX7_build 5 = .ok (.getfield 59, 3) := by decide +kernel
theorem dX7_build_8 : decode cX7_build 8 = .ok (.iload_n 1, 1) := by decide +kernel
theorem dX7_build_9 : decode cX7_build 9 = .ok (.iaload, 1) := by decide +kernel
theorem dX7_build_10 : decode cX7_build 10 = .ok (.imul, 1) := by decide +kernel
theorem dX7_build_11 : decode cX7_build 11 = .ok (.istore_n 2, 1) := by decide +kernel
theorem dX7_build_12 : decode cX7_build 12 = .ok (.aload_n 0, 1) := by decide +kernel
theorem dX7_build_13 : decode cX7_build 13 = .ok (.getfield 21, 3) := by decide +kernel
theorem dX7_build_16 : decode cX7_build 16 = .ok (.getfield 62, 3) := by decide +kernel
theorem dX7_build_19 : decode cX7_build 19 = .ok (.getfield 66, 3) := by decide +kernel
theorem dX7_build_22 : decode cX7_build 22 = .ok (.iload_n 2, 1) := by decide +kernel
theorem dX7_build_23 : decode cX7_build 23 = .ok (.iaload, 1) := by decide +kernel
theorem dX7_build_24 : decode cX7_build 24 = .ok (.istore_n 3, 1) := by decide +kernel
theorem dX7_build_25 : decode cX7_build 25 = .ok (.aload_n 0, 1) := by decide +kernel
theorem dX7_build_26 : decode cX7_build 26 = .ok (.getfield 21, 3) := by decide +kernel
theorem dX7_build_29 : decode cX7_build 29 = .ok (.getfield 62, 3) := by decide +kernel
theorem dX7_build_32 : decode cX7_build 32 = .ok (.getfield 66, 3) := by decide +kernel
theorem dX7_build_35 : decode cX7_build 35 = .ok (.iload_n 2, 1) := by decide +kernel
theorem dX7_build_36 : decode cX7_build 36 = .ok (.iconst 1, 1) := by decide +kernel
theorem dX7_build_37 : decode cX7_build 37 = .ok (.iadd, 1) := by decide +kernel
theorem dX7_build_38 : decode cX7_build 38 = .ok (.iaload, 1) := by decide +kernel
theorem dX7_build_39 : decode cX7_build 39 = .ok (.istore 4, 2) := by decide +kernel
theorem dX7_build_41 : decode cX7_build 41 = .ok (.iload_n 3, 1) := by decide +kernel
theorem dX7_build_42 : decode cX7_build 42 = .ok (.bipush 6, 2) := by decide +kernel
theorem dX7_build_44 : decode cX7_build 44 = .ok (.if_icmp .ne 12, 3) := by decide +kernel
theorem dX7_build_47 : decode cX7_build 47 = .ok (.aload_n 0, 1) := by decide +kernel
theorem dX7_build_48 : decode cX7_build 48 = .ok (.iload_n 1, 1) := by decide +kernel
theorem dX7_build_49 : decode cX7_build 49 = .ok (.iconst 1, 1) := by decide +kernel
theorem dX7_build_50 : decode cX7_build 50 = .ok (.isub, 1) := by decide +kernel
theorem dX7_build_51 : decode cX7_build 51 = .ok (.iload 4, 2) := by decide +kernel
theorem dX7_build_53 : decode cX7_build 53 = .ok (.invokevirtual 71, 3) := by decide +kernel
theorem dX7_build_56 : decode cX7_build 56 = .ok (.iconst 0, 1) := by decide +kernel
theorem dX7_build_57 : decode cX7_build 57 = .ok (.istore 5, 2) := by decide +kernel
theorem dX7_build_59 : decode cX7_build 59 = .ok (.iload 5, 2) := by decide +kernel
theorem dX7_build_61 : decode cX7_build 61 = .ok (.aload_n 0, 1) := by decide +kernel
theorem dX7_build_62 : decode cX7_build 62 = .ok (.getfield 21, 3) := by decide +kernel
theorem dX7_build_65 : decode cX7_build 65 = .ok (.getfield 25, 3) := by decide +kernel
theorem dX7_build_68 : decode cX7_build 68 = .ok (.iload_n 1, 1) := by decide +kernel
theorem dX7_build_69 : decode cX7_build 69 = .ok (.iaload, 1) := by decide +kernel
theorem dX7_build_70 : decode cX7_build 70 = .ok (.if_icmp .ge 193, 3) := by decide +kernel
theorem dX7_build_73 : decode cX7_build 73 = .ok (.aload_n 0, 1) := by decide +kernel
theorem dX7_build_74 : decode cX7_build 74 = .ok (.getfield 21, 3) := by decide +kernel
theorem dX7_build_77 : decode cX7_build 77 = .ok (.getfield 35, 3) := by decide +kernel
theorem dX7_build_80 : decode cX7_build 80 = .ok (.bipush 36, 2) := by decide +kernel
theorem dX7_build_82 : decode cX7_build 82 = .ok (.iload_n 1, 1) := by decide +kernel
theorem dX7_build_83 : decode cX7_build 83 = .ok (.imul, 1) := by decide +kernel
theorem dX7_build_84 : decode cX7_build 84 = .ok (.iload 5, 2) := by decide +kernel
theorem dX7_build_86 : decode cX7_build 86 = .ok (.iadd, 1) := by decide +kernel
theorem dX7_build_87 : decode cX7_build 87 = .ok (.iaload, 1) := by decide +kernel
theorem dX7_build_88 : decode cX7_build 88 = .ok (.istore 6, 2) := by decide +kernel
theorem dX7_build_90 : decode cX7_build 90 = .ok (.aload_n 0, 1) := by decide +kernel
theorem dX7_build_91 : decode cX7_build 91 = .ok (.getfield 21, 3) := by decide +kernel
theorem dX7_build_94 : decode cX7_build 94 = .ok (.iload_n 1, 1) := by decide +kernel
theorem dX7_build_95 : decode cX7_build 95 = .ok (.iload 6, 2) := by decide +kernel
theorem dX7_build_97 : decode cX7_build 97 = .ok (.invokevirtual 75, 3) := by decide +kernel
theorem dX7_build_100 : decode cX7_build 100 = .ok (.istore 7, 2) := by decide +kernel
theorem dX7_build_102 : decode cX7_build 102 = .ok (.iload 7, 2) := by decide +kernel
theorem dX7_build_104 : decode cX7_build 104 = .ok (.iconst (-1), 1) := by decide +kernel
theorem dX7_build_105 : decode cX7_build 105 = .ok (.if_icmp .ne 20, 3) := by decide +kernel
theorem dX7_build_108 : decode cX7_build 108 = .ok (.aload_n 0, 1) := by decide +kernel
theorem dX7_build_109 : decode cX7_build 109 = .ok (.getfield 15, 3) := by decide +kernel
theorem dX7_build_112 : decode cX7_build 112 = .ok (.iload 6, 2) := by decide +kernel
theorem dX7_build_114 : decode cX7_build 114 = .ok (.ldc2_w 38, 3) := by decide +kernel
theorem dX7_build_117 : decode cX7_build 117 = .ok (.iload 4, 2) := by decide +kernel
theorem dX7_build_119 : decode cX7_build 119 = .ok (.invokestatic 44, 3) := by decide +kernel
theorem dX7_build_122 : decode cX7_build 122 = .ok (.goto 23, 3) := by decide +kernel
theorem dX7_build_125 : decode cX7_build 125 = .ok (.aload_n 0, 1) := by decide +kernel
theorem dX7_build_126 : decode cX7_build 126 = .ok (.getfield 11, 3) := by decide +kernel
theorem dX7_build_129 : decode cX7_build 129 = .ok (.iconst 3, 1) := by decide +kernel
theorem dX7_build_130 : decode cX7_build 130 = .ok (.iload 7, 2) := by decide +kernel
theorem dX7_build_132 : decode cX7_build 132 = .ok (.imul, 1) := by decide +kernel
theorem dX7_build_133 : decode cX7_build 133 = .ok (.aload_n 0, 1) := by decide +kernel
theorem dX7_build_134 : decode cX7_build 134 = .ok (.getfield 15, 3) := by decide +kernel
theorem dX7_build_137 : decode cX7_build 137 = .ok (.iconst 3, 1) := by decide +kernel
theorem dX7_build_138 : decode cX7_build 138 = .ok (.iload 6, 2) := by decide +kernel
theorem dX7_build_140 : decode cX7_build 140 = .ok (.imul, 1) := by decide +kernel
theorem dX7_build_141 : decode cX7_build 141 = .ok (.iconst 3, 1) := by decide +kernel
theorem dX7_build_142 : decode cX7_build 142 = .ok (.invokestatic 79, 3) := by decide +kernel
theorem dX7_build_145 : decode cX7_build 145 = .ok (.iload_n 3, 1) := by decide +kernel
theorem dX7_build_146 : decode cX7_build 146 = .ok (.iconst 5, 1) := by decide +kernel
theorem dX7_build_147 : decode cX7_build 147 = .ok (.if_icmp .ne 60, 3) := by decide +kernel
theorem dX7_build_150 : decode cX7_build 150 = .ok (.aload_n 0, 1) := by decide +kernel
theorem dX7_build_151 : decode cX7_build 151 = .ok (.getfield 21, 3) := by decide +kernel
theorem dX7_build_154 : decode cX7_build 154 = .ok (.getfield 62, 3) := by decide +kernel
theorem dX7_build_157 : decode cX7_build 157 = .ok (.getfield 66, 3) := by decide +kernel
theorem dX7_build_160 : decode cX7_build 160 = .ok (.iload_n 2, 1) := by decide +kernel
theorem dX7_build_161 : decode cX7_build 161 = .ok (.iconst 2, 1) := by decide +kernel
theorem dX7_build_162 : decode cX7_build 162 = .ok (.iadd, 1) := by decide +kernel
theorem dX7_build_163 : decode cX7_build 163 = .ok (.iaload, 1) := by decide +kernel
theorem dX7_build_164 : decode cX7_build 164 = .ok (.istore 8, 2) := by decide +kernel
theorem dX7_build_166 : decode cX7_build 166 = .ok (.aload_n 0, 1) := by decide +kernel
theorem dX7_build_167 : decode cX7_build 167 = .ok (.getfield 15, 3) := by decide +kernel
theorem dX7_build_170 : decode cX7_build 170 = .ok (.iload 6, 2) := by decide +kernel
theorem dX7_build_172 : decode cX7_build 172 = .ok (.aload_n 0, 1) := by decide +kernel
theorem dX7_build_173 : decode cX7_build 173 = .ok (.iload 7, 2) := by decide +kernel
theorem dX7_build_175 : decode cX7_build 175 = .ok (.iload 4, 2) := by decide +kernel
theorem dX7_build_177 : decode cX7_build 177 = .ok (.invokevirtual 55, 3) := by decide +kernel
theorem dX7_build_180 : decode cX7_build 180 = .ok (.iload 8, 2) := by decide +kernel
theorem dX7_build_182 : decode cX7_build 182 = .ok (.invokestatic 44, 3) := by decide +kernel
theorem dX7_build_185 : decode cX7_build 185 = .ok (.aload_n 0, 1) := by decide +kernel
theorem dX7_build_186 : decode cX7_build 186 = .ok (.getfield 15, 3) := by decide +kernel
theorem dX7_build_189 : decode cX7_build 189 = .ok (.iload 6, 2) := by decide +kernel
theorem dX7_build_191 : decode cX7_build 191 = .ok (.aload_n 0, 1) := by decide +kernel
theorem dX7_build_192 : decode cX7_build 192 = .ok (.iload 7, 2) := by decide +kernel
theorem dX7_build_194 : decode cX7_build 194 = .ok (.iload 8, 2) := by decide +kernel
theorem dX7_build_196 : decode cX7_build 196 = .ok (.invokevirtual 55, 3) := by decide +kernel
theorem dX7_build_199 : decode cX7_build 199 = .ok (.iload 4, 2) := by decide +kernel
theorem dX7_build_201 : decode cX7_build 201 = .ok (.invokestatic 44, 3) := by decide +kernel
theorem dX7_build_204 : decode cX7_build 204 = .ok (.goto 53, 3) := by decide +kernel
theorem dX7_build_207 : decode cX7_build 207 = .ok (.iload_n 3, 1) := by decide +kernel
theorem dX7_build_208 : decode cX7_build 208 = .ok (.bipush 7, 2) := by decide +kernel
theorem dX7_build_210 : decode cX7_build 210 = .ok (.if_icmp .ne 24, 3) := by decide +kernel
theorem dX7_build_213 : decode cX7_build 213 = .ok (.aload_n 0, 1) := by decide +kernel
theorem dX7_build_214 : decode cX7_build 214 = .ok (.getfield 15, 3) := by decide +kernel
theorem dX7_build_217 : decode cX7_build 217 = .ok (.iload 6, 2) := by decide +kernel
theorem dX7_build_219 : decode cX7_build 219 = .ok (.aload_n 0, 1) := by decide +kernel
theorem dX7_build_220 : decode cX7_build 220 = .ok (.iload 6, 2) := by decide +kernel
theorem dX7_build_222 : decode cX7_build 222 = .ok (.iload 4, 2) := by decide +kernel
theorem dX7_build_224 : decode cX7_build 224 = .ok (.invokevirtual 55, 3) := by decide +kernel
theorem dX7_build_227 : decode cX7_build 227 = .ok (.iconst 0, 1) := by decide +kernel
theorem dX7_build_228 : decode cX7_build 228 = .ok (.invokestatic 44, 3) := by decide +kernel
theorem dX7_build_231 : decode cX7_build 231 = .ok (.goto 26, 3) := by decide +kernel
theorem dX7_build_234 : decode cX7_build 234 = .ok (.iload_n 3, 1) := by decide +kernel
theorem dX7_build_235 : decode cX7_build 235 = .ok (.bipush 6, 2) := by decide +kernel
theorem dX7_build_237 : decode cX7_build 237 = .ok (.if_icmp .ne 20, 3) := by decide +kernel
theorem dX7_build_240 : decode cX7_build 240 = .ok (.aload_n 0, 1) := by decide +kernel
theorem dX7_build_241 : decode cX7_build 241 = .ok (.getfield 15, 3) := by decide +kernel
theorem dX7_build_244 : decode cX7_build 244 = .ok (.iload 6, 2) := by decide +kernel
theorem dX7_build_246 : decode cX7_build 246 = .ok (.aload_n 0, 1) := by decide +kernel
theorem dX7_build_247 : decode cX7_build 247 = .ok (.iload 6, 2) := by decide +kernel
theorem dX7_build_249 : decode cX7_build 249 = .ok (.invokevirtual 85, 3) := by decide +kernel
theorem dX7_build_252 : decode cX7_build 252 = .ok (.iload 4, 2) := by decide +kernel
theorem dX7_build_254 : decode cX7_build 254 = .ok (.invokestatic 44, 3) := by decide +kernel
theorem dX7_build_257 : decode cX7_build 257 = .ok (.iinc 5 1, 3) := by decide +kernel
theorem dX7_build_260 : decode cX7_build 260 = .ok (.goto (-201), 3) := by decide +kernel
theorem dX7_build_263 : decode cX7_build 263 = .ok (.return_, 1) := by decide +kernel
theorem dX7_listStained_0 : decode cX7_listStained 0 = .ok (.iconst 0, 1) := by decide +kernel
theorem dX7_listStained_1 : decode cX7_listStained 1 = .ok (.istore_n 3, 1) := by decide +kernel
theorem dX7_listStained_2 : decode cX7_listStained 2 = .ok (.iload_n 3, 1) := by decide +kernel
theorem dX7_listStained_3 : decode cX7_listStained 3 = .ok (.aload_n 0, 1) := by decide +kernel
theorem dX7_listStained_4 : decode cX7_listStained 4 = .ok (.getfield 21, 3) := by decide +kernel
theorem dX7_listStained_7 : decode cX7_listStained 7 = .ok (.getfield 25, 3) := by decide +kernel
theorem dX7_listStained_10 : decode cX7_listStained 10 = .ok (.iload_n 1, 1) := by decide +kernel
theorem dX7_listStained_11 : decode cX7_listStained 11 = .ok (.iaload, 1) := by decide +kernel
theorem dX7_listStained_12 : decode cX7_listStained 12 = .ok (.if_icmp .ge 39, 3) := by decide +kernel
theorem dX7_listStained_15 : decode cX7_listStained 15 = .ok (.aload_n 0, 1) := by decide +kernel
theorem dX7_listStained_16 : decode cX7_listStained 16 = .ok (.getfield 21, 3) := by decide +kernel
theorem dX7_listStained_19 : decode cX7_listStained 19 = .ok (.getfield 35, 3) := by decide +kernel
theorem dX7_listStained_22 : decode cX7_listStained 22 = .ok (.bipush 36, 2) := by decide +kernel
theorem dX7_listStained_24 : decode cX7_listStained 24 = .ok (.iload_n 1, 1) := by decide +kernel
theorem dX7_listStained_25 : decode cX7_listStained 25 = .ok (.imul, 1) := by decide +kernel
theorem dX7_listStained_26 : decode cX7_listStained 26 = .ok (.iload_n 3, 1) := by decide +kernel
theorem dX7_listStained_27 : decode cX7_listStained 27 = .ok (.iadd, 1) := by decide +kernel
theorem dX7_listStained_28 : decode cX7_listStained 28 = .ok (.iaload, 1) := by decide +kernel
theorem dX7_listStained_29 : decode cX7_listStained 29 = .ok (.istore 4, 2) := by decide +kernel
theorem dX7_listStained_31 : decode cX7_listStained 31 = .ok (.aload_n 0, 1) := by decide +kernel
theorem dX7_listStained_32 : decode cX7_listStained 32 = .ok (.getfield 18, 3) := by decide +kernel
theorem dX7_listStained_35 : decode cX7_listStained 35 = .ok (.iload 4, 2) := by decide +kernel
theorem dX7_listStained_37 : decode cX7_listStained 37 = .ok (.aload_n 0, 1) := by decide +kernel
theorem dX7_listStained_38 : decode cX7_listStained 38 = .ok (.iload 4, 2) := by decide +kernel
theorem dX7_listStained_40 : decode cX7_listStained 40 = .ok (.iload_n 2, 1) := by decide +kernel
theorem dX7_listStained_41 : decode cX7_listStained 41 = .ok (.invokevirtual 55, 3) := by decide +kernel
theorem dX7_listStained_44 : decode cX7_listStained 44 = .ok (.lastore, 1) := by decide +kernel
theorem dX7_listStained_45 : decode cX7_listStained 45 = .ok (.iinc 3 1, 3) := by decide +kernel
theorem dX7_listStained_48 : decode cX7_listStained 48 = .ok (.goto (-46), 3) := by decide +kernel
theorem dX7_listStained_51 : decode cX7_listStained 51 = .ok (.return_, 1) := by decide +kernel
theorem dX7_stainedAt_0 : decode cX7_stainedAt 0 = .ok (.aload_n 0, 1) := by decide +kernel
theorem dX7_stainedAt_1 : decode cX7_stainedAt 1 = .ok (.getfield 18, 3) := by decide +kernel
theorem dX7_stainedAt_4 : decode cX7_stainedAt 4 = .ok (.iload_n 1, 1) := by decide +kernel
theorem dX7_stainedAt_5 : decode cX7_stainedAt 5 = .ok (.laload, 1) := by decide +kernel
theorem dX7_stainedAt_6 : decode cX7_stainedAt 6 = .ok (.lstore_n 2, 1) := by decide +kernel
theorem dX7_stainedAt_7 : decode cX7_stainedAt 7 = .ok (.iconst 0, 1) := by decide +kernel
theorem dX7_stainedAt_8 : decode cX7_stainedAt 8 = .ok (.istore 4, 2) := by decide +kernel
theorem dX7_stainedAt_10 : decode cX7_stainedAt 10 = .ok (.iload 4, 2) := by decide +kernel
theorem dX7_stainedAt_12 : decode cX7_stainedAt 12 = .ok (.iconst 4, 1) := by decide +kernel
theorem dX7_stainedAt_13 : decode cX7_stainedAt 13 = .ok (.if_icmp .ge 40, 3) := by decide +kernel
theorem dX7_stainedAt_16 : decode cX7_stainedAt 16 = .ok (.aload_n 0, 1) := by decide +kernel
theorem dX7_stainedAt_17 : decode cX7_stainedAt 17 = .ok (.getfield 21, 3) := by decide +kernel
theorem dX7_stainedAt_20 : decode cX7_stainedAt 20 = .ok (.getfield 62, 3) := by decide +kernel
theorem dX7_stainedAt_23 : decode cX7_stainedAt 23 = .ok (.iload_n 1, 1) := by decide +kernel
theorem dX7_stainedAt_24 : decode cX7_stainedAt 24 = .ok (.iload 4, 2) := by decide +kernel
theorem dX7_stainedAt_26 : decode cX7_stainedAt 26 = .ok (.invokevirtual 89, 3) := by decide +kernel
theorem dX7_stainedAt_29 : decode cX7_stainedAt 29 = .ok (.istore 5, 2) := by decide +kernel
theorem dX7_stainedAt_31 : decode cX7_stainedAt 31 = .ok (.iload 5, 2) := by decide +kernel
theorem dX7_stainedAt_33 : decode cX7_stainedAt 33 = .ok (.iconst (-1), 1) := by decide +kernel
theorem dX7_stainedAt_34 : decode cX7_stainedAt 34 = .ok (.if_icmp .eq 13, 3) := by decide +kernel
theorem dX7_stainedAt_37 : decode cX7_stainedAt 37 = .ok (.lload_n 2, 1) := by decide +kernel
theorem dX7_stainedAt_38 : decode cX7_stainedAt 38 = .ok (.aload_n 0, 1) := by decide +kernel
theorem dX7_stainedAt_39 : decode cX7_stainedAt 39 = .ok (.getfield 18, 3) := by decide +kernel
theorem dX7_stainedAt_42 : decode cX7_stainedAt 42 = .ok (.iload 5, 2) := by decide +kernel
theorem dX7_stainedAt_44 : decode cX7_stainedAt 44 = .ok (.laload, 1) := by decide +kernel
theorem dX7_stainedAt_45 : decode cX7_stainedAt 45 = .ok (.lor, 1) := by decide +kernel
theorem dX7_stainedAt_46 : decode cX7_stainedAt 46 = .ok (.lstore_n 2, 1) := by decide +kernel
theorem dX7_stainedAt_47 : decode cX7_stainedAt 47 = .ok (.iinc 4 1, 3) := by decide +kernel
theorem dX7_stainedAt_50 : decode cX7_stainedAt 50 = .ok (.goto (-40), 3) := by decide +kernel
theorem dX7_stainedAt_53 : decode cX7_stainedAt 53 = .ok (.lload_n 2, 1) := by decide +kernel
theorem dX7_stainedAt_54 : decode cX7_stainedAt 54 = .ok (.lreturn, 1) := by decide +kernel
theorem dX7_with_0 : decode cX7_with 0 = .ok (.ldc2_w 38, 3) := by decide +kernel
theorem dX7_with_3 : decode cX7_with 3 = .ok (.lstore_n 3, 1) := by decide +kernel
