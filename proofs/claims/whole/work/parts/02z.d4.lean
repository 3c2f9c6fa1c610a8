theorem dX11_loop_5 : decode cX11_loop 5 = .ok (.aload_n 0, 1) := by decide +kernel
theorem dX11_loop_6 : decode cX11_loop 6 = .ok (.iload_n 1, 1) := by decide +kernel
theorem dX11_loop_7 : decode cX11_loop 7 = .ok (.invokevirtual 349, 3) := by decide +kernel
theorem dX11_loop_10 : decode cX11_loop 10 = .ok (.ifCond .ne 9, 3) := by decide +kernel
theorem dX11_loop_13 : decode cX11_loop 13 = .ok (.aload_n 0, 1) := by decide +kernel
theorem dX11_loop_14 : decode cX11_loop 14 = .ok (.iconst 1, 1) := by decide +kernel
theorem dX11_loop_15 : decode cX11_loop 15 = .ok (.invokevirtual 84, 3) := by decide +kernel
theorem dX11_loop_18 : decode cX11_loop 18 = .ok (.ireturn, 1) := by decide +kernel
theorem dX11_loop_19 : decode cX11_loop 19 = .ok (.iload_n 1, 1) := by decide +kernel
theorem dX11_loop_20 : decode cX11_loop 20 = .ok (.istore_n 2, 1) := by decide +kernel
theorem dX11_loop_21 : decode cX11_loop 21 = .ok (.iconst 1, 1) := by decide +kernel
theorem dX11_loop_22 : decode cX11_loop 22 = .ok (.istore_n 3, 1) := by decide +kernel
theorem dX11_loop_23 : decode cX11_loop 23 = .ok (.iload_n 3, 1) := by decide +kernel
theorem dX11_loop_24 : decode cX11_loop 24 = .ok (.aload_n 0, 1) := by decide +kernel
theorem dX11_loop_25 : decode cX11_loop 25 = .ok (.getfield 341, 3) := by decide +kernel
theorem dX11_loop_28 : decode cX11_loop 28 = .ok (.getfield 230, 3) := by decide +kernel
theorem dX11_loop_31 : decode cX11_loop 31 = .ok (.if_icmp .gt 43, 3) := by decide +kernel
theorem dX11_loop_34 : decode cX11_loop 34 = .ok (.aload_n 0, 1) := by decide +kernel
theorem dX11_loop_35 : decode cX11_loop 35 = .ok (.getfield 17, 3) := by decide +kernel
theorem dX11_loop_38 : decode cX11_loop 38 = .ok (.sipush 216, 3) := by decide +kernel
theorem dX11_loop_41 : decode cX11_loop 41 = .ok (.iload_n 2, 1) := by decide +kernel
theorem dX11_loop_42 : decode cX11_loop 42 = .ok (.iadd, 1) := by decide +kernel
theorem dX11_loop_43 : decode cX11_loop 43 = .ok (.iaload, 1) := by decide +kernel
theorem dX11_loop_44 : decode cX11_loop 44 = .ok (.istore_n 2, 1) := by decide +kernel
theorem dX11_loop_45 : decode cX11_loop 45 = .ok (.iload_n 2, 1) := by decide +kernel
theorem dX11_loop_46 : decode cX11_loop 46 = .ok (.iload_n 1, 1) := by decide +kernel
theorem dX11_loop_47 : decode cX11_loop 47 = .ok (.if_icmp .ne 9, 3) := by decide +kernel
theorem dX11_loop_50 : decode cX11_loop 50 = .ok (.aload_n 0, 1) := by decide +kernel
theorem dX11_loop_51 : decode cX11_loop 51 = .ok (.iload_n 3, 1) := by decide +kernel
theorem dX11_loop_52 : decode cX11_loop 52 = .ok (.invokevirtual 88, 3) := by decide +kernel
theorem dX11_loop_55 : decode cX11_loop 55 = .ok (.ireturn, 1) := by decide +kernel
theorem dX11_loop_56 : decode cX11_loop 56 = .ok (.iload_n 2, 1) := by decide +kernel
theorem dX11_loop_57 : decode cX11_loop 57 = .ok (.bipush (-2), 2) := by decide +kernel
theorem dX11_loop_59 : decode cX11_loop 59 = .ok (.if_icmp .ne 9, 3) := by decide +kernel
theorem dX11_loop_62 : decode cX11_loop 62 = .ok (.aload_n 0, 1) := by decide +kernel
theorem dX11_loop_63 : decode cX11_loop 63 = .ok (.iconst 0, 1) := by decide +kernel
theorem dX11_loop_64 : decode cX11_loop 64 = .ok (.invokevirtual 88, 3) := by decide +kernel
theorem dX11_loop_67 : decode cX11_loop 67 = .ok (.ireturn, 1) := by decide +kernel
theorem dX11_loop_68 : decode cX11_loop 68 = .ok (.iinc 3 1, 3) := by decide +kernel
theorem dX11_loop_71 : decode cX11_loop 71 = .ok (.goto (-48), 3) := by decide +kernel
theorem dX11_loop_74 : decode cX11_loop 74 = .ok (.aload_n 0, 1) := by decide +kernel
theorem dX11_loop_75 : decode cX11_loop 75 = .ok (.iconst 0, 1) := by decide +kernel
theorem dX11_loop_76 : decode cX11_loop 76 = .ok (.invokevirtual 88, 3) := by decide +kernel
theorem dX11_loop_79 : decode cX11_loop 79 = .ok (.ireturn, 1) := by decide +kernel
theorem dX11_depth_0 : decode cX11_depth 0 = .ok (.aload_n 0, 1) := by decide +kernel
theorem dX11_depth_1 : decode cX11_depth 1 = .ok (.iconst 0, 1) := by decide +kernel
theorem dX11_depth_2 : decode cX11_depth 2 = .ok (.putfield 78, 3) := by decide +kernel
theorem dX11_depth_5 : decode cX11_depth 5 = .ok (.aload_n 0, 1) := by decide +kernel
theorem dX11_depth_6 : decode cX11_depth 6 = .ok (.iload_n 1, 1) := by decide +kernel
theorem dX11_depth_7 : decode cX11_depth 7 = .ok (.invokevirtual 349, 3) := by decide +kernel
theorem dX11_depth_10 : decode cX11_depth 10 = .ok (.ifCond .ne 9, 3) := by decide +kernel
theorem dX11_depth_13 : decode cX11_depth 13 = .ok (.aload_n 0, 1) := by decide +kernel
theorem dX11_depth_14 : decode cX11_depth 14 = .ok (.iconst 1, 1) := by decide +kernel
theorem dX11_depth_15 : decode cX11_depth 15 = .ok (.invokevirtual 84, 3) := by decide +kernel
theorem dX11_depth_18 : decode cX11_depth 18 = .ok (.ireturn, 1) := by decide +kernel
theorem dX11_depth_19 : decode cX11_depth 19 = .ok (.iload_n 1, 1) := by decide +kernel
theorem dX11_depth_20 : decode cX11_depth 20 = .ok (.istore_n 2, 1) := by decide +kernel
theorem dX11_depth_21 : decode cX11_depth 21 = .ok (.iconst 0, 1) := by decide +kernel
theorem dX11_depth_22 : decode cX11_depth 22 = .ok (.istore_n 3, 1) := by decide +kernel
theorem dX11_depth_23 : decode cX11_depth 23 = .ok (.iload_n 3, 1) := by decide +kernel
theorem dX11_depth_24 : decode cX11_depth 24 = .ok (.aload_n 0, 1) := by decide +kernel
theorem dX11_depth_25 : decode cX11_depth 25 = .ok (.getfield 341, 3) := by decide +kernel
theorem dX11_depth_28 : decode cX11_depth 28 = .ok (.getfield 230, 3) := by decide +kernel
theorem dX11_depth_31 : decode cX11_depth 31 = .ok (.if_icmp .gt 41, 3) := by decide +kernel
theorem dX11_depth_34 : decode cX11_depth 34 = .ok (.aload_n 0, 1) := by decide +kernel
theorem dX11_depth_35 : decode cX11_depth 35 = .ok (.getfield 17, 3) := by decide +kernel
theorem dX11_depth_38 : decode cX11_depth 38 = .ok (.sipush 216, 3) := by decide +kernel
theorem dX11_depth_41 : decode cX11_depth 41 = .ok (.iload_n 2, 1) := by decide +kernel
theorem dX11_depth_42 : decode cX11_depth 42 = .ok (.iadd, 1) := by decide +kernel
theorem dX11_depth_43 : decode cX11_depth 43 = .ok (.iaload, 1) := by decide +kernel
theorem dX11_depth_44 : decode cX11_depth 44 = .ok (.bipush (-2), 2) := by decide +kernel
theorem dX11_depth_46 : decode cX11_depth 46 = .ok (.if_icmp .ne 9, 3) := by decide +kernel
theorem dX11_depth_49 : decode cX11_depth 49 = .ok (.aload_n 0, 1) := by decide +kernel
theorem dX11_depth_50 : decode cX11_depth 50 = .ok (.iload_n 3, 1) := by decide +kernel
theorem dX11_depth_51 : decode cX11_depth 51 = .ok (.invokevirtual 88, 3) := by decide +kernel
theorem dX11_depth_54 : decode cX11_depth 54 = .ok (.ireturn, 1) := by decide +kernel
theorem dX11_depth_55 : decode cX11_depth 55 = .ok (.aload_n 0, 1) := by decide +kernel
theorem dX11_depth_56 : decode cX11_depth 56 = .ok (.getfield 17, 3) := by decide +kernel
theorem dX11_depth_59 : decode cX11_depth 59 = .ok (.sipush 216, 3) := by decide +kernel
theorem dX11_depth_62 : decode cX11_depth 62 = .ok (.iload_n 2, 1) := by decide +kernel
theorem dX11_depth_63 : decode cX11_depth 63 = .ok (.iadd, 1) := by decide +kernel
theorem dX11_depth_64 : decode cX11_depth 64 = .ok (.iaload, 1) := by decide +kernel
theorem dX11_depth_65 : decode cX11_depth 65 = .ok (.istore_n 2, 1) := by decide +kernel
theorem dX11_depth_66 : decode cX11_depth 66 = .ok (.iinc 3 1, 3) := by decide +kernel
theorem dX11_depth_69 : decode cX11_depth 69 = .ok (.goto (-46), 3) := by decide +kernel
theorem dX11_depth_72 : decode cX11_depth 72 = .ok (.aload_n 0, 1) := by decide +kernel
theorem dX11_depth_73 : decode cX11_depth 73 = .ok (.bipush (-2), 2) := by decide +kernel
theorem dX11_depth_75 : decode cX11_depth 75 = .ok (.invokevirtual 88, 3) := by decide +kernel
theorem dX11_depth_78 : decode cX11_depth 78 = .ok (.ireturn, 1) := by decide +kernel
theorem dX11_laysBears_0 : decode cX11_laysBears 0 = .ok (.iconst 0, 1) := by decide +kernel
theorem dX11_laysBears_1 : decode cX11_laysBears 1 = .ok (.istore 5, 2) := by decide +kernel
theorem dX11_laysBears_3 : decode cX11_laysBears 3 = .ok (.iload 5, 2) := by decide +kernel
theorem dX11_laysBears_5 : decode cX11_laysBears 5 = .ok (.sipush 216, 3) := by decide +kernel
theorem dX11_laysBears_8 : decode cX11_laysBears 8 = .ok (.if_icmp .ge 17, 3) := by decide +kernel
theorem dX11_laysBears_11 : decode cX11_laysBears 11 = .ok (.aload_n 0, 1) := by decide +kernel
theorem dX11_laysBears_12 : decode cX11_laysBears 12 = .ok (.getfield 60, 3) := by decide +kernel
theorem dX11_laysBears_15 : decode cX11_laysBears 15 = .ok (.iload 5, 2) := by decide +kernel
theorem dX11_laysBears_17 : decode cX11_laysBears 17 = .ok (.iconst 0, 1) := by decide +kernel
theorem dX11_laysBears_18 : decode cX11_laysBears 18 = .ok (.bastore, 1) := by decide +kernel
theorem dX11_laysBears_19 : decode cX11_laysBears 19 = .ok (.iinc 5 1, 3) := by decide +kernel
theorem dX11_laysBears_22 : decode cX11_laysBears 22 = .ok (.goto (-19), 3) := by decide +kernel
theorem dX11_laysBears_25 : decode cX11_laysBears 25 = .ok (.aload_n 0, 1) := by decide +kernel
theorem dX11_laysBears_26 : decode cX11_laysBears 26 = .ok (.getfield 60, 3) := by decide +kernel
theorem dX11_laysBears_29 : decode cX11_laysBears 29 = .ok (.bipush 36, 2) := by decide +kernel
theorem dX11_laysBears_31 : decode cX11_laysBears 31 = .ok (.iload_n 2, 1) := by decide +kernel
theorem dX11_laysBears_32 : decode cX11_laysBears 32 = .ok (.imul, 1) := by decide +kernel
theorem dX11_laysBears_33 : decode cX11_laysBears 33 = .ok (.iload_n 3, 1) := by decide +kernel
theorem dX11_laysBears_34 : decode cX11_laysBears 34 = .ok (.iadd, 1) := by decide +kernel
theorem dX11_laysBears_35 : decode cX11_laysBears 35 = .ok (.iconst 1, 1) := by decide +kernel
theorem dX11_laysBears_36 : decode cX11_laysBears 36 = .ok (.bastore, 1) := by decide +kernel
theorem dX11_laysBears_37 : decode cX11_laysBears 37 = .ok (.iconst 0, 1) := by decide +kernel
theorem dX11_laysBears_38 : decode cX11_laysBears 38 = .ok (.istore 5, 2) := by decide +kernel
theorem dX11_laysBears_40 : decode cX11_laysBears 40 = .ok (.iload 5, 2) := by decide +kernel
theorem dX11_laysBears_42 : decode cX11_laysBears 42 = .ok (.iload 4, 2) := by decide +kernel
theorem dX11_laysBears_44 : decode cX11_laysBears 44 = .ok (.if_icmp .ge 114, 3) := by decide +kernel
theorem dX11_laysBears_47 : decode cX11_laysBears 47 = .ok (.iconst 0, 1) := by decide +kernel
theorem dX11_laysBears_48 : decode cX11_laysBears 48 = .ok (.istore 6, 2) := by decide +kernel
theorem dX11_laysBears_50 : decode cX11_laysBears 50 = .ok (.iload 6, 2) := by decide +kernel
theorem dX11_laysBears_52 : decode cX11_laysBears 52 = .ok (.sipush 216, 3) := by decide +kernel
theorem dX11_laysBears_55 : decode cX11_laysBears 55 = .ok (.if_icmp .ge 31, 3) := by decide +kernel
theorem dX11_laysBears_58 : decode cX11_laysBears 58 = .ok (.aload_n 0, 1) := by decide +kernel
theorem dX11_laysBears_59 : decode cX11_laysBears 59 = .ok (.getfield 63, 3) := by decide +kernel
theorem dX11_laysBears_62 : decode cX11_laysBears 62 = .ok (.iload 6, 2) := by decide +kernel
theorem dX11_laysBears_64 : decode cX11_laysBears 64 = .ok (.aload_n 0, 1) := by decide +kernel
theorem dX11_laysBears_65 : decode cX11_laysBears 65 = .ok (.getfield 60, 3) := by decide +kernel
theorem dX11_laysBears_68 : decode cX11_laysBears 68 = .ok (.iload 6, 2) := by decide +kernel
theorem dX11_laysBears_70 : decode cX11_laysBears 70 = .ok (.baload, 1) := by decide +kernel
theorem dX11_laysBears_71 : decode cX11_laysBears 71 = .ok (.bastore, 1) := by decide +kernel
theorem dX11_laysBears_72 : decode cX11_laysBears 72 = .ok (.aload_n 0, 1) := by decide +kernel
theorem dX11_laysBears_73 : decode cX11_laysBears 73 = .ok (.getfield 60, 3) := by decide +kernel
theorem dX11_laysBears_76 : decode cX11_laysBears 76 = .ok (.iload 6, 2) := by decide +kernel
theorem dX11_laysBears_78 : decode cX11_laysBears 78 = .ok (.iconst 0, 1) := by decide +kernel
theorem dX11_laysBears_79 : decode cX11_laysBears 79 = .ok (.bastore, 1) := by decide +kernel
theorem dX11_laysBears_80 : decode cX11_laysBears 80 = .ok (.iinc 6 1, 3) := by decide +kernel
theorem dX11_laysBears_83 : decode cX11_laysBears 83 = .ok (.goto (-33), 3) := by decide +kernel
theorem dX11_laysBears_86 : decode cX11_laysBears 86 = .ok (.iconst 0, 1) := by decide +kernel
theorem dX11_laysBears_87 : decode cX11_laysBears 87 = .ok (.istore 6, 2) := by decide +kernel
theorem dX11_laysBears_89 : decode cX11_laysBears 89 = .ok (.iload 6, 2) := by decide +kernel
theorem dX11_laysBears_91 : decode cX11_laysBears 91 = .ok (.aload_n 0, 1) := by decide +kernel
theorem dX11_laysBears_92 : decode cX11_laysBears 92 = .ok (.getfield 341, 3) := by decide +kernel
theorem dX11_laysBears_95 : decode cX11_laysBears 95 = .ok (.getfield 230, 3) := by decide +kernel
theorem dX11_laysBears_98 : decode cX11_laysBears 98 = .ok (.if_icmp .ge 54, 3) := by decide +kernel
theorem dX11_laysBears_101 : decode cX11_laysBears 101 = .ok (.iconst 0, 1) := by decide +kernel
theorem dX11_laysBears_102 : decode cX11_laysBears 102 = .ok (.istore 7, 2) := by decide +kernel
theorem dX11_laysBears_104 : decode cX11_laysBears 104 = .ok (.iload 7, 2) := by decide +kernel
theorem dX11_laysBears_106 : decode cX11_laysBears 106 = .ok (.aload_n 0, 1) := by decide +kernel
theorem dX11_laysBears_107 : decode cX11_laysBears 107 = .ok (.getfield 341, 3) := by decide +kernel
theorem dX11_laysBears_110 : decode cX11_laysBears 110 = .ok (.invokevirtual 373, 3) := by decide +kernel
theorem dX11_laysBears_113 : decode cX11_laysBears 113 = .ok (.if_icmp .ge 33, 3) := by decide +kernel
theorem dX11_laysBears_116 : decode cX11_laysBears 116 = .ok (.aload_n 0, 1) := by decide +kernel
theorem dX11_laysBears_117 : decode cX11_laysBears 117 = .ok (.getfield 63, 3) := by decide +kernel
theorem dX11_laysBears_120 : decode cX11_laysBears 120 = .ok (.bipush 36, 2) := by decide +kernel
theorem dX11_laysBears_122 : decode cX11_laysBears 122 = .ok (.iload 6, 2) := by decide +kernel
theorem dX11_laysBears_124 : decode cX11_laysBears 124 = .ok (.imul, 1) := by decide +kernel
theorem dX11_laysBears_125 : decode cX11_laysBears 125 = .ok (.iload 7, 2) := by decide +kernel
theorem dX11_laysBears_127 : decode cX11_laysBears 127 = .ok (.iadd, 1) := by decide +kernel
theorem dX11_laysBears_128 : decode cX11_laysBears 128 = .ok (.baload, 1) := by decide +kernel
theorem dX11_laysBears_129 : decode cX11_laysBears 129 = .ok (.ifCond .eq 11, 3) := by decide +kernel
theorem dX11_laysBears_132 : decode cX11_laysBears 132 = .ok (.aload_n 0, 1) := by decide +kernel
theorem dX11_laysBears_133 : decode cX11_laysBears 133 = .ok (.iload 6, 2) := by decide +kernel
theorem dX11_laysBears_135 : decode cX11_laysBears 135 = .ok (.iload 7, 2) := by decide +kernel
theorem dX11_laysBears_137 : decode cX11_laysBears 137 = .ok (.invokevirtual 439, 3) := by decide +kernel
theorem dX11_laysBears_140 : decode cX11_laysBears 140 = .ok (.iinc 7 1, 3) := by decide +kernel
theorem dX11_laysBears_143 : decode cX11_laysBears 143 = .ok (.goto (-39), 3) := by decide +kernel
theorem dX11_laysBears_146 : decode cX11_laysBears 146 = .ok (.iinc 6 1, 3) := by decide +kernel
theorem dX11_laysBears_149 : decode cX11_laysBears 149 = .ok (.goto (-60), 3) := by decide +kernel
theorem dX11_laysBears_152 : decode cX11_laysBears 152 = .ok (.iinc 5 1, 3) := by decide +kernel
theorem dX11_laysBears_155 : decode cX11_laysBears 155 = .ok (.goto (-115), 3) := by decide +kernel
theorem dX11_laysBears_158 : decode cX11_laysBears 158 = .ok (.aload_n 0, 1) := by decide +kernel
theorem dX11_laysBears_159 : decode cX11_laysBears 159 = .ok (.iconst 0, 1) := by decide +kernel
theorem dX11_laysBears_160 : decode cX11_laysBears 160 = .ok (.putfield 442, 3) := by decide +kernel
theorem dX11_laysBears_163 : decode cX11_laysBears 163 = .ok (.iconst 0, 1) := by decide +kernel
theorem dX11_laysBears_164 : decode cX11_laysBears 164 = .ok (.istore 5, 2) := by decide +kernel
theorem dX11_laysBears_166 : decode cX11_laysBears 166 = .ok (.iload 5, 2) := by decide +kernel
theorem dX11_laysBears_168 : decode cX11_laysBears 168 = .ok (.aload_n 0, 1) := by decide +kernel
theorem dX11_laysBears_169 : decode cX11_laysBears 169 = .ok (.getfield 341, 3) := by decide +kernel
theorem dX11_laysBears_172 : decode cX11_laysBears 172 = .ok (.getfield 194, 3) := by decide +kernel
theorem dX11_laysBears_175 : decode cX11_laysBears 175 = .ok (.if_icmp .ge 81, 3) := by decide +kernel
theorem dX11_laysBears_178 : decode cX11_laysBears 178 = .ok (.iconst 0, 1) := by decide +kernel
theorem dX11_laysBears_179 : decode cX11_laysBears 179 = .ok (.istore 6, 2) := by decide +kernel
theorem dX11_laysBears_181 : decode cX11_laysBears 181 = .ok (.iload 6, 2) := by decide +kernel
theorem dX11_laysBears_183 : decode cX11_laysBears 183 = .ok (.aload_n 0, 1) := by decide +kernel
theorem dX11_laysBears_184 : decode cX11_laysBears 184 = .ok (.getfield 341, 3) := by decide +kernel
theorem dX11_laysBears_187 : decode cX11_laysBears 187 = .ok (.getfield 256, 3) := by decide +kernel
theorem dX11_laysBears_190 : decode cX11_laysBears 190 = .ok (.if_icmp .ge 60, 3) := by decide +kernel
theorem dX11_laysBears_193 : decode cX11_laysBears 193 = .ok (.aload_n 0, 1) := by decide +kernel
theorem dX11_laysBears_194 : decode cX11_laysBears 194 = .ok (.getfield 60, 3) := by decide +kernel
theorem dX11_laysBears_197 : decode cX11_laysBears 197 = .ok (.bipush 36, 2) := by decide +kernel
theorem dX11_laysBears_199 : decode cX11_laysBears 199 = .ok (.iload_n 1, 1) := by decide +kernel
theorem dX11_laysBears_200 : decode cX11_laysBears 200 = .ok (.imul, 1) := by decide +kernel
theorem dX11_laysBears_201 : decode cX11_laysBears 201 = .ok (.aload_n 0, 1) := by decide +kernel
theorem dX11_laysBears_202 : decode cX11_laysBears 202 = .ok (.iload 5, 2) := by decide +kernel
theorem dX11_laysBears_204 : decode cX11_laysBears 204 = .ok (.iload 6, 2) := by decide +kernel
theorem dX11_laysBears_206 : decode cX11_laysBears 206 = .ok (.invokevirtual 364, 3) := by decide +kernel
theorem dX11_laysBears_209 : decode cX11_laysBears 209 = .ok (.iadd, 1) := by decide +kernel
theorem dX11_laysBears_210 : decode cX11_laysBears 210 = .ok (.baload, 1) := by decide +kernel
theorem dX11_laysBears_211 : decode cX11_laysBears 211 = .ok (.ifCond .ne 6, 3) := by decide +kernel
theorem dX11_laysBears_214 : decode cX11_laysBears 214 = .ok (.goto 30, 3) := by decide +kernel
theorem dX11_laysBears_217 : decode cX11_laysBears 217 = .ok (.aload_n 0, 1) := by decide +kernel
theorem dX11_laysBears_218 : decode cX11_laysBears 218 = .ok (.getfield 51, 3) := by decide +kernel
theorem dX11_laysBears_221 : decode cX11_laysBears 221 = .ok (.aload_n 0, 1) := by decide +kernel
theorem dX11_laysBears_222 : decode cX11_laysBears 222 = .ok (.getfield 442, 3) := by decide +kernel
theorem dX11_laysBears_225 : decode cX11_laysBears 225 = .ok (.aload_n 0, 1) := by decide +kernel
theorem dX11_laysBears_226 : decode cX11_laysBears 226 = .ok (.iload 5, 2) := by decide +kernel
theorem dX11_laysBears_228 : decode cX11_laysBears 228 = .ok (.iload 6, 2) := by decide +kernel
theorem dX11_laysBears_230 : decode cX11_laysBears 230 = .ok (.invokevirtual 364, 3) := by decide +kernel
theorem dX11_laysBears_233 : decode cX11_laysBears 233 = .ok (.iastore, 1) := by decide +kernel
theorem dX11_laysBears_234 : decode cX11_laysBears 234 = .ok (.aload_n 0, 1) := by decide +kernel
theorem dX11_laysBears_235 : decode cX11_laysBears 235 = .ok (.dup, 1) := by decide +kernel
theorem dX11_laysBears_236 : decode cX11_laysBears 236 = .ok (.getfield 442, 3) := by decide +kernel
theorem dX11_laysBears_239 : decode cX11_laysBears 239 = .ok (.iconst 1, 1) := by decide +kernel
theorem dX11_laysBears_240 : decode cX11_laysBears 240 = .ok (.iadd, 1) := by decide +kernel
theorem dX11_laysBears_241 : decode cX11_laysBears 241 = .ok (.putfield 442, 3) := by decide +kernel
theorem dX11_laysBears_244 : decode cX11_laysBears 244 = .ok (.iinc 6 1, 3) := by decide +kernel
theorem dX11_laysBears_247 : decode cX11_laysBears 247 = .ok (.goto (-66), 3) := by decide +kernel
theorem dX11_laysBears_250 : decode cX11_laysBears 250 = .ok (.iinc 5 1, 3) := by decide +kernel
theorem dX11_laysBears_253 : decode cX11_laysBears 253 = .ok (.goto (-87), 3) := by decide +kernel
theorem dX11_laysBears_256 : decode cX11_laysBears 256 = .ok (.return_, 1) := by decide +kernel
theorem dX11_hangsBy_0 : decode cX11_hangsBy 0 = .ok (.aload_n 0, 1) := by decide +kernel
theorem dX11_hangsBy_1 : decode cX11_hangsBy 1 = .ok (.getfield 31, 3) := by decide +kernel
theorem dX11_hangsBy_4 : decode cX11_hangsBy 4 = .ok (.iload_n 1, 1) := by decide +kernel
theorem dX11_hangsBy_5 : decode cX11_hangsBy 5 = .ok (.iaload, 1) := by decide +kernel
theorem dX11_hangsBy_6 : decode cX11_hangsBy 6 = .ok (.bipush (-2), 2) := by decide +kernel
theorem dX11_hangsBy_8 : decode cX11_hangsBy 8 = .ok (.if_icmp .ne 16, 3) := by decide +kernel
theorem dX11_hangsBy_11 : decode cX11_hangsBy 11 = .ok (.aload_n 0, 1) := by decide +kernel
theorem dX11_hangsBy_12 : decode cX11_hangsBy 12 = .ok (.getfield 60, 3) := by decide +kernel
theorem dX11_hangsBy_15 : decode cX11_hangsBy 15 = .ok (.bipush 36, 2) := by decide +kernel
theorem dX11_hangsBy_17 : decode cX11_hangsBy 17 = .ok (.iload_n 1, 1) := by decide +kernel
theorem dX11_hangsBy_18 : decode cX11_hangsBy 18 = .ok (.imul, 1) := by decide +kernel
theorem dX11_hangsBy_19 : decode cX11_hangsBy 19 = .ok (.iload_n 2, 1) := by decide +kernel
theorem dX11_hangsBy_20 : decode cX11_hangsBy 20 = .ok (.iadd, 1) := by decide +kernel
theorem dX11_hangsBy_21 : decode cX11_hangsBy 21 = .ok (.iconst 1, 1) := by decide +kernel
theorem dX11_hangsBy_22 : decode cX11_hangsBy 22 = .ok (.bastore, 1) := by decide +kernel
theorem dX11_hangsBy_23 : decode cX11_hangsBy 23 = .ok (.return_, 1) := by decide +kernel
theorem dX11_hangsBy_24 : decode cX11_hangsBy 24 = .ok (.bipush 36, 2) := by decide +kernel
theorem dX11_hangsBy_26 : decode cX11_hangsBy 26 = .ok (.aload_n 0, 1) := by decide +kernel
theorem dX11_hangsBy_27 : decode cX11_hangsBy 27 = .ok (.getfield 31, 3) := by decide +kernel
theorem dX11_hangsBy_30 : decode cX11_hangsBy 30 = .ok (.iload_n 1, 1) := by decide +kernel
theorem dX11_hangsBy_31 : decode cX11_hangsBy 31 = .ok (.iaload, 1) := by decide +kernel
theorem dX11_hangsBy_32 : decode cX11_hangsBy 32 = .ok (.imul, 1) := by decide +kernel
theorem dX11_hangsBy_33 : decode cX11_hangsBy 33 = .ok (.istore_n 3, 1) := by decide +kernel
theorem dX11_hangsBy_34 : decode cX11_hangsBy 34 = .ok (.aload_n 0, 1) := by decide +kernel
theorem dX11_hangsBy_35 : decode cX11_hangsBy 35 = .ok (.getfield 60, 3) := by decide +kernel
theorem dX11_hangsBy_38 : decode cX11_hangsBy 38 = .ok (.iload_n 3, 1) := by decide +kernel
theorem dX11_hangsBy_39 : decode cX11_hangsBy 39 = .ok (.aload_n 0, 1) := by decide +kernel
theorem dX11_hangsBy_40 : decode cX11_hangsBy 40 = .ok (.iload_n 1, 1) := by decide +kernel
theorem dX11_hangsBy_41 : decode cX11_hangsBy 41 = .ok (.iload_n 2, 1) := by decide +kernel
theorem dX11_hangsBy_42 : decode cX11_hangsBy 42 = .ok (.invokevirtual 386, 3) := by decide +kernel
theorem dX11_hangsBy_45 : decode cX11_hangsBy 45 = .ok (.iadd, 1) := by decide +kernel
theorem dX11_hangsBy_46 : decode cX11_hangsBy 46 = .ok (.iconst 1, 1) := by decide +kernel
theorem dX11_hangsBy_47 : decode cX11_hangsBy 47 = .ok (.bastore, 1) := by decide +kernel
theorem dX11_hangsBy_48 : decode cX11_hangsBy 48 = .ok (.aload_n 0, 1) := by decide +kernel
theorem dX11_hangsBy_49 : decode cX11_hangsBy 49 = .ok (.getfield 34, 3) := by decide +kernel
theorem dX11_hangsBy_52 : decode cX11_hangsBy 52 = .ok (.iconst 4, 1) := by decide +kernel
theorem dX11_hangsBy_53 : decode cX11_hangsBy 53 = .ok (.iload_n 1, 1) := by decide +kernel
theorem dX11_hangsBy_54 : decode cX11_hangsBy 54 = .ok (.imul, 1) := by decide +kernel
theorem dX11_hangsBy_55 : decode cX11_hangsBy 55 = .ok (.iaload, 1) := by decide +kernel
theorem dX11_hangsBy_56 : decode cX11_hangsBy 56 = .ok (.bipush 6, 2) := by decide +kernel
theorem dX11_hangsBy_58 : decode cX11_hangsBy 58 = .ok (.if_icmp .eq 4, 3) := by decide +kernel
theorem dX11_hangsBy_61 : decode cX11_hangsBy 61 = .ok (.return_, 1) := by decide +kernel
theorem dX11_hangsBy_62 : decode cX11_hangsBy 62 = .ok (.iconst 0, 1) := by decide +kernel
theorem dX11_hangsBy_63 : decode cX11_hangsBy 63 = .ok (.istore 4, 2) := by decide +kernel
theorem dX11_hangsBy_65 : decode cX11_hangsBy 65 = .ok (.iload 4, 2) := by decide +kernel
theorem dX11_hangsBy_67 : decode cX11_hangsBy 67 = .ok (.iconst 4, 1) := by decide +kernel
theorem dX11_hangsBy_68 : decode cX11_hangsBy 68 = .ok (.if_icmp .ge 35, 3) := by decide +kernel
theorem dX11_hangsBy_71 : decode cX11_hangsBy 71 = .ok (.aload_n 0, 1) := by decide +kernel
theorem dX11_hangsBy_72 : decode cX11_hangsBy 72 = .ok (.iload_n 2, 1) := by decide +kernel
theorem dX11_hangsBy_73 : decode cX11_hangsBy 73 = .ok (.iload 4, 2) := by decide +kernel
theorem dX11_hangsBy_75 : decode cX11_hangsBy 75 = .ok (.invokevirtual 367, 3) := by decide +kernel
theorem dX11_hangsBy_78 : decode cX11_hangsBy 78 = .ok (.iconst (-1), 1) := by decide +kernel
theorem dX11_hangsBy_79 : decode cX11_hangsBy 79 = .ok (.if_icmp .eq 18, 3) := by decide +kernel
theorem dX11_hangsBy_82 : decode cX11_hangsBy 82 = .ok (.aload_n 0, 1) := by decide +kernel
theorem dX11_hangsBy_83 : decode cX11_hangsBy 83 = .ok (.getfield 60, 3) := by decide +kernel
theorem dX11_hangsBy_86 : decode cX11_hangsBy 86 = .ok (.iload_n 3, 1) := by decide +kernel
theorem dX11_hangsBy_87 : decode cX11_hangsBy 87 = .ok (.aload_n 0, 1) := by decide +kernel
theorem dX11_hangsBy_88 : decode cX11_hangsBy 88 = .ok (.iload_n 2, 1) := by decide +kernel
theorem dX11_hangsBy_89 : decode cX11_hangsBy 89 = .ok (.iload 4, 2) := by decide +kernel
theorem dX11_hangsBy_91 : decode cX11_hangsBy 91 = .ok (.invokevirtual 367, 3) := by decide +kernel
theorem dX11_hangsBy_94 : decode cX11_hangsBy 94 = .ok (.iadd, 1) := by decide +kernel
theorem dX11_hangsBy_95 : decode cX11_hangsBy 95 = .ok (.iconst 1, 1) := by decide +kernel
theorem dX11_hangsBy_96 : decode cX11_hangsBy 96 = .ok (.bastore, 1) := by decide +kernel
theorem dX11_hangsBy_97 : decode cX11_hangsBy 97 = .ok (.iinc 4 1, 3) := by decide +kernel
theorem dX11_hangsBy_100 : decode cX11_hangsBy 100 = .ok (.goto (-35), 3) := by decide +kernel
theorem dX11_hangsBy_103 : decode cX11_hangsBy 103 = .ok (.return_, 1) := by decide +kernel
theorem dX11_isDrawn_0 : decode cX11_isDrawn 0 = .ok (.aload_n 0, 1) := by decide +kernel
theorem dX11_isDrawn_1 : decode cX11_isDrawn 1 = .ok (.invokevirtual 396, 3) := by decide +kernel
theorem dX11_isDrawn_4 : decode cX11_isDrawn 4 = .ok (.iconst 0, 1) := by decide +kernel
theorem dX11_isDrawn_5 : decode cX11_isDrawn 5 = .ok (.istore 8, 2) := by decide +kernel
theorem dX11_isDrawn_7 : decode cX11_isDrawn 7 = .ok (.iload 8, 2) := by decide +kernel
theorem dX11_isDrawn_9 : decode cX11_isDrawn 9 = .ok (.iload_n 3, 1) := by decide +kernel
theorem dX11_isDrawn_10 : decode cX11_isDrawn 10 = .ok (.if_icmp .ge 32, 3) := by decide +kernel
theorem dX11_isDrawn_13 : decode cX11_isDrawn 13 = .ok (.aload_n 0, 1) := by decide +kernel
theorem dX11_isDrawn_14 : decode cX11_isDrawn 14 = .ok (.getfield 28, 3) := by decide +kernel
theorem dX11_isDrawn_17 : decode cX11_isDrawn 17 = .ok (.bipush 36, 2) := by decide +kernel
theorem dX11_isDrawn_19 : decode cX11_isDrawn 19 = .ok (.iload_n 1, 1) := by decide +kernel
theorem dX11_isDrawn_20 : decode cX11_isDrawn 20 = .ok (.imul, 1) := by decide +kernel
theorem dX11_isDrawn_21 : decode cX11_isDrawn 21 = .ok (.aload_n 0, 1) := by decide +kernel
theorem dX11_isDrawn_22 : decode cX11_isDrawn 22 = .ok (.getfield 51, 3) := by decide +kernel
theorem dX11_isDrawn_25 : decode cX11_isDrawn 25 = .ok (.aload_n 0, 1) := by decide +kernel
theorem dX11_isDrawn_26 : decode cX11_isDrawn 26 = .ok (.getfield 54, 3) := by decide +kernel
theorem dX11_isDrawn_29 : decode cX11_isDrawn 29 = .ok (.iload 8, 2) := by decide +kernel
theorem dX11_isDrawn_31 : decode cX11_isDrawn 31 = .ok (.iaload, 1) := by decide +kernel
theorem dX11_isDrawn_32 : decode cX11_isDrawn 32 = .ok (.iaload, 1) := by decide +kernel
theorem dX11_isDrawn_33 : decode cX11_isDrawn 33 = .ok (.iadd, 1) := by decide +kernel
theorem dX11_isDrawn_34 : decode cX11_isDrawn 34 = .ok (.iload_n 2, 1) := by decide +kernel
theorem dX11_isDrawn_35 : decode cX11_isDrawn 35 = .ok (.iastore, 1) := by decide +kernel
theorem dX11_isDrawn_36 : decode cX11_isDrawn 36 = .ok (.iinc 8 1, 3) := by decide +kernel
theorem dX11_isDrawn_39 : decode cX11_isDrawn 39 = .ok (.goto (-32), 3) := by decide +kernel
theorem dX11_isDrawn_42 : decode cX11_isDrawn 42 = .ok (.aload_n 0, 1) := by decide +kernel
theorem dX11_isDrawn_43 : decode cX11_isDrawn 43 = .ok (.iload 7, 2) := by decide +kernel
theorem dX11_isDrawn_45 : decode cX11_isDrawn 45 = .ok (.invokevirtual 399, 3) := by decide +kernel
theorem dX11_isDrawn_48 : decode cX11_isDrawn 48 = .ok (.aload_n 0, 1) := by decide +kernel
theorem dX11_isDrawn_49 : decode cX11_isDrawn 49 = .ok (.iload 7, 2) := by decide +kernel
theorem dX11_isDrawn_51 : decode cX11_isDrawn 51 = .ok (.iload 4, 2) := by decide +kernel
theorem dX11_isDrawn_53 : decode cX11_isDrawn 53 = .ok (.iload 5, 2) := by decide +kernel
theorem dX11_isDrawn_55 : decode cX11_isDrawn 55 = .ok (.invokevirtual 406, 3) := by decide +kernel
theorem dX11_isDrawn_58 : decode cX11_isDrawn 58 = .ok (.iload 6, 2) := by decide +kernel
theorem dX11_isDrawn_60 : decode cX11_isDrawn 60 = .ok (.if_icmp .ne 7, 3) := by decide +kernel
theorem dX11_isDrawn_63 : decode cX11_isDrawn 63 = .ok (.iconst 1, 1) := by decide +kernel
theorem dX11_isDrawn_64 : decode cX11_isDrawn 64 = .ok (.goto 4, 3) := by decide +kernel
theorem dX11_isDrawn_67 : decode cX11_isDrawn 67 = .ok (.iconst 0, 1) := by decide +kernel
theorem dX11_isDrawn_68 : decode cX11_isDrawn 68 = .ok (.ireturn, 1) := by decide +kernel
theorem dX11_strokesOf_0 : decode cX11_strokesOf 0 = .ok (.aload_n 0, 1) := by decide +kernel
theorem dX11_strokesOf_1 : decode cX11_strokesOf 1 = .ok (.invokevirtual 396, 3) := by decide +kernel
theorem dX11_strokesOf_4 : decode cX11_strokesOf 4 = .ok (.aload_n 0, 1) := by decide +kernel
theorem dX11_strokesOf_5 : decode cX11_strokesOf 5 = .ok (.iload_n 1, 1) := by decide +kernel
theorem dX11_strokesOf_6 : decode cX11_strokesOf 6 = .ok (.iload_n 3, 1) := by decide +kernel
theorem dX11_strokesOf_7 : decode cX11_strokesOf 7 = .ok (.iload 4, 2) := by decide +kernel
theorem dX11_strokesOf_9 : decode cX11_strokesOf 9 = .ok (.iload 6, 2) := by decide +kernel
theorem dX11_strokesOf_11 : decode cX11_strokesOf 11 = .ok (.invokevirtual 445, 3) := by decide +kernel
theorem dX11_strokesOf_14 : decode cX11_strokesOf 14 = .ok (.iconst 0, 1) := by decide +kernel
theorem dX11_strokesOf_15 : decode cX11_strokesOf 15 = .ok (.istore 7, 2) := by decide +kernel
theorem dX11_strokesOf_17 : decode cX11_strokesOf 17 = .ok (.iload 7, 2) := by decide +kernel
theorem dX11_strokesOf_19 : decode cX11_strokesOf 19 = .ok (.iconst 3, 1) := by decide +kernel
theorem dX11_strokesOf_20 : decode cX11_strokesOf 20 = .ok (.if_icmp .gt 122, 3) := by decide +kernel
theorem dX11_strokesOf_23 : decode cX11_strokesOf 23 = .ok (.iload 7, 2) := by decide +kernel
theorem dX11_strokesOf_25 : decode cX11_strokesOf 25 = .ok (.aload_n 0, 1) := by decide +kernel
theorem dX11_strokesOf_26 : decode cX11_strokesOf 26 = .ok (.getfield 442, 3) := by decide +kernel
theorem dX11_strokesOf_29 : decode cX11_strokesOf 29 = .ok (.if_icmp .gt 113, 3) := by decide +kernel
theorem dX11_strokesOf_32 : decode cX11_strokesOf 32 = .ok (.iconst 0, 1) := by decide +kernel
theorem dX11_strokesOf_33 : decode cX11_strokesOf 33 = .ok (.istore 8, 2) := by decide +kernel
theorem dX11_strokesOf_35 : decode cX11_strokesOf 35 = .ok (.iload 8, 2) := by decide +kernel
theorem dX11_strokesOf_37 : decode cX11_strokesOf 37 = .ok (.iload 7, 2) := by decide +kernel
theorem dX11_strokesOf_39 : decode cX11_strokesOf 39 = .ok (.if_icmp .ge 18, 3) := by decide +kernel
theorem dX11_strokesOf_42 : decode cX11_strokesOf 42 = .ok (.aload_n 0, 1) := by decide +kernel
theorem dX11_strokesOf_43 : decode cX11_strokesOf 43 = .ok (.getfield 54, 3) := by decide +kernel
theorem dX11_strokesOf_46 : decode cX11_strokesOf 46 = .ok (.iload 8, 2) := by decide +kernel
theorem dX11_strokesOf_48 : decode cX11_strokesOf 48 = .ok (.iload 8, 2) := by decide +kernel
theorem dX11_strokesOf_50 : decode cX11_strokesOf 50 = .ok (.iastore, 1) := by decide +kernel
theorem dX11_strokesOf_51 : decode cX11_strokesOf 51 = .ok (.iinc 8 1, 3) := by decide +kernel
theorem dX11_strokesOf_54 : decode cX11_strokesOf 54 = .ok (.goto (-19), 3) := by decide +kernel
theorem dX11_strokesOf_57 : decode cX11_strokesOf 57 = .ok (.iconst 1, 1) := by decide +kernel
theorem dX11_strokesOf_58 : decode cX11_strokesOf 58 = .ok (.istore 8, 2) := by decide +kernel
theorem dX11_strokesOf_60 : decode cX11_strokesOf 60 = .ok (.iload 8, 2) := by decide +kernel
theorem dX11_strokesOf_62 : decode cX11_strokesOf 62 = .ok (.ifCond .eq 74, 3) := by decide +kernel
theorem dX11_strokesOf_65 : decode cX11_strokesOf 65 = .ok (.aload_n 0, 1) := by decide +kernel
theorem dX11_strokesOf_66 : decode cX11_strokesOf 66 = .ok (.iload_n 1, 1) := by decide +kernel
theorem dX11_strokesOf_67 : decode cX11_strokesOf 67 = .ok (.iload_n 2, 1) := by decide +kernel
theorem dX11_strokesOf_68 : decode cX11_strokesOf 68 = .ok (.iload 7, 2) := by decide +kernel
theorem dX11_strokesOf_70 : decode cX11_strokesOf 70 = .ok (.iload_n 3, 1) := by decide +kernel
theorem dX11_strokesOf_71 : decode cX11_strokesOf 71 = .ok (.iload 4, 2) := by decide +kernel
theorem dX11_strokesOf_73 : decode cX11_strokesOf 73 = .ok (.iload 5, 2) := by decide +kernel
theorem dX11_strokesOf_75 : decode cX11_strokesOf 75 = .ok (.iload 6, 2) := by decide +kernel
theorem dX11_strokesOf_77 : decode cX11_strokesOf 77 = .ok (.invokevirtual 449, 3) := by decide +kernel
theorem dX11_strokesOf_80 : decode cX11_strokesOf 80 = .ok (.ifCond .eq 45, 3) := by decide +kernel
theorem dX11_strokesOf_83 : decode cX11_strokesOf 83 = .ok (.iconst 0, 1) := by decide +kernel
theorem dX11_strokesOf_84 : decode cX11_strokesOf 84 = .ok (.istore 9, 2) := by decide +kernel
theorem dX11_strokesOf_86 : decode cX11_strokesOf 86 = .ok (.iload 9, 2) := by decide +kernel
theorem dX11_strokesOf_88 : decode cX11_strokesOf 88 = .ok (.iload 7, 2) := by decide +kernel
theorem dX11_strokesOf_90 : decode cX11_strokesOf 90 = .ok (.if_icmp .ge 32, 3) := by decide +kernel
theorem dX11_strokesOf_93 : decode cX11_strokesOf 93 = .ok (.aload_n 0, 1) := by decide +kernel
theorem dX11_strokesOf_94 : decode cX11_strokesOf 94 = .ok (.getfield 57, 3) := by decide +kernel
theorem dX11_strokesOf_97 : decode cX11_strokesOf 97 = .ok (.iload 9, 2) := by decide +kernel
theorem dX11_strokesOf_99 : decode cX11_strokesOf 99 = .ok (.aload_n 0, 1) := by decide +kernel
theorem dX11_strokesOf_100 : decode cX11_strokesOf 100 = .ok (.aload_n 0, 1) := by decide +kernel
theorem dX11_strokesOf_101 : decode cX11_strokesOf 101 = .ok (.getfield 51, 3) := by decide +kernel
theorem dX11_strokesOf_104 : decode cX11_strokesOf 104 = .ok (.aload_n 0, 1) := by decide +kernel
theorem dX11_strokesOf_105 : decode cX11_strokesOf 105 = .ok (.getfield 54, 3) := by decide +kernel
theorem dX11_strokesOf_108 : decode cX11_strokesOf 108 = .ok (.iload 9, 2) := by decide +kernel
theorem dX11_strokesOf_110 : decode cX11_strokesOf 110 = .ok (.iaload, 1) := by decide +kernel
theorem dX11_strokesOf_111 : decode cX11_strokesOf 111 = .ok (.iaload, 1) := by decide +kernel
theorem dX11_strokesOf_112 : decode cX11_strokesOf 112 = .ok (.invokevirtual 436, 3) := by decide +kernel
theorem dX11_strokesOf_115 : decode cX11_strokesOf 115 = .ok (.iastore, 1) := by decide +kernel
theorem dX11_strokesOf_116 : decode cX11_strokesOf 116 = .ok (.iinc 9 1, 3) := by decide +kernel
theorem dX11_strokesOf_119 : decode cX11_strokesOf 119 = .ok (.goto (-33), 3) := by decide +kernel
theorem dX11_strokesOf_122 : decode cX11_strokesOf 122 = .ok (.iload 7, 2) := by decide +kernel
theorem dX11_strokesOf_124 : decode cX11_strokesOf 124 = .ok (.ireturn, 1) := by decide +kernel
theorem dX11_strokesOf_125 : decode cX11_strokesOf 125 = .ok (.aload_n 0, 1) := by decide +kernel
theorem dX11_strokesOf_126 : decode cX11_strokesOf 126 = .ok (.iload 7, 2) := by decide +kernel
theorem dX11_strokesOf_128 : decode cX11_strokesOf 128 = .ok (.invokevirtual 453, 3) := by decide +kernel
theorem dX11_strokesOf_131 : decode cX11_strokesOf 131 = .ok (.istore 8, 2) := by decide +kernel
theorem dX11_strokesOf_133 : decode cX11_strokesOf 133 = .ok (.goto (-73), 3) := by decide +kernel
theorem dX11_strokesOf_136 : decode cX11_strokesOf 136 = .ok (.iinc 7 1, 3) := by decide +kernel
theorem dX11_strokesOf_139 : decode cX11_strokesOf 139 = .ok (.goto (-122), 3) := by decide +kernel
theorem dX11_strokesOf_142 : decode cX11_strokesOf 142 = .ok (.iconst (-1), 1) := by decide +kernel
theorem dX11_strokesOf_143 : decode cX11_strokesOf 143 = .ok (.ireturn, 1) := by decide +kernel
theorem dX11_nextStrokes_0 : decode cX11_nextStrokes 0 = .ok (.iload_n 1, 1) := by decide +kernel
theorem dX11_nextStrokes_1 : decode cX11_nextStrokes 1 = .ok (.iconst 1, 1) := by decide +kernel
theorem dX11_nextStrokes_2 : decode cX11_nextStrokes 2 = .ok (.isub, 1) := by decide +kernel
theorem dX11_nextStrokes_3 : decode cX11_nextStrokes 3 = .ok (.istore_n 2, 1) := by decide +kernel
theorem dX11_nextStrokes_4 : decode cX11_nextStrokes 4 = .ok (.iload_n 2, 1) := by decide +kernel
theorem dX11_nextStrokes_5 : decode cX11_nextStrokes 5 = .ok (.ifCond .lt 26, 3) := by decide +kernel
theorem dX11_nextStrokes_8 : decode cX11_nextStrokes 8 = .ok (.aload_n 0, 1) := by decide +kernel
theorem dX11_nextStrokes_9 : decode cX11_nextStrokes 9 = .ok (.getfield 54, 3) := by decide +kernel
theorem dX11_nextStrokes_12 : decode cX11_nextStrokes 12 = .ok (.iload_n 2, 1) := by decide +kernel
theorem dX11_nextStrokes_13 : decode cX11_nextStrokes 13 = .ok (.iaload, 1) := by decide +kernel
theorem dX11_nextStrokes_14 : decode cX11_nextStrokes 14 = .ok (.aload_n 0, 1) := by decide +kernel
theorem dX11_nextStrokes_15 : decode cX11_nextStrokes 15 = .ok (.getfield 442, 3) := by decide +kernel
theorem dX11_nextStrokes_18 : decode cX11_nextStrokes 18 = .ok (.iload_n 1, 1) := by decide +kernel
theorem dX11_nextStrokes_19 : decode cX11_nextStrokes 19 = .ok (.isub, 1) := by decide +kernel
theorem dX11_nextStrokes_20 : decode cX11_nextStrokes 20 = .ok (.iload_n 2, 1) := by decide +kernel
theorem dX11_nextStrokes_21 : decode cX11_nextStrokes 21 = .ok (.iadd, 1) := by decide +kernel
theorem dX11_nextStrokes_22 : decode cX11_nextStrokes 22 = .ok (.if_icmp .ne 9, 3) := by decide +kernel
theorem dX11_nextStrokes_25 : decode cX11_nextStrokes 25 = .ok (.iinc 2 (-1), 3) := by decide +kernel
theorem dX11_nextStrokes_28 : decode cX11_nextStrokes 28 = .ok (.goto (-24), 3) := by decide +kernel
theorem dX11_nextStrokes_31 : decode cX11_nextStrokes 31 = .ok (.iload_n 2, 1) := by decide +kernel
theorem dX11_nextStrokes_32 : decode cX11_nextStrokes 32 = .ok (.ifCond .ge 5, 3) := by decide +kernel
theorem dX11_nextStrokes_35 : decode cX11_nextStrokes 35 = .ok (.iconst 0, 1) := by decide +kernel
theorem dX11_nextStrokes_36 : decode cX11_nextStrokes 36 = .ok (.ireturn, 1) := by decide +kernel
theorem dX11_nextStrokes_37 : decode cX11_nextStrokes 37 = .ok (.aload_n 0, 1) := by decide +kernel
theorem dX11_nextStrokes_38 : decode cX11_nextStrokes 38 = .ok (.getfield 54, 3) := by decide +kernel
theorem dX11_nextStrokes_41 : decode cX11_nextStrokes 41 = .ok (.iload_n 2, 1) := by decide +kernel
theorem dX11_nextStrokes_42 : decode cX11_nextStrokes 42 = .ok (.dup2, 1) := by decide +kernel
theorem dX11_nextStrokes_43 : decode cX11_nextStrokes 43 = .ok (.iaload, 1) := by decide +kernel
theorem dX11_nextStrokes_44 : decode cX11_nextStrokes 44 = .ok (.iconst 1, 1) := by decide +kernel
theorem dX11_nextStrokes_45 : decode cX11_nextStrokes 45 = .ok (.iadd, 1) := by decide +kernel
theorem dX11_nextStrokes_46 : decode cX11_nextStrokes 46 = .ok (.iastore, 1) := by decide +kernel
theorem dX11_nextStrokes_47 : decode cX11_nextStrokes 47 = .ok (.iload_n 2, 1) := by decide +kernel
theorem dX11_nextStrokes_48 : decode cX11_nextStrokes 48 = .ok (.iconst 1, 1) := by decide +kernel
theorem dX11_nextStrokes_49 : decode cX11_nextStrokes 49 = .ok (.iadd, 1) := by decide +kernel
theorem dX11_nextStrokes_50 : decode cX11_nextStrokes 50 = .ok (.istore_n 3, 1) := by decide +kernel
theorem dX11_nextStrokes_51 : decode cX11_nextStrokes 51 = .ok (.iload_n 3, 1) := by decide +kernel
theorem dX11_nextStrokes_52 : decode cX11_nextStrokes 52 = .ok (.iload_n 1, 1) := by decide +kernel
theorem dX11_nextStrokes_53 : decode cX11_nextStrokes 53 = .ok (.if_icmp .ge 25, 3) := by decide +kernel
theorem dX11_nextStrokes_56 : decode cX11_nextStrokes 56 = .ok (.aload_n 0, 1) := by decide +kernel
theorem dX11_nextStrokes_57 : decode cX11_nextStrokes 57 = .ok (.getfield 54, 3) := by decide +kernel
theorem dX11_nextStrokes_60 : decode cX11_nextStrokes 60 = .ok (.iload_n 3, 1) := by decide +kernel
theorem dX11_nextStrokes_61 : decode cX11_nextStrokes 61 = .ok (.aload_n 0, 1) := by decide +kernel
theorem dX11_nextStrokes_62 : decode cX11_nextStrokes 62 = .ok (.getfield 54, 3) := by decide +kernel
theorem dX11_nextStrokes_65 : decode cX11_nextStrokes 65 = .ok (.iload_n 3, 1) := by decide +kernel
theorem dX11_nextStrokes_66 : decode cX11_nextStrokes 66 = .ok (.iconst 1, 1) := by decide +kernel
theorem dX11_nextStrokes_67 : decode cX11_nextStrokes 67 = .ok (.isub, 1) := by decide +kernel
theorem dX11_nextStrokes_68 : decode cX11_nextStrokes 68 = .ok (.iaload, 1) := by decide +kernel
theorem dX11_nextStrokes_69 : decode cX11_nextStrokes 69 = .ok (.iconst 1, 1) := by decide +kernel
theorem dX11_nextStrokes_70 : decode cX11_nextStrokes 70 = .ok (.iadd, 1) := by decide +kernel
theorem dX11_nextStrokes_71 : decode cX11_nextStrokes 71 = .ok (.iastore, 1) := by decide +kernel
theorem dX11_nextStrokes_72 : decode cX11_nextStrokes 72 = .ok (.iinc 3 1, 3) := by decide +kernel
theorem dX11_nextStrokes_75 : decode cX11_nextStrokes 75 = .ok (.goto (-24), 3) := by decide +kernel
theorem dX11_nextStrokes_78 : decode cX11_nextStrokes 78 = .ok (.iconst 1, 1) := by decide +kernel
theorem dX11_nextStrokes_79 : decode cX11_nextStrokes 79 = .ok (.ireturn, 1) := by decide +kernel
theorem dX11_refusesStrokes_0 : decode cX11_refusesStrokes 0 = .ok (.aload_n 0, 1) := by decide +kernel
theorem dX11_refusesStrokes_1 : decode cX11_refusesStrokes 1 = .ok (.iload_n 1, 1) := by decide +kernel
theorem dX11_refusesStrokes_2 : decode cX11_refusesStrokes 2 = .ok (.invokevirtual 349, 3) := by decide +kernel
theorem dX11_refusesStrokes_5 : decode cX11_refusesStrokes 5 = .ok (.ifCond .eq 30, 3) := by decide +kernel
theorem dX11_refusesStrokes_8 : decode cX11_refusesStrokes 8 = .ok (.aload_n 0, 1) := by decide +kernel
theorem dX11_refusesStrokes_9 : decode cX11_refusesStrokes 9 = .ok (.iload_n 3, 1) := by decide +kernel
theorem dX11_refusesStrokes_10 : decode cX11_refusesStrokes 10 = .ok (.iload 4, 2) := by decide +kernel
theorem dX11_refusesStrokes_12 : decode cX11_refusesStrokes 12 = .ok (.invokevirtual 392, 3) := by decide +kernel
theorem dX11_refusesStrokes_15 : decode cX11_refusesStrokes 15 = .ok (.ifCond .eq 20, 3) := by decide +kernel
theorem dX11_refusesStrokes_18 : decode cX11_refusesStrokes 18 = .ok (.aload_n 0, 1) := by decide +kernel
theorem dX11_refusesStrokes_19 : decode cX11_refusesStrokes 19 = .ok (.iload_n 2, 1) := by decide +kernel
theorem dX11_refusesStrokes_20 : decode cX11_refusesStrokes 20 = .ok (.invokevirtual 409, 3) := by decide +kernel
theorem dX11_refusesStrokes_23 : decode cX11_refusesStrokes 23 = .ok (.ifCond .eq 12, 3) := by decide +kernel
theorem dX11_refusesStrokes_26 : decode cX11_refusesStrokes 26 = .ok (.aload_n 0, 1) := by decide +kernel
theorem dX11_refusesStrokes_27 : decode cX11_refusesStrokes 27 = .ok (.iload 5, 2) := by decide +kernel
theorem dX11_refusesStrokes_29 : decode cX11_refusesStrokes 29 = .ok (.invokevirtual 409, 3) := by decide +kernel
theorem dX11_refusesStrokes_32 : decode cX11_refusesStrokes 32 = .ok (.ifCond .ne 5, 3) := by decide +kernel
theorem dX11_refusesStrokes_35 : decode cX11_refusesStrokes 35 = .ok (.iconst 1, 1) := by decide +kernel
theorem dX11_refusesStrokes_36 : decode cX11_refusesStrokes 36 = .ok (.ireturn, 1) := by decide +kernel
theorem dX11_refusesStrokes_37 : decode cX11_refusesStrokes 37 = .ok (.iload 6, 2) := by decide +kernel
theorem dX11_refusesStrokes_39 : decode cX11_refusesStrokes 39 = .ok (.iconst 0, 1) := by decide +kernel
theorem dX11_refusesStrokes_40 : decode cX11_refusesStrokes 40 = .ok (.bipush 12, 2) := by decide +kernel
theorem dX11_refusesStrokes_42 : decode cX11_refusesStrokes 42 = .ok (.invokestatic 166, 3) := by decide +kernel
theorem dX11_refusesStrokes_45 : decode cX11_refusesStrokes 45 = .ok (.ifCond .eq 7, 3) := by decide +kernel
theorem dX11_refusesStrokes_48 : decode cX11_refusesStrokes 48 = .ok (.iconst 0, 1) := by decide +kernel
theorem dX11_refusesStrokes_49 : decode cX11_refusesStrokes 49 = .ok (.goto 4, 3) := by decide +kernel
theorem dX11_refusesStrokes_52 : decode cX11_refusesStrokes 52 = .ok (.iconst 2, 1) := by decide +kernel
theorem dX11_refusesStrokes_53 : decode cX11_refusesStrokes 53 = .ok (.ireturn, 1) := by decide +kernel
theorem dX11_strokes_0 : decode cX11_strokes 0 = .ok (.aload_n 0, 1) := by decide +kernel
theorem dX11_strokes_1 : decode cX11_strokes 1 = .ok (.iconst 0, 1) := by decide +kernel
theorem dX11_strokes_2 : decode cX11_strokes 2 = .ok (.putfield 78, 3) := by decide +kernel
theorem dX11_strokes_5 : decode cX11_strokes 5 = .ok (.aload_n 0, 1) := by decide +kernel
theorem dX11_strokes_6 : decode cX11_strokes 6 = .ok (.iload_n 1, 1) := by decide +kernel
theorem dX11_strokes_7 : decode cX11_strokes 7 = .ok (.iload_n 2, 1) := by decide +kernel
theorem dX11_strokes_8 : decode cX11_strokes 8 = .ok (.iload_n 3, 1) := by decide +kernel
theorem dX11_strokes_9 : decode cX11_strokes 9 = .ok (.iload 4, 2) := by decide +kernel
theorem dX11_strokes_11 : decode cX11_strokes 11 = .ok (.iload 5, 2) := by decide +kernel
theorem dX11_strokes_13 : decode cX11_strokes 13 = .ok (.iload 6, 2) := by decide +kernel
theorem dX11_strokes_15 : decode cX11_strokes 15 = .ok (.invokevirtual 456, 3) := by decide +kernel
theorem dX11_strokes_18 : decode cX11_strokes 18 = .ok (.istore 7, 2) := by decide +kernel
theorem dX11_strokes_20 : decode cX11_strokes 20 = .ok (.iload 7, 2) := by decide +kernel
theorem dX11_strokes_22 : decode cX11_strokes 22 = .ok (.ifCond .le 10, 3) := by decide +kernel
theorem dX11_strokes_25 : decode cX11_strokes 25 = .ok (.aload_n 0, 1) := by decide +kernel
theorem dX11_strokes_26 : decode cX11_strokes 26 = .ok (.iload 7, 2) := by decide +kernel
theorem dX11_strokes_28 : decode cX11_strokes 28 = .ok (.invokevirtual 84, 3) := by decide +kernel
theorem dX11_strokes_31 : decode cX11_strokes 31 = .ok (.ireturn, 1) := by decide +kernel
theorem dX11_strokes_32 : decode cX11_strokes 32 = .ok (.aload_n 0, 1) := by decide +kernel
theorem dX11_strokes_33 : decode cX11_strokes 33 = .ok (.iload_n 1, 1) := by decide +kernel
theorem dX11_strokes_34 : decode cX11_strokes 34 = .ok (.iload_n 2, 1) := by decide +kernel
theorem dX11_strokes_35 : decode cX11_strokes 35 = .ok (.iload_n 3, 1) := by decide +kernel
theorem dX11_strokes_36 : decode cX11_strokes 36 = .ok (.aload_n 0, 1) := by decide +kernel
theorem dX11_strokes_37 : decode cX11_strokes 37 = .ok (.iload 4, 2) := by decide +kernel
theorem dX11_strokes_39 : decode cX11_strokes 39 = .ok (.invokevirtual 352, 3) := by decide +kernel
theorem dX11_strokes_42 : decode cX11_strokes 42 = .ok (.iload 5, 2) := by decide +kernel
theorem dX11_strokes_44 : decode cX11_strokes 44 = .ok (.iload 6, 2) := by decide +kernel
theorem dX11_strokes_46 : decode cX11_strokes 46 = .ok (.invokevirtual 460, 3) := by decide +kernel
theorem dX11_strokes_49 : decode cX11_strokes 49 = .ok (.istore 8, 2) := by decide +kernel
theorem dX11_strokes_51 : decode cX11_strokes 51 = .ok (.aload_n 0, 1) := by decide +kernel
theorem dX11_strokes_52 : decode cX11_strokes 52 = .ok (.iload 8, 2) := by decide +kernel
theorem dX11_strokes_54 : decode cX11_strokes 54 = .ok (.iconst (-1), 1) := by decide +kernel
theorem dX11_strokes_55 : decode cX11_strokes 55 = .ok (.if_icmp .ne 8, 3) := by decide +kernel
theorem dX11_strokes_58 : decode cX11_strokes 58 = .ok (.bipush (-2), 2) := by decide +kernel
theorem dX11_strokes_60 : decode cX11_strokes 60 = .ok (.goto 5, 3) := by decide +kernel
theorem dX11_strokes_63 : decode cX11_strokes 63 = .ok (.iload 8, 2) := by decide +kernel
theorem dX11_strokes_65 : decode cX11_strokes 65 = .ok (.invokevirtual 88, 3) := by decide +kernel
theorem dX11_strokes_68 : decode cX11_strokes 68 = .ok (.ireturn, 1) := by decide +kernel
theorem dX11_strokeAt_0 : decode cX11_strokeAt 0 = .ok (.aload_n 0, 1) := by decide +kernel
theorem dX11_strokeAt_1 : decode cX11_strokeAt 1 = .ok (.iconst 0, 1) := by decide +kernel
theorem dX11_strokeAt_2 : decode cX11_strokeAt 2 = .ok (.putfield 78, 3) := by decide +kernel
theorem dX11_strokeAt_5 : decode cX11_strokeAt 5 = .ok (.aload_n 0, 1) := by decide +kernel
theorem dX11_strokeAt_6 : decode cX11_strokeAt 6 = .ok (.iload_n 1, 1) := by decide +kernel
theorem dX11_strokeAt_7 : decode cX11_strokeAt 7 = .ok (.iload_n 2, 1) := by decide +kernel
theorem dX11_strokeAt_8 : decode cX11_strokeAt 8 = .ok (.iload_n 3, 1) := by decide +kernel
theorem dX11_strokeAt_9 : decode cX11_strokeAt 9 = .ok (.iload 4, 2) := by decide +kernel
theorem dX11_strokeAt_11 : decode cX11_strokeAt 11 = .ok (.iload 5, 2) := by decide +kernel
theorem dX11_strokeAt_13 : decode cX11_strokeAt 13 = .ok (.iload 6, 2) := by decide +kernel
theorem dX11_strokeAt_15 : decode cX11_strokeAt 15 = .ok (.invokevirtual 456, 3) := by decide +kernel
theorem dX11_strokeAt_18 : decode cX11_strokeAt 18 = .ok (.istore 8, 2) := by decide +kernel
theorem dX11_strokeAt_20 : decode cX11_strokeAt 20 = .ok (.iload 8, 2) := by decide +kernel
theorem dX11_strokeAt_22 : decode cX11_strokeAt 22 = .ok (.ifCond .le 10, 3) := by decide +kernel
theorem dX11_strokeAt_25 : decode cX11_strokeAt 25 = .ok (.aload_n 0, 1) := by decide +kernel
theorem dX11_strokeAt_26 : decode cX11_strokeAt 26 = .ok (.iload 8, 2) := by decide +kernel
theorem dX11_strokeAt_28 : decode cX11_strokeAt 28 = .ok (.invokevirtual 84, 3) := by decide +kernel
theorem dX11_strokeAt_31 : decode cX11_strokeAt 31 = .ok (.ireturn, 1) := by decide +kernel
theorem dX11_strokeAt_32 : decode cX11_strokeAt 32 = .ok (.iload 7, 2) := by decide +kernel
theorem dX11_strokeAt_34 : decode cX11_strokeAt 34 = .ok (.ifCond .lt 39, 3) := by decide +kernel
theorem dX11_strokeAt_37 : decode cX11_strokeAt 37 = .ok (.iload 7, 2) := by decide +kernel
theorem dX11_strokeAt_39 : decode cX11_strokeAt 39 = .ok (.aload_n 0, 1) := by decide +kernel
theorem dX11_strokeAt_40 : decode cX11_strokeAt 40 = .ok (.iload_n 1, 1) := by decide +kernel
theorem dX11_strokeAt_41 : decode cX11_strokeAt 41 = .ok (.iload_n 2, 1) := by decide +kernel
theorem dX11_strokeAt_42 : decode cX11_strokeAt 42 = .ok (.iload_n 3, 1) := by decide +kernel
theorem dX11_strokeAt_43 : decode cX11_strokeAt 43 = .ok (.aload_n 0, 1) := by decide +kernel
theorem dX11_strokeAt_44 : decode cX11_strokeAt 44 = .ok (.iload 4, 2) := by decide +kernel
theorem dX11_strokeAt_46 : decode cX11_strokeAt 46 = .ok (.invokevirtual 352, 3) := by decide +kernel
theorem dX11_strokeAt_49 : decode cX11_strokeAt 49 = .ok (.iload 5, 2) := by decide +kernel
theorem dX11_strokeAt_51 : decode cX11_strokeAt 51 = .ok (.iload 6, 2) := by decide +kernel
theorem dX11_strokeAt_53 : decode cX11_strokeAt 53 = .ok (.invokevirtual 460, 3) := by decide +kernel
theorem dX11_strokeAt_56 : decode cX11_strokeAt 56 = .ok (.if_icmp .ge 17, 3) := by decide +kernel
theorem dX11_strokeAt_59 : decode cX11_strokeAt 59 = .ok (.aload_n 0, 1) := by decide +kernel
theorem dX11_strokeAt_60 : decode cX11_strokeAt 60 = .ok (.aload_n 0, 1) := by decide +kernel
theorem dX11_strokeAt_61 : decode cX11_strokeAt 61 = .ok (.getfield 57, 3) := by decide +kernel
theorem dX11_strokeAt_64 : decode cX11_strokeAt 64 = .ok (.iload 7, 2) := by decide +kernel
theorem dX11_strokeAt_66 : decode cX11_strokeAt 66 = .ok (.iaload, 1) := by decide +kernel
theorem dX11_strokeAt_67 : decode cX11_strokeAt 67 = .ok (.invokevirtual 88, 3) := by decide +kernel
theorem dX11_strokeAt_70 : decode cX11_strokeAt 70 = .ok (.goto 8, 3) := by decide +kernel
theorem dX11_strokeAt_73 : decode cX11_strokeAt 73 = .ok (.aload_n 0, 1) := by decide +kernel
theorem dX11_strokeAt_74 : decode cX11_strokeAt 74 = .ok (.iconst 1, 1) := by decide +kernel
theorem dX11_strokeAt_75 : decode cX11_strokeAt 75 = .ok (.invokevirtual 84, 3) := by decide +kernel
theorem dX11_strokeAt_78 : decode cX11_strokeAt 78 = .ok (.ireturn, 1) := by decide +kernel
theorem dX11_isEdge_0 : decode cX11_isEdge 0 = .ok (.aload_n 0, 1) := by decide +kernel
theorem dX11_isEdge_1 : decode cX11_isEdge 1 = .ok (.iload_n 1, 1) := by decide +kernel
theorem dX11_isEdge_2 : decode cX11_isEdge 2 = .ok (.invokevirtual 358, 3) := by decide +kernel
theorem dX11_isEdge_5 : decode cX11_isEdge 5 = .ok (.ifCond .eq 45, 3) := by decide +kernel
theorem dX11_isEdge_8 : decode cX11_isEdge 8 = .ok (.aload_n 0, 1) := by decide +kernel
theorem dX11_isEdge_9 : decode cX11_isEdge 9 = .ok (.iload_n 1, 1) := by decide +kernel
theorem dX11_isEdge_10 : decode cX11_isEdge 10 = .ok (.invokevirtual 358, 3) := by decide +kernel
theorem dX11_isEdge_13 : decode cX11_isEdge 13 = .ok (.aload_n 0, 1) := by decide +kernel
theorem dX11_isEdge_14 : decode cX11_isEdge 14 = .ok (.getfield 341, 3) := by decide +kernel
theorem dX11_isEdge_17 : decode cX11_isEdge 17 = .ok (.getfield 194, 3) := by decide +kernel
theorem dX11_isEdge_20 : decode cX11_isEdge 20 = .ok (.iconst 1, 1) := by decide +kernel
theorem dX11_isEdge_21 : decode cX11_isEdge 21 = .ok (.isub, 1) := by decide +kernel
theorem dX11_isEdge_22 : decode cX11_isEdge 22 = .ok (.if_icmp .eq 28, 3) := by decide +kernel
theorem dX11_isEdge_25 : decode cX11_isEdge 25 = .ok (.aload_n 0, 1) := by decide +kernel
theorem dX11_isEdge_26 : decode cX11_isEdge 26 = .ok (.iload_n 1, 1) := by decide +kernel
theorem dX11_isEdge_27 : decode cX11_isEdge 27 = .ok (.invokevirtual 361, 3) := by decide +kernel
theorem dX11_isEdge_30 : decode cX11_isEdge 30 = .ok (.ifCond .eq 20, 3) := by decide +kernel
theorem dX11_isEdge_33 : decode cX11_isEdge 33 = .ok (.aload_n 0, 1) := by decide +kernel
theorem dX11_isEdge_34 : decode cX11_isEdge 34 = .ok (.iload_n 1, 1) := by decide +kernel
theorem dX11_isEdge_35 : decode cX11_isEdge 35 = .ok (.invokevirtual 361, 3) := by decide +kernel
theorem dX11_isEdge_38 : decode cX11_isEdge 38 = .ok (.aload_n 0, 1) := by decide +kernel
theorem dX11_isEdge_39 : decode cX11_isEdge 39 = .ok (.getfield 341, 3) := by decide +kernel
theorem dX11_isEdge_42 : decode cX11_isEdge 42 = .ok (.getfield 256, 3) := by decide +kernel
theorem dX11_isEdge_45 : decode cX11_isEdge 45 = .ok (.iconst 1, 1) := by decide +kernel
theorem dX11_isEdge_46 : decode cX11_isEdge 46 = .ok (.isub, 1) := by decide +kernel
theorem dX11_isEdge_47 : decode cX11_isEdge 47 = .ok (.if_icmp .ne 7, 3) := by decide +kernel
theorem dX11_isEdge_50 : decode cX11_isEdge 50 = .ok (.iconst 1, 1) := by decide +kernel
theorem dX11_isEdge_51 : decode cX11_isEdge 51 = .ok (.goto 4, 3) := by decide +kernel
theorem dX11_isEdge_54 : decode cX11_isEdge 54 = .ok (.iconst 0, 1) := by decide +kernel
theorem dX11_isEdge_55 : decode cX11_isEdge 55 = .ok (.ireturn, 1) := by decide +kernel
theorem dX11_ink_0 : decode cX11_ink 0 = .ok (.aload_n 0, 1) := by decide +kernel
theorem dX11_ink_1 : decode cX11_ink 1 = .ok (.iconst 0, 1) := by decide +kernel
theorem dX11_ink_2 : decode cX11_ink 2 = .ok (.putfield 78, 3) := by decide +kernel
theorem dX11_ink_5 : decode cX11_ink 5 = .ok (.aload_n 0, 1) := by decide +kernel
theorem dX11_ink_6 : decode cX11_ink 6 = .ok (.iload_n 1, 1) := by decide +kernel
theorem dX11_ink_7 : decode cX11_ink 7 = .ok (.iload_n 2, 1) := by decide +kernel
theorem dX11_ink_8 : decode cX11_ink 8 = .ok (.invokevirtual 392, 3) := by decide +kernel
theorem dX11_ink_11 : decode cX11_ink 11 = .ok (.ifCond .eq 11, 3) := by decide +kernel
theorem dX11_ink_14 : decode cX11_ink 14 = .ok (.aload_n 0, 1) := by decide +kernel
theorem dX11_ink_15 : decode cX11_ink 15 = .ok (.iload_n 3, 1) := by decide +kernel
theorem dX11_ink_16 : decode cX11_ink 16 = .ok (.invokevirtual 409, 3) := by decide +kernel
theorem dX11_ink_19 : decode cX11_ink 19 = .ok (.ifCond .ne 9, 3) := by decide +kernel
theorem dX11_ink_22 : decode cX11_ink 22 = .ok (.aload_n 0, 1) := by decide +kernel
theorem dX11_ink_23 : decode cX11_ink 23 = .ok (.iconst 1, 1) := by decide +kernel
theorem dX11_ink_24 : decode cX11_ink 24 = .ok (.invokevirtual 84, 3) := by decide +kernel
theorem dX11_ink_27 : decode cX11_ink 27 = .ok (.ireturn, 1) := by decide +kernel
theorem dX11_ink_28 : decode cX11_ink 28 = .ok (.bipush 36, 2) := by decide +kernel
theorem dX11_ink_30 : decode cX11_ink 30 = .ok (.iload_n 1, 1) := by decide +kernel
theorem dX11_ink_31 : decode cX11_ink 31 = .ok (.imul, 1) := by decide +kernel
theorem dX11_ink_32 : decode cX11_ink 32 = .ok (.istore 4, 2) := by decide +kernel
theorem dX11_ink_34 : decode cX11_ink 34 = .ok (.iconst 0, 1) := by decide +kernel
theorem dX11_ink_35 : decode cX11_ink 35 = .ok (.istore 5, 2) := by decide +kernel
theorem dX11_ink_37 : decode cX11_ink 37 = .ok (.iload 5, 2) := by decide +kernel
theorem dX11_ink_39 : decode cX11_ink 39 = .ok (.bipush 36, 2) := by decide +kernel
theorem dX11_ink_41 : decode cX11_ink 41 = .ok (.if_icmp .ge 18, 3) := by decide +kernel
theorem dX11_ink_44 : decode cX11_ink 44 = .ok (.aload_n 0, 1) := by decide +kernel
theorem dX11_ink_45 : decode cX11_ink 45 = .ok (.getfield 66, 3) := by decide +kernel
theorem dX11_ink_48 : decode cX11_ink 48 = .ok (.iload 5, 2) := by decide +kernel
theorem dX11_ink_50 : decode cX11_ink 50 = .ok (.bipush 99, 2) := by decide +kernel
theorem dX11_ink_52 : decode cX11_ink 52 = .ok (.iastore, 1) := by decide +kernel
theorem dX11_ink_53 : decode cX11_ink 53 = .ok (.iinc 5 1, 3) := by decide +kernel
theorem dX11_ink_56 : decode cX11_ink 56 = .ok (.goto (-19), 3) := by decide +kernel
theorem dX11_ink_59 : decode cX11_ink 59 = .ok (.aload_n 0, 1) := by decide +kernel
theorem dX11_ink_60 : decode cX11_ink 60 = .ok (.iload_n 2, 1) := by decide +kernel
theorem dX11_ink_61 : decode cX11_ink 61 = .ok (.invokevirtual 352, 3) := by decide +kernel
theorem dX11_ink_64 : decode cX11_ink 64 = .ok (.istore 5, 2) := by decide +kernel
theorem dX11_ink_66 : decode cX11_ink 66 = .ok (.aload_n 0, 1) := by decide +kernel
theorem dX11_ink_67 : decode cX11_ink 67 = .ok (.getfield 66, 3) := by decide +kernel
theorem dX11_ink_70 : decode cX11_ink 70 = .ok (.iload 5, 2) := by decide +kernel
theorem dX11_ink_72 : decode cX11_ink 72 = .ok (.aload_n 0, 1) := by decide +kernel
theorem dX11_ink_73 : decode cX11_ink 73 = .ok (.getfield 17, 3) := by decide +kernel
theorem dX11_ink_76 : decode cX11_ink 76 = .ok (.iload 4, 2) := by decide +kernel
theorem dX11_ink_78 : decode cX11_ink 78 = .ok (.iload 5, 2) := by decide +kernel
theorem dX11_ink_80 : decode cX11_ink 80 = .ok (.iadd, 1) := by decide +kernel
theorem dX11_ink_81 : decode cX11_ink 81 = .ok (.iaload, 1) := by decide +kernel
theorem dX11_ink_82 : decode cX11_ink 82 = .ok (.iload_n 3, 1) := by decide +kernel
theorem dX11_ink_83 : decode cX11_ink 83 = .ok (.if_icmp .ne 7, 3) := by decide +kernel
theorem dX11_ink_86 : decode cX11_ink 86 = .ok (.iconst 0, 1) := by decide +kernel
theorem dX11_ink_87 : decode cX11_ink 87 = .ok (.goto 4, 3) := by decide +kernel
theorem dX11_ink_90 : decode cX11_ink 90 = .ok (.iconst 1, 1) := by decide +kernel
theorem dX11_ink_91 : decode cX11_ink 91 = .ok (.iastore, 1) := by decide +kernel
theorem dX11_ink_92 : decode cX11_ink 92 = .ok (.iconst 0, 1) := by decide +kernel
theorem dX11_ink_93 : decode cX11_ink 93 = .ok (.istore 6, 2) := by decide +kernel
theorem dX11_ink_95 : decode cX11_ink 95 = .ok (.iload 6, 2) := by decide +kernel
theorem dX11_ink_97 : decode cX11_ink 97 = .ok (.aload_n 0, 1) := by decide +kernel
theorem dX11_ink_98 : decode cX11_ink 98 = .ok (.getfield 341, 3) := by decide +kernel
theorem dX11_ink_101 : decode cX11_ink 101 = .ok (.invokevirtual 373, 3) := by decide +kernel
theorem dX11_ink_104 : decode cX11_ink 104 = .ok (.if_icmp .ge 114, 3) := by decide +kernel
theorem dX11_ink_107 : decode cX11_ink 107 = .ok (.iconst 0, 1) := by decide +kernel
theorem dX11_ink_108 : decode cX11_ink 108 = .ok (.istore 7, 2) := by decide +kernel
theorem dX11_ink_110 : decode cX11_ink 110 = .ok (.iload 7, 2) := by decide +kernel
theorem dX11_ink_112 : decode cX11_ink 112 = .ok (.aload_n 0, 1) := by decide +kernel
theorem dX11_ink_113 : decode cX11_ink 113 = .ok (.getfield 341, 3) := by decide +kernel
theorem dX11_ink_116 : decode cX11_ink 116 = .ok (.invokevirtual 373, 3) := by decide +kernel
theorem dX11_ink_119 : decode cX11_ink 119 = .ok (.if_icmp .ge 93, 3) := by decide +kernel
theorem dX11_ink_122 : decode cX11_ink 122 = .ok (.iconst 0, 1) := by decide +kernel
theorem dX11_ink_123 : decode cX11_ink 123 = .ok (.istore 8, 2) := by decide +kernel
theorem dX11_ink_125 : decode cX11_ink 125 = .ok (.iload 8, 2) := by decide +kernel
theorem dX11_ink_127 : decode cX11_ink 127 = .ok (.iconst 4, 1) := by decide +kernel
theorem dX11_ink_128 : decode cX11_ink 128 = .ok (.if_icmp .ge 78, 3) := by decide +kernel
theorem dX11_ink_131 : decode cX11_ink 131 = .ok (.aload_n 0, 1) := by decide +kernel
theorem dX11_ink_132 : decode cX11_ink 132 = .ok (.iload 7, 2) := by decide +kernel
theorem dX11_ink_134 : decode cX11_ink 134 = .ok (.iload 8, 2) := by decide +kernel
theorem dX11_ink_136 : decode cX11_ink 136 = .ok (.invokevirtual 367, 3) := by decide +kernel
theorem dX11_ink_139 : decode cX11_ink 139 = .ok (.istore 9, 2) := by decide +kernel
theorem dX11_ink_141 : decode cX11_ink 141 = .ok (.iload 9, 2) := by decide +kernel
theorem dX11_ink_143 : decode cX11_ink 143 = .ok (.iconst (-1), 1) := by decide +kernel
theorem dX11_ink_144 : decode cX11_ink 144 = .ok (.if_icmp .ne 6, 3) := by decide +kernel
theorem dX11_ink_147 : decode cX11_ink 147 = .ok (.goto 53, 3) := by decide +kernel
theorem dX11_ink_150 : decode cX11_ink 150 = .ok (.aload_n 0, 1) := by decide +kernel
theorem dX11_ink_151 : decode cX11_ink 151 = .ok (.getfield 66, 3) := by decide +kernel
theorem dX11_ink_154 : decode cX11_ink 154 = .ok (.iload 7, 2) := by decide +kernel
theorem dX11_ink_156 : decode cX11_ink 156 = .ok (.iaload, 1) := by decide +kernel
theorem dX11_ink_157 : decode cX11_ink 157 = .ok (.aload_n 0, 1) := by decide +kernel
theorem dX11_ink_158 : decode cX11_ink 158 = .ok (.getfield 17, 3) := by decide +kernel
theorem dX11_ink_161 : decode cX11_ink 161 = .ok (.iload 4, 2) := by decide +kernel
theorem dX11_ink_163 : decode cX11_ink 163 = .ok (.iload 9, 2) := by decide +kernel
theorem dX11_ink_165 : decode cX11_ink 165 = .ok (.iadd, 1) := by decide +kernel
theorem dX11_ink_166 : decode cX11_ink 166 = .ok (.iaload, 1) := by decide +kernel
theorem dX11_ink_167 : decode cX11_ink 167 = .ok (.iload_n 3, 1) := by decide +kernel
theorem dX11_ink_168 : decode cX11_ink 168 = .ok (.if_icmp .ne 7, 3) := by decide +kernel
theorem dX11_ink_171 : decode cX11_ink 171 = .ok (.iconst 0, 1) := by decide +kernel
theorem dX11_ink_172 : decode cX11_ink 172 = .ok (.goto 4, 3) := by decide +kernel
theorem dX11_ink_175 : decode cX11_ink 175 = .ok (.iconst 1, 1) := by decide +kernel
theorem dX11_ink_176 : decode cX11_ink 176 = .ok (.iadd, 1) := by decide +kernel
theorem dX11_ink_177 : decode cX11_ink 177 = .ok (.istore 10, 2) := by decide +kernel
theorem dX11_ink_179 : decode cX11_ink 179 = .ok (.iload 10, 2) := by decide +kernel
theorem dX11_ink_181 : decode cX11_ink 181 = .ok (.aload_n 0, 1) := by decide +kernel
theorem dX11_ink_182 : decode cX11_ink 182 = .ok (.getfield 66, 3) := by decide +kernel
theorem dX11_ink_185 : decode cX11_ink 185 = .ok (.iload 9, 2) := by decide +kernel
theorem dX11_ink_187 : decode cX11_ink 187 = .ok (.iaload, 1) := by decide +kernel
theorem dX11_ink_188 : decode cX11_ink 188 = .ok (.if_icmp .ge 12, 3) := by decide +kernel
theorem dX11_ink_191 : decode cX11_ink 191 = .ok (.aload_n 0, 1) := by decide +kernel
theorem dX11_ink_192 : decode cX11_ink 192 = .ok (.getfield 66, 3) := by decide +kernel
theorem dX11_ink_195 : decode cX11_ink 195 = .ok (.iload 9, 2) := by decide +kernel
theorem dX11_ink_197 : decode cX11_ink 197 = .ok (.iload 10, 2) := by decide +kernel
theorem dX11_ink_199 : decode cX11_ink 199 = .ok (.iastore, 1) := by decide +kernel
theorem dX11_ink_200 : decode cX11_ink 200 = .ok (.iinc 8 1, 3) := by decide +kernel
theorem dX11_ink_203 : decode cX11_ink 203 = .ok (.goto (-78), 3) := by decide +kernel
theorem dX11_ink_206 : decode cX11_ink 206 = .ok (.iinc 7 1, 3) := by decide +kernel
theorem dX11_ink_209 : decode cX11_ink 209 = .ok (.goto (-99), 3) := by decide +kernel
theorem dX11_ink_212 : decode cX11_ink 212 = .ok (.iinc 6 1, 3) := by decide +kernel
theorem dX11_ink_215 : decode cX11_ink 215 = .ok (.goto (-120), 3) := by decide +kernel
theorem dX11_ink_218 : decode cX11_ink 218 = .ok (.bipush 99, 2) := by decide +kernel
theorem dX11_ink_220 : decode cX11_ink 220 = .ok (.istore 6, 2) := by decide +kernel
theorem dX11_ink_222 : decode cX11_ink 222 = .ok (.iconst 0, 1) := by decide +kernel
theorem dX11_ink_223 : decode cX11_ink 223 = .ok (.istore 7, 2) := by decide +kernel
theorem dX11_ink_225 : decode cX11_ink 225 = .ok (.iload 7, 2) := by decide +kernel
theorem dX11_ink_227 : decode cX11_ink 227 = .ok (.aload_n 0, 1) := by decide +kernel
theorem dX11_ink_228 : decode cX11_ink 228 = .ok (.getfield 341, 3) := by decide +kernel
theorem dX11_ink_231 : decode cX11_ink 231 = .ok (.invokevirtual 373, 3) := by decide +kernel
theorem dX11_ink_234 : decode cX11_ink 234 = .ok (.if_icmp .ge 39, 3) := by decide +kernel
theorem dX11_ink_237 : decode cX11_ink 237 = .ok (.aload_n 0, 1) := by decide +kernel
theorem dX11_ink_238 : decode cX11_ink 238 = .ok (.iload 7, 2) := by decide +kernel
theorem dX11_ink_240 : decode cX11_ink 240 = .ok (.invokevirtual 463, 3) := by decide +kernel
theorem dX11_ink_243 : decode cX11_ink 243 = .ok (.ifCond .eq 24, 3) := by decide +kernel
theorem dX11_ink_246 : decode cX11_ink 246 = .ok (.aload_n 0, 1) := by decide +kernel
theorem dX11_ink_247 : decode cX11_ink 247 = .ok (.getfield 66, 3) := by decide +kernel
theorem dX11_ink_250 : decode cX11_ink 250 = .ok (.iload 7, 2) := by decide +kernel
theorem dX11_ink_252 : decode cX11_ink 252 = .ok (.iaload, 1) := by decide +kernel
theorem dX11_ink_253 : decode cX11_ink 253 = .ok (.iload 6, 2) := by decide +kernel
theorem dX11_ink_255 : decode cX11_ink 255 = .ok (.if_icmp .ge 12, 3) := by decide +kernel
theorem dX11_ink_258 : decode cX11_ink 258 = .ok (.aload_n 0, 1) := by decide +kernel
theorem dX11_ink_259 : decode cX11_ink 259 = .ok (.getfield 66, 3) := by decide +kernel
theorem dX11_ink_262 : decode cX11_ink 262 = .ok (.iload 7, 2) := by decide +kernel
theorem dX11_ink_264 : decode cX11_ink 264 = .ok (.iaload, 1) := by decide +kernel
theorem dX11_ink_265 : decode cX11_ink 265 = .ok (.istore 6, 2) := by decide +kernel
theorem dX11_ink_267 : decode cX11_ink 267 = .ok (.iinc 7 1, 3) := by decide +kernel
theorem dX11_ink_270 : decode cX11_ink 270 = .ok (.goto (-45), 3) := by decide +kernel
theorem dX11_ink_273 : decode cX11_ink 273 = .ok (.aload_n 0, 1) := by decide +kernel
theorem dX11_ink_274 : decode cX11_ink 274 = .ok (.iload 6, 2) := by decide +kernel
theorem dX11_ink_276 : decode cX11_ink 276 = .ok (.invokevirtual 88, 3) := by decide +kernel
theorem dX11_ink_279 : decode cX11_ink 279 = .ok (.ireturn, 1) := by decide +kernel
theorem dX11_firstUnseen_0 : decode cX11_firstUnseen 0 = .ok (.iconst 0, 1) := by decide +kernel
theorem dX11_firstUnseen_1 : decode cX11_firstUnseen 1 = .ok (.istore_n 1, 1) := by decide +kernel
theorem dX11_firstUnseen_2 : decode cX11_firstUnseen 2 = .ok (.iload_n 1, 1) := by decide +kernel
theorem dX11_firstUnseen_3 : decode cX11_firstUnseen 3 = .ok (.aload_n 0, 1) := by decide +kernel
theorem dX11_firstUnseen_4 : decode cX11_firstUnseen 4 = .ok (.getfield 341, 3) := by decide +kernel
theorem dX11_firstUnseen_7 : decode cX11_firstUnseen 7 = .ok (.getfield 319, 3) := by decide +kernel
theorem dX11_firstUnseen_10 : decode cX11_firstUnseen 10 = .ok (.if_icmp .ge 54, 3) := by decide +kernel
theorem dX11_firstUnseen_13 : decode cX11_firstUnseen 13 = .ok (.aload_n 0, 1) := by decide +kernel
theorem dX11_firstUnseen_14 : decode cX11_firstUnseen 14 = .ok (.aload_n 0, 1) := by decide +kernel
theorem dX11_firstUnseen_15 : decode cX11_firstUnseen 15 = .ok (.getfield 341, 3) := by decide +kernel
theorem dX11_firstUnseen_18 : decode cX11_firstUnseen 18 = .ok (.getfield 325, 3) := by decide +kernel
theorem dX11_firstUnseen_21 : decode cX11_firstUnseen 21 = .ok (.iload_n 1, 1) := by decide +kernel
theorem dX11_firstUnseen_22 : decode cX11_firstUnseen 22 = .ok (.iaload, 1) := by decide +kernel
theorem dX11_firstUnseen_23 : decode cX11_firstUnseen 23 = .ok (.aload_n 0, 1) := by decide +kernel
theorem dX11_firstUnseen_24 : decode cX11_firstUnseen 24 = .ok (.getfield 341, 3) := by decide +kernel
theorem dX11_firstUnseen_27 : decode cX11_firstUnseen 27 = .ok (.getfield 322, 3) := by decide +kernel
theorem dX11_firstUnseen_30 : decode cX11_firstUnseen 30 = .ok (.iload_n 1, 1) := by decide +kernel
theorem dX11_firstUnseen_31 : decode cX11_firstUnseen 31 = .ok (.iaload, 1) := by decide +kernel
theorem dX11_firstUnseen_32 : decode cX11_firstUnseen 32 = .ok (.aload_n 0, 1) := by decide +kernel
theorem dX11_firstUnseen_33 : decode cX11_firstUnseen 33 = .ok (.getfield 341, 3) := by decide +kernel
theorem dX11_firstUnseen_36 : decode cX11_firstUnseen 36 = .ok (.getfield 328, 3) := by decide +kernel
theorem dX11_firstUnseen_39 : decode cX11_firstUnseen 39 = .ok (.iload_n 1, 1) := by decide +kernel
theorem dX11_firstUnseen_40 : decode cX11_firstUnseen 40 = .ok (.iaload, 1) := by decide +kernel
theorem dX11_firstUnseen_41 : decode cX11_firstUnseen 41 = .ok (.invokevirtual 406, 3) := by decide +kernel
theorem dX11_firstUnseen_44 : decode cX11_firstUnseen 44 = .ok (.aload_n 0, 1) := by decide +kernel
theorem dX11_firstUnseen_45 : decode cX11_firstUnseen 45 = .ok (.getfield 341, 3) := by decide +kernel
theorem dX11_firstUnseen_48 : decode cX11_firstUnseen 48 = .ok (.getfield 331, 3) := by decide +kernel
theorem dX11_firstUnseen_51 : decode cX11_firstUnseen 51 = .ok (.iload_n 1, 1) := by decide +kernel
theorem dX11_firstUnseen_52 : decode cX11_firstUnseen 52 = .ok (.iaload, 1) := by decide +kernel
theorem dX11_firstUnseen_53 : decode cX11_firstUnseen 53 = .ok (.if_icmp .eq 5, 3) := by decide +kernel
theorem dX11_firstUnseen_56 : decode cX11_firstUnseen 56 = .ok (.iload_n 1, 1) := by decide +kernel
theorem dX11_firstUnseen_57 : decode cX11_firstUnseen 57 = .ok (.ireturn, 1) := by decide +kernel
theorem dX11_firstUnseen_58 : decode cX11_firstUnseen 58 = .ok (.iinc 1 1, 3) := by decide +kernel
theorem dX11_firstUnseen_61 : decode cX11_firstUnseen 61 = .ok (.goto (-59), 3) := by decide +kernel
theorem dX11_firstUnseen_64 : decode cX11_firstUnseen 64 = .ok (.bipush (-2), 2) := by decide +kernel
theorem dX11_firstUnseen_66 : decode cX11_firstUnseen 66 = .ok (.ireturn, 1) := by decide +kernel
theorem dX11_latestSeen_0 : decode cX11_latestSeen 0 = .ok (.iconst 0, 1) := by decide +kernel
theorem dX11_latestSeen_1 : decode cX11_latestSeen 1 = .ok (.istore_n 1, 1) := by decide +kernel
theorem dX11_latestSeen_2 : decode cX11_latestSeen 2 = .ok (.iconst 0, 1) := by decide +kernel
theorem dX11_latestSeen_3 : decode cX11_latestSeen 3 = .ok (.istore_n 2, 1) := by decide +kernel
theorem dX11_latestSeen_4 : decode cX11_latestSeen 4 = .ok (.iload_n 2, 1) := by decide +kernel
theorem dX11_latestSeen_5 : decode cX11_latestSeen 5 = .ok (.aload_n 0, 1) := by decide +kernel
theorem dX11_latestSeen_6 : decode cX11_latestSeen 6 = .ok (.getfield 341, 3) := by decide +kernel
theorem dX11_latestSeen_9 : decode cX11_latestSeen 9 = .ok (.getfield 319, 3) := by decide +kernel
theorem dX11_latestSeen_12 : decode cX11_latestSeen 12 = .ok (.if_icmp .ge 36, 3) := by decide +kernel
theorem dX11_latestSeen_15 : decode cX11_latestSeen 15 = .ok (.aload_n 0, 1) := by decide +kernel
theorem dX11_latestSeen_16 : decode cX11_latestSeen 16 = .ok (.getfield 341, 3) := by decide +kernel
theorem dX11_latestSeen_19 : decode cX11_latestSeen 19 = .ok (.getfield 325, 3) := by decide +kernel
theorem dX11_latestSeen_22 : decode cX11_latestSeen 22 = .ok (.iload_n 2, 1) := by decide +kernel
theorem dX11_latestSeen_23 : decode cX11_latestSeen 23 = .ok (.iaload, 1) := by decide +kernel
theorem dX11_latestSeen_24 : decode cX11_latestSeen 24 = .ok (.iload_n 1, 1) := by decide +kernel
theorem dX11_latestSeen_25 : decode cX11_latestSeen 25 = .ok (.if_icmp .le 15, 3) := by decide +kernel
theorem dX11_latestSeen_28 : decode cX11_latestSeen 28 = .ok (.aload_n 0, 1) := by decide +kernel
theorem dX11_latestSeen_29 : decode cX11_latestSeen 29 = .ok (.getfield 341, 3) := by decide +kernel
theorem dX11_latestSeen_32 : decode cX11_latestSeen 32 = .ok (.getfield 325, 3) := by decide +kernel
theorem dX11_latestSeen_35 : decode cX11_latestSeen 35 = .ok (.iload_n 2, 1) := by decide +kernel
theorem dX11_latestSeen_36 : decode cX11_latestSeen 36 = .ok (.iaload, 1) := by decide +kernel
theorem dX11_latestSeen_37 : decode cX11_latestSeen 37 = .ok (.goto 4, 3) := by decide +kernel
theorem dX11_latestSeen_40 : decode cX11_latestSeen 40 = .ok (.iload_n 1, 1) := by decide +kernel
theorem dX11_latestSeen_41 : decode cX11_latestSeen 41 = .ok (.istore_n 1, 1) := by decide +kernel
theorem dX11_latestSeen_42 : decode cX11_latestSeen 42 = .ok (.iinc 2 1, 3) := by decide +kernel
theorem dX11_latestSeen_45 : decode cX11_latestSeen 45 = .ok (.goto (-41), 3) := by decide +kernel
theorem dX11_latestSeen_48 : decode cX11_latestSeen 48 = .ok (.iload_n 1, 1) := by decide +kernel
theorem dX11_latestSeen_49 : decode cX11_latestSeen 49 = .ok (.ireturn, 1) := by decide +kernel
theorem dX11_judge_0 : decode cX11_judge 0 = .ok (.aload_n 0, 1) := by decide +kernel
theorem dX11_judge_1 : decode cX11_judge 1 = .ok (.iconst 0, 1) := by decide +kernel
theorem dX11_judge_2 : decode cX11_judge 2 = .ok (.putfield 78, 3) := by decide +kernel
theorem dX11_judge_5 : decode cX11_judge 5 = .ok (.aload_n 0, 1) := by decide +kernel
theorem dX11_judge_6 : decode cX11_judge 6 = .ok (.getfield 341, 3) := by decide +kernel
theorem dX11_judge_9 : decode cX11_judge 9 = .ok (.ifnonnull 9, 3) := by decide +kernel
theorem dX11_judge_12 : decode cX11_judge 12 = .ok (.aload_n 0, 1) := by decide +kernel
theorem dX11_judge_13 : decode cX11_judge 13 = .ok (.iconst 1, 1) := by decide +kernel
theorem dX11_judge_14 : decode cX11_judge 14 = .ok (.invokevirtual 84, 3) := by decide +kernel
theorem dX11_judge_17 : decode cX11_judge 17 = .ok (.ireturn, 1) := by decide +kernel
theorem dX11_judge_18 : decode cX11_judge 18 = .ok (.aload_n 0, 1) := by decide +kernel
theorem dX11_judge_19 : decode cX11_judge 19 = .ok (.invokevirtual 466, 3) := by decide +kernel
theorem dX11_judge_22 : decode cX11_judge 22 = .ok (.aload_n 0, 1) := by decide +kernel
theorem dX11_judge_23 : decode cX11_judge 23 = .ok (.aload_n 0, 1) := by decide +kernel
theorem dX11_judge_24 : decode cX11_judge 24 = .ok (.invokevirtual 469, 3) := by decide +kernel
theorem dX11_judge_27 : decode cX11_judge 27 = .ok (.invokevirtual 399, 3) := by decide +kernel
theorem dX11_judge_30 : decode cX11_judge 30 = .ok (.aload_n 0, 1) := by decide +kernel
theorem dX11_judge_31 : decode cX11_judge 31 = .ok (.aload_n 0, 1) := by decide +kernel
theorem dX11_judge_32 : decode cX11_judge 32 = .ok (.invokevirtual 472, 3) := by decide +kernel
theorem dX11_judge_35 : decode cX11_judge 35 = .ok (.invokevirtual 88, 3) := by decide +kernel
theorem dX11_judge_38 : decode cX11_judge 38 = .ok (.ireturn, 1) := by decide +kernel
theorem dX11_isUnknown_0 : decode cX11_isUnknown 0 = .ok (.aload_n 0, 1) := by decide +kernel
theorem dX11_isUnknown_1 : decode cX11_isUnknown 1 = .ok (.getfield 341, 3) := by decide +kernel
theorem dX11_isUnknown_4 : decode cX11_isUnknown 4 = .ok (.getfield 268, 3) := by decide +kernel
theorem dX11_isUnknown_7 : decode cX11_isUnknown 7 = .ok (.iload_n 1, 1) := by decide +kernel
theorem dX11_isUnknown_8 : decode cX11_isUnknown 8 = .ok (.iaload, 1) := by decide +kernel
theorem dX11_isUnknown_9 : decode cX11_isUnknown 9 = .ok (.bipush (-2), 2) := by decide +kernel
theorem dX11_isUnknown_11 : decode cX11_isUnknown 11 = .ok (.if_icmp .eq 23, 3) := by decide +kernel
theorem dX11_isUnknown_14 : decode cX11_isUnknown 14 = .ok (.aload_n 0, 1) := by decide +kernel
theorem dX11_isUnknown_15 : decode cX11_isUnknown 15 = .ok (.getfield 341, 3) := by decide +kernel
theorem dX11_isUnknown_18 : decode cX11_isUnknown 18 = .ok (.getfield 270, 3) := by decide +kernel
theorem dX11_isUnknown_21 : decode cX11_isUnknown 21 = .ok (.iconst 4, 1) := by decide +kernel
theorem dX11_isUnknown_22 : decode cX11_isUnknown 22 = .ok (.iload_n 1, 1) := by decide +kernel
theorem dX11_isUnknown_23 : decode cX11_isUnknown 23 = .ok (.imul, 1) := by decide +kernel
theorem dX11_isUnknown_24 : decode cX11_isUnknown 24 = .ok (.iaload, 1) := by decide +kernel
theorem dX11_isUnknown_25 : decode cX11_isUnknown 25 = .ok (.bipush 10, 2) := by decide +kernel
theorem dX11_isUnknown_27 : decode cX11_isUnknown 27 = .ok (.if_icmp .ne 7, 3) := by decide +kernel
theorem dX11_isUnknown_30 : decode cX11_isUnknown 30 = .ok (.iconst 1, 1) := by decide +kernel
theorem dX11_isUnknown_31 : decode cX11_isUnknown 31 = .ok (.goto 4, 3) := by decide +kernel
theorem dX11_isUnknown_34 : decode cX11_isUnknown 34 = .ok (.iconst 0, 1) := by decide +kernel
theorem dX11_isUnknown_35 : decode cX11_isUnknown 35 = .ok (.ireturn, 1) := by decide +kernel
theorem dX11_fitting_0 : decode cX11_fitting 0 = .ok (.iconst 0, 1) := by decide +kernel
theorem dX11_fitting_1 : decode cX11_fitting 1 = .ok (.istore_n 2, 1) := by decide +kernel
theorem dX11_fitting_2 : decode cX11_fitting 2 = .ok (.iconst 1, 1) := by decide +kernel
theorem dX11_fitting_3 : decode cX11_fitting 3 = .ok (.istore_n 3, 1) := by decide +kernel
theorem dX11_fitting_4 : decode cX11_fitting 4 = .ok (.iconst 0, 1) := by decide +kernel
theorem dX11_fitting_5 : decode cX11_fitting 5 = .ok (.istore 4, 2) := by decide +kernel
theorem dX11_fitting_7 : decode cX11_fitting 7 = .ok (.iload 4, 2) := by decide +kernel
theorem dX11_fitting_9 : decode cX11_fitting 9 = .ok (.bipush 6, 2) := by decide +kernel
theorem dX11_fitting_11 : decode cX11_fitting 11 = .ok (.if_icmp .ge 25, 3) := by decide +kernel
theorem dX11_fitting_14 : decode cX11_fitting 14 = .ok (.aload_n 0, 1) := by decide +kernel
theorem dX11_fitting_15 : decode cX11_fitting 15 = .ok (.getfield 69, 3) := by decide +kernel
theorem dX11_fitting_18 : decode cX11_fitting 18 = .ok (.iload 4, 2) := by decide +kernel
theorem dX11_fitting_20 : decode cX11_fitting 20 = .ok (.iconst 0, 1) := by decide +kernel
theorem dX11_fitting_21 : decode cX11_fitting 21 = .ok (.iastore, 1) := by decide +kernel
theorem dX11_fitting_22 : decode cX11_fitting 22 = .ok (.aload_n 0, 1) := by decide +kernel
theorem dX11_fitting_23 : decode cX11_fitting 23 = .ok (.getfield 75, 3) := by decide +kernel
theorem dX11_fitting_26 : decode cX11_fitting 26 = .ok (.iload 4, 2) := by decide +kernel
theorem dX11_fitting_28 : decode cX11_fitting 28 = .ok (.iconst 0, 1) := by decide +kernel
theorem dX11_fitting_29 : decode cX11_fitting 29 = .ok (.iastore, 1) := by decide +kernel
theorem dX11_fitting_30 : decode cX11_fitting 30 = .ok (.iinc 4 1, 3) := by decide +kernel
theorem dX11_fitting_33 : decode cX11_fitting 33 = .ok (.goto (-26), 3) := by decide +kernel
theorem dX11_fitting_36 : decode cX11_fitting 36 = .ok (.iload_n 3, 1) := by decide +kernel
theorem dX11_fitting_37 : decode cX11_fitting 37 = .ok (.ifCond .eq 166, 3) := by decide +kernel
theorem dX11_fitting_40 : decode cX11_fitting 40 = .ok (.aload_n 0, 1) := by decide +kernel
theorem dX11_fitting_41 : decode cX11_fitting 41 = .ok (.invokevirtual 466, 3) := by decide +kernel
theorem dX11_fitting_44 : decode cX11_fitting 44 = .ok (.iconst 0, 1) := by decide +kernel
theorem dX11_fitting_45 : decode cX11_fitting 45 = .ok (.istore 4, 2) := by decide +kernel
theorem dX11_fitting_47 : decode cX11_fitting 47 = .ok (.iload 4, 2) := by decide +kernel
theorem dX11_fitting_49 : decode cX11_fitting 49 = .ok (.aload_n 0, 1) := by decide +kernel
theorem dX11_fitting_50 : decode cX11_fitting 50 = .ok (.getfield 341, 3) := by decide +kernel
theorem dX11_fitting_53 : decode cX11_fitting 53 = .ok (.getfield 230, 3) := by decide +kernel
theorem dX11_fitting_56 : decode cX11_fitting 56 = .ok (.if_icmp .ge 65, 3) := by decide +kernel
theorem dX11_fitting_59 : decode cX11_fitting 59 = .ok (.iconst 0, 1) := by decide +kernel
theorem dX11_fitting_60 : decode cX11_fitting 60 = .ok (.istore 5, 2) := by decide +kernel
theorem dX11_fitting_62 : decode cX11_fitting 62 = .ok (.iload 5, 2) := by decide +kernel
theorem dX11_fitting_64 : decode cX11_fitting 64 = .ok (.iconst 4, 1) := by decide +kernel
theorem dX11_fitting_65 : decode cX11_fitting 65 = .ok (.if_icmp .ge 50, 3) := by decide +kernel
theorem dX11_fitting_68 : decode cX11_fitting 68 = .ok (.aload_n 0, 1) := by decide +kernel
theorem dX11_fitting_69 : decode cX11_fitting 69 = .ok (.iload 4, 2) := by decide +kernel
theorem dX11_fitting_71 : decode cX11_fitting 71 = .ok (.invokevirtual 475, 3) := by decide +kernel
theorem dX11_fitting_74 : decode cX11_fitting 74 = .ok (.ifCond .eq 41, 3) := by decide +kernel
theorem dX11_fitting_77 : decode cX11_fitting 77 = .ok (.aload_n 0, 1) := by decide +kernel
theorem dX11_fitting_78 : decode cX11_fitting 78 = .ok (.getfield 34, 3) := by decide +kernel
theorem dX11_fitting_81 : decode cX11_fitting 81 = .ok (.iconst 4, 1) := by decide +kernel
theorem dX11_fitting_82 : decode cX11_fitting 82 = .ok (.iload 4, 2) := by decide +kernel
theorem dX11_fitting_84 : decode cX11_fitting 84 = .ok (.imul, 1) := by decide +kernel
theorem dX11_fitting_85 : decode cX11_fitting 85 = .ok (.iload 5, 2) := by decide +kernel
theorem dX11_fitting_87 : decode cX11_fitting 87 = .ok (.iadd, 1) := by decide +kernel
theorem dX11_fitting_88 : decode cX11_fitting 88 = .ok (.aload_n 0, 1) := by decide +kernel
theorem dX11_fitting_89 : decode cX11_fitting 89 = .ok (.getfield 341, 3) := by decide +kernel
theorem dX11_fitting_92 : decode cX11_fitting 92 = .ok (.getfield 317, 3) := by decide +kernel
theorem dX11_fitting_95 : decode cX11_fitting 95 = .ok (.iconst 4, 1) := by decide +kernel
theorem dX11_fitting_96 : decode cX11_fitting 96 = .ok (.aload_n 0, 1) := by decide +kernel
theorem dX11_fitting_97 : decode cX11_fitting 97 = .ok (.getfield 69, 3) := by decide +kernel
theorem dX11_fitting_100 : decode cX11_fitting 100 = .ok (.iload 4, 2) := by decide +kernel
theorem dX11_fitting_102 : decode cX11_fitting 102 = .ok (.iaload, 1) := by decide +kernel
theorem dX11_fitting_103 : decode cX11_fitting 103 = .ok (.imul, 1) := by decide +kernel
theorem dX11_fitting_104 : decode cX11_fitting 104 = .ok (.iload 5, 2) := by decide +kernel
theorem dX11_fitting_106 : decode cX11_fitting 106 = .ok (.iadd, 1) := by decide +kernel
theorem dX11_fitting_107 : decode cX11_fitting 107 = .ok (.iaload, 1) := by decide +kernel
theorem dX11_fitting_108 : decode cX11_fitting 108 = .ok (.iastore, 1) := by decide +kernel
theorem dX11_fitting_109 : decode cX11_fitting 109 = .ok (.iinc 5 1, 3) := by decide +kernel
theorem dX11_fitting_112 : decode cX11_fitting 112 = .ok (.goto (-50), 3) := by decide +kernel
theorem dX11_fitting_115 : decode cX11_fitting 115 = .ok (.iinc 4 1, 3) := by decide +kernel
theorem dX11_fitting_118 : decode cX11_fitting 118 = .ok (.goto (-71), 3) := by decide +kernel
theorem dX11_fitting_121 : decode cX11_fitting 121 = .ok (.aload_n 0, 1) := by decide +kernel
theorem dX11_fitting_122 : decode cX11_fitting 122 = .ok (.aload_n 0, 1) := by decide +kernel
theorem dX11_fitting_123 : decode cX11_fitting 123 = .ok (.invokevirtual 469, 3) := by decide +kernel
theorem dX11_fitting_126 : decode cX11_fitting 126 = .ok (.invokevirtual 399, 3) := by decide +kernel
theorem dX11_fitting_129 : decode cX11_fitting 129 = .ok (.aload_n 0, 1) := by decide +kernel
theorem dX11_fitting_130 : decode cX11_fitting 130 = .ok (.invokevirtual 472, 3) := by decide +kernel
theorem dX11_fitting_133 : decode cX11_fitting 133 = .ok (.bipush (-2), 2) := by decide +kernel
theorem dX11_fitting_135 : decode cX11_fitting 135 = .ok (.if_icmp .ne 60, 3) := by decide +kernel
theorem dX11_fitting_138 : decode cX11_fitting 138 = .ok (.iconst 0, 1) := by decide +kernel
theorem dX11_fitting_139 : decode cX11_fitting 139 = .ok (.istore 4, 2) := by decide +kernel
theorem dX11_fitting_141 : decode cX11_fitting 141 = .ok (.iload 4, 2) := by decide +kernel
theorem dX11_fitting_143 : decode cX11_fitting 143 = .ok (.bipush 6, 2) := by decide +kernel
theorem dX11_fitting_145 : decode cX11_fitting 145 = .ok (.if_icmp .ge 47, 3) := by decide +kernel
theorem dX11_fitting_148 : decode cX11_fitting 148 = .ok (.aload_n 0, 1) := by decide +kernel
theorem dX11_fitting_149 : decode cX11_fitting 149 = .ok (.getfield 75, 3) := by decide +kernel
theorem dX11_fitting_152 : decode cX11_fitting 152 = .ok (.iload 4, 2) := by decide +kernel
theorem dX11_fitting_154 : decode cX11_fitting 154 = .ok (.dup2, 1) := by decide +kernel
theorem dX11_fitting_155 : decode cX11_fitting 155 = .ok (.iaload, 1) := by decide +kernel
theorem dX11_fitting_156 : decode cX11_fitting 156 = .ok (.iconst 1, 1) := by decide +kernel
theorem dX11_fitting_157 : decode cX11_fitting 157 = .ok (.aload_n 0, 1) := by decide +kernel
theorem dX11_fitting_158 : decode cX11_fitting 158 = .ok (.getfield 69, 3) := by decide +kernel
theorem dX11_fitting_161 : decode cX11_fitting 161 = .ok (.iload 4, 2) := by decide +kernel
theorem dX11_fitting_163 : decode cX11_fitting 163 = .ok (.iaload, 1) := by decide +kernel
theorem dX11_fitting_164 : decode cX11_fitting 164 = .ok (.ishl, 1) := by decide +kernel
theorem dX11_fitting_165 : decode cX11_fitting 165 = .ok (.ior, 1) := by decide +kernel
theorem dX11_fitting_166 : decode cX11_fitting 166 = .ok (.iastore, 1) := by decide +kernel
theorem dX11_fitting_167 : decode cX11_fitting 167 = .ok (.iload_n 2, 1) := by decide +kernel
theorem dX11_fitting_168 : decode cX11_fitting 168 = .ok (.iload_n 1, 1) := by decide +kernel
theorem dX11_fitting_169 : decode cX11_fitting 169 = .ok (.if_icmp .ne 17, 3) := by decide +kernel
theorem dX11_fitting_172 : decode cX11_fitting 172 = .ok (.aload_n 0, 1) := by decide +kernel
theorem dX11_fitting_173 : decode cX11_fitting 173 = .ok (.getfield 72, 3) := by decide +kernel
theorem dX11_fitting_176 : decode cX11_fitting 176 = .ok (.iload 4, 2) := by decide +kernel
theorem dX11_fitting_178 : decode cX11_fitting 178 = .ok (.aload_n 0, 1) := by decide +kernel
theorem dX11_fitting_179 : decode cX11_fitting 179 = .ok (.getfield 69, 3) := by decide +kernel
theorem dX11_fitting_182 : decode cX11_fitting 182 = .ok (.iload 4, 2) := by decide +kernel
theorem dX11_fitting_184 : decode cX11_fitting 184 = .ok (.iaload, 1) := by decide +kernel
theorem dX11_fitting_185 : decode cX11_fitting 185 = .ok (.iastore, 1) := by decide +kernel
theorem dX11_fitting_186 : decode cX11_fitting 186 = .ok (.iinc 4 1, 3) := by decide +kernel
theorem dX11_fitting_189 : decode cX11_fitting 189 = .ok (.goto (-48), 3) := by decide +kernel
theorem dX11_fitting_192 : decode cX11_fitting 192 = .ok (.iinc 2 1, 3) := by decide +kernel
theorem dX11_fitting_195 : decode cX11_fitting 195 = .ok (.aload_n 0, 1) := by decide +kernel
theorem dX11_fitting_196 : decode cX11_fitting 196 = .ok (.invokevirtual 478, 3) := by decide +kernel
theorem dX11_fitting_199 : decode cX11_fitting 199 = .ok (.istore_n 3, 1) := by decide +kernel
theorem dX11_fitting_200 : decode cX11_fitting 200 = .ok (.goto (-164), 3) := by decide +kernel
theorem dX11_fitting_203 : decode cX11_fitting 203 = .ok (.iload_n 2, 1) := by decide +kernel
theorem dX11_fitting_204 : decode cX11_fitting 204 = .ok (.ireturn, 1) := by decide +kernel
theorem dX11_nextRow_0 : decode cX11_nextRow 0 = .ok (.aload_n 0, 1) := by decide +kernel
theorem dX11_nextRow_1 : decode cX11_nextRow 1 = .ok (.getfield 341, 3) := by decide +kernel
theorem dX11_nextRow_4 : decode cX11_nextRow 4 = .ok (.getfield 230, 3) := by decide +kernel
theorem dX11_nextRow_7 : decode cX11_nextRow 7 = .ok (.iconst 1, 1) := by decide +kernel
theorem dX11_nextRow_8 : decode cX11_nextRow 8 = .ok (.isub, 1) := by decide +kernel
theorem dX11_nextRow_9 : decode cX11_nextRow 9 = .ok (.istore_n 1, 1) := by decide +kernel
theorem dX11_nextRow_10 : decode cX11_nextRow 10 = .ok (.iload_n 1, 1) := by decide +kernel
theorem dX11_nextRow_11 : decode cX11_nextRow 11 = .ok (.ifCond .lt 55, 3) := by decide +kernel
theorem dX11_nextRow_14 : decode cX11_nextRow 14 = .ok (.aload_n 0, 1) := by decide +kernel
theorem dX11_nextRow_15 : decode cX11_nextRow 15 = .ok (.iload_n 1, 1) := by decide +kernel
theorem dX11_nextRow_16 : decode cX11_nextRow 16 = .ok (.invokevirtual 475, 3) := by decide +kernel
theorem dX11_nextRow_19 : decode cX11_nextRow 19 = .ok (.ifCond .ne 6, 3) := by decide +kernel
theorem dX11_nextRow_22 : decode cX11_nextRow 22 = .ok (.goto 38, 3) := by decide +kernel
theorem dX11_nextRow_25 : decode cX11_nextRow 25 = .ok (.aload_n 0, 1) := by decide +kernel
theorem dX11_nextRow_26 : decode cX11_nextRow 26 = .ok (.getfield 69, 3) := by decide +kernel
theorem dX11_nextRow_29 : decode cX11_nextRow 29 = .ok (.iload_n 1, 1) := by decide +kernel
theorem dX11_nextRow_30 : decode cX11_nextRow 30 = .ok (.dup2, 1) := by decide +kernel
theorem dX11_nextRow_31 : decode cX11_nextRow 31 = .ok (.iaload, 1) := by decide +kernel
theorem dX11_nextRow_32 : decode cX11_nextRow 32 = .ok (.iconst 1, 1) := by decide +kernel
theorem dX11_nextRow_33 : decode cX11_nextRow 33 = .ok (.iadd, 1) := by decide +kernel
theorem dX11_nextRow_34 : decode cX11_nextRow 34 = .ok (.iastore, 1) := by decide +kernel
theorem dX11_nextRow_35 : decode cX11_nextRow 35 = .ok (.aload_n 0, 1) := by decide +kernel
theorem dX11_nextRow_36 : decode cX11_nextRow 36 = .ok (.getfield 69, 3) := by decide +kernel
theorem dX11_nextRow_39 : decode cX11_nextRow 39 = .ok (.iload_n 1, 1) := by decide +kernel
theorem dX11_nextRow_40 : decode cX11_nextRow 40 = .ok (.iaload, 1) := by decide +kernel
theorem dX11_nextRow_41 : decode cX11_nextRow 41 = .ok (.aload_n 0, 1) := by decide +kernel
theorem dX11_nextRow_42 : decode cX11_nextRow 42 = .ok (.getfield 341, 3) := by decide +kernel
theorem dX11_nextRow_45 : decode cX11_nextRow 45 = .ok (.getfield 314, 3) := by decide +kernel
theorem dX11_nextRow_48 : decode cX11_nextRow 48 = .ok (.if_icmp .ge 5, 3) := by decide +kernel
theorem dX11_nextRow_51 : decode cX11_nextRow 51 = .ok (.iconst 1, 1) := by decide +kernel
theorem dX11_nextRow_52 : decode cX11_nextRow 52 = .ok (.ireturn, 1) := by decide +kernel
theorem dX11_nextRow_53 : decode cX11_nextRow 53 = .ok (.aload_n 0, 1) := by decide +kernel
theorem dX11_nextRow_54 : decode cX11_nextRow 54 = .ok (.getfield 69, 3) := by decide +kernel
theorem dX11_nextRow_57 : decode cX11_nextRow 57 = .ok (.iload_n 1, 1) := by decide +kernel
theorem dX11_nextRow_58 : decode cX11_nextRow 58 = .ok (.iconst 0, 1) := by decide +kernel
theorem dX11_nextRow_59 : decode cX11_nextRow 59 = .ok (.iastore, 1) := by decide +kernel
theorem dX11_nextRow_60 : decode cX11_nextRow 60 = .ok (.iinc 1 (-1), 3) := by decide +kernel
theorem dX11_nextRow_63 : decode cX11_nextRow 63 = .ok (.goto (-53), 3) := by decide +kernel
theorem dX11_nextRow_66 : decode cX11_nextRow 66 = .ok (.iconst 0, 1) := by decide +kernel
theorem dX11_nextRow_67 : decode cX11_nextRow 67 = .ok (.ireturn, 1) := by decide +kernel
theorem dX11_refusesFits_0 : decode cX11_refusesFits 0 = .ok (.aload_n 0, 1) := by decide +kernel
theorem dX11_refusesFits_1 : decode cX11_refusesFits 1 = .ok (.getfield 341, 3) := by decide +kernel
theorem dX11_refusesFits_4 : decode cX11_refusesFits 4 = .ok (.ifnonnull 7, 3) := by decide +kernel
theorem dX11_refusesFits_7 : decode cX11_refusesFits 7 = .ok (.iconst 1, 1) := by decide +kernel
theorem dX11_refusesFits_8 : decode cX11_refusesFits 8 = .ok (.goto 29, 3) := by decide +kernel
theorem dX11_refusesFits_11 : decode cX11_refusesFits 11 = .ok (.aload_n 0, 1) := by decide +kernel
theorem dX11_refusesFits_12 : decode cX11_refusesFits 12 = .ok (.getfield 341, 3) := by decide +kernel
theorem dX11_refusesFits_15 : decode cX11_refusesFits 15 = .ok (.getfield 302, 3) := by decide +kernel
theorem dX11_refusesFits_18 : decode cX11_refusesFits 18 = .ok (.ifCond .eq 13, 3) := by decide +kernel
theorem dX11_refusesFits_21 : decode cX11_refusesFits 21 = .ok (.aload_n 0, 1) := by decide +kernel
theorem dX11_refusesFits_22 : decode cX11_refusesFits 22 = .ok (.getfield 341, 3) := by decide +kernel
theorem dX11_refusesFits_25 : decode cX11_refusesFits 25 = .ok (.getfield 314, 3) := by decide +kernel
theorem dX11_refusesFits_28 : decode cX11_refusesFits 28 = .ok (.ifCond .ne 8, 3) := by decide +kernel
theorem dX11_refusesFits_31 : decode cX11_refusesFits 31 = .ok (.bipush 6, 2) := by decide +kernel
theorem dX11_refusesFits_33 : decode cX11_refusesFits 33 = .ok (.goto 4, 3) := by decide +kernel
theorem dX11_refusesFits_36 : decode cX11_refusesFits 36 = .ok (.iconst 0, 1) := by decide +kernel
theorem dX11_refusesFits_37 : decode cX11_refusesFits 37 = .ok (.ireturn, 1) := by decide +kernel
theorem dX11_fits_0 : decode cX11_fits 0 = .ok (.aload_n 0, 1) := by decide +kernel
theorem dX11_fits_1 : decode cX11_fits 1 = .ok (.iconst 0, 1) := by decide +kernel
theorem dX11_fits_2 : decode cX11_fits 2 = .ok (.putfield 78, 3) := by decide +kernel
theorem dX11_fits_5 : decode cX11_fits 5 = .ok (.aload_n 0, 1) := by decide +kernel
theorem dX11_fits_6 : decode cX11_fits 6 = .ok (.invokevirtual 481, 3) := by decide +kernel
theorem dX11_fits_9 : decode cX11_fits 9 = .ok (.istore_n 1, 1) := by decide +kernel
theorem dX11_fits_10 : decode cX11_fits 10 = .ok (.iload_n 1, 1) := by decide +kernel
theorem dX11_fits_11 : decode cX11_fits 11 = .ok (.ifCond .le 11, 3) := by decide +kernel
theorem dX11_fits_14 : decode cX11_fits 14 = .ok (.aload_n 0, 1) := by decide +kernel
theorem dX11_fits_15 : decode cX11_fits 15 = .ok (.iload_n 1, 1) := by decide +kernel
theorem dX11_fits_16 : decode cX11_fits 16 = .ok (.invokevirtual 84, 3) := by decide +kernel
theorem dX11_fits_19 : decode cX11_fits 19 = .ok (.goto 12, 3) := by decide +kernel
theorem dX11_fits_22 : decode cX11_fits 22 = .ok (.aload_n 0, 1) := by decide +kernel
theorem dX11_fits_23 : decode cX11_fits 23 = .ok (.aload_n 0, 1) := by decide +kernel
theorem dX11_fits_24 : decode cX11_fits 24 = .ok (.iconst (-1), 1) := by decide +kernel
theorem dX11_fits_25 : decode cX11_fits 25 = .ok (.invokevirtual 484, 3) := by decide +kernel
theorem dX11_fits_28 : decode cX11_fits 28 = .ok (.invokevirtual 88, 3) := by decide +kernel
theorem dX11_fits_31 : decode cX11_fits 31 = .ok (.ireturn, 1) := by decide +kernel
theorem dX11_fit_0 : decode cX11_fit 0 = .ok (.aload_n 0, 1) := by decide +kernel
theorem dX11_fit_1 : decode cX11_fit 1 = .ok (.iconst 0, 1) := by decide +kernel
theorem dX11_fit_2 : decode cX11_fit 2 = .ok (.putfield 78, 3) := by decide +kernel
theorem dX11_fit_5 : decode cX11_fit 5 = .ok (.aload_n 0, 1) := by decide +kernel
theorem dX11_fit_6 : decode cX11_fit 6 = .ok (.invokevirtual 481, 3) := by decide +kernel
theorem dX11_fit_9 : decode cX11_fit 9 = .ok (.istore_n 3, 1) := by decide +kernel
theorem dX11_fit_10 : decode cX11_fit 10 = .ok (.iload_n 3, 1) := by decide +kernel
theorem dX11_fit_11 : decode cX11_fit 11 = .ok (.ifCond .le 9, 3) := by decide +kernel
theorem dX11_fit_14 : decode cX11_fit 14 = .ok (.aload_n 0, 1) := by decide +kernel
theorem dX11_fit_15 : decode cX11_fit 15 = .ok (.iload_n 3, 1) := by decide +kernel
theorem dX11_fit_16 : decode cX11_fit 16 = .ok (.invokevirtual 84, 3) := by decide +kernel
theorem dX11_fit_19 : decode cX11_fit 19 = .ok (.ireturn, 1) := by decide +kernel
theorem dX11_fit_20 : decode cX11_fit 20 = .ok (.aload_n 0, 1) := by decide +kernel
theorem dX11_fit_21 : decode cX11_fit 21 = .ok (.iload_n 2, 1) := by decide +kernel
theorem dX11_fit_22 : decode cX11_fit 22 = .ok (.invokevirtual 349, 3) := by decide +kernel
theorem dX11_fit_25 : decode cX11_fit 25 = .ok (.ifCond .eq 24, 3) := by decide +kernel
theorem dX11_fit_28 : decode cX11_fit 28 = .ok (.aload_n 0, 1) := by decide +kernel
theorem dX11_fit_29 : decode cX11_fit 29 = .ok (.iload_n 2, 1) := by decide +kernel
theorem dX11_fit_30 : decode cX11_fit 30 = .ok (.invokevirtual 475, 3) := by decide +kernel
theorem dX11_fit_33 : decode cX11_fit 33 = .ok (.ifCond .eq 16, 3) := by decide +kernel
theorem dX11_fit_36 : decode cX11_fit 36 = .ok (.iload_n 1, 1) := by decide +kernel
theorem dX11_fit_37 : decode cX11_fit 37 = .ok (.ifCond .lt 12, 3) := by decide +kernel
theorem dX11_fit_40 : decode cX11_fit 40 = .ok (.iload_n 1, 1) := by decide +kernel
theorem dX11_fit_41 : decode cX11_fit 41 = .ok (.aload_n 0, 1) := by decide +kernel
theorem dX11_fit_42 : decode cX11_fit 42 = .ok (.iload_n 1, 1) := by decide +kernel
theorem dX11_fit_43 : decode cX11_fit 43 = .ok (.invokevirtual 484, 3) := by decide +kernel
theorem dX11_fit_46 : decode cX11_fit 46 = .ok (.if_icmp .lt 9, 3) := by decide +kernel
theorem dX11_fit_49 : decode cX11_fit 49 = .ok (.aload_n 0, 1) := by decide +kernel
theorem dX11_fit_50 : decode cX11_fit 50 = .ok (.iconst 1, 1) := by decide +kernel
theorem dX11_fit_51 : decode cX11_fit 51 = .ok (.invokevirtual 84, 3) := by decide +kernel
theorem dX11_fit_54 : decode cX11_fit 54 = .ok (.ireturn, 1) := by decide +kernel
theorem dX11_fit_55 : decode cX11_fit 55 = .ok (.aload_n 0, 1) := by decide +kernel
theorem dX11_fit_56 : decode cX11_fit 56 = .ok (.aload_n 0, 1) := by decide +kernel
theorem dX11_fit_57 : decode cX11_fit 57 = .ok (.getfield 72, 3) := by decide +kernel
theorem dX11_fit_60 : decode cX11_fit 60 = .ok (.iload_n 2, 1) := by decide +kernel
theorem dX11_fit_61 : decode cX11_fit 61 = .ok (.iaload, 1) := by decide +kernel
theorem dX11_fit_62 : decode cX11_fit 62 = .ok (.invokevirtual 88, 3) := by decide +kernel
theorem dX11_fit_65 : decode cX11_fit 65 = .ok (.ireturn, 1) := by decide +kernel
theorem dX11_surely_0 : decode cX11_surely 0 = .ok (.aload_n 0, 1) := by decide +kernel
theorem dX11_surely_1 : decode cX11_surely 1 = .ok (.iconst 0, 1) := by decide +kernel
theorem dX11_surely_2 : decode cX11_surely 2 = .ok (.putfield 78, 3) := by decide +kernel
theorem dX11_surely_5 : decode cX11_surely 5 = .ok (.aload_n 0, 1) := by decide +kernel
theorem dX11_surely_6 : decode cX11_surely 6 = .ok (.invokevirtual 481, 3) := by decide +kernel
theorem dX11_surely_9 : decode cX11_surely 9 = .ok (.istore_n 2, 1) := by decide +kernel
theorem dX11_surely_10 : decode cX11_surely 10 = .ok (.iload_n 2, 1) := by decide +kernel
theorem dX11_surely_11 : decode cX11_surely 11 = .ok (.ifCond .le 9, 3) := by decide +kernel
theorem dX11_surely_14 : decode cX11_surely 14 = .ok (.aload_n 0, 1) := by decide +kernel
theorem dX11_surely_15 : decode cX11_surely 15 = .ok (.iload_n 2, 1) := by decide +kernel
theorem dX11_surely_16 : decode cX11_surely 16 = .ok (.invokevirtual 84, 3) := by decide +kernel
theorem dX11_surely_19 : decode cX11_surely 19 = .ok (.ireturn, 1) := by decide +kernel
theorem dX11_surely_20 : decode cX11_surely 20 = .ok (.aload_n 0, 1) := by decide +kernel
theorem dX11_surely_21 : decode cX11_surely 21 = .ok (.iload_n 1, 1) := by decide +kernel
theorem dX11_surely_22 : decode cX11_surely 22 = .ok (.invokevirtual 349, 3) := by decide +kernel
theorem dX11_surely_25 : decode cX11_surely 25 = .ok (.ifCond .eq 11, 3) := by decide +kernel
theorem dX11_surely_28 : decode cX11_surely 28 = .ok (.aload_n 0, 1) := by decide +kernel
theorem dX11_surely_29 : decode cX11_surely 29 = .ok (.iload_n 1, 1) := by decide +kernel
theorem dX11_surely_30 : decode cX11_surely 30 = .ok (.invokevirtual 475, 3) := by decide +kernel
theorem dX11_surely_33 : decode cX11_surely 33 = .ok (.ifCond .ne 9, 3) := by decide +kernel
theorem dX11_surely_36 : decode cX11_surely 36 = .ok (.aload_n 0, 1) := by decide +kernel
theorem dX11_surely_37 : decode cX11_surely 37 = .ok (.iconst 1, 1) := by decide +kernel
theorem dX11_surely_38 : decode cX11_surely 38 = .ok (.invokevirtual 84, 3) := by decide +kernel
theorem dX11_surely_41 : decode cX11_surely 41 = .ok (.ireturn, 1) := by decide +kernel
theorem dX11_surely_42 : decode cX11_surely 42 = .ok (.aload_n 0, 1) := by decide +kernel
theorem dX11_surely_43 : decode cX11_surely 43 = .ok (.iconst (-1), 1) := by decide +kernel
theorem dX11_surely_44 : decode cX11_surely 44 = .ok (.invokevirtual 484, 3) := by decide +kernel
theorem dX11_surely_47 : decode cX11_surely 47 = .ok (.pop, 1) := by decide +kernel
theorem dX11_surely_48 : decode cX11_surely 48 = .ok (.iconst 0, 1) := by decide +kernel
theorem dX11_surely_49 : decode cX11_surely 49 = .ok (.istore_n 3, 1) := by decide +kernel
theorem dX11_surely_50 : decode cX11_surely 50 = .ok (.iload_n 3, 1) := by decide +kernel
theorem dX11_surely_51 : decode cX11_surely 51 = .ok (.aload_n 0, 1) := by decide +kernel
theorem dX11_surely_52 : decode cX11_surely 52 = .ok (.getfield 341, 3) := by decide +kernel
theorem dX11_surely_55 : decode cX11_surely 55 = .ok (.getfield 314, 3) := by decide +kernel
theorem dX11_surely_58 : decode cX11_surely 58 = .ok (.if_icmp .ge 27, 3) := by decide +kernel
theorem dX11_surely_61 : decode cX11_surely 61 = .ok (.aload_n 0, 1) := by decide +kernel
theorem dX11_surely_62 : decode cX11_surely 62 = .ok (.getfield 75, 3) := by decide +kernel
theorem dX11_surely_65 : decode cX11_surely 65 = .ok (.iload_n 1, 1) := by decide +kernel
theorem dX11_surely_66 : decode cX11_surely 66 = .ok (.iaload, 1) := by decide +kernel
theorem dX11_surely_67 : decode cX11_surely 67 = .ok (.iconst 1, 1) := by decide +kernel
theorem dX11_surely_68 : decode cX11_surely 68 = .ok (.iload_n 3, 1) := by decide +kernel
theorem dX11_surely_69 : decode cX11_surely 69 = .ok (.ishl, 1) := by decide +kernel
theorem dX11_surely_70 : decode cX11_surely 70 = .ok (.if_icmp .ne 9, 3) := by decide +kernel
theorem dX11_surely_73 : decode cX11_surely 73 = .ok (.aload_n 0, 1) := by decide +kernel
theorem dX11_surely_74 : decode cX11_surely 74 = .ok (.iload_n 3, 1) := by decide +kernel
theorem dX11_surely_75 : decode cX11_surely 75 = .ok (.invokevirtual 88, 3) := by decide +kernel
theorem dX11_surely_78 : decode cX11_surely 78 = .ok (.ireturn, 1) := by decide +kernel
theorem dX11_surely_79 : decode cX11_surely 79 = .ok (.iinc 3 1, 3) := by decide +kernel
theorem dX11_surely_82 : decode cX11_surely 82 = .ok (.goto (-32), 3) := by decide +kernel
theorem dX11_surely_85 : decode cX11_surely 85 = .ok (.aload_n 0, 1) := by decide +kernel
theorem dX11_surely_86 : decode cX11_surely 86 = .ok (.bipush (-2), 2) := by decide +kernel
theorem dX11_surely_88 : decode cX11_surely 88 = .ok (.invokevirtual 88, 3) := by decide +kernel
theorem dX11_surely_91 : decode cX11_surely 91 = .ok (.ireturn, 1) := by decide +kernel
theorem dX11_remembers_0 : decode cX11_remembers 0 = .ok (.aload_n 0, 1) := by decide +kernel
theorem dX11_remembers_1 : decode cX11_remembers 1 = .ok (.getfield 343, 3) := by decide +kernel
theorem dX11_remembers_4 : decode cX11_remembers 4 = .ok (.bipush 12, 2) := by decide +kernel
theorem dX11_remembers_6 : decode cX11_remembers 6 = .ok (.if_icmp .ne 44, 3) := by decide +kernel
theorem dX11_remembers_9 : decode cX11_remembers 9 = .ok (.iconst 0, 1) := by decide +kernel
theorem dX11_remembers_10 : decode cX11_remembers 10 = .ok (.istore_n 1, 1) := by decide +kernel
theorem dX11_remembers_11 : decode cX11_remembers 11 = .ok (.iload_n 1, 1) := by decide +kernel
theorem dX11_remembers_12 : decode cX11_remembers 12 = .ok (.sipush 2728, 3) := by decide +kernel
theorem dX11_remembers_15 : decode cX11_remembers 15 = .ok (.if_icmp .ge 25, 3) := by decide +kernel
theorem dX11_remembers_18 : decode cX11_remembers 18 = .ok (.aload_n 0, 1) := by decide +kernel
theorem dX11_remembers_19 : decode cX11_remembers 19 = .ok (.getfield 21, 3) := by decide +kernel
theorem dX11_remembers_22 : decode cX11_remembers 22 = .ok (.iload_n 1, 1) := by decide +kernel
theorem dX11_remembers_23 : decode cX11_remembers 23 = .ok (.aload_n 0, 1) := by decide +kernel
theorem dX11_remembers_24 : decode cX11_remembers 24 = .ok (.getfield 21, 3) := by decide +kernel
theorem dX11_remembers_27 : decode cX11_remembers 27 = .ok (.iload_n 1, 1) := by decide +kernel
theorem dX11_remembers_28 : decode cX11_remembers 28 = .ok (.sipush 248, 3) := by decide +kernel
theorem dX11_remembers_31 : decode cX11_remembers 31 = .ok (.iadd, 1) := by decide +kernel
theorem dX11_remembers_32 : decode cX11_remembers 32 = .ok (.iaload, 1) := by decide +kernel
theorem dX11_remembers_33 : decode cX11_remembers 33 = .ok (.iastore, 1) := by decide +kernel
theorem dX11_remembers_34 : decode cX11_remembers 34 = .ok (.iinc 1 1, 3) := by decide +kernel
theorem dX11_remembers_37 : decode cX11_remembers 37 = .ok (.goto (-26), 3) := by decide +kernel
theorem dX11_remembers_40 : decode cX11_remembers 40 = .ok (.aload_n 0, 1) := by decide +kernel
theorem dX11_remembers_41 : decode cX11_remembers 41 = .ok (.dup, 1) := by decide +kernel
theorem dX11_remembers_42 : decode cX11_remembers 42 = .ok (.getfield 343, 3) := by decide +kernel
theorem dX11_remembers_45 : decode cX11_remembers 45 = .ok (.iconst 1, 1) := by decide +kernel
theorem dX11_remembers_46 : decode cX11_remembers 46 = .ok (.isub, 1) := by decide +kernel
theorem dX11_remembers_47 : decode cX11_remembers 47 = .ok (.putfield 343, 3) := by decide +kernel
theorem dX11_remembers_50 : decode cX11_remembers 50 = .ok (.iconst 0, 1) := by decide +kernel
theorem dX11_remembers_51 : decode cX11_remembers 51 = .ok (.istore_n 1, 1) := by decide +kernel
theorem dX11_remembers_52 : decode cX11_remembers 52 = .ok (.iload_n 1, 1) := by decide +kernel
theorem dX11_remembers_53 : decode cX11_remembers 53 = .ok (.sipush 248, 3) := by decide +kernel
theorem dX11_remembers_56 : decode cX11_remembers 56 = .ok (.if_icmp .ge 30, 3) := by decide +kernel
theorem dX11_remembers_59 : decode cX11_remembers 59 = .ok (.aload_n 0, 1) := by decide +kernel
theorem dX11_remembers_60 : decode cX11_remembers 60 = .ok (.getfield 21, 3) := by decide +kernel
theorem dX11_remembers_63 : decode cX11_remembers 63 = .ok (.sipush 248, 3) := by decide +kernel
theorem dX11_remembers_66 : decode cX11_remembers 66 = .ok (.aload_n 0, 1) := by decide +kernel
theorem dX11_remembers_67 : decode cX11_remembers 67 = .ok (.getfield 343, 3) := by decide +kernel
theorem dX11_remembers_70 : decode cX11_remembers 70 = .ok (.imul, 1) := by decide +kernel
theorem dX11_remembers_71 : decode cX11_remembers 71 = .ok (.iload_n 1, 1) := by decide +kernel
theorem dX11_remembers_72 : decode cX11_remembers 72 = .ok (.iadd, 1) := by decide +kernel
theorem dX11_remembers_73 : decode cX11_remembers 73 = .ok (.aload_n 0, 1) := by decide +kernel
theorem dX11_remembers_74 : decode cX11_remembers 74 = .ok (.getfield 17, 3) := by decide +kernel
theorem dX11_remembers_77 : decode cX11_remembers 77 = .ok (.iload_n 1, 1) := by decide +kernel
theorem dX11_remembers_78 : decode cX11_remembers 78 = .ok (.iaload, 1) := by decide +kernel
theorem dX11_remembers_79 : decode cX11_remembers 79 = .ok (.iastore, 1) := by decide +kernel
theorem dX11_remembers_80 : decode cX11_remembers 80 = .ok (.iinc 1 1, 3) := by decide +kernel
theorem dX11_remembers_83 : decode cX11_remembers 83 = .ok (.goto (-31), 3) := by decide +kernel
theorem dX11_remembers_86 : decode cX11_remembers 86 = .ok (.aload_n 0, 1) := by decide +kernel
theorem dX11_remembers_87 : decode cX11_remembers 87 = .ok (.dup, 1) := by decide +kernel
theorem dX11_remembers_88 : decode cX11_remembers 88 = .ok (.getfield 343, 3) := by decide +kernel
theorem dX11_remembers_91 : decode cX11_remembers 91 = .ok (.iconst 1, 1) := by decide +kernel
theorem dX11_remembers_92 : decode cX11_remembers 92 = .ok (.iadd, 1) := by decide +kernel
theorem dX11_remembers_93 : decode cX11_remembers 93 = .ok (.putfield 343, 3) := by decide +kernel
theorem dX11_remembers_96 : decode cX11_remembers 96 = .ok (.return_, 1) := by decide +kernel
theorem dX11_rounds_0 : decode cX11_rounds 0 = .ok (.aload_n 0, 1) := by decide +kernel
theorem dX11_rounds_1 : decode cX11_rounds 1 = .ok (.iconst 0, 1) := by decide +kernel
theorem dX11_rounds_2 : decode cX11_rounds 2 = .ok (.putfield 78, 3) := by decide +kernel
theorem dX11_rounds_5 : decode cX11_rounds 5 = .ok (.aload_n 0, 1) := by decide +kernel
theorem dX11_rounds_6 : decode cX11_rounds 6 = .ok (.getfield 341, 3) := by decide +kernel
theorem dX11_rounds_9 : decode cX11_rounds 9 = .ok (.ifnonnull 9, 3) := by decide +kernel
theorem dX11_rounds_12 : decode cX11_rounds 12 = .ok (.aload_n 0, 1) := by decide +kernel
theorem dX11_rounds_13 : decode cX11_rounds 13 = .ok (.iconst 1, 1) := by decide +kernel
theorem dX11_rounds_14 : decode cX11_rounds 14 = .ok (.invokevirtual 84, 3) := by decide +kernel
theorem dX11_rounds_17 : decode cX11_rounds 17 = .ok (.ireturn, 1) := by decide +kernel
theorem dX11_rounds_18 : decode cX11_rounds 18 = .ok (.iload_n 1, 1) := by decide +kernel
theorem dX11_rounds_19 : decode cX11_rounds 19 = .ok (.iconst 1, 1) := by decide +kernel
theorem dX11_rounds_20 : decode cX11_rounds 20 = .ok (.bipush 60, 2) := by decide +kernel
theorem dX11_rounds_22 : decode cX11_rounds 22 = .ok (.invokestatic 166, 3) := by decide +kernel
theorem dX11_rounds_25 : decode cX11_rounds 25 = .ok (.ifCond .ne 9, 3) := by decide +kernel
theorem dX11_rounds_28 : decode cX11_rounds 28 = .ok (.aload_n 0, 1) := by decide +kernel
theorem dX11_rounds_29 : decode cX11_rounds 29 = .ok (.iconst 2, 1) := by decide +kernel
theorem dX11_rounds_30 : decode cX11_rounds 30 = .ok (.invokevirtual 84, 3) := by decide +kernel
theorem dX11_rounds_33 : decode cX11_rounds 33 = .ok (.ireturn, 1) := by decide +kernel
theorem dX11_rounds_34 : decode cX11_rounds 34 = .ok (.aload_n 0, 1) := by decide +kernel
theorem dX11_rounds_35 : decode cX11_rounds 35 = .ok (.invokevirtual 487, 3) := by decide +kernel
theorem dX11_rounds_38 : decode cX11_rounds 38 = .ok (.aload_n 0, 1) := by decide +kernel
theorem dX11_rounds_39 : decode cX11_rounds 39 = .ok (.invokevirtual 396, 3) := by decide +kernel
theorem dX11_rounds_42 : decode cX11_rounds 42 = .ok (.aload_n 0, 1) := by decide +kernel
theorem dX11_rounds_43 : decode cX11_rounds 43 = .ok (.iload_n 1, 1) := by decide +kernel
theorem dX11_rounds_44 : decode cX11_rounds 44 = .ok (.invokevirtual 399, 3) := by decide +kernel
theorem dX11_rounds_47 : decode cX11_rounds 47 = .ok (.iconst 0, 1) := by decide +kernel
theorem dX11_rounds_48 : decode cX11_rounds 48 = .ok (.istore_n 2, 1) := by decide +kernel
theorem dX11_rounds_49 : decode cX11_rounds 49 = .ok (.iload_n 2, 1) := by decide +kernel
theorem dX11_rounds_50 : decode cX11_rounds 50 = .ok (.sipush 216, 3) := by decide +kernel
theorem dX11_rounds_53 : decode cX11_rounds 53 = .ok (.if_icmp .ge 27, 3) := by decide +kernel
theorem dX11_rounds_56 : decode cX11_rounds 56 = .ok (.aload_n 0, 1) := by decide +kernel
theorem dX11_rounds_57 : decode cX11_rounds 57 = .ok (.getfield 17, 3) := by decide +kernel
theorem dX11_rounds_60 : decode cX11_rounds 60 = .ok (.iload_n 2, 1) := by decide +kernel
theorem dX11_rounds_61 : decode cX11_rounds 61 = .ok (.aload_n 0, 1) := by decide +kernel
theorem dX11_rounds_62 : decode cX11_rounds 62 = .ok (.getfield 28, 3) := by decide +kernel
theorem dX11_rounds_65 : decode cX11_rounds 65 = .ok (.sipush 216, 3) := by decide +kernel
theorem dX11_rounds_68 : decode cX11_rounds 68 = .ok (.iload_n 1, 1) := by decide +kernel
theorem dX11_rounds_69 : decode cX11_rounds 69 = .ok (.imul, 1) := by decide +kernel
theorem dX11_rounds_70 : decode cX11_rounds 70 = .ok (.iload_n 2, 1) := by decide +kernel
theorem dX11_rounds_71 : decode cX11_rounds 71 = .ok (.iadd, 1) := by decide +kernel
theorem dX11_rounds_72 : decode cX11_rounds 72 = .ok (.iaload, 1) := by decide +kernel
theorem dX11_rounds_73 : decode cX11_rounds 73 = .ok (.iastore, 1) := by decide +kernel
theorem dX11_rounds_74 : decode cX11_rounds 74 = .ok (.iinc 2 1, 3) := by decide +kernel
theorem dX11_rounds_77 : decode cX11_rounds 77 = .ok (.goto (-28), 3) := by decide +kernel
theorem dX11_rounds_80 : decode cX11_rounds 80 = .ok (.aload_n 0, 1) := by decide +kernel
theorem dX11_rounds_81 : decode cX11_rounds 81 = .ok (.getfield 17, 3) := by decide +kernel
theorem dX11_rounds_84 : decode cX11_rounds 84 = .ok (.sipush 247, 3) := by decide +kernel
theorem dX11_rounds_87 : decode cX11_rounds 87 = .ok (.aload_n 0, 1) := by decide +kernel
theorem dX11_rounds_88 : decode cX11_rounds 88 = .ok (.getfield 355, 3) := by decide +kernel
theorem dX11_rounds_91 : decode cX11_rounds 91 = .ok (.iastore, 1) := by decide +kernel
theorem dX11_rounds_92 : decode cX11_rounds 92 = .ok (.aload_n 0, 1) := by decide +kernel
theorem dX11_rounds_93 : decode cX11_rounds 93 = .ok (.getfield 17, 3) := by decide +kernel
theorem dX11_rounds_96 : decode cX11_rounds 96 = .ok (.sipush 246, 3) := by decide +kernel
theorem dX11_rounds_99 : decode cX11_rounds 99 = .ok (.dup2, 1) := by decide +kernel
theorem dX11_rounds_100 : decode cX11_rounds 100 = .ok (.iaload, 1) := by decide +kernel
theorem dX11_rounds_101 : decode cX11_rounds 101 = .ok (.iload_n 1, 1) := by decide +kernel
theorem dX11_rounds_102 : decode cX11_rounds 102 = .ok (.iadd, 1) := by decide +kernel
theorem dX11_rounds_103 : decode cX11_rounds 103 = .ok (.iastore, 1) := by decide +kernel
theorem dX11_rounds_104 : decode cX11_rounds 104 = .ok (.aload_n 0, 1) := by decide +kernel
theorem dX11_rounds_105 : decode cX11_rounds 105 = .ok (.aload_n 0, 1) := by decide +kernel
theorem dX11_rounds_106 : decode cX11_rounds 106 = .ok (.getfield 17, 3) := by decide +kernel
theorem dX11_rounds_109 : decode cX11_rounds 109 = .ok (.sipush 246, 3) := by decide +kernel
theorem dX11_rounds_112 : decode cX11_rounds 112 = .ok (.iaload, 1) := by decide +kernel
theorem dX11_rounds_113 : decode cX11_rounds 113 = .ok (.invokevirtual 88, 3) := by decide +kernel
theorem dX11_rounds_116 : decode cX11_rounds 116 = .ok (.ireturn, 1) := by decide +kernel
theorem dX11_draw_0 : decode cX11_draw 0 = .ok (.aload_n 0, 1) := by decide +kernel
theorem dX11_draw_1 : decode cX11_draw 1 = .ok (.iconst 0, 1) := by decide +kernel
theorem dX11_draw_2 : decode cX11_draw 2 = .ok (.putfield 78, 3) := by decide +kernel
theorem dX11_draw_5 : decode cX11_draw 5 = .ok (.aload_n 0, 1) := by decide +kernel
theorem dX11_draw_6 : decode cX11_draw 6 = .ok (.iload_n 1, 1) := by decide +kernel
theorem dX11_draw_7 : decode cX11_draw 7 = .ok (.iload_n 2, 1) := by decide +kernel
theorem dX11_draw_8 : decode cX11_draw 8 = .ok (.invokevirtual 392, 3) := by decide +kernel
theorem dX11_draw_11 : decode cX11_draw 11 = .ok (.ifCond .eq 11, 3) := by decide +kernel
theorem dX11_draw_14 : decode cX11_draw 14 = .ok (.aload_n 0, 1) := by decide +kernel
theorem dX11_draw_15 : decode cX11_draw 15 = .ok (.iload_n 3, 1) := by decide +kernel
theorem dX11_draw_16 : decode cX11_draw 16 = .ok (.invokevirtual 409, 3) := by decide +kernel
theorem dX11_draw_19 : decode cX11_draw 19 = .ok (.ifCond .ne 9, 3) := by decide +kernel
theorem dX11_draw_22 : decode cX11_draw 22 = .ok (.aload_n 0, 1) := by decide +kernel
theorem dX11_draw_23 : decode cX11_draw 23 = .ok (.iconst 1, 1) := by decide +kernel
theorem dX11_draw_24 : decode cX11_draw 24 = .ok (.invokevirtual 490, 3) := by decide +kernel
theorem dX11_draw_27 : decode cX11_draw 27 = .ok (.ireturn, 1) := by decide +kernel
theorem dX11_draw_28 : decode cX11_draw 28 = .ok (.aload_n 0, 1) := by decide +kernel
theorem dX11_draw_29 : decode cX11_draw 29 = .ok (.getfield 17, 3) := by decide +kernel
theorem dX11_draw_32 : decode cX11_draw 32 = .ok (.bipush 36, 2) := by decide +kernel
theorem dX11_draw_34 : decode cX11_draw 34 = .ok (.iload_n 1, 1) := by decide +kernel
theorem dX11_draw_35 : decode cX11_draw 35 = .ok (.imul, 1) := by decide +kernel
theorem dX11_draw_36 : decode cX11_draw 36 = .ok (.aload_n 0, 1) := by decide +kernel
theorem dX11_draw_37 : decode cX11_draw 37 = .ok (.iload_n 2, 1) := by decide +kernel
theorem dX11_draw_38 : decode cX11_draw 38 = .ok (.invokevirtual 352, 3) := by decide +kernel
theorem dX11_draw_41 : decode cX11_draw 41 = .ok (.iadd, 1) := by decide +kernel
theorem dX11_draw_42 : decode cX11_draw 42 = .ok (.iaload, 1) := by decide +kernel
theorem dX11_draw_43 : decode cX11_draw 43 = .ok (.iload_n 3, 1) := by decide +kernel
theorem dX11_draw_44 : decode cX11_draw 44 = .ok (.if_icmp .ne 9, 3) := by decide +kernel
theorem dX11_draw_47 : decode cX11_draw 47 = .ok (.aload_n 0, 1) := by decide +kernel
theorem dX11_draw_48 : decode cX11_draw 48 = .ok (.iconst 5, 1) := by decide +kernel
theorem dX11_draw_49 : decode cX11_draw 49 = .ok (.invokevirtual 490, 3) := by decide +kernel
theorem dX11_draw_52 : decode cX11_draw 52 = .ok (.ireturn, 1) := by decide +kernel
theorem dX11_draw_53 : decode cX11_draw 53 = .ok (.aload_n 0, 1) := by decide +kernel
theorem dX11_draw_54 : decode cX11_draw 54 = .ok (.invokevirtual 487, 3) := by decide +kernel
theorem dX11_draw_57 : decode cX11_draw 57 = .ok (.aload_n 0, 1) := by decide +kernel
theorem dX11_draw_58 : decode cX11_draw 58 = .ok (.getfield 17, 3) := by decide +kernel
theorem dX11_draw_61 : decode cX11_draw 61 = .ok (.bipush 36, 2) := by decide +kernel
theorem dX11_draw_63 : decode cX11_draw 63 = .ok (.iload_n 1, 1) := by decide +kernel
theorem dX11_draw_64 : decode cX11_draw 64 = .ok (.imul, 1) := by decide +kernel
theorem dX11_draw_65 : decode cX11_draw 65 = .ok (.aload_n 0, 1) := by decide +kernel
theorem dX11_draw_66 : decode cX11_draw 66 = .ok (.iload_n 2, 1) := by decide +kernel
theorem dX11_draw_67 : decode cX11_draw 67 = .ok (.invokevirtual 352, 3) := by decide +kernel
theorem dX11_draw_70 : decode cX11_draw 70 = .ok (.iadd, 1) := by decide +kernel
theorem dX11_draw_71 : decode cX11_draw 71 = .ok (.iload_n 3, 1) := by decide +kernel
theorem dX11_draw_72 : decode cX11_draw 72 = .ok (.iastore, 1) := by decide +kernel
theorem dX11_draw_73 : decode cX11_draw 73 = .ok (.aload_n 0, 1) := by decide +kernel
theorem dX11_draw_74 : decode cX11_draw 74 = .ok (.invokevirtual 493, 3) := by decide +kernel
theorem dX11_draw_77 : decode cX11_draw 77 = .ok (.ireturn, 1) := by decide +kernel
theorem dX11_mend_0 : decode cX11_mend 0 = .ok (.aload_n 0, 1) := by decide +kernel
theorem dX11_mend_1 : decode cX11_mend 1 = .ok (.iconst 0, 1) := by decide +kernel
theorem dX11_mend_2 : decode cX11_mend 2 = .ok (.putfield 78, 3) := by decide +kernel
theorem dX11_mend_5 : decode cX11_mend 5 = .ok (.aload_n 0, 1) := by decide +kernel
theorem dX11_mend_6 : decode cX11_mend 6 = .ok (.iload_n 1, 1) := by decide +kernel
theorem dX11_mend_7 : decode cX11_mend 7 = .ok (.invokevirtual 349, 3) := by decide +kernel
theorem dX11_mend_10 : decode cX11_mend 10 = .ok (.ifCond .ne 9, 3) := by decide +kernel
theorem dX11_mend_13 : decode cX11_mend 13 = .ok (.aload_n 0, 1) := by decide +kernel
theorem dX11_mend_14 : decode cX11_mend 14 = .ok (.iconst 1, 1) := by decide +kernel
theorem dX11_mend_15 : decode cX11_mend 15 = .ok (.invokevirtual 490, 3) := by decide +kernel
theorem dX11_mend_18 : decode cX11_mend 18 = .ok (.ireturn, 1) := by decide +kernel
theorem dX11_mend_19 : decode cX11_mend 19 = .ok (.aload_n 0, 1) := by decide +kernel
theorem dX11_mend_20 : decode cX11_mend 20 = .ok (.getfield 17, 3) := by decide +kernel
theorem dX11_mend_23 : decode cX11_mend 23 = .ok (.sipush 216, 3) := by decide +kernel
theorem dX11_mend_26 : decode cX11_mend 26 = .ok (.iload_n 1, 1) := by decide +kernel
theorem dX11_mend_27 : decode cX11_mend 27 = .ok (.iadd, 1) := by decide +kernel
theorem dX11_mend_28 : decode cX11_mend 28 = .ok (.iaload, 1) := by decide +kernel
theorem dX11_mend_29 : decode cX11_mend 29 = .ok (.bipush (-2), 2) := by decide +kernel
theorem dX11_mend_31 : decode cX11_mend 31 = .ok (.if_icmp .eq 18, 3) := by decide +kernel
theorem dX11_mend_34 : decode cX11_mend 34 = .ok (.aload_n 0, 1) := by decide +kernel
theorem dX11_mend_35 : decode cX11_mend 35 = .ok (.getfield 17, 3) := by decide +kernel
theorem dX11_mend_38 : decode cX11_mend 38 = .ok (.sipush 222, 3) := by decide +kernel
theorem dX11_mend_41 : decode cX11_mend 41 = .ok (.iconst 4, 1) := by decide +kernel
theorem dX11_mend_42 : decode cX11_mend 42 = .ok (.iload_n 1, 1) := by decide +kernel
theorem dX11_mend_43 : decode cX11_mend 43 = .ok (.imul, 1) := by decide +kernel
theorem dX11_mend_44 : decode cX11_mend 44 = .ok (.iadd, 1) := by decide +kernel
theorem dX11_mend_45 : decode cX11_mend 45 = .ok (.iaload, 1) := by decide +kernel
theorem dX11_mend_46 : decode cX11_mend 46 = .ok (.ifCond .ne 9, 3) := by decide +kernel
theorem dX11_mend_49 : decode cX11_mend 49 = .ok (.aload_n 0, 1) := by decide +kernel
theorem dX11_mend_50 : decode cX11_mend 50 = .ok (.iconst 5, 1) := by decide +kernel
theorem dX11_mend_51 : decode cX11_mend 51 = .ok (.invokevirtual 490, 3) := by decide +kernel
theorem dX11_mend_54 : decode cX11_mend 54 = .ok (.ireturn, 1) := by decide +kernel
theorem dX11_mend_55 : decode cX11_mend 55 = .ok (.aload_n 0, 1) := by decide +kernel
theorem dX11_mend_56 : decode cX11_mend 56 = .ok (.invokevirtual 487, 3) := by decide +kernel
theorem dX11_mend_59 : decode cX11_mend 59 = .ok (.aload_n 0, 1) := by decide +kernel
theorem dX11_mend_60 : decode cX11_mend 60 = .ok (.getfield 17, 3) := by decide +kernel
theorem dX11_mend_63 : decode cX11_mend 63 = .ok (.sipush 222, 3) := by decide +kernel
theorem dX11_mend_66 : decode cX11_mend 66 = .ok (.iconst 4, 1) := by decide +kernel
theorem dX11_mend_67 : decode cX11_mend 67 = .ok (.iload_n 1, 1) := by decide +kernel
theorem dX11_mend_68 : decode cX11_mend 68 = .ok (.imul, 1) := by decide +kernel
theorem dX11_mend_69 : decode cX11_mend 69 = .ok (.iadd, 1) := by decide +kernel
theorem dX11_mend_70 : decode cX11_mend 70 = .ok (.iconst 0, 1) := by decide +kernel
theorem dX11_mend_71 : decode cX11_mend 71 = .ok (.iastore, 1) := by decide +kernel
theorem dX11_mend_72 : decode cX11_mend 72 = .ok (.iconst 1, 1) := by decide +kernel
theorem dX11_mend_73 : decode cX11_mend 73 = .ok (.istore_n 2, 1) := by decide +kernel
theorem dX11_mend_74 : decode cX11_mend 74 = .ok (.iload_n 2, 1) := by decide +kernel
theorem dX11_mend_75 : decode cX11_mend 75 = .ok (.iconst 4, 1) := by decide +kernel
theorem dX11_mend_76 : decode cX11_mend 76 = .ok (.if_icmp .ge 25, 3) := by decide +kernel
theorem dX11_mend_79 : decode cX11_mend 79 = .ok (.aload_n 0, 1) := by decide +kernel
theorem dX11_mend_80 : decode cX11_mend 80 = .ok (.getfield 17, 3) := by decide +kernel
theorem dX11_mend_83 : decode cX11_mend 83 = .ok (.sipush 222, 3) := by decide +kernel
theorem dX11_mend_86 : decode cX11_mend 86 = .ok (.iconst 4, 1) := by decide +kernel
theorem dX11_mend_87 : decode cX11_mend 87 = .ok (.iload_n 1, 1) := by decide +kernel
theorem dX11_mend_88 : decode cX11_mend 88 = .ok (.imul, 1) := by decide +kernel
theorem dX11_mend_89 : decode cX11_mend 89 = .ok (.iadd, 1) := by decide +kernel
theorem dX11_mend_90 : decode cX11_mend 90 = .ok (.iload_n 2, 1) := by decide +kernel
theorem dX11_mend_91 : decode cX11_mend 91 = .ok (.iadd, 1) := by decide +kernel
theorem dX11_mend_92 : decode cX11_mend 92 = .ok (.bipush (-2), 2) := by decide +kernel
theorem dX11_mend_94 : decode cX11_mend 94 = .ok (.iastore, 1) := by decide +kernel
theorem dX11_mend_95 : decode cX11_mend 95 = .ok (.iinc 2 1, 3) := by decide +kernel
theorem dX11_mend_98 : decode cX11_mend 98 = .ok (.goto (-24), 3) := by decide +kernel
theorem dX11_mend_101 : decode cX11_mend 101 = .ok (.aload_n 0, 1) := by decide +kernel
theorem dX11_mend_102 : decode cX11_mend 102 = .ok (.invokevirtual 493, 3) := by decide +kernel
theorem dX11_mend_105 : decode cX11_mend 105 = .ok (.ireturn, 1) := by decide +kernel
theorem dX11_copy_0 : decode cX11_copy 0 = .ok (.aload_n 0, 1) := by decide +kernel
theorem dX11_copy_1 : decode cX11_copy 1 = .ok (.iconst 0, 1) := by decide +kernel
theorem dX11_copy_2 : decode cX11_copy 2 = .ok (.putfield 78, 3) := by decide +kernel
theorem dX11_copy_5 : decode cX11_copy 5 = .ok (.aload_n 0, 1) := by decide +kernel
theorem dX11_copy_6 : decode cX11_copy 6 = .ok (.iload_n 1, 1) := by decide +kernel
theorem dX11_copy_7 : decode cX11_copy 7 = .ok (.invokevirtual 349, 3) := by decide +kernel
theorem dX11_copy_10 : decode cX11_copy 10 = .ok (.ifCond .eq 11, 3) := by decide +kernel
theorem dX11_copy_13 : decode cX11_copy 13 = .ok (.aload_n 0, 1) := by decide +kernel
theorem dX11_copy_14 : decode cX11_copy 14 = .ok (.iload_n 2, 1) := by decide +kernel
theorem dX11_copy_15 : decode cX11_copy 15 = .ok (.invokevirtual 349, 3) := by decide +kernel
theorem dX11_copy_18 : decode cX11_copy 18 = .ok (.ifCond .ne 9, 3) := by decide +kernel
theorem dX11_copy_21 : decode cX11_copy 21 = .ok (.aload_n 0, 1) := by decide +kernel
theorem dX11_copy_22 : decode cX11_copy 22 = .ok (.iconst 1, 1) := by decide +kernel
theorem dX11_copy_23 : decode cX11_copy 23 = .ok (.invokevirtual 490, 3) := by decide +kernel
theorem dX11_copy_26 : decode cX11_copy 26 = .ok (.ireturn, 1) := by decide +kernel
theorem dX11_copy_27 : decode cX11_copy 27 = .ok (.aload_n 0, 1) := by decide +kernel
theorem dX11_copy_28 : decode cX11_copy 28 = .ok (.getfield 17, 3) := by decide +kernel
theorem dX11_copy_31 : decode cX11_copy 31 = .ok (.sipush 216, 3) := by decide +kernel
theorem dX11_copy_34 : decode cX11_copy 34 = .ok (.iload_n 1, 1) := by decide +kernel
theorem dX11_copy_35 : decode cX11_copy 35 = .ok (.iadd, 1) := by decide +kernel
theorem dX11_copy_36 : decode cX11_copy 36 = .ok (.iaload, 1) := by decide +kernel
theorem dX11_copy_37 : decode cX11_copy 37 = .ok (.iload_n 2, 1) := by decide +kernel
theorem dX11_copy_38 : decode cX11_copy 38 = .ok (.if_icmp .ne 9, 3) := by decide +kernel
theorem dX11_copy_41 : decode cX11_copy 41 = .ok (.aload_n 0, 1) := by decide +kernel
theorem dX11_copy_42 : decode cX11_copy 42 = .ok (.iconst 5, 1) := by decide +kernel
theorem dX11_copy_43 : decode cX11_copy 43 = .ok (.invokevirtual 490, 3) := by decide +kernel
theorem dX11_copy_46 : decode cX11_copy 46 = .ok (.ireturn, 1) := by decide +kernel
theorem dX11_copy_47 : decode cX11_copy 47 = .ok (.aload_n 0, 1) := by decide +kernel
theorem dX11_copy_48 : decode cX11_copy 48 = .ok (.invokevirtual 487, 3) := by decide +kernel
theorem dX11_copy_51 : decode cX11_copy 51 = .ok (.aload_n 0, 1) := by decide +kernel
theorem dX11_copy_52 : decode cX11_copy 52 = .ok (.getfield 17, 3) := by decide +kernel
theorem dX11_copy_55 : decode cX11_copy 55 = .ok (.sipush 216, 3) := by decide +kernel
theorem dX11_copy_58 : decode cX11_copy 58 = .ok (.iload_n 1, 1) := by decide +kernel
theorem dX11_copy_59 : decode cX11_copy 59 = .ok (.iadd, 1) := by decide +kernel
theorem dX11_copy_60 : decode cX11_copy 60 = .ok (.iload_n 2, 1) := by decide +kernel
theorem dX11_copy_61 : decode cX11_copy 61 = .ok (.iastore, 1) := by decide +kernel
theorem dX11_copy_62 : decode cX11_copy 62 = .ok (.aload_n 0, 1) := by decide +kernel
theorem dX11_copy_63 : decode cX11_copy 63 = .ok (.invokevirtual 493, 3) := by decide +kernel
theorem dX11_copy_66 : decode cX11_copy 66 = .ok (.ireturn, 1) := by decide +kernel
theorem dX11_seed_0 : decode cX11_seed 0 = .ok (.aload_n 0, 1) := by decide +kernel
theorem dX11_seed_1 : decode cX11_seed 1 = .ok (.iconst 0, 1) := by decide +kernel
theorem dX11_seed_2 : decode cX11_seed 2 = .ok (.putfield 78, 3) := by decide +kernel
theorem dX11_seed_5 : decode cX11_seed 5 = .ok (.aload_n 0, 1) := by decide +kernel
theorem dX11_seed_6 : decode cX11_seed 6 = .ok (.getfield 341, 3) := by decide +kernel
theorem dX11_seed_9 : decode cX11_seed 9 = .ok (.ifnonnull 9, 3) := by decide +kernel
theorem dX11_seed_12 : decode cX11_seed 12 = .ok (.aload_n 0, 1) := by decide +kernel
theorem dX11_seed_13 : decode cX11_seed 13 = .ok (.iconst 1, 1) := by decide +kernel
theorem dX11_seed_14 : decode cX11_seed 14 = .ok (.invokevirtual 490, 3) := by decide +kernel
theorem dX11_seed_17 : decode cX11_seed 17 = .ok (.ireturn, 1) := by decide +kernel
theorem dX11_seed_18 : decode cX11_seed 18 = .ok (.iload_n 1, 1) := by decide +kernel
theorem dX11_seed_19 : decode cX11_seed 19 = .ok (.iconst 0, 1) := by decide +kernel
theorem dX11_seed_20 : decode cX11_seed 20 = .ok (.ldc_w 496, 3) := by decide +kernel
theorem dX11_seed_23 : decode cX11_seed 23 = .ok (.invokestatic 166, 3) := by decide +kernel
theorem dX11_seed_26 : decode cX11_seed 26 = .ok (.ifCond .ne 9, 3) := by decide +kernel
theorem dX11_seed_29 : decode cX11_seed 29 = .ok (.aload_n 0, 1) := by decide +kernel
theorem dX11_seed_30 : decode cX11_seed 30 = .ok (.iconst 2, 1) := by decide +kernel
theorem dX11_seed_31 : decode cX11_seed 31 = .ok (.invokevirtual 490, 3) := by decide +kernel
theorem dX11_seed_34 : decode cX11_seed 34 = .ok (.ireturn, 1) := by decide +kernel
theorem dX11_seed_35 : decode cX11_seed 35 = .ok (.aload_n 0, 1) := by decide +kernel
theorem dX11_seed_36 : decode cX11_seed 36 = .ok (.getfield 17, 3) := by decide +kernel
theorem dX11_seed_39 : decode cX11_seed 39 = .ok (.sipush 247, 3) := by decide +kernel
theorem dX11_seed_42 : decode cX11_seed 42 = .ok (.iload_n 1, 1) := by decide +kernel
theorem dX11_seed_43 : decode cX11_seed 43 = .ok (.iastore, 1) := by decide +kernel
theorem dX11_seed_44 : decode cX11_seed 44 = .ok (.aload_n 0, 1) := by decide +kernel
theorem dX11_seed_45 : decode cX11_seed 45 = .ok (.invokevirtual 493, 3) := by decide +kernel
theorem dX11_seed_48 : decode cX11_seed 48 = .ok (.ireturn, 1) := by decide +kernel
theorem dX11_undo_0 : decode cX11_undo 0 = .ok (.aload_n 0, 1) := by decide +kernel
theorem dX11_undo_1 : decode cX11_undo 1 = .ok (.iconst 0, 1) := by decide +kernel
theorem dX11_undo_2 : decode cX11_undo 2 = .ok (.putfield 78, 3) := by decide +kernel
theorem dX11_undo_5 : decode cX11_undo 5 = .ok (.aload_n 0, 1) := by decide +kernel
theorem dX11_undo_6 : decode cX11_undo 6 = .ok (.getfield 341, 3) := by decide +kernel
theorem dX11_undo_9 : decode cX11_undo 9 = .ok (.ifnull 10, 3) := by decide +kernel
theorem dX11_undo_12 : decode cX11_undo 12 = .ok (.aload_n 0, 1) := by decide +kernel
theorem dX11_undo_13 : decode cX11_undo 13 = .ok (.getfield 343, 3) := by decide +kernel
theorem dX11_undo_16 : decode cX11_undo 16 = .ok (.ifCond .ne 10, 3) := by decide +kernel
theorem dX11_undo_19 : decode cX11_undo 19 = .ok (.aload_n 0, 1) := by decide +kernel
theorem dX11_undo_20 : decode cX11_undo 20 = .ok (.bipush 6, 2) := by decide +kernel
theorem dX11_undo_22 : decode cX11_undo 22 = .ok (.invokevirtual 490, 3) := by decide +kernel
theorem dX11_undo_25 : decode cX11_undo 25 = .ok (.ireturn, 1) := by decide +kernel
theorem dX11_undo_26 : decode cX11_undo 26 = .ok (.aload_n 0, 1) := by decide +kernel
theorem dX11_undo_27 : decode cX11_undo 27 = .ok (.dup, 1) := by decide +kernel
theorem dX11_undo_28 : decode cX11_undo 28 = .ok (.getfield 343, 3) := by decide +kernel
theorem dX11_undo_31 : decode cX11_undo 31 = .ok (.iconst 1, 1) := by decide +kernel
theorem dX11_undo_32 : decode cX11_undo 32 = .ok (.isub, 1) := by decide +kernel
theorem dX11_undo_33 : decode cX11_undo 33 = .ok (.putfield 343, 3) := by decide +kernel
theorem dX11_undo_36 : decode cX11_undo 36 = .ok (.iconst 0, 1) := by decide +kernel
theorem dX11_undo_37 : decode cX11_undo 37 = .ok (.istore_n 1, 1) := by decide +kernel
theorem dX11_undo_38 : decode cX11_undo 38 = .ok (.iload_n 1, 1) := by decide +kernel
theorem dX11_undo_39 : decode cX11_undo 39 = .ok (.sipush 248, 3) := by decide +kernel
theorem dX11_undo_42 : decode cX11_undo 42 = .ok (.if_icmp .ge 30, 3) := by decide +kernel
theorem dX11_undo_45 : decode cX11_undo 45 = .ok (.aload_n 0, 1) := by decide +kernel
theorem dX11_undo_46 : decode cX11_undo 46 = .ok (.getfield 17, 3) := by decide +kernel
theorem dX11_undo_49 : decode cX11_undo 49 = .ok (.iload_n 1, 1) := by decide +kernel
theorem dX11_undo_50 : decode cX11_undo 50 = .ok (.aload_n 0, 1) := by decide +kernel
theorem dX11_undo_51 : decode cX11_undo 51 = .ok (.getfield 21, 3) := by decide +kernel
theorem dX11_undo_54 : decode cX11_undo 54 = .ok (.sipush 248, 3) := by decide +kernel
theorem dX11_undo_57 : decode cX11_undo 57 = .ok (.aload_n 0, 1) := by decide +kernel
theorem dX11_undo_58 : decode cX11_undo 58 = .ok (.getfield 343, 3) := by decide +kernel
theorem dX11_undo_61 : decode cX11_undo 61 = .ok (.imul, 1) := by decide +kernel
theorem dX11_undo_62 : decode cX11_undo 62 = .ok (.iload_n 1, 1) := by decide +kernel
theorem dX11_undo_63 : decode cX11_undo 63 = .ok (.iadd, 1) := by decide +kernel
theorem dX11_undo_64 : decode cX11_undo 64 = .ok (.iaload, 1) := by decide +kernel
theorem dX11_undo_65 : decode cX11_undo 65 = .ok (.iastore, 1) := by decide +kernel
theorem dX11_undo_66 : decode cX11_undo 66 = .ok (.iinc 1 1, 3) := by decide +kernel
theorem dX11_undo_69 : decode cX11_undo 69 = .ok (.goto (-31), 3) := by decide +kernel
theorem dX11_undo_72 : decode cX11_undo 72 = .ok (.aload_n 0, 1) := by decide +kernel
theorem dX11_undo_73 : decode cX11_undo 73 = .ok (.invokevirtual 493, 3) := by decide +kernel
theorem dX11_undo_76 : decode cX11_undo 76 = .ok (.ireturn, 1) := by decide +kernel
theorem dX11_keep_0 : decode cX11_keep 0 = .ok (.aload_n 0, 1) := by decide +kernel
theorem dX11_keep_1 : decode cX11_keep 1 = .ok (.iconst 0, 1) := by decide +kernel
theorem dX11_keep_2 : decode cX11_keep 2 = .ok (.putfield 78, 3) := by decide +kernel
theorem dX11_keep_5 : decode cX11_keep 5 = .ok (.aload_n 0, 1) := by decide +kernel
theorem dX11_keep_6 : decode cX11_keep 6 = .ok (.getfield 341, 3) := by decide +kernel
theorem dX11_keep_9 : decode cX11_keep 9 = .ok (.ifnonnull 9, 3) := by decide +kernel
theorem dX11_keep_12 : decode cX11_keep 12 = .ok (.aload_n 0, 1) := by decide +kernel
theorem dX11_keep_13 : decode cX11_keep 13 = .ok (.iconst 1, 1) := by decide +kernel
theorem dX11_keep_14 : decode cX11_keep 14 = .ok (.invokevirtual 84, 3) := by decide +kernel
theorem dX11_keep_17 : decode cX11_keep 17 = .ok (.ireturn, 1) := by decide +kernel
theorem dX11_keep_18 : decode cX11_keep 18 = .ok (.aload_n 0, 1) := by decide +kernel
theorem dX11_keep_19 : decode cX11_keep 19 = .ok (.getfield 346, 3) := by decide +kernel
theorem dX11_keep_22 : decode cX11_keep 22 = .ok (.iconst 3, 1) := by decide +kernel
theorem dX11_keep_23 : decode cX11_keep 23 = .ok (.if_icmp .ne 9, 3) := by decide +kernel
theorem dX11_keep_26 : decode cX11_keep 26 = .ok (.aload_n 0, 1) := by decide +kernel
theorem dX11_keep_27 : decode cX11_keep 27 = .ok (.iconst 3, 1) := by decide +kernel
theorem dX11_keep_28 : decode cX11_keep 28 = .ok (.invokevirtual 84, 3) := by decide +kernel
theorem dX11_keep_31 : decode cX11_keep 31 = .ok (.ireturn, 1) := by decide +kernel
theorem dX11_keep_32 : decode cX11_keep 32 = .ok (.iconst 0, 1) := by decide +kernel
theorem dX11_keep_33 : decode cX11_keep 33 = .ok (.istore_n 1, 1) := by decide +kernel
theorem dX11_keep_34 : decode cX11_keep 34 = .ok (.iload_n 1, 1) := by decide +kernel
theorem dX11_keep_35 : decode cX11_keep 35 = .ok (.sipush 248, 3) := by decide +kernel
theorem dX11_keep_38 : decode cX11_keep 38 = .ok (.if_icmp .ge 30, 3) := by decide +kernel
theorem dX11_keep_41 : decode cX11_keep 41 = .ok (.aload_n 0, 1) := by decide +kernel
theorem dX11_keep_42 : decode cX11_keep 42 = .ok (.getfield 24, 3) := by decide +kernel
theorem dX11_keep_45 : decode cX11_keep 45 = .ok (.sipush 248, 3) := by decide +kernel
theorem dX11_keep_48 : decode cX11_keep 48 = .ok (.aload_n 0, 1) := by decide +kernel
theorem dX11_keep_49 : decode cX11_keep 49 = .ok (.getfield 346, 3) := by decide +kernel
theorem dX11_keep_52 : decode cX11_keep 52 = .ok (.imul, 1) := by decide +kernel
theorem dX11_keep_53 : decode cX11_keep 53 = .ok (.iload_n 1, 1) := by decide +kernel
theorem dX11_keep_54 : decode cX11_keep 54 = .ok (.iadd, 1) := by decide +kernel
theorem dX11_keep_55 : decode cX11_keep 55 = .ok (.aload_n 0, 1) := by decide +kernel
theorem dX11_keep_56 : decode cX11_keep 56 = .ok (.getfield 17, 3) := by decide +kernel
theorem dX11_keep_59 : decode cX11_keep 59 = .ok (.iload_n 1, 1) := by decide +kernel
theorem dX11_keep_60 : decode cX11_keep 60 = .ok (.iaload, 1) := by decide +kernel
theorem dX11_keep_61 : decode cX11_keep 61 = .ok (.iastore, 1) := by decide +kernel
theorem dX11_keep_62 : decode cX11_keep 62 = .ok (.iinc 1 1, 3) := by decide +kernel
theorem dX11_keep_65 : decode cX11_keep 65 = .ok (.goto (-31), 3) := by decide +kernel
theorem dX11_keep_68 : decode cX11_keep 68 = .ok (.aload_n 0, 1) := by decide +kernel
theorem dX11_keep_69 : decode cX11_keep 69 = .ok (.dup, 1) := by decide +kernel
theorem dX11_keep_70 : decode cX11_keep 70 = .ok (.getfield 346, 3) := by decide +kernel
theorem dX11_keep_73 : decode cX11_keep 73 = .ok (.iconst 1, 1) := by decide +kernel
theorem dX11_keep_74 : decode cX11_keep 74 = .ok (.iadd, 1) := by decide +kernel
theorem dX11_keep_75 : decode cX11_keep 75 = .ok (.putfield 346, 3) := by decide +kernel
theorem dX11_keep_78 : decode cX11_keep 78 = .ok (.aload_n 0, 1) := by decide +kernel
theorem dX11_keep_79 : decode cX11_keep 79 = .ok (.aload_n 0, 1) := by decide +kernel
theorem dX11_keep_80 : decode cX11_keep 80 = .ok (.getfield 346, 3) := by decide +kernel
theorem dX11_keep_83 : decode cX11_keep 83 = .ok (.iconst 1, 1) := by decide +kernel
theorem dX11_keep_84 : decode cX11_keep 84 = .ok (.isub, 1) := by decide +kernel
theorem dX11_keep_85 : decode cX11_keep 85 = .ok (.invokevirtual 88, 3) := by decide +kernel
theorem dX11_keep_88 : decode cX11_keep 88 = .ok (.ireturn, 1) := by decide +kernel
theorem dX11_back_0 : decode cX11_back 0 = .ok (.aload_n 0, 1) := by decide +kernel
theorem dX11_back_1 : decode cX11_back 1 = .ok (.iconst 0, 1) := by decide +kernel
theorem dX11_back_2 : decode cX11_back 2 = .ok (.putfield 78, 3) := by decide +kernel
theorem dX11_back_5 : decode cX11_back 5 = .ok (.aload_n 0, 1) := by decide +kernel
theorem dX11_back_6 : decode cX11_back 6 = .ok (.getfield 341, 3) := by decide +kernel
theorem dX11_back_9 : decode cX11_back 9 = .ok (.ifnull 15, 3) := by decide +kernel
theorem dX11_back_12 : decode cX11_back 12 = .ok (.iload_n 1, 1) := by decide +kernel
theorem dX11_back_13 : decode cX11_back 13 = .ok (.ifCond .lt 11, 3) := by decide +kernel
theorem dX11_back_16 : decode cX11_back 16 = .ok (.iload_n 1, 1) := by decide +kernel
theorem dX11_back_17 : decode cX11_back 17 = .ok (.aload_n 0, 1) := by decide +kernel
theorem dX11_back_18 : decode cX11_back 18 = .ok (.getfield 346, 3) := by decide +kernel
theorem dX11_back_21 : decode cX11_back 21 = .ok (.if_icmp .lt 9, 3) := by decide +kernel
theorem dX11_back_24 : decode cX11_back 24 = .ok (.aload_n 0, 1) := by decide +kernel
theorem dX11_back_25 : decode cX11_back 25 = .ok (.iconst 1, 1) := by decide +kernel
theorem dX11_back_26 : decode cX11_back 26 = .ok (.invokevirtual 490, 3) := by decide +kernel
theorem dX11_back_29 : decode cX11_back 29 = .ok (.ireturn, 1) := by decide +kernel
theorem dX11_back_30 : decode cX11_back 30 = .ok (.iconst 0, 1) := by decide +kernel
theorem dX11_back_31 : decode cX11_back 31 = .ok (.istore_n 2, 1) := by decide +kernel
theorem dX11_back_32 : decode cX11_back 32 = .ok (.iload_n 2, 1) := by decide +kernel
theorem dX11_back_33 : decode cX11_back 33 = .ok (.sipush 248, 3) := by decide +kernel
theorem dX11_back_36 : decode cX11_back 36 = .ok (.if_icmp .ge 27, 3) := by decide +kernel
theorem dX11_back_39 : decode cX11_back 39 = .ok (.aload_n 0, 1) := by decide +kernel
theorem dX11_back_40 : decode cX11_back 40 = .ok (.getfield 17, 3) := by decide +kernel
theorem dX11_back_43 : decode cX11_back 43 = .ok (.iload_n 2, 1) := by decide +kernel
theorem dX11_back_44 : decode cX11_back 44 = .ok (.aload_n 0, 1) := by decide +kernel
theorem dX11_back_45 : decode cX11_back 45 = .ok (.getfield 24, 3) := by decide +kernel
theorem dX11_back_48 : decode cX11_back 48 = .ok (.sipush 248, 3) := by decide +kernel
theorem dX11_back_51 : decode cX11_back 51 = .ok (.iload_n 1, 1) := by decide +kernel
theorem dX11_back_52 : decode cX11_back 52 = .ok (.imul, 1) := by decide +kernel
theorem dX11_back_53 : decode cX11_back 53 = .ok (.iload_n 2, 1) := by decide +kernel
theorem dX11_back_54 : decode cX11_back 54 = .ok (.iadd, 1) := by decide +kernel
theorem dX11_back_55 : decode cX11_back 55 = .ok (.iaload, 1) := by decide +kernel
theorem dX11_back_56 : decode cX11_back 56 = .ok (.iastore, 1) := by decide +kernel
theorem dX11_back_57 : decode cX11_back 57 = .ok (.iinc 2 1, 3) := by decide +kernel
theorem dX11_back_60 : decode cX11_back 60 = .ok (.goto (-28), 3) := by decide +kernel
theorem dX11_back_63 : decode cX11_back 63 = .ok (.aload_n 0, 1) := by decide +kernel
theorem dX11_back_64 : decode cX11_back 64 = .ok (.iconst 0, 1) := by decide +kernel
theorem dX11_back_65 : decode cX11_back 65 = .ok (.putfield 343, 3) := by decide +kernel
theorem dX11_back_68 : decode cX11_back 68 = .ok (.aload_n 0, 1) := by decide +kernel
theorem dX11_back_69 : decode cX11_back 69 = .ok (.invokevirtual 493, 3) := by decide +kernel
theorem dX11_back_72 : decode cX11_back 72 = .ok (.ireturn, 1) := by decide +kernel
theorem dX11_isAsFirst_0 : decode cX11_isAsFirst 0 = .ok (.iconst 0, 1) := by decide +kernel
theorem dX11_isAsFirst_1 : decode cX11_isAsFirst 1 = .ok (.istore_n 2, 1) := by decide +kernel
theorem dX11_isAsFirst_2 : decode cX11_isAsFirst 2 = .ok (.iload_n 2, 1) := by decide +kernel
theorem dX11_isAsFirst_3 : decode cX11_isAsFirst 3 = .ok (.aload_n 0, 1) := by decide +kernel
theorem dX11_isAsFirst_4 : decode cX11_isAsFirst 4 = .ok (.getfield 341, 3) := by decide +kernel
theorem dX11_isAsFirst_7 : decode cX11_isAsFirst 7 = .ok (.invokevirtual 373, 3) := by decide +kernel
theorem dX11_isAsFirst_10 : decode cX11_isAsFirst 10 = .ok (.if_icmp .ge 39, 3) := by decide +kernel
theorem dX11_isAsFirst_13 : decode cX11_isAsFirst 13 = .ok (.aload_n 0, 1) := by decide +kernel
theorem dX11_isAsFirst_14 : decode cX11_isAsFirst 14 = .ok (.getfield 17, 3) := by decide +kernel
theorem dX11_isAsFirst_17 : decode cX11_isAsFirst 17 = .ok (.bipush 36, 2) := by decide +kernel
theorem dX11_isAsFirst_19 : decode cX11_isAsFirst 19 = .ok (.iload_n 1, 1) := by decide +kernel
theorem dX11_isAsFirst_20 : decode cX11_isAsFirst 20 = .ok (.imul, 1) := by decide +kernel
theorem dX11_isAsFirst_21 : decode cX11_isAsFirst 21 = .ok (.iload_n 2, 1) := by decide +kernel
theorem dX11_isAsFirst_22 : decode cX11_isAsFirst 22 = .ok (.iadd, 1) := by decide +kernel
theorem dX11_isAsFirst_23 : decode cX11_isAsFirst 23 = .ok (.iaload, 1) := by decide +kernel
theorem dX11_isAsFirst_24 : decode cX11_isAsFirst 24 = .ok (.aload_n 0, 1) := by decide +kernel
theorem dX11_isAsFirst_25 : decode cX11_isAsFirst 25 = .ok (.getfield 341, 3) := by decide +kernel
theorem dX11_isAsFirst_28 : decode cX11_isAsFirst 28 = .ok (.getfield 262, 3) := by decide +kernel
theorem dX11_isAsFirst_31 : decode cX11_isAsFirst 31 = .ok (.bipush 36, 2) := by decide +kernel
theorem dX11_isAsFirst_33 : decode cX11_isAsFirst 33 = .ok (.iload_n 1, 1) := by decide +kernel
theorem dX11_isAsFirst_34 : decode cX11_isAsFirst 34 = .ok (.imul, 1) := by decide +kernel
theorem dX11_isAsFirst_35 : decode cX11_isAsFirst 35 = .ok (.iload_n 2, 1) := by decide +kernel
theorem dX11_isAsFirst_36 : decode cX11_isAsFirst 36 = .ok (.iadd, 1) := by decide +kernel
theorem dX11_isAsFirst_37 : decode cX11_isAsFirst 37 = .ok (.iaload, 1) := by decide +kernel
theorem dX11_isAsFirst_38 : decode cX11_isAsFirst 38 = .ok (.if_icmp .eq 5, 3) := by decide +kernel
theorem dX11_isAsFirst_41 : decode cX11_isAsFirst 41 = .ok (.iconst 0, 1) := by decide +kernel
theorem dX11_isAsFirst_42 : decode cX11_isAsFirst 42 = .ok (.ireturn, 1) := by decide +kernel
theorem dX11_isAsFirst_43 : decode cX11_isAsFirst 43 = .ok (.iinc 2 1, 3) := by decide +kernel
theorem dX11_isAsFirst_46 : decode cX11_isAsFirst 46 = .ok (.goto (-44), 3) := by decide +kernel
theorem dX11_isAsFirst_49 : decode cX11_isAsFirst 49 = .ok (.iconst 1, 1) := by decide +kernel
theorem dX11_isAsFirst_50 : decode cX11_isAsFirst 50 = .ok (.ireturn, 1) := by decide +kernel
theorem dX11_led_0 : decode cX11_led 0 = .ok (.aload_n 0, 1) := by decide +kernel
theorem dX11_led_1 : decode cX11_led 1 = .ok (.iconst 0, 1) := by decide +kernel
theorem dX11_led_2 : decode cX11_led 2 = .ok (.putfield 78, 3) := by decide +kernel
theorem dX11_led_5 : decode cX11_led 5 = .ok (.iconst 0, 1) := by decide +kernel
theorem dX11_led_6 : decode cX11_led 6 = .ok (.istore_n 2, 1) := by decide +kernel
theorem dX11_led_7 : decode cX11_led 7 = .ok (.iconst 0, 1) := by decide +kernel
theorem dX11_led_8 : decode cX11_led 8 = .ok (.istore_n 3, 1) := by decide +kernel
theorem dX11_led_9 : decode cX11_led 9 = .ok (.aload_n 0, 1) := by decide +kernel
theorem dX11_led_10 : decode cX11_led 10 = .ok (.getfield 341, 3) := by decide +kernel
theorem dX11_led_13 : decode cX11_led 13 = .ok (.ifnull 41, 3) := by decide +kernel
theorem dX11_led_16 : decode cX11_led 16 = .ok (.iload_n 3, 1) := by decide +kernel
theorem dX11_led_17 : decode cX11_led 17 = .ok (.aload_n 0, 1) := by decide +kernel
theorem dX11_led_18 : decode cX11_led 18 = .ok (.getfield 341, 3) := by decide +kernel
theorem dX11_led_21 : decode cX11_led 21 = .ok (.getfield 230, 3) := by decide +kernel
theorem dX11_led_24 : decode cX11_led 24 = .ok (.if_icmp .ge 30, 3) := by decide +kernel
theorem dX11_led_27 : decode cX11_led 27 = .ok (.aload_n 0, 1) := by decide +kernel
theorem dX11_led_28 : decode cX11_led 28 = .ok (.iload_n 3, 1) := by decide +kernel
theorem dX11_led_29 : decode cX11_led 29 = .ok (.invokevirtual 497, 3) := by decide +kernel
theorem dX11_led_32 : decode cX11_led 32 = .ok (.ifCond .eq 6, 3) := by decide +kernel
theorem dX11_led_35 : decode cX11_led 35 = .ok (.goto 13, 3) := by decide +kernel
theorem dX11_led_38 : decode cX11_led 38 = .ok (.iload_n 2, 1) := by decide +kernel
theorem dX11_led_39 : decode cX11_led 39 = .ok (.iload_n 1, 1) := by decide +kernel
theorem dX11_led_40 : decode cX11_led 40 = .ok (.if_icmp .ne 5, 3) := by decide +kernel
theorem dX11_led_43 : decode cX11_led 43 = .ok (.iload_n 3, 1) := by decide +kernel
theorem dX11_led_44 : decode cX11_led 44 = .ok (.ireturn, 1) := by decide +kernel
theorem dX11_led_45 : decode cX11_led 45 = .ok (.iinc 2 1, 3) := by decide +kernel
theorem dX11_led_48 : decode cX11_led 48 = .ok (.iinc 3 1, 3) := by decide +kernel
theorem dX11_led_51 : decode cX11_led 51 = .ok (.goto (-42), 3) := by decide +kernel
theorem dX11_led_54 : decode cX11_led 54 = .ok (.aload_n 0, 1) := by decide +kernel
theorem dX11_led_55 : decode cX11_led 55 = .ok (.iconst 1, 1) := by decide +kernel
theorem dX11_led_56 : decode cX11_led 56 = .ok (.putfield 78, 3) := by decide +kernel
theorem dX11_led_59 : decode cX11_led 59 = .ok (.iconst 0, 1) := by decide +kernel
theorem dX11_led_60 : decode cX11_led 60 = .ok (.ireturn, 1) := by decide +kernel
theorem dX11_copiers_0 : decode cX11_copiers 0 = .ok (.iconst 0, 1) := by decide +kernel
theorem dX11_copiers_1 : decode cX11_copiers 1 = .ok (.istore_n 1, 1) := by decide +kernel
theorem dX11_copiers_2 : decode cX11_copiers 2 = .ok (.iconst 0, 1) := by decide +kernel
theorem dX11_copiers_3 : decode cX11_copiers 3 = .ok (.istore_n 2, 1) := by decide +kernel
theorem dX11_copiers_4 : decode cX11_copiers 4 = .ok (.iload_n 2, 1) := by decide +kernel
theorem dX11_copiers_5 : decode cX11_copiers 5 = .ok (.aload_n 0, 1) := by decide +kernel
theorem dX11_copiers_6 : decode cX11_copiers 6 = .ok (.getfield 341, 3) := by decide +kernel
theorem dX11_copiers_9 : decode cX11_copiers 9 = .ok (.getfield 230, 3) := by decide +kernel
theorem dX11_copiers_12 : decode cX11_copiers 12 = .ok (.if_icmp .ge 32, 3) := by decide +kernel
theorem dX11_copiers_15 : decode cX11_copiers 15 = .ok (.iload_n 1, 1) := by decide +kernel
theorem dX11_copiers_16 : decode cX11_copiers 16 = .ok (.aload_n 0, 1) := by decide +kernel
theorem dX11_copiers_17 : decode cX11_copiers 17 = .ok (.getfield 17, 3) := by decide +kernel
theorem dX11_copiers_20 : decode cX11_copiers 20 = .ok (.sipush 216, 3) := by decide +kernel
theorem dX11_copiers_23 : decode cX11_copiers 23 = .ok (.iload_n 2, 1) := by decide +kernel
theorem dX11_copiers_24 : decode cX11_copiers 24 = .ok (.iadd, 1) := by decide +kernel
theorem dX11_copiers_25 : decode cX11_copiers 25 = .ok (.iaload, 1) := by decide +kernel
theorem dX11_copiers_26 : decode cX11_copiers 26 = .ok (.bipush (-2), 2) := by decide +kernel
theorem dX11_copiers_28 : decode cX11_copiers 28 = .ok (.if_icmp .ne 7, 3) := by decide +kernel
theorem dX11_copiers_31 : decode cX11_copiers 31 = .ok (.iconst 0, 1) := by decide +kernel
theorem dX11_copiers_32 : decode cX11_copiers 32 = .ok (.goto 4, 3) := by decide +kernel
theorem dX11_copiers_35 : decode cX11_copiers 35 = .ok (.iconst 1, 1) := by decide +kernel
theorem dX11_copiers_36 : decode cX11_copiers 36 = .ok (.iadd, 1) := by decide +kernel
theorem dX11_copiers_37 : decode cX11_copiers 37 = .ok (.istore_n 1, 1) := by decide +kernel
theorem dX11_copiers_38 : decode cX11_copiers 38 = .ok (.iinc 2 1, 3) := by decide +kernel
theorem dX11_copiers_41 : decode cX11_copiers 41 = .ok (.goto (-37), 3) := by decide +kernel
theorem dX11_copiers_44 : decode cX11_copiers 44 = .ok (.iload_n 1, 1) := by decide +kernel
theorem dX11_copiers_45 : decode cX11_copiers 45 = .ok (.ireturn, 1) := by decide +kernel
theorem dX11_size_0 : decode cX11_size 0 = .ok (.aload_n 0, 1) := by decide +kernel
theorem dX11_size_1 : decode cX11_size 1 = .ok (.iconst 0, 1) := by decide +kernel
theorem dX11_size_2 : decode cX11_size 2 = .ok (.putfield 78, 3) := by decide +kernel
theorem dX11_size_5 : decode cX11_size 5 = .ok (.iload_n 1, 1) := by decide +kernel
theorem dX11_size_6 : decode cX11_size 6 = .ok (.bipush 11, 2) := by decide +kernel
theorem dX11_size_8 : decode cX11_size 8 = .ok (.if_icmp .ne 8, 3) := by decide +kernel
theorem dX11_size_11 : decode cX11_size 11 = .ok (.aload_n 0, 1) := by decide +kernel
theorem dX11_size_12 : decode cX11_size 12 = .ok (.getfield 334, 3) := by decide +kernel
theorem dX11_size_15 : decode cX11_size 15 = .ok (.ireturn, 1) := by decide +kernel
theorem dX11_size_16 : decode cX11_size 16 = .ok (.iload_n 1, 1) := by decide +kernel
theorem dX11_size_17 : decode cX11_size 17 = .ok (.iconst 0, 1) := by decide +kernel
theorem dX11_size_18 : decode cX11_size 18 = .ok (.bipush 10, 2) := by decide +kernel
theorem dX11_size_20 : decode cX11_size 20 = .ok (.invokestatic 166, 3) := by decide +kernel
theorem dX11_size_23 : decode cX11_size 23 = .ok (.ifCond .ne 5, 3) := by decide +kernel
theorem dX11_size_26 : decode cX11_size 26 = .ok (.iconst (-1), 1) := by decide +kernel
theorem dX11_size_27 : decode cX11_size 27 = .ok (.ireturn, 1) := by decide +kernel
theorem dX11_size_28 : decode cX11_size 28 = .ok (.aload_n 0, 1) := by decide +kernel
theorem dX11_size_29 : decode cX11_size 29 = .ok (.getfield 341, 3) := by decide +kernel
theorem dX11_size_32 : decode cX11_size 32 = .ok (.ifnonnull 5, 3) := by decide +kernel
theorem dX11_size_35 : decode cX11_size 35 = .ok (.iconst 0, 1) := by decide +kernel
theorem dX11_size_36 : decode cX11_size 36 = .ok (.ireturn, 1) := by decide +kernel
theorem dX11_size_37 : decode cX11_size 37 = .ok (.iload_n 1, 1) := by decide +kernel
theorem dX11_size_38 : decode cX11_size 38 = .ok (.tableswitch 130 0 9 #[54, 62, 70, 78, 86, 91, 99, 107, 116, 125], 54) := by decide +kernel
theorem dX11_size_92 : decode cX11_size 92 = .ok (.aload_n 0, 1) := by decide +kernel
theorem dX11_size_93 : decode cX11_size 93 = .ok (.getfield 341, 3) := by decide +kernel
theorem dX11_size_96 : decode cX11_size 96 = .ok (.getfield 194, 3) := by decide +kernel
theorem dX11_size_99 : decode cX11_size 99 = .ok (.ireturn, 1) := by decide +kernel
theorem dX11_size_100 : decode cX11_size 100 = .ok (.aload_n 0, 1) := by decide +kernel
theorem dX11_size_101 : decode cX11_size 101 = .ok (.getfield 341, 3) := by decide +kernel
theorem dX11_size_104 : decode cX11_size 104 = .ok (.getfield 256, 3) := by decide +kernel
theorem dX11_size_107 : decode cX11_size 107 = .ok (.ireturn, 1) := by decide +kernel
theorem dX11_size_108 : decode cX11_size 108 = .ok (.aload_n 0, 1) := by decide +kernel
theorem dX11_size_109 : decode cX11_size 109 = .ok (.getfield 341, 3) := by decide +kernel
theorem dX11_size_112 : decode cX11_size 112 = .ok (.getfield 215, 3) := by decide +kernel
theorem dX11_size_115 : decode cX11_size 115 = .ok (.ireturn, 1) := by decide +kernel
theorem dX11_size_116 : decode cX11_size 116 = .ok (.aload_n 0, 1) := by decide +kernel
theorem dX11_size_117 : decode cX11_size 117 = .ok (.getfield 341, 3) := by decide +kernel
theorem dX11_size_120 : decode cX11_size 120 = .ok (.getfield 230, 3) := by decide +kernel
theorem dX11_size_123 : decode cX11_size 123 = .ok (.ireturn, 1) := by decide +kernel
theorem dX11_size_124 : decode cX11_size 124 = .ok (.aload_n 0, 1) := by decide +kernel
theorem dX11_size_125 : decode cX11_size 125 = .ok (.invokevirtual 500, 3) := by decide +kernel
theorem dX11_size_128 : decode cX11_size 128 = .ok (.ireturn, 1) := by decide +kernel
theorem dX11_size_129 : decode cX11_size 129 = .ok (.aload_n 0, 1) := by decide +kernel
theorem dX11_size_130 : decode cX11_size 130 = .ok (.getfield 341, 3) := by decide +kernel
theorem dX11_size_133 : decode cX11_size 133 = .ok (.getfield 314, 3) := by decide +kernel
theorem dX11_size_136 : decode cX11_size 136 = .ok (.ireturn, 1) := by decide +kernel
theorem dX11_size_137 : decode cX11_size 137 = .ok (.aload_n 0, 1) := by decide +kernel
theorem dX11_size_138 : decode cX11_size 138 = .ok (.getfield 341, 3) := by decide +kernel
theorem dX11_size_141 : decode cX11_size 141 = .ok (.getfield 319, 3) := by decide +kernel
theorem dX11_size_144 : decode cX11_size 144 = .ok (.ireturn, 1) := by decide +kernel
theorem dX11_size_145 : decode cX11_size 145 = .ok (.aload_n 0, 1) := by decide +kernel
theorem dX11_size_146 : decode cX11_size 146 = .ok (.getfield 17, 3) := by decide +kernel
theorem dX11_size_149 : decode cX11_size 149 = .ok (.sipush 246, 3) := by decide +kernel
theorem dX11_size_152 : decode cX11_size 152 = .ok (.iaload, 1) := by decide +kernel
theorem dX11_size_153 : decode cX11_size 153 = .ok (.ireturn, 1) := by decide +kernel
theorem dX11_size_154 : decode cX11_size 154 = .ok (.aload_n 0, 1) := by decide +kernel
theorem dX11_size_155 : decode cX11_size 155 = .ok (.getfield 17, 3) := by decide +kernel
theorem dX11_size_158 : decode cX11_size 158 = .ok (.sipush 247, 3) := by decide +kernel
theorem dX11_size_161 : decode cX11_size 161 = .ok (.iaload, 1) := by decide +kernel
theorem dX11_size_162 : decode cX11_size 162 = .ok (.ireturn, 1) := by decide +kernel
theorem dX11_size_163 : decode cX11_size 163 = .ok (.aload_n 0, 1) := by decide +kernel
theorem dX11_size_164 : decode cX11_size 164 = .ok (.getfield 343, 3) := by decide +kernel
theorem dX11_size_167 : decode cX11_size 167 = .ok (.ireturn, 1) := by decide +kernel
theorem dX11_size_168 : decode cX11_size 168 = .ok (.aload_n 0, 1) := by decide +kernel
theorem dX11_size_169 : decode cX11_size 169 = .ok (.getfield 346, 3) := by decide +kernel
theorem dX11_size_172 : decode cX11_size 172 = .ok (.ireturn, 1) := by decide +kernel
theorem dX11_trouble_0 : decode cX11_trouble 0 = .ok (.aload_n 0, 1) := by decide +kernel
theorem dX11_trouble_1 : decode cX11_trouble 1 = .ok (.iconst 0, 1) := by decide +kernel
theorem dX11_trouble_2 : decode cX11_trouble 2 = .ok (.putfield 78, 3) := by decide +kernel
theorem dX11_trouble_5 : decode cX11_trouble 5 = .ok (.aload_n 0, 1) := by decide +kernel
theorem dX11_trouble_6 : decode cX11_trouble 6 = .ok (.getfield 81, 3) := by decide +kernel
theorem dX11_trouble_9 : decode cX11_trouble 9 = .ok (.ireturn, 1) := by decide +kernel
theorem dJ9_max_7cf53_0 : decode cJ9_max_7cf53 0 = .ok (.iload_n 0, 1) := by decide +kernel
theorem dJ9_max_7cf53_1 : decode cJ9_max_7cf53 1 = .ok (.iload_n 1, 1) := by decide +kernel
theorem dJ9_max_7cf53_2 : decode cJ9_max_7cf53 2 = .ok (.if_icmp .lt 7, 3) := by decide +kernel
theorem dJ9_max_7cf53_5 : decode cJ9_max_7cf53 5 = .ok (.iload_n 0, 1) := by decide +kernel
theorem dJ9_max_7cf53_6 : decode cJ9_max_7cf53 6 = .ok (.goto 4, 3) := by decide +kernel
theorem dJ9_max_7cf53_9 : decode cJ9_max_7cf53 9 = .ok (.iload_n 1, 1) := by decide +kernel
theorem dJ9_max_7cf53_10 : decode cJ9_max_7cf53 10 = .ok (.ireturn, 1) := by decide +kernel
theorem dJ9_min_7cf53_0 : decode cJ9_min_7cf53 0 = .ok (.iload_n 0, 1) := by decide +kernel
theorem dJ9_min_7cf53_1 : decode cJ9_min_7cf53 1 = .ok (.iload_n 1, 1) := by decide +kernel
theorem dJ9_min_7cf53_2 : decode cJ9_min_7cf53 2 = .ok (.if_icmp .gt 7, 3) := by decide +kernel
theorem dJ9_min_7cf53_5 : decode cJ9_min_7cf53 5 = .ok (.iload_n 0, 1) := by decide +kernel
theorem dJ9_min_7cf53_6 : decode cJ9_min_7cf53 6 = .ok (.goto 4, 3) := by decide +kernel
theorem dJ9_min_7cf53_9 : decode cJ9_min_7cf53 9 = .ok (.iload_n 1, 1) := by decide +kernel
theorem dJ9_min_7cf53_10 : decode cJ9_min_7cf53 10 = .ok (.ireturn, 1) := by decide +kernel
theorem dJ0_length_8abf5_0 : decode cJ0_length_8abf5 0 = .ok (.aload_n 0, 1) := by decide +kernel
theorem dJ0_length_8abf5_1 : decode cJ0_length_8abf5 1 = .ok (.getfield 9, 3) := by decide +kernel
theorem dJ0_length_8abf5_4 : decode cJ0_length_8abf5 4 = .ok (.arraylength, 1) := by decide +kernel
theorem dJ0_length_8abf5_5 : decode cJ0_length_8abf5 5 = .ok (.aload_n 0, 1) := by decide +kernel
theorem dJ0_length_8abf5_6 : decode cJ0_length_8abf5 6 = .ok (.invokevirtual 335, 3) := by decide +kernel
theorem dJ0_length_8abf5_9 : decode cJ0_length_8abf5 9 = .ok (.ishr, 1) := by decide +kernel
theorem dJ0_length_8abf5_10 : decode cJ0_length_8abf5 10 = .ok (.ireturn, 1) := by decide +kernel
theorem dJ0_charAt_5068e_0 : decode cJ0_charAt_5068e 0 = .ok (.aload_n 0, 1) := by decide +kernel
theorem dJ0_charAt_5068e_1 : decode cJ0_charAt_5068e 1 = .ok (.invokevirtual 492, 3) := by decide +kernel
theorem dJ0_charAt_5068e_4 : decode cJ0_charAt_5068e 4 = .ok (.ifCond .eq 12, 3) := by decide +kernel
theorem dJ0_charAt_5068e_7 : decode cJ0_charAt_5068e 7 = .ok (.aload_n 0, 1) := by decide +kernel
theorem dJ0_charAt_5068e_8 : decode cJ0_charAt_5068e 8 = .ok (.getfield 9, 3) := by decide +kernel
theorem dJ0_charAt_5068e_11 : decode cJ0_charAt_5068e 11 = .ok (.iload_n 1, 1) := by decide +kernel
theorem dJ0_charAt_5068e_12 : decode cJ0_charAt_5068e 12 = .ok (.invokestatic 495, 3) := by decide +kernel
theorem dJ0_charAt_5068e_15 : decode cJ0_charAt_5068e 15 = .ok (.ireturn, 1) := by decide +kernel
theorem dJ0_charAt_5068e_16 : decode cJ0_charAt_5068e 16 = .ok (.aload_n 0, 1) := by decide +kernel
theorem dJ0_charAt_5068e_17 : decode cJ0_charAt_5068e 17 = .ok (.getfield 9, 3) := by decide +kernel
theorem dJ0_charAt_5068e_20 : decode cJ0_charAt_5068e 20 = .ok (.iload_n 1, 1) := by decide +kernel
theorem dJ0_charAt_5068e_21 : decode cJ0_charAt_5068e 21 = .ok (.invokestatic 498, 3) := by decide +kernel
theorem dJ0_charAt_5068e_24 : decode cJ0_charAt_5068e 24 = .ok (.ireturn, 1) := by decide +kernel
theorem dJ0_coder_7d493_0 : decode cJ0_coder_7d493 0 = .ok (.getstatic 38, 3) := by decide +kernel
theorem dJ0_coder_7d493_3 : decode cJ0_coder_7d493 3 = .ok (.ifCond .eq 10, 3) := by decide +kernel
theorem dJ0_coder_7d493_6 : decode cJ0_coder_7d493 6 = .ok (.aload_n 0, 1) := by decide +kernel
theorem dJ0_coder_7d493_7 : decode cJ0_coder_7d493 7 = .ok (.getfield 15, 3) := by decide +kernel
theorem dJ0_coder_7d493_10 : decode cJ0_coder_7d493 10 = .ok (.goto 4, 3) := by decide +kernel
theorem dJ0_coder_7d493_13 : decode cJ0_coder_7d493 13 = .ok (.iconst 1, 1) := by decide +kernel
theorem dJ0_coder_7d493_14 : decode cJ0_coder_7d493 14 = .ok (.ireturn, 1) := by decide +kernel
theorem dJ0_isLatin1_aae02_0 : decode cJ0_isLatin1_aae02 0 = .ok (.getstatic 38, 3) := by decide +kernel
theorem dJ0_isLatin1_aae02_3 : decode cJ0_isLatin1_aae02 3 = .ok (.ifCond .eq 14, 3) := by decide +kernel
theorem dJ0_isLatin1_aae02_6 : decode cJ0_isLatin1_aae02 6 = .ok (.aload_n 0, 1) := by decide +kernel
theorem dJ0_isLatin1_aae02_7 : decode cJ0_isLatin1_aae02 7 = .ok (.getfield 15, 3) := by decide +kernel
theorem dJ0_isLatin1_aae02_10 : decode cJ0_isLatin1_aae02 10 = .ok (.ifCond .ne 7, 3) := by decide +kernel
theorem dJ0_isLatin1_aae02_13 : decode cJ0_isLatin1_aae02 13 = .ok (.iconst 1, 1) := by decide +kernel
theorem dJ0_isLatin1_aae02_14 : decode cJ0_isLatin1_aae02 14 = .ok (.goto 4, 3) := by decide +kernel
theorem dJ0_isLatin1_aae02_17 : decode cJ0_isLatin1_aae02 17 = .ok (.iconst 0, 1) := by decide +kernel
theorem dJ0_isLatin1_aae02_18 : decode cJ0_isLatin1_aae02 18 = .ok (.ireturn, 1) := by decide +kernel
theorem dJ0_checkIndex_df160_0 : decode cJ0_checkIndex_df160 0 = .ok (.iload_n 0, 1) := by decide +kernel
theorem dJ0_checkIndex_df160_1 : decode cJ0_checkIndex_df160 1 = .ok (.iload_n 1, 1) := by decide +kernel
theorem dJ0_checkIndex_df160_2 : decode cJ0_checkIndex_df160 2 = .ok (.getstatic 1053, 3) := by decide +kernel
theorem dJ0_checkIndex_df160_5 : decode cJ0_checkIndex_df160 5 = .ok (.invokestatic 1059, 3) := by decide +kernel
theorem dJ0_checkIndex_df160_8 : decode cJ0_checkIndex_df160 8 = .ok (.pop, 1) := by decide +kernel
theorem dJ0_checkIndex_df160_9 : decode cJ0_checkIndex_df160 9 = .ok (.return_, 1) := by decide +kernel
theorem dJ1_charAt_3b067_0 : decode cJ1_charAt_3b067 0 = .ok (.iload_n 1, 1) := by decide +kernel
theorem dJ1_charAt_3b067_1 : decode cJ1_charAt_3b067 1 = .ok (.aload_n 0, 1) := by decide +kernel
theorem dJ1_charAt_3b067_2 : decode cJ1_charAt_3b067 2 = .ok (.arraylength, 1) := by decide +kernel
theorem dJ1_charAt_3b067_3 : decode cJ1_charAt_3b067 3 = .ok (.invokestatic 9, 3) := by decide +kernel
theorem dJ1_charAt_3b067_6 : decode cJ1_charAt_3b067 6 = .ok (.aload_n 0, 1) := by decide +kernel
theorem dJ1_charAt_3b067_7 : decode cJ1_charAt_3b067 7 = .ok (.iload_n 1, 1) := by decide +kernel
theorem dJ1_charAt_3b067_8 : decode cJ1_charAt_3b067 8 = .ok (.baload, 1) := by decide +kernel
theorem dJ1_charAt_3b067_9 : decode cJ1_charAt_3b067 9 = .ok (.sipush 255, 3) := by decide +kernel
theorem dJ1_charAt_3b067_12 : decode cJ1_charAt_3b067 12 = .ok (.iand, 1) := by decide +kernel
theorem dJ1_charAt_3b067_13 : decode cJ1_charAt_3b067 13 = .ok (.i2c, 1) := by decide +kernel
theorem dJ1_charAt_3b067_14 : decode cJ1_charAt_3b067 14 = .ok (.ireturn, 1) := by decide +kernel
theorem dJ2_getChar_3b067_0 : decode cJ2_getChar_3b067 0 = .ok (.getstatic 44, 3) := by decide +kernel
theorem dJ2_getChar_3b067_3 : decode cJ2_getChar_3b067 3 = .ok (.ifCond .ne 25, 3) := by decide +kernel
theorem dJ2_getChar_3b067_6 : decode cJ2_getChar_3b067 6 = .ok (.iload_n 1, 1) := by decide +kernel
theorem dJ2_getChar_3b067_7 : decode cJ2_getChar_3b067 7 = .ok (.ifCond .lt 11, 3) := by decide +kernel
theorem dJ2_getChar_3b067_10 : decode cJ2_getChar_3b067 10 = .ok (.iload_n 1, 1) := by decide +kernel
theorem dJ2_getChar_3b067_11 : decode cJ2_getChar_3b067 11 = .ok (.aload_n 0, 1) := by decide +kernel
theorem dJ2_getChar_3b067_12 : decode cJ2_getChar_3b067 12 = .ok (.invokestatic 48, 3) := by decide +kernel
theorem dJ2_getChar_3b067_15 : decode cJ2_getChar_3b067 15 = .ok (.if_icmp .lt 13, 3) := by decide +kernel
theorem dJ2_getChar_3b067_18 : decode cJ2_getChar_3b067 18 = .ok (.new 52, 3) := by decide +kernel
theorem dJ2_getChar_3b067_21 : decode cJ2_getChar_3b067 21 = .ok (.dup, 1) := by decide +kernel
theorem dJ2_getChar_3b067_22 : decode cJ2_getChar_3b067 22 = .ok (.ldc 54, 2) := by decide +kernel
theorem dJ2_getChar_3b067_24 : decode cJ2_getChar_3b067 24 = .ok (.invokespecial 56, 3) := by decide +kernel
theorem dJ2_getChar_3b067_27 : decode cJ2_getChar_3b067 27 = .ok (.athrow, 1) := by decide +kernel
theorem dJ2_getChar_3b067_28 : decode cJ2_getChar_3b067 28 = .ok (.iload_n 1, 1) := by decide +kernel
theorem dJ2_getChar_3b067_29 : decode cJ2_getChar_3b067 29 = .ok (.iconst 1, 1) := by decide +kernel
theorem dJ2_getChar_3b067_30 : decode cJ2_getChar_3b067 30 = .ok (.ishl, 1) := by decide +kernel
theorem dJ2_getChar_3b067_31 : decode cJ2_getChar_3b067 31 = .ok (.istore_n 1, 1) := by decide +kernel
theorem dJ2_getChar_3b067_32 : decode cJ2_getChar_3b067 32 = .ok (.aload_n 0, 1) := by decide +kernel
theorem dJ2_getChar_3b067_33 : decode cJ2_getChar_3b067 33 = .ok (.iload_n 1, 1) := by decide +kernel
theorem dJ2_getChar_3b067_34 : decode cJ2_getChar_3b067 34 = .ok (.iinc 1 1, 3) := by decide +kernel
theorem dJ2_getChar_3b067_37 : decode cJ2_getChar_3b067 37 = .ok (.baload, 1) := by decide +kernel
theorem dJ2_getChar_3b067_38 : decode cJ2_getChar_3b067 38 = .ok (.sipush 255, 3) := by decide +kernel
theorem dJ2_getChar_3b067_41 : decode cJ2_getChar_3b067 41 = .ok (.iand, 1) := by decide +kernel
theorem dJ2_getChar_3b067_42 : decode cJ2_getChar_3b067 42 = .ok (.getstatic 59, 3) := by decide +kernel
theorem dJ2_getChar_3b067_45 : decode cJ2_getChar_3b067 45 = .ok (.ishl, 1) := by decide +kernel
theorem dJ2_getChar_3b067_46 : decode cJ2_getChar_3b067 46 = .ok (.aload_n 0, 1) := by decide +kernel
theorem dJ2_getChar_3b067_47 : decode cJ2_getChar_3b067 47 = .ok (.iload_n 1, 1) := by decide +kernel
theorem dJ2_getChar_3b067_48 : decode cJ2_getChar_3b067 48 = .ok (.baload, 1) := by decide +kernel
theorem dJ2_getChar_3b067_49 : decode cJ2_getChar_3b067 49 = .ok (.sipush 255, 3) := by decide +kernel
theorem dJ2_getChar_3b067_52 : decode cJ2_getChar_3b067 52 = .ok (.iand, 1) := by decide +kernel
theorem dJ2_getChar_3b067_53 : decode cJ2_getChar_3b067 53 = .ok (.getstatic 63, 3) := by decide +kernel
theorem dJ2_getChar_3b067_56 : decode cJ2_getChar_3b067 56 = .ok (.ishl, 1) := by decide +kernel
theorem dJ2_getChar_3b067_57 : decode cJ2_getChar_3b067 57 = .ok (.ior, 1) := by decide +kernel
theorem dJ2_getChar_3b067_58 : decode cJ2_getChar_3b067 58 = .ok (.i2c, 1) := by decide +kernel
theorem dJ2_getChar_3b067_59 : decode cJ2_getChar_3b067 59 = .ok (.ireturn, 1) := by decide +kernel
theorem dJ2_length_9d52b_0 : decode cJ2_length_9d52b 0 = .ok (.aload_n 0, 1) := by decide +kernel
theorem dJ2_length_9d52b_1 : decode cJ2_length_9d52b 1 = .ok (.arraylength, 1) := by decide +kernel
theorem dJ2_length_9d52b_2 : decode cJ2_length_9d52b 2 = .ok (.iconst 1, 1) := by decide +kernel
theorem dJ2_length_9d52b_3 : decode cJ2_length_9d52b 3 = .ok (.ishr, 1) := by decide +kernel
theorem dJ2_length_9d52b_4 : decode cJ2_length_9d52b 4 = .ok (.ireturn, 1) := by decide +kernel
theorem dJ2_charAt_3b067_0 : decode cJ2_charAt_3b067 0 = .ok (.iload_n 1, 1) := by decide +kernel
theorem dJ2_charAt_3b067_1 : decode cJ2_charAt_3b067 1 = .ok (.aload_n 0, 1) := by decide +kernel
theorem dJ2_charAt_3b067_2 : decode cJ2_charAt_3b067 2 = .ok (.invokestatic 67, 3) := by decide +kernel
theorem dJ2_charAt_3b067_5 : decode cJ2_charAt_3b067 5 = .ok (.aload_n 0, 1) := by decide +kernel
theorem dJ2_charAt_3b067_6 : decode cJ2_charAt_3b067 6 = .ok (.iload_n 1, 1) := by decide +kernel
theorem dJ2_charAt_3b067_7 : decode cJ2_charAt_3b067 7 = .ok (.invokestatic 71, 3) := by decide +kernel
theorem dJ2_charAt_3b067_10 : decode cJ2_charAt_3b067 10 = .ok (.ireturn, 1) := by decide +kernel
theorem dJ2_checkIndex_2214a_0 : decode cJ2_checkIndex_2214a 0 = .ok (.iload_n 0, 1) := by decide +kernel
theorem dJ2_checkIndex_2214a_1 : decode cJ2_checkIndex_2214a 1 = .ok (.aload_n 1, 1) := by decide +kernel
theorem dJ2_checkIndex_2214a_2 : decode cJ2_checkIndex_2214a 2 = .ok (.invokestatic 48, 3) := by decide +kernel
theorem dJ2_checkIndex_2214a_5 : decode cJ2_checkIndex_2214a 5 = .ok (.invokestatic 414, 3) := by decide +kernel
theorem dJ2_checkIndex_2214a_8 : decode cJ2_checkIndex_2214a 8 = .ok (.return_, 1) := by decide +kernel
theorem dJ7_fill_53178_0 : decode cJ7_fill_53178 0 = .ok (.iconst 0, 1) := by decide +kernel
theorem dJ7_fill_53178_1 : decode cJ7_fill_53178 1 = .ok (.istore_n 2, 1) := by decide +kernel
theorem dJ7_fill_53178_2 : decode cJ7_fill_53178 2 = .ok (.aload_n 0, 1) := by decide +kernel
theorem dJ7_fill_53178_3 : decode cJ7_fill_53178 3 = .ok (.arraylength, 1) := by decide +kernel
theorem dJ7_fill_53178_4 : decode cJ7_fill_53178 4 = .ok (.istore_n 3, 1) := by decide +kernel
theorem dJ7_fill_53178_5 : decode cJ7_fill_53178 5 = .ok (.iload_n 2, 1) := by decide +kernel
theorem dJ7_fill_53178_6 : decode cJ7_fill_53178 6 = .ok (.iload_n 3, 1) := by decide +kernel
theorem dJ7_fill_53178_7 : decode cJ7_fill_53178 7 = .ok (.if_icmp .ge 13, 3) := by decide +kernel
theorem dJ7_fill_53178_10 : decode cJ7_fill_53178 10 = .ok (.aload_n 0, 1) := by decide +kernel
theorem dJ7_fill_53178_11 : decode cJ7_fill_53178 11 = .ok (.iload_n 2, 1) := by decide +kernel
theorem dJ7_fill_53178_12 : decode cJ7_fill_53178 12 = .ok (.iload_n 1, 1) := by decide +kernel
theorem dJ7_fill_53178_13 : decode cJ7_fill_53178 13 = .ok (.iastore, 1) := by decide +kernel
theorem dJ7_fill_53178_14 : decode cJ7_fill_53178 14 = .ok (.iinc 2 1, 3) := by decide +kernel
theorem dJ7_fill_53178_17 : decode cJ7_fill_53178 17 = .ok (.goto (-12), 3) := by decide +kernel
theorem dJ7_fill_53178_20 : decode cJ7_fill_53178 20 = .ok (.return_, 1) := by decide +kernel
theorem dJ3_checkIndex_8e157_0 : decode cJ3_checkIndex_8e157 0 = .ok (.iload_n 0, 1) := by decide +kernel
theorem dJ3_checkIndex_8e157_1 : decode cJ3_checkIndex_8e157 1 = .ok (.ifCond .lt 8, 3) := by decide +kernel
theorem dJ3_checkIndex_8e157_4 : decode cJ3_checkIndex_8e157 4 = .ok (.iload_n 0, 1) := by decide +kernel
theorem dJ3_checkIndex_8e157_5 : decode cJ3_checkIndex_8e157 5 = .ok (.iload_n 1, 1) := by decide +kernel
theorem dJ3_checkIndex_8e157_6 : decode cJ3_checkIndex_8e157 6 = .ok (.if_icmp .lt 10, 3) := by decide +kernel
theorem dJ3_checkIndex_8e157_9 : decode cJ3_checkIndex_8e157 9 = .ok (.aload_n 2, 1) := by decide +kernel
theorem dJ3_checkIndex_8e157_10 : decode cJ3_checkIndex_8e157 10 = .ok (.iload_n 0, 1) := by decide +kernel
theorem dJ3_checkIndex_8e157_11 : decode cJ3_checkIndex_8e157 11 = .ok (.iload_n 1, 1) := by decide +kernel
theorem dJ3_checkIndex_8e157_12 : decode cJ3_checkIndex_8e157 12 = .ok (.invokestatic 95, 3) := by decide +kernel
theorem dJ3_checkIndex_8e157_15 : decode cJ3_checkIndex_8e157 15 = .ok (.athrow, 1) := by decide +kernel
theorem dJ3_checkIndex_8e157_16 : decode cJ3_checkIndex_8e157 16 = .ok (.iload_n 0, 1) := by decide +kernel
theorem dJ3_checkIndex_8e157_17 : decode cJ3_checkIndex_8e157 17 = .ok (.ireturn, 1) := by decide +kernel
theorem dL_led_0 : decode cL_led 0 = .ok (.aload_n 2, 1) := by decide +kernel
theorem dL_led_1 : decode cL_led 1 = .ok (.iconst 0, 1) := by decide +kernel
theorem dL_led_2 : decode cL_led 2 = .ok (.aload_n 0, 1) := by decide +kernel
theorem dL_led_3 : decode cL_led 3 = .ok (.iload_n 1, 1) := by decide +kernel
theorem dL_led_4 : decode cL_led 4 = .ok (.invokevirtual 7, 3) := by decide +kernel
theorem dL_led_7 : decode cL_led 7 = .ok (.i2l, 1) := by decide +kernel
theorem dL_led_8 : decode cL_led 8 = .ok (.lastore, 1) := by decide +kernel
theorem dL_led_9 : decode cL_led 9 = .ok (.goto 6, 3) := by decide +kernel
theorem dL_led_12 : decode cL_led 12 = .ok (.astore_n 3, 1) := by decide +kernel
theorem dL_led_13 : decode cL_led 13 = .ok (.iconst 1, 1) := by decide +kernel
theorem dL_led_14 : decode cL_led 14 = .ok (.ireturn, 1) := by decide +kernel
theorem dL_led_15 : decode cL_led 15 = .ok (.iconst 0, 1) := by decide +kernel
theorem dL_led_16 : decode cL_led 16 = .ok (.ireturn, 1) := by decide +kernel
theorem dL_law_0 : decode cL_law 0 = .ok (.new 8, 3) := by decide +kernel
theorem dL_law_3 : decode cL_law 3 = .ok (.dup, 1) := by decide +kernel
theorem dL_law_4 : decode cL_law 4 = .ok (.invokespecial 15, 3) := by decide +kernel
theorem dL_law_7 : decode cL_law 7 = .ok (.astore_n 1, 1) := by decide +kernel
theorem dL_law_8 : decode cL_law 8 = .ok (.new 16, 3) := by decide +kernel
theorem dL_law_11 : decode cL_law 11 = .ok (.dup, 1) := by decide +kernel
theorem dL_law_12 : decode cL_law 12 = .ok (.invokespecial 18, 3) := by decide +kernel
theorem dL_law_15 : decode cL_law 15 = .ok (.astore_n 2, 1) := by decide +kernel
theorem dL_law_16 : decode cL_law 16 = .ok (.iconst 1, 1) := by decide +kernel
theorem dL_law_17 : decode cL_law 17 = .ok (.newarray .long, 2) := by decide +kernel
theorem dL_law_19 : decode cL_law 19 = .ok (.astore_n 3, 1) := by decide +kernel
theorem dL_law_20 : decode cL_law 20 = .ok (.iconst 0, 1) := by decide +kernel
theorem dL_law_21 : decode cL_law 21 = .ok (.istore 4, 2) := by decide +kernel
theorem dL_law_23 : decode cL_law 23 = .ok (.iload 4, 2) := by decide +kernel
theorem dL_law_25 : decode cL_law 25 = .ok (.aload_n 0, 1) := by decide +kernel
theorem dL_law_26 : decode cL_law 26 = .ok (.arraylength, 1) := by decide +kernel
theorem dL_law_27 : decode cL_law 27 = .ok (.bipush 8, 2) := by decide +kernel
theorem dL_law_29 : decode cL_law 29 = .ok (.isub, 1) := by decide +kernel
theorem dL_law_30 : decode cL_law 30 = .ok (.if_icmp .gt 1665, 3) := by decide +kernel
theorem dL_law_33 : decode cL_law 33 = .ok (.aload_n 0, 1) := by decide +kernel
theorem dL_law_34 : decode cL_law 34 = .ok (.iload 4, 2) := by decide +kernel
theorem dL_law_36 : decode cL_law 36 = .ok (.iaload, 1) := by decide +kernel
theorem dL_law_37 : decode cL_law 37 = .ok (.bipush 63, 2) := by decide +kernel
theorem dL_law_39 : decode cL_law 39 = .ok (.iand, 1) := by decide +kernel
theorem dL_law_40 : decode cL_law 40 = .ok (.tableswitch 1649 0 38 #[172, 245, 270, 283, 296, 321, 358, 395, 432, 481, 530, 579, 616, 665, 714, 763, 829, 870, 919, 968, 993, 1018, 1105, 1206, 1255, 1268, 1281, 1318, 1343, 1368, 1417, 1442, 1479, 1504, 1517, 1530, 1555, 1611, 1636], 172) := by decide +kernel
theorem dL_law_212 : decode cL_law 212 = .ok (.aload_n 1, 1) := by decide +kernel
theorem dL_law_213 : decode cL_law 213 = .ok (.aload_n 0, 1) := by decide +kernel
theorem dL_law_214 : decode cL_law 214 = .ok (.iload 4, 2) := by decide +kernel
theorem dL_law_216 : decode cL_law 216 = .ok (.iconst 1, 1) := by decide +kernel
theorem dL_law_217 : decode cL_law 217 = .ok (.iadd, 1) := by decide +kernel
theorem dL_law_218 : decode cL_law 218 = .ok (.iaload, 1) := by decide +kernel
theorem dL_law_219 : decode cL_law 219 = .ok (.aload_n 0, 1) := by decide +kernel
theorem dL_law_220 : decode cL_law 220 = .ok (.iload 4, 2) := by decide +kernel
theorem dL_law_222 : decode cL_law 222 = .ok (.iconst 2, 1) := by decide +kernel
theorem dL_law_223 : decode cL_law 223 = .ok (.iadd, 1) := by decide +kernel
theorem dL_law_224 : decode cL_law 224 = .ok (.iaload, 1) := by decide +kernel
theorem dL_law_225 : decode cL_law 225 = .ok (.aload_n 0, 1) := by decide +kernel
theorem dL_law_226 : decode cL_law 226 = .ok (.iload 4, 2) := by decide +kernel
theorem dL_law_228 : decode cL_law 228 = .ok (.iconst 3, 1) := by decide +kernel
theorem dL_law_229 : decode cL_law 229 = .ok (.iadd, 1) := by decide +kernel
theorem dL_law_230 : decode cL_law 230 = .ok (.iaload, 1) := by decide +kernel
theorem dL_law_231 : decode cL_law 231 = .ok (.aload_n 0, 1) := by decide +kernel
theorem dL_law_232 : decode cL_law 232 = .ok (.iload 4, 2) := by decide +kernel
theorem dL_law_234 : decode cL_law 234 = .ok (.iconst 4, 1) := by decide +kernel
theorem dL_law_235 : decode cL_law 235 = .ok (.iadd, 1) := by decide +kernel
theorem dL_law_236 : decode cL_law 236 = .ok (.iaload, 1) := by decide +kernel
theorem dL_law_237 : decode cL_law 237 = .ok (.aload_n 0, 1) := by decide +kernel
theorem dL_law_238 : decode cL_law 238 = .ok (.iload 4, 2) := by decide +kernel
theorem dL_law_240 : decode cL_law 240 = .ok (.iconst 5, 1) := by decide +kernel
theorem dL_law_241 : decode cL_law 241 = .ok (.iadd, 1) := by decide +kernel
theorem dL_law_242 : decode cL_law 242 = .ok (.iaload, 1) := by decide +kernel
theorem dL_law_243 : decode cL_law 243 = .ok (.invokevirtual 19, 3) := by decide +kernel
theorem dL_law_246 : decode cL_law 246 = .ok (.aload_n 2, 1) := by decide +kernel
theorem dL_law_247 : decode cL_law 247 = .ok (.aload_n 0, 1) := by decide +kernel
theorem dL_law_248 : decode cL_law 248 = .ok (.iload 4, 2) := by decide +kernel
theorem dL_law_250 : decode cL_law 250 = .ok (.iconst 1, 1) := by decide +kernel
theorem dL_law_251 : decode cL_law 251 = .ok (.iadd, 1) := by decide +kernel
theorem dL_law_252 : decode cL_law 252 = .ok (.iaload, 1) := by decide +kernel
theorem dL_law_253 : decode cL_law 253 = .ok (.aload_n 0, 1) := by decide +kernel
theorem dL_law_254 : decode cL_law 254 = .ok (.iload 4, 2) := by decide +kernel
theorem dL_law_256 : decode cL_law 256 = .ok (.iconst 2, 1) := by decide +kernel
theorem dL_law_257 : decode cL_law 257 = .ok (.iadd, 1) := by decide +kernel
theorem dL_law_258 : decode cL_law 258 = .ok (.iaload, 1) := by decide +kernel
theorem dL_law_259 : decode cL_law 259 = .ok (.aload_n 0, 1) := by decide +kernel
theorem dL_law_260 : decode cL_law 260 = .ok (.iload 4, 2) := by decide +kernel
theorem dL_law_262 : decode cL_law 262 = .ok (.iconst 3, 1) := by decide +kernel
theorem dL_law_263 : decode cL_law 263 = .ok (.iadd, 1) := by decide +kernel
theorem dL_law_264 : decode cL_law 264 = .ok (.iaload, 1) := by decide +kernel
theorem dL_law_265 : decode cL_law 265 = .ok (.aload_n 0, 1) := by decide +kernel
theorem dL_law_266 : decode cL_law 266 = .ok (.iload 4, 2) := by decide +kernel
theorem dL_law_268 : decode cL_law 268 = .ok (.iconst 4, 1) := by decide +kernel
theorem dL_law_269 : decode cL_law 269 = .ok (.iadd, 1) := by decide +kernel
theorem dL_law_270 : decode cL_law 270 = .ok (.iaload, 1) := by decide +kernel
theorem dL_law_271 : decode cL_law 271 = .ok (.aload_n 0, 1) := by decide +kernel
theorem dL_law_272 : decode cL_law 272 = .ok (.iload 4, 2) := by decide +kernel
theorem dL_law_274 : decode cL_law 274 = .ok (.iconst 5, 1) := by decide +kernel
theorem dL_law_275 : decode cL_law 275 = .ok (.iadd, 1) := by decide +kernel
theorem dL_law_276 : decode cL_law 276 = .ok (.iaload, 1) := by decide +kernel
theorem dL_law_277 : decode cL_law 277 = .ok (.invokevirtual 23, 3) := by decide +kernel
theorem dL_law_280 : decode cL_law 280 = .ok (.if_icmp .eq 1409, 3) := by decide +kernel
theorem dL_law_283 : decode cL_law 283 = .ok (.iconst 0, 1) := by decide +kernel
theorem dL_law_284 : decode cL_law 284 = .ok (.ireturn, 1) := by decide +kernel
theorem dL_law_285 : decode cL_law 285 = .ok (.aload_n 1, 1) := by decide +kernel
theorem dL_law_286 : decode cL_law 286 = .ok (.aload_n 0, 1) := by decide +kernel
theorem dL_law_287 : decode cL_law 287 = .ok (.iload 4, 2) := by decide +kernel
theorem dL_law_289 : decode cL_law 289 = .ok (.iconst 1, 1) := by decide +kernel
theorem dL_law_290 : decode cL_law 290 = .ok (.iadd, 1) := by decide +kernel
theorem dL_law_291 : decode cL_law 291 = .ok (.iaload, 1) := by decide +kernel
theorem dL_law_292 : decode cL_law 292 = .ok (.invokevirtual 24, 3) := by decide +kernel
theorem dL_law_295 : decode cL_law 295 = .ok (.aload_n 2, 1) := by decide +kernel
theorem dL_law_296 : decode cL_law 296 = .ok (.aload_n 0, 1) := by decide +kernel
theorem dL_law_297 : decode cL_law 297 = .ok (.iload 4, 2) := by decide +kernel
theorem dL_law_299 : decode cL_law 299 = .ok (.iconst 1, 1) := by decide +kernel
theorem dL_law_300 : decode cL_law 300 = .ok (.iadd, 1) := by decide +kernel
theorem dL_law_301 : decode cL_law 301 = .ok (.iaload, 1) := by decide +kernel
theorem dL_law_302 : decode cL_law 302 = .ok (.invokevirtual 27, 3) := by decide +kernel
theorem dL_law_305 : decode cL_law 305 = .ok (.if_icmp .eq 1384, 3) := by decide +kernel
theorem dL_law_308 : decode cL_law 308 = .ok (.iconst 0, 1) := by decide +kernel
theorem dL_law_309 : decode cL_law 309 = .ok (.ireturn, 1) := by decide +kernel
theorem dL_law_310 : decode cL_law 310 = .ok (.aload_n 1, 1) := by decide +kernel
theorem dL_law_311 : decode cL_law 311 = .ok (.invokevirtual 28, 3) := by decide +kernel
theorem dL_law_314 : decode cL_law 314 = .ok (.aload_n 2, 1) := by decide +kernel
theorem dL_law_315 : decode cL_law 315 = .ok (.invokevirtual 32, 3) := by decide +kernel
theorem dL_law_318 : decode cL_law 318 = .ok (.if_icmp .eq 1371, 3) := by decide +kernel
theorem dL_law_321 : decode cL_law 321 = .ok (.iconst 0, 1) := by decide +kernel
theorem dL_law_322 : decode cL_law 322 = .ok (.ireturn, 1) := by decide +kernel
theorem dL_law_323 : decode cL_law 323 = .ok (.aload_n 1, 1) := by decide +kernel
theorem dL_law_324 : decode cL_law 324 = .ok (.invokevirtual 33, 3) := by decide +kernel
theorem dL_law_327 : decode cL_law 327 = .ok (.aload_n 2, 1) := by decide +kernel
theorem dL_law_328 : decode cL_law 328 = .ok (.invokevirtual 36, 3) := by decide +kernel
theorem dL_law_331 : decode cL_law 331 = .ok (.if_icmp .eq 1358, 3) := by decide +kernel
theorem dL_law_334 : decode cL_law 334 = .ok (.iconst 0, 1) := by decide +kernel
theorem dL_law_335 : decode cL_law 335 = .ok (.ireturn, 1) := by decide +kernel
theorem dL_law_336 : decode cL_law 336 = .ok (.aload_n 1, 1) := by decide +kernel
theorem dL_law_337 : decode cL_law 337 = .ok (.aload_n 0, 1) := by decide +kernel
theorem dL_law_338 : decode cL_law 338 = .ok (.iload 4, 2) := by decide +kernel
theorem dL_law_340 : decode cL_law 340 = .ok (.iconst 1, 1) := by decide +kernel
theorem dL_law_341 : decode cL_law 341 = .ok (.iadd, 1) := by decide +kernel
theorem dL_law_342 : decode cL_law 342 = .ok (.iaload, 1) := by decide +kernel
theorem dL_law_343 : decode cL_law 343 = .ok (.invokevirtual 37, 3) := by decide +kernel
theorem dL_law_346 : decode cL_law 346 = .ok (.aload_n 2, 1) := by decide +kernel
theorem dL_law_347 : decode cL_law 347 = .ok (.aload_n 0, 1) := by decide +kernel
theorem dL_law_348 : decode cL_law 348 = .ok (.iload 4, 2) := by decide +kernel
theorem dL_law_350 : decode cL_law 350 = .ok (.iconst 1, 1) := by decide +kernel
theorem dL_law_351 : decode cL_law 351 = .ok (.iadd, 1) := by decide +kernel
theorem dL_law_352 : decode cL_law 352 = .ok (.iaload, 1) := by decide +kernel
theorem dL_law_353 : decode cL_law 353 = .ok (.invokevirtual 40, 3) := by decide +kernel
theorem dL_law_356 : decode cL_law 356 = .ok (.if_icmp .eq 1333, 3) := by decide +kernel
theorem dL_law_359 : decode cL_law 359 = .ok (.iconst 0, 1) := by decide +kernel
theorem dL_law_360 : decode cL_law 360 = .ok (.ireturn, 1) := by decide +kernel
theorem dL_law_361 : decode cL_law 361 = .ok (.aload_n 1, 1) := by decide +kernel
theorem dL_law_362 : decode cL_law 362 = .ok (.aload_n 0, 1) := by decide +kernel
theorem dL_law_363 : decode cL_law 363 = .ok (.iload 4, 2) := by decide +kernel
theorem dL_law_365 : decode cL_law 365 = .ok (.iconst 1, 1) := by decide +kernel
theorem dL_law_366 : decode cL_law 366 = .ok (.iadd, 1) := by decide +kernel
theorem dL_law_367 : decode cL_law 367 = .ok (.iaload, 1) := by decide +kernel
theorem dL_law_368 : decode cL_law 368 = .ok (.aload_n 0, 1) := by decide +kernel
theorem dL_law_369 : decode cL_law 369 = .ok (.iload 4, 2) := by decide +kernel
theorem dL_law_371 : decode cL_law 371 = .ok (.iconst 2, 1) := by decide +kernel
theorem dL_law_372 : decode cL_law 372 = .ok (.iadd, 1) := by decide +kernel
theorem dL_law_373 : decode cL_law 373 = .ok (.iaload, 1) := by decide +kernel
theorem dL_law_374 : decode cL_law 374 = .ok (.invokevirtual 41, 3) := by decide +kernel
theorem dL_law_377 : decode cL_law 377 = .ok (.aload_n 2, 1) := by decide +kernel
theorem dL_law_378 : decode cL_law 378 = .ok (.aload_n 0, 1) := by decide +kernel
theorem dL_law_379 : decode cL_law 379 = .ok (.iload 4, 2) := by decide +kernel
theorem dL_law_381 : decode cL_law 381 = .ok (.iconst 1, 1) := by decide +kernel
theorem dL_law_382 : decode cL_law 382 = .ok (.iadd, 1) := by decide +kernel
theorem dL_law_383 : decode cL_law 383 = .ok (.iaload, 1) := by decide +kernel
theorem dL_law_384 : decode cL_law 384 = .ok (.aload_n 0, 1) := by decide +kernel
theorem dL_law_385 : decode cL_law 385 = .ok (.iload 4, 2) := by decide +kernel
theorem dL_law_387 : decode cL_law 387 = .ok (.iconst 2, 1) := by decide +kernel
theorem dL_law_388 : decode cL_law 388 = .ok (.iadd, 1) := by decide +kernel
theorem dL_law_389 : decode cL_law 389 = .ok (.iaload, 1) := by decide +kernel
theorem dL_law_390 : decode cL_law 390 = .ok (.invokevirtual 45, 3) := by decide +kernel
theorem dL_law_393 : decode cL_law 393 = .ok (.if_icmp .eq 1296, 3) := by decide +kernel
theorem dL_law_396 : decode cL_law 396 = .ok (.iconst 0, 1) := by decide +kernel
theorem dL_law_397 : decode cL_law 397 = .ok (.ireturn, 1) := by decide +kernel
theorem dL_law_398 : decode cL_law 398 = .ok (.aload_n 1, 1) := by decide +kernel
theorem dL_law_399 : decode cL_law 399 = .ok (.aload_n 0, 1) := by decide +kernel
theorem dL_law_400 : decode cL_law 400 = .ok (.iload 4, 2) := by decide +kernel
theorem dL_law_402 : decode cL_law 402 = .ok (.iconst 1, 1) := by decide +kernel
theorem dL_law_403 : decode cL_law 403 = .ok (.iadd, 1) := by decide +kernel
theorem dL_law_404 : decode cL_law 404 = .ok (.iaload, 1) := by decide +kernel
theorem dL_law_405 : decode cL_law 405 = .ok (.aload_n 0, 1) := by decide +kernel
theorem dL_law_406 : decode cL_law 406 = .ok (.iload 4, 2) := by decide +kernel
theorem dL_law_408 : decode cL_law 408 = .ok (.iconst 2, 1) := by decide +kernel
theorem dL_law_409 : decode cL_law 409 = .ok (.iadd, 1) := by decide +kernel
theorem dL_law_410 : decode cL_law 410 = .ok (.iaload, 1) := by decide +kernel
theorem dL_law_411 : decode cL_law 411 = .ok (.invokevirtual 46, 3) := by decide +kernel
theorem dL_law_414 : decode cL_law 414 = .ok (.aload_n 2, 1) := by decide +kernel
theorem dL_law_415 : decode cL_law 415 = .ok (.aload_n 0, 1) := by decide +kernel
theorem dL_law_416 : decode cL_law 416 = .ok (.iload 4, 2) := by decide +kernel
theorem dL_law_418 : decode cL_law 418 = .ok (.iconst 1, 1) := by decide +kernel
theorem dL_law_419 : decode cL_law 419 = .ok (.iadd, 1) := by decide +kernel
theorem dL_law_420 : decode cL_law 420 = .ok (.iaload, 1) := by decide +kernel
theorem dL_law_421 : decode cL_law 421 = .ok (.aload_n 0, 1) := by decide +kernel
theorem dL_law_422 : decode cL_law 422 = .ok (.iload 4, 2) := by decide +kernel
theorem dL_law_424 : decode cL_law 424 = .ok (.iconst 2, 1) := by decide +kernel
theorem dL_law_425 : decode cL_law 425 = .ok (.iadd, 1) := by decide +kernel
theorem dL_law_426 : decode cL_law 426 = .ok (.iaload, 1) := by decide +kernel
theorem dL_law_427 : decode cL_law 427 = .ok (.invokevirtual 49, 3) := by decide +kernel
theorem dL_law_430 : decode cL_law 430 = .ok (.if_icmp .eq 1259, 3) := by decide +kernel
theorem dL_law_433 : decode cL_law 433 = .ok (.iconst 0, 1) := by decide +kernel
theorem dL_law_434 : decode cL_law 434 = .ok (.ireturn, 1) := by decide +kernel
theorem dL_law_435 : decode cL_law 435 = .ok (.aload_n 1, 1) := by decide +kernel
theorem dL_law_436 : decode cL_law 436 = .ok (.aload_n 0, 1) := by decide +kernel
theorem dL_law_437 : decode cL_law 437 = .ok (.iload 4, 2) := by decide +kernel
theorem dL_law_439 : decode cL_law 439 = .ok (.iconst 1, 1) := by decide +kernel
theorem dL_law_440 : decode cL_law 440 = .ok (.iadd, 1) := by decide +kernel
theorem dL_law_441 : decode cL_law 441 = .ok (.iaload, 1) := by decide +kernel
theorem dL_law_442 : decode cL_law 442 = .ok (.aload_n 0, 1) := by decide +kernel
theorem dL_law_443 : decode cL_law 443 = .ok (.iload 4, 2) := by decide +kernel
theorem dL_law_445 : decode cL_law 445 = .ok (.iconst 2, 1) := by decide +kernel
theorem dL_law_446 : decode cL_law 446 = .ok (.iadd, 1) := by decide +kernel
theorem dL_law_447 : decode cL_law 447 = .ok (.iaload, 1) := by decide +kernel
theorem dL_law_448 : decode cL_law 448 = .ok (.invokevirtual 50, 3) := by decide +kernel
theorem dL_law_451 : decode cL_law 451 = .ok (.aload_n 2, 1) := by decide +kernel
theorem dL_law_452 : decode cL_law 452 = .ok (.aload_n 0, 1) := by decide +kernel
theorem dL_law_453 : decode cL_law 453 = .ok (.iload 4, 2) := by decide +kernel
theorem dL_law_455 : decode cL_law 455 = .ok (.iconst 1, 1) := by decide +kernel
theorem dL_law_456 : decode cL_law 456 = .ok (.iadd, 1) := by decide +kernel
theorem dL_law_457 : decode cL_law 457 = .ok (.iaload, 1) := by decide +kernel
theorem dL_law_458 : decode cL_law 458 = .ok (.aload_n 0, 1) := by decide +kernel
theorem dL_law_459 : decode cL_law 459 = .ok (.iload 4, 2) := by decide +kernel
theorem dL_law_461 : decode cL_law 461 = .ok (.iconst 2, 1) := by decide +kernel
theorem dL_law_462 : decode cL_law 462 = .ok (.iadd, 1) := by decide +kernel
theorem dL_law_463 : decode cL_law 463 = .ok (.iaload, 1) := by decide +kernel
theorem dL_law_464 : decode cL_law 464 = .ok (.invokevirtual 53, 3) := by decide +kernel
theorem dL_law_467 : decode cL_law 467 = .ok (.if_icmp .eq 1222, 3) := by decide +kernel
theorem dL_law_470 : decode cL_law 470 = .ok (.iconst 0, 1) := by decide +kernel
theorem dL_law_471 : decode cL_law 471 = .ok (.ireturn, 1) := by decide +kernel
theorem dL_law_472 : decode cL_law 472 = .ok (.aload_n 1, 1) := by decide +kernel
theorem dL_law_473 : decode cL_law 473 = .ok (.aload_n 0, 1) := by decide +kernel
theorem dL_law_474 : decode cL_law 474 = .ok (.iload 4, 2) := by decide +kernel
theorem dL_law_476 : decode cL_law 476 = .ok (.iconst 1, 1) := by decide +kernel
theorem dL_law_477 : decode cL_law 477 = .ok (.iadd, 1) := by decide +kernel
theorem dL_law_478 : decode cL_law 478 = .ok (.iaload, 1) := by decide +kernel
theorem dL_law_479 : decode cL_law 479 = .ok (.aload_n 0, 1) := by decide +kernel
theorem dL_law_480 : decode cL_law 480 = .ok (.iload 4, 2) := by decide +kernel
theorem dL_law_482 : decode cL_law 482 = .ok (.iconst 2, 1) := by decide +kernel
theorem dL_law_483 : decode cL_law 483 = .ok (.iadd, 1) := by decide +kernel
theorem dL_law_484 : decode cL_law 484 = .ok (.iaload, 1) := by decide +kernel
theorem dL_law_485 : decode cL_law 485 = .ok (.aload_n 0, 1) := by decide +kernel
theorem dL_law_486 : decode cL_law 486 = .ok (.iload 4, 2) := by decide +kernel
theorem dL_law_488 : decode cL_law 488 = .ok (.iconst 3, 1) := by decide +kernel
theorem dL_law_489 : decode cL_law 489 = .ok (.iadd, 1) := by decide +kernel
theorem dL_law_490 : decode cL_law 490 = .ok (.iaload, 1) := by decide +kernel
theorem dL_law_491 : decode cL_law 491 = .ok (.invokevirtual 54, 3) := by decide +kernel
theorem dL_law_494 : decode cL_law 494 = .ok (.aload_n 2, 1) := by decide +kernel
theorem dL_law_495 : decode cL_law 495 = .ok (.aload_n 0, 1) := by decide +kernel
theorem dL_law_496 : decode cL_law 496 = .ok (.iload 4, 2) := by decide +kernel
theorem dL_law_498 : decode cL_law 498 = .ok (.iconst 1, 1) := by decide +kernel
theorem dL_law_499 : decode cL_law 499 = .ok (.iadd, 1) := by decide +kernel
theorem dL_law_500 : decode cL_law 500 = .ok (.iaload, 1) := by decide +kernel
theorem dL_law_501 : decode cL_law 501 = .ok (.aload_n 0, 1) := by decide +kernel
theorem dL_law_502 : decode cL_law 502 = .ok (.iload 4, 2) := by decide +kernel
theorem dL_law_504 : decode cL_law 504 = .ok (.iconst 2, 1) := by decide +kernel
theorem dL_law_505 : decode cL_law 505 = .ok (.iadd, 1) := by decide +kernel
theorem dL_law_506 : decode cL_law 506 = .ok (.iaload, 1) := by decide +kernel
theorem dL_law_507 : decode cL_law 507 = .ok (.aload_n 0, 1) := by decide +kernel
theorem dL_law_508 : decode cL_law 508 = .ok (.iload 4, 2) := by decide +kernel
theorem dL_law_510 : decode cL_law 510 = .ok (.iconst 3, 1) := by decide +kernel
theorem dL_law_511 : decode cL_law 511 = .ok (.iadd, 1) := by decide +kernel
theorem dL_law_512 : decode cL_law 512 = .ok (.iaload, 1) := by decide +kernel
theorem dL_law_513 : decode cL_law 513 = .ok (.invokevirtual 58, 3) := by decide +kernel
theorem dL_law_516 : decode cL_law 516 = .ok (.if_icmp .eq 1173, 3) := by decide +kernel
theorem dL_law_519 : decode cL_law 519 = .ok (.iconst 0, 1) := by decide +kernel
theorem dL_law_520 : decode cL_law 520 = .ok (.ireturn, 1) := by decide +kernel
theorem dL_law_521 : decode cL_law 521 = .ok (.aload_n 1, 1) := by decide +kernel
theorem dL_law_522 : decode cL_law 522 = .ok (.aload_n 0, 1) := by decide +kernel
theorem dL_law_523 : decode cL_law 523 = .ok (.iload 4, 2) := by decide +kernel
theorem dL_law_525 : decode cL_law 525 = .ok (.iconst 1, 1) := by decide +kernel
theorem dL_law_526 : decode cL_law 526 = .ok (.iadd, 1) := by decide +kernel
theorem dL_law_527 : decode cL_law 527 = .ok (.iaload, 1) := by decide +kernel
theorem dL_law_528 : decode cL_law 528 = .ok (.aload_n 0, 1) := by decide +kernel
theorem dL_law_529 : decode cL_law 529 = .ok (.iload 4, 2) := by decide +kernel
theorem dL_law_531 : decode cL_law 531 = .ok (.iconst 2, 1) := by decide +kernel
theorem dL_law_532 : decode cL_law 532 = .ok (.iadd, 1) := by decide +kernel
theorem dL_law_533 : decode cL_law 533 = .ok (.iaload, 1) := by decide +kernel
theorem dL_law_534 : decode cL_law 534 = .ok (.aload_n 0, 1) := by decide +kernel
theorem dL_law_535 : decode cL_law 535 = .ok (.iload 4, 2) := by decide +kernel
theorem dL_law_537 : decode cL_law 537 = .ok (.iconst 3, 1) := by decide +kernel
theorem dL_law_538 : decode cL_law 538 = .ok (.iadd, 1) := by decide +kernel
theorem dL_law_539 : decode cL_law 539 = .ok (.iaload, 1) := by decide +kernel
theorem dL_law_540 : decode cL_law 540 = .ok (.invokevirtual 59, 3) := by decide +kernel
theorem dL_law_543 : decode cL_law 543 = .ok (.aload_n 2, 1) := by decide +kernel
theorem dL_law_544 : decode cL_law 544 = .ok (.aload_n 0, 1) := by decide +kernel
theorem dL_law_545 : decode cL_law 545 = .ok (.iload 4, 2) := by decide +kernel
theorem dL_law_547 : decode cL_law 547 = .ok (.iconst 1, 1) := by decide +kernel
theorem dL_law_548 : decode cL_law 548 = .ok (.iadd, 1) := by decide +kernel
theorem dL_law_549 : decode cL_law 549 = .ok (.iaload, 1) := by decide +kernel
theorem dL_law_550 : decode cL_law 550 = .ok (.aload_n 0, 1) := by decide +kernel
theorem dL_law_551 : decode cL_law 551 = .ok (.iload 4, 2) := by decide +kernel
theorem dL_law_553 : decode cL_law 553 = .ok (.iconst 2, 1) := by decide +kernel
theorem dL_law_554 : decode cL_law 554 = .ok (.iadd, 1) := by decide +kernel
theorem dL_law_555 : decode cL_law 555 = .ok (.iaload, 1) := by decide +kernel
theorem dL_law_556 : decode cL_law 556 = .ok (.aload_n 0, 1) := by decide +kernel
theorem dL_law_557 : decode cL_law 557 = .ok (.iload 4, 2) := by decide +kernel
theorem dL_law_559 : decode cL_law 559 = .ok (.iconst 3, 1) := by decide +kernel
theorem dL_law_560 : decode cL_law 560 = .ok (.iadd, 1) := by decide +kernel
theorem dL_law_561 : decode cL_law 561 = .ok (.iaload, 1) := by decide +kernel
theorem dL_law_562 : decode cL_law 562 = .ok (.invokevirtual 62, 3) := by decide +kernel
theorem dL_law_565 : decode cL_law 565 = .ok (.if_icmp .eq 1124, 3) := by decide +kernel
theorem dL_law_568 : decode cL_law 568 = .ok (.iconst 0, 1) := by decide +kernel
theorem dL_law_569 : decode cL_law 569 = .ok (.ireturn, 1) := by decide +kernel
theorem dL_law_570 : decode cL_law 570 = .ok (.aload_n 1, 1) := by decide +kernel
theorem dL_law_571 : decode cL_law 571 = .ok (.aload_n 0, 1) := by decide +kernel
theorem dL_law_572 : decode cL_law 572 = .ok (.iload 4, 2) := by decide +kernel
theorem dL_law_574 : decode cL_law 574 = .ok (.iconst 1, 1) := by decide +kernel
theorem dL_law_575 : decode cL_law 575 = .ok (.iadd, 1) := by decide +kernel
theorem dL_law_576 : decode cL_law 576 = .ok (.iaload, 1) := by decide +kernel
theorem dL_law_577 : decode cL_law 577 = .ok (.aload_n 0, 1) := by decide +kernel
theorem dL_law_578 : decode cL_law 578 = .ok (.iload 4, 2) := by decide +kernel
theorem dL_law_580 : decode cL_law 580 = .ok (.iconst 2, 1) := by decide +kernel
theorem dL_law_581 : decode cL_law 581 = .ok (.iadd, 1) := by decide +kernel
theorem dL_law_582 : decode cL_law 582 = .ok (.iaload, 1) := by decide +kernel
theorem dL_law_583 : decode cL_law 583 = .ok (.aload_n 0, 1) := by decide +kernel
theorem dL_law_584 : decode cL_law 584 = .ok (.iload 4, 2) := by decide +kernel
theorem dL_law_586 : decode cL_law 586 = .ok (.iconst 3, 1) := by decide +kernel
theorem dL_law_587 : decode cL_law 587 = .ok (.iadd, 1) := by decide +kernel
theorem dL_law_588 : decode cL_law 588 = .ok (.iaload, 1) := by decide +kernel
theorem dL_law_589 : decode cL_law 589 = .ok (.invokevirtual 63, 3) := by decide +kernel
theorem dL_law_592 : decode cL_law 592 = .ok (.aload_n 2, 1) := by decide +kernel
theorem dL_law_593 : decode cL_law 593 = .ok (.aload_n 0, 1) := by decide +kernel
theorem dL_law_594 : decode cL_law 594 = .ok (.iload 4, 2) := by decide +kernel
theorem dL_law_596 : decode cL_law 596 = .ok (.iconst 1, 1) := by decide +kernel
theorem dL_law_597 : decode cL_law 597 = .ok (.iadd, 1) := by decide +kernel
theorem dL_law_598 : decode cL_law 598 = .ok (.iaload, 1) := by decide +kernel
theorem dL_law_599 : decode cL_law 599 = .ok (.aload_n 0, 1) := by decide +kernel
theorem dL_law_600 : decode cL_law 600 = .ok (.iload 4, 2) := by decide +kernel
theorem dL_law_602 : decode cL_law 602 = .ok (.iconst 2, 1) := by decide +kernel
theorem dL_law_603 : decode cL_law 603 = .ok (.iadd, 1) := by decide +kernel
theorem dL_law_604 : decode cL_law 604 = .ok (.iaload, 1) := by decide +kernel
theorem dL_law_605 : decode cL_law 605 = .ok (.aload_n 0, 1) := by decide +kernel
theorem dL_law_606 : decode cL_law 606 = .ok (.iload 4, 2) := by decide +kernel
theorem dL_law_608 : decode cL_law 608 = .ok (.iconst 3, 1) := by decide +kernel
theorem dL_law_609 : decode cL_law 609 = .ok (.iadd, 1) := by decide +kernel
theorem dL_law_610 : decode cL_law 610 = .ok (.iaload, 1) := by decide +kernel
theorem dL_law_611 : decode cL_law 611 = .ok (.invokevirtual 66, 3) := by decide +kernel
theorem dL_law_614 : decode cL_law 614 = .ok (.if_icmp .eq 1075, 3) := by decide +kernel
theorem dL_law_617 : decode cL_law 617 = .ok (.iconst 0, 1) := by decide +kernel
theorem dL_law_618 : decode cL_law 618 = .ok (.ireturn, 1) := by decide +kernel
theorem dL_law_619 : decode cL_law 619 = .ok (.aload_n 1, 1) := by decide +kernel
theorem dL_law_620 : decode cL_law 620 = .ok (.aload_n 0, 1) := by decide +kernel
theorem dL_law_621 : decode cL_law 621 = .ok (.iload 4, 2) := by decide +kernel
theorem dL_law_623 : decode cL_law 623 = .ok (.iconst 1, 1) := by decide +kernel
theorem dL_law_624 : decode cL_law 624 = .ok (.iadd, 1) := by decide +kernel
theorem dL_law_625 : decode cL_law 625 = .ok (.iaload, 1) := by decide +kernel
theorem dL_law_626 : decode cL_law 626 = .ok (.aload_n 0, 1) := by decide +kernel
theorem dL_law_627 : decode cL_law 627 = .ok (.iload 4, 2) := by decide +kernel
theorem dL_law_629 : decode cL_law 629 = .ok (.iconst 2, 1) := by decide +kernel
theorem dL_law_630 : decode cL_law 630 = .ok (.iadd, 1) := by decide +kernel
theorem dL_law_631 : decode cL_law 631 = .ok (.iaload, 1) := by decide +kernel
theorem dL_law_632 : decode cL_law 632 = .ok (.invokevirtual 67, 3) := by decide +kernel
theorem dL_law_635 : decode cL_law 635 = .ok (.aload_n 2, 1) := by decide +kernel
theorem dL_law_636 : decode cL_law 636 = .ok (.aload_n 0, 1) := by decide +kernel
theorem dL_law_637 : decode cL_law 637 = .ok (.iload 4, 2) := by decide +kernel
theorem dL_law_639 : decode cL_law 639 = .ok (.iconst 1, 1) := by decide +kernel
theorem dL_law_640 : decode cL_law 640 = .ok (.iadd, 1) := by decide +kernel
theorem dL_law_641 : decode cL_law 641 = .ok (.iaload, 1) := by decide +kernel
theorem dL_law_642 : decode cL_law 642 = .ok (.aload_n 0, 1) := by decide +kernel
theorem dL_law_643 : decode cL_law 643 = .ok (.iload 4, 2) := by decide +kernel
theorem dL_law_645 : decode cL_law 645 = .ok (.iconst 2, 1) := by decide +kernel
theorem dL_law_646 : decode cL_law 646 = .ok (.iadd, 1) := by decide +kernel
theorem dL_law_647 : decode cL_law 647 = .ok (.iaload, 1) := by decide +kernel
theorem dL_law_648 : decode cL_law 648 = .ok (.invokevirtual 70, 3) := by decide +kernel
theorem dL_law_651 : decode cL_law 651 = .ok (.if_icmp .eq 1038, 3) := by decide +kernel
theorem dL_law_654 : decode cL_law 654 = .ok (.iconst 0, 1) := by decide +kernel
theorem dL_law_655 : decode cL_law 655 = .ok (.ireturn, 1) := by decide +kernel
theorem dL_law_656 : decode cL_law 656 = .ok (.aload_n 1, 1) := by decide +kernel
theorem dL_law_657 : decode cL_law 657 = .ok (.aload_n 0, 1) := by decide +kernel
theorem dL_law_658 : decode cL_law 658 = .ok (.iload 4, 2) := by decide +kernel
theorem dL_law_660 : decode cL_law 660 = .ok (.iconst 1, 1) := by decide +kernel
theorem dL_law_661 : decode cL_law 661 = .ok (.iadd, 1) := by decide +kernel
theorem dL_law_662 : decode cL_law 662 = .ok (.iaload, 1) := by decide +kernel
theorem dL_law_663 : decode cL_law 663 = .ok (.aload_n 0, 1) := by decide +kernel
theorem dL_law_664 : decode cL_law 664 = .ok (.iload 4, 2) := by decide +kernel
theorem dL_law_666 : decode cL_law 666 = .ok (.iconst 2, 1) := by decide +kernel
theorem dL_law_667 : decode cL_law 667 = .ok (.iadd, 1) := by decide +kernel
theorem dL_law_668 : decode cL_law 668 = .ok (.iaload, 1) := by decide +kernel
theorem dL_law_669 : decode cL_law 669 = .ok (.aload_n 0, 1) := by decide +kernel
theorem dL_law_670 : decode cL_law 670 = .ok (.iload 4, 2) := by decide +kernel
theorem dL_law_672 : decode cL_law 672 = .ok (.iconst 3, 1) := by decide +kernel
theorem dL_law_673 : decode cL_law 673 = .ok (.iadd, 1) := by decide +kernel
theorem dL_law_674 : decode cL_law 674 = .ok (.iaload, 1) := by decide +kernel
theorem dL_law_675 : decode cL_law 675 = .ok (.invokevirtual 71, 3) := by decide +kernel
theorem dL_law_678 : decode cL_law 678 = .ok (.aload_n 2, 1) := by decide +kernel
theorem dL_law_679 : decode cL_law 679 = .ok (.aload_n 0, 1) := by decide +kernel
theorem dL_law_680 : decode cL_law 680 = .ok (.iload 4, 2) := by decide +kernel
theorem dL_law_682 : decode cL_law 682 = .ok (.iconst 1, 1) := by decide +kernel
theorem dL_law_683 : decode cL_law 683 = .ok (.iadd, 1) := by decide +kernel
theorem dL_law_684 : decode cL_law 684 = .ok (.iaload, 1) := by decide +kernel
theorem dL_law_685 : decode cL_law 685 = .ok (.aload_n 0, 1) := by decide +kernel
theorem dL_law_686 : decode cL_law 686 = .ok (.iload 4, 2) := by decide +kernel
theorem dL_law_688 : decode cL_law 688 = .ok (.iconst 2, 1) := by decide +kernel
theorem dL_law_689 : decode cL_law 689 = .ok (.iadd, 1) := by decide +kernel
theorem dL_law_690 : decode cL_law 690 = .ok (.iaload, 1) := by decide +kernel
theorem dL_law_691 : decode cL_law 691 = .ok (.aload_n 0, 1) := by decide +kernel
theorem dL_law_692 : decode cL_law 692 = .ok (.iload 4, 2) := by decide +kernel
theorem dL_law_694 : decode cL_law 694 = .ok (.iconst 3, 1) := by decide +kernel
theorem dL_law_695 : decode cL_law 695 = .ok (.iadd, 1) := by decide +kernel
theorem dL_law_696 : decode cL_law 696 = .ok (.iaload, 1) := by decide +kernel
theorem dL_law_697 : decode cL_law 697 = .ok (.invokevirtual 74, 3) := by decide +kernel
theorem dL_law_700 : decode cL_law 700 = .ok (.if_icmp .eq 989, 3) := by decide +kernel
theorem dL_law_703 : decode cL_law 703 = .ok (.iconst 0, 1) := by decide +kernel
theorem dL_law_704 : decode cL_law 704 = .ok (.ireturn, 1) := by decide +kernel
theorem dL_law_705 : decode cL_law 705 = .ok (.aload_n 1, 1) := by decide +kernel
theorem dL_law_706 : decode cL_law 706 = .ok (.aload_n 0, 1) := by decide +kernel
theorem dL_law_707 : decode cL_law 707 = .ok (.iload 4, 2) := by decide +kernel
theorem dL_law_709 : decode cL_law 709 = .ok (.iconst 1, 1) := by decide +kernel
theorem dL_law_710 : decode cL_law 710 = .ok (.iadd, 1) := by decide +kernel
theorem dL_law_711 : decode cL_law 711 = .ok (.iaload, 1) := by decide +kernel
theorem dL_law_712 : decode cL_law 712 = .ok (.aload_n 0, 1) := by decide +kernel
theorem dL_law_713 : decode cL_law 713 = .ok (.iload 4, 2) := by decide +kernel
theorem dL_law_715 : decode cL_law 715 = .ok (.iconst 2, 1) := by decide +kernel
theorem dL_law_716 : decode cL_law 716 = .ok (.iadd, 1) := by decide +kernel
theorem dL_law_717 : decode cL_law 717 = .ok (.iaload, 1) := by decide +kernel
theorem dL_law_718 : decode cL_law 718 = .ok (.aload_n 0, 1) := by decide +kernel
theorem dL_law_719 : decode cL_law 719 = .ok (.iload 4, 2) := by decide +kernel
theorem dL_law_721 : decode cL_law 721 = .ok (.iconst 3, 1) := by decide +kernel
theorem dL_law_722 : decode cL_law 722 = .ok (.iadd, 1) := by decide +kernel
theorem dL_law_723 : decode cL_law 723 = .ok (.iaload, 1) := by decide +kernel
theorem dL_law_724 : decode cL_law 724 = .ok (.invokevirtual 75, 3) := by decide +kernel
theorem dL_law_727 : decode cL_law 727 = .ok (.aload_n 2, 1) := by decide +kernel
theorem dL_law_728 : decode cL_law 728 = .ok (.aload_n 0, 1) := by decide +kernel
theorem dL_law_729 : decode cL_law 729 = .ok (.iload 4, 2) := by decide +kernel
theorem dL_law_731 : decode cL_law 731 = .ok (.iconst 1, 1) := by decide +kernel
theorem dL_law_732 : decode cL_law 732 = .ok (.iadd, 1) := by decide +kernel
theorem dL_law_733 : decode cL_law 733 = .ok (.iaload, 1) := by decide +kernel
theorem dL_law_734 : decode cL_law 734 = .ok (.aload_n 0, 1) := by decide +kernel
theorem dL_law_735 : decode cL_law 735 = .ok (.iload 4, 2) := by decide +kernel
theorem dL_law_737 : decode cL_law 737 = .ok (.iconst 2, 1) := by decide +kernel
theorem dL_law_738 : decode cL_law 738 = .ok (.iadd, 1) := by decide +kernel
theorem dL_law_739 : decode cL_law 739 = .ok (.iaload, 1) := by decide +kernel
theorem dL_law_740 : decode cL_law 740 = .ok (.aload_n 0, 1) := by decide +kernel
theorem dL_law_741 : decode cL_law 741 = .ok (.iload 4, 2) := by decide +kernel
theorem dL_law_743 : decode cL_law 743 = .ok (.iconst 3, 1) := by decide +kernel
theorem dL_law_744 : decode cL_law 744 = .ok (.iadd, 1) := by decide +kernel
theorem dL_law_745 : decode cL_law 745 = .ok (.iaload, 1) := by decide +kernel
theorem dL_law_746 : decode cL_law 746 = .ok (.invokevirtual 78, 3) := by decide +kernel
theorem dL_law_749 : decode cL_law 749 = .ok (.if_icmp .eq 940, 3) := by decide +kernel
theorem dL_law_752 : decode cL_law 752 = .ok (.iconst 0, 1) := by decide +kernel
theorem dL_law_753 : decode cL_law 753 = .ok (.ireturn, 1) := by decide +kernel
theorem dL_law_754 : decode cL_law 754 = .ok (.aload_n 1, 1) := by decide +kernel
theorem dL_law_755 : decode cL_law 755 = .ok (.aload_n 0, 1) := by decide +kernel
theorem dL_law_756 : decode cL_law 756 = .ok (.iload 4, 2) := by decide +kernel
theorem dL_law_758 : decode cL_law 758 = .ok (.iconst 1, 1) := by decide +kernel
theorem dL_law_759 : decode cL_law 759 = .ok (.iadd, 1) := by decide +kernel
theorem dL_law_760 : decode cL_law 760 = .ok (.iaload, 1) := by decide +kernel
theorem dL_law_761 : decode cL_law 761 = .ok (.aload_n 0, 1) := by decide +kernel
theorem dL_law_762 : decode cL_law 762 = .ok (.iload 4, 2) := by decide +kernel
theorem dL_law_764 : decode cL_law 764 = .ok (.iconst 2, 1) := by decide +kernel
theorem dL_law_765 : decode cL_law 765 = .ok (.iadd, 1) := by decide +kernel
theorem dL_law_766 : decode cL_law 766 = .ok (.iaload, 1) := by decide +kernel
theorem dL_law_767 : decode cL_law 767 = .ok (.aload_n 0, 1) := by decide +kernel
theorem dL_law_768 : decode cL_law 768 = .ok (.iload 4, 2) := by decide +kernel
theorem dL_law_770 : decode cL_law 770 = .ok (.iconst 3, 1) := by decide +kernel
theorem dL_law_771 : decode cL_law 771 = .ok (.iadd, 1) := by decide +kernel
theorem dL_law_772 : decode cL_law 772 = .ok (.iaload, 1) := by decide +kernel
theorem dL_law_773 : decode cL_law 773 = .ok (.invokevirtual 79, 3) := by decide +kernel
theorem dL_law_776 : decode cL_law 776 = .ok (.aload_n 2, 1) := by decide +kernel
theorem dL_law_777 : decode cL_law 777 = .ok (.aload_n 0, 1) := by decide +kernel
theorem dL_law_778 : decode cL_law 778 = .ok (.iload 4, 2) := by decide +kernel
theorem dL_law_780 : decode cL_law 780 = .ok (.iconst 1, 1) := by decide +kernel
theorem dL_law_781 : decode cL_law 781 = .ok (.iadd, 1) := by decide +kernel
theorem dL_law_782 : decode cL_law 782 = .ok (.iaload, 1) := by decide +kernel
theorem dL_law_783 : decode cL_law 783 = .ok (.aload_n 0, 1) := by decide +kernel
theorem dL_law_784 : decode cL_law 784 = .ok (.iload 4, 2) := by decide +kernel
theorem dL_law_786 : decode cL_law 786 = .ok (.iconst 2, 1) := by decide +kernel
theorem dL_law_787 : decode cL_law 787 = .ok (.iadd, 1) := by decide +kernel
theorem dL_law_788 : decode cL_law 788 = .ok (.iaload, 1) := by decide +kernel
theorem dL_law_789 : decode cL_law 789 = .ok (.aload_n 0, 1) := by decide +kernel
theorem dL_law_790 : decode cL_law 790 = .ok (.iload 4, 2) := by decide +kernel
theorem dL_law_792 : decode cL_law 792 = .ok (.iconst 3, 1) := by decide +kernel
theorem dL_law_793 : decode cL_law 793 = .ok (.iadd, 1) := by decide +kernel
theorem dL_law_794 : decode cL_law 794 = .ok (.iaload, 1) := by decide +kernel
theorem dL_law_795 : decode cL_law 795 = .ok (.invokevirtual 82, 3) := by decide +kernel
theorem dL_law_798 : decode cL_law 798 = .ok (.if_icmp .eq 891, 3) := by decide +kernel
theorem dL_law_801 : decode cL_law 801 = .ok (.iconst 0, 1) := by decide +kernel
theorem dL_law_802 : decode cL_law 802 = .ok (.ireturn, 1) := by decide +kernel
theorem dL_law_803 : decode cL_law 803 = .ok (.aload_n 1, 1) := by decide +kernel
theorem dL_law_804 : decode cL_law 804 = .ok (.aload_n 0, 1) := by decide +kernel
theorem dL_law_805 : decode cL_law 805 = .ok (.iload 4, 2) := by decide +kernel
theorem dL_law_807 : decode cL_law 807 = .ok (.iconst 1, 1) := by decide +kernel
theorem dL_law_808 : decode cL_law 808 = .ok (.iadd, 1) := by decide +kernel
theorem dL_law_809 : decode cL_law 809 = .ok (.iaload, 1) := by decide +kernel
theorem dL_law_810 : decode cL_law 810 = .ok (.aload_n 0, 1) := by decide +kernel
theorem dL_law_811 : decode cL_law 811 = .ok (.iload 4, 2) := by decide +kernel
theorem dL_law_813 : decode cL_law 813 = .ok (.iconst 2, 1) := by decide +kernel
theorem dL_law_814 : decode cL_law 814 = .ok (.iadd, 1) := by decide +kernel
theorem dL_law_815 : decode cL_law 815 = .ok (.iaload, 1) := by decide +kernel
theorem dL_law_816 : decode cL_law 816 = .ok (.aload_n 0, 1) := by decide +kernel
theorem dL_law_817 : decode cL_law 817 = .ok (.iload 4, 2) := by decide +kernel
theorem dL_law_819 : decode cL_law 819 = .ok (.iconst 3, 1) := by decide +kernel
theorem dL_law_820 : decode cL_law 820 = .ok (.iadd, 1) := by decide +kernel
theorem dL_law_821 : decode cL_law 821 = .ok (.iaload, 1) := by decide +kernel
theorem dL_law_822 : decode cL_law 822 = .ok (.ifCond .eq 7, 3) := by decide +kernel
theorem dL_law_825 : decode cL_law 825 = .ok (.iconst 1, 1) := by decide +kernel
theorem dL_law_826 : decode cL_law 826 = .ok (.goto 4, 3) := by decide +kernel
theorem dL_law_829 : decode cL_law 829 = .ok (.iconst 0, 1) := by decide +kernel
theorem dL_law_830 : decode cL_law 830 = .ok (.invokevirtual 83, 3) := by decide +kernel
theorem dL_law_833 : decode cL_law 833 = .ok (.aload_n 2, 1) := by decide +kernel
theorem dL_law_834 : decode cL_law 834 = .ok (.aload_n 0, 1) := by decide +kernel
theorem dL_law_835 : decode cL_law 835 = .ok (.iload 4, 2) := by decide +kernel
theorem dL_law_837 : decode cL_law 837 = .ok (.iconst 1, 1) := by decide +kernel
theorem dL_law_838 : decode cL_law 838 = .ok (.iadd, 1) := by decide +kernel
theorem dL_law_839 : decode cL_law 839 = .ok (.iaload, 1) := by decide +kernel
theorem dL_law_840 : decode cL_law 840 = .ok (.aload_n 0, 1) := by decide +kernel
theorem dL_law_841 : decode cL_law 841 = .ok (.iload 4, 2) := by decide +kernel
theorem dL_law_843 : decode cL_law 843 = .ok (.iconst 2, 1) := by decide +kernel
theorem dL_law_844 : decode cL_law 844 = .ok (.iadd, 1) := by decide +kernel
theorem dL_law_845 : decode cL_law 845 = .ok (.iaload, 1) := by decide +kernel
theorem dL_law_846 : decode cL_law 846 = .ok (.aload_n 0, 1) := by decide +kernel
theorem dL_law_847 : decode cL_law 847 = .ok (.iload 4, 2) := by decide +kernel
theorem dL_law_849 : decode cL_law 849 = .ok (.iconst 3, 1) := by decide +kernel
theorem dL_law_850 : decode cL_law 850 = .ok (.iadd, 1) := by decide +kernel
theorem dL_law_851 : decode cL_law 851 = .ok (.iaload, 1) := by decide +kernel
theorem dL_law_852 : decode cL_law 852 = .ok (.ifCond .eq 7, 3) := by decide +kernel
theorem dL_law_855 : decode cL_law 855 = .ok (.iconst 1, 1) := by decide +kernel
theorem dL_law_856 : decode cL_law 856 = .ok (.goto 4, 3) := by decide +kernel
theorem dL_law_859 : decode cL_law 859 = .ok (.iconst 0, 1) := by decide +kernel
theorem dL_law_860 : decode cL_law 860 = .ok (.invokevirtual 87, 3) := by decide +kernel
theorem dL_law_863 : decode cL_law 863 = .ok (.lcmp, 1) := by decide +kernel
theorem dL_law_864 : decode cL_law 864 = .ok (.ifCond .eq 825, 3) := by decide +kernel
theorem dL_law_867 : decode cL_law 867 = .ok (.iconst 0, 1) := by decide +kernel
theorem dL_law_868 : decode cL_law 868 = .ok (.ireturn, 1) := by decide +kernel
theorem dL_law_869 : decode cL_law 869 = .ok (.aload_n 1, 1) := by decide +kernel
theorem dL_law_870 : decode cL_law 870 = .ok (.aload_n 0, 1) := by decide +kernel
theorem dL_law_871 : decode cL_law 871 = .ok (.iload 4, 2) := by decide +kernel
theorem dL_law_873 : decode cL_law 873 = .ok (.iconst 1, 1) := by decide +kernel
theorem dL_law_874 : decode cL_law 874 = .ok (.iadd, 1) := by decide +kernel
theorem dL_law_875 : decode cL_law 875 = .ok (.iaload, 1) := by decide +kernel
theorem dL_law_876 : decode cL_law 876 = .ok (.ifCond .eq 7, 3) := by decide +kernel
theorem dL_law_879 : decode cL_law 879 = .ok (.iconst 1, 1) := by decide +kernel
theorem dL_law_880 : decode cL_law 880 = .ok (.goto 4, 3) := by decide +kernel
theorem dL_law_883 : decode cL_law 883 = .ok (.iconst 0, 1) := by decide +kernel
theorem dL_law_884 : decode cL_law 884 = .ok (.invokevirtual 88, 3) := by decide +kernel
theorem dL_law_887 : decode cL_law 887 = .ok (.aload_n 2, 1) := by decide +kernel
theorem dL_law_888 : decode cL_law 888 = .ok (.aload_n 0, 1) := by decide +kernel
theorem dL_law_889 : decode cL_law 889 = .ok (.iload 4, 2) := by decide +kernel
theorem dL_law_891 : decode cL_law 891 = .ok (.iconst 1, 1) := by decide +kernel
theorem dL_law_892 : decode cL_law 892 = .ok (.iadd, 1) := by decide +kernel
theorem dL_law_893 : decode cL_law 893 = .ok (.iaload, 1) := by decide +kernel
theorem dL_law_894 : decode cL_law 894 = .ok (.ifCond .eq 7, 3) := by decide +kernel
theorem dL_law_897 : decode cL_law 897 = .ok (.iconst 1, 1) := by decide +kernel
theorem dL_law_898 : decode cL_law 898 = .ok (.goto 4, 3) := by decide +kernel
theorem dL_law_901 : decode cL_law 901 = .ok (.iconst 0, 1) := by decide +kernel
theorem dL_law_902 : decode cL_law 902 = .ok (.invokevirtual 92, 3) := by decide +kernel
theorem dL_law_905 : decode cL_law 905 = .ok (.if_icmp .eq 784, 3) := by decide +kernel
theorem dL_law_908 : decode cL_law 908 = .ok (.iconst 0, 1) := by decide +kernel
theorem dL_law_909 : decode cL_law 909 = .ok (.ireturn, 1) := by decide +kernel
theorem dL_law_910 : decode cL_law 910 = .ok (.aload_n 1, 1) := by decide +kernel
theorem dL_law_911 : decode cL_law 911 = .ok (.aload_n 0, 1) := by decide +kernel
theorem dL_law_912 : decode cL_law 912 = .ok (.iload 4, 2) := by decide +kernel
theorem dL_law_914 : decode cL_law 914 = .ok (.iconst 1, 1) := by decide +kernel
theorem dL_law_915 : decode cL_law 915 = .ok (.iadd, 1) := by decide +kernel
theorem dL_law_916 : decode cL_law 916 = .ok (.iaload, 1) := by decide +kernel
theorem dL_law_917 : decode cL_law 917 = .ok (.aload_n 0, 1) := by decide +kernel
theorem dL_law_918 : decode cL_law 918 = .ok (.iload 4, 2) := by decide +kernel
theorem dL_law_920 : decode cL_law 920 = .ok (.iconst 2, 1) := by decide +kernel
theorem dL_law_921 : decode cL_law 921 = .ok (.iadd, 1) := by decide +kernel
theorem dL_law_922 : decode cL_law 922 = .ok (.iaload, 1) := by decide +kernel
theorem dL_law_923 : decode cL_law 923 = .ok (.aload_n 0, 1) := by decide +kernel
theorem dL_law_924 : decode cL_law 924 = .ok (.iload 4, 2) := by decide +kernel
theorem dL_law_926 : decode cL_law 926 = .ok (.iconst 3, 1) := by decide +kernel
theorem dL_law_927 : decode cL_law 927 = .ok (.iadd, 1) := by decide +kernel
theorem dL_law_928 : decode cL_law 928 = .ok (.iaload, 1) := by decide +kernel
theorem dL_law_929 : decode cL_law 929 = .ok (.invokevirtual 93, 3) := by decide +kernel
theorem dL_law_932 : decode cL_law 932 = .ok (.aload_n 2, 1) := by decide +kernel
theorem dL_law_933 : decode cL_law 933 = .ok (.aload_n 0, 1) := by decide +kernel
theorem dL_law_934 : decode cL_law 934 = .ok (.iload 4, 2) := by decide +kernel
theorem dL_law_936 : decode cL_law 936 = .ok (.iconst 1, 1) := by decide +kernel
theorem dL_law_937 : decode cL_law 937 = .ok (.iadd, 1) := by decide +kernel
theorem dL_law_938 : decode cL_law 938 = .ok (.iaload, 1) := by decide +kernel
theorem dL_law_939 : decode cL_law 939 = .ok (.aload_n 0, 1) := by decide +kernel
theorem dL_law_940 : decode cL_law 940 = .ok (.iload 4, 2) := by decide +kernel
theorem dL_law_942 : decode cL_law 942 = .ok (.iconst 2, 1) := by decide +kernel
theorem dL_law_943 : decode cL_law 943 = .ok (.iadd, 1) := by decide +kernel
theorem dL_law_944 : decode cL_law 944 = .ok (.iaload, 1) := by decide +kernel
theorem dL_law_945 : decode cL_law 945 = .ok (.aload_n 0, 1) := by decide +kernel
theorem dL_law_946 : decode cL_law 946 = .ok (.iload 4, 2) := by decide +kernel
theorem dL_law_948 : decode cL_law 948 = .ok (.iconst 3, 1) := by decide +kernel
theorem dL_law_949 : decode cL_law 949 = .ok (.iadd, 1) := by decide +kernel
theorem dL_law_950 : decode cL_law 950 = .ok (.iaload, 1) := by decide +kernel
theorem dL_law_951 : decode cL_law 951 = .ok (.invokevirtual 96, 3) := by decide +kernel
theorem dL_law_954 : decode cL_law 954 = .ok (.if_icmp .eq 735, 3) := by decide +kernel
theorem dL_law_957 : decode cL_law 957 = .ok (.iconst 0, 1) := by decide +kernel
theorem dL_law_958 : decode cL_law 958 = .ok (.ireturn, 1) := by decide +kernel
theorem dL_law_959 : decode cL_law 959 = .ok (.aload_n 1, 1) := by decide +kernel
theorem dL_law_960 : decode cL_law 960 = .ok (.aload_n 0, 1) := by decide +kernel
theorem dL_law_961 : decode cL_law 961 = .ok (.iload 4, 2) := by decide +kernel
theorem dL_law_963 : decode cL_law 963 = .ok (.iconst 1, 1) := by decide +kernel
theorem dL_law_964 : decode cL_law 964 = .ok (.iadd, 1) := by decide +kernel
theorem dL_law_965 : decode cL_law 965 = .ok (.iaload, 1) := by decide +kernel
theorem dL_law_966 : decode cL_law 966 = .ok (.aload_n 0, 1) := by decide +kernel
theorem dL_law_967 : decode cL_law 967 = .ok (.iload 4, 2) := by decide +kernel
theorem dL_law_969 : decode cL_law 969 = .ok (.iconst 2, 1) := by decide +kernel
theorem dL_law_970 : decode cL_law 970 = .ok (.iadd, 1) := by decide +kernel
theorem dL_law_971 : decode cL_law 971 = .ok (.iaload, 1) := by decide +kernel
theorem dL_law_972 : decode cL_law 972 = .ok (.aload_n 0, 1) := by decide +kernel
theorem dL_law_973 : decode cL_law 973 = .ok (.iload 4, 2) := by decide +kernel
theorem dL_law_975 : decode cL_law 975 = .ok (.iconst 3, 1) := by decide +kernel
theorem dL_law_976 : decode cL_law 976 = .ok (.iadd, 1) := by decide +kernel
theorem dL_law_977 : decode cL_law 977 = .ok (.iaload, 1) := by decide +kernel
theorem dL_law_978 : decode cL_law 978 = .ok (.invokevirtual 97, 3) := by decide +kernel
theorem dL_law_981 : decode cL_law 981 = .ok (.aload_n 2, 1) := by decide +kernel
theorem dL_law_982 : decode cL_law 982 = .ok (.aload_n 0, 1) := by decide +kernel
theorem dL_law_983 : decode cL_law 983 = .ok (.iload 4, 2) := by decide +kernel
theorem dL_law_985 : decode cL_law 985 = .ok (.iconst 1, 1) := by decide +kernel
theorem dL_law_986 : decode cL_law 986 = .ok (.iadd, 1) := by decide +kernel
theorem dL_law_987 : decode cL_law 987 = .ok (.iaload, 1) := by decide +kernel
theorem dL_law_988 : decode cL_law 988 = .ok (.aload_n 0, 1) := by decide +kernel
theorem dL_law_989 : decode cL_law 989 = .ok (.iload 4, 2) := by decide +kernel
theorem dL_law_991 : decode cL_law 991 = .ok (.iconst 2, 1) := by decide +kernel
theorem dL_law_992 : decode cL_law 992 = .ok (.iadd, 1) := by decide +kernel
theorem dL_law_993 : decode cL_law 993 = .ok (.iaload, 1) := by decide +kernel
theorem dL_law_994 : decode cL_law 994 = .ok (.aload_n 0, 1) := by decide +kernel
theorem dL_law_995 : decode cL_law 995 = .ok (.iload 4, 2) := by decide +kernel
theorem dL_law_997 : decode cL_law 997 = .ok (.iconst 3, 1) := by decide +kernel
theorem dL_law_998 : decode cL_law 998 = .ok (.iadd, 1) := by decide +kernel
theorem dL_law_999 : decode cL_law 999 = .ok (.iaload, 1) := by decide +kernel
theorem dL_law_1000 : decode cL_law 1000 = .ok (.invokevirtual 100, 3) := by decide +kernel
theorem dL_law_1003 : decode cL_law 1003 = .ok (.if_icmp .eq 686, 3) := by decide +kernel
theorem dL_law_1006 : decode cL_law 1006 = .ok (.iconst 0, 1) := by decide +kernel
theorem dL_law_1007 : decode cL_law 1007 = .ok (.ireturn, 1) := by decide +kernel
theorem dL_law_1008 : decode cL_law 1008 = .ok (.aload_n 1, 1) := by decide +kernel
theorem dL_law_1009 : decode cL_law 1009 = .ok (.aload_n 0, 1) := by decide +kernel
theorem dL_law_1010 : decode cL_law 1010 = .ok (.iload 4, 2) := by decide +kernel
theorem dL_law_1012 : decode cL_law 1012 = .ok (.iconst 1, 1) := by decide +kernel
theorem dL_law_1013 : decode cL_law 1013 = .ok (.iadd, 1) := by decide +kernel
theorem dL_law_1014 : decode cL_law 1014 = .ok (.iaload, 1) := by decide +kernel
theorem dL_law_1015 : decode cL_law 1015 = .ok (.invokevirtual 101, 3) := by decide +kernel
theorem dL_law_1018 : decode cL_law 1018 = .ok (.aload_n 2, 1) := by decide +kernel
theorem dL_law_1019 : decode cL_law 1019 = .ok (.aload_n 0, 1) := by decide +kernel
theorem dL_law_1020 : decode cL_law 1020 = .ok (.iload 4, 2) := by decide +kernel
theorem dL_law_1022 : decode cL_law 1022 = .ok (.iconst 1, 1) := by decide +kernel
theorem dL_law_1023 : decode cL_law 1023 = .ok (.iadd, 1) := by decide +kernel
theorem dL_law_1024 : decode cL_law 1024 = .ok (.iaload, 1) := by decide +kernel
theorem dL_law_1025 : decode cL_law 1025 = .ok (.invokevirtual 104, 3) := by decide +kernel
theorem dL_law_1028 : decode cL_law 1028 = .ok (.if_icmp .eq 661, 3) := by decide +kernel
theorem dL_law_1031 : decode cL_law 1031 = .ok (.iconst 0, 1) := by decide +kernel
theorem dL_law_1032 : decode cL_law 1032 = .ok (.ireturn, 1) := by decide +kernel
theorem dL_law_1033 : decode cL_law 1033 = .ok (.aload_n 1, 1) := by decide +kernel
theorem dL_law_1034 : decode cL_law 1034 = .ok (.aload_n 0, 1) := by decide +kernel
theorem dL_law_1035 : decode cL_law 1035 = .ok (.iload 4, 2) := by decide +kernel
theorem dL_law_1037 : decode cL_law 1037 = .ok (.iconst 1, 1) := by decide +kernel
theorem dL_law_1038 : decode cL_law 1038 = .ok (.iadd, 1) := by decide +kernel
theorem dL_law_1039 : decode cL_law 1039 = .ok (.iaload, 1) := by decide +kernel
theorem dL_law_1040 : decode cL_law 1040 = .ok (.invokevirtual 105, 3) := by decide +kernel
theorem dL_law_1043 : decode cL_law 1043 = .ok (.aload_n 2, 1) := by decide +kernel
theorem dL_law_1044 : decode cL_law 1044 = .ok (.aload_n 0, 1) := by decide +kernel
theorem dL_law_1045 : decode cL_law 1045 = .ok (.iload 4, 2) := by decide +kernel
theorem dL_law_1047 : decode cL_law 1047 = .ok (.iconst 1, 1) := by decide +kernel
theorem dL_law_1048 : decode cL_law 1048 = .ok (.iadd, 1) := by decide +kernel
theorem dL_law_1049 : decode cL_law 1049 = .ok (.iaload, 1) := by decide +kernel
theorem dL_law_1050 : decode cL_law 1050 = .ok (.invokevirtual 108, 3) := by decide +kernel
theorem dL_law_1053 : decode cL_law 1053 = .ok (.if_icmp .eq 636, 3) := by decide +kernel
theorem dL_law_1056 : decode cL_law 1056 = .ok (.iconst 0, 1) := by decide +kernel
theorem dL_law_1057 : decode cL_law 1057 = .ok (.ireturn, 1) := by decide +kernel
theorem dL_law_1058 : decode cL_law 1058 = .ok (.aload_n 1, 1) := by decide +kernel
theorem dL_law_1059 : decode cL_law 1059 = .ok (.aload_n 0, 1) := by decide +kernel
theorem dL_law_1060 : decode cL_law 1060 = .ok (.iload 4, 2) := by decide +kernel
theorem dL_law_1062 : decode cL_law 1062 = .ok (.iconst 1, 1) := by decide +kernel
theorem dL_law_1063 : decode cL_law 1063 = .ok (.iadd, 1) := by decide +kernel
theorem dL_law_1064 : decode cL_law 1064 = .ok (.iaload, 1) := by decide +kernel
theorem dL_law_1065 : decode cL_law 1065 = .ok (.aload_n 0, 1) := by decide +kernel
theorem dL_law_1066 : decode cL_law 1066 = .ok (.iload 4, 2) := by decide +kernel
theorem dL_law_1068 : decode cL_law 1068 = .ok (.iconst 2, 1) := by decide +kernel
theorem dL_law_1069 : decode cL_law 1069 = .ok (.iadd, 1) := by decide +kernel
theorem dL_law_1070 : decode cL_law 1070 = .ok (.iaload, 1) := by decide +kernel
theorem dL_law_1071 : decode cL_law 1071 = .ok (.aload_n 0, 1) := by decide +kernel
theorem dL_law_1072 : decode cL_law 1072 = .ok (.iload 4, 2) := by decide +kernel
theorem dL_law_1074 : decode cL_law 1074 = .ok (.iconst 3, 1) := by decide +kernel
theorem dL_law_1075 : decode cL_law 1075 = .ok (.iadd, 1) := by decide +kernel
theorem dL_law_1076 : decode cL_law 1076 = .ok (.iaload, 1) := by decide +kernel
theorem dL_law_1077 : decode cL_law 1077 = .ok (.aload_n 0, 1) := by decide +kernel
theorem dL_law_1078 : decode cL_law 1078 = .ok (.iload 4, 2) := by decide +kernel
theorem dL_law_1080 : decode cL_law 1080 = .ok (.iconst 4, 1) := by decide +kernel
theorem dL_law_1081 : decode cL_law 1081 = .ok (.iadd, 1) := by decide +kernel
theorem dL_law_1082 : decode cL_law 1082 = .ok (.iaload, 1) := by decide +kernel
theorem dL_law_1083 : decode cL_law 1083 = .ok (.aload_n 0, 1) := by decide +kernel
theorem dL_law_1084 : decode cL_law 1084 = .ok (.iload 4, 2) := by decide +kernel
theorem dL_law_1086 : decode cL_law 1086 = .ok (.iconst 5, 1) := by decide +kernel
theorem dL_law_1087 : decode cL_law 1087 = .ok (.iadd, 1) := by decide +kernel
theorem dL_law_1088 : decode cL_law 1088 = .ok (.iaload, 1) := by decide +kernel
theorem dL_law_1089 : decode cL_law 1089 = .ok (.aload_n 0, 1) := by decide +kernel
theorem dL_law_1090 : decode cL_law 1090 = .ok (.iload 4, 2) := by decide +kernel
theorem dL_law_1092 : decode cL_law 1092 = .ok (.bipush 6, 2) := by decide +kernel
theorem dL_law_1094 : decode cL_law 1094 = .ok (.iadd, 1) := by decide +kernel
theorem dL_law_1095 : decode cL_law 1095 = .ok (.iaload, 1) := by decide +kernel
theorem dL_law_1096 : decode cL_law 1096 = .ok (.invokevirtual 109, 3) := by decide +kernel
theorem dL_law_1099 : decode cL_law 1099 = .ok (.aload_n 2, 1) := by decide +kernel
theorem dL_law_1100 : decode cL_law 1100 = .ok (.aload_n 0, 1) := by decide +kernel
theorem dL_law_1101 : decode cL_law 1101 = .ok (.iload 4, 2) := by decide +kernel
theorem dL_law_1103 : decode cL_law 1103 = .ok (.iconst 1, 1) := by decide +kernel
theorem dL_law_1104 : decode cL_law 1104 = .ok (.iadd, 1) := by decide +kernel
theorem dL_law_1105 : decode cL_law 1105 = .ok (.iaload, 1) := by decide +kernel
theorem dL_law_1106 : decode cL_law 1106 = .ok (.aload_n 0, 1) := by decide +kernel
theorem dL_law_1107 : decode cL_law 1107 = .ok (.iload 4, 2) := by decide +kernel
theorem dL_law_1109 : decode cL_law 1109 = .ok (.iconst 2, 1) := by decide +kernel
theorem dL_law_1110 : decode cL_law 1110 = .ok (.iadd, 1) := by decide +kernel
theorem dL_law_1111 : decode cL_law 1111 = .ok (.iaload, 1) := by decide +kernel
theorem dL_law_1112 : decode cL_law 1112 = .ok (.aload_n 0, 1) := by decide +kernel
theorem dL_law_1113 : decode cL_law 1113 = .ok (.iload 4, 2) := by decide +kernel
theorem dL_law_1115 : decode cL_law 1115 = .ok (.iconst 3, 1) := by decide +kernel
theorem dL_law_1116 : decode cL_law 1116 = .ok (.iadd, 1) := by decide +kernel
theorem dL_law_1117 : decode cL_law 1117 = .ok (.iaload, 1) := by decide +kernel
theorem dL_law_1118 : decode cL_law 1118 = .ok (.aload_n 0, 1) := by decide +kernel
theorem dL_law_1119 : decode cL_law 1119 = .ok (.iload 4, 2) := by decide +kernel
theorem dL_law_1121 : decode cL_law 1121 = .ok (.iconst 4, 1) := by decide +kernel
theorem dL_law_1122 : decode cL_law 1122 = .ok (.iadd, 1) := by decide +kernel
theorem dL_law_1123 : decode cL_law 1123 = .ok (.iaload, 1) := by decide +kernel
theorem dL_law_1124 : decode cL_law 1124 = .ok (.aload_n 0, 1) := by decide +kernel
theorem dL_law_1125 : decode cL_law 1125 = .ok (.iload 4, 2) := by decide +kernel
theorem dL_law_1127 : decode cL_law 1127 = .ok (.iconst 5, 1) := by decide +kernel
theorem dL_law_1128 : decode cL_law 1128 = .ok (.iadd, 1) := by decide +kernel
theorem dL_law_1129 : decode cL_law 1129 = .ok (.iaload, 1) := by decide +kernel
theorem dL_law_1130 : decode cL_law 1130 = .ok (.aload_n 0, 1) := by decide +kernel
theorem dL_law_1131 : decode cL_law 1131 = .ok (.iload 4, 2) := by decide +kernel
theorem dL_law_1133 : decode cL_law 1133 = .ok (.bipush 6, 2) := by decide +kernel
theorem dL_law_1135 : decode cL_law 1135 = .ok (.iadd, 1) := by decide +kernel
theorem dL_law_1136 : decode cL_law 1136 = .ok (.iaload, 1) := by decide +kernel
theorem dL_law_1137 : decode cL_law 1137 = .ok (.invokevirtual 113, 3) := by decide +kernel
theorem dL_law_1140 : decode cL_law 1140 = .ok (.if_icmp .eq 549, 3) := by decide +kernel
theorem dL_law_1143 : decode cL_law 1143 = .ok (.iconst 0, 1) := by decide +kernel
theorem dL_law_1144 : decode cL_law 1144 = .ok (.ireturn, 1) := by decide +kernel
theorem dL_law_1145 : decode cL_law 1145 = .ok (.aload_n 1, 1) := by decide +kernel
theorem dL_law_1146 : decode cL_law 1146 = .ok (.aload_n 0, 1) := by decide +kernel
theorem dL_law_1147 : decode cL_law 1147 = .ok (.iload 4, 2) := by decide +kernel
theorem dL_law_1149 : decode cL_law 1149 = .ok (.iconst 1, 1) := by decide +kernel
theorem dL_law_1150 : decode cL_law 1150 = .ok (.iadd, 1) := by decide +kernel
theorem dL_law_1151 : decode cL_law 1151 = .ok (.iaload, 1) := by decide +kernel
theorem dL_law_1152 : decode cL_law 1152 = .ok (.aload_n 0, 1) := by decide +kernel
theorem dL_law_1153 : decode cL_law 1153 = .ok (.iload 4, 2) := by decide +kernel
theorem dL_law_1155 : decode cL_law 1155 = .ok (.iconst 2, 1) := by decide +kernel
theorem dL_law_1156 : decode cL_law 1156 = .ok (.iadd, 1) := by decide +kernel
theorem dL_law_1157 : decode cL_law 1157 = .ok (.iaload, 1) := by decide +kernel
theorem dL_law_1158 : decode cL_law 1158 = .ok (.aload_n 0, 1) := by decide +kernel
theorem dL_law_1159 : decode cL_law 1159 = .ok (.iload 4, 2) := by decide +kernel
theorem dL_law_1161 : decode cL_law 1161 = .ok (.iconst 3, 1) := by decide +kernel
theorem dL_law_1162 : decode cL_law 1162 = .ok (.iadd, 1) := by decide +kernel
theorem dL_law_1163 : decode cL_law 1163 = .ok (.iaload, 1) := by decide +kernel
theorem dL_law_1164 : decode cL_law 1164 = .ok (.aload_n 0, 1) := by decide +kernel
theorem dL_law_1165 : decode cL_law 1165 = .ok (.iload 4, 2) := by decide +kernel
theorem dL_law_1167 : decode cL_law 1167 = .ok (.iconst 4, 1) := by decide +kernel
theorem dL_law_1168 : decode cL_law 1168 = .ok (.iadd, 1) := by decide +kernel
theorem dL_law_1169 : decode cL_law 1169 = .ok (.iaload, 1) := by decide +kernel
theorem dL_law_1170 : decode cL_law 1170 = .ok (.aload_n 0, 1) := by decide +kernel
theorem dL_law_1171 : decode cL_law 1171 = .ok (.iload 4, 2) := by decide +kernel
theorem dL_law_1173 : decode cL_law 1173 = .ok (.iconst 5, 1) := by decide +kernel
theorem dL_law_1174 : decode cL_law 1174 = .ok (.iadd, 1) := by decide +kernel
theorem dL_law_1175 : decode cL_law 1175 = .ok (.iaload, 1) := by decide +kernel
theorem dL_law_1176 : decode cL_law 1176 = .ok (.aload_n 0, 1) := by decide +kernel
theorem dL_law_1177 : decode cL_law 1177 = .ok (.iload 4, 2) := by decide +kernel
theorem dL_law_1179 : decode cL_law 1179 = .ok (.bipush 6, 2) := by decide +kernel
theorem dL_law_1181 : decode cL_law 1181 = .ok (.iadd, 1) := by decide +kernel
theorem dL_law_1182 : decode cL_law 1182 = .ok (.iaload, 1) := by decide +kernel
theorem dL_law_1183 : decode cL_law 1183 = .ok (.aload_n 0, 1) := by decide +kernel
theorem dL_law_1184 : decode cL_law 1184 = .ok (.iload 4, 2) := by decide +kernel
theorem dL_law_1186 : decode cL_law 1186 = .ok (.bipush 7, 2) := by decide +kernel
theorem dL_law_1188 : decode cL_law 1188 = .ok (.iadd, 1) := by decide +kernel
theorem dL_law_1189 : decode cL_law 1189 = .ok (.iaload, 1) := by decide +kernel
theorem dL_law_1190 : decode cL_law 1190 = .ok (.invokevirtual 114, 3) := by decide +kernel
theorem dL_law_1193 : decode cL_law 1193 = .ok (.aload_n 2, 1) := by decide +kernel
theorem dL_law_1194 : decode cL_law 1194 = .ok (.aload_n 0, 1) := by decide +kernel
theorem dL_law_1195 : decode cL_law 1195 = .ok (.iload 4, 2) := by decide +kernel
theorem dL_law_1197 : decode cL_law 1197 = .ok (.iconst 1, 1) := by decide +kernel
theorem dL_law_1198 : decode cL_law 1198 = .ok (.iadd, 1) := by decide +kernel
theorem dL_law_1199 : decode cL_law 1199 = .ok (.iaload, 1) := by decide +kernel
theorem dL_law_1200 : decode cL_law 1200 = .ok (.aload_n 0, 1) := by decide +kernel
theorem dL_law_1201 : decode cL_law 1201 = .ok (.iload 4, 2) := by decide +kernel
theorem dL_law_1203 : decode cL_law 1203 = .ok (.iconst 2, 1) := by decide +kernel
theorem dL_law_1204 : decode cL_law 1204 = .ok (.iadd, 1) := by decide +kernel
theorem dL_law_1205 : decode cL_law 1205 = .ok (.iaload, 1) := by decide +kernel
theorem dL_law_1206 : decode cL_law 1206 = .ok (.aload_n 0, 1) := by decide +kernel
theorem dL_law_1207 : decode cL_law 1207 = .ok (.iload 4, 2) := by decide +kernel
theorem dL_law_1209 : decode cL_law 1209 = .ok (.iconst 3, 1) := by decide +kernel
theorem dL_law_1210 : decode cL_law 1210 = .ok (.iadd, 1) := by decide +kernel
theorem dL_law_1211 : decode cL_law 1211 = .ok (.iaload, 1) := by decide +kernel
theorem dL_law_1212 : decode cL_law 1212 = .ok (.aload_n 0, 1) := by decide +kernel
theorem dL_law_1213 : decode cL_law 1213 = .ok (.iload 4, 2) := by decide +kernel
theorem dL_law_1215 : decode cL_law 1215 = .ok (.iconst 4, 1) := by decide +kernel
theorem dL_law_1216 : decode cL_law 1216 = .ok (.iadd, 1) := by decide +kernel
theorem dL_law_1217 : decode cL_law 1217 = .ok (.iaload, 1) := by decide +kernel
theorem dL_law_1218 : decode cL_law 1218 = .ok (.aload_n 0, 1) := by decide +kernel
theorem dL_law_1219 : decode cL_law 1219 = .ok (.iload 4, 2) := by decide +kernel
theorem dL_law_1221 : decode cL_law 1221 = .ok (.iconst 5, 1) := by decide +kernel
theorem dL_law_1222 : decode cL_law 1222 = .ok (.iadd, 1) := by decide +kernel
theorem dL_law_1223 : decode cL_law 1223 = .ok (.iaload, 1) := by decide +kernel
theorem dL_law_1224 : decode cL_law 1224 = .ok (.aload_n 0, 1) := by decide +kernel
theorem dL_law_1225 : decode cL_law 1225 = .ok (.iload 4, 2) := by decide +kernel
theorem dL_law_1227 : decode cL_law 1227 = .ok (.bipush 6, 2) := by decide +kernel
theorem dL_law_1229 : decode cL_law 1229 = .ok (.iadd, 1) := by decide +kernel
theorem dL_law_1230 : decode cL_law 1230 = .ok (.iaload, 1) := by decide +kernel
theorem dL_law_1231 : decode cL_law 1231 = .ok (.aload_n 0, 1) := by decide +kernel
theorem dL_law_1232 : decode cL_law 1232 = .ok (.iload 4, 2) := by decide +kernel
theorem dL_law_1234 : decode cL_law 1234 = .ok (.bipush 7, 2) := by decide +kernel
theorem dL_law_1236 : decode cL_law 1236 = .ok (.iadd, 1) := by decide +kernel
theorem dL_law_1237 : decode cL_law 1237 = .ok (.iaload, 1) := by decide +kernel
theorem dL_law_1238 : decode cL_law 1238 = .ok (.invokevirtual 118, 3) := by decide +kernel
theorem dL_law_1241 : decode cL_law 1241 = .ok (.if_icmp .eq 448, 3) := by decide +kernel
theorem dL_law_1244 : decode cL_law 1244 = .ok (.iconst 0, 1) := by decide +kernel
theorem dL_law_1245 : decode cL_law 1245 = .ok (.ireturn, 1) := by decide +kernel
theorem dL_law_1246 : decode cL_law 1246 = .ok (.aload_n 1, 1) := by decide +kernel
theorem dL_law_1247 : decode cL_law 1247 = .ok (.aload_n 0, 1) := by decide +kernel
theorem dL_law_1248 : decode cL_law 1248 = .ok (.iload 4, 2) := by decide +kernel
theorem dL_law_1250 : decode cL_law 1250 = .ok (.iconst 1, 1) := by decide +kernel
theorem dL_law_1251 : decode cL_law 1251 = .ok (.iadd, 1) := by decide +kernel
theorem dL_law_1252 : decode cL_law 1252 = .ok (.iaload, 1) := by decide +kernel
theorem dL_law_1253 : decode cL_law 1253 = .ok (.aload_n 0, 1) := by decide +kernel
theorem dL_law_1254 : decode cL_law 1254 = .ok (.iload 4, 2) := by decide +kernel
theorem dL_law_1256 : decode cL_law 1256 = .ok (.iconst 2, 1) := by decide +kernel
theorem dL_law_1257 : decode cL_law 1257 = .ok (.iadd, 1) := by decide +kernel
theorem dL_law_1258 : decode cL_law 1258 = .ok (.iaload, 1) := by decide +kernel
theorem dL_law_1259 : decode cL_law 1259 = .ok (.aload_n 0, 1) := by decide +kernel
theorem dL_law_1260 : decode cL_law 1260 = .ok (.iload 4, 2) := by decide +kernel
theorem dL_law_1262 : decode cL_law 1262 = .ok (.iconst 3, 1) := by decide +kernel
theorem dL_law_1263 : decode cL_law 1263 = .ok (.iadd, 1) := by decide +kernel
theorem dL_law_1264 : decode cL_law 1264 = .ok (.iaload, 1) := by decide +kernel
theorem dL_law_1265 : decode cL_law 1265 = .ok (.invokevirtual 119, 3) := by decide +kernel
theorem dL_law_1268 : decode cL_law 1268 = .ok (.aload_n 2, 1) := by decide +kernel
theorem dL_law_1269 : decode cL_law 1269 = .ok (.aload_n 0, 1) := by decide +kernel
theorem dL_law_1270 : decode cL_law 1270 = .ok (.iload 4, 2) := by decide +kernel
theorem dL_law_1272 : decode cL_law 1272 = .ok (.iconst 1, 1) := by decide +kernel
theorem dL_law_1273 : decode cL_law 1273 = .ok (.iadd, 1) := by decide +kernel
theorem dL_law_1274 : decode cL_law 1274 = .ok (.iaload, 1) := by decide +kernel
theorem dL_law_1275 : decode cL_law 1275 = .ok (.aload_n 0, 1) := by decide +kernel
theorem dL_law_1276 : decode cL_law 1276 = .ok (.iload 4, 2) := by decide +kernel
theorem dL_law_1278 : decode cL_law 1278 = .ok (.iconst 2, 1) := by decide +kernel
theorem dL_law_1279 : decode cL_law 1279 = .ok (.iadd, 1) := by decide +kernel
theorem dL_law_1280 : decode cL_law 1280 = .ok (.iaload, 1) := by decide +kernel
theorem dL_law_1281 : decode cL_law 1281 = .ok (.aload_n 0, 1) := by decide +kernel
theorem dL_law_1282 : decode cL_law 1282 = .ok (.iload 4, 2) := by decide +kernel
theorem dL_law_1284 : decode cL_law 1284 = .ok (.iconst 3, 1) := by decide +kernel
theorem dL_law_1285 : decode cL_law 1285 = .ok (.iadd, 1) := by decide +kernel
theorem dL_law_1286 : decode cL_law 1286 = .ok (.iaload, 1) := by decide +kernel
theorem dL_law_1287 : decode cL_law 1287 = .ok (.invokevirtual 122, 3) := by decide +kernel
theorem dL_law_1290 : decode cL_law 1290 = .ok (.if_icmp .eq 399, 3) := by decide +kernel
theorem dL_law_1293 : decode cL_law 1293 = .ok (.iconst 0, 1) := by decide +kernel
theorem dL_law_1294 : decode cL_law 1294 = .ok (.ireturn, 1) := by decide +kernel
theorem dL_law_1295 : decode cL_law 1295 = .ok (.aload_n 1, 1) := by decide +kernel
theorem dL_law_1296 : decode cL_law 1296 = .ok (.invokevirtual 123, 3) := by decide +kernel
theorem dL_law_1299 : decode cL_law 1299 = .ok (.aload_n 2, 1) := by decide +kernel
theorem dL_law_1300 : decode cL_law 1300 = .ok (.invokevirtual 126, 3) := by decide +kernel
theorem dL_law_1303 : decode cL_law 1303 = .ok (.if_icmp .eq 386, 3) := by decide +kernel
theorem dL_law_1306 : decode cL_law 1306 = .ok (.iconst 0, 1) := by decide +kernel
theorem dL_law_1307 : decode cL_law 1307 = .ok (.ireturn, 1) := by decide +kernel
theorem dL_law_1308 : decode cL_law 1308 = .ok (.aload_n 1, 1) := by decide +kernel
theorem dL_law_1309 : decode cL_law 1309 = .ok (.invokevirtual 127, 3) := by decide +kernel
theorem dL_law_1312 : decode cL_law 1312 = .ok (.aload_n 2, 1) := by decide +kernel
theorem dL_law_1313 : decode cL_law 1313 = .ok (.invokevirtual 130, 3) := by decide +kernel
theorem dL_law_1316 : decode cL_law 1316 = .ok (.if_icmp .eq 373, 3) := by decide +kernel
theorem dL_law_1319 : decode cL_law 1319 = .ok (.iconst 0, 1) := by decide +kernel
theorem dL_law_1320 : decode cL_law 1320 = .ok (.ireturn, 1) := by decide +kernel
theorem dL_law_1321 : decode cL_law 1321 = .ok (.aload_n 1, 1) := by decide +kernel
theorem dL_law_1322 : decode cL_law 1322 = .ok (.aload_n 0, 1) := by decide +kernel
theorem dL_law_1323 : decode cL_law 1323 = .ok (.iload 4, 2) := by decide +kernel
theorem dL_law_1325 : decode cL_law 1325 = .ok (.iconst 1, 1) := by decide +kernel
theorem dL_law_1326 : decode cL_law 1326 = .ok (.iadd, 1) := by decide +kernel
theorem dL_law_1327 : decode cL_law 1327 = .ok (.iaload, 1) := by decide +kernel
theorem dL_law_1328 : decode cL_law 1328 = .ok (.aload_n 0, 1) := by decide +kernel
theorem dL_law_1329 : decode cL_law 1329 = .ok (.iload 4, 2) := by decide +kernel
theorem dL_law_1331 : decode cL_law 1331 = .ok (.iconst 2, 1) := by decide +kernel
theorem dL_law_1332 : decode cL_law 1332 = .ok (.iadd, 1) := by decide +kernel
theorem dL_law_1333 : decode cL_law 1333 = .ok (.iaload, 1) := by decide +kernel
theorem dL_law_1334 : decode cL_law 1334 = .ok (.invokevirtual 131, 3) := by decide +kernel
theorem dL_law_1337 : decode cL_law 1337 = .ok (.aload_n 2, 1) := by decide +kernel
theorem dL_law_1338 : decode cL_law 1338 = .ok (.aload_n 0, 1) := by decide +kernel
theorem dL_law_1339 : decode cL_law 1339 = .ok (.iload 4, 2) := by decide +kernel
theorem dL_law_1341 : decode cL_law 1341 = .ok (.iconst 1, 1) := by decide +kernel
theorem dL_law_1342 : decode cL_law 1342 = .ok (.iadd, 1) := by decide +kernel
theorem dL_law_1343 : decode cL_law 1343 = .ok (.iaload, 1) := by decide +kernel
theorem dL_law_1344 : decode cL_law 1344 = .ok (.aload_n 0, 1) := by decide +kernel
theorem dL_law_1345 : decode cL_law 1345 = .ok (.iload 4, 2) := by decide +kernel
theorem dL_law_1347 : decode cL_law 1347 = .ok (.iconst 2, 1) := by decide +kernel
theorem dL_law_1348 : decode cL_law 1348 = .ok (.iadd, 1) := by decide +kernel
theorem dL_law_1349 : decode cL_law 1349 = .ok (.iaload, 1) := by decide +kernel
theorem dL_law_1350 : decode cL_law 1350 = .ok (.invokevirtual 134, 3) := by decide +kernel
theorem dL_law_1353 : decode cL_law 1353 = .ok (.if_icmp .eq 336, 3) := by decide +kernel
theorem dL_law_1356 : decode cL_law 1356 = .ok (.iconst 0, 1) := by decide +kernel
theorem dL_law_1357 : decode cL_law 1357 = .ok (.ireturn, 1) := by decide +kernel
theorem dL_law_1358 : decode cL_law 1358 = .ok (.aload_n 1, 1) := by decide +kernel
theorem dL_law_1359 : decode cL_law 1359 = .ok (.aload_n 0, 1) := by decide +kernel
theorem dL_law_1360 : decode cL_law 1360 = .ok (.iload 4, 2) := by decide +kernel
theorem dL_law_1362 : decode cL_law 1362 = .ok (.iconst 1, 1) := by decide +kernel
theorem dL_law_1363 : decode cL_law 1363 = .ok (.iadd, 1) := by decide +kernel
theorem dL_law_1364 : decode cL_law 1364 = .ok (.iaload, 1) := by decide +kernel
theorem dL_law_1365 : decode cL_law 1365 = .ok (.invokevirtual 135, 3) := by decide +kernel
theorem dL_law_1368 : decode cL_law 1368 = .ok (.aload_n 2, 1) := by decide +kernel
theorem dL_law_1369 : decode cL_law 1369 = .ok (.aload_n 0, 1) := by decide +kernel
theorem dL_law_1370 : decode cL_law 1370 = .ok (.iload 4, 2) := by decide +kernel
theorem dL_law_1372 : decode cL_law 1372 = .ok (.iconst 1, 1) := by decide +kernel
theorem dL_law_1373 : decode cL_law 1373 = .ok (.iadd, 1) := by decide +kernel
theorem dL_law_1374 : decode cL_law 1374 = .ok (.iaload, 1) := by decide +kernel
theorem dL_law_1375 : decode cL_law 1375 = .ok (.invokevirtual 138, 3) := by decide +kernel
theorem dL_law_1378 : decode cL_law 1378 = .ok (.if_icmp .eq 311, 3) := by decide +kernel
theorem dL_law_1381 : decode cL_law 1381 = .ok (.iconst 0, 1) := by decide +kernel
theorem dL_law_1382 : decode cL_law 1382 = .ok (.ireturn, 1) := by decide +kernel
theorem dL_law_1383 : decode cL_law 1383 = .ok (.aload_n 1, 1) := by decide +kernel
theorem dL_law_1384 : decode cL_law 1384 = .ok (.aload_n 0, 1) := by decide +kernel
theorem dL_law_1385 : decode cL_law 1385 = .ok (.iload 4, 2) := by decide +kernel
theorem dL_law_1387 : decode cL_law 1387 = .ok (.iconst 1, 1) := by decide +kernel
theorem dL_law_1388 : decode cL_law 1388 = .ok (.iadd, 1) := by decide +kernel
theorem dL_law_1389 : decode cL_law 1389 = .ok (.iaload, 1) := by decide +kernel
theorem dL_law_1390 : decode cL_law 1390 = .ok (.invokevirtual 139, 3) := by decide +kernel
theorem dL_law_1393 : decode cL_law 1393 = .ok (.aload_n 2, 1) := by decide +kernel
theorem dL_law_1394 : decode cL_law 1394 = .ok (.aload_n 0, 1) := by decide +kernel
theorem dL_law_1395 : decode cL_law 1395 = .ok (.iload 4, 2) := by decide +kernel
theorem dL_law_1397 : decode cL_law 1397 = .ok (.iconst 1, 1) := by decide +kernel
theorem dL_law_1398 : decode cL_law 1398 = .ok (.iadd, 1) := by decide +kernel
theorem dL_law_1399 : decode cL_law 1399 = .ok (.iaload, 1) := by decide +kernel
theorem dL_law_1400 : decode cL_law 1400 = .ok (.invokevirtual 142, 3) := by decide +kernel
theorem dL_law_1403 : decode cL_law 1403 = .ok (.if_icmp .eq 286, 3) := by decide +kernel
theorem dL_law_1406 : decode cL_law 1406 = .ok (.iconst 0, 1) := by decide +kernel
theorem dL_law_1407 : decode cL_law 1407 = .ok (.ireturn, 1) := by decide +kernel
theorem dL_law_1408 : decode cL_law 1408 = .ok (.aload_n 1, 1) := by decide +kernel
theorem dL_law_1409 : decode cL_law 1409 = .ok (.aload_n 0, 1) := by decide +kernel
theorem dL_law_1410 : decode cL_law 1410 = .ok (.iload 4, 2) := by decide +kernel
theorem dL_law_1412 : decode cL_law 1412 = .ok (.iconst 1, 1) := by decide +kernel
theorem dL_law_1413 : decode cL_law 1413 = .ok (.iadd, 1) := by decide +kernel
theorem dL_law_1414 : decode cL_law 1414 = .ok (.iaload, 1) := by decide +kernel
theorem dL_law_1415 : decode cL_law 1415 = .ok (.aload_n 0, 1) := by decide +kernel
theorem dL_law_1416 : decode cL_law 1416 = .ok (.iload 4, 2) := by decide +kernel
theorem dL_law_1418 : decode cL_law 1418 = .ok (.iconst 2, 1) := by decide +kernel
theorem dL_law_1419 : decode cL_law 1419 = .ok (.iadd, 1) := by decide +kernel
theorem dL_law_1420 : decode cL_law 1420 = .ok (.iaload, 1) := by decide +kernel
theorem dL_law_1421 : decode cL_law 1421 = .ok (.aload_n 0, 1) := by decide +kernel
theorem dL_law_1422 : decode cL_law 1422 = .ok (.iload 4, 2) := by decide +kernel
theorem dL_law_1424 : decode cL_law 1424 = .ok (.iconst 3, 1) := by decide +kernel
theorem dL_law_1425 : decode cL_law 1425 = .ok (.iadd, 1) := by decide +kernel
theorem dL_law_1426 : decode cL_law 1426 = .ok (.iaload, 1) := by decide +kernel
theorem dL_law_1427 : decode cL_law 1427 = .ok (.invokevirtual 143, 3) := by decide +kernel
theorem dL_law_1430 : decode cL_law 1430 = .ok (.aload_n 2, 1) := by decide +kernel
theorem dL_law_1431 : decode cL_law 1431 = .ok (.aload_n 0, 1) := by decide +kernel
theorem dL_law_1432 : decode cL_law 1432 = .ok (.iload 4, 2) := by decide +kernel
theorem dL_law_1434 : decode cL_law 1434 = .ok (.iconst 1, 1) := by decide +kernel
theorem dL_law_1435 : decode cL_law 1435 = .ok (.iadd, 1) := by decide +kernel
theorem dL_law_1436 : decode cL_law 1436 = .ok (.iaload, 1) := by decide +kernel
theorem dL_law_1437 : decode cL_law 1437 = .ok (.aload_n 0, 1) := by decide +kernel
theorem dL_law_1438 : decode cL_law 1438 = .ok (.iload 4, 2) := by decide +kernel
theorem dL_law_1440 : decode cL_law 1440 = .ok (.iconst 2, 1) := by decide +kernel
theorem dL_law_1441 : decode cL_law 1441 = .ok (.iadd, 1) := by decide +kernel
theorem dL_law_1442 : decode cL_law 1442 = .ok (.iaload, 1) := by decide +kernel
theorem dL_law_1443 : decode cL_law 1443 = .ok (.aload_n 0, 1) := by decide +kernel
theorem dL_law_1444 : decode cL_law 1444 = .ok (.iload 4, 2) := by decide +kernel
theorem dL_law_1446 : decode cL_law 1446 = .ok (.iconst 3, 1) := by decide +kernel
theorem dL_law_1447 : decode cL_law 1447 = .ok (.iadd, 1) := by decide +kernel
theorem dL_law_1448 : decode cL_law 1448 = .ok (.iaload, 1) := by decide +kernel
theorem dL_law_1449 : decode cL_law 1449 = .ok (.invokevirtual 147, 3) := by decide +kernel
theorem dL_law_1452 : decode cL_law 1452 = .ok (.if_icmp .eq 237, 3) := by decide +kernel
theorem dL_law_1455 : decode cL_law 1455 = .ok (.iconst 0, 1) := by decide +kernel
theorem dL_law_1456 : decode cL_law 1456 = .ok (.ireturn, 1) := by decide +kernel
theorem dL_law_1457 : decode cL_law 1457 = .ok (.aload_n 1, 1) := by decide +kernel
theorem dL_law_1458 : decode cL_law 1458 = .ok (.aload_n 0, 1) := by decide +kernel
theorem dL_law_1459 : decode cL_law 1459 = .ok (.iload 4, 2) := by decide +kernel
theorem dL_law_1461 : decode cL_law 1461 = .ok (.iconst 1, 1) := by decide +kernel
theorem dL_law_1462 : decode cL_law 1462 = .ok (.iadd, 1) := by decide +kernel
theorem dL_law_1463 : decode cL_law 1463 = .ok (.iaload, 1) := by decide +kernel
theorem dL_law_1464 : decode cL_law 1464 = .ok (.invokevirtual 148, 3) := by decide +kernel
theorem dL_law_1467 : decode cL_law 1467 = .ok (.aload_n 2, 1) := by decide +kernel
theorem dL_law_1468 : decode cL_law 1468 = .ok (.aload_n 0, 1) := by decide +kernel
theorem dL_law_1469 : decode cL_law 1469 = .ok (.iload 4, 2) := by decide +kernel
theorem dL_law_1471 : decode cL_law 1471 = .ok (.iconst 1, 1) := by decide +kernel
theorem dL_law_1472 : decode cL_law 1472 = .ok (.iadd, 1) := by decide +kernel
theorem dL_law_1473 : decode cL_law 1473 = .ok (.iaload, 1) := by decide +kernel
theorem dL_law_1474 : decode cL_law 1474 = .ok (.invokevirtual 152, 3) := by decide +kernel
theorem dL_law_1477 : decode cL_law 1477 = .ok (.if_icmp .eq 212, 3) := by decide +kernel
theorem dL_law_1480 : decode cL_law 1480 = .ok (.iconst 0, 1) := by decide +kernel
theorem dL_law_1481 : decode cL_law 1481 = .ok (.ireturn, 1) := by decide +kernel
theorem dL_law_1482 : decode cL_law 1482 = .ok (.aload_n 1, 1) := by decide +kernel
theorem dL_law_1483 : decode cL_law 1483 = .ok (.aload_n 0, 1) := by decide +kernel
theorem dL_law_1484 : decode cL_law 1484 = .ok (.iload 4, 2) := by decide +kernel
theorem dL_law_1486 : decode cL_law 1486 = .ok (.iconst 1, 1) := by decide +kernel
theorem dL_law_1487 : decode cL_law 1487 = .ok (.iadd, 1) := by decide +kernel
theorem dL_law_1488 : decode cL_law 1488 = .ok (.iaload, 1) := by decide +kernel
theorem dL_law_1489 : decode cL_law 1489 = .ok (.aload_n 0, 1) := by decide +kernel
theorem dL_law_1490 : decode cL_law 1490 = .ok (.iload 4, 2) := by decide +kernel
theorem dL_law_1492 : decode cL_law 1492 = .ok (.iconst 2, 1) := by decide +kernel
theorem dL_law_1493 : decode cL_law 1493 = .ok (.iadd, 1) := by decide +kernel
theorem dL_law_1494 : decode cL_law 1494 = .ok (.iaload, 1) := by decide +kernel
theorem dL_law_1495 : decode cL_law 1495 = .ok (.invokevirtual 153, 3) := by decide +kernel
theorem dL_law_1498 : decode cL_law 1498 = .ok (.aload_n 2, 1) := by decide +kernel
theorem dL_law_1499 : decode cL_law 1499 = .ok (.aload_n 0, 1) := by decide +kernel
theorem dL_law_1500 : decode cL_law 1500 = .ok (.iload 4, 2) := by decide +kernel
theorem dL_law_1502 : decode cL_law 1502 = .ok (.iconst 1, 1) := by decide +kernel
theorem dL_law_1503 : decode cL_law 1503 = .ok (.iadd, 1) := by decide +kernel
theorem dL_law_1504 : decode cL_law 1504 = .ok (.iaload, 1) := by decide +kernel
theorem dL_law_1505 : decode cL_law 1505 = .ok (.aload_n 0, 1) := by decide +kernel
theorem dL_law_1506 : decode cL_law 1506 = .ok (.iload 4, 2) := by decide +kernel
theorem dL_law_1508 : decode cL_law 1508 = .ok (.iconst 2, 1) := by decide +kernel
theorem dL_law_1509 : decode cL_law 1509 = .ok (.iadd, 1) := by decide +kernel
theorem dL_law_1510 : decode cL_law 1510 = .ok (.iaload, 1) := by decide +kernel
theorem dL_law_1511 : decode cL_law 1511 = .ok (.invokevirtual 157, 3) := by decide +kernel
theorem dL_law_1514 : decode cL_law 1514 = .ok (.if_icmp .eq 175, 3) := by decide +kernel
theorem dL_law_1517 : decode cL_law 1517 = .ok (.iconst 0, 1) := by decide +kernel
theorem dL_law_1518 : decode cL_law 1518 = .ok (.ireturn, 1) := by decide +kernel
theorem dL_law_1519 : decode cL_law 1519 = .ok (.aload_n 1, 1) := by decide +kernel
theorem dL_law_1520 : decode cL_law 1520 = .ok (.aload_n 0, 1) := by decide +kernel
theorem dL_law_1521 : decode cL_law 1521 = .ok (.iload 4, 2) := by decide +kernel
theorem dL_law_1523 : decode cL_law 1523 = .ok (.iconst 1, 1) := by decide +kernel
theorem dL_law_1524 : decode cL_law 1524 = .ok (.iadd, 1) := by decide +kernel
theorem dL_law_1525 : decode cL_law 1525 = .ok (.iaload, 1) := by decide +kernel
theorem dL_law_1526 : decode cL_law 1526 = .ok (.invokevirtual 158, 3) := by decide +kernel
theorem dL_law_1529 : decode cL_law 1529 = .ok (.aload_n 2, 1) := by decide +kernel
theorem dL_law_1530 : decode cL_law 1530 = .ok (.aload_n 0, 1) := by decide +kernel
theorem dL_law_1531 : decode cL_law 1531 = .ok (.iload 4, 2) := by decide +kernel
theorem dL_law_1533 : decode cL_law 1533 = .ok (.iconst 1, 1) := by decide +kernel
theorem dL_law_1534 : decode cL_law 1534 = .ok (.iadd, 1) := by decide +kernel
theorem dL_law_1535 : decode cL_law 1535 = .ok (.iaload, 1) := by decide +kernel
theorem dL_law_1536 : decode cL_law 1536 = .ok (.invokevirtual 161, 3) := by decide +kernel
theorem dL_law_1539 : decode cL_law 1539 = .ok (.if_icmp .eq 150, 3) := by decide +kernel
theorem dL_law_1542 : decode cL_law 1542 = .ok (.iconst 0, 1) := by decide +kernel
theorem dL_law_1543 : decode cL_law 1543 = .ok (.ireturn, 1) := by decide +kernel
theorem dL_law_1544 : decode cL_law 1544 = .ok (.aload_n 1, 1) := by decide +kernel
theorem dL_law_1545 : decode cL_law 1545 = .ok (.invokevirtual 162, 3) := by decide +kernel
theorem dL_law_1548 : decode cL_law 1548 = .ok (.aload_n 2, 1) := by decide +kernel
theorem dL_law_1549 : decode cL_law 1549 = .ok (.invokevirtual 166, 3) := by decide +kernel
theorem dL_law_1552 : decode cL_law 1552 = .ok (.if_icmp .eq 137, 3) := by decide +kernel
theorem dL_law_1555 : decode cL_law 1555 = .ok (.iconst 0, 1) := by decide +kernel
theorem dL_law_1556 : decode cL_law 1556 = .ok (.ireturn, 1) := by decide +kernel
theorem dL_law_1557 : decode cL_law 1557 = .ok (.aload_n 1, 1) := by decide +kernel
theorem dL_law_1558 : decode cL_law 1558 = .ok (.invokevirtual 167, 3) := by decide +kernel
theorem dL_law_1561 : decode cL_law 1561 = .ok (.aload_n 2, 1) := by decide +kernel
theorem dL_law_1562 : decode cL_law 1562 = .ok (.invokevirtual 170, 3) := by decide +kernel
theorem dL_law_1565 : decode cL_law 1565 = .ok (.if_icmp .eq 124, 3) := by decide +kernel
theorem dL_law_1568 : decode cL_law 1568 = .ok (.iconst 0, 1) := by decide +kernel
theorem dL_law_1569 : decode cL_law 1569 = .ok (.ireturn, 1) := by decide +kernel
theorem dL_law_1570 : decode cL_law 1570 = .ok (.aload_n 1, 1) := by decide +kernel
theorem dL_law_1571 : decode cL_law 1571 = .ok (.aload_n 0, 1) := by decide +kernel
theorem dL_law_1572 : decode cL_law 1572 = .ok (.iload 4, 2) := by decide +kernel
theorem dL_law_1574 : decode cL_law 1574 = .ok (.iconst 1, 1) := by decide +kernel
theorem dL_law_1575 : decode cL_law 1575 = .ok (.iadd, 1) := by decide +kernel
theorem dL_law_1576 : decode cL_law 1576 = .ok (.iaload, 1) := by decide +kernel
theorem dL_law_1577 : decode cL_law 1577 = .ok (.invokevirtual 171, 3) := by decide +kernel
theorem dL_law_1580 : decode cL_law 1580 = .ok (.aload_n 2, 1) := by decide +kernel
theorem dL_law_1581 : decode cL_law 1581 = .ok (.aload_n 0, 1) := by decide +kernel
theorem dL_law_1582 : decode cL_law 1582 = .ok (.iload 4, 2) := by decide +kernel
theorem dL_law_1584 : decode cL_law 1584 = .ok (.iconst 1, 1) := by decide +kernel
theorem dL_law_1585 : decode cL_law 1585 = .ok (.iadd, 1) := by decide +kernel
theorem dL_law_1586 : decode cL_law 1586 = .ok (.iaload, 1) := by decide +kernel
theorem dL_law_1587 : decode cL_law 1587 = .ok (.invokevirtual 174, 3) := by decide +kernel
theorem dL_law_1590 : decode cL_law 1590 = .ok (.if_icmp .eq 99, 3) := by decide +kernel
theorem dL_law_1593 : decode cL_law 1593 = .ok (.iconst 0, 1) := by decide +kernel
theorem dL_law_1594 : decode cL_law 1594 = .ok (.ireturn, 1) := by decide +kernel
theorem dL_law_1595 : decode cL_law 1595 = .ok (.aload_n 1, 1) := by decide +kernel
theorem dL_law_1596 : decode cL_law 1596 = .ok (.aload_n 0, 1) := by decide +kernel
theorem dL_law_1597 : decode cL_law 1597 = .ok (.iload 4, 2) := by decide +kernel
theorem dL_law_1599 : decode cL_law 1599 = .ok (.iconst 1, 1) := by decide +kernel
theorem dL_law_1600 : decode cL_law 1600 = .ok (.iadd, 1) := by decide +kernel
theorem dL_law_1601 : decode cL_law 1601 = .ok (.iaload, 1) := by decide +kernel
theorem dL_law_1602 : decode cL_law 1602 = .ok (.aload_n 3, 1) := by decide +kernel
theorem dL_law_1603 : decode cL_law 1603 = .ok (.invokestatic 175, 3) := by decide +kernel
theorem dL_law_1606 : decode cL_law 1606 = .ok (.istore 5, 2) := by decide +kernel
theorem dL_law_1608 : decode cL_law 1608 = .ok (.aload_n 2, 1) := by decide +kernel
theorem dL_law_1609 : decode cL_law 1609 = .ok (.aload_n 0, 1) := by decide +kernel
theorem dL_law_1610 : decode cL_law 1610 = .ok (.iload 4, 2) := by decide +kernel
theorem dL_law_1612 : decode cL_law 1612 = .ok (.iconst 1, 1) := by decide +kernel
theorem dL_law_1613 : decode cL_law 1613 = .ok (.iadd, 1) := by decide +kernel
theorem dL_law_1614 : decode cL_law 1614 = .ok (.iaload, 1) := by decide +kernel
theorem dL_law_1615 : decode cL_law 1615 = .ok (.invokevirtual 180, 3) := by decide +kernel
theorem dL_law_1618 : decode cL_law 1618 = .ok (.istore 6, 2) := by decide +kernel
theorem dL_law_1620 : decode cL_law 1620 = .ok (.aload_n 2, 1) := by decide +kernel
theorem dL_law_1621 : decode cL_law 1621 = .ok (.invokevirtual 181, 3) := by decide +kernel
theorem dL_law_1624 : decode cL_law 1624 = .ok (.iload 5, 2) := by decide +kernel
theorem dL_law_1626 : decode cL_law 1626 = .ok (.if_icmp .eq 5, 3) := by decide +kernel
theorem dL_law_1629 : decode cL_law 1629 = .ok (.iconst 0, 1) := by decide +kernel
theorem dL_law_1630 : decode cL_law 1630 = .ok (.ireturn, 1) := by decide +kernel
theorem dL_law_1631 : decode cL_law 1631 = .ok (.iload 5, 2) := by decide +kernel
theorem dL_law_1633 : decode cL_law 1633 = .ok (.ifCond .ne 15, 3) := by decide +kernel
theorem dL_law_1636 : decode cL_law 1636 = .ok (.aload_n 3, 1) := by decide +kernel
theorem dL_law_1637 : decode cL_law 1637 = .ok (.iconst 0, 1) := by decide +kernel
theorem dL_law_1638 : decode cL_law 1638 = .ok (.laload, 1) := by decide +kernel
theorem dL_law_1639 : decode cL_law 1639 = .ok (.iload 6, 2) := by decide +kernel
theorem dL_law_1641 : decode cL_law 1641 = .ok (.i2l, 1) := by decide +kernel
theorem dL_law_1642 : decode cL_law 1642 = .ok (.lcmp, 1) := by decide +kernel
theorem dL_law_1643 : decode cL_law 1643 = .ok (.ifCond .eq 5, 3) := by decide +kernel
theorem dL_law_1646 : decode cL_law 1646 = .ok (.iconst 0, 1) := by decide +kernel
theorem dL_law_1647 : decode cL_law 1647 = .ok (.ireturn, 1) := by decide +kernel
theorem dL_law_1648 : decode cL_law 1648 = .ok (.goto 41, 3) := by decide +kernel
theorem dL_law_1651 : decode cL_law 1651 = .ok (.aload_n 1, 1) := by decide +kernel
theorem dL_law_1652 : decode cL_law 1652 = .ok (.aload_n 0, 1) := by decide +kernel
theorem dL_law_1653 : decode cL_law 1653 = .ok (.iload 4, 2) := by decide +kernel
theorem dL_law_1655 : decode cL_law 1655 = .ok (.iconst 1, 1) := by decide +kernel
theorem dL_law_1656 : decode cL_law 1656 = .ok (.iadd, 1) := by decide +kernel
theorem dL_law_1657 : decode cL_law 1657 = .ok (.iaload, 1) := by decide +kernel
theorem dL_law_1658 : decode cL_law 1658 = .ok (.invokevirtual 184, 3) := by decide +kernel
theorem dL_law_1661 : decode cL_law 1661 = .ok (.aload_n 2, 1) := by decide +kernel
theorem dL_law_1662 : decode cL_law 1662 = .ok (.aload_n 0, 1) := by decide +kernel
theorem dL_law_1663 : decode cL_law 1663 = .ok (.iload 4, 2) := by decide +kernel
theorem dL_law_1665 : decode cL_law 1665 = .ok (.iconst 1, 1) := by decide +kernel
theorem dL_law_1666 : decode cL_law 1666 = .ok (.iadd, 1) := by decide +kernel
theorem dL_law_1667 : decode cL_law 1667 = .ok (.iaload, 1) := by decide +kernel
theorem dL_law_1668 : decode cL_law 1668 = .ok (.invokevirtual 187, 3) := by decide +kernel
theorem dL_law_1671 : decode cL_law 1671 = .ok (.if_icmp .eq 18, 3) := by decide +kernel
theorem dL_law_1674 : decode cL_law 1674 = .ok (.iconst 0, 1) := by decide +kernel
theorem dL_law_1675 : decode cL_law 1675 = .ok (.ireturn, 1) := by decide +kernel
theorem dL_law_1676 : decode cL_law 1676 = .ok (.aload_n 1, 1) := by decide +kernel
theorem dL_law_1677 : decode cL_law 1677 = .ok (.invokevirtual 188, 3) := by decide +kernel
theorem dL_law_1680 : decode cL_law 1680 = .ok (.aload_n 2, 1) := by decide +kernel
theorem dL_law_1681 : decode cL_law 1681 = .ok (.invokevirtual 191, 3) := by decide +kernel
theorem dL_law_1684 : decode cL_law 1684 = .ok (.if_icmp .eq 5, 3) := by decide +kernel
theorem dL_law_1687 : decode cL_law 1687 = .ok (.iconst 0, 1) := by decide +kernel
theorem dL_law_1688 : decode cL_law 1688 = .ok (.ireturn, 1) := by decide +kernel
theorem dL_law_1689 : decode cL_law 1689 = .ok (.iinc 4 8, 3) := by decide +kernel
theorem dL_law_1692 : decode cL_law 1692 = .ok (.goto (-1669), 3) := by decide +kernel
theorem dL_law_1695 : decode cL_law 1695 = .ok (.iconst 1, 1) := by decide +kernel
theorem dL_law_1696 : decode cL_law 1696 = .ok (.ireturn, 1) := by decide +kernel
