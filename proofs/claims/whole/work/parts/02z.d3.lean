theorem dX11_goesOn_78 : decode cX11_goesOn 78 = .ok (.invokestatic 125, 3) := by decide +kernel
theorem dX11_goesOn_81 : decode cX11_goesOn 81 = .ok (.ifCond .eq 90, 3) := by decide +kernel
theorem dX11_goesOn_84 : decode cX11_goesOn 84 = .ok (.aload_n 0, 1) := by decide +kernel
theorem dX11_goesOn_85 : decode cX11_goesOn 85 = .ok (.lconst 0, 1) := by decide +kernel
theorem dX11_goesOn_86 : decode cX11_goesOn 86 = .ok (.putfield 129, 3) := by decide +kernel
theorem dX11_goesOn_89 : decode cX11_goesOn 89 = .ok (.aload_n 0, 1) := by decide +kernel
theorem dX11_goesOn_90 : decode cX11_goesOn 90 = .ok (.aload_n 0, 1) := by decide +kernel
theorem dX11_goesOn_91 : decode cX11_goesOn 91 = .ok (.getfield 113, 3) := by decide +kernel
theorem dX11_goesOn_94 : decode cX11_goesOn 94 = .ok (.invokevirtual 116, 3) := by decide +kernel
theorem dX11_goesOn_97 : decode cX11_goesOn 97 = .ok (.invokestatic 125, 3) := by decide +kernel
theorem dX11_goesOn_100 : decode cX11_goesOn 100 = .ok (.ifCond .eq 52, 3) := by decide +kernel
theorem dX11_goesOn_103 : decode cX11_goesOn 103 = .ok (.iload_n 2, 1) := by decide +kernel
theorem dX11_goesOn_104 : decode cX11_goesOn 104 = .ok (.bipush 8, 2) := by decide +kernel
theorem dX11_goesOn_106 : decode cX11_goesOn 106 = .ok (.if_icmp .ge 30, 3) := by decide +kernel
theorem dX11_goesOn_109 : decode cX11_goesOn 109 = .ok (.aload_n 0, 1) := by decide +kernel
theorem dX11_goesOn_110 : decode cX11_goesOn 110 = .ok (.ldc2_w 104, 3) := by decide +kernel
theorem dX11_goesOn_113 : decode cX11_goesOn 113 = .ok (.aload_n 0, 1) := by decide +kernel
theorem dX11_goesOn_114 : decode cX11_goesOn 114 = .ok (.getfield 129, 3) := by decide +kernel
theorem dX11_goesOn_117 : decode cX11_goesOn 117 = .ok (.lmul, 1) := by decide +kernel
theorem dX11_goesOn_118 : decode cX11_goesOn 118 = .ok (.aload_n 0, 1) := by decide +kernel
theorem dX11_goesOn_119 : decode cX11_goesOn 119 = .ok (.aload_n 0, 1) := by decide +kernel
theorem dX11_goesOn_120 : decode cX11_goesOn 120 = .ok (.getfield 113, 3) := by decide +kernel
theorem dX11_goesOn_123 : decode cX11_goesOn 123 = .ok (.invokevirtual 116, 3) := by decide +kernel
theorem dX11_goesOn_126 : decode cX11_goesOn 126 = .ok (.bipush 97, 2) := by decide +kernel
theorem dX11_goesOn_128 : decode cX11_goesOn 128 = .ok (.isub, 1) := by decide +kernel
theorem dX11_goesOn_129 : decode cX11_goesOn 129 = .ok (.iconst 1, 1) := by decide +kernel
theorem dX11_goesOn_130 : decode cX11_goesOn 130 = .ok (.iadd, 1) := by decide +kernel
theorem dX11_goesOn_131 : decode cX11_goesOn 131 = .ok (.i2l, 1) := by decide +kernel
theorem dX11_goesOn_132 : decode cX11_goesOn 132 = .ok (.ladd, 1) := by decide +kernel
theorem dX11_goesOn_133 : decode cX11_goesOn 133 = .ok (.putfield 129, 3) := by decide +kernel
theorem dX11_goesOn_136 : decode cX11_goesOn 136 = .ok (.iinc 2 1, 3) := by decide +kernel
theorem dX11_goesOn_139 : decode cX11_goesOn 139 = .ok (.aload_n 0, 1) := by decide +kernel
theorem dX11_goesOn_140 : decode cX11_goesOn 140 = .ok (.dup, 1) := by decide +kernel
theorem dX11_goesOn_141 : decode cX11_goesOn 141 = .ok (.getfield 113, 3) := by decide +kernel
theorem dX11_goesOn_144 : decode cX11_goesOn 144 = .ok (.iconst 1, 1) := by decide +kernel
theorem dX11_goesOn_145 : decode cX11_goesOn 145 = .ok (.iadd, 1) := by decide +kernel
theorem dX11_goesOn_146 : decode cX11_goesOn 146 = .ok (.putfield 113, 3) := by decide +kernel
theorem dX11_goesOn_149 : decode cX11_goesOn 149 = .ok (.goto (-60), 3) := by decide +kernel
theorem dX11_goesOn_152 : decode cX11_goesOn 152 = .ok (.aload_n 0, 1) := by decide +kernel
theorem dX11_goesOn_153 : decode cX11_goesOn 153 = .ok (.iload_n 2, 1) := by decide +kernel
theorem dX11_goesOn_154 : decode cX11_goesOn 154 = .ok (.putfield 133, 3) := by decide +kernel
theorem dX11_goesOn_157 : decode cX11_goesOn 157 = .ok (.iload_n 2, 1) := by decide +kernel
theorem dX11_goesOn_158 : decode cX11_goesOn 158 = .ok (.bipush 8, 2) := by decide +kernel
theorem dX11_goesOn_160 : decode cX11_goesOn 160 = .ok (.if_icmp .gt 126, 3) := by decide +kernel
theorem dX11_goesOn_163 : decode cX11_goesOn 163 = .ok (.aload_n 0, 1) := by decide +kernel
theorem dX11_goesOn_164 : decode cX11_goesOn 164 = .ok (.iconst 2, 1) := by decide +kernel
theorem dX11_goesOn_165 : decode cX11_goesOn 165 = .ok (.putfield 110, 3) := by decide +kernel
theorem dX11_goesOn_168 : decode cX11_goesOn 168 = .ok (.goto 118, 3) := by decide +kernel
theorem dX11_goesOn_171 : decode cX11_goesOn 171 = .ok (.iload_n 1, 1) := by decide +kernel
theorem dX11_goesOn_172 : decode cX11_goesOn 172 = .ok (.invokestatic 136, 3) := by decide +kernel
theorem dX11_goesOn_175 : decode cX11_goesOn 175 = .ok (.ifCond .eq 79, 3) := by decide +kernel
theorem dX11_goesOn_178 : decode cX11_goesOn 178 = .ok (.aload_n 0, 1) := by decide +kernel
theorem dX11_goesOn_179 : decode cX11_goesOn 179 = .ok (.iconst 0, 1) := by decide +kernel
theorem dX11_goesOn_180 : decode cX11_goesOn 180 = .ok (.putfield 139, 3) := by decide +kernel
theorem dX11_goesOn_183 : decode cX11_goesOn 183 = .ok (.aload_n 0, 1) := by decide +kernel
theorem dX11_goesOn_184 : decode cX11_goesOn 184 = .ok (.aload_n 0, 1) := by decide +kernel
theorem dX11_goesOn_185 : decode cX11_goesOn 185 = .ok (.getfield 113, 3) := by decide +kernel
theorem dX11_goesOn_188 : decode cX11_goesOn 188 = .ok (.invokevirtual 116, 3) := by decide +kernel
theorem dX11_goesOn_191 : decode cX11_goesOn 191 = .ok (.invokestatic 136, 3) := by decide +kernel
theorem dX11_goesOn_194 : decode cX11_goesOn 194 = .ok (.ifCond .eq 47, 3) := by decide +kernel
theorem dX11_goesOn_197 : decode cX11_goesOn 197 = .ok (.iload_n 2, 1) := by decide +kernel
theorem dX11_goesOn_198 : decode cX11_goesOn 198 = .ok (.iconst 2, 1) := by decide +kernel
theorem dX11_goesOn_199 : decode cX11_goesOn 199 = .ok (.if_icmp .ge 26, 3) := by decide +kernel
theorem dX11_goesOn_202 : decode cX11_goesOn 202 = .ok (.aload_n 0, 1) := by decide +kernel
theorem dX11_goesOn_203 : decode cX11_goesOn 203 = .ok (.bipush 10, 2) := by decide +kernel
theorem dX11_goesOn_205 : decode cX11_goesOn 205 = .ok (.aload_n 0, 1) := by decide +kernel
theorem dX11_goesOn_206 : decode cX11_goesOn 206 = .ok (.getfield 139, 3) := by decide +kernel
theorem dX11_goesOn_209 : decode cX11_goesOn 209 = .ok (.imul, 1) := by decide +kernel
theorem dX11_goesOn_210 : decode cX11_goesOn 210 = .ok (.aload_n 0, 1) := by decide +kernel
theorem dX11_goesOn_211 : decode cX11_goesOn 211 = .ok (.aload_n 0, 1) := by decide +kernel
theorem dX11_goesOn_212 : decode cX11_goesOn 212 = .ok (.getfield 113, 3) := by decide +kernel
theorem dX11_goesOn_215 : decode cX11_goesOn 215 = .ok (.invokevirtual 116, 3) := by decide +kernel
theorem dX11_goesOn_218 : decode cX11_goesOn 218 = .ok (.iadd, 1) := by decide +kernel
theorem dX11_goesOn_219 : decode cX11_goesOn 219 = .ok (.bipush 48, 2) := by decide +kernel
theorem dX11_goesOn_221 : decode cX11_goesOn 221 = .ok (.isub, 1) := by decide +kernel
theorem dX11_goesOn_222 : decode cX11_goesOn 222 = .ok (.putfield 139, 3) := by decide +kernel
theorem dX11_goesOn_225 : decode cX11_goesOn 225 = .ok (.iinc 2 1, 3) := by decide +kernel
theorem dX11_goesOn_228 : decode cX11_goesOn 228 = .ok (.aload_n 0, 1) := by decide +kernel
theorem dX11_goesOn_229 : decode cX11_goesOn 229 = .ok (.dup, 1) := by decide +kernel
theorem dX11_goesOn_230 : decode cX11_goesOn 230 = .ok (.getfield 113, 3) := by decide +kernel
theorem dX11_goesOn_233 : decode cX11_goesOn 233 = .ok (.iconst 1, 1) := by decide +kernel
theorem dX11_goesOn_234 : decode cX11_goesOn 234 = .ok (.iadd, 1) := by decide +kernel
theorem dX11_goesOn_235 : decode cX11_goesOn 235 = .ok (.putfield 113, 3) := by decide +kernel
theorem dX11_goesOn_238 : decode cX11_goesOn 238 = .ok (.goto (-55), 3) := by decide +kernel
theorem dX11_goesOn_241 : decode cX11_goesOn 241 = .ok (.iload_n 2, 1) := by decide +kernel
theorem dX11_goesOn_242 : decode cX11_goesOn 242 = .ok (.iconst 2, 1) := by decide +kernel
theorem dX11_goesOn_243 : decode cX11_goesOn 243 = .ok (.if_icmp .gt 43, 3) := by decide +kernel
theorem dX11_goesOn_246 : decode cX11_goesOn 246 = .ok (.aload_n 0, 1) := by decide +kernel
theorem dX11_goesOn_247 : decode cX11_goesOn 247 = .ok (.iconst 3, 1) := by decide +kernel
theorem dX11_goesOn_248 : decode cX11_goesOn 248 = .ok (.putfield 110, 3) := by decide +kernel
theorem dX11_goesOn_251 : decode cX11_goesOn 251 = .ok (.goto 35, 3) := by decide +kernel
theorem dX11_goesOn_254 : decode cX11_goesOn 254 = .ok (.iload_n 1, 1) := by decide +kernel
theorem dX11_goesOn_255 : decode cX11_goesOn 255 = .ok (.bipush 59, 2) := by decide +kernel
theorem dX11_goesOn_257 : decode cX11_goesOn 257 = .ok (.if_icmp .eq 9, 3) := by decide +kernel
theorem dX11_goesOn_260 : decode cX11_goesOn 260 = .ok (.iload_n 1, 1) := by decide +kernel
theorem dX11_goesOn_261 : decode cX11_goesOn 261 = .ok (.bipush 44, 2) := by decide +kernel
theorem dX11_goesOn_263 : decode cX11_goesOn 263 = .ok (.if_icmp .ne 23, 3) := by decide +kernel
theorem dX11_goesOn_266 : decode cX11_goesOn 266 = .ok (.aload_n 0, 1) := by decide +kernel
theorem dX11_goesOn_267 : decode cX11_goesOn 267 = .ok (.iconst 4, 1) := by decide +kernel
theorem dX11_goesOn_268 : decode cX11_goesOn 268 = .ok (.putfield 110, 3) := by decide +kernel
theorem dX11_goesOn_271 : decode cX11_goesOn 271 = .ok (.aload_n 0, 1) := by decide +kernel
theorem dX11_goesOn_272 : decode cX11_goesOn 272 = .ok (.iload_n 1, 1) := by decide +kernel
theorem dX11_goesOn_273 : decode cX11_goesOn 273 = .ok (.putfield 122, 3) := by decide +kernel
theorem dX11_goesOn_276 : decode cX11_goesOn 276 = .ok (.aload_n 0, 1) := by decide +kernel
theorem dX11_goesOn_277 : decode cX11_goesOn 277 = .ok (.dup, 1) := by decide +kernel
theorem dX11_goesOn_278 : decode cX11_goesOn 278 = .ok (.getfield 113, 3) := by decide +kernel
theorem dX11_goesOn_281 : decode cX11_goesOn 281 = .ok (.iconst 1, 1) := by decide +kernel
theorem dX11_goesOn_282 : decode cX11_goesOn 282 = .ok (.iadd, 1) := by decide +kernel
theorem dX11_goesOn_283 : decode cX11_goesOn 283 = .ok (.putfield 113, 3) := by decide +kernel
theorem dX11_goesOn_286 : decode cX11_goesOn 286 = .ok (.return_, 1) := by decide +kernel
theorem dX11_flaw_0 : decode cX11_flaw 0 = .ok (.aload_n 0, 1) := by decide +kernel
theorem dX11_flaw_1 : decode cX11_flaw 1 = .ok (.getfield 110, 3) := by decide +kernel
theorem dX11_flaw_4 : decode cX11_flaw 4 = .ok (.iconst 5, 1) := by decide +kernel
theorem dX11_flaw_5 : decode cX11_flaw 5 = .ok (.if_icmp .ne 4, 3) := by decide +kernel
theorem dX11_flaw_8 : decode cX11_flaw 8 = .ok (.return_, 1) := by decide +kernel
theorem dX11_flaw_9 : decode cX11_flaw 9 = .ok (.aload_n 0, 1) := by decide +kernel
theorem dX11_flaw_10 : decode cX11_flaw 10 = .ok (.iload_n 1, 1) := by decide +kernel
theorem dX11_flaw_11 : decode cX11_flaw 11 = .ok (.putfield 142, 3) := by decide +kernel
theorem dX11_flaw_14 : decode cX11_flaw 14 = .ok (.aload_n 0, 1) := by decide +kernel
theorem dX11_flaw_15 : decode cX11_flaw 15 = .ok (.aload_n 0, 1) := by decide +kernel
theorem dX11_flaw_16 : decode cX11_flaw 16 = .ok (.getfield 119, 3) := by decide +kernel
theorem dX11_flaw_19 : decode cX11_flaw 19 = .ok (.putfield 145, 3) := by decide +kernel
theorem dX11_flaw_22 : decode cX11_flaw 22 = .ok (.aload_n 0, 1) := by decide +kernel
theorem dX11_flaw_23 : decode cX11_flaw 23 = .ok (.iconst 5, 1) := by decide +kernel
theorem dX11_flaw_24 : decode cX11_flaw 24 = .ok (.putfield 110, 3) := by decide +kernel
theorem dX11_flaw_27 : decode cX11_flaw 27 = .ok (.return_, 1) := by decide +kernel
theorem dX11_isWord_0 : decode cX11_isWord 0 = .ok (.aload_n 0, 1) := by decide +kernel
theorem dX11_isWord_1 : decode cX11_isWord 1 = .ok (.getfield 110, 3) := by decide +kernel
theorem dX11_isWord_4 : decode cX11_isWord 4 = .ok (.iconst 2, 1) := by decide +kernel
theorem dX11_isWord_5 : decode cX11_isWord 5 = .ok (.if_icmp .ne 19, 3) := by decide +kernel
theorem dX11_isWord_8 : decode cX11_isWord 8 = .ok (.aload_n 0, 1) := by decide +kernel
theorem dX11_isWord_9 : decode cX11_isWord 9 = .ok (.getfield 129, 3) := by decide +kernel
theorem dX11_isWord_12 : decode cX11_isWord 12 = .ok (.aload_n 1, 1) := by decide +kernel
theorem dX11_isWord_13 : decode cX11_isWord 13 = .ok (.invokestatic 148, 3) := by decide +kernel
theorem dX11_isWord_16 : decode cX11_isWord 16 = .ok (.lcmp, 1) := by decide +kernel
theorem dX11_isWord_17 : decode cX11_isWord 17 = .ok (.ifCond .ne 7, 3) := by decide +kernel
theorem dX11_isWord_20 : decode cX11_isWord 20 = .ok (.iconst 1, 1) := by decide +kernel
theorem dX11_isWord_21 : decode cX11_isWord 21 = .ok (.goto 4, 3) := by decide +kernel
theorem dX11_isWord_24 : decode cX11_isWord 24 = .ok (.iconst 0, 1) := by decide +kernel
theorem dX11_isWord_25 : decode cX11_isWord 25 = .ok (.ireturn, 1) := by decide +kernel
theorem dX11_isSign_0 : decode cX11_isSign 0 = .ok (.aload_n 0, 1) := by decide +kernel
theorem dX11_isSign_1 : decode cX11_isSign 1 = .ok (.getfield 110, 3) := by decide +kernel
theorem dX11_isSign_4 : decode cX11_isSign 4 = .ok (.iconst 4, 1) := by decide +kernel
theorem dX11_isSign_5 : decode cX11_isSign 5 = .ok (.if_icmp .ne 15, 3) := by decide +kernel
theorem dX11_isSign_8 : decode cX11_isSign 8 = .ok (.aload_n 0, 1) := by decide +kernel
theorem dX11_isSign_9 : decode cX11_isSign 9 = .ok (.getfield 122, 3) := by decide +kernel
theorem dX11_isSign_12 : decode cX11_isSign 12 = .ok (.iload_n 1, 1) := by decide +kernel
theorem dX11_isSign_13 : decode cX11_isSign 13 = .ok (.if_icmp .ne 7, 3) := by decide +kernel
theorem dX11_isSign_16 : decode cX11_isSign 16 = .ok (.iconst 1, 1) := by decide +kernel
theorem dX11_isSign_17 : decode cX11_isSign 17 = .ok (.goto 4, 3) := by decide +kernel
theorem dX11_isSign_20 : decode cX11_isSign 20 = .ok (.iconst 0, 1) := by decide +kernel
theorem dX11_isSign_21 : decode cX11_isSign 21 = .ok (.ireturn, 1) := by decide +kernel
theorem dX11_eatsSign_0 : decode cX11_eatsSign 0 = .ok (.aload_n 0, 1) := by decide +kernel
theorem dX11_eatsSign_1 : decode cX11_eatsSign 1 = .ok (.iload_n 1, 1) := by decide +kernel
theorem dX11_eatsSign_2 : decode cX11_eatsSign 2 = .ok (.invokevirtual 152, 3) := by decide +kernel
theorem dX11_eatsSign_5 : decode cX11_eatsSign 5 = .ok (.istore_n 2, 1) := by decide +kernel
theorem dX11_eatsSign_6 : decode cX11_eatsSign 6 = .ok (.iload_n 2, 1) := by decide +kernel
theorem dX11_eatsSign_7 : decode cX11_eatsSign 7 = .ok (.ifCond .eq 7, 3) := by decide +kernel
theorem dX11_eatsSign_10 : decode cX11_eatsSign 10 = .ok (.aload_n 0, 1) := by decide +kernel
theorem dX11_eatsSign_11 : decode cX11_eatsSign 11 = .ok (.invokevirtual 155, 3) := by decide +kernel
theorem dX11_eatsSign_14 : decode cX11_eatsSign 14 = .ok (.iload_n 2, 1) := by decide +kernel
theorem dX11_eatsSign_15 : decode cX11_eatsSign 15 = .ok (.ireturn, 1) := by decide +kernel
theorem dX11_needs_0 : decode cX11_needs 0 = .ok (.aload_n 0, 1) := by decide +kernel
theorem dX11_needs_1 : decode cX11_needs 1 = .ok (.aload_n 1, 1) := by decide +kernel
theorem dX11_needs_2 : decode cX11_needs 2 = .ok (.invokevirtual 158, 3) := by decide +kernel
theorem dX11_needs_5 : decode cX11_needs 5 = .ok (.ifCond .ne 8, 3) := by decide +kernel
theorem dX11_needs_8 : decode cX11_needs 8 = .ok (.aload_n 0, 1) := by decide +kernel
theorem dX11_needs_9 : decode cX11_needs 9 = .ok (.iconst 1, 1) := by decide +kernel
theorem dX11_needs_10 : decode cX11_needs 10 = .ok (.invokevirtual 162, 3) := by decide +kernel
theorem dX11_needs_13 : decode cX11_needs 13 = .ok (.aload_n 0, 1) := by decide +kernel
theorem dX11_needs_14 : decode cX11_needs 14 = .ok (.invokevirtual 155, 3) := by decide +kernel
theorem dX11_needs_17 : decode cX11_needs 17 = .ok (.return_, 1) := by decide +kernel
theorem dX11_readWhole_0 : decode cX11_readWhole 0 = .ok (.aload_n 0, 1) := by decide +kernel
theorem dX11_readWhole_1 : decode cX11_readWhole 1 = .ok (.getfield 110, 3) := by decide +kernel
theorem dX11_readWhole_4 : decode cX11_readWhole 4 = .ok (.iconst 3, 1) := by decide +kernel
theorem dX11_readWhole_5 : decode cX11_readWhole 5 = .ok (.if_icmp .eq 11, 3) := by decide +kernel
theorem dX11_readWhole_8 : decode cX11_readWhole 8 = .ok (.aload_n 0, 1) := by decide +kernel
theorem dX11_readWhole_9 : decode cX11_readWhole 9 = .ok (.iconst 1, 1) := by decide +kernel
theorem dX11_readWhole_10 : decode cX11_readWhole 10 = .ok (.invokevirtual 162, 3) := by decide +kernel
theorem dX11_readWhole_13 : decode cX11_readWhole 13 = .ok (.goto 20, 3) := by decide +kernel
theorem dX11_readWhole_16 : decode cX11_readWhole 16 = .ok (.aload_n 0, 1) := by decide +kernel
theorem dX11_readWhole_17 : decode cX11_readWhole 17 = .ok (.getfield 139, 3) := by decide +kernel
theorem dX11_readWhole_20 : decode cX11_readWhole 20 = .ok (.iload_n 1, 1) := by decide +kernel
theorem dX11_readWhole_21 : decode cX11_readWhole 21 = .ok (.iload_n 2, 1) := by decide +kernel
theorem dX11_readWhole_22 : decode cX11_readWhole 22 = .ok (.invokestatic 166, 3) := by decide +kernel
theorem dX11_readWhole_25 : decode cX11_readWhole 25 = .ok (.ifCond .ne 8, 3) := by decide +kernel
theorem dX11_readWhole_28 : decode cX11_readWhole 28 = .ok (.aload_n 0, 1) := by decide +kernel
theorem dX11_readWhole_29 : decode cX11_readWhole 29 = .ok (.iconst 4, 1) := by decide +kernel
theorem dX11_readWhole_30 : decode cX11_readWhole 30 = .ok (.invokevirtual 162, 3) := by decide +kernel
theorem dX11_readWhole_33 : decode cX11_readWhole 33 = .ok (.aload_n 0, 1) := by decide +kernel
theorem dX11_readWhole_34 : decode cX11_readWhole 34 = .ok (.getfield 110, 3) := by decide +kernel
theorem dX11_readWhole_37 : decode cX11_readWhole 37 = .ok (.iconst 5, 1) := by decide +kernel
theorem dX11_readWhole_38 : decode cX11_readWhole 38 = .ok (.if_icmp .ne 7, 3) := by decide +kernel
theorem dX11_readWhole_41 : decode cX11_readWhole 41 = .ok (.iload_n 1, 1) := by decide +kernel
theorem dX11_readWhole_42 : decode cX11_readWhole 42 = .ok (.goto 7, 3) := by decide +kernel
theorem dX11_readWhole_45 : decode cX11_readWhole 45 = .ok (.aload_n 0, 1) := by decide +kernel
theorem dX11_readWhole_46 : decode cX11_readWhole 46 = .ok (.getfield 139, 3) := by decide +kernel
theorem dX11_readWhole_49 : decode cX11_readWhole 49 = .ok (.istore_n 3, 1) := by decide +kernel
theorem dX11_readWhole_50 : decode cX11_readWhole 50 = .ok (.aload_n 0, 1) := by decide +kernel
theorem dX11_readWhole_51 : decode cX11_readWhole 51 = .ok (.invokevirtual 155, 3) := by decide +kernel
theorem dX11_readWhole_54 : decode cX11_readWhole 54 = .ok (.iload_n 3, 1) := by decide +kernel
theorem dX11_readWhole_55 : decode cX11_readWhole 55 = .ok (.ireturn, 1) := by decide +kernel
theorem dX11_readPart_0 : decode cX11_readPart 0 = .ok (.aload_n 0, 1) := by decide +kernel
theorem dX11_readPart_1 : decode cX11_readPart 1 = .ok (.aload_n 1, 1) := by decide +kernel
theorem dX11_readPart_2 : decode cX11_readPart 2 = .ok (.invokevirtual 170, 3) := by decide +kernel
theorem dX11_readPart_5 : decode cX11_readPart 5 = .ok (.aload_n 0, 1) := by decide +kernel
theorem dX11_readPart_6 : decode cX11_readPart 6 = .ok (.iload_n 2, 1) := by decide +kernel
theorem dX11_readPart_7 : decode cX11_readPart 7 = .ok (.iload_n 3, 1) := by decide +kernel
theorem dX11_readPart_8 : decode cX11_readPart 8 = .ok (.invokevirtual 174, 3) := by decide +kernel
theorem dX11_readPart_11 : decode cX11_readPart 11 = .ok (.ireturn, 1) := by decide +kernel
theorem dX11_isName_0 : decode cX11_isName 0 = .ok (.aload_n 0, 1) := by decide +kernel
theorem dX11_isName_1 : decode cX11_isName 1 = .ok (.getfield 110, 3) := by decide +kernel
theorem dX11_isName_4 : decode cX11_isName 4 = .ok (.iconst 2, 1) := by decide +kernel
theorem dX11_isName_5 : decode cX11_isName 5 = .ok (.if_icmp .ne 30, 3) := by decide +kernel
theorem dX11_isName_8 : decode cX11_isName 8 = .ok (.aload_n 0, 1) := by decide +kernel
theorem dX11_isName_9 : decode cX11_isName 9 = .ok (.ldc 178, 2) := by decide +kernel
theorem dX11_isName_11 : decode cX11_isName 11 = .ok (.invokevirtual 158, 3) := by decide +kernel
theorem dX11_isName_14 : decode cX11_isName 14 = .ok (.ifCond .ne 21, 3) := by decide +kernel
theorem dX11_isName_17 : decode cX11_isName 17 = .ok (.aload_n 0, 1) := by decide +kernel
theorem dX11_isName_18 : decode cX11_isName 18 = .ok (.ldc 180, 2) := by decide +kernel
theorem dX11_isName_20 : decode cX11_isName 20 = .ok (.invokevirtual 158, 3) := by decide +kernel
theorem dX11_isName_23 : decode cX11_isName 23 = .ok (.ifCond .ne 12, 3) := by decide +kernel
theorem dX11_isName_26 : decode cX11_isName 26 = .ok (.aload_n 0, 1) := by decide +kernel
theorem dX11_isName_27 : decode cX11_isName 27 = .ok (.ldc 182, 2) := by decide +kernel
theorem dX11_isName_29 : decode cX11_isName 29 = .ok (.invokevirtual 158, 3) := by decide +kernel
theorem dX11_isName_32 : decode cX11_isName 32 = .ok (.ifCond .eq 5, 3) := by decide +kernel
theorem dX11_isName_35 : decode cX11_isName 35 = .ok (.iconst 0, 1) := by decide +kernel
theorem dX11_isName_36 : decode cX11_isName 36 = .ok (.ireturn, 1) := by decide +kernel
theorem dX11_isName_37 : decode cX11_isName 37 = .ok (.aload_n 0, 1) := by decide +kernel
theorem dX11_isName_38 : decode cX11_isName 38 = .ok (.ldc 184, 2) := by decide +kernel
theorem dX11_isName_40 : decode cX11_isName 40 = .ok (.invokevirtual 158, 3) := by decide +kernel
theorem dX11_isName_43 : decode cX11_isName 43 = .ok (.ifCond .ne 25, 3) := by decide +kernel
theorem dX11_isName_46 : decode cX11_isName 46 = .ok (.aload_n 0, 1) := by decide +kernel
theorem dX11_isName_47 : decode cX11_isName 47 = .ok (.ldc 186, 2) := by decide +kernel
theorem dX11_isName_49 : decode cX11_isName 49 = .ok (.invokevirtual 158, 3) := by decide +kernel
theorem dX11_isName_52 : decode cX11_isName 52 = .ok (.ifCond .ne 16, 3) := by decide +kernel
theorem dX11_isName_55 : decode cX11_isName 55 = .ok (.aload_n 0, 1) := by decide +kernel
theorem dX11_isName_56 : decode cX11_isName 56 = .ok (.ldc 188, 2) := by decide +kernel
theorem dX11_isName_58 : decode cX11_isName 58 = .ok (.invokevirtual 158, 3) := by decide +kernel
theorem dX11_isName_61 : decode cX11_isName 61 = .ok (.ifCond .ne 7, 3) := by decide +kernel
theorem dX11_isName_64 : decode cX11_isName 64 = .ok (.iconst 1, 1) := by decide +kernel
theorem dX11_isName_65 : decode cX11_isName 65 = .ok (.goto 4, 3) := by decide +kernel
theorem dX11_isName_68 : decode cX11_isName 68 = .ok (.iconst 0, 1) := by decide +kernel
theorem dX11_isName_69 : decode cX11_isName 69 = .ok (.ireturn, 1) := by decide +kernel
theorem dX11_begins_0 : decode cX11_begins 0 = .ok (.iload_n 1, 1) := by decide +kernel
theorem dX11_begins_1 : decode cX11_begins 1 = .ok (.iload_n 2, 1) := by decide +kernel
theorem dX11_begins_2 : decode cX11_begins 2 = .ok (.if_icmp .ne 8, 3) := by decide +kernel
theorem dX11_begins_5 : decode cX11_begins 5 = .ok (.aload_n 0, 1) := by decide +kernel
theorem dX11_begins_6 : decode cX11_begins 6 = .ok (.iconst 5, 1) := by decide +kernel
theorem dX11_begins_7 : decode cX11_begins 7 = .ok (.invokevirtual 162, 3) := by decide +kernel
theorem dX11_begins_10 : decode cX11_begins 10 = .ok (.aload_n 0, 1) := by decide +kernel
theorem dX11_begins_11 : decode cX11_begins 11 = .ok (.getfield 190, 3) := by decide +kernel
theorem dX11_begins_14 : decode cX11_begins 14 = .ok (.getfield 194, 3) := by decide +kernel
theorem dX11_begins_17 : decode cX11_begins 17 = .ok (.ifCond .ne 9, 3) := by decide +kernel
theorem dX11_begins_20 : decode cX11_begins 20 = .ok (.aload_n 0, 1) := by decide +kernel
theorem dX11_begins_21 : decode cX11_begins 21 = .ok (.bipush 6, 2) := by decide +kernel
theorem dX11_begins_23 : decode cX11_begins 23 = .ok (.invokevirtual 162, 3) := by decide +kernel
theorem dX11_begins_26 : decode cX11_begins 26 = .ok (.aload_n 0, 1) := by decide +kernel
theorem dX11_begins_27 : decode cX11_begins 27 = .ok (.invokevirtual 155, 3) := by decide +kernel
theorem dX11_begins_30 : decode cX11_begins 30 = .ok (.return_, 1) := by decide +kernel
theorem dX11_knownTown_0 : decode cX11_knownTown 0 = .ok (.aload_n 0, 1) := by decide +kernel
theorem dX11_knownTown_1 : decode cX11_knownTown 1 = .ok (.invokevirtual 199, 3) := by decide +kernel
theorem dX11_knownTown_4 : decode cX11_knownTown 4 = .ok (.ifCond .ne 8, 3) := by decide +kernel
theorem dX11_knownTown_7 : decode cX11_knownTown 7 = .ok (.aload_n 0, 1) := by decide +kernel
theorem dX11_knownTown_8 : decode cX11_knownTown 8 = .ok (.iconst 1, 1) := by decide +kernel
theorem dX11_knownTown_9 : decode cX11_knownTown 9 = .ok (.invokevirtual 162, 3) := by decide +kernel
theorem dX11_knownTown_12 : decode cX11_knownTown 12 = .ok (.aload_n 0, 1) := by decide +kernel
theorem dX11_knownTown_13 : decode cX11_knownTown 13 = .ok (.getfield 190, 3) := by decide +kernel
theorem dX11_knownTown_16 : decode cX11_knownTown 16 = .ok (.aload_n 0, 1) := by decide +kernel
theorem dX11_knownTown_17 : decode cX11_knownTown 17 = .ok (.getfield 129, 3) := by decide +kernel
theorem dX11_knownTown_20 : decode cX11_knownTown 20 = .ok (.invokevirtual 203, 3) := by decide +kernel
theorem dX11_knownTown_23 : decode cX11_knownTown 23 = .ok (.istore_n 1, 1) := by decide +kernel
theorem dX11_knownTown_24 : decode cX11_knownTown 24 = .ok (.iload_n 1, 1) := by decide +kernel
theorem dX11_knownTown_25 : decode cX11_knownTown 25 = .ok (.iconst (-1), 1) := by decide +kernel
theorem dX11_knownTown_26 : decode cX11_knownTown 26 = .ok (.if_icmp .ne 8, 3) := by decide +kernel
theorem dX11_knownTown_29 : decode cX11_knownTown 29 = .ok (.aload_n 0, 1) := by decide +kernel
theorem dX11_knownTown_30 : decode cX11_knownTown 30 = .ok (.iconst 2, 1) := by decide +kernel
theorem dX11_knownTown_31 : decode cX11_knownTown 31 = .ok (.invokevirtual 162, 3) := by decide +kernel
theorem dX11_knownTown_34 : decode cX11_knownTown 34 = .ok (.aload_n 0, 1) := by decide +kernel
theorem dX11_knownTown_35 : decode cX11_knownTown 35 = .ok (.getfield 110, 3) := by decide +kernel
theorem dX11_knownTown_38 : decode cX11_knownTown 38 = .ok (.iconst 5, 1) := by decide +kernel
theorem dX11_knownTown_39 : decode cX11_knownTown 39 = .ok (.if_icmp .ne 7, 3) := by decide +kernel
theorem dX11_knownTown_42 : decode cX11_knownTown 42 = .ok (.iconst 0, 1) := by decide +kernel
theorem dX11_knownTown_43 : decode cX11_knownTown 43 = .ok (.goto 4, 3) := by decide +kernel
theorem dX11_knownTown_46 : decode cX11_knownTown 46 = .ok (.iload_n 1, 1) := by decide +kernel
theorem dX11_knownTown_47 : decode cX11_knownTown 47 = .ok (.ireturn, 1) := by decide +kernel
theorem dX11_readTown_0 : decode cX11_readTown 0 = .ok (.aload_n 0, 1) := by decide +kernel
theorem dX11_readTown_1 : decode cX11_readTown 1 = .ok (.invokevirtual 207, 3) := by decide +kernel
theorem dX11_readTown_4 : decode cX11_readTown 4 = .ok (.istore_n 1, 1) := by decide +kernel
theorem dX11_readTown_5 : decode cX11_readTown 5 = .ok (.aload_n 0, 1) := by decide +kernel
theorem dX11_readTown_6 : decode cX11_readTown 6 = .ok (.invokevirtual 155, 3) := by decide +kernel
theorem dX11_readTown_9 : decode cX11_readTown 9 = .ok (.iload_n 1, 1) := by decide +kernel
theorem dX11_readTown_10 : decode cX11_readTown 10 = .ok (.ireturn, 1) := by decide +kernel
theorem dX11_markAt_0 : decode cX11_markAt 0 = .ok (.aload_n 0, 1) := by decide +kernel
theorem dX11_markAt_1 : decode cX11_markAt 1 = .ok (.getfield 129, 3) := by decide +kernel
theorem dX11_markAt_4 : decode cX11_markAt 4 = .ok (.iconst 5, 1) := by decide +kernel
theorem dX11_markAt_5 : decode cX11_markAt 5 = .ok (.aload_n 0, 1) := by decide +kernel
theorem dX11_markAt_6 : decode cX11_markAt 6 = .ok (.getfield 133, 3) := by decide +kernel
theorem dX11_markAt_9 : decode cX11_markAt 9 = .ok (.iconst 1, 1) := by decide +kernel
theorem dX11_markAt_10 : decode cX11_markAt 10 = .ok (.isub, 1) := by decide +kernel
theorem dX11_markAt_11 : decode cX11_markAt 11 = .ok (.iload_n 1, 1) := by decide +kernel
theorem dX11_markAt_12 : decode cX11_markAt 12 = .ok (.isub, 1) := by decide +kernel
theorem dX11_markAt_13 : decode cX11_markAt 13 = .ok (.imul, 1) := by decide +kernel
theorem dX11_markAt_14 : decode cX11_markAt 14 = .ok (.lshr, 1) := by decide +kernel
theorem dX11_markAt_15 : decode cX11_markAt 15 = .ok (.ldc2_w 210, 3) := by decide +kernel
theorem dX11_markAt_18 : decode cX11_markAt 18 = .ok (.land, 1) := by decide +kernel
theorem dX11_markAt_19 : decode cX11_markAt 19 = .ok (.l2i, 1) := by decide +kernel
theorem dX11_markAt_20 : decode cX11_markAt 20 = .ok (.iconst 1, 1) := by decide +kernel
theorem dX11_markAt_21 : decode cX11_markAt 21 = .ok (.isub, 1) := by decide +kernel
theorem dX11_markAt_22 : decode cX11_markAt 22 = .ok (.ireturn, 1) := by decide +kernel
theorem dX11_checksMarks_0 : decode cX11_checksMarks 0 = .ok (.aload_n 0, 1) := by decide +kernel
theorem dX11_checksMarks_1 : decode cX11_checksMarks 1 = .ok (.getfield 110, 3) := by decide +kernel
theorem dX11_checksMarks_4 : decode cX11_checksMarks 4 = .ok (.iconst 2, 1) := by decide +kernel
theorem dX11_checksMarks_5 : decode cX11_checksMarks 5 = .ok (.if_icmp .eq 8, 3) := by decide +kernel
theorem dX11_checksMarks_8 : decode cX11_checksMarks 8 = .ok (.aload_n 0, 1) := by decide +kernel
theorem dX11_checksMarks_9 : decode cX11_checksMarks 9 = .ok (.iconst 1, 1) := by decide +kernel
theorem dX11_checksMarks_10 : decode cX11_checksMarks 10 = .ok (.invokevirtual 162, 3) := by decide +kernel
theorem dX11_checksMarks_13 : decode cX11_checksMarks 13 = .ok (.aload_n 0, 1) := by decide +kernel
theorem dX11_checksMarks_14 : decode cX11_checksMarks 14 = .ok (.getfield 133, 3) := by decide +kernel
theorem dX11_checksMarks_17 : decode cX11_checksMarks 17 = .ok (.iload_n 1, 1) := by decide +kernel
theorem dX11_checksMarks_18 : decode cX11_checksMarks 18 = .ok (.if_icmp .ne 7, 3) := by decide +kernel
theorem dX11_checksMarks_21 : decode cX11_checksMarks 21 = .ok (.iconst 1, 1) := by decide +kernel
theorem dX11_checksMarks_22 : decode cX11_checksMarks 22 = .ok (.goto 4, 3) := by decide +kernel
theorem dX11_checksMarks_25 : decode cX11_checksMarks 25 = .ok (.iconst 0, 1) := by decide +kernel
theorem dX11_checksMarks_26 : decode cX11_checksMarks 26 = .ok (.istore_n 2, 1) := by decide +kernel
theorem dX11_checksMarks_27 : decode cX11_checksMarks 27 = .ok (.iconst 0, 1) := by decide +kernel
theorem dX11_checksMarks_28 : decode cX11_checksMarks 28 = .ok (.istore_n 3, 1) := by decide +kernel
theorem dX11_checksMarks_29 : decode cX11_checksMarks 29 = .ok (.iload_n 3, 1) := by decide +kernel
theorem dX11_checksMarks_30 : decode cX11_checksMarks 30 = .ok (.aload_n 0, 1) := by decide +kernel
theorem dX11_checksMarks_31 : decode cX11_checksMarks 31 = .ok (.getfield 133, 3) := by decide +kernel
theorem dX11_checksMarks_34 : decode cX11_checksMarks 34 = .ok (.if_icmp .ge 34, 3) := by decide +kernel
theorem dX11_checksMarks_37 : decode cX11_checksMarks 37 = .ok (.iload_n 2, 1) := by decide +kernel
theorem dX11_checksMarks_38 : decode cX11_checksMarks 38 = .ok (.ifCond .eq 30, 3) := by decide +kernel
theorem dX11_checksMarks_41 : decode cX11_checksMarks 41 = .ok (.aload_n 0, 1) := by decide +kernel
theorem dX11_checksMarks_42 : decode cX11_checksMarks 42 = .ok (.iload_n 3, 1) := by decide +kernel
theorem dX11_checksMarks_43 : decode cX11_checksMarks 43 = .ok (.invokevirtual 212, 3) := by decide +kernel
theorem dX11_checksMarks_46 : decode cX11_checksMarks 46 = .ok (.aload_n 0, 1) := by decide +kernel
theorem dX11_checksMarks_47 : decode cX11_checksMarks 47 = .ok (.getfield 190, 3) := by decide +kernel
theorem dX11_checksMarks_50 : decode cX11_checksMarks 50 = .ok (.getfield 215, 3) := by decide +kernel
theorem dX11_checksMarks_53 : decode cX11_checksMarks 53 = .ok (.if_icmp .ge 7, 3) := by decide +kernel
theorem dX11_checksMarks_56 : decode cX11_checksMarks 56 = .ok (.iconst 1, 1) := by decide +kernel
theorem dX11_checksMarks_57 : decode cX11_checksMarks 57 = .ok (.goto 4, 3) := by decide +kernel
theorem dX11_checksMarks_60 : decode cX11_checksMarks 60 = .ok (.iconst 0, 1) := by decide +kernel
theorem dX11_checksMarks_61 : decode cX11_checksMarks 61 = .ok (.istore_n 2, 1) := by decide +kernel
theorem dX11_checksMarks_62 : decode cX11_checksMarks 62 = .ok (.iinc 3 1, 3) := by decide +kernel
theorem dX11_checksMarks_65 : decode cX11_checksMarks 65 = .ok (.goto (-36), 3) := by decide +kernel
theorem dX11_checksMarks_68 : decode cX11_checksMarks 68 = .ok (.iload_n 2, 1) := by decide +kernel
theorem dX11_checksMarks_69 : decode cX11_checksMarks 69 = .ok (.ifCond .ne 9, 3) := by decide +kernel
theorem dX11_checksMarks_72 : decode cX11_checksMarks 72 = .ok (.aload_n 0, 1) := by decide +kernel
theorem dX11_checksMarks_73 : decode cX11_checksMarks 73 = .ok (.bipush 7, 2) := by decide +kernel
theorem dX11_checksMarks_75 : decode cX11_checksMarks 75 = .ok (.invokevirtual 162, 3) := by decide +kernel
theorem dX11_checksMarks_78 : decode cX11_checksMarks 78 = .ok (.return_, 1) := by decide +kernel
theorem dX11_knownMark_0 : decode cX11_knownMark 0 = .ok (.aload_n 0, 1) := by decide +kernel
theorem dX11_knownMark_1 : decode cX11_knownMark 1 = .ok (.iconst 1, 1) := by decide +kernel
theorem dX11_knownMark_2 : decode cX11_knownMark 2 = .ok (.invokevirtual 218, 3) := by decide +kernel
theorem dX11_knownMark_5 : decode cX11_knownMark 5 = .ok (.aload_n 0, 1) := by decide +kernel
theorem dX11_knownMark_6 : decode cX11_knownMark 6 = .ok (.getfield 110, 3) := by decide +kernel
theorem dX11_knownMark_9 : decode cX11_knownMark 9 = .ok (.iconst 5, 1) := by decide +kernel
theorem dX11_knownMark_10 : decode cX11_knownMark 10 = .ok (.if_icmp .ne 7, 3) := by decide +kernel
theorem dX11_knownMark_13 : decode cX11_knownMark 13 = .ok (.iconst 0, 1) := by decide +kernel
theorem dX11_knownMark_14 : decode cX11_knownMark 14 = .ok (.goto 8, 3) := by decide +kernel
theorem dX11_knownMark_17 : decode cX11_knownMark 17 = .ok (.aload_n 0, 1) := by decide +kernel
theorem dX11_knownMark_18 : decode cX11_knownMark 18 = .ok (.iconst 0, 1) := by decide +kernel
theorem dX11_knownMark_19 : decode cX11_knownMark 19 = .ok (.invokevirtual 212, 3) := by decide +kernel
theorem dX11_knownMark_22 : decode cX11_knownMark 22 = .ok (.ireturn, 1) := by decide +kernel
theorem dX11_readMark_0 : decode cX11_readMark 0 = .ok (.aload_n 0, 1) := by decide +kernel
theorem dX11_readMark_1 : decode cX11_readMark 1 = .ok (.invokevirtual 221, 3) := by decide +kernel
theorem dX11_readMark_4 : decode cX11_readMark 4 = .ok (.istore_n 1, 1) := by decide +kernel
theorem dX11_readMark_5 : decode cX11_readMark 5 = .ok (.aload_n 0, 1) := by decide +kernel
theorem dX11_readMark_6 : decode cX11_readMark 6 = .ok (.invokevirtual 155, 3) := by decide +kernel
theorem dX11_readMark_9 : decode cX11_readMark 9 = .ok (.iload_n 1, 1) := by decide +kernel
theorem dX11_readMark_10 : decode cX11_readMark 10 = .ok (.ireturn, 1) := by decide +kernel
theorem dX11_readAll_0 : decode cX11_readAll 0 = .ok (.iconst 1, 1) := by decide +kernel
theorem dX11_readAll_1 : decode cX11_readAll 1 = .ok (.istore_n 1, 1) := by decide +kernel
theorem dX11_readAll_2 : decode cX11_readAll 2 = .ok (.iload_n 1, 1) := by decide +kernel
theorem dX11_readAll_3 : decode cX11_readAll 3 = .ok (.ifCond .eq 17, 3) := by decide +kernel
theorem dX11_readAll_6 : decode cX11_readAll 6 = .ok (.aload_n 0, 1) := by decide +kernel
theorem dX11_readAll_7 : decode cX11_readAll 7 = .ok (.invokevirtual 224, 3) := by decide +kernel
theorem dX11_readAll_10 : decode cX11_readAll 10 = .ok (.aload_n 0, 1) := by decide +kernel
theorem dX11_readAll_11 : decode cX11_readAll 11 = .ok (.bipush 59, 2) := by decide +kernel
theorem dX11_readAll_13 : decode cX11_readAll 13 = .ok (.invokevirtual 227, 3) := by decide +kernel
theorem dX11_readAll_16 : decode cX11_readAll 16 = .ok (.istore_n 1, 1) := by decide +kernel
theorem dX11_readAll_17 : decode cX11_readAll 17 = .ok (.goto (-15), 3) := by decide +kernel
theorem dX11_readAll_20 : decode cX11_readAll 20 = .ok (.aload_n 0, 1) := by decide +kernel
theorem dX11_readAll_21 : decode cX11_readAll 21 = .ok (.getfield 110, 3) := by decide +kernel
theorem dX11_readAll_24 : decode cX11_readAll 24 = .ok (.iconst 1, 1) := by decide +kernel
theorem dX11_readAll_25 : decode cX11_readAll 25 = .ok (.if_icmp .eq 8, 3) := by decide +kernel
theorem dX11_readAll_28 : decode cX11_readAll 28 = .ok (.aload_n 0, 1) := by decide +kernel
theorem dX11_readAll_29 : decode cX11_readAll 29 = .ok (.iconst 1, 1) := by decide +kernel
theorem dX11_readAll_30 : decode cX11_readAll 30 = .ok (.invokevirtual 162, 3) := by decide +kernel
theorem dX11_readAll_33 : decode cX11_readAll 33 = .ok (.aload_n 0, 1) := by decide +kernel
theorem dX11_readAll_34 : decode cX11_readAll 34 = .ok (.getfield 190, 3) := by decide +kernel
theorem dX11_readAll_37 : decode cX11_readAll 37 = .ok (.getfield 230, 3) := by decide +kernel
theorem dX11_readAll_40 : decode cX11_readAll 40 = .ok (.ifCond .ne 9, 3) := by decide +kernel
theorem dX11_readAll_43 : decode cX11_readAll 43 = .ok (.aload_n 0, 1) := by decide +kernel
theorem dX11_readAll_44 : decode cX11_readAll 44 = .ok (.bipush 6, 2) := by decide +kernel
theorem dX11_readAll_46 : decode cX11_readAll 46 = .ok (.invokevirtual 162, 3) := by decide +kernel
theorem dX11_readAll_49 : decode cX11_readAll 49 = .ok (.return_, 1) := by decide +kernel
theorem dX11_readLine_0 : decode cX11_readLine 0 = .ok (.aload_n 0, 1) := by decide +kernel
theorem dX11_readLine_1 : decode cX11_readLine 1 = .ok (.ldc 178, 2) := by decide +kernel
theorem dX11_readLine_3 : decode cX11_readLine 3 = .ok (.invokevirtual 158, 3) := by decide +kernel
theorem dX11_readLine_6 : decode cX11_readLine 6 = .ok (.ifCond .eq 10, 3) := by decide +kernel
theorem dX11_readLine_9 : decode cX11_readLine 9 = .ok (.aload_n 0, 1) := by decide +kernel
theorem dX11_readLine_10 : decode cX11_readLine 10 = .ok (.invokevirtual 233, 3) := by decide +kernel
theorem dX11_readLine_13 : decode cX11_readLine 13 = .ok (.goto 72, 3) := by decide +kernel
theorem dX11_readLine_16 : decode cX11_readLine 16 = .ok (.aload_n 0, 1) := by decide +kernel
theorem dX11_readLine_17 : decode cX11_readLine 17 = .ok (.ldc 180, 2) := by decide +kernel
theorem dX11_readLine_19 : decode cX11_readLine 19 = .ok (.invokevirtual 158, 3) := by decide +kernel
theorem dX11_readLine_22 : decode cX11_readLine 22 = .ok (.ifCond .eq 10, 3) := by decide +kernel
theorem dX11_readLine_25 : decode cX11_readLine 25 = .ok (.aload_n 0, 1) := by decide +kernel
theorem dX11_readLine_26 : decode cX11_readLine 26 = .ok (.invokevirtual 236, 3) := by decide +kernel
theorem dX11_readLine_29 : decode cX11_readLine 29 = .ok (.goto 56, 3) := by decide +kernel
theorem dX11_readLine_32 : decode cX11_readLine 32 = .ok (.aload_n 0, 1) := by decide +kernel
theorem dX11_readLine_33 : decode cX11_readLine 33 = .ok (.ldc 182, 2) := by decide +kernel
theorem dX11_readLine_35 : decode cX11_readLine 35 = .ok (.invokevirtual 158, 3) := by decide +kernel
theorem dX11_readLine_38 : decode cX11_readLine 38 = .ok (.ifCond .eq 10, 3) := by decide +kernel
theorem dX11_readLine_41 : decode cX11_readLine 41 = .ok (.aload_n 0, 1) := by decide +kernel
theorem dX11_readLine_42 : decode cX11_readLine 42 = .ok (.invokevirtual 239, 3) := by decide +kernel
theorem dX11_readLine_45 : decode cX11_readLine 45 = .ok (.goto 40, 3) := by decide +kernel
theorem dX11_readLine_48 : decode cX11_readLine 48 = .ok (.aload_n 0, 1) := by decide +kernel
theorem dX11_readLine_49 : decode cX11_readLine 49 = .ok (.ldc 184, 2) := by decide +kernel
theorem dX11_readLine_51 : decode cX11_readLine 51 = .ok (.invokevirtual 158, 3) := by decide +kernel
theorem dX11_readLine_54 : decode cX11_readLine 54 = .ok (.ifCond .eq 10, 3) := by decide +kernel
theorem dX11_readLine_57 : decode cX11_readLine 57 = .ok (.aload_n 0, 1) := by decide +kernel
theorem dX11_readLine_58 : decode cX11_readLine 58 = .ok (.invokevirtual 242, 3) := by decide +kernel
theorem dX11_readLine_61 : decode cX11_readLine 61 = .ok (.goto 24, 3) := by decide +kernel
theorem dX11_readLine_64 : decode cX11_readLine 64 = .ok (.aload_n 0, 1) := by decide +kernel
theorem dX11_readLine_65 : decode cX11_readLine 65 = .ok (.ldc 186, 2) := by decide +kernel
theorem dX11_readLine_67 : decode cX11_readLine 67 = .ok (.invokevirtual 158, 3) := by decide +kernel
theorem dX11_readLine_70 : decode cX11_readLine 70 = .ok (.ifCond .eq 10, 3) := by decide +kernel
theorem dX11_readLine_73 : decode cX11_readLine 73 = .ok (.aload_n 0, 1) := by decide +kernel
theorem dX11_readLine_74 : decode cX11_readLine 74 = .ok (.invokevirtual 245, 3) := by decide +kernel
theorem dX11_readLine_77 : decode cX11_readLine 77 = .ok (.goto 8, 3) := by decide +kernel
theorem dX11_readLine_80 : decode cX11_readLine 80 = .ok (.aload_n 0, 1) := by decide +kernel
theorem dX11_readLine_81 : decode cX11_readLine 81 = .ok (.iconst 1, 1) := by decide +kernel
theorem dX11_readLine_82 : decode cX11_readLine 82 = .ok (.invokevirtual 162, 3) := by decide +kernel
theorem dX11_readLine_85 : decode cX11_readLine 85 = .ok (.return_, 1) := by decide +kernel
theorem dX11_readRing_0 : decode cX11_readRing 0 = .ok (.aload_n 0, 1) := by decide +kernel
theorem dX11_readRing_1 : decode cX11_readRing 1 = .ok (.getfield 190, 3) := by decide +kernel
theorem dX11_readRing_4 : decode cX11_readRing 4 = .ok (.getfield 194, 3) := by decide +kernel
theorem dX11_readRing_7 : decode cX11_readRing 7 = .ok (.ifCond .le 8, 3) := by decide +kernel
theorem dX11_readRing_10 : decode cX11_readRing 10 = .ok (.aload_n 0, 1) := by decide +kernel
theorem dX11_readRing_11 : decode cX11_readRing 11 = .ok (.iconst 3, 1) := by decide +kernel
theorem dX11_readRing_12 : decode cX11_readRing 12 = .ok (.invokevirtual 162, 3) := by decide +kernel
theorem dX11_readRing_15 : decode cX11_readRing 15 = .ok (.aload_n 0, 1) := by decide +kernel
theorem dX11_readRing_16 : decode cX11_readRing 16 = .ok (.invokevirtual 155, 3) := by decide +kernel
theorem dX11_readRing_19 : decode cX11_readRing 19 = .ok (.aload_n 0, 1) := by decide +kernel
theorem dX11_readRing_20 : decode cX11_readRing 20 = .ok (.ldc 248, 2) := by decide +kernel
theorem dX11_readRing_22 : decode cX11_readRing 22 = .ok (.iconst 2, 1) := by decide +kernel
theorem dX11_readRing_23 : decode cX11_readRing 23 = .ok (.bipush 6, 2) := by decide +kernel
theorem dX11_readRing_25 : decode cX11_readRing 25 = .ok (.invokevirtual 249, 3) := by decide +kernel
theorem dX11_readRing_28 : decode cX11_readRing 28 = .ok (.istore_n 1, 1) := by decide +kernel
theorem dX11_readRing_29 : decode cX11_readRing 29 = .ok (.aload_n 0, 1) := by decide +kernel
theorem dX11_readRing_30 : decode cX11_readRing 30 = .ok (.ldc 253, 2) := by decide +kernel
theorem dX11_readRing_32 : decode cX11_readRing 32 = .ok (.iconst 2, 1) := by decide +kernel
theorem dX11_readRing_33 : decode cX11_readRing 33 = .ok (.bipush 6, 2) := by decide +kernel
theorem dX11_readRing_35 : decode cX11_readRing 35 = .ok (.invokevirtual 249, 3) := by decide +kernel
theorem dX11_readRing_38 : decode cX11_readRing 38 = .ok (.istore_n 2, 1) := by decide +kernel
theorem dX11_readRing_39 : decode cX11_readRing 39 = .ok (.aload_n 0, 1) := by decide +kernel
theorem dX11_readRing_40 : decode cX11_readRing 40 = .ok (.ldc 255, 2) := by decide +kernel
theorem dX11_readRing_42 : decode cX11_readRing 42 = .ok (.iconst 2, 1) := by decide +kernel
theorem dX11_readRing_43 : decode cX11_readRing 43 = .ok (.bipush 6, 2) := by decide +kernel
theorem dX11_readRing_45 : decode cX11_readRing 45 = .ok (.invokevirtual 249, 3) := by decide +kernel
theorem dX11_readRing_48 : decode cX11_readRing 48 = .ok (.istore_n 3, 1) := by decide +kernel
theorem dX11_readRing_49 : decode cX11_readRing 49 = .ok (.aload_n 0, 1) := by decide +kernel
theorem dX11_readRing_50 : decode cX11_readRing 50 = .ok (.getfield 110, 3) := by decide +kernel
theorem dX11_readRing_53 : decode cX11_readRing 53 = .ok (.iconst 5, 1) := by decide +kernel
theorem dX11_readRing_54 : decode cX11_readRing 54 = .ok (.if_icmp .ne 4, 3) := by decide +kernel
theorem dX11_readRing_57 : decode cX11_readRing 57 = .ok (.return_, 1) := by decide +kernel
theorem dX11_readRing_58 : decode cX11_readRing 58 = .ok (.aload_n 0, 1) := by decide +kernel
theorem dX11_readRing_59 : decode cX11_readRing 59 = .ok (.getfield 190, 3) := by decide +kernel
theorem dX11_readRing_62 : decode cX11_readRing 62 = .ok (.iload_n 1, 1) := by decide +kernel
theorem dX11_readRing_63 : decode cX11_readRing 63 = .ok (.putfield 194, 3) := by decide +kernel
theorem dX11_readRing_66 : decode cX11_readRing 66 = .ok (.aload_n 0, 1) := by decide +kernel
theorem dX11_readRing_67 : decode cX11_readRing 67 = .ok (.getfield 190, 3) := by decide +kernel
theorem dX11_readRing_70 : decode cX11_readRing 70 = .ok (.iload_n 2, 1) := by decide +kernel
theorem dX11_readRing_71 : decode cX11_readRing 71 = .ok (.putfield 256, 3) := by decide +kernel
theorem dX11_readRing_74 : decode cX11_readRing 74 = .ok (.aload_n 0, 1) := by decide +kernel
theorem dX11_readRing_75 : decode cX11_readRing 75 = .ok (.getfield 190, 3) := by decide +kernel
theorem dX11_readRing_78 : decode cX11_readRing 78 = .ok (.iload_n 3, 1) := by decide +kernel
theorem dX11_readRing_79 : decode cX11_readRing 79 = .ok (.putfield 215, 3) := by decide +kernel
theorem dX11_readRing_82 : decode cX11_readRing 82 = .ok (.return_, 1) := by decide +kernel
theorem dX11_readTownLine_0 : decode cX11_readTownLine 0 = .ok (.aload_n 0, 1) := by decide +kernel
theorem dX11_readTownLine_1 : decode cX11_readTownLine 1 = .ok (.aload_n 0, 1) := by decide +kernel
theorem dX11_readTownLine_2 : decode cX11_readTownLine 2 = .ok (.getfield 190, 3) := by decide +kernel
theorem dX11_readTownLine_5 : decode cX11_readTownLine 5 = .ok (.getfield 230, 3) := by decide +kernel
theorem dX11_readTownLine_8 : decode cX11_readTownLine 8 = .ok (.bipush 6, 2) := by decide +kernel
theorem dX11_readTownLine_10 : decode cX11_readTownLine 10 = .ok (.invokevirtual 258, 3) := by decide +kernel
theorem dX11_readTownLine_13 : decode cX11_readTownLine 13 = .ok (.aload_n 0, 1) := by decide +kernel
theorem dX11_readTownLine_14 : decode cX11_readTownLine 14 = .ok (.invokevirtual 199, 3) := by decide +kernel
theorem dX11_readTownLine_17 : decode cX11_readTownLine 17 = .ok (.ifCond .ne 8, 3) := by decide +kernel
theorem dX11_readTownLine_20 : decode cX11_readTownLine 20 = .ok (.aload_n 0, 1) := by decide +kernel
theorem dX11_readTownLine_21 : decode cX11_readTownLine 21 = .ok (.iconst 1, 1) := by decide +kernel
theorem dX11_readTownLine_22 : decode cX11_readTownLine 22 = .ok (.invokevirtual 162, 3) := by decide +kernel
theorem dX11_readTownLine_25 : decode cX11_readTownLine 25 = .ok (.aload_n 0, 1) := by decide +kernel
theorem dX11_readTownLine_26 : decode cX11_readTownLine 26 = .ok (.getfield 190, 3) := by decide +kernel
theorem dX11_readTownLine_29 : decode cX11_readTownLine 29 = .ok (.aload_n 0, 1) := by decide +kernel
theorem dX11_readTownLine_30 : decode cX11_readTownLine 30 = .ok (.getfield 129, 3) := by decide +kernel
theorem dX11_readTownLine_33 : decode cX11_readTownLine 33 = .ok (.invokevirtual 203, 3) := by decide +kernel
theorem dX11_readTownLine_36 : decode cX11_readTownLine 36 = .ok (.iconst (-1), 1) := by decide +kernel
theorem dX11_readTownLine_37 : decode cX11_readTownLine 37 = .ok (.if_icmp .eq 8, 3) := by decide +kernel
theorem dX11_readTownLine_40 : decode cX11_readTownLine 40 = .ok (.aload_n 0, 1) := by decide +kernel
theorem dX11_readTownLine_41 : decode cX11_readTownLine 41 = .ok (.iconst 3, 1) := by decide +kernel
theorem dX11_readTownLine_42 : decode cX11_readTownLine 42 = .ok (.invokevirtual 162, 3) := by decide +kernel
theorem dX11_readTownLine_45 : decode cX11_readTownLine 45 = .ok (.aload_n 0, 1) := by decide +kernel
theorem dX11_readTownLine_46 : decode cX11_readTownLine 46 = .ok (.getfield 129, 3) := by decide +kernel
theorem dX11_readTownLine_49 : decode cX11_readTownLine 49 = .ok (.lstore_n 1, 1) := by decide +kernel
theorem dX11_readTownLine_50 : decode cX11_readTownLine 50 = .ok (.aload_n 0, 1) := by decide +kernel
theorem dX11_readTownLine_51 : decode cX11_readTownLine 51 = .ok (.invokevirtual 155, 3) := by decide +kernel
theorem dX11_readTownLine_54 : decode cX11_readTownLine 54 = .ok (.iconst 0, 1) := by decide +kernel
theorem dX11_readTownLine_55 : decode cX11_readTownLine 55 = .ok (.istore_n 3, 1) := by decide +kernel
theorem dX11_readTownLine_56 : decode cX11_readTownLine 56 = .ok (.iload_n 3, 1) := by decide +kernel
theorem dX11_readTownLine_57 : decode cX11_readTownLine 57 = .ok (.aload_n 0, 1) := by decide +kernel
theorem dX11_readTownLine_58 : decode cX11_readTownLine 58 = .ok (.getfield 190, 3) := by decide +kernel
theorem dX11_readTownLine_61 : decode cX11_readTownLine 61 = .ok (.getfield 256, 3) := by decide +kernel
theorem dX11_readTownLine_64 : decode cX11_readTownLine 64 = .ok (.if_icmp .ge 132, 3) := by decide +kernel
theorem dX11_readTownLine_67 : decode cX11_readTownLine 67 = .ok (.iload_n 3, 1) := by decide +kernel
theorem dX11_readTownLine_68 : decode cX11_readTownLine 68 = .ok (.ifCond .le 40, 3) := by decide +kernel
theorem dX11_readTownLine_71 : decode cX11_readTownLine 71 = .ok (.aload_n 0, 1) := by decide +kernel
theorem dX11_readTownLine_72 : decode cX11_readTownLine 72 = .ok (.bipush 44, 2) := by decide +kernel
theorem dX11_readTownLine_74 : decode cX11_readTownLine 74 = .ok (.invokevirtual 227, 3) := by decide +kernel
theorem dX11_readTownLine_77 : decode cX11_readTownLine 77 = .ok (.ifCond .ne 31, 3) := by decide +kernel
theorem dX11_readTownLine_80 : decode cX11_readTownLine 80 = .ok (.aload_n 0, 1) := by decide +kernel
theorem dX11_readTownLine_81 : decode cX11_readTownLine 81 = .ok (.aload_n 0, 1) := by decide +kernel
theorem dX11_readTownLine_82 : decode cX11_readTownLine 82 = .ok (.bipush 59, 2) := by decide +kernel
theorem dX11_readTownLine_84 : decode cX11_readTownLine 84 = .ok (.invokevirtual 152, 3) := by decide +kernel
theorem dX11_readTownLine_87 : decode cX11_readTownLine 87 = .ok (.ifCond .ne 11, 3) := by decide +kernel
theorem dX11_readTownLine_90 : decode cX11_readTownLine 90 = .ok (.aload_n 0, 1) := by decide +kernel
theorem dX11_readTownLine_91 : decode cX11_readTownLine 91 = .ok (.getfield 110, 3) := by decide +kernel
theorem dX11_readTownLine_94 : decode cX11_readTownLine 94 = .ok (.iconst 1, 1) := by decide +kernel
theorem dX11_readTownLine_95 : decode cX11_readTownLine 95 = .ok (.if_icmp .ne 8, 3) := by decide +kernel
theorem dX11_readTownLine_98 : decode cX11_readTownLine 98 = .ok (.bipush 6, 2) := by decide +kernel
theorem dX11_readTownLine_100 : decode cX11_readTownLine 100 = .ok (.goto 4, 3) := by decide +kernel
theorem dX11_readTownLine_103 : decode cX11_readTownLine 103 = .ok (.iconst 1, 1) := by decide +kernel
theorem dX11_readTownLine_104 : decode cX11_readTownLine 104 = .ok (.invokevirtual 162, 3) := by decide +kernel
theorem dX11_readTownLine_107 : decode cX11_readTownLine 107 = .ok (.return_, 1) := by decide +kernel
theorem dX11_readTownLine_108 : decode cX11_readTownLine 108 = .ok (.aload_n 0, 1) := by decide +kernel
theorem dX11_readTownLine_109 : decode cX11_readTownLine 109 = .ok (.aload_n 0, 1) := by decide +kernel
theorem dX11_readTownLine_110 : decode cX11_readTownLine 110 = .ok (.getfield 190, 3) := by decide +kernel
theorem dX11_readTownLine_113 : decode cX11_readTownLine 113 = .ok (.getfield 194, 3) := by decide +kernel
theorem dX11_readTownLine_116 : decode cX11_readTownLine 116 = .ok (.invokevirtual 218, 3) := by decide +kernel
theorem dX11_readTownLine_119 : decode cX11_readTownLine 119 = .ok (.aload_n 0, 1) := by decide +kernel
theorem dX11_readTownLine_120 : decode cX11_readTownLine 120 = .ok (.getfield 110, 3) := by decide +kernel
theorem dX11_readTownLine_123 : decode cX11_readTownLine 123 = .ok (.iconst 5, 1) := by decide +kernel
theorem dX11_readTownLine_124 : decode cX11_readTownLine 124 = .ok (.if_icmp .ne 4, 3) := by decide +kernel
theorem dX11_readTownLine_127 : decode cX11_readTownLine 127 = .ok (.return_, 1) := by decide +kernel
theorem dX11_readTownLine_128 : decode cX11_readTownLine 128 = .ok (.iconst 0, 1) := by decide +kernel
theorem dX11_readTownLine_129 : decode cX11_readTownLine 129 = .ok (.istore 4, 2) := by decide +kernel
theorem dX11_readTownLine_131 : decode cX11_readTownLine 131 = .ok (.iload 4, 2) := by decide +kernel
theorem dX11_readTownLine_133 : decode cX11_readTownLine 133 = .ok (.aload_n 0, 1) := by decide +kernel
theorem dX11_readTownLine_134 : decode cX11_readTownLine 134 = .ok (.getfield 190, 3) := by decide +kernel
theorem dX11_readTownLine_137 : decode cX11_readTownLine 137 = .ok (.getfield 194, 3) := by decide +kernel
theorem dX11_readTownLine_140 : decode cX11_readTownLine 140 = .ok (.if_icmp .ge 46, 3) := by decide +kernel
theorem dX11_readTownLine_143 : decode cX11_readTownLine 143 = .ok (.aload_n 0, 1) := by decide +kernel
theorem dX11_readTownLine_144 : decode cX11_readTownLine 144 = .ok (.getfield 190, 3) := by decide +kernel
theorem dX11_readTownLine_147 : decode cX11_readTownLine 147 = .ok (.getfield 262, 3) := by decide +kernel
theorem dX11_readTownLine_150 : decode cX11_readTownLine 150 = .ok (.bipush 36, 2) := by decide +kernel
theorem dX11_readTownLine_152 : decode cX11_readTownLine 152 = .ok (.aload_n 0, 1) := by decide +kernel
theorem dX11_readTownLine_153 : decode cX11_readTownLine 153 = .ok (.getfield 190, 3) := by decide +kernel
theorem dX11_readTownLine_156 : decode cX11_readTownLine 156 = .ok (.getfield 230, 3) := by decide +kernel
theorem dX11_readTownLine_159 : decode cX11_readTownLine 159 = .ok (.imul, 1) := by decide +kernel
theorem dX11_readTownLine_160 : decode cX11_readTownLine 160 = .ok (.iload_n 3, 1) := by decide +kernel
theorem dX11_readTownLine_161 : decode cX11_readTownLine 161 = .ok (.aload_n 0, 1) := by decide +kernel
theorem dX11_readTownLine_162 : decode cX11_readTownLine 162 = .ok (.getfield 190, 3) := by decide +kernel
theorem dX11_readTownLine_165 : decode cX11_readTownLine 165 = .ok (.getfield 194, 3) := by decide +kernel
theorem dX11_readTownLine_168 : decode cX11_readTownLine 168 = .ok (.imul, 1) := by decide +kernel
theorem dX11_readTownLine_169 : decode cX11_readTownLine 169 = .ok (.iadd, 1) := by decide +kernel
theorem dX11_readTownLine_170 : decode cX11_readTownLine 170 = .ok (.iload 4, 2) := by decide +kernel
theorem dX11_readTownLine_172 : decode cX11_readTownLine 172 = .ok (.iadd, 1) := by decide +kernel
theorem dX11_readTownLine_173 : decode cX11_readTownLine 173 = .ok (.aload_n 0, 1) := by decide +kernel
theorem dX11_readTownLine_174 : decode cX11_readTownLine 174 = .ok (.iload 4, 2) := by decide +kernel
theorem dX11_readTownLine_176 : decode cX11_readTownLine 176 = .ok (.invokevirtual 212, 3) := by decide +kernel
theorem dX11_readTownLine_179 : decode cX11_readTownLine 179 = .ok (.iastore, 1) := by decide +kernel
theorem dX11_readTownLine_180 : decode cX11_readTownLine 180 = .ok (.iinc 4 1, 3) := by decide +kernel
theorem dX11_readTownLine_183 : decode cX11_readTownLine 183 = .ok (.goto (-52), 3) := by decide +kernel
theorem dX11_readTownLine_186 : decode cX11_readTownLine 186 = .ok (.aload_n 0, 1) := by decide +kernel
theorem dX11_readTownLine_187 : decode cX11_readTownLine 187 = .ok (.invokevirtual 155, 3) := by decide +kernel
theorem dX11_readTownLine_190 : decode cX11_readTownLine 190 = .ok (.iinc 3 1, 3) := by decide +kernel
theorem dX11_readTownLine_193 : decode cX11_readTownLine 193 = .ok (.goto (-137), 3) := by decide +kernel
theorem dX11_readTownLine_196 : decode cX11_readTownLine 196 = .ok (.aload_n 0, 1) := by decide +kernel
theorem dX11_readTownLine_197 : decode cX11_readTownLine 197 = .ok (.getfield 110, 3) := by decide +kernel
theorem dX11_readTownLine_200 : decode cX11_readTownLine 200 = .ok (.iconst 5, 1) := by decide +kernel
theorem dX11_readTownLine_201 : decode cX11_readTownLine 201 = .ok (.if_icmp .ne 4, 3) := by decide +kernel
theorem dX11_readTownLine_204 : decode cX11_readTownLine 204 = .ok (.return_, 1) := by decide +kernel
theorem dX11_readTownLine_205 : decode cX11_readTownLine 205 = .ok (.aload_n 0, 1) := by decide +kernel
theorem dX11_readTownLine_206 : decode cX11_readTownLine 206 = .ok (.getfield 190, 3) := by decide +kernel
theorem dX11_readTownLine_209 : decode cX11_readTownLine 209 = .ok (.getfield 265, 3) := by decide +kernel
theorem dX11_readTownLine_212 : decode cX11_readTownLine 212 = .ok (.aload_n 0, 1) := by decide +kernel
theorem dX11_readTownLine_213 : decode cX11_readTownLine 213 = .ok (.getfield 190, 3) := by decide +kernel
theorem dX11_readTownLine_216 : decode cX11_readTownLine 216 = .ok (.getfield 230, 3) := by decide +kernel
theorem dX11_readTownLine_219 : decode cX11_readTownLine 219 = .ok (.lload_n 1, 1) := by decide +kernel
theorem dX11_readTownLine_220 : decode cX11_readTownLine 220 = .ok (.lastore, 1) := by decide +kernel
theorem dX11_readTownLine_221 : decode cX11_readTownLine 221 = .ok (.aload_n 0, 1) := by decide +kernel
theorem dX11_readTownLine_222 : decode cX11_readTownLine 222 = .ok (.getfield 190, 3) := by decide +kernel
theorem dX11_readTownLine_225 : decode cX11_readTownLine 225 = .ok (.getfield 268, 3) := by decide +kernel
theorem dX11_readTownLine_228 : decode cX11_readTownLine 228 = .ok (.aload_n 0, 1) := by decide +kernel
theorem dX11_readTownLine_229 : decode cX11_readTownLine 229 = .ok (.getfield 190, 3) := by decide +kernel
theorem dX11_readTownLine_232 : decode cX11_readTownLine 232 = .ok (.getfield 230, 3) := by decide +kernel
theorem dX11_readTownLine_235 : decode cX11_readTownLine 235 = .ok (.bipush (-2), 2) := by decide +kernel
theorem dX11_readTownLine_237 : decode cX11_readTownLine 237 = .ok (.iastore, 1) := by decide +kernel
theorem dX11_readTownLine_238 : decode cX11_readTownLine 238 = .ok (.aload_n 0, 1) := by decide +kernel
theorem dX11_readTownLine_239 : decode cX11_readTownLine 239 = .ok (.aload_n 0, 1) := by decide +kernel
theorem dX11_readTownLine_240 : decode cX11_readTownLine 240 = .ok (.getfield 190, 3) := by decide +kernel
theorem dX11_readTownLine_243 : decode cX11_readTownLine 243 = .ok (.getfield 270, 3) := by decide +kernel
theorem dX11_readTownLine_246 : decode cX11_readTownLine 246 = .ok (.aload_n 0, 1) := by decide +kernel
theorem dX11_readTownLine_247 : decode cX11_readTownLine 247 = .ok (.getfield 190, 3) := by decide +kernel
theorem dX11_readTownLine_250 : decode cX11_readTownLine 250 = .ok (.getfield 230, 3) := by decide +kernel
theorem dX11_readTownLine_253 : decode cX11_readTownLine 253 = .ok (.invokevirtual 273, 3) := by decide +kernel
theorem dX11_readTownLine_256 : decode cX11_readTownLine 256 = .ok (.aload_n 0, 1) := by decide +kernel
theorem dX11_readTownLine_257 : decode cX11_readTownLine 257 = .ok (.getfield 190, 3) := by decide +kernel
theorem dX11_readTownLine_260 : decode cX11_readTownLine 260 = .ok (.dup, 1) := by decide +kernel
theorem dX11_readTownLine_261 : decode cX11_readTownLine 261 = .ok (.getfield 230, 3) := by decide +kernel
theorem dX11_readTownLine_264 : decode cX11_readTownLine 264 = .ok (.iconst 1, 1) := by decide +kernel
theorem dX11_readTownLine_265 : decode cX11_readTownLine 265 = .ok (.iadd, 1) := by decide +kernel
theorem dX11_readTownLine_266 : decode cX11_readTownLine 266 = .ok (.putfield 230, 3) := by decide +kernel
theorem dX11_readTownLine_269 : decode cX11_readTownLine 269 = .ok (.return_, 1) := by decide +kernel
theorem dX11_clears_0 : decode cX11_clears 0 = .ok (.aload_n 1, 1) := by decide +kernel
theorem dX11_clears_1 : decode cX11_clears 1 = .ok (.iconst 4, 1) := by decide +kernel
theorem dX11_clears_2 : decode cX11_clears 2 = .ok (.iload_n 2, 1) := by decide +kernel
theorem dX11_clears_3 : decode cX11_clears 3 = .ok (.imul, 1) := by decide +kernel
theorem dX11_clears_4 : decode cX11_clears 4 = .ok (.iconst 0, 1) := by decide +kernel
theorem dX11_clears_5 : decode cX11_clears 5 = .ok (.iastore, 1) := by decide +kernel
theorem dX11_clears_6 : decode cX11_clears 6 = .ok (.iconst 1, 1) := by decide +kernel
theorem dX11_clears_7 : decode cX11_clears 7 = .ok (.istore_n 3, 1) := by decide +kernel
theorem dX11_clears_8 : decode cX11_clears 8 = .ok (.iload_n 3, 1) := by decide +kernel
theorem dX11_clears_9 : decode cX11_clears 9 = .ok (.iconst 4, 1) := by decide +kernel
theorem dX11_clears_10 : decode cX11_clears 10 = .ok (.if_icmp .ge 18, 3) := by decide +kernel
theorem dX11_clears_13 : decode cX11_clears 13 = .ok (.aload_n 1, 1) := by decide +kernel
theorem dX11_clears_14 : decode cX11_clears 14 = .ok (.iconst 4, 1) := by decide +kernel
theorem dX11_clears_15 : decode cX11_clears 15 = .ok (.iload_n 2, 1) := by decide +kernel
theorem dX11_clears_16 : decode cX11_clears 16 = .ok (.imul, 1) := by decide +kernel
theorem dX11_clears_17 : decode cX11_clears 17 = .ok (.iload_n 3, 1) := by decide +kernel
theorem dX11_clears_18 : decode cX11_clears 18 = .ok (.iadd, 1) := by decide +kernel
theorem dX11_clears_19 : decode cX11_clears 19 = .ok (.bipush (-2), 2) := by decide +kernel
theorem dX11_clears_21 : decode cX11_clears 21 = .ok (.iastore, 1) := by decide +kernel
theorem dX11_clears_22 : decode cX11_clears 22 = .ok (.iinc 3 1, 3) := by decide +kernel
theorem dX11_clears_25 : decode cX11_clears 25 = .ok (.goto (-17), 3) := by decide +kernel
theorem dX11_clears_28 : decode cX11_clears 28 = .ok (.return_, 1) := by decide +kernel
theorem dX11_sortOfError_0 : decode cX11_sortOfError 0 = .ok (.aload_n 0, 1) := by decide +kernel
theorem dX11_sortOfError_1 : decode cX11_sortOfError 1 = .ok (.ldc_w 277, 3) := by decide +kernel
theorem dX11_sortOfError_4 : decode cX11_sortOfError 4 = .ok (.invokevirtual 158, 3) := by decide +kernel
theorem dX11_sortOfError_7 : decode cX11_sortOfError 7 = .ok (.ifCond .eq 5, 3) := by decide +kernel
theorem dX11_sortOfError_10 : decode cX11_sortOfError 10 = .ok (.iconst 0, 1) := by decide +kernel
theorem dX11_sortOfError_11 : decode cX11_sortOfError 11 = .ok (.ireturn, 1) := by decide +kernel
theorem dX11_sortOfError_12 : decode cX11_sortOfError 12 = .ok (.aload_n 0, 1) := by decide +kernel
theorem dX11_sortOfError_13 : decode cX11_sortOfError 13 = .ok (.ldc_w 279, 3) := by decide +kernel
theorem dX11_sortOfError_16 : decode cX11_sortOfError 16 = .ok (.invokevirtual 158, 3) := by decide +kernel
theorem dX11_sortOfError_19 : decode cX11_sortOfError 19 = .ok (.ifCond .eq 5, 3) := by decide +kernel
theorem dX11_sortOfError_22 : decode cX11_sortOfError 22 = .ok (.iconst 1, 1) := by decide +kernel
theorem dX11_sortOfError_23 : decode cX11_sortOfError 23 = .ok (.ireturn, 1) := by decide +kernel
theorem dX11_sortOfError_24 : decode cX11_sortOfError 24 = .ok (.aload_n 0, 1) := by decide +kernel
theorem dX11_sortOfError_25 : decode cX11_sortOfError 25 = .ok (.ldc_w 281, 3) := by decide +kernel
theorem dX11_sortOfError_28 : decode cX11_sortOfError 28 = .ok (.invokevirtual 158, 3) := by decide +kernel
theorem dX11_sortOfError_31 : decode cX11_sortOfError 31 = .ok (.ifCond .eq 5, 3) := by decide +kernel
theorem dX11_sortOfError_34 : decode cX11_sortOfError 34 = .ok (.iconst 2, 1) := by decide +kernel
theorem dX11_sortOfError_35 : decode cX11_sortOfError 35 = .ok (.ireturn, 1) := by decide +kernel
theorem dX11_sortOfError_36 : decode cX11_sortOfError 36 = .ok (.aload_n 0, 1) := by decide +kernel
theorem dX11_sortOfError_37 : decode cX11_sortOfError 37 = .ok (.ldc_w 283, 3) := by decide +kernel
theorem dX11_sortOfError_40 : decode cX11_sortOfError 40 = .ok (.invokevirtual 158, 3) := by decide +kernel
theorem dX11_sortOfError_43 : decode cX11_sortOfError 43 = .ok (.ifCond .eq 5, 3) := by decide +kernel
theorem dX11_sortOfError_46 : decode cX11_sortOfError 46 = .ok (.iconst 3, 1) := by decide +kernel
theorem dX11_sortOfError_47 : decode cX11_sortOfError 47 = .ok (.ireturn, 1) := by decide +kernel
theorem dX11_sortOfError_48 : decode cX11_sortOfError 48 = .ok (.aload_n 0, 1) := by decide +kernel
theorem dX11_sortOfError_49 : decode cX11_sortOfError 49 = .ok (.ldc_w 285, 3) := by decide +kernel
theorem dX11_sortOfError_52 : decode cX11_sortOfError 52 = .ok (.invokevirtual 158, 3) := by decide +kernel
theorem dX11_sortOfError_55 : decode cX11_sortOfError 55 = .ok (.ifCond .eq 5, 3) := by decide +kernel
theorem dX11_sortOfError_58 : decode cX11_sortOfError 58 = .ok (.iconst 4, 1) := by decide +kernel
theorem dX11_sortOfError_59 : decode cX11_sortOfError 59 = .ok (.ireturn, 1) := by decide +kernel
theorem dX11_sortOfError_60 : decode cX11_sortOfError 60 = .ok (.aload_n 0, 1) := by decide +kernel
theorem dX11_sortOfError_61 : decode cX11_sortOfError 61 = .ok (.ldc_w 287, 3) := by decide +kernel
theorem dX11_sortOfError_64 : decode cX11_sortOfError 64 = .ok (.invokevirtual 158, 3) := by decide +kernel
theorem dX11_sortOfError_67 : decode cX11_sortOfError 67 = .ok (.ifCond .eq 5, 3) := by decide +kernel
theorem dX11_sortOfError_70 : decode cX11_sortOfError 70 = .ok (.iconst 5, 1) := by decide +kernel
theorem dX11_sortOfError_71 : decode cX11_sortOfError 71 = .ok (.ireturn, 1) := by decide +kernel
theorem dX11_sortOfError_72 : decode cX11_sortOfError 72 = .ok (.aload_n 0, 1) := by decide +kernel
theorem dX11_sortOfError_73 : decode cX11_sortOfError 73 = .ok (.ldc_w 289, 3) := by decide +kernel
theorem dX11_sortOfError_76 : decode cX11_sortOfError 76 = .ok (.invokevirtual 158, 3) := by decide +kernel
theorem dX11_sortOfError_79 : decode cX11_sortOfError 79 = .ok (.ifCond .eq 6, 3) := by decide +kernel
theorem dX11_sortOfError_82 : decode cX11_sortOfError 82 = .ok (.bipush 6, 2) := by decide +kernel
theorem dX11_sortOfError_84 : decode cX11_sortOfError 84 = .ok (.ireturn, 1) := by decide +kernel
theorem dX11_sortOfError_85 : decode cX11_sortOfError 85 = .ok (.aload_n 0, 1) := by decide +kernel
theorem dX11_sortOfError_86 : decode cX11_sortOfError 86 = .ok (.ldc_w 291, 3) := by decide +kernel
theorem dX11_sortOfError_89 : decode cX11_sortOfError 89 = .ok (.invokevirtual 158, 3) := by decide +kernel
theorem dX11_sortOfError_92 : decode cX11_sortOfError 92 = .ok (.ifCond .eq 6, 3) := by decide +kernel
theorem dX11_sortOfError_95 : decode cX11_sortOfError 95 = .ok (.bipush 7, 2) := by decide +kernel
theorem dX11_sortOfError_97 : decode cX11_sortOfError 97 = .ok (.ireturn, 1) := by decide +kernel
theorem dX11_sortOfError_98 : decode cX11_sortOfError 98 = .ok (.aload_n 0, 1) := by decide +kernel
theorem dX11_sortOfError_99 : decode cX11_sortOfError 99 = .ok (.ldc_w 293, 3) := by decide +kernel
theorem dX11_sortOfError_102 : decode cX11_sortOfError 102 = .ok (.invokevirtual 158, 3) := by decide +kernel
theorem dX11_sortOfError_105 : decode cX11_sortOfError 105 = .ok (.ifCond .eq 6, 3) := by decide +kernel
theorem dX11_sortOfError_108 : decode cX11_sortOfError 108 = .ok (.bipush 8, 2) := by decide +kernel
theorem dX11_sortOfError_110 : decode cX11_sortOfError 110 = .ok (.ireturn, 1) := by decide +kernel
theorem dX11_sortOfError_111 : decode cX11_sortOfError 111 = .ok (.aload_n 0, 1) := by decide +kernel
theorem dX11_sortOfError_112 : decode cX11_sortOfError 112 = .ok (.ldc_w 295, 3) := by decide +kernel
theorem dX11_sortOfError_115 : decode cX11_sortOfError 115 = .ok (.invokevirtual 158, 3) := by decide +kernel
theorem dX11_sortOfError_118 : decode cX11_sortOfError 118 = .ok (.ifCond .eq 6, 3) := by decide +kernel
theorem dX11_sortOfError_121 : decode cX11_sortOfError 121 = .ok (.bipush 9, 2) := by decide +kernel
theorem dX11_sortOfError_123 : decode cX11_sortOfError 123 = .ok (.ireturn, 1) := by decide +kernel
theorem dX11_sortOfError_124 : decode cX11_sortOfError 124 = .ok (.aload_n 0, 1) := by decide +kernel
theorem dX11_sortOfError_125 : decode cX11_sortOfError 125 = .ok (.ldc_w 297, 3) := by decide +kernel
theorem dX11_sortOfError_128 : decode cX11_sortOfError 128 = .ok (.invokevirtual 158, 3) := by decide +kernel
theorem dX11_sortOfError_131 : decode cX11_sortOfError 131 = .ok (.ifCond .eq 8, 3) := by decide +kernel
theorem dX11_sortOfError_134 : decode cX11_sortOfError 134 = .ok (.bipush 10, 2) := by decide +kernel
theorem dX11_sortOfError_136 : decode cX11_sortOfError 136 = .ok (.goto 4, 3) := by decide +kernel
theorem dX11_sortOfError_139 : decode cX11_sortOfError 139 = .ok (.iconst (-1), 1) := by decide +kernel
theorem dX11_sortOfError_140 : decode cX11_sortOfError 140 = .ok (.ireturn, 1) := by decide +kernel
theorem dX11_readError_0 : decode cX11_readError 0 = .ok (.aload_n 0, 1) := by decide +kernel
theorem dX11_readError_1 : decode cX11_readError 1 = .ok (.invokevirtual 299, 3) := by decide +kernel
theorem dX11_readError_4 : decode cX11_readError 4 = .ok (.istore 4, 2) := by decide +kernel
theorem dX11_readError_6 : decode cX11_readError 6 = .ok (.iload 4, 2) := by decide +kernel
theorem dX11_readError_8 : decode cX11_readError 8 = .ok (.iconst (-1), 1) := by decide +kernel
theorem dX11_readError_9 : decode cX11_readError 9 = .ok (.if_icmp .eq 14, 3) := by decide +kernel
theorem dX11_readError_12 : decode cX11_readError 12 = .ok (.iload_n 3, 1) := by decide +kernel
theorem dX11_readError_13 : decode cX11_readError 13 = .ok (.ifCond .eq 15, 3) := by decide +kernel
theorem dX11_readError_16 : decode cX11_readError 16 = .ok (.iload 4, 2) := by decide +kernel
theorem dX11_readError_18 : decode cX11_readError 18 = .ok (.bipush 8, 2) := by decide +kernel
theorem dX11_readError_20 : decode cX11_readError 20 = .ok (.if_icmp .le 8, 3) := by decide +kernel
theorem dX11_readError_23 : decode cX11_readError 23 = .ok (.aload_n 0, 1) := by decide +kernel
theorem dX11_readError_24 : decode cX11_readError 24 = .ok (.iconst 1, 1) := by decide +kernel
theorem dX11_readError_25 : decode cX11_readError 25 = .ok (.invokevirtual 162, 3) := by decide +kernel
theorem dX11_readError_28 : decode cX11_readError 28 = .ok (.iload 4, 2) := by decide +kernel
theorem dX11_readError_30 : decode cX11_readError 30 = .ok (.bipush 10, 2) := by decide +kernel
theorem dX11_readError_32 : decode cX11_readError 32 = .ok (.if_icmp .ne 19, 3) := by decide +kernel
theorem dX11_readError_35 : decode cX11_readError 35 = .ok (.aload_n 0, 1) := by decide +kernel
theorem dX11_readError_36 : decode cX11_readError 36 = .ok (.getfield 190, 3) := by decide +kernel
theorem dX11_readError_39 : decode cX11_readError 39 = .ok (.getfield 302, 3) := by decide +kernel
theorem dX11_readError_42 : decode cX11_readError 42 = .ok (.iconst 4, 1) := by decide +kernel
theorem dX11_readError_43 : decode cX11_readError 43 = .ok (.if_icmp .ne 8, 3) := by decide +kernel
theorem dX11_readError_46 : decode cX11_readError 46 = .ok (.aload_n 0, 1) := by decide +kernel
theorem dX11_readError_47 : decode cX11_readError 47 = .ok (.iconst 5, 1) := by decide +kernel
theorem dX11_readError_48 : decode cX11_readError 48 = .ok (.invokevirtual 162, 3) := by decide +kernel
theorem dX11_readError_51 : decode cX11_readError 51 = .ok (.aload_n 0, 1) := by decide +kernel
theorem dX11_readError_52 : decode cX11_readError 52 = .ok (.invokevirtual 155, 3) := by decide +kernel
theorem dX11_readError_55 : decode cX11_readError 55 = .ok (.bipush (-2), 2) := by decide +kernel
theorem dX11_readError_57 : decode cX11_readError 57 = .ok (.istore 5, 2) := by decide +kernel
theorem dX11_readError_59 : decode cX11_readError 59 = .ok (.bipush (-2), 2) := by decide +kernel
theorem dX11_readError_61 : decode cX11_readError 61 = .ok (.istore 6, 2) := by decide +kernel
theorem dX11_readError_63 : decode cX11_readError 63 = .ok (.bipush (-2), 2) := by decide +kernel
theorem dX11_readError_65 : decode cX11_readError 65 = .ok (.istore 7, 2) := by decide +kernel
theorem dX11_readError_67 : decode cX11_readError 67 = .ok (.iload 4, 2) := by decide +kernel
theorem dX11_readError_69 : decode cX11_readError 69 = .ok (.iconst 1, 1) := by decide +kernel
theorem dX11_readError_70 : decode cX11_readError 70 = .ok (.if_icmp .eq 30, 3) := by decide +kernel
theorem dX11_readError_73 : decode cX11_readError 73 = .ok (.iload 4, 2) := by decide +kernel
theorem dX11_readError_75 : decode cX11_readError 75 = .ok (.bipush 6, 2) := by decide +kernel
theorem dX11_readError_77 : decode cX11_readError 77 = .ok (.if_icmp .eq 23, 3) := by decide +kernel
theorem dX11_readError_80 : decode cX11_readError 80 = .ok (.iload 4, 2) := by decide +kernel
theorem dX11_readError_82 : decode cX11_readError 82 = .ok (.bipush 7, 2) := by decide +kernel
theorem dX11_readError_84 : decode cX11_readError 84 = .ok (.if_icmp .eq 16, 3) := by decide +kernel
theorem dX11_readError_87 : decode cX11_readError 87 = .ok (.iload 4, 2) := by decide +kernel
theorem dX11_readError_89 : decode cX11_readError 89 = .ok (.bipush 9, 2) := by decide +kernel
theorem dX11_readError_91 : decode cX11_readError 91 = .ok (.if_icmp .eq 9, 3) := by decide +kernel
theorem dX11_readError_94 : decode cX11_readError 94 = .ok (.iload 4, 2) := by decide +kernel
theorem dX11_readError_96 : decode cX11_readError 96 = .ok (.iconst 5, 1) := by decide +kernel
theorem dX11_readError_97 : decode cX11_readError 97 = .ok (.if_icmp .ne 9, 3) := by decide +kernel
theorem dX11_readError_100 : decode cX11_readError 100 = .ok (.aload_n 0, 1) := by decide +kernel
theorem dX11_readError_101 : decode cX11_readError 101 = .ok (.invokevirtual 304, 3) := by decide +kernel
theorem dX11_readError_104 : decode cX11_readError 104 = .ok (.istore 5, 2) := by decide +kernel
theorem dX11_readError_106 : decode cX11_readError 106 = .ok (.iload 4, 2) := by decide +kernel
theorem dX11_readError_108 : decode cX11_readError 108 = .ok (.iconst 1, 1) := by decide +kernel
theorem dX11_readError_109 : decode cX11_readError 109 = .ok (.if_icmp .ne 38, 3) := by decide +kernel
theorem dX11_readError_112 : decode cX11_readError 112 = .ok (.aload_n 0, 1) := by decide +kernel
theorem dX11_readError_113 : decode cX11_readError 113 = .ok (.iconst 0, 1) := by decide +kernel
theorem dX11_readError_114 : decode cX11_readError 114 = .ok (.aload_n 0, 1) := by decide +kernel
theorem dX11_readError_115 : decode cX11_readError 115 = .ok (.getfield 190, 3) := by decide +kernel
theorem dX11_readError_118 : decode cX11_readError 118 = .ok (.getfield 194, 3) := by decide +kernel
theorem dX11_readError_121 : decode cX11_readError 121 = .ok (.iconst 1, 1) := by decide +kernel
theorem dX11_readError_122 : decode cX11_readError 122 = .ok (.isub, 1) := by decide +kernel
theorem dX11_readError_123 : decode cX11_readError 123 = .ok (.invokevirtual 174, 3) := by decide +kernel
theorem dX11_readError_126 : decode cX11_readError 126 = .ok (.istore 6, 2) := by decide +kernel
theorem dX11_readError_128 : decode cX11_readError 128 = .ok (.aload_n 0, 1) := by decide +kernel
theorem dX11_readError_129 : decode cX11_readError 129 = .ok (.iconst 0, 1) := by decide +kernel
theorem dX11_readError_130 : decode cX11_readError 130 = .ok (.aload_n 0, 1) := by decide +kernel
theorem dX11_readError_131 : decode cX11_readError 131 = .ok (.getfield 190, 3) := by decide +kernel
theorem dX11_readError_134 : decode cX11_readError 134 = .ok (.getfield 256, 3) := by decide +kernel
theorem dX11_readError_137 : decode cX11_readError 137 = .ok (.iconst 1, 1) := by decide +kernel
theorem dX11_readError_138 : decode cX11_readError 138 = .ok (.isub, 1) := by decide +kernel
theorem dX11_readError_139 : decode cX11_readError 139 = .ok (.invokevirtual 174, 3) := by decide +kernel
theorem dX11_readError_142 : decode cX11_readError 142 = .ok (.istore 7, 2) := by decide +kernel
theorem dX11_readError_144 : decode cX11_readError 144 = .ok (.goto 100, 3) := by decide +kernel
theorem dX11_readError_147 : decode cX11_readError 147 = .ok (.iload 4, 2) := by decide +kernel
theorem dX11_readError_149 : decode cX11_readError 149 = .ok (.iconst 2, 1) := by decide +kernel
theorem dX11_readError_150 : decode cX11_readError 150 = .ok (.if_icmp .ne 22, 3) := by decide +kernel
theorem dX11_readError_153 : decode cX11_readError 153 = .ok (.aload_n 0, 1) := by decide +kernel
theorem dX11_readError_154 : decode cX11_readError 154 = .ok (.iconst 1, 1) := by decide +kernel
theorem dX11_readError_155 : decode cX11_readError 155 = .ok (.aload_n 0, 1) := by decide +kernel
theorem dX11_readError_156 : decode cX11_readError 156 = .ok (.getfield 190, 3) := by decide +kernel
theorem dX11_readError_159 : decode cX11_readError 159 = .ok (.getfield 194, 3) := by decide +kernel
theorem dX11_readError_162 : decode cX11_readError 162 = .ok (.iconst 1, 1) := by decide +kernel
theorem dX11_readError_163 : decode cX11_readError 163 = .ok (.isub, 1) := by decide +kernel
theorem dX11_readError_164 : decode cX11_readError 164 = .ok (.invokevirtual 174, 3) := by decide +kernel
theorem dX11_readError_167 : decode cX11_readError 167 = .ok (.istore 5, 2) := by decide +kernel
theorem dX11_readError_169 : decode cX11_readError 169 = .ok (.goto 75, 3) := by decide +kernel
theorem dX11_readError_172 : decode cX11_readError 172 = .ok (.iload 4, 2) := by decide +kernel
theorem dX11_readError_174 : decode cX11_readError 174 = .ok (.iconst 3, 1) := by decide +kernel
theorem dX11_readError_175 : decode cX11_readError 175 = .ok (.if_icmp .ne 22, 3) := by decide +kernel
theorem dX11_readError_178 : decode cX11_readError 178 = .ok (.aload_n 0, 1) := by decide +kernel
theorem dX11_readError_179 : decode cX11_readError 179 = .ok (.iconst 0, 1) := by decide +kernel
theorem dX11_readError_180 : decode cX11_readError 180 = .ok (.iconst 5, 1) := by decide +kernel
theorem dX11_readError_181 : decode cX11_readError 181 = .ok (.invokevirtual 174, 3) := by decide +kernel
theorem dX11_readError_184 : decode cX11_readError 184 = .ok (.istore 5, 2) := by decide +kernel
theorem dX11_readError_186 : decode cX11_readError 186 = .ok (.aload_n 0, 1) := by decide +kernel
theorem dX11_readError_187 : decode cX11_readError 187 = .ok (.iconst 0, 1) := by decide +kernel
theorem dX11_readError_188 : decode cX11_readError 188 = .ok (.iconst 5, 1) := by decide +kernel
theorem dX11_readError_189 : decode cX11_readError 189 = .ok (.invokevirtual 174, 3) := by decide +kernel
theorem dX11_readError_192 : decode cX11_readError 192 = .ok (.istore 6, 2) := by decide +kernel
theorem dX11_readError_194 : decode cX11_readError 194 = .ok (.goto 50, 3) := by decide +kernel
theorem dX11_readError_197 : decode cX11_readError 197 = .ok (.iload 4, 2) := by decide +kernel
theorem dX11_readError_199 : decode cX11_readError 199 = .ok (.iconst 5, 1) := by decide +kernel
theorem dX11_readError_200 : decode cX11_readError 200 = .ok (.if_icmp .ne 28, 3) := by decide +kernel
theorem dX11_readError_203 : decode cX11_readError 203 = .ok (.aload_n 0, 1) := by decide +kernel
theorem dX11_readError_204 : decode cX11_readError 204 = .ok (.invokevirtual 221, 3) := by decide +kernel
theorem dX11_readError_207 : decode cX11_readError 207 = .ok (.istore 6, 2) := by decide +kernel
theorem dX11_readError_209 : decode cX11_readError 209 = .ok (.iload 5, 2) := by decide +kernel
theorem dX11_readError_211 : decode cX11_readError 211 = .ok (.iload 6, 2) := by decide +kernel
theorem dX11_readError_213 : decode cX11_readError 213 = .ok (.if_icmp .ne 8, 3) := by decide +kernel
theorem dX11_readError_216 : decode cX11_readError 216 = .ok (.aload_n 0, 1) := by decide +kernel
theorem dX11_readError_217 : decode cX11_readError 217 = .ok (.iconst 3, 1) := by decide +kernel
theorem dX11_readError_218 : decode cX11_readError 218 = .ok (.invokevirtual 162, 3) := by decide +kernel
theorem dX11_readError_221 : decode cX11_readError 221 = .ok (.aload_n 0, 1) := by decide +kernel
theorem dX11_readError_222 : decode cX11_readError 222 = .ok (.invokevirtual 155, 3) := by decide +kernel
theorem dX11_readError_225 : decode cX11_readError 225 = .ok (.goto 19, 3) := by decide +kernel
theorem dX11_readError_228 : decode cX11_readError 228 = .ok (.iload 4, 2) := by decide +kernel
theorem dX11_readError_230 : decode cX11_readError 230 = .ok (.bipush 8, 2) := by decide +kernel
theorem dX11_readError_232 : decode cX11_readError 232 = .ok (.if_icmp .ne 12, 3) := by decide +kernel
theorem dX11_readError_235 : decode cX11_readError 235 = .ok (.aload_n 0, 1) := by decide +kernel
theorem dX11_readError_236 : decode cX11_readError 236 = .ok (.iconst 5, 1) := by decide +kernel
theorem dX11_readError_237 : decode cX11_readError 237 = .ok (.bipush 9, 2) := by decide +kernel
theorem dX11_readError_239 : decode cX11_readError 239 = .ok (.invokevirtual 174, 3) := by decide +kernel
theorem dX11_readError_242 : decode cX11_readError 242 = .ok (.istore 5, 2) := by decide +kernel
theorem dX11_readError_244 : decode cX11_readError 244 = .ok (.aload_n 0, 1) := by decide +kernel
theorem dX11_readError_245 : decode cX11_readError 245 = .ok (.getfield 110, 3) := by decide +kernel
theorem dX11_readError_248 : decode cX11_readError 248 = .ok (.iconst 5, 1) := by decide +kernel
theorem dX11_readError_249 : decode cX11_readError 249 = .ok (.if_icmp .ne 4, 3) := by decide +kernel
theorem dX11_readError_252 : decode cX11_readError 252 = .ok (.return_, 1) := by decide +kernel
theorem dX11_readError_253 : decode cX11_readError 253 = .ok (.aload_n 1, 1) := by decide +kernel
theorem dX11_readError_254 : decode cX11_readError 254 = .ok (.iconst 4, 1) := by decide +kernel
theorem dX11_readError_255 : decode cX11_readError 255 = .ok (.iload_n 2, 1) := by decide +kernel
theorem dX11_readError_256 : decode cX11_readError 256 = .ok (.imul, 1) := by decide +kernel
theorem dX11_readError_257 : decode cX11_readError 257 = .ok (.iload 4, 2) := by decide +kernel
theorem dX11_readError_259 : decode cX11_readError 259 = .ok (.iastore, 1) := by decide +kernel
theorem dX11_readError_260 : decode cX11_readError 260 = .ok (.aload_n 1, 1) := by decide +kernel
theorem dX11_readError_261 : decode cX11_readError 261 = .ok (.iconst 4, 1) := by decide +kernel
theorem dX11_readError_262 : decode cX11_readError 262 = .ok (.iload_n 2, 1) := by decide +kernel
theorem dX11_readError_263 : decode cX11_readError 263 = .ok (.imul, 1) := by decide +kernel
theorem dX11_readError_264 : decode cX11_readError 264 = .ok (.iconst 1, 1) := by decide +kernel
theorem dX11_readError_265 : decode cX11_readError 265 = .ok (.iadd, 1) := by decide +kernel
theorem dX11_readError_266 : decode cX11_readError 266 = .ok (.iload 5, 2) := by decide +kernel
theorem dX11_readError_268 : decode cX11_readError 268 = .ok (.iastore, 1) := by decide +kernel
theorem dX11_readError_269 : decode cX11_readError 269 = .ok (.aload_n 1, 1) := by decide +kernel
theorem dX11_readError_270 : decode cX11_readError 270 = .ok (.iconst 4, 1) := by decide +kernel
theorem dX11_readError_271 : decode cX11_readError 271 = .ok (.iload_n 2, 1) := by decide +kernel
theorem dX11_readError_272 : decode cX11_readError 272 = .ok (.imul, 1) := by decide +kernel
theorem dX11_readError_273 : decode cX11_readError 273 = .ok (.iconst 2, 1) := by decide +kernel
theorem dX11_readError_274 : decode cX11_readError 274 = .ok (.iadd, 1) := by decide +kernel
theorem dX11_readError_275 : decode cX11_readError 275 = .ok (.iload 6, 2) := by decide +kernel
theorem dX11_readError_277 : decode cX11_readError 277 = .ok (.iastore, 1) := by decide +kernel
theorem dX11_readError_278 : decode cX11_readError 278 = .ok (.aload_n 1, 1) := by decide +kernel
theorem dX11_readError_279 : decode cX11_readError 279 = .ok (.iconst 4, 1) := by decide +kernel
theorem dX11_readError_280 : decode cX11_readError 280 = .ok (.iload_n 2, 1) := by decide +kernel
theorem dX11_readError_281 : decode cX11_readError 281 = .ok (.imul, 1) := by decide +kernel
theorem dX11_readError_282 : decode cX11_readError 282 = .ok (.iconst 3, 1) := by decide +kernel
theorem dX11_readError_283 : decode cX11_readError 283 = .ok (.iadd, 1) := by decide +kernel
theorem dX11_readError_284 : decode cX11_readError 284 = .ok (.iload 7, 2) := by decide +kernel
theorem dX11_readError_286 : decode cX11_readError 286 = .ok (.iastore, 1) := by decide +kernel
theorem dX11_readError_287 : decode cX11_readError 287 = .ok (.iload 4, 2) := by decide +kernel
theorem dX11_readError_289 : decode cX11_readError 289 = .ok (.bipush 10, 2) := by decide +kernel
theorem dX11_readError_291 : decode cX11_readError 291 = .ok (.if_icmp .ne 16, 3) := by decide +kernel
theorem dX11_readError_294 : decode cX11_readError 294 = .ok (.aload_n 0, 1) := by decide +kernel
theorem dX11_readError_295 : decode cX11_readError 295 = .ok (.getfield 190, 3) := by decide +kernel
theorem dX11_readError_298 : decode cX11_readError 298 = .ok (.dup, 1) := by decide +kernel
theorem dX11_readError_299 : decode cX11_readError 299 = .ok (.getfield 302, 3) := by decide +kernel
theorem dX11_readError_302 : decode cX11_readError 302 = .ok (.iconst 1, 1) := by decide +kernel
theorem dX11_readError_303 : decode cX11_readError 303 = .ok (.iadd, 1) := by decide +kernel
theorem dX11_readError_304 : decode cX11_readError 304 = .ok (.putfield 302, 3) := by decide +kernel
theorem dX11_readError_307 : decode cX11_readError 307 = .ok (.return_, 1) := by decide +kernel
theorem dX11_readCopies_0 : decode cX11_readCopies 0 = .ok (.aload_n 0, 1) := by decide +kernel
theorem dX11_readCopies_1 : decode cX11_readCopies 1 = .ok (.iconst 0, 1) := by decide +kernel
theorem dX11_readCopies_2 : decode cX11_readCopies 2 = .ok (.iconst 1, 1) := by decide +kernel
theorem dX11_readCopies_3 : decode cX11_readCopies 3 = .ok (.invokevirtual 258, 3) := by decide +kernel
theorem dX11_readCopies_6 : decode cX11_readCopies 6 = .ok (.aload_n 0, 1) := by decide +kernel
theorem dX11_readCopies_7 : decode cX11_readCopies 7 = .ok (.invokevirtual 207, 3) := by decide +kernel
theorem dX11_readCopies_10 : decode cX11_readCopies 10 = .ok (.istore_n 1, 1) := by decide +kernel
theorem dX11_readCopies_11 : decode cX11_readCopies 11 = .ok (.aload_n 0, 1) := by decide +kernel
theorem dX11_readCopies_12 : decode cX11_readCopies 12 = .ok (.getfield 110, 3) := by decide +kernel
theorem dX11_readCopies_15 : decode cX11_readCopies 15 = .ok (.iconst 5, 1) := by decide +kernel
theorem dX11_readCopies_16 : decode cX11_readCopies 16 = .ok (.if_icmp .eq 22, 3) := by decide +kernel
theorem dX11_readCopies_19 : decode cX11_readCopies 19 = .ok (.aload_n 0, 1) := by decide +kernel
theorem dX11_readCopies_20 : decode cX11_readCopies 20 = .ok (.getfield 190, 3) := by decide +kernel
theorem dX11_readCopies_23 : decode cX11_readCopies 23 = .ok (.getfield 268, 3) := by decide +kernel
theorem dX11_readCopies_26 : decode cX11_readCopies 26 = .ok (.iload_n 1, 1) := by decide +kernel
theorem dX11_readCopies_27 : decode cX11_readCopies 27 = .ok (.iaload, 1) := by decide +kernel
theorem dX11_readCopies_28 : decode cX11_readCopies 28 = .ok (.bipush (-2), 2) := by decide +kernel
theorem dX11_readCopies_30 : decode cX11_readCopies 30 = .ok (.if_icmp .eq 8, 3) := by decide +kernel
theorem dX11_readCopies_33 : decode cX11_readCopies 33 = .ok (.aload_n 0, 1) := by decide +kernel
theorem dX11_readCopies_34 : decode cX11_readCopies 34 = .ok (.iconst 3, 1) := by decide +kernel
theorem dX11_readCopies_35 : decode cX11_readCopies 35 = .ok (.invokevirtual 162, 3) := by decide +kernel
theorem dX11_readCopies_38 : decode cX11_readCopies 38 = .ok (.aload_n 0, 1) := by decide +kernel
theorem dX11_readCopies_39 : decode cX11_readCopies 39 = .ok (.invokevirtual 155, 3) := by decide +kernel
theorem dX11_readCopies_42 : decode cX11_readCopies 42 = .ok (.aload_n 0, 1) := by decide +kernel
theorem dX11_readCopies_43 : decode cX11_readCopies 43 = .ok (.invokevirtual 307, 3) := by decide +kernel
theorem dX11_readCopies_46 : decode cX11_readCopies 46 = .ok (.istore_n 2, 1) := by decide +kernel
theorem dX11_readCopies_47 : decode cX11_readCopies 47 = .ok (.aload_n 0, 1) := by decide +kernel
theorem dX11_readCopies_48 : decode cX11_readCopies 48 = .ok (.ldc 188, 2) := by decide +kernel
theorem dX11_readCopies_50 : decode cX11_readCopies 50 = .ok (.invokevirtual 170, 3) := by decide +kernel
theorem dX11_readCopies_53 : decode cX11_readCopies 53 = .ok (.aload_n 0, 1) := by decide +kernel
theorem dX11_readCopies_54 : decode cX11_readCopies 54 = .ok (.aload_n 0, 1) := by decide +kernel
theorem dX11_readCopies_55 : decode cX11_readCopies 55 = .ok (.getfield 190, 3) := by decide +kernel
theorem dX11_readCopies_58 : decode cX11_readCopies 58 = .ok (.getfield 270, 3) := by decide +kernel
theorem dX11_readCopies_61 : decode cX11_readCopies 61 = .ok (.iload_n 1, 1) := by decide +kernel
theorem dX11_readCopies_62 : decode cX11_readCopies 62 = .ok (.iconst 0, 1) := by decide +kernel
theorem dX11_readCopies_63 : decode cX11_readCopies 63 = .ok (.invokevirtual 310, 3) := by decide +kernel
theorem dX11_readCopies_66 : decode cX11_readCopies 66 = .ok (.aload_n 0, 1) := by decide +kernel
theorem dX11_readCopies_67 : decode cX11_readCopies 67 = .ok (.getfield 110, 3) := by decide +kernel
theorem dX11_readCopies_70 : decode cX11_readCopies 70 = .ok (.iconst 5, 1) := by decide +kernel
theorem dX11_readCopies_71 : decode cX11_readCopies 71 = .ok (.if_icmp .eq 13, 3) := by decide +kernel
theorem dX11_readCopies_74 : decode cX11_readCopies 74 = .ok (.aload_n 0, 1) := by decide +kernel
theorem dX11_readCopies_75 : decode cX11_readCopies 75 = .ok (.getfield 190, 3) := by decide +kernel
theorem dX11_readCopies_78 : decode cX11_readCopies 78 = .ok (.getfield 268, 3) := by decide +kernel
theorem dX11_readCopies_81 : decode cX11_readCopies 81 = .ok (.iload_n 1, 1) := by decide +kernel
theorem dX11_readCopies_82 : decode cX11_readCopies 82 = .ok (.iload_n 2, 1) := by decide +kernel
theorem dX11_readCopies_83 : decode cX11_readCopies 83 = .ok (.iastore, 1) := by decide +kernel
theorem dX11_readCopies_84 : decode cX11_readCopies 84 = .ok (.return_, 1) := by decide +kernel
theorem dX11_readGuess_0 : decode cX11_readGuess 0 = .ok (.aload_n 0, 1) := by decide +kernel
theorem dX11_readGuess_1 : decode cX11_readGuess 1 = .ok (.aload_n 0, 1) := by decide +kernel
theorem dX11_readGuess_2 : decode cX11_readGuess 2 = .ok (.getfield 190, 3) := by decide +kernel
theorem dX11_readGuess_5 : decode cX11_readGuess 5 = .ok (.getfield 314, 3) := by decide +kernel
theorem dX11_readGuess_8 : decode cX11_readGuess 8 = .ok (.iconst 5, 1) := by decide +kernel
theorem dX11_readGuess_9 : decode cX11_readGuess 9 = .ok (.invokevirtual 258, 3) := by decide +kernel
theorem dX11_readGuess_12 : decode cX11_readGuess 12 = .ok (.aload_n 0, 1) := by decide +kernel
theorem dX11_readGuess_13 : decode cX11_readGuess 13 = .ok (.getfield 110, 3) := by decide +kernel
theorem dX11_readGuess_16 : decode cX11_readGuess 16 = .ok (.iconst 5, 1) := by decide +kernel
theorem dX11_readGuess_17 : decode cX11_readGuess 17 = .ok (.if_icmp .ne 4, 3) := by decide +kernel
theorem dX11_readGuess_20 : decode cX11_readGuess 20 = .ok (.return_, 1) := by decide +kernel
theorem dX11_readGuess_21 : decode cX11_readGuess 21 = .ok (.aload_n 0, 1) := by decide +kernel
theorem dX11_readGuess_22 : decode cX11_readGuess 22 = .ok (.aload_n 0, 1) := by decide +kernel
theorem dX11_readGuess_23 : decode cX11_readGuess 23 = .ok (.getfield 190, 3) := by decide +kernel
theorem dX11_readGuess_26 : decode cX11_readGuess 26 = .ok (.getfield 317, 3) := by decide +kernel
theorem dX11_readGuess_29 : decode cX11_readGuess 29 = .ok (.aload_n 0, 1) := by decide +kernel
theorem dX11_readGuess_30 : decode cX11_readGuess 30 = .ok (.getfield 190, 3) := by decide +kernel
theorem dX11_readGuess_33 : decode cX11_readGuess 33 = .ok (.getfield 314, 3) := by decide +kernel
theorem dX11_readGuess_36 : decode cX11_readGuess 36 = .ok (.iconst 1, 1) := by decide +kernel
theorem dX11_readGuess_37 : decode cX11_readGuess 37 = .ok (.invokevirtual 310, 3) := by decide +kernel
theorem dX11_readGuess_40 : decode cX11_readGuess 40 = .ok (.aload_n 0, 1) := by decide +kernel
theorem dX11_readGuess_41 : decode cX11_readGuess 41 = .ok (.getfield 110, 3) := by decide +kernel
theorem dX11_readGuess_44 : decode cX11_readGuess 44 = .ok (.iconst 5, 1) := by decide +kernel
theorem dX11_readGuess_45 : decode cX11_readGuess 45 = .ok (.if_icmp .eq 16, 3) := by decide +kernel
theorem dX11_readGuess_48 : decode cX11_readGuess 48 = .ok (.aload_n 0, 1) := by decide +kernel
theorem dX11_readGuess_49 : decode cX11_readGuess 49 = .ok (.getfield 190, 3) := by decide +kernel
theorem dX11_readGuess_52 : decode cX11_readGuess 52 = .ok (.dup, 1) := by decide +kernel
theorem dX11_readGuess_53 : decode cX11_readGuess 53 = .ok (.getfield 314, 3) := by decide +kernel
theorem dX11_readGuess_56 : decode cX11_readGuess 56 = .ok (.iconst 1, 1) := by decide +kernel
theorem dX11_readGuess_57 : decode cX11_readGuess 57 = .ok (.iadd, 1) := by decide +kernel
theorem dX11_readGuess_58 : decode cX11_readGuess 58 = .ok (.putfield 314, 3) := by decide +kernel
theorem dX11_readGuess_61 : decode cX11_readGuess 61 = .ok (.return_, 1) := by decide +kernel
theorem dX11_readSeen_0 : decode cX11_readSeen 0 = .ok (.aload_n 0, 1) := by decide +kernel
theorem dX11_readSeen_1 : decode cX11_readSeen 1 = .ok (.aload_n 0, 1) := by decide +kernel
theorem dX11_readSeen_2 : decode cX11_readSeen 2 = .ok (.getfield 190, 3) := by decide +kernel
theorem dX11_readSeen_5 : decode cX11_readSeen 5 = .ok (.getfield 319, 3) := by decide +kernel
theorem dX11_readSeen_8 : decode cX11_readSeen 8 = .ok (.bipush 8, 2) := by decide +kernel
theorem dX11_readSeen_10 : decode cX11_readSeen 10 = .ok (.invokevirtual 258, 3) := by decide +kernel
theorem dX11_readSeen_13 : decode cX11_readSeen 13 = .ok (.aload_n 0, 1) := by decide +kernel
theorem dX11_readSeen_14 : decode cX11_readSeen 14 = .ok (.invokevirtual 307, 3) := by decide +kernel
theorem dX11_readSeen_17 : decode cX11_readSeen 17 = .ok (.istore_n 1, 1) := by decide +kernel
theorem dX11_readSeen_18 : decode cX11_readSeen 18 = .ok (.aload_n 0, 1) := by decide +kernel
theorem dX11_readSeen_19 : decode cX11_readSeen 19 = .ok (.iconst 1, 1) := by decide +kernel
theorem dX11_readSeen_20 : decode cX11_readSeen 20 = .ok (.bipush 20, 2) := by decide +kernel
theorem dX11_readSeen_22 : decode cX11_readSeen 22 = .ok (.invokevirtual 174, 3) := by decide +kernel
theorem dX11_readSeen_25 : decode cX11_readSeen 25 = .ok (.istore_n 2, 1) := by decide +kernel
theorem dX11_readSeen_26 : decode cX11_readSeen 26 = .ok (.aload_n 0, 1) := by decide +kernel
theorem dX11_readSeen_27 : decode cX11_readSeen 27 = .ok (.iconst 0, 1) := by decide +kernel
theorem dX11_readSeen_28 : decode cX11_readSeen 28 = .ok (.aload_n 0, 1) := by decide +kernel
theorem dX11_readSeen_29 : decode cX11_readSeen 29 = .ok (.getfield 190, 3) := by decide +kernel
theorem dX11_readSeen_32 : decode cX11_readSeen 32 = .ok (.getfield 194, 3) := by decide +kernel
theorem dX11_readSeen_35 : decode cX11_readSeen 35 = .ok (.iconst 1, 1) := by decide +kernel
theorem dX11_readSeen_36 : decode cX11_readSeen 36 = .ok (.isub, 1) := by decide +kernel
theorem dX11_readSeen_37 : decode cX11_readSeen 37 = .ok (.invokevirtual 174, 3) := by decide +kernel
theorem dX11_readSeen_40 : decode cX11_readSeen 40 = .ok (.istore_n 3, 1) := by decide +kernel
theorem dX11_readSeen_41 : decode cX11_readSeen 41 = .ok (.aload_n 0, 1) := by decide +kernel
theorem dX11_readSeen_42 : decode cX11_readSeen 42 = .ok (.iconst 0, 1) := by decide +kernel
theorem dX11_readSeen_43 : decode cX11_readSeen 43 = .ok (.aload_n 0, 1) := by decide +kernel
theorem dX11_readSeen_44 : decode cX11_readSeen 44 = .ok (.getfield 190, 3) := by decide +kernel
theorem dX11_readSeen_47 : decode cX11_readSeen 47 = .ok (.getfield 256, 3) := by decide +kernel
theorem dX11_readSeen_50 : decode cX11_readSeen 50 = .ok (.iconst 1, 1) := by decide +kernel
theorem dX11_readSeen_51 : decode cX11_readSeen 51 = .ok (.isub, 1) := by decide +kernel
theorem dX11_readSeen_52 : decode cX11_readSeen 52 = .ok (.invokevirtual 174, 3) := by decide +kernel
theorem dX11_readSeen_55 : decode cX11_readSeen 55 = .ok (.istore 4, 2) := by decide +kernel
theorem dX11_readSeen_57 : decode cX11_readSeen 57 = .ok (.aload_n 0, 1) := by decide +kernel
theorem dX11_readSeen_58 : decode cX11_readSeen 58 = .ok (.invokevirtual 304, 3) := by decide +kernel
theorem dX11_readSeen_61 : decode cX11_readSeen 61 = .ok (.istore 5, 2) := by decide +kernel
theorem dX11_readSeen_63 : decode cX11_readSeen 63 = .ok (.aload_n 0, 1) := by decide +kernel
theorem dX11_readSeen_64 : decode cX11_readSeen 64 = .ok (.getfield 110, 3) := by decide +kernel
theorem dX11_readSeen_67 : decode cX11_readSeen 67 = .ok (.iconst 5, 1) := by decide +kernel
theorem dX11_readSeen_68 : decode cX11_readSeen 68 = .ok (.if_icmp .ne 4, 3) := by decide +kernel
theorem dX11_readSeen_71 : decode cX11_readSeen 71 = .ok (.return_, 1) := by decide +kernel
theorem dX11_readSeen_72 : decode cX11_readSeen 72 = .ok (.aload_n 0, 1) := by decide +kernel
theorem dX11_readSeen_73 : decode cX11_readSeen 73 = .ok (.getfield 190, 3) := by decide +kernel
theorem dX11_readSeen_76 : decode cX11_readSeen 76 = .ok (.getfield 322, 3) := by decide +kernel
theorem dX11_readSeen_79 : decode cX11_readSeen 79 = .ok (.aload_n 0, 1) := by decide +kernel
theorem dX11_readSeen_80 : decode cX11_readSeen 80 = .ok (.getfield 190, 3) := by decide +kernel
theorem dX11_readSeen_83 : decode cX11_readSeen 83 = .ok (.getfield 319, 3) := by decide +kernel
theorem dX11_readSeen_86 : decode cX11_readSeen 86 = .ok (.iload_n 1, 1) := by decide +kernel
theorem dX11_readSeen_87 : decode cX11_readSeen 87 = .ok (.iastore, 1) := by decide +kernel
theorem dX11_readSeen_88 : decode cX11_readSeen 88 = .ok (.aload_n 0, 1) := by decide +kernel
theorem dX11_readSeen_89 : decode cX11_readSeen 89 = .ok (.getfield 190, 3) := by decide +kernel
theorem dX11_readSeen_92 : decode cX11_readSeen 92 = .ok (.getfield 325, 3) := by decide +kernel
theorem dX11_readSeen_95 : decode cX11_readSeen 95 = .ok (.aload_n 0, 1) := by decide +kernel
theorem dX11_readSeen_96 : decode cX11_readSeen 96 = .ok (.getfield 190, 3) := by decide +kernel
theorem dX11_readSeen_99 : decode cX11_readSeen 99 = .ok (.getfield 319, 3) := by decide +kernel
theorem dX11_readSeen_102 : decode cX11_readSeen 102 = .ok (.iload_n 2, 1) := by decide +kernel
theorem dX11_readSeen_103 : decode cX11_readSeen 103 = .ok (.iastore, 1) := by decide +kernel
theorem dX11_readSeen_104 : decode cX11_readSeen 104 = .ok (.aload_n 0, 1) := by decide +kernel
theorem dX11_readSeen_105 : decode cX11_readSeen 105 = .ok (.getfield 190, 3) := by decide +kernel
theorem dX11_readSeen_108 : decode cX11_readSeen 108 = .ok (.getfield 328, 3) := by decide +kernel
theorem dX11_readSeen_111 : decode cX11_readSeen 111 = .ok (.aload_n 0, 1) := by decide +kernel
theorem dX11_readSeen_112 : decode cX11_readSeen 112 = .ok (.getfield 190, 3) := by decide +kernel
theorem dX11_readSeen_115 : decode cX11_readSeen 115 = .ok (.getfield 319, 3) := by decide +kernel
theorem dX11_readSeen_118 : decode cX11_readSeen 118 = .ok (.iload 4, 2) := by decide +kernel
theorem dX11_readSeen_120 : decode cX11_readSeen 120 = .ok (.aload_n 0, 1) := by decide +kernel
theorem dX11_readSeen_121 : decode cX11_readSeen 121 = .ok (.getfield 190, 3) := by decide +kernel
theorem dX11_readSeen_124 : decode cX11_readSeen 124 = .ok (.getfield 194, 3) := by decide +kernel
theorem dX11_readSeen_127 : decode cX11_readSeen 127 = .ok (.imul, 1) := by decide +kernel
theorem dX11_readSeen_128 : decode cX11_readSeen 128 = .ok (.iload_n 3, 1) := by decide +kernel
theorem dX11_readSeen_129 : decode cX11_readSeen 129 = .ok (.iadd, 1) := by decide +kernel
theorem dX11_readSeen_130 : decode cX11_readSeen 130 = .ok (.iastore, 1) := by decide +kernel
theorem dX11_readSeen_131 : decode cX11_readSeen 131 = .ok (.aload_n 0, 1) := by decide +kernel
theorem dX11_readSeen_132 : decode cX11_readSeen 132 = .ok (.getfield 190, 3) := by decide +kernel
theorem dX11_readSeen_135 : decode cX11_readSeen 135 = .ok (.getfield 331, 3) := by decide +kernel
theorem dX11_readSeen_138 : decode cX11_readSeen 138 = .ok (.aload_n 0, 1) := by decide +kernel
theorem dX11_readSeen_139 : decode cX11_readSeen 139 = .ok (.getfield 190, 3) := by decide +kernel
theorem dX11_readSeen_142 : decode cX11_readSeen 142 = .ok (.getfield 319, 3) := by decide +kernel
theorem dX11_readSeen_145 : decode cX11_readSeen 145 = .ok (.iload 5, 2) := by decide +kernel
theorem dX11_readSeen_147 : decode cX11_readSeen 147 = .ok (.iastore, 1) := by decide +kernel
theorem dX11_readSeen_148 : decode cX11_readSeen 148 = .ok (.aload_n 0, 1) := by decide +kernel
theorem dX11_readSeen_149 : decode cX11_readSeen 149 = .ok (.getfield 190, 3) := by decide +kernel
theorem dX11_readSeen_152 : decode cX11_readSeen 152 = .ok (.dup, 1) := by decide +kernel
theorem dX11_readSeen_153 : decode cX11_readSeen 153 = .ok (.getfield 319, 3) := by decide +kernel
theorem dX11_readSeen_156 : decode cX11_readSeen 156 = .ok (.iconst 1, 1) := by decide +kernel
theorem dX11_readSeen_157 : decode cX11_readSeen 157 = .ok (.iadd, 1) := by decide +kernel
theorem dX11_readSeen_158 : decode cX11_readSeen 158 = .ok (.putfield 319, 3) := by decide +kernel
theorem dX11_readSeen_161 : decode cX11_readSeen 161 = .ok (.return_, 1) := by decide +kernel
theorem dX11_feed_0 : decode cX11_feed 0 = .ok (.aload_n 0, 1) := by decide +kernel
theorem dX11_feed_1 : decode cX11_feed 1 = .ok (.iconst 0, 1) := by decide +kernel
theorem dX11_feed_2 : decode cX11_feed 2 = .ok (.putfield 78, 3) := by decide +kernel
theorem dX11_feed_5 : decode cX11_feed 5 = .ok (.aload_n 0, 1) := by decide +kernel
theorem dX11_feed_6 : decode cX11_feed 6 = .ok (.getfield 334, 3) := by decide +kernel
theorem dX11_feed_9 : decode cX11_feed 9 = .ok (.bipush 20, 2) := by decide +kernel
theorem dX11_feed_11 : decode cX11_feed 11 = .ok (.iadd, 1) := by decide +kernel
theorem dX11_feed_12 : decode cX11_feed 12 = .ok (.sipush 900, 3) := by decide +kernel
theorem dX11_feed_15 : decode cX11_feed 15 = .ok (.if_icmp .le 5, 3) := by decide +kernel
theorem dX11_feed_18 : decode cX11_feed 18 = .ok (.iconst (-1), 1) := by decide +kernel
theorem dX11_feed_19 : decode cX11_feed 19 = .ok (.ireturn, 1) := by decide +kernel
theorem dX11_feed_20 : decode cX11_feed 20 = .ok (.iconst 0, 1) := by decide +kernel
theorem dX11_feed_21 : decode cX11_feed 21 = .ok (.istore 6, 2) := by decide +kernel
theorem dX11_feed_23 : decode cX11_feed 23 = .ok (.iload 6, 2) := by decide +kernel
theorem dX11_feed_25 : decode cX11_feed 25 = .ok (.bipush 20, 2) := by decide +kernel
theorem dX11_feed_27 : decode cX11_feed 27 = .ok (.if_icmp .ge 90, 3) := by decide +kernel
theorem dX11_feed_30 : decode cX11_feed 30 = .ok (.iload 6, 2) := by decide +kernel
theorem dX11_feed_32 : decode cX11_feed 32 = .ok (.iconst 4, 1) := by decide +kernel
theorem dX11_feed_33 : decode cX11_feed 33 = .ok (.if_icmp .ge 7, 3) := by decide +kernel
theorem dX11_feed_36 : decode cX11_feed 36 = .ok (.iload_n 1, 1) := by decide +kernel
theorem dX11_feed_37 : decode cX11_feed 37 = .ok (.goto 39, 3) := by decide +kernel
theorem dX11_feed_40 : decode cX11_feed 40 = .ok (.iload 6, 2) := by decide +kernel
theorem dX11_feed_42 : decode cX11_feed 42 = .ok (.bipush 8, 2) := by decide +kernel
theorem dX11_feed_44 : decode cX11_feed 44 = .ok (.if_icmp .ge 7, 3) := by decide +kernel
theorem dX11_feed_47 : decode cX11_feed 47 = .ok (.iload_n 2, 1) := by decide +kernel
theorem dX11_feed_48 : decode cX11_feed 48 = .ok (.goto 28, 3) := by decide +kernel
theorem dX11_feed_51 : decode cX11_feed 51 = .ok (.iload 6, 2) := by decide +kernel
theorem dX11_feed_53 : decode cX11_feed 53 = .ok (.bipush 12, 2) := by decide +kernel
theorem dX11_feed_55 : decode cX11_feed 55 = .ok (.if_icmp .ge 7, 3) := by decide +kernel
theorem dX11_feed_58 : decode cX11_feed 58 = .ok (.iload_n 3, 1) := by decide +kernel
theorem dX11_feed_59 : decode cX11_feed 59 = .ok (.goto 17, 3) := by decide +kernel
theorem dX11_feed_62 : decode cX11_feed 62 = .ok (.iload 6, 2) := by decide +kernel
theorem dX11_feed_64 : decode cX11_feed 64 = .ok (.bipush 16, 2) := by decide +kernel
theorem dX11_feed_66 : decode cX11_feed 66 = .ok (.if_icmp .ge 8, 3) := by decide +kernel
theorem dX11_feed_69 : decode cX11_feed 69 = .ok (.iload 4, 2) := by decide +kernel
theorem dX11_feed_71 : decode cX11_feed 71 = .ok (.goto 5, 3) := by decide +kernel
theorem dX11_feed_74 : decode cX11_feed 74 = .ok (.iload 5, 2) := by decide +kernel
theorem dX11_feed_76 : decode cX11_feed 76 = .ok (.istore 7, 2) := by decide +kernel
theorem dX11_feed_78 : decode cX11_feed 78 = .ok (.aload_n 0, 1) := by decide +kernel
theorem dX11_feed_79 : decode cX11_feed 79 = .ok (.getfield 13, 3) := by decide +kernel
theorem dX11_feed_82 : decode cX11_feed 82 = .ok (.aload_n 0, 1) := by decide +kernel
theorem dX11_feed_83 : decode cX11_feed 83 = .ok (.getfield 334, 3) := by decide +kernel
theorem dX11_feed_86 : decode cX11_feed 86 = .ok (.iload 7, 2) := by decide +kernel
theorem dX11_feed_88 : decode cX11_feed 88 = .ok (.bipush 24, 2) := by decide +kernel
theorem dX11_feed_90 : decode cX11_feed 90 = .ok (.bipush 8, 2) := by decide +kernel
theorem dX11_feed_92 : decode cX11_feed 92 = .ok (.iload 6, 2) := by decide +kernel
theorem dX11_feed_94 : decode cX11_feed 94 = .ok (.iconst 4, 1) := by decide +kernel
theorem dX11_feed_95 : decode cX11_feed 95 = .ok (.irem, 1) := by decide +kernel
theorem dX11_feed_96 : decode cX11_feed 96 = .ok (.imul, 1) := by decide +kernel
theorem dX11_feed_97 : decode cX11_feed 97 = .ok (.isub, 1) := by decide +kernel
theorem dX11_feed_98 : decode cX11_feed 98 = .ok (.ishr, 1) := by decide +kernel
theorem dX11_feed_99 : decode cX11_feed 99 = .ok (.i2b, 1) := by decide +kernel
theorem dX11_feed_100 : decode cX11_feed 100 = .ok (.bastore, 1) := by decide +kernel
theorem dX11_feed_101 : decode cX11_feed 101 = .ok (.aload_n 0, 1) := by decide +kernel
theorem dX11_feed_102 : decode cX11_feed 102 = .ok (.dup, 1) := by decide +kernel
theorem dX11_feed_103 : decode cX11_feed 103 = .ok (.getfield 334, 3) := by decide +kernel
theorem dX11_feed_106 : decode cX11_feed 106 = .ok (.iconst 1, 1) := by decide +kernel
theorem dX11_feed_107 : decode cX11_feed 107 = .ok (.iadd, 1) := by decide +kernel
theorem dX11_feed_108 : decode cX11_feed 108 = .ok (.putfield 334, 3) := by decide +kernel
theorem dX11_feed_111 : decode cX11_feed 111 = .ok (.iinc 6 1, 3) := by decide +kernel
theorem dX11_feed_114 : decode cX11_feed 114 = .ok (.goto (-91), 3) := by decide +kernel
theorem dX11_feed_117 : decode cX11_feed 117 = .ok (.aload_n 0, 1) := by decide +kernel
theorem dX11_feed_118 : decode cX11_feed 118 = .ok (.getfield 334, 3) := by decide +kernel
theorem dX11_feed_121 : decode cX11_feed 121 = .ok (.ireturn, 1) := by decide +kernel
theorem dX11_ring_0 : decode cX11_ring 0 = .ok (.aload_n 0, 1) := by decide +kernel
theorem dX11_ring_1 : decode cX11_ring 1 = .ok (.iconst 0, 1) := by decide +kernel
theorem dX11_ring_2 : decode cX11_ring 2 = .ok (.putfield 78, 3) := by decide +kernel
theorem dX11_ring_5 : decode cX11_ring 5 = .ok (.iload_n 1, 1) := by decide +kernel
theorem dX11_ring_6 : decode cX11_ring 6 = .ok (.ifCond .lt 11, 3) := by decide +kernel
theorem dX11_ring_9 : decode cX11_ring 9 = .ok (.iload_n 1, 1) := by decide +kernel
theorem dX11_ring_10 : decode cX11_ring 10 = .ok (.aload_n 0, 1) := by decide +kernel
theorem dX11_ring_11 : decode cX11_ring 11 = .ok (.getfield 334, 3) := by decide +kernel
theorem dX11_ring_14 : decode cX11_ring 14 = .ok (.if_icmp .le 9, 3) := by decide +kernel
theorem dX11_ring_17 : decode cX11_ring 17 = .ok (.aload_n 0, 1) := by decide +kernel
theorem dX11_ring_18 : decode cX11_ring 18 = .ok (.iconst 2, 1) := by decide +kernel
theorem dX11_ring_19 : decode cX11_ring 19 = .ok (.invokevirtual 84, 3) := by decide +kernel
theorem dX11_ring_22 : decode cX11_ring 22 = .ok (.ireturn, 1) := by decide +kernel
theorem dX11_ring_23 : decode cX11_ring 23 = .ok (.aload_n 0, 1) := by decide +kernel
theorem dX11_ring_24 : decode cX11_ring 24 = .ok (.iload_n 1, 1) := by decide +kernel
theorem dX11_ring_25 : decode cX11_ring 25 = .ok (.putfield 95, 3) := by decide +kernel
theorem dX11_ring_28 : decode cX11_ring 28 = .ok (.aload_n 0, 1) := by decide +kernel
theorem dX11_ring_29 : decode cX11_ring 29 = .ok (.iconst 0, 1) := by decide +kernel
theorem dX11_ring_30 : decode cX11_ring 30 = .ok (.putfield 334, 3) := by decide +kernel
theorem dX11_ring_33 : decode cX11_ring 33 = .ok (.aload_n 0, 1) := by decide +kernel
theorem dX11_ring_34 : decode cX11_ring 34 = .ok (.iconst 0, 1) := by decide +kernel
theorem dX11_ring_35 : decode cX11_ring 35 = .ok (.putfield 113, 3) := by decide +kernel
theorem dX11_ring_38 : decode cX11_ring 38 = .ok (.aload_n 0, 1) := by decide +kernel
theorem dX11_ring_39 : decode cX11_ring 39 = .ok (.iconst 0, 1) := by decide +kernel
theorem dX11_ring_40 : decode cX11_ring 40 = .ok (.putfield 142, 3) := by decide +kernel
theorem dX11_ring_43 : decode cX11_ring 43 = .ok (.aload_n 0, 1) := by decide +kernel
theorem dX11_ring_44 : decode cX11_ring 44 = .ok (.new 195, 3) := by decide +kernel
theorem dX11_ring_47 : decode cX11_ring 47 = .ok (.dup, 1) := by decide +kernel
theorem dX11_ring_48 : decode cX11_ring 48 = .ok (.invokespecial 337, 3) := by decide +kernel
theorem dX11_ring_51 : decode cX11_ring 51 = .ok (.putfield 190, 3) := by decide +kernel
theorem dX11_ring_54 : decode cX11_ring 54 = .ok (.aload_n 0, 1) := by decide +kernel
theorem dX11_ring_55 : decode cX11_ring 55 = .ok (.iconst 0, 1) := by decide +kernel
theorem dX11_ring_56 : decode cX11_ring 56 = .ok (.putfield 110, 3) := by decide +kernel
theorem dX11_ring_59 : decode cX11_ring 59 = .ok (.aload_n 0, 1) := by decide +kernel
theorem dX11_ring_60 : decode cX11_ring 60 = .ok (.invokevirtual 155, 3) := by decide +kernel
theorem dX11_ring_63 : decode cX11_ring 63 = .ok (.aload_n 0, 1) := by decide +kernel
theorem dX11_ring_64 : decode cX11_ring 64 = .ok (.invokevirtual 338, 3) := by decide +kernel
theorem dX11_ring_67 : decode cX11_ring 67 = .ok (.aload_n 0, 1) := by decide +kernel
theorem dX11_ring_68 : decode cX11_ring 68 = .ok (.getfield 142, 3) := by decide +kernel
theorem dX11_ring_71 : decode cX11_ring 71 = .ok (.ifCond .le 18, 3) := by decide +kernel
theorem dX11_ring_74 : decode cX11_ring 74 = .ok (.aload_n 0, 1) := by decide +kernel
theorem dX11_ring_75 : decode cX11_ring 75 = .ok (.iconst 4, 1) := by decide +kernel
theorem dX11_ring_76 : decode cX11_ring 76 = .ok (.putfield 81, 3) := by decide +kernel
theorem dX11_ring_79 : decode cX11_ring 79 = .ok (.aload_n 0, 1) := by decide +kernel
theorem dX11_ring_80 : decode cX11_ring 80 = .ok (.aload_n 0, 1) := by decide +kernel
theorem dX11_ring_81 : decode cX11_ring 81 = .ok (.getfield 145, 3) := by decide +kernel
theorem dX11_ring_84 : decode cX11_ring 84 = .ok (.putfield 9, 3) := by decide +kernel
theorem dX11_ring_87 : decode cX11_ring 87 = .ok (.iconst (-1), 1) := by decide +kernel
theorem dX11_ring_88 : decode cX11_ring 88 = .ok (.ireturn, 1) := by decide +kernel
theorem dX11_ring_89 : decode cX11_ring 89 = .ok (.aload_n 0, 1) := by decide +kernel
theorem dX11_ring_90 : decode cX11_ring 90 = .ok (.aload_n 0, 1) := by decide +kernel
theorem dX11_ring_91 : decode cX11_ring 91 = .ok (.getfield 190, 3) := by decide +kernel
theorem dX11_ring_94 : decode cX11_ring 94 = .ok (.putfield 341, 3) := by decide +kernel
theorem dX11_ring_97 : decode cX11_ring 97 = .ok (.iconst 0, 1) := by decide +kernel
theorem dX11_ring_98 : decode cX11_ring 98 = .ok (.istore_n 2, 1) := by decide +kernel
theorem dX11_ring_99 : decode cX11_ring 99 = .ok (.iload_n 2, 1) := by decide +kernel
theorem dX11_ring_100 : decode cX11_ring 100 = .ok (.sipush 216, 3) := by decide +kernel
theorem dX11_ring_103 : decode cX11_ring 103 = .ok (.if_icmp .ge 24, 3) := by decide +kernel
theorem dX11_ring_106 : decode cX11_ring 106 = .ok (.aload_n 0, 1) := by decide +kernel
theorem dX11_ring_107 : decode cX11_ring 107 = .ok (.getfield 17, 3) := by decide +kernel
theorem dX11_ring_110 : decode cX11_ring 110 = .ok (.iload_n 2, 1) := by decide +kernel
theorem dX11_ring_111 : decode cX11_ring 111 = .ok (.aload_n 0, 1) := by decide +kernel
theorem dX11_ring_112 : decode cX11_ring 112 = .ok (.getfield 341, 3) := by decide +kernel
theorem dX11_ring_115 : decode cX11_ring 115 = .ok (.getfield 262, 3) := by decide +kernel
theorem dX11_ring_118 : decode cX11_ring 118 = .ok (.iload_n 2, 1) := by decide +kernel
theorem dX11_ring_119 : decode cX11_ring 119 = .ok (.iaload, 1) := by decide +kernel
theorem dX11_ring_120 : decode cX11_ring 120 = .ok (.iastore, 1) := by decide +kernel
theorem dX11_ring_121 : decode cX11_ring 121 = .ok (.iinc 2 1, 3) := by decide +kernel
theorem dX11_ring_124 : decode cX11_ring 124 = .ok (.goto (-25), 3) := by decide +kernel
theorem dX11_ring_127 : decode cX11_ring 127 = .ok (.iconst 0, 1) := by decide +kernel
theorem dX11_ring_128 : decode cX11_ring 128 = .ok (.istore_n 2, 1) := by decide +kernel
theorem dX11_ring_129 : decode cX11_ring 129 = .ok (.iload_n 2, 1) := by decide +kernel
theorem dX11_ring_130 : decode cX11_ring 130 = .ok (.bipush 6, 2) := by decide +kernel
theorem dX11_ring_132 : decode cX11_ring 132 = .ok (.if_icmp .ge 84, 3) := by decide +kernel
theorem dX11_ring_135 : decode cX11_ring 135 = .ok (.aload_n 0, 1) := by decide +kernel
theorem dX11_ring_136 : decode cX11_ring 136 = .ok (.getfield 17, 3) := by decide +kernel
theorem dX11_ring_139 : decode cX11_ring 139 = .ok (.sipush 216, 3) := by decide +kernel
theorem dX11_ring_142 : decode cX11_ring 142 = .ok (.iload_n 2, 1) := by decide +kernel
theorem dX11_ring_143 : decode cX11_ring 143 = .ok (.iadd, 1) := by decide +kernel
theorem dX11_ring_144 : decode cX11_ring 144 = .ok (.iload_n 2, 1) := by decide +kernel
theorem dX11_ring_145 : decode cX11_ring 145 = .ok (.aload_n 0, 1) := by decide +kernel
theorem dX11_ring_146 : decode cX11_ring 146 = .ok (.getfield 341, 3) := by decide +kernel
theorem dX11_ring_149 : decode cX11_ring 149 = .ok (.getfield 230, 3) := by decide +kernel
theorem dX11_ring_152 : decode cX11_ring 152 = .ok (.if_icmp .ge 15, 3) := by decide +kernel
theorem dX11_ring_155 : decode cX11_ring 155 = .ok (.aload_n 0, 1) := by decide +kernel
theorem dX11_ring_156 : decode cX11_ring 156 = .ok (.getfield 341, 3) := by decide +kernel
theorem dX11_ring_159 : decode cX11_ring 159 = .ok (.getfield 268, 3) := by decide +kernel
theorem dX11_ring_162 : decode cX11_ring 162 = .ok (.iload_n 2, 1) := by decide +kernel
theorem dX11_ring_163 : decode cX11_ring 163 = .ok (.iaload, 1) := by decide +kernel
theorem dX11_ring_164 : decode cX11_ring 164 = .ok (.goto 5, 3) := by decide +kernel
theorem dX11_ring_167 : decode cX11_ring 167 = .ok (.bipush (-2), 2) := by decide +kernel
theorem dX11_ring_169 : decode cX11_ring 169 = .ok (.iastore, 1) := by decide +kernel
theorem dX11_ring_170 : decode cX11_ring 170 = .ok (.iconst 0, 1) := by decide +kernel
theorem dX11_ring_171 : decode cX11_ring 171 = .ok (.istore_n 3, 1) := by decide +kernel
theorem dX11_ring_172 : decode cX11_ring 172 = .ok (.iload_n 3, 1) := by decide +kernel
theorem dX11_ring_173 : decode cX11_ring 173 = .ok (.iconst 4, 1) := by decide +kernel
theorem dX11_ring_174 : decode cX11_ring 174 = .ok (.if_icmp .ge 36, 3) := by decide +kernel
theorem dX11_ring_177 : decode cX11_ring 177 = .ok (.aload_n 0, 1) := by decide +kernel
theorem dX11_ring_178 : decode cX11_ring 178 = .ok (.getfield 17, 3) := by decide +kernel
theorem dX11_ring_181 : decode cX11_ring 181 = .ok (.sipush 222, 3) := by decide +kernel
theorem dX11_ring_184 : decode cX11_ring 184 = .ok (.iconst 4, 1) := by decide +kernel
theorem dX11_ring_185 : decode cX11_ring 185 = .ok (.iload_n 2, 1) := by decide +kernel
theorem dX11_ring_186 : decode cX11_ring 186 = .ok (.imul, 1) := by decide +kernel
theorem dX11_ring_187 : decode cX11_ring 187 = .ok (.iadd, 1) := by decide +kernel
theorem dX11_ring_188 : decode cX11_ring 188 = .ok (.iload_n 3, 1) := by decide +kernel
theorem dX11_ring_189 : decode cX11_ring 189 = .ok (.iadd, 1) := by decide +kernel
theorem dX11_ring_190 : decode cX11_ring 190 = .ok (.aload_n 0, 1) := by decide +kernel
theorem dX11_ring_191 : decode cX11_ring 191 = .ok (.getfield 341, 3) := by decide +kernel
theorem dX11_ring_194 : decode cX11_ring 194 = .ok (.getfield 270, 3) := by decide +kernel
theorem dX11_ring_197 : decode cX11_ring 197 = .ok (.iconst 4, 1) := by decide +kernel
theorem dX11_ring_198 : decode cX11_ring 198 = .ok (.iload_n 2, 1) := by decide +kernel
theorem dX11_ring_199 : decode cX11_ring 199 = .ok (.imul, 1) := by decide +kernel
theorem dX11_ring_200 : decode cX11_ring 200 = .ok (.iload_n 3, 1) := by decide +kernel
theorem dX11_ring_201 : decode cX11_ring 201 = .ok (.iadd, 1) := by decide +kernel
theorem dX11_ring_202 : decode cX11_ring 202 = .ok (.iaload, 1) := by decide +kernel
theorem dX11_ring_203 : decode cX11_ring 203 = .ok (.iastore, 1) := by decide +kernel
theorem dX11_ring_204 : decode cX11_ring 204 = .ok (.iinc 3 1, 3) := by decide +kernel
theorem dX11_ring_207 : decode cX11_ring 207 = .ok (.goto (-35), 3) := by decide +kernel
theorem dX11_ring_210 : decode cX11_ring 210 = .ok (.iinc 2 1, 3) := by decide +kernel
theorem dX11_ring_213 : decode cX11_ring 213 = .ok (.goto (-84), 3) := by decide +kernel
theorem dX11_ring_216 : decode cX11_ring 216 = .ok (.aload_n 0, 1) := by decide +kernel
theorem dX11_ring_217 : decode cX11_ring 217 = .ok (.getfield 17, 3) := by decide +kernel
theorem dX11_ring_220 : decode cX11_ring 220 = .ok (.sipush 246, 3) := by decide +kernel
theorem dX11_ring_223 : decode cX11_ring 223 = .ok (.iconst 0, 1) := by decide +kernel
theorem dX11_ring_224 : decode cX11_ring 224 = .ok (.iastore, 1) := by decide +kernel
theorem dX11_ring_225 : decode cX11_ring 225 = .ok (.aload_n 0, 1) := by decide +kernel
theorem dX11_ring_226 : decode cX11_ring 226 = .ok (.getfield 17, 3) := by decide +kernel
theorem dX11_ring_229 : decode cX11_ring 229 = .ok (.sipush 247, 3) := by decide +kernel
theorem dX11_ring_232 : decode cX11_ring 232 = .ok (.iconst 0, 1) := by decide +kernel
theorem dX11_ring_233 : decode cX11_ring 233 = .ok (.iastore, 1) := by decide +kernel
theorem dX11_ring_234 : decode cX11_ring 234 = .ok (.aload_n 0, 1) := by decide +kernel
theorem dX11_ring_235 : decode cX11_ring 235 = .ok (.iconst 0, 1) := by decide +kernel
theorem dX11_ring_236 : decode cX11_ring 236 = .ok (.putfield 343, 3) := by decide +kernel
theorem dX11_ring_239 : decode cX11_ring 239 = .ok (.aload_n 0, 1) := by decide +kernel
theorem dX11_ring_240 : decode cX11_ring 240 = .ok (.iconst 0, 1) := by decide +kernel
theorem dX11_ring_241 : decode cX11_ring 241 = .ok (.putfield 346, 3) := by decide +kernel
theorem dX11_ring_244 : decode cX11_ring 244 = .ok (.aload_n 0, 1) := by decide +kernel
theorem dX11_ring_245 : decode cX11_ring 245 = .ok (.aload_n 0, 1) := by decide +kernel
theorem dX11_ring_246 : decode cX11_ring 246 = .ok (.getfield 341, 3) := by decide +kernel
theorem dX11_ring_249 : decode cX11_ring 249 = .ok (.getfield 230, 3) := by decide +kernel
theorem dX11_ring_252 : decode cX11_ring 252 = .ok (.invokevirtual 88, 3) := by decide +kernel
theorem dX11_ring_255 : decode cX11_ring 255 = .ok (.ireturn, 1) := by decide +kernel
theorem dX11_fault_0 : decode cX11_fault 0 = .ok (.aload_n 0, 1) := by decide +kernel
theorem dX11_fault_1 : decode cX11_fault 1 = .ok (.iconst 0, 1) := by decide +kernel
theorem dX11_fault_2 : decode cX11_fault 2 = .ok (.putfield 78, 3) := by decide +kernel
theorem dX11_fault_5 : decode cX11_fault 5 = .ok (.aload_n 0, 1) := by decide +kernel
theorem dX11_fault_6 : decode cX11_fault 6 = .ok (.getfield 142, 3) := by decide +kernel
theorem dX11_fault_9 : decode cX11_fault 9 = .ok (.ireturn, 1) := by decide +kernel
theorem dX11_where_0 : decode cX11_where 0 = .ok (.aload_n 0, 1) := by decide +kernel
theorem dX11_where_1 : decode cX11_where 1 = .ok (.iconst 0, 1) := by decide +kernel
theorem dX11_where_2 : decode cX11_where 2 = .ok (.putfield 78, 3) := by decide +kernel
theorem dX11_where_5 : decode cX11_where 5 = .ok (.aload_n 0, 1) := by decide +kernel
theorem dX11_where_6 : decode cX11_where 6 = .ok (.getfield 9, 3) := by decide +kernel
theorem dX11_where_9 : decode cX11_where 9 = .ok (.ireturn, 1) := by decide +kernel
theorem dX11_isTown_0 : decode cX11_isTown 0 = .ok (.aload_n 0, 1) := by decide +kernel
theorem dX11_isTown_1 : decode cX11_isTown 1 = .ok (.getfield 341, 3) := by decide +kernel
theorem dX11_isTown_4 : decode cX11_isTown 4 = .ok (.ifnull 22, 3) := by decide +kernel
theorem dX11_isTown_7 : decode cX11_isTown 7 = .ok (.iload_n 1, 1) := by decide +kernel
theorem dX11_isTown_8 : decode cX11_isTown 8 = .ok (.ifCond .lt 18, 3) := by decide +kernel
theorem dX11_isTown_11 : decode cX11_isTown 11 = .ok (.iload_n 1, 1) := by decide +kernel
theorem dX11_isTown_12 : decode cX11_isTown 12 = .ok (.aload_n 0, 1) := by decide +kernel
theorem dX11_isTown_13 : decode cX11_isTown 13 = .ok (.getfield 341, 3) := by decide +kernel
theorem dX11_isTown_16 : decode cX11_isTown 16 = .ok (.getfield 230, 3) := by decide +kernel
theorem dX11_isTown_19 : decode cX11_isTown 19 = .ok (.if_icmp .ge 7, 3) := by decide +kernel
theorem dX11_isTown_22 : decode cX11_isTown 22 = .ok (.iconst 1, 1) := by decide +kernel
theorem dX11_isTown_23 : decode cX11_isTown 23 = .ok (.goto 4, 3) := by decide +kernel
theorem dX11_isTown_26 : decode cX11_isTown 26 = .ok (.iconst 0, 1) := by decide +kernel
theorem dX11_isTown_27 : decode cX11_isTown 27 = .ok (.ireturn, 1) := by decide +kernel
theorem dX11_isMark_0 : decode cX11_isMark 0 = .ok (.iload_n 1, 1) := by decide +kernel
theorem dX11_isMark_1 : decode cX11_isMark 1 = .ok (.ifCond .lt 18, 3) := by decide +kernel
theorem dX11_isMark_4 : decode cX11_isMark 4 = .ok (.iload_n 1, 1) := by decide +kernel
theorem dX11_isMark_5 : decode cX11_isMark 5 = .ok (.aload_n 0, 1) := by decide +kernel
theorem dX11_isMark_6 : decode cX11_isMark 6 = .ok (.getfield 341, 3) := by decide +kernel
theorem dX11_isMark_9 : decode cX11_isMark 9 = .ok (.getfield 215, 3) := by decide +kernel
theorem dX11_isMark_12 : decode cX11_isMark 12 = .ok (.if_icmp .ge 7, 3) := by decide +kernel
theorem dX11_isMark_15 : decode cX11_isMark 15 = .ok (.iconst 1, 1) := by decide +kernel
theorem dX11_isMark_16 : decode cX11_isMark 16 = .ok (.goto 4, 3) := by decide +kernel
theorem dX11_isMark_19 : decode cX11_isMark 19 = .ok (.iconst 0, 1) := by decide +kernel
theorem dX11_isMark_20 : decode cX11_isMark 20 = .ok (.ireturn, 1) := by decide +kernel
theorem dX11_placeOf_0 : decode cX11_placeOf 0 = .ok (.iload_n 1, 1) := by decide +kernel
theorem dX11_placeOf_1 : decode cX11_placeOf 1 = .ok (.bipush 10, 2) := by decide +kernel
theorem dX11_placeOf_3 : decode cX11_placeOf 3 = .ok (.idiv, 1) := by decide +kernel
theorem dX11_placeOf_4 : decode cX11_placeOf 4 = .ok (.istore_n 2, 1) := by decide +kernel
theorem dX11_placeOf_5 : decode cX11_placeOf 5 = .ok (.iload_n 1, 1) := by decide +kernel
theorem dX11_placeOf_6 : decode cX11_placeOf 6 = .ok (.bipush 10, 2) := by decide +kernel
theorem dX11_placeOf_8 : decode cX11_placeOf 8 = .ok (.irem, 1) := by decide +kernel
theorem dX11_placeOf_9 : decode cX11_placeOf 9 = .ok (.istore_n 3, 1) := by decide +kernel
theorem dX11_placeOf_10 : decode cX11_placeOf 10 = .ok (.iload_n 1, 1) := by decide +kernel
theorem dX11_placeOf_11 : decode cX11_placeOf 11 = .ok (.ifCond .lt 25, 3) := by decide +kernel
theorem dX11_placeOf_14 : decode cX11_placeOf 14 = .ok (.iload_n 2, 1) := by decide +kernel
theorem dX11_placeOf_15 : decode cX11_placeOf 15 = .ok (.aload_n 0, 1) := by decide +kernel
theorem dX11_placeOf_16 : decode cX11_placeOf 16 = .ok (.getfield 341, 3) := by decide +kernel
theorem dX11_placeOf_19 : decode cX11_placeOf 19 = .ok (.getfield 194, 3) := by decide +kernel
theorem dX11_placeOf_22 : decode cX11_placeOf 22 = .ok (.if_icmp .ge 14, 3) := by decide +kernel
theorem dX11_placeOf_25 : decode cX11_placeOf 25 = .ok (.iload_n 3, 1) := by decide +kernel
theorem dX11_placeOf_26 : decode cX11_placeOf 26 = .ok (.aload_n 0, 1) := by decide +kernel
theorem dX11_placeOf_27 : decode cX11_placeOf 27 = .ok (.getfield 341, 3) := by decide +kernel
theorem dX11_placeOf_30 : decode cX11_placeOf 30 = .ok (.getfield 256, 3) := by decide +kernel
theorem dX11_placeOf_33 : decode cX11_placeOf 33 = .ok (.if_icmp .lt 7, 3) := by decide +kernel
theorem dX11_placeOf_36 : decode cX11_placeOf 36 = .ok (.iconst (-1), 1) := by decide +kernel
theorem dX11_placeOf_37 : decode cX11_placeOf 37 = .ok (.goto 14, 3) := by decide +kernel
theorem dX11_placeOf_40 : decode cX11_placeOf 40 = .ok (.iload_n 3, 1) := by decide +kernel
theorem dX11_placeOf_41 : decode cX11_placeOf 41 = .ok (.aload_n 0, 1) := by decide +kernel
theorem dX11_placeOf_42 : decode cX11_placeOf 42 = .ok (.getfield 341, 3) := by decide +kernel
theorem dX11_placeOf_45 : decode cX11_placeOf 45 = .ok (.getfield 194, 3) := by decide +kernel
theorem dX11_placeOf_48 : decode cX11_placeOf 48 = .ok (.imul, 1) := by decide +kernel
theorem dX11_placeOf_49 : decode cX11_placeOf 49 = .ok (.iload_n 2, 1) := by decide +kernel
theorem dX11_placeOf_50 : decode cX11_placeOf 50 = .ok (.iadd, 1) := by decide +kernel
theorem dX11_placeOf_51 : decode cX11_placeOf 51 = .ok (.ireturn, 1) := by decide +kernel
theorem dX11_told_0 : decode cX11_told 0 = .ok (.bipush 10, 2) := by decide +kernel
theorem dX11_told_2 : decode cX11_told 2 = .ok (.iload_n 1, 1) := by decide +kernel
theorem dX11_told_3 : decode cX11_told 3 = .ok (.aload_n 0, 1) := by decide +kernel
theorem dX11_told_4 : decode cX11_told 4 = .ok (.getfield 341, 3) := by decide +kernel
theorem dX11_told_7 : decode cX11_told 7 = .ok (.getfield 194, 3) := by decide +kernel
theorem dX11_told_10 : decode cX11_told 10 = .ok (.irem, 1) := by decide +kernel
theorem dX11_told_11 : decode cX11_told 11 = .ok (.imul, 1) := by decide +kernel
theorem dX11_told_12 : decode cX11_told 12 = .ok (.iload_n 1, 1) := by decide +kernel
theorem dX11_told_13 : decode cX11_told 13 = .ok (.aload_n 0, 1) := by decide +kernel
theorem dX11_told_14 : decode cX11_told 14 = .ok (.getfield 341, 3) := by decide +kernel
theorem dX11_told_17 : decode cX11_told 17 = .ok (.getfield 194, 3) := by decide +kernel
theorem dX11_told_20 : decode cX11_told 20 = .ok (.idiv, 1) := by decide +kernel
theorem dX11_told_21 : decode cX11_told 21 = .ok (.iadd, 1) := by decide +kernel
theorem dX11_told_22 : decode cX11_told 22 = .ok (.ireturn, 1) := by decide +kernel
theorem dX11_isPlace_0 : decode cX11_isPlace 0 = .ok (.aload_n 0, 1) := by decide +kernel
theorem dX11_isPlace_1 : decode cX11_isPlace 1 = .ok (.iload_n 1, 1) := by decide +kernel
theorem dX11_isPlace_2 : decode cX11_isPlace 2 = .ok (.invokevirtual 349, 3) := by decide +kernel
theorem dX11_isPlace_5 : decode cX11_isPlace 5 = .ok (.ifCond .eq 16, 3) := by decide +kernel
theorem dX11_isPlace_8 : decode cX11_isPlace 8 = .ok (.aload_n 0, 1) := by decide +kernel
theorem dX11_isPlace_9 : decode cX11_isPlace 9 = .ok (.iload_n 2, 1) := by decide +kernel
theorem dX11_isPlace_10 : decode cX11_isPlace 10 = .ok (.invokevirtual 352, 3) := by decide +kernel
theorem dX11_isPlace_13 : decode cX11_isPlace 13 = .ok (.iconst (-1), 1) := by decide +kernel
theorem dX11_isPlace_14 : decode cX11_isPlace 14 = .ok (.if_icmp .eq 7, 3) := by decide +kernel
theorem dX11_isPlace_17 : decode cX11_isPlace 17 = .ok (.iconst 1, 1) := by decide +kernel
theorem dX11_isPlace_18 : decode cX11_isPlace 18 = .ok (.goto 4, 3) := by decide +kernel
theorem dX11_isPlace_21 : decode cX11_isPlace 21 = .ok (.iconst 0, 1) := by decide +kernel
theorem dX11_isPlace_22 : decode cX11_isPlace 22 = .ok (.ireturn, 1) := by decide +kernel
theorem dX11_starts_0 : decode cX11_starts 0 = .ok (.iconst 0, 1) := by decide +kernel
theorem dX11_starts_1 : decode cX11_starts 1 = .ok (.istore_n 1, 1) := by decide +kernel
theorem dX11_starts_2 : decode cX11_starts 2 = .ok (.iload_n 1, 1) := by decide +kernel
theorem dX11_starts_3 : decode cX11_starts 3 = .ok (.sipush 216, 3) := by decide +kernel
theorem dX11_starts_6 : decode cX11_starts 6 = .ok (.if_icmp .ge 21, 3) := by decide +kernel
theorem dX11_starts_9 : decode cX11_starts 9 = .ok (.aload_n 0, 1) := by decide +kernel
theorem dX11_starts_10 : decode cX11_starts 10 = .ok (.getfield 28, 3) := by decide +kernel
theorem dX11_starts_13 : decode cX11_starts 13 = .ok (.iload_n 1, 1) := by decide +kernel
theorem dX11_starts_14 : decode cX11_starts 14 = .ok (.aload_n 0, 1) := by decide +kernel
theorem dX11_starts_15 : decode cX11_starts 15 = .ok (.getfield 17, 3) := by decide +kernel
theorem dX11_starts_18 : decode cX11_starts 18 = .ok (.iload_n 1, 1) := by decide +kernel
theorem dX11_starts_19 : decode cX11_starts 19 = .ok (.iaload, 1) := by decide +kernel
theorem dX11_starts_20 : decode cX11_starts 20 = .ok (.iastore, 1) := by decide +kernel
theorem dX11_starts_21 : decode cX11_starts 21 = .ok (.iinc 1 1, 3) := by decide +kernel
theorem dX11_starts_24 : decode cX11_starts 24 = .ok (.goto (-22), 3) := by decide +kernel
theorem dX11_starts_27 : decode cX11_starts 27 = .ok (.iconst 0, 1) := by decide +kernel
theorem dX11_starts_28 : decode cX11_starts 28 = .ok (.istore_n 1, 1) := by decide +kernel
theorem dX11_starts_29 : decode cX11_starts 29 = .ok (.iload_n 1, 1) := by decide +kernel
theorem dX11_starts_30 : decode cX11_starts 30 = .ok (.bipush 6, 2) := by decide +kernel
theorem dX11_starts_32 : decode cX11_starts 32 = .ok (.if_icmp .ge 62, 3) := by decide +kernel
theorem dX11_starts_35 : decode cX11_starts 35 = .ok (.aload_n 0, 1) := by decide +kernel
theorem dX11_starts_36 : decode cX11_starts 36 = .ok (.getfield 31, 3) := by decide +kernel
theorem dX11_starts_39 : decode cX11_starts 39 = .ok (.iload_n 1, 1) := by decide +kernel
theorem dX11_starts_40 : decode cX11_starts 40 = .ok (.aload_n 0, 1) := by decide +kernel
theorem dX11_starts_41 : decode cX11_starts 41 = .ok (.getfield 17, 3) := by decide +kernel
theorem dX11_starts_44 : decode cX11_starts 44 = .ok (.sipush 216, 3) := by decide +kernel
theorem dX11_starts_47 : decode cX11_starts 47 = .ok (.iload_n 1, 1) := by decide +kernel
theorem dX11_starts_48 : decode cX11_starts 48 = .ok (.iadd, 1) := by decide +kernel
theorem dX11_starts_49 : decode cX11_starts 49 = .ok (.iaload, 1) := by decide +kernel
theorem dX11_starts_50 : decode cX11_starts 50 = .ok (.iastore, 1) := by decide +kernel
theorem dX11_starts_51 : decode cX11_starts 51 = .ok (.iconst 0, 1) := by decide +kernel
theorem dX11_starts_52 : decode cX11_starts 52 = .ok (.istore_n 2, 1) := by decide +kernel
theorem dX11_starts_53 : decode cX11_starts 53 = .ok (.iload_n 2, 1) := by decide +kernel
theorem dX11_starts_54 : decode cX11_starts 54 = .ok (.iconst 4, 1) := by decide +kernel
theorem dX11_starts_55 : decode cX11_starts 55 = .ok (.if_icmp .ge 33, 3) := by decide +kernel
theorem dX11_starts_58 : decode cX11_starts 58 = .ok (.aload_n 0, 1) := by decide +kernel
theorem dX11_starts_59 : decode cX11_starts 59 = .ok (.getfield 34, 3) := by decide +kernel
theorem dX11_starts_62 : decode cX11_starts 62 = .ok (.iconst 4, 1) := by decide +kernel
theorem dX11_starts_63 : decode cX11_starts 63 = .ok (.iload_n 1, 1) := by decide +kernel
theorem dX11_starts_64 : decode cX11_starts 64 = .ok (.imul, 1) := by decide +kernel
theorem dX11_starts_65 : decode cX11_starts 65 = .ok (.iload_n 2, 1) := by decide +kernel
theorem dX11_starts_66 : decode cX11_starts 66 = .ok (.iadd, 1) := by decide +kernel
theorem dX11_starts_67 : decode cX11_starts 67 = .ok (.aload_n 0, 1) := by decide +kernel
theorem dX11_starts_68 : decode cX11_starts 68 = .ok (.getfield 17, 3) := by decide +kernel
theorem dX11_starts_71 : decode cX11_starts 71 = .ok (.sipush 222, 3) := by decide +kernel
theorem dX11_starts_74 : decode cX11_starts 74 = .ok (.iconst 4, 1) := by decide +kernel
theorem dX11_starts_75 : decode cX11_starts 75 = .ok (.iload_n 1, 1) := by decide +kernel
theorem dX11_starts_76 : decode cX11_starts 76 = .ok (.imul, 1) := by decide +kernel
theorem dX11_starts_77 : decode cX11_starts 77 = .ok (.iadd, 1) := by decide +kernel
theorem dX11_starts_78 : decode cX11_starts 78 = .ok (.iload_n 2, 1) := by decide +kernel
theorem dX11_starts_79 : decode cX11_starts 79 = .ok (.iadd, 1) := by decide +kernel
theorem dX11_starts_80 : decode cX11_starts 80 = .ok (.iaload, 1) := by decide +kernel
theorem dX11_starts_81 : decode cX11_starts 81 = .ok (.iastore, 1) := by decide +kernel
theorem dX11_starts_82 : decode cX11_starts 82 = .ok (.iinc 2 1, 3) := by decide +kernel
theorem dX11_starts_85 : decode cX11_starts 85 = .ok (.goto (-32), 3) := by decide +kernel
theorem dX11_starts_88 : decode cX11_starts 88 = .ok (.iinc 1 1, 3) := by decide +kernel
theorem dX11_starts_91 : decode cX11_starts 91 = .ok (.goto (-62), 3) := by decide +kernel
theorem dX11_starts_94 : decode cX11_starts 94 = .ok (.aload_n 0, 1) := by decide +kernel
theorem dX11_starts_95 : decode cX11_starts 95 = .ok (.aload_n 0, 1) := by decide +kernel
theorem dX11_starts_96 : decode cX11_starts 96 = .ok (.getfield 17, 3) := by decide +kernel
theorem dX11_starts_99 : decode cX11_starts 99 = .ok (.sipush 247, 3) := by decide +kernel
theorem dX11_starts_102 : decode cX11_starts 102 = .ok (.iaload, 1) := by decide +kernel
theorem dX11_starts_103 : decode cX11_starts 103 = .ok (.putfield 355, 3) := by decide +kernel
theorem dX11_starts_106 : decode cX11_starts 106 = .ok (.return_, 1) := by decide +kernel
theorem dX11_startsTold_0 : decode cX11_startsTold 0 = .ok (.iconst 0, 1) := by decide +kernel
theorem dX11_startsTold_1 : decode cX11_startsTold 1 = .ok (.istore_n 1, 1) := by decide +kernel
theorem dX11_startsTold_2 : decode cX11_startsTold 2 = .ok (.iload_n 1, 1) := by decide +kernel
theorem dX11_startsTold_3 : decode cX11_startsTold 3 = .ok (.sipush 216, 3) := by decide +kernel
theorem dX11_startsTold_6 : decode cX11_startsTold 6 = .ok (.if_icmp .ge 24, 3) := by decide +kernel
theorem dX11_startsTold_9 : decode cX11_startsTold 9 = .ok (.aload_n 0, 1) := by decide +kernel
theorem dX11_startsTold_10 : decode cX11_startsTold 10 = .ok (.getfield 28, 3) := by decide +kernel
theorem dX11_startsTold_13 : decode cX11_startsTold 13 = .ok (.iload_n 1, 1) := by decide +kernel
theorem dX11_startsTold_14 : decode cX11_startsTold 14 = .ok (.aload_n 0, 1) := by decide +kernel
theorem dX11_startsTold_15 : decode cX11_startsTold 15 = .ok (.getfield 341, 3) := by decide +kernel
theorem dX11_startsTold_18 : decode cX11_startsTold 18 = .ok (.getfield 262, 3) := by decide +kernel
theorem dX11_startsTold_21 : decode cX11_startsTold 21 = .ok (.iload_n 1, 1) := by decide +kernel
theorem dX11_startsTold_22 : decode cX11_startsTold 22 = .ok (.iaload, 1) := by decide +kernel
theorem dX11_startsTold_23 : decode cX11_startsTold 23 = .ok (.iastore, 1) := by decide +kernel
theorem dX11_startsTold_24 : decode cX11_startsTold 24 = .ok (.iinc 1 1, 3) := by decide +kernel
theorem dX11_startsTold_27 : decode cX11_startsTold 27 = .ok (.goto (-25), 3) := by decide +kernel
theorem dX11_startsTold_30 : decode cX11_startsTold 30 = .ok (.iconst 0, 1) := by decide +kernel
theorem dX11_startsTold_31 : decode cX11_startsTold 31 = .ok (.istore_n 1, 1) := by decide +kernel
theorem dX11_startsTold_32 : decode cX11_startsTold 32 = .ok (.iload_n 1, 1) := by decide +kernel
theorem dX11_startsTold_33 : decode cX11_startsTold 33 = .ok (.bipush 6, 2) := by decide +kernel
theorem dX11_startsTold_35 : decode cX11_startsTold 35 = .ok (.if_icmp .ge 76, 3) := by decide +kernel
theorem dX11_startsTold_38 : decode cX11_startsTold 38 = .ok (.aload_n 0, 1) := by decide +kernel
theorem dX11_startsTold_39 : decode cX11_startsTold 39 = .ok (.getfield 31, 3) := by decide +kernel
theorem dX11_startsTold_42 : decode cX11_startsTold 42 = .ok (.iload_n 1, 1) := by decide +kernel
theorem dX11_startsTold_43 : decode cX11_startsTold 43 = .ok (.iload_n 1, 1) := by decide +kernel
theorem dX11_startsTold_44 : decode cX11_startsTold 44 = .ok (.aload_n 0, 1) := by decide +kernel
theorem dX11_startsTold_45 : decode cX11_startsTold 45 = .ok (.getfield 341, 3) := by decide +kernel
theorem dX11_startsTold_48 : decode cX11_startsTold 48 = .ok (.getfield 230, 3) := by decide +kernel
theorem dX11_startsTold_51 : decode cX11_startsTold 51 = .ok (.if_icmp .ge 15, 3) := by decide +kernel
theorem dX11_startsTold_54 : decode cX11_startsTold 54 = .ok (.aload_n 0, 1) := by decide +kernel
theorem dX11_startsTold_55 : decode cX11_startsTold 55 = .ok (.getfield 341, 3) := by decide +kernel
theorem dX11_startsTold_58 : decode cX11_startsTold 58 = .ok (.getfield 268, 3) := by decide +kernel
theorem dX11_startsTold_61 : decode cX11_startsTold 61 = .ok (.iload_n 1, 1) := by decide +kernel
theorem dX11_startsTold_62 : decode cX11_startsTold 62 = .ok (.iaload, 1) := by decide +kernel
theorem dX11_startsTold_63 : decode cX11_startsTold 63 = .ok (.goto 5, 3) := by decide +kernel
theorem dX11_startsTold_66 : decode cX11_startsTold 66 = .ok (.bipush (-2), 2) := by decide +kernel
theorem dX11_startsTold_68 : decode cX11_startsTold 68 = .ok (.iastore, 1) := by decide +kernel
theorem dX11_startsTold_69 : decode cX11_startsTold 69 = .ok (.iconst 0, 1) := by decide +kernel
theorem dX11_startsTold_70 : decode cX11_startsTold 70 = .ok (.istore_n 2, 1) := by decide +kernel
theorem dX11_startsTold_71 : decode cX11_startsTold 71 = .ok (.iload_n 2, 1) := by decide +kernel
theorem dX11_startsTold_72 : decode cX11_startsTold 72 = .ok (.iconst 4, 1) := by decide +kernel
theorem dX11_startsTold_73 : decode cX11_startsTold 73 = .ok (.if_icmp .ge 32, 3) := by decide +kernel
theorem dX11_startsTold_76 : decode cX11_startsTold 76 = .ok (.aload_n 0, 1) := by decide +kernel
theorem dX11_startsTold_77 : decode cX11_startsTold 77 = .ok (.getfield 34, 3) := by decide +kernel
theorem dX11_startsTold_80 : decode cX11_startsTold 80 = .ok (.iconst 4, 1) := by decide +kernel
theorem dX11_startsTold_81 : decode cX11_startsTold 81 = .ok (.iload_n 1, 1) := by decide +kernel
theorem dX11_startsTold_82 : decode cX11_startsTold 82 = .ok (.imul, 1) := by decide +kernel
theorem dX11_startsTold_83 : decode cX11_startsTold 83 = .ok (.iload_n 2, 1) := by decide +kernel
theorem dX11_startsTold_84 : decode cX11_startsTold 84 = .ok (.iadd, 1) := by decide +kernel
theorem dX11_startsTold_85 : decode cX11_startsTold 85 = .ok (.aload_n 0, 1) := by decide +kernel
theorem dX11_startsTold_86 : decode cX11_startsTold 86 = .ok (.getfield 341, 3) := by decide +kernel
theorem dX11_startsTold_89 : decode cX11_startsTold 89 = .ok (.getfield 270, 3) := by decide +kernel
theorem dX11_startsTold_92 : decode cX11_startsTold 92 = .ok (.iconst 4, 1) := by decide +kernel
theorem dX11_startsTold_93 : decode cX11_startsTold 93 = .ok (.iload_n 1, 1) := by decide +kernel
theorem dX11_startsTold_94 : decode cX11_startsTold 94 = .ok (.imul, 1) := by decide +kernel
theorem dX11_startsTold_95 : decode cX11_startsTold 95 = .ok (.iload_n 2, 1) := by decide +kernel
theorem dX11_startsTold_96 : decode cX11_startsTold 96 = .ok (.iadd, 1) := by decide +kernel
theorem dX11_startsTold_97 : decode cX11_startsTold 97 = .ok (.iaload, 1) := by decide +kernel
theorem dX11_startsTold_98 : decode cX11_startsTold 98 = .ok (.iastore, 1) := by decide +kernel
theorem dX11_startsTold_99 : decode cX11_startsTold 99 = .ok (.iinc 2 1, 3) := by decide +kernel
theorem dX11_startsTold_102 : decode cX11_startsTold 102 = .ok (.goto (-31), 3) := by decide +kernel
theorem dX11_startsTold_105 : decode cX11_startsTold 105 = .ok (.iinc 1 1, 3) := by decide +kernel
theorem dX11_startsTold_108 : decode cX11_startsTold 108 = .ok (.goto (-76), 3) := by decide +kernel
theorem dX11_startsTold_111 : decode cX11_startsTold 111 = .ok (.aload_n 0, 1) := by decide +kernel
theorem dX11_startsTold_112 : decode cX11_startsTold 112 = .ok (.iconst 0, 1) := by decide +kernel
theorem dX11_startsTold_113 : decode cX11_startsTold 113 = .ok (.putfield 355, 3) := by decide +kernel
theorem dX11_startsTold_116 : decode cX11_startsTold 116 = .ok (.return_, 1) := by decide +kernel
theorem dX11_column_0 : decode cX11_column 0 = .ok (.iload_n 1, 1) := by decide +kernel
theorem dX11_column_1 : decode cX11_column 1 = .ok (.aload_n 0, 1) := by decide +kernel
theorem dX11_column_2 : decode cX11_column 2 = .ok (.getfield 341, 3) := by decide +kernel
theorem dX11_column_5 : decode cX11_column 5 = .ok (.getfield 194, 3) := by decide +kernel
theorem dX11_column_8 : decode cX11_column 8 = .ok (.irem, 1) := by decide +kernel
theorem dX11_column_9 : decode cX11_column 9 = .ok (.ireturn, 1) := by decide +kernel
theorem dX11_rowOf_0 : decode cX11_rowOf 0 = .ok (.iload_n 1, 1) := by decide +kernel
theorem dX11_rowOf_1 : decode cX11_rowOf 1 = .ok (.aload_n 0, 1) := by decide +kernel
theorem dX11_rowOf_2 : decode cX11_rowOf 2 = .ok (.getfield 341, 3) := by decide +kernel
theorem dX11_rowOf_5 : decode cX11_rowOf 5 = .ok (.getfield 194, 3) := by decide +kernel
theorem dX11_rowOf_8 : decode cX11_rowOf 8 = .ok (.idiv, 1) := by decide +kernel
theorem dX11_rowOf_9 : decode cX11_rowOf 9 = .ok (.ireturn, 1) := by decide +kernel
theorem dX11_at_0 : decode cX11_at 0 = .ok (.iload_n 2, 1) := by decide +kernel
theorem dX11_at_1 : decode cX11_at 1 = .ok (.aload_n 0, 1) := by decide +kernel
theorem dX11_at_2 : decode cX11_at 2 = .ok (.getfield 341, 3) := by decide +kernel
theorem dX11_at_5 : decode cX11_at 5 = .ok (.getfield 194, 3) := by decide +kernel
theorem dX11_at_8 : decode cX11_at 8 = .ok (.imul, 1) := by decide +kernel
theorem dX11_at_9 : decode cX11_at 9 = .ok (.iload_n 1, 1) := by decide +kernel
theorem dX11_at_10 : decode cX11_at 10 = .ok (.iadd, 1) := by decide +kernel
theorem dX11_at_11 : decode cX11_at 11 = .ok (.ireturn, 1) := by decide +kernel
theorem dX11_from_0 : decode cX11_from 0 = .ok (.aload_n 0, 1) := by decide +kernel
theorem dX11_from_1 : decode cX11_from 1 = .ok (.iload_n 2, 1) := by decide +kernel
theorem dX11_from_2 : decode cX11_from 2 = .ok (.invokevirtual 358, 3) := by decide +kernel
theorem dX11_from_5 : decode cX11_from 5 = .ok (.istore_n 3, 1) := by decide +kernel
theorem dX11_from_6 : decode cX11_from 6 = .ok (.aload_n 0, 1) := by decide +kernel
theorem dX11_from_7 : decode cX11_from 7 = .ok (.iload_n 2, 1) := by decide +kernel
theorem dX11_from_8 : decode cX11_from 8 = .ok (.invokevirtual 361, 3) := by decide +kernel
theorem dX11_from_11 : decode cX11_from 11 = .ok (.istore 4, 2) := by decide +kernel
theorem dX11_from_13 : decode cX11_from 13 = .ok (.aload_n 0, 1) := by decide +kernel
theorem dX11_from_14 : decode cX11_from 14 = .ok (.getfield 34, 3) := by decide +kernel
theorem dX11_from_17 : decode cX11_from 17 = .ok (.iconst 4, 1) := by decide +kernel
theorem dX11_from_18 : decode cX11_from 18 = .ok (.iload_n 1, 1) := by decide +kernel
theorem dX11_from_19 : decode cX11_from 19 = .ok (.imul, 1) := by decide +kernel
theorem dX11_from_20 : decode cX11_from 20 = .ok (.iconst 1, 1) := by decide +kernel
theorem dX11_from_21 : decode cX11_from 21 = .ok (.iadd, 1) := by decide +kernel
theorem dX11_from_22 : decode cX11_from 22 = .ok (.iaload, 1) := by decide +kernel
theorem dX11_from_23 : decode cX11_from 23 = .ok (.istore 5, 2) := by decide +kernel
theorem dX11_from_25 : decode cX11_from 25 = .ok (.aload_n 0, 1) := by decide +kernel
theorem dX11_from_26 : decode cX11_from 26 = .ok (.getfield 34, 3) := by decide +kernel
theorem dX11_from_29 : decode cX11_from 29 = .ok (.iconst 4, 1) := by decide +kernel
theorem dX11_from_30 : decode cX11_from 30 = .ok (.iload_n 1, 1) := by decide +kernel
theorem dX11_from_31 : decode cX11_from 31 = .ok (.imul, 1) := by decide +kernel
theorem dX11_from_32 : decode cX11_from 32 = .ok (.iconst 2, 1) := by decide +kernel
theorem dX11_from_33 : decode cX11_from 33 = .ok (.iadd, 1) := by decide +kernel
theorem dX11_from_34 : decode cX11_from 34 = .ok (.iaload, 1) := by decide +kernel
theorem dX11_from_35 : decode cX11_from 35 = .ok (.istore 6, 2) := by decide +kernel
theorem dX11_from_37 : decode cX11_from 37 = .ok (.aload_n 0, 1) := by decide +kernel
theorem dX11_from_38 : decode cX11_from 38 = .ok (.getfield 34, 3) := by decide +kernel
theorem dX11_from_41 : decode cX11_from 41 = .ok (.iconst 4, 1) := by decide +kernel
theorem dX11_from_42 : decode cX11_from 42 = .ok (.iload_n 1, 1) := by decide +kernel
theorem dX11_from_43 : decode cX11_from 43 = .ok (.imul, 1) := by decide +kernel
theorem dX11_from_44 : decode cX11_from 44 = .ok (.iaload, 1) := by decide +kernel
theorem dX11_from_45 : decode cX11_from 45 = .ok (.tableswitch 181 2 8 #[43, 83, 133, 181, 181, 181, 161], 43) := by decide +kernel
theorem dX11_from_88 : decode cX11_from 88 = .ok (.aload_n 0, 1) := by decide +kernel
theorem dX11_from_89 : decode cX11_from 89 = .ok (.iload_n 3, 1) := by decide +kernel
theorem dX11_from_90 : decode cX11_from 90 = .ok (.iload 5, 2) := by decide +kernel
theorem dX11_from_92 : decode cX11_from 92 = .ok (.if_icmp .ge 7, 3) := by decide +kernel
theorem dX11_from_95 : decode cX11_from 95 = .ok (.iload_n 3, 1) := by decide +kernel
theorem dX11_from_96 : decode cX11_from 96 = .ok (.goto 26, 3) := by decide +kernel
theorem dX11_from_99 : decode cX11_from 99 = .ok (.iconst 2, 1) := by decide +kernel
theorem dX11_from_100 : decode cX11_from 100 = .ok (.iload 5, 2) := by decide +kernel
theorem dX11_from_102 : decode cX11_from 102 = .ok (.imul, 1) := by decide +kernel
theorem dX11_from_103 : decode cX11_from 103 = .ok (.iconst 1, 1) := by decide +kernel
theorem dX11_from_104 : decode cX11_from 104 = .ok (.isub, 1) := by decide +kernel
theorem dX11_from_105 : decode cX11_from 105 = .ok (.iload_n 3, 1) := by decide +kernel
theorem dX11_from_106 : decode cX11_from 106 = .ok (.isub, 1) := by decide +kernel
theorem dX11_from_107 : decode cX11_from 107 = .ok (.ifCond .ge 7, 3) := by decide +kernel
theorem dX11_from_110 : decode cX11_from 110 = .ok (.iconst 0, 1) := by decide +kernel
theorem dX11_from_111 : decode cX11_from 111 = .ok (.goto 11, 3) := by decide +kernel
theorem dX11_from_114 : decode cX11_from 114 = .ok (.iconst 2, 1) := by decide +kernel
theorem dX11_from_115 : decode cX11_from 115 = .ok (.iload 5, 2) := by decide +kernel
theorem dX11_from_117 : decode cX11_from 117 = .ok (.imul, 1) := by decide +kernel
theorem dX11_from_118 : decode cX11_from 118 = .ok (.iconst 1, 1) := by decide +kernel
theorem dX11_from_119 : decode cX11_from 119 = .ok (.isub, 1) := by decide +kernel
theorem dX11_from_120 : decode cX11_from 120 = .ok (.iload_n 3, 1) := by decide +kernel
theorem dX11_from_121 : decode cX11_from 121 = .ok (.isub, 1) := by decide +kernel
theorem dX11_from_122 : decode cX11_from 122 = .ok (.iload 4, 2) := by decide +kernel
theorem dX11_from_124 : decode cX11_from 124 = .ok (.invokevirtual 364, 3) := by decide +kernel
theorem dX11_from_127 : decode cX11_from 127 = .ok (.ireturn, 1) := by decide +kernel
theorem dX11_from_128 : decode cX11_from 128 = .ok (.aload_n 0, 1) := by decide +kernel
theorem dX11_from_129 : decode cX11_from 129 = .ok (.iload_n 3, 1) := by decide +kernel
theorem dX11_from_130 : decode cX11_from 130 = .ok (.aload_n 0, 1) := by decide +kernel
theorem dX11_from_131 : decode cX11_from 131 = .ok (.getfield 341, 3) := by decide +kernel
theorem dX11_from_134 : decode cX11_from 134 = .ok (.getfield 194, 3) := by decide +kernel
theorem dX11_from_137 : decode cX11_from 137 = .ok (.iconst 5, 1) := by decide +kernel
theorem dX11_from_138 : decode cX11_from 138 = .ok (.imul, 1) := by decide +kernel
theorem dX11_from_139 : decode cX11_from 139 = .ok (.iadd, 1) := by decide +kernel
theorem dX11_from_140 : decode cX11_from 140 = .ok (.iload 5, 2) := by decide +kernel
theorem dX11_from_142 : decode cX11_from 142 = .ok (.isub, 1) := by decide +kernel
theorem dX11_from_143 : decode cX11_from 143 = .ok (.aload_n 0, 1) := by decide +kernel
theorem dX11_from_144 : decode cX11_from 144 = .ok (.getfield 341, 3) := by decide +kernel
theorem dX11_from_147 : decode cX11_from 147 = .ok (.getfield 194, 3) := by decide +kernel
theorem dX11_from_150 : decode cX11_from 150 = .ok (.irem, 1) := by decide +kernel
theorem dX11_from_151 : decode cX11_from 151 = .ok (.iload 4, 2) := by decide +kernel
theorem dX11_from_153 : decode cX11_from 153 = .ok (.aload_n 0, 1) := by decide +kernel
theorem dX11_from_154 : decode cX11_from 154 = .ok (.getfield 341, 3) := by decide +kernel
theorem dX11_from_157 : decode cX11_from 157 = .ok (.getfield 256, 3) := by decide +kernel
theorem dX11_from_160 : decode cX11_from 160 = .ok (.iconst 5, 1) := by decide +kernel
theorem dX11_from_161 : decode cX11_from 161 = .ok (.imul, 1) := by decide +kernel
theorem dX11_from_162 : decode cX11_from 162 = .ok (.iadd, 1) := by decide +kernel
theorem dX11_from_163 : decode cX11_from 163 = .ok (.iload 6, 2) := by decide +kernel
theorem dX11_from_165 : decode cX11_from 165 = .ok (.isub, 1) := by decide +kernel
theorem dX11_from_166 : decode cX11_from 166 = .ok (.aload_n 0, 1) := by decide +kernel
theorem dX11_from_167 : decode cX11_from 167 = .ok (.getfield 341, 3) := by decide +kernel
theorem dX11_from_170 : decode cX11_from 170 = .ok (.getfield 256, 3) := by decide +kernel
theorem dX11_from_173 : decode cX11_from 173 = .ok (.irem, 1) := by decide +kernel
theorem dX11_from_174 : decode cX11_from 174 = .ok (.invokevirtual 364, 3) := by decide +kernel
theorem dX11_from_177 : decode cX11_from 177 = .ok (.ireturn, 1) := by decide +kernel
theorem dX11_from_178 : decode cX11_from 178 = .ok (.aload_n 0, 1) := by decide +kernel
theorem dX11_from_179 : decode cX11_from 179 = .ok (.aload_n 0, 1) := by decide +kernel
theorem dX11_from_180 : decode cX11_from 180 = .ok (.getfield 341, 3) := by decide +kernel
theorem dX11_from_183 : decode cX11_from 183 = .ok (.getfield 194, 3) := by decide +kernel
theorem dX11_from_186 : decode cX11_from 186 = .ok (.iconst 1, 1) := by decide +kernel
theorem dX11_from_187 : decode cX11_from 187 = .ok (.isub, 1) := by decide +kernel
theorem dX11_from_188 : decode cX11_from 188 = .ok (.iload_n 3, 1) := by decide +kernel
theorem dX11_from_189 : decode cX11_from 189 = .ok (.isub, 1) := by decide +kernel
theorem dX11_from_190 : decode cX11_from 190 = .ok (.aload_n 0, 1) := by decide +kernel
theorem dX11_from_191 : decode cX11_from 191 = .ok (.getfield 341, 3) := by decide +kernel
theorem dX11_from_194 : decode cX11_from 194 = .ok (.getfield 256, 3) := by decide +kernel
theorem dX11_from_197 : decode cX11_from 197 = .ok (.iconst 1, 1) := by decide +kernel
theorem dX11_from_198 : decode cX11_from 198 = .ok (.isub, 1) := by decide +kernel
theorem dX11_from_199 : decode cX11_from 199 = .ok (.iload 4, 2) := by decide +kernel
theorem dX11_from_201 : decode cX11_from 201 = .ok (.isub, 1) := by decide +kernel
theorem dX11_from_202 : decode cX11_from 202 = .ok (.invokevirtual 364, 3) := by decide +kernel
theorem dX11_from_205 : decode cX11_from 205 = .ok (.ireturn, 1) := by decide +kernel
theorem dX11_from_206 : decode cX11_from 206 = .ok (.aload_n 0, 1) := by decide +kernel
theorem dX11_from_207 : decode cX11_from 207 = .ok (.iload_n 3, 1) := by decide +kernel
theorem dX11_from_208 : decode cX11_from 208 = .ok (.iload 5, 2) := by decide +kernel
theorem dX11_from_210 : decode cX11_from 210 = .ok (.imul, 1) := by decide +kernel
theorem dX11_from_211 : decode cX11_from 211 = .ok (.bipush 10, 2) := by decide +kernel
theorem dX11_from_213 : decode cX11_from 213 = .ok (.idiv, 1) := by decide +kernel
theorem dX11_from_214 : decode cX11_from 214 = .ok (.iload 4, 2) := by decide +kernel
theorem dX11_from_216 : decode cX11_from 216 = .ok (.iload 5, 2) := by decide +kernel
theorem dX11_from_218 : decode cX11_from 218 = .ok (.imul, 1) := by decide +kernel
theorem dX11_from_219 : decode cX11_from 219 = .ok (.bipush 10, 2) := by decide +kernel
theorem dX11_from_221 : decode cX11_from 221 = .ok (.idiv, 1) := by decide +kernel
theorem dX11_from_222 : decode cX11_from 222 = .ok (.invokevirtual 364, 3) := by decide +kernel
theorem dX11_from_225 : decode cX11_from 225 = .ok (.ireturn, 1) := by decide +kernel
theorem dX11_from_226 : decode cX11_from 226 = .ok (.iload_n 2, 1) := by decide +kernel
theorem dX11_from_227 : decode cX11_from 227 = .ok (.ireturn, 1) := by decide +kernel
theorem dX11_beside_0 : decode cX11_beside 0 = .ok (.aload_n 0, 1) := by decide +kernel
theorem dX11_beside_1 : decode cX11_beside 1 = .ok (.iload_n 1, 1) := by decide +kernel
theorem dX11_beside_2 : decode cX11_beside 2 = .ok (.invokevirtual 358, 3) := by decide +kernel
theorem dX11_beside_5 : decode cX11_beside 5 = .ok (.iload_n 2, 1) := by decide +kernel
theorem dX11_beside_6 : decode cX11_beside 6 = .ok (.ifCond .ne 7, 3) := by decide +kernel
theorem dX11_beside_9 : decode cX11_beside 9 = .ok (.iconst (-1), 1) := by decide +kernel
theorem dX11_beside_10 : decode cX11_beside 10 = .ok (.goto 13, 3) := by decide +kernel
theorem dX11_beside_13 : decode cX11_beside 13 = .ok (.iload_n 2, 1) := by decide +kernel
theorem dX11_beside_14 : decode cX11_beside 14 = .ok (.iconst 1, 1) := by decide +kernel
theorem dX11_beside_15 : decode cX11_beside 15 = .ok (.if_icmp .ne 7, 3) := by decide +kernel
theorem dX11_beside_18 : decode cX11_beside 18 = .ok (.iconst 1, 1) := by decide +kernel
theorem dX11_beside_19 : decode cX11_beside 19 = .ok (.goto 4, 3) := by decide +kernel
theorem dX11_beside_22 : decode cX11_beside 22 = .ok (.iconst 0, 1) := by decide +kernel
theorem dX11_beside_23 : decode cX11_beside 23 = .ok (.iadd, 1) := by decide +kernel
theorem dX11_beside_24 : decode cX11_beside 24 = .ok (.istore_n 3, 1) := by decide +kernel
theorem dX11_beside_25 : decode cX11_beside 25 = .ok (.aload_n 0, 1) := by decide +kernel
theorem dX11_beside_26 : decode cX11_beside 26 = .ok (.iload_n 1, 1) := by decide +kernel
theorem dX11_beside_27 : decode cX11_beside 27 = .ok (.invokevirtual 361, 3) := by decide +kernel
theorem dX11_beside_30 : decode cX11_beside 30 = .ok (.iload_n 2, 1) := by decide +kernel
theorem dX11_beside_31 : decode cX11_beside 31 = .ok (.iconst 2, 1) := by decide +kernel
theorem dX11_beside_32 : decode cX11_beside 32 = .ok (.if_icmp .ne 7, 3) := by decide +kernel
theorem dX11_beside_35 : decode cX11_beside 35 = .ok (.iconst (-1), 1) := by decide +kernel
theorem dX11_beside_36 : decode cX11_beside 36 = .ok (.goto 13, 3) := by decide +kernel
theorem dX11_beside_39 : decode cX11_beside 39 = .ok (.iload_n 2, 1) := by decide +kernel
theorem dX11_beside_40 : decode cX11_beside 40 = .ok (.iconst 3, 1) := by decide +kernel
theorem dX11_beside_41 : decode cX11_beside 41 = .ok (.if_icmp .ne 7, 3) := by decide +kernel
theorem dX11_beside_44 : decode cX11_beside 44 = .ok (.iconst 1, 1) := by decide +kernel
theorem dX11_beside_45 : decode cX11_beside 45 = .ok (.goto 4, 3) := by decide +kernel
theorem dX11_beside_48 : decode cX11_beside 48 = .ok (.iconst 0, 1) := by decide +kernel
theorem dX11_beside_49 : decode cX11_beside 49 = .ok (.iadd, 1) := by decide +kernel
theorem dX11_beside_50 : decode cX11_beside 50 = .ok (.istore 4, 2) := by decide +kernel
theorem dX11_beside_52 : decode cX11_beside 52 = .ok (.iload_n 3, 1) := by decide +kernel
theorem dX11_beside_53 : decode cX11_beside 53 = .ok (.iconst 0, 1) := by decide +kernel
theorem dX11_beside_54 : decode cX11_beside 54 = .ok (.aload_n 0, 1) := by decide +kernel
theorem dX11_beside_55 : decode cX11_beside 55 = .ok (.getfield 341, 3) := by decide +kernel
theorem dX11_beside_58 : decode cX11_beside 58 = .ok (.getfield 194, 3) := by decide +kernel
theorem dX11_beside_61 : decode cX11_beside 61 = .ok (.iconst 1, 1) := by decide +kernel
theorem dX11_beside_62 : decode cX11_beside 62 = .ok (.isub, 1) := by decide +kernel
theorem dX11_beside_63 : decode cX11_beside 63 = .ok (.invokestatic 166, 3) := by decide +kernel
theorem dX11_beside_66 : decode cX11_beside 66 = .ok (.ifCond .eq 31, 3) := by decide +kernel
theorem dX11_beside_69 : decode cX11_beside 69 = .ok (.iload 4, 2) := by decide +kernel
theorem dX11_beside_71 : decode cX11_beside 71 = .ok (.iconst 0, 1) := by decide +kernel
theorem dX11_beside_72 : decode cX11_beside 72 = .ok (.aload_n 0, 1) := by decide +kernel
theorem dX11_beside_73 : decode cX11_beside 73 = .ok (.getfield 341, 3) := by decide +kernel
theorem dX11_beside_76 : decode cX11_beside 76 = .ok (.getfield 256, 3) := by decide +kernel
theorem dX11_beside_79 : decode cX11_beside 79 = .ok (.iconst 1, 1) := by decide +kernel
theorem dX11_beside_80 : decode cX11_beside 80 = .ok (.isub, 1) := by decide +kernel
theorem dX11_beside_81 : decode cX11_beside 81 = .ok (.invokestatic 166, 3) := by decide +kernel
theorem dX11_beside_84 : decode cX11_beside 84 = .ok (.ifCond .eq 13, 3) := by decide +kernel
theorem dX11_beside_87 : decode cX11_beside 87 = .ok (.aload_n 0, 1) := by decide +kernel
theorem dX11_beside_88 : decode cX11_beside 88 = .ok (.iload_n 3, 1) := by decide +kernel
theorem dX11_beside_89 : decode cX11_beside 89 = .ok (.iload 4, 2) := by decide +kernel
theorem dX11_beside_91 : decode cX11_beside 91 = .ok (.invokevirtual 364, 3) := by decide +kernel
theorem dX11_beside_94 : decode cX11_beside 94 = .ok (.goto 4, 3) := by decide +kernel
theorem dX11_beside_97 : decode cX11_beside 97 = .ok (.iconst (-1), 1) := by decide +kernel
theorem dX11_beside_98 : decode cX11_beside 98 = .ok (.ireturn, 1) := by decide +kernel
theorem dX11_stainedBy_0 : decode cX11_stainedBy 0 = .ok (.aload_n 0, 1) := by decide +kernel
theorem dX11_stainedBy_1 : decode cX11_stainedBy 1 = .ok (.getfield 28, 3) := by decide +kernel
theorem dX11_stainedBy_4 : decode cX11_stainedBy 4 = .ok (.iload_n 1, 1) := by decide +kernel
theorem dX11_stainedBy_5 : decode cX11_stainedBy 5 = .ok (.iload_n 3, 1) := by decide +kernel
theorem dX11_stainedBy_6 : decode cX11_stainedBy 6 = .ok (.iadd, 1) := by decide +kernel
theorem dX11_stainedBy_7 : decode cX11_stainedBy 7 = .ok (.iaload, 1) := by decide +kernel
theorem dX11_stainedBy_8 : decode cX11_stainedBy 8 = .ok (.iload_n 2, 1) := by decide +kernel
theorem dX11_stainedBy_9 : decode cX11_stainedBy 9 = .ok (.if_icmp .ne 5, 3) := by decide +kernel
theorem dX11_stainedBy_12 : decode cX11_stainedBy 12 = .ok (.iload_n 3, 1) := by decide +kernel
theorem dX11_stainedBy_13 : decode cX11_stainedBy 13 = .ok (.ireturn, 1) := by decide +kernel
theorem dX11_stainedBy_14 : decode cX11_stainedBy 14 = .ok (.iconst 0, 1) := by decide +kernel
theorem dX11_stainedBy_15 : decode cX11_stainedBy 15 = .ok (.istore 4, 2) := by decide +kernel
theorem dX11_stainedBy_17 : decode cX11_stainedBy 17 = .ok (.iload 4, 2) := by decide +kernel
theorem dX11_stainedBy_19 : decode cX11_stainedBy 19 = .ok (.iconst 4, 1) := by decide +kernel
theorem dX11_stainedBy_20 : decode cX11_stainedBy 20 = .ok (.if_icmp .ge 40, 3) := by decide +kernel
theorem dX11_stainedBy_23 : decode cX11_stainedBy 23 = .ok (.aload_n 0, 1) := by decide +kernel
theorem dX11_stainedBy_24 : decode cX11_stainedBy 24 = .ok (.iload_n 3, 1) := by decide +kernel
theorem dX11_stainedBy_25 : decode cX11_stainedBy 25 = .ok (.iload 4, 2) := by decide +kernel
theorem dX11_stainedBy_27 : decode cX11_stainedBy 27 = .ok (.invokevirtual 367, 3) := by decide +kernel
theorem dX11_stainedBy_30 : decode cX11_stainedBy 30 = .ok (.istore 5, 2) := by decide +kernel
theorem dX11_stainedBy_32 : decode cX11_stainedBy 32 = .ok (.iload 5, 2) := by decide +kernel
theorem dX11_stainedBy_34 : decode cX11_stainedBy 34 = .ok (.iconst (-1), 1) := by decide +kernel
theorem dX11_stainedBy_35 : decode cX11_stainedBy 35 = .ok (.if_icmp .eq 19, 3) := by decide +kernel
theorem dX11_stainedBy_38 : decode cX11_stainedBy 38 = .ok (.aload_n 0, 1) := by decide +kernel
theorem dX11_stainedBy_39 : decode cX11_stainedBy 39 = .ok (.getfield 28, 3) := by decide +kernel
theorem dX11_stainedBy_42 : decode cX11_stainedBy 42 = .ok (.iload_n 1, 1) := by decide +kernel
theorem dX11_stainedBy_43 : decode cX11_stainedBy 43 = .ok (.iload 5, 2) := by decide +kernel
theorem dX11_stainedBy_45 : decode cX11_stainedBy 45 = .ok (.iadd, 1) := by decide +kernel
theorem dX11_stainedBy_46 : decode cX11_stainedBy 46 = .ok (.iaload, 1) := by decide +kernel
theorem dX11_stainedBy_47 : decode cX11_stainedBy 47 = .ok (.iload_n 2, 1) := by decide +kernel
theorem dX11_stainedBy_48 : decode cX11_stainedBy 48 = .ok (.if_icmp .ne 6, 3) := by decide +kernel
theorem dX11_stainedBy_51 : decode cX11_stainedBy 51 = .ok (.iload 5, 2) := by decide +kernel
theorem dX11_stainedBy_53 : decode cX11_stainedBy 53 = .ok (.ireturn, 1) := by decide +kernel
theorem dX11_stainedBy_54 : decode cX11_stainedBy 54 = .ok (.iinc 4 1, 3) := by decide +kernel
theorem dX11_stainedBy_57 : decode cX11_stainedBy 57 = .ok (.goto (-40), 3) := by decide +kernel
theorem dX11_stainedBy_60 : decode cX11_stainedBy 60 = .ok (.iload_n 3, 1) := by decide +kernel
theorem dX11_stainedBy_61 : decode cX11_stainedBy 61 = .ok (.ireturn, 1) := by decide +kernel
theorem dX11_steps_0 : decode cX11_steps 0 = .ok (.iconst 0, 1) := by decide +kernel
theorem dX11_steps_1 : decode cX11_steps 1 = .ok (.istore_n 2, 1) := by decide +kernel
theorem dX11_steps_2 : decode cX11_steps 2 = .ok (.iload_n 2, 1) := by decide +kernel
theorem dX11_steps_3 : decode cX11_steps 3 = .ok (.iload_n 1, 1) := by decide +kernel
theorem dX11_steps_4 : decode cX11_steps 4 = .ok (.if_icmp .ge 14, 3) := by decide +kernel
theorem dX11_steps_7 : decode cX11_steps 7 = .ok (.aload_n 0, 1) := by decide +kernel
theorem dX11_steps_8 : decode cX11_steps 8 = .ok (.iload_n 2, 1) := by decide +kernel
theorem dX11_steps_9 : decode cX11_steps 9 = .ok (.invokevirtual 370, 3) := by decide +kernel
theorem dX11_steps_12 : decode cX11_steps 12 = .ok (.iinc 2 1, 3) := by decide +kernel
theorem dX11_steps_15 : decode cX11_steps 15 = .ok (.goto (-13), 3) := by decide +kernel
theorem dX11_steps_18 : decode cX11_steps 18 = .ok (.return_, 1) := by decide +kernel
theorem dX11_step_0 : decode cX11_step 0 = .ok (.iconst 0, 1) := by decide +kernel
theorem dX11_step_1 : decode cX11_step 1 = .ok (.istore_n 2, 1) := by decide +kernel
theorem dX11_step_2 : decode cX11_step 2 = .ok (.iload_n 2, 1) := by decide +kernel
theorem dX11_step_3 : decode cX11_step 3 = .ok (.aload_n 0, 1) := by decide +kernel
theorem dX11_step_4 : decode cX11_step 4 = .ok (.getfield 341, 3) := by decide +kernel
theorem dX11_step_7 : decode cX11_step 7 = .ok (.getfield 230, 3) := by decide +kernel
theorem dX11_step_10 : decode cX11_step 10 = .ok (.if_icmp .ge 241, 3) := by decide +kernel
theorem dX11_step_13 : decode cX11_step 13 = .ok (.sipush 216, 3) := by decide +kernel
theorem dX11_step_16 : decode cX11_step 16 = .ok (.iload_n 1, 1) := by decide +kernel
theorem dX11_step_17 : decode cX11_step 17 = .ok (.imul, 1) := by decide +kernel
theorem dX11_step_18 : decode cX11_step 18 = .ok (.bipush 36, 2) := by decide +kernel
theorem dX11_step_20 : decode cX11_step 20 = .ok (.iload_n 2, 1) := by decide +kernel
theorem dX11_step_21 : decode cX11_step 21 = .ok (.imul, 1) := by decide +kernel
theorem dX11_step_22 : decode cX11_step 22 = .ok (.iadd, 1) := by decide +kernel
theorem dX11_step_23 : decode cX11_step 23 = .ok (.istore_n 3, 1) := by decide +kernel
theorem dX11_step_24 : decode cX11_step 24 = .ok (.iload_n 3, 1) := by decide +kernel
theorem dX11_step_25 : decode cX11_step 25 = .ok (.sipush 216, 3) := by decide +kernel
theorem dX11_step_28 : decode cX11_step 28 = .ok (.iadd, 1) := by decide +kernel
theorem dX11_step_29 : decode cX11_step 29 = .ok (.istore 4, 2) := by decide +kernel
theorem dX11_step_31 : decode cX11_step 31 = .ok (.aload_n 0, 1) := by decide +kernel
theorem dX11_step_32 : decode cX11_step 32 = .ok (.getfield 37, 3) := by decide +kernel
theorem dX11_step_35 : decode cX11_step 35 = .ok (.bipush 6, 2) := by decide +kernel
theorem dX11_step_37 : decode cX11_step 37 = .ok (.iload_n 1, 1) := by decide +kernel
theorem dX11_step_38 : decode cX11_step 38 = .ok (.imul, 1) := by decide +kernel
theorem dX11_step_39 : decode cX11_step 39 = .ok (.iload_n 2, 1) := by decide +kernel
theorem dX11_step_40 : decode cX11_step 40 = .ok (.iadd, 1) := by decide +kernel
theorem dX11_step_41 : decode cX11_step 41 = .ok (.iconst (-1), 1) := by decide +kernel
theorem dX11_step_42 : decode cX11_step 42 = .ok (.iastore, 1) := by decide +kernel
theorem dX11_step_43 : decode cX11_step 43 = .ok (.aload_n 0, 1) := by decide +kernel
theorem dX11_step_44 : decode cX11_step 44 = .ok (.getfield 31, 3) := by decide +kernel
theorem dX11_step_47 : decode cX11_step 47 = .ok (.iload_n 2, 1) := by decide +kernel
theorem dX11_step_48 : decode cX11_step 48 = .ok (.iaload, 1) := by decide +kernel
theorem dX11_step_49 : decode cX11_step 49 = .ok (.bipush (-2), 2) := by decide +kernel
theorem dX11_step_51 : decode cX11_step 51 = .ok (.if_icmp .ne 46, 3) := by decide +kernel
theorem dX11_step_54 : decode cX11_step 54 = .ok (.iconst 0, 1) := by decide +kernel
theorem dX11_step_55 : decode cX11_step 55 = .ok (.istore 5, 2) := by decide +kernel
theorem dX11_step_57 : decode cX11_step 57 = .ok (.iload 5, 2) := by decide +kernel
theorem dX11_step_59 : decode cX11_step 59 = .ok (.aload_n 0, 1) := by decide +kernel
theorem dX11_step_60 : decode cX11_step 60 = .ok (.getfield 341, 3) := by decide +kernel
theorem dX11_step_63 : decode cX11_step 63 = .ok (.invokevirtual 373, 3) := by decide +kernel
theorem dX11_step_66 : decode cX11_step 66 = .ok (.if_icmp .ge 28, 3) := by decide +kernel
theorem dX11_step_69 : decode cX11_step 69 = .ok (.aload_n 0, 1) := by decide +kernel
theorem dX11_step_70 : decode cX11_step 70 = .ok (.getfield 28, 3) := by decide +kernel
theorem dX11_step_73 : decode cX11_step 73 = .ok (.iload 4, 2) := by decide +kernel
theorem dX11_step_75 : decode cX11_step 75 = .ok (.iload 5, 2) := by decide +kernel
theorem dX11_step_77 : decode cX11_step 77 = .ok (.iadd, 1) := by decide +kernel
theorem dX11_step_78 : decode cX11_step 78 = .ok (.aload_n 0, 1) := by decide +kernel
theorem dX11_step_79 : decode cX11_step 79 = .ok (.getfield 28, 3) := by decide +kernel
theorem dX11_step_82 : decode cX11_step 82 = .ok (.iload_n 3, 1) := by decide +kernel
theorem dX11_step_83 : decode cX11_step 83 = .ok (.iload 5, 2) := by decide +kernel
theorem dX11_step_85 : decode cX11_step 85 = .ok (.iadd, 1) := by decide +kernel
theorem dX11_step_86 : decode cX11_step 86 = .ok (.iaload, 1) := by decide +kernel
theorem dX11_step_87 : decode cX11_step 87 = .ok (.iastore, 1) := by decide +kernel
theorem dX11_step_88 : decode cX11_step 88 = .ok (.iinc 5 1, 3) := by decide +kernel
theorem dX11_step_91 : decode cX11_step 91 = .ok (.goto (-34), 3) := by decide +kernel
theorem dX11_step_94 : decode cX11_step 94 = .ok (.goto 151, 3) := by decide +kernel
theorem dX11_step_97 : decode cX11_step 97 = .ok (.sipush 216, 3) := by decide +kernel
theorem dX11_step_100 : decode cX11_step 100 = .ok (.iload_n 1, 1) := by decide +kernel
theorem dX11_step_101 : decode cX11_step 101 = .ok (.imul, 1) := by decide +kernel
theorem dX11_step_102 : decode cX11_step 102 = .ok (.bipush 36, 2) := by decide +kernel
theorem dX11_step_104 : decode cX11_step 104 = .ok (.aload_n 0, 1) := by decide +kernel
theorem dX11_step_105 : decode cX11_step 105 = .ok (.getfield 31, 3) := by decide +kernel
theorem dX11_step_108 : decode cX11_step 108 = .ok (.iload_n 2, 1) := by decide +kernel
theorem dX11_step_109 : decode cX11_step 109 = .ok (.iaload, 1) := by decide +kernel
theorem dX11_step_110 : decode cX11_step 110 = .ok (.imul, 1) := by decide +kernel
theorem dX11_step_111 : decode cX11_step 111 = .ok (.iadd, 1) := by decide +kernel
theorem dX11_step_112 : decode cX11_step 112 = .ok (.istore 5, 2) := by decide +kernel
theorem dX11_step_114 : decode cX11_step 114 = .ok (.iconst 0, 1) := by decide +kernel
theorem dX11_step_115 : decode cX11_step 115 = .ok (.istore 6, 2) := by decide +kernel
theorem dX11_step_117 : decode cX11_step 117 = .ok (.iload 6, 2) := by decide +kernel
theorem dX11_step_119 : decode cX11_step 119 = .ok (.aload_n 0, 1) := by decide +kernel
theorem dX11_step_120 : decode cX11_step 120 = .ok (.getfield 341, 3) := by decide +kernel
theorem dX11_step_123 : decode cX11_step 123 = .ok (.invokevirtual 373, 3) := by decide +kernel
theorem dX11_step_126 : decode cX11_step 126 = .ok (.if_icmp .ge 28, 3) := by decide +kernel
theorem dX11_step_129 : decode cX11_step 129 = .ok (.aload_n 0, 1) := by decide +kernel
theorem dX11_step_130 : decode cX11_step 130 = .ok (.getfield 28, 3) := by decide +kernel
theorem dX11_step_133 : decode cX11_step 133 = .ok (.iload 4, 2) := by decide +kernel
theorem dX11_step_135 : decode cX11_step 135 = .ok (.iload 6, 2) := by decide +kernel
theorem dX11_step_137 : decode cX11_step 137 = .ok (.iadd, 1) := by decide +kernel
theorem dX11_step_138 : decode cX11_step 138 = .ok (.aload_n 0, 1) := by decide +kernel
theorem dX11_step_139 : decode cX11_step 139 = .ok (.iload_n 2, 1) := by decide +kernel
theorem dX11_step_140 : decode cX11_step 140 = .ok (.iload 5, 2) := by decide +kernel
theorem dX11_step_142 : decode cX11_step 142 = .ok (.iload 6, 2) := by decide +kernel
theorem dX11_step_144 : decode cX11_step 144 = .ok (.invokevirtual 376, 3) := by decide +kernel
theorem dX11_step_147 : decode cX11_step 147 = .ok (.iastore, 1) := by decide +kernel
theorem dX11_step_148 : decode cX11_step 148 = .ok (.iinc 6 1, 3) := by decide +kernel
theorem dX11_step_151 : decode cX11_step 151 = .ok (.goto (-34), 3) := by decide +kernel
theorem dX11_step_154 : decode cX11_step 154 = .ok (.aload_n 0, 1) := by decide +kernel
theorem dX11_step_155 : decode cX11_step 155 = .ok (.getfield 34, 3) := by decide +kernel
theorem dX11_step_158 : decode cX11_step 158 = .ok (.iconst 4, 1) := by decide +kernel
theorem dX11_step_159 : decode cX11_step 159 = .ok (.iload_n 2, 1) := by decide +kernel
theorem dX11_step_160 : decode cX11_step 160 = .ok (.imul, 1) := by decide +kernel
theorem dX11_step_161 : decode cX11_step 161 = .ok (.iaload, 1) := by decide +kernel
theorem dX11_step_162 : decode cX11_step 162 = .ok (.bipush 9, 2) := by decide +kernel
theorem dX11_step_164 : decode cX11_step 164 = .ok (.if_icmp .eq 6, 3) := by decide +kernel
theorem dX11_step_167 : decode cX11_step 167 = .ok (.goto 78, 3) := by decide +kernel
theorem dX11_step_170 : decode cX11_step 170 = .ok (.aload_n 0, 1) := by decide +kernel
theorem dX11_step_171 : decode cX11_step 171 = .ok (.ldc2_w 380, 3) := by decide +kernel
theorem dX11_step_174 : decode cX11_step 174 = .ok (.aload_n 0, 1) := by decide +kernel
theorem dX11_step_175 : decode cX11_step 175 = .ok (.getfield 355, 3) := by decide +kernel
theorem dX11_step_178 : decode cX11_step 178 = .ok (.i2l, 1) := by decide +kernel
theorem dX11_step_179 : decode cX11_step 179 = .ok (.lmul, 1) := by decide +kernel
theorem dX11_step_180 : decode cX11_step 180 = .ok (.ldc2_w 382, 3) := by decide +kernel
theorem dX11_step_183 : decode cX11_step 183 = .ok (.ladd, 1) := by decide +kernel
theorem dX11_step_184 : decode cX11_step 184 = .ok (.ldc2_w 384, 3) := by decide +kernel
theorem dX11_step_187 : decode cX11_step 187 = .ok (.lrem, 1) := by decide +kernel
theorem dX11_step_188 : decode cX11_step 188 = .ok (.l2i, 1) := by decide +kernel
theorem dX11_step_189 : decode cX11_step 189 = .ok (.putfield 355, 3) := by decide +kernel
theorem dX11_step_192 : decode cX11_step 192 = .ok (.aload_n 0, 1) := by decide +kernel
theorem dX11_step_193 : decode cX11_step 193 = .ok (.getfield 37, 3) := by decide +kernel
theorem dX11_step_196 : decode cX11_step 196 = .ok (.bipush 6, 2) := by decide +kernel
theorem dX11_step_198 : decode cX11_step 198 = .ok (.iload_n 1, 1) := by decide +kernel
theorem dX11_step_199 : decode cX11_step 199 = .ok (.imul, 1) := by decide +kernel
theorem dX11_step_200 : decode cX11_step 200 = .ok (.iload_n 2, 1) := by decide +kernel
theorem dX11_step_201 : decode cX11_step 201 = .ok (.iadd, 1) := by decide +kernel
theorem dX11_step_202 : decode cX11_step 202 = .ok (.aload_n 0, 1) := by decide +kernel
theorem dX11_step_203 : decode cX11_step 203 = .ok (.getfield 355, 3) := by decide +kernel
theorem dX11_step_206 : decode cX11_step 206 = .ok (.aload_n 0, 1) := by decide +kernel
theorem dX11_step_207 : decode cX11_step 207 = .ok (.getfield 341, 3) := by decide +kernel
theorem dX11_step_210 : decode cX11_step 210 = .ok (.invokevirtual 373, 3) := by decide +kernel
theorem dX11_step_213 : decode cX11_step 213 = .ok (.irem, 1) := by decide +kernel
theorem dX11_step_214 : decode cX11_step 214 = .ok (.iastore, 1) := by decide +kernel
theorem dX11_step_215 : decode cX11_step 215 = .ok (.aload_n 0, 1) := by decide +kernel
theorem dX11_step_216 : decode cX11_step 216 = .ok (.getfield 28, 3) := by decide +kernel
theorem dX11_step_219 : decode cX11_step 219 = .ok (.iload 4, 2) := by decide +kernel
theorem dX11_step_221 : decode cX11_step 221 = .ok (.aload_n 0, 1) := by decide +kernel
theorem dX11_step_222 : decode cX11_step 222 = .ok (.getfield 355, 3) := by decide +kernel
theorem dX11_step_225 : decode cX11_step 225 = .ok (.aload_n 0, 1) := by decide +kernel
theorem dX11_step_226 : decode cX11_step 226 = .ok (.getfield 341, 3) := by decide +kernel
theorem dX11_step_229 : decode cX11_step 229 = .ok (.invokevirtual 373, 3) := by decide +kernel
theorem dX11_step_232 : decode cX11_step 232 = .ok (.irem, 1) := by decide +kernel
theorem dX11_step_233 : decode cX11_step 233 = .ok (.iadd, 1) := by decide +kernel
theorem dX11_step_234 : decode cX11_step 234 = .ok (.aload_n 0, 1) := by decide +kernel
theorem dX11_step_235 : decode cX11_step 235 = .ok (.getfield 34, 3) := by decide +kernel
theorem dX11_step_238 : decode cX11_step 238 = .ok (.iconst 4, 1) := by decide +kernel
theorem dX11_step_239 : decode cX11_step 239 = .ok (.iload_n 2, 1) := by decide +kernel
theorem dX11_step_240 : decode cX11_step 240 = .ok (.imul, 1) := by decide +kernel
theorem dX11_step_241 : decode cX11_step 241 = .ok (.iconst 1, 1) := by decide +kernel
theorem dX11_step_242 : decode cX11_step 242 = .ok (.iadd, 1) := by decide +kernel
theorem dX11_step_243 : decode cX11_step 243 = .ok (.iaload, 1) := by decide +kernel
theorem dX11_step_244 : decode cX11_step 244 = .ok (.iastore, 1) := by decide +kernel
theorem dX11_step_245 : decode cX11_step 245 = .ok (.iinc 2 1, 3) := by decide +kernel
theorem dX11_step_248 : decode cX11_step 248 = .ok (.goto (-246), 3) := by decide +kernel
theorem dX11_step_251 : decode cX11_step 251 = .ok (.return_, 1) := by decide +kernel
theorem dX11_marked_0 : decode cX11_marked 0 = .ok (.aload_n 0, 1) := by decide +kernel
theorem dX11_marked_1 : decode cX11_marked 1 = .ok (.getfield 34, 3) := by decide +kernel
theorem dX11_marked_4 : decode cX11_marked 4 = .ok (.iconst 4, 1) := by decide +kernel
theorem dX11_marked_5 : decode cX11_marked 5 = .ok (.iload_n 1, 1) := by decide +kernel
theorem dX11_marked_6 : decode cX11_marked 6 = .ok (.imul, 1) := by decide +kernel
theorem dX11_marked_7 : decode cX11_marked 7 = .ok (.iconst 1, 1) := by decide +kernel
theorem dX11_marked_8 : decode cX11_marked 8 = .ok (.iadd, 1) := by decide +kernel
theorem dX11_marked_9 : decode cX11_marked 9 = .ok (.iaload, 1) := by decide +kernel
theorem dX11_marked_10 : decode cX11_marked 10 = .ok (.istore 4, 2) := by decide +kernel
theorem dX11_marked_12 : decode cX11_marked 12 = .ok (.aload_n 0, 1) := by decide +kernel
theorem dX11_marked_13 : decode cX11_marked 13 = .ok (.getfield 34, 3) := by decide +kernel
theorem dX11_marked_16 : decode cX11_marked 16 = .ok (.iconst 4, 1) := by decide +kernel
theorem dX11_marked_17 : decode cX11_marked 17 = .ok (.iload_n 1, 1) := by decide +kernel
theorem dX11_marked_18 : decode cX11_marked 18 = .ok (.imul, 1) := by decide +kernel
theorem dX11_marked_19 : decode cX11_marked 19 = .ok (.iconst 2, 1) := by decide +kernel
theorem dX11_marked_20 : decode cX11_marked 20 = .ok (.iadd, 1) := by decide +kernel
theorem dX11_marked_21 : decode cX11_marked 21 = .ok (.iaload, 1) := by decide +kernel
theorem dX11_marked_22 : decode cX11_marked 22 = .ok (.istore 5, 2) := by decide +kernel
theorem dX11_marked_24 : decode cX11_marked 24 = .ok (.aload_n 0, 1) := by decide +kernel
theorem dX11_marked_25 : decode cX11_marked 25 = .ok (.getfield 28, 3) := by decide +kernel
theorem dX11_marked_28 : decode cX11_marked 28 = .ok (.iload_n 2, 1) := by decide +kernel
theorem dX11_marked_29 : decode cX11_marked 29 = .ok (.aload_n 0, 1) := by decide +kernel
theorem dX11_marked_30 : decode cX11_marked 30 = .ok (.iload_n 1, 1) := by decide +kernel
theorem dX11_marked_31 : decode cX11_marked 31 = .ok (.iload_n 3, 1) := by decide +kernel
theorem dX11_marked_32 : decode cX11_marked 32 = .ok (.invokevirtual 386, 3) := by decide +kernel
theorem dX11_marked_35 : decode cX11_marked 35 = .ok (.iadd, 1) := by decide +kernel
theorem dX11_marked_36 : decode cX11_marked 36 = .ok (.iaload, 1) := by decide +kernel
theorem dX11_marked_37 : decode cX11_marked 37 = .ok (.istore 6, 2) := by decide +kernel
theorem dX11_marked_39 : decode cX11_marked 39 = .ok (.aload_n 0, 1) := by decide +kernel
theorem dX11_marked_40 : decode cX11_marked 40 = .ok (.getfield 34, 3) := by decide +kernel
theorem dX11_marked_43 : decode cX11_marked 43 = .ok (.iconst 4, 1) := by decide +kernel
theorem dX11_marked_44 : decode cX11_marked 44 = .ok (.iload_n 1, 1) := by decide +kernel
theorem dX11_marked_45 : decode cX11_marked 45 = .ok (.imul, 1) := by decide +kernel
theorem dX11_marked_46 : decode cX11_marked 46 = .ok (.iaload, 1) := by decide +kernel
theorem dX11_marked_47 : decode cX11_marked 47 = .ok (.tableswitch 126 1 7 #[41, 126, 126, 126, 69, 96, 112], 41) := by decide +kernel
theorem dX11_marked_88 : decode cX11_marked 88 = .ok (.iload_n 3, 1) := by decide +kernel
theorem dX11_marked_89 : decode cX11_marked 89 = .ok (.aload_n 0, 1) := by decide +kernel
theorem dX11_marked_90 : decode cX11_marked 90 = .ok (.iload 5, 2) := by decide +kernel
theorem dX11_marked_92 : decode cX11_marked 92 = .ok (.aload_n 0, 1) := by decide +kernel
theorem dX11_marked_93 : decode cX11_marked 93 = .ok (.getfield 34, 3) := by decide +kernel
theorem dX11_marked_96 : decode cX11_marked 96 = .ok (.iconst 4, 1) := by decide +kernel
theorem dX11_marked_97 : decode cX11_marked 97 = .ok (.iload_n 1, 1) := by decide +kernel
theorem dX11_marked_98 : decode cX11_marked 98 = .ok (.imul, 1) := by decide +kernel
theorem dX11_marked_99 : decode cX11_marked 99 = .ok (.iconst 3, 1) := by decide +kernel
theorem dX11_marked_100 : decode cX11_marked 100 = .ok (.iadd, 1) := by decide +kernel
theorem dX11_marked_101 : decode cX11_marked 101 = .ok (.iaload, 1) := by decide +kernel
theorem dX11_marked_102 : decode cX11_marked 102 = .ok (.invokevirtual 364, 3) := by decide +kernel
theorem dX11_marked_105 : decode cX11_marked 105 = .ok (.if_icmp .ne 8, 3) := by decide +kernel
theorem dX11_marked_108 : decode cX11_marked 108 = .ok (.iload 4, 2) := by decide +kernel
theorem dX11_marked_110 : decode cX11_marked 110 = .ok (.goto 5, 3) := by decide +kernel
theorem dX11_marked_113 : decode cX11_marked 113 = .ok (.iload 6, 2) := by decide +kernel
theorem dX11_marked_115 : decode cX11_marked 115 = .ok (.ireturn, 1) := by decide +kernel
theorem dX11_marked_116 : decode cX11_marked 116 = .ok (.iload 6, 2) := by decide +kernel
theorem dX11_marked_118 : decode cX11_marked 118 = .ok (.iload 4, 2) := by decide +kernel
theorem dX11_marked_120 : decode cX11_marked 120 = .ok (.if_icmp .ne 8, 3) := by decide +kernel
theorem dX11_marked_123 : decode cX11_marked 123 = .ok (.iload 5, 2) := by decide +kernel
theorem dX11_marked_125 : decode cX11_marked 125 = .ok (.goto 17, 3) := by decide +kernel
theorem dX11_marked_128 : decode cX11_marked 128 = .ok (.iload 6, 2) := by decide +kernel
theorem dX11_marked_130 : decode cX11_marked 130 = .ok (.iload 5, 2) := by decide +kernel
theorem dX11_marked_132 : decode cX11_marked 132 = .ok (.if_icmp .ne 8, 3) := by decide +kernel
theorem dX11_marked_135 : decode cX11_marked 135 = .ok (.iload 4, 2) := by decide +kernel
theorem dX11_marked_137 : decode cX11_marked 137 = .ok (.goto 5, 3) := by decide +kernel
theorem dX11_marked_140 : decode cX11_marked 140 = .ok (.iload 6, 2) := by decide +kernel
theorem dX11_marked_142 : decode cX11_marked 142 = .ok (.ireturn, 1) := by decide +kernel
theorem dX11_marked_143 : decode cX11_marked 143 = .ok (.aload_n 0, 1) := by decide +kernel
theorem dX11_marked_144 : decode cX11_marked 144 = .ok (.getfield 28, 3) := by decide +kernel
theorem dX11_marked_147 : decode cX11_marked 147 = .ok (.iload_n 2, 1) := by decide +kernel
theorem dX11_marked_148 : decode cX11_marked 148 = .ok (.aload_n 0, 1) := by decide +kernel
theorem dX11_marked_149 : decode cX11_marked 149 = .ok (.iload_n 2, 1) := by decide +kernel
theorem dX11_marked_150 : decode cX11_marked 150 = .ok (.iload 4, 2) := by decide +kernel
theorem dX11_marked_152 : decode cX11_marked 152 = .ok (.iload_n 3, 1) := by decide +kernel
theorem dX11_marked_153 : decode cX11_marked 153 = .ok (.invokevirtual 389, 3) := by decide +kernel
theorem dX11_marked_156 : decode cX11_marked 156 = .ok (.iadd, 1) := by decide +kernel
theorem dX11_marked_157 : decode cX11_marked 157 = .ok (.iaload, 1) := by decide +kernel
theorem dX11_marked_158 : decode cX11_marked 158 = .ok (.ireturn, 1) := by decide +kernel
theorem dX11_marked_159 : decode cX11_marked 159 = .ok (.iload 6, 2) := by decide +kernel
theorem dX11_marked_161 : decode cX11_marked 161 = .ok (.iload 4, 2) := by decide +kernel
theorem dX11_marked_163 : decode cX11_marked 163 = .ok (.if_icmp .ne 7, 3) := by decide +kernel
theorem dX11_marked_166 : decode cX11_marked 166 = .ok (.iconst 0, 1) := by decide +kernel
theorem dX11_marked_167 : decode cX11_marked 167 = .ok (.goto 5, 3) := by decide +kernel
theorem dX11_marked_170 : decode cX11_marked 170 = .ok (.iload 6, 2) := by decide +kernel
theorem dX11_marked_172 : decode cX11_marked 172 = .ok (.ireturn, 1) := by decide +kernel
theorem dX11_marked_173 : decode cX11_marked 173 = .ok (.iload 6, 2) := by decide +kernel
theorem dX11_marked_175 : decode cX11_marked 175 = .ok (.ireturn, 1) := by decide +kernel
theorem dX11_behind_0 : decode cX11_behind 0 = .ok (.aload_n 0, 1) := by decide +kernel
theorem dX11_behind_1 : decode cX11_behind 1 = .ok (.getfield 28, 3) := by decide +kernel
theorem dX11_behind_4 : decode cX11_behind 4 = .ok (.sipush 216, 3) := by decide +kernel
theorem dX11_behind_7 : decode cX11_behind 7 = .ok (.iload_n 1, 1) := by decide +kernel
theorem dX11_behind_8 : decode cX11_behind 8 = .ok (.imul, 1) := by decide +kernel
theorem dX11_behind_9 : decode cX11_behind 9 = .ok (.bipush 36, 2) := by decide +kernel
theorem dX11_behind_11 : decode cX11_behind 11 = .ok (.iload_n 2, 1) := by decide +kernel
theorem dX11_behind_12 : decode cX11_behind 12 = .ok (.imul, 1) := by decide +kernel
theorem dX11_behind_13 : decode cX11_behind 13 = .ok (.iadd, 1) := by decide +kernel
theorem dX11_behind_14 : decode cX11_behind 14 = .ok (.iload_n 3, 1) := by decide +kernel
theorem dX11_behind_15 : decode cX11_behind 15 = .ok (.iadd, 1) := by decide +kernel
theorem dX11_behind_16 : decode cX11_behind 16 = .ok (.iaload, 1) := by decide +kernel
theorem dX11_behind_17 : decode cX11_behind 17 = .ok (.ireturn, 1) := by decide +kernel
theorem dX11_copies_0 : decode cX11_copies 0 = .ok (.aload_n 0, 1) := by decide +kernel
theorem dX11_copies_1 : decode cX11_copies 1 = .ok (.iconst 0, 1) := by decide +kernel
theorem dX11_copies_2 : decode cX11_copies 2 = .ok (.putfield 78, 3) := by decide +kernel
theorem dX11_copies_5 : decode cX11_copies 5 = .ok (.aload_n 0, 1) := by decide +kernel
theorem dX11_copies_6 : decode cX11_copies 6 = .ok (.iload_n 1, 1) := by decide +kernel
theorem dX11_copies_7 : decode cX11_copies 7 = .ok (.invokevirtual 349, 3) := by decide +kernel
theorem dX11_copies_10 : decode cX11_copies 10 = .ok (.ifCond .eq 20, 3) := by decide +kernel
theorem dX11_copies_13 : decode cX11_copies 13 = .ok (.aload_n 0, 1) := by decide +kernel
theorem dX11_copies_14 : decode cX11_copies 14 = .ok (.aload_n 0, 1) := by decide +kernel
theorem dX11_copies_15 : decode cX11_copies 15 = .ok (.getfield 17, 3) := by decide +kernel
theorem dX11_copies_18 : decode cX11_copies 18 = .ok (.sipush 216, 3) := by decide +kernel
theorem dX11_copies_21 : decode cX11_copies 21 = .ok (.iload_n 1, 1) := by decide +kernel
theorem dX11_copies_22 : decode cX11_copies 22 = .ok (.iadd, 1) := by decide +kernel
theorem dX11_copies_23 : decode cX11_copies 23 = .ok (.iaload, 1) := by decide +kernel
theorem dX11_copies_24 : decode cX11_copies 24 = .ok (.invokevirtual 88, 3) := by decide +kernel
theorem dX11_copies_27 : decode cX11_copies 27 = .ok (.goto 8, 3) := by decide +kernel
theorem dX11_copies_30 : decode cX11_copies 30 = .ok (.aload_n 0, 1) := by decide +kernel
theorem dX11_copies_31 : decode cX11_copies 31 = .ok (.iconst 1, 1) := by decide +kernel
theorem dX11_copies_32 : decode cX11_copies 32 = .ok (.invokevirtual 84, 3) := by decide +kernel
theorem dX11_copies_35 : decode cX11_copies 35 = .ok (.ireturn, 1) := by decide +kernel
theorem dX11_error_0 : decode cX11_error 0 = .ok (.aload_n 0, 1) := by decide +kernel
theorem dX11_error_1 : decode cX11_error 1 = .ok (.iconst 0, 1) := by decide +kernel
theorem dX11_error_2 : decode cX11_error 2 = .ok (.putfield 78, 3) := by decide +kernel
theorem dX11_error_5 : decode cX11_error 5 = .ok (.aload_n 0, 1) := by decide +kernel
theorem dX11_error_6 : decode cX11_error 6 = .ok (.iload_n 1, 1) := by decide +kernel
theorem dX11_error_7 : decode cX11_error 7 = .ok (.invokevirtual 349, 3) := by decide +kernel
theorem dX11_error_10 : decode cX11_error 10 = .ok (.ifCond .eq 12, 3) := by decide +kernel
theorem dX11_error_13 : decode cX11_error 13 = .ok (.iload_n 2, 1) := by decide +kernel
theorem dX11_error_14 : decode cX11_error 14 = .ok (.iconst 0, 1) := by decide +kernel
theorem dX11_error_15 : decode cX11_error 15 = .ok (.iconst 3, 1) := by decide +kernel
theorem dX11_error_16 : decode cX11_error 16 = .ok (.invokestatic 166, 3) := by decide +kernel
theorem dX11_error_19 : decode cX11_error 19 = .ok (.ifCond .ne 9, 3) := by decide +kernel
theorem dX11_error_22 : decode cX11_error 22 = .ok (.aload_n 0, 1) := by decide +kernel
theorem dX11_error_23 : decode cX11_error 23 = .ok (.iconst 1, 1) := by decide +kernel
theorem dX11_error_24 : decode cX11_error 24 = .ok (.invokevirtual 84, 3) := by decide +kernel
theorem dX11_error_27 : decode cX11_error 27 = .ok (.ireturn, 1) := by decide +kernel
theorem dX11_error_28 : decode cX11_error 28 = .ok (.aload_n 0, 1) := by decide +kernel
theorem dX11_error_29 : decode cX11_error 29 = .ok (.getfield 17, 3) := by decide +kernel
theorem dX11_error_32 : decode cX11_error 32 = .ok (.sipush 216, 3) := by decide +kernel
theorem dX11_error_35 : decode cX11_error 35 = .ok (.iload_n 1, 1) := by decide +kernel
theorem dX11_error_36 : decode cX11_error 36 = .ok (.iadd, 1) := by decide +kernel
theorem dX11_error_37 : decode cX11_error 37 = .ok (.iaload, 1) := by decide +kernel
theorem dX11_error_38 : decode cX11_error 38 = .ok (.bipush (-2), 2) := by decide +kernel
theorem dX11_error_40 : decode cX11_error 40 = .ok (.if_icmp .ne 18, 3) := by decide +kernel
theorem dX11_error_43 : decode cX11_error 43 = .ok (.aload_n 0, 1) := by decide +kernel
theorem dX11_error_44 : decode cX11_error 44 = .ok (.iload_n 2, 1) := by decide +kernel
theorem dX11_error_45 : decode cX11_error 45 = .ok (.ifCond .ne 7, 3) := by decide +kernel
theorem dX11_error_48 : decode cX11_error 48 = .ok (.iconst 0, 1) := by decide +kernel
theorem dX11_error_49 : decode cX11_error 49 = .ok (.goto 5, 3) := by decide +kernel
theorem dX11_error_52 : decode cX11_error 52 = .ok (.bipush (-2), 2) := by decide +kernel
theorem dX11_error_54 : decode cX11_error 54 = .ok (.invokevirtual 88, 3) := by decide +kernel
theorem dX11_error_57 : decode cX11_error 57 = .ok (.ireturn, 1) := by decide +kernel
theorem dX11_error_58 : decode cX11_error 58 = .ok (.aload_n 0, 1) := by decide +kernel
theorem dX11_error_59 : decode cX11_error 59 = .ok (.aload_n 0, 1) := by decide +kernel
theorem dX11_error_60 : decode cX11_error 60 = .ok (.getfield 17, 3) := by decide +kernel
theorem dX11_error_63 : decode cX11_error 63 = .ok (.sipush 222, 3) := by decide +kernel
theorem dX11_error_66 : decode cX11_error 66 = .ok (.iconst 4, 1) := by decide +kernel
theorem dX11_error_67 : decode cX11_error 67 = .ok (.iload_n 1, 1) := by decide +kernel
theorem dX11_error_68 : decode cX11_error 68 = .ok (.imul, 1) := by decide +kernel
theorem dX11_error_69 : decode cX11_error 69 = .ok (.iadd, 1) := by decide +kernel
theorem dX11_error_70 : decode cX11_error 70 = .ok (.iload_n 2, 1) := by decide +kernel
theorem dX11_error_71 : decode cX11_error 71 = .ok (.iadd, 1) := by decide +kernel
theorem dX11_error_72 : decode cX11_error 72 = .ok (.iaload, 1) := by decide +kernel
theorem dX11_error_73 : decode cX11_error 73 = .ok (.invokevirtual 88, 3) := by decide +kernel
theorem dX11_error_76 : decode cX11_error 76 = .ok (.ireturn, 1) := by decide +kernel
theorem dX11_cell_0 : decode cX11_cell 0 = .ok (.aload_n 0, 1) := by decide +kernel
theorem dX11_cell_1 : decode cX11_cell 1 = .ok (.iconst 0, 1) := by decide +kernel
theorem dX11_cell_2 : decode cX11_cell 2 = .ok (.putfield 78, 3) := by decide +kernel
theorem dX11_cell_5 : decode cX11_cell 5 = .ok (.aload_n 0, 1) := by decide +kernel
theorem dX11_cell_6 : decode cX11_cell 6 = .ok (.iload_n 1, 1) := by decide +kernel
theorem dX11_cell_7 : decode cX11_cell 7 = .ok (.iload_n 2, 1) := by decide +kernel
theorem dX11_cell_8 : decode cX11_cell 8 = .ok (.invokevirtual 392, 3) := by decide +kernel
theorem dX11_cell_11 : decode cX11_cell 11 = .ok (.ifCond .eq 25, 3) := by decide +kernel
theorem dX11_cell_14 : decode cX11_cell 14 = .ok (.aload_n 0, 1) := by decide +kernel
theorem dX11_cell_15 : decode cX11_cell 15 = .ok (.aload_n 0, 1) := by decide +kernel
theorem dX11_cell_16 : decode cX11_cell 16 = .ok (.getfield 17, 3) := by decide +kernel
theorem dX11_cell_19 : decode cX11_cell 19 = .ok (.bipush 36, 2) := by decide +kernel
theorem dX11_cell_21 : decode cX11_cell 21 = .ok (.iload_n 1, 1) := by decide +kernel
theorem dX11_cell_22 : decode cX11_cell 22 = .ok (.imul, 1) := by decide +kernel
theorem dX11_cell_23 : decode cX11_cell 23 = .ok (.aload_n 0, 1) := by decide +kernel
theorem dX11_cell_24 : decode cX11_cell 24 = .ok (.iload_n 2, 1) := by decide +kernel
theorem dX11_cell_25 : decode cX11_cell 25 = .ok (.invokevirtual 352, 3) := by decide +kernel
theorem dX11_cell_28 : decode cX11_cell 28 = .ok (.iadd, 1) := by decide +kernel
theorem dX11_cell_29 : decode cX11_cell 29 = .ok (.iaload, 1) := by decide +kernel
theorem dX11_cell_30 : decode cX11_cell 30 = .ok (.invokevirtual 88, 3) := by decide +kernel
theorem dX11_cell_33 : decode cX11_cell 33 = .ok (.goto 8, 3) := by decide +kernel
theorem dX11_cell_36 : decode cX11_cell 36 = .ok (.aload_n 0, 1) := by decide +kernel
theorem dX11_cell_37 : decode cX11_cell 37 = .ok (.iconst 1, 1) := by decide +kernel
theorem dX11_cell_38 : decode cX11_cell 38 = .ok (.invokevirtual 84, 3) := by decide +kernel
theorem dX11_cell_41 : decode cX11_cell 41 = .ok (.ireturn, 1) := by decide +kernel
theorem dX11_first_0 : decode cX11_first 0 = .ok (.aload_n 0, 1) := by decide +kernel
theorem dX11_first_1 : decode cX11_first 1 = .ok (.iconst 0, 1) := by decide +kernel
theorem dX11_first_2 : decode cX11_first 2 = .ok (.putfield 78, 3) := by decide +kernel
theorem dX11_first_5 : decode cX11_first 5 = .ok (.aload_n 0, 1) := by decide +kernel
theorem dX11_first_6 : decode cX11_first 6 = .ok (.iload_n 1, 1) := by decide +kernel
theorem dX11_first_7 : decode cX11_first 7 = .ok (.iload_n 2, 1) := by decide +kernel
theorem dX11_first_8 : decode cX11_first 8 = .ok (.invokevirtual 392, 3) := by decide +kernel
theorem dX11_first_11 : decode cX11_first 11 = .ok (.ifCond .eq 28, 3) := by decide +kernel
theorem dX11_first_14 : decode cX11_first 14 = .ok (.aload_n 0, 1) := by decide +kernel
theorem dX11_first_15 : decode cX11_first 15 = .ok (.aload_n 0, 1) := by decide +kernel
theorem dX11_first_16 : decode cX11_first 16 = .ok (.getfield 341, 3) := by decide +kernel
theorem dX11_first_19 : decode cX11_first 19 = .ok (.getfield 262, 3) := by decide +kernel
theorem dX11_first_22 : decode cX11_first 22 = .ok (.bipush 36, 2) := by decide +kernel
theorem dX11_first_24 : decode cX11_first 24 = .ok (.iload_n 1, 1) := by decide +kernel
theorem dX11_first_25 : decode cX11_first 25 = .ok (.imul, 1) := by decide +kernel
theorem dX11_first_26 : decode cX11_first 26 = .ok (.aload_n 0, 1) := by decide +kernel
theorem dX11_first_27 : decode cX11_first 27 = .ok (.iload_n 2, 1) := by decide +kernel
theorem dX11_first_28 : decode cX11_first 28 = .ok (.invokevirtual 352, 3) := by decide +kernel
theorem dX11_first_31 : decode cX11_first 31 = .ok (.iadd, 1) := by decide +kernel
theorem dX11_first_32 : decode cX11_first 32 = .ok (.iaload, 1) := by decide +kernel
theorem dX11_first_33 : decode cX11_first 33 = .ok (.invokevirtual 88, 3) := by decide +kernel
theorem dX11_first_36 : decode cX11_first 36 = .ok (.goto 8, 3) := by decide +kernel
theorem dX11_first_39 : decode cX11_first 39 = .ok (.aload_n 0, 1) := by decide +kernel
theorem dX11_first_40 : decode cX11_first 40 = .ok (.iconst 1, 1) := by decide +kernel
theorem dX11_first_41 : decode cX11_first 41 = .ok (.invokevirtual 84, 3) := by decide +kernel
theorem dX11_first_44 : decode cX11_first 44 = .ok (.ireturn, 1) := by decide +kernel
theorem dX11_asks_0 : decode cX11_asks 0 = .ok (.iload_n 1, 1) := by decide +kernel
theorem dX11_asks_1 : decode cX11_asks 1 = .ok (.ifCond .ne 5, 3) := by decide +kernel
theorem dX11_asks_4 : decode cX11_asks 4 = .ok (.iconst 1, 1) := by decide +kernel
theorem dX11_asks_5 : decode cX11_asks 5 = .ok (.ireturn, 1) := by decide +kernel
theorem dX11_asks_6 : decode cX11_asks 6 = .ok (.iload_n 2, 1) := by decide +kernel
theorem dX11_asks_7 : decode cX11_asks 7 = .ok (.iconst 0, 1) := by decide +kernel
theorem dX11_asks_8 : decode cX11_asks 8 = .ok (.bipush 60, 2) := by decide +kernel
theorem dX11_asks_10 : decode cX11_asks 10 = .ok (.invokestatic 166, 3) := by decide +kernel
theorem dX11_asks_13 : decode cX11_asks 13 = .ok (.ifCond .ne 5, 3) := by decide +kernel
theorem dX11_asks_16 : decode cX11_asks 16 = .ok (.iconst 2, 1) := by decide +kernel
theorem dX11_asks_17 : decode cX11_asks 17 = .ok (.ireturn, 1) := by decide +kernel
theorem dX11_asks_18 : decode cX11_asks 18 = .ok (.aload_n 0, 1) := by decide +kernel
theorem dX11_asks_19 : decode cX11_asks 19 = .ok (.invokevirtual 396, 3) := by decide +kernel
theorem dX11_asks_22 : decode cX11_asks 22 = .ok (.aload_n 0, 1) := by decide +kernel
theorem dX11_asks_23 : decode cX11_asks 23 = .ok (.iload_n 2, 1) := by decide +kernel
theorem dX11_asks_24 : decode cX11_asks 24 = .ok (.invokevirtual 399, 3) := by decide +kernel
theorem dX11_asks_27 : decode cX11_asks 27 = .ok (.iconst 0, 1) := by decide +kernel
theorem dX11_asks_28 : decode cX11_asks 28 = .ok (.ireturn, 1) := by decide +kernel
theorem dX11_after_0 : decode cX11_after 0 = .ok (.aload_n 0, 1) := by decide +kernel
theorem dX11_after_1 : decode cX11_after 1 = .ok (.iconst 0, 1) := by decide +kernel
theorem dX11_after_2 : decode cX11_after 2 = .ok (.putfield 78, 3) := by decide +kernel
theorem dX11_after_5 : decode cX11_after 5 = .ok (.aload_n 0, 1) := by decide +kernel
theorem dX11_after_6 : decode cX11_after 6 = .ok (.aload_n 0, 1) := by decide +kernel
theorem dX11_after_7 : decode cX11_after 7 = .ok (.iload_n 1, 1) := by decide +kernel
theorem dX11_after_8 : decode cX11_after 8 = .ok (.iload_n 2, 1) := by decide +kernel
theorem dX11_after_9 : decode cX11_after 9 = .ok (.invokevirtual 392, 3) := by decide +kernel
theorem dX11_after_12 : decode cX11_after 12 = .ok (.iload_n 3, 1) := by decide +kernel
theorem dX11_after_13 : decode cX11_after 13 = .ok (.invokevirtual 402, 3) := by decide +kernel
theorem dX11_after_16 : decode cX11_after 16 = .ok (.istore 4, 2) := by decide +kernel
theorem dX11_after_18 : decode cX11_after 18 = .ok (.iload 4, 2) := by decide +kernel
theorem dX11_after_20 : decode cX11_after 20 = .ok (.ifCond .le 12, 3) := by decide +kernel
theorem dX11_after_23 : decode cX11_after 23 = .ok (.aload_n 0, 1) := by decide +kernel
theorem dX11_after_24 : decode cX11_after 24 = .ok (.iload 4, 2) := by decide +kernel
theorem dX11_after_26 : decode cX11_after 26 = .ok (.invokevirtual 84, 3) := by decide +kernel
theorem dX11_after_29 : decode cX11_after 29 = .ok (.goto 18, 3) := by decide +kernel
theorem dX11_after_32 : decode cX11_after 32 = .ok (.aload_n 0, 1) := by decide +kernel
theorem dX11_after_33 : decode cX11_after 33 = .ok (.aload_n 0, 1) := by decide +kernel
theorem dX11_after_34 : decode cX11_after 34 = .ok (.iload_n 3, 1) := by decide +kernel
theorem dX11_after_35 : decode cX11_after 35 = .ok (.iload_n 1, 1) := by decide +kernel
theorem dX11_after_36 : decode cX11_after 36 = .ok (.aload_n 0, 1) := by decide +kernel
theorem dX11_after_37 : decode cX11_after 37 = .ok (.iload_n 2, 1) := by decide +kernel
theorem dX11_after_38 : decode cX11_after 38 = .ok (.invokevirtual 352, 3) := by decide +kernel
theorem dX11_after_41 : decode cX11_after 41 = .ok (.invokevirtual 406, 3) := by decide +kernel
theorem dX11_after_44 : decode cX11_after 44 = .ok (.invokevirtual 88, 3) := by decide +kernel
theorem dX11_after_47 : decode cX11_after 47 = .ok (.ireturn, 1) := by decide +kernel
theorem dX11_many_0 : decode cX11_many 0 = .ok (.aload_n 0, 1) := by decide +kernel
theorem dX11_many_1 : decode cX11_many 1 = .ok (.iconst 0, 1) := by decide +kernel
theorem dX11_many_2 : decode cX11_many 2 = .ok (.putfield 78, 3) := by decide +kernel
theorem dX11_many_5 : decode cX11_many 5 = .ok (.aload_n 0, 1) := by decide +kernel
theorem dX11_many_6 : decode cX11_many 6 = .ok (.aload_n 0, 1) := by decide +kernel
theorem dX11_many_7 : decode cX11_many 7 = .ok (.iload_n 1, 1) := by decide +kernel
theorem dX11_many_8 : decode cX11_many 8 = .ok (.invokevirtual 349, 3) := by decide +kernel
theorem dX11_many_11 : decode cX11_many 11 = .ok (.ifCond .eq 15, 3) := by decide +kernel
theorem dX11_many_14 : decode cX11_many 14 = .ok (.aload_n 0, 1) := by decide +kernel
theorem dX11_many_15 : decode cX11_many 15 = .ok (.iload_n 2, 1) := by decide +kernel
theorem dX11_many_16 : decode cX11_many 16 = .ok (.invokevirtual 409, 3) := by decide +kernel
theorem dX11_many_19 : decode cX11_many 19 = .ok (.ifCond .eq 7, 3) := by decide +kernel
theorem dX11_many_22 : decode cX11_many 22 = .ok (.iconst 1, 1) := by decide +kernel
theorem dX11_many_23 : decode cX11_many 23 = .ok (.goto 4, 3) := by decide +kernel
theorem dX11_many_26 : decode cX11_many 26 = .ok (.iconst 0, 1) := by decide +kernel
theorem dX11_many_27 : decode cX11_many 27 = .ok (.iload_n 3, 1) := by decide +kernel
theorem dX11_many_28 : decode cX11_many 28 = .ok (.invokevirtual 402, 3) := by decide +kernel
theorem dX11_many_31 : decode cX11_many 31 = .ok (.istore 4, 2) := by decide +kernel
theorem dX11_many_33 : decode cX11_many 33 = .ok (.iload 4, 2) := by decide +kernel
theorem dX11_many_35 : decode cX11_many 35 = .ok (.ifCond .le 10, 3) := by decide +kernel
theorem dX11_many_38 : decode cX11_many 38 = .ok (.aload_n 0, 1) := by decide +kernel
theorem dX11_many_39 : decode cX11_many 39 = .ok (.iload 4, 2) := by decide +kernel
theorem dX11_many_41 : decode cX11_many 41 = .ok (.invokevirtual 84, 3) := by decide +kernel
theorem dX11_many_44 : decode cX11_many 44 = .ok (.ireturn, 1) := by decide +kernel
theorem dX11_many_45 : decode cX11_many 45 = .ok (.iconst 0, 1) := by decide +kernel
theorem dX11_many_46 : decode cX11_many 46 = .ok (.istore 5, 2) := by decide +kernel
theorem dX11_many_48 : decode cX11_many 48 = .ok (.iconst 0, 1) := by decide +kernel
theorem dX11_many_49 : decode cX11_many 49 = .ok (.istore 6, 2) := by decide +kernel
theorem dX11_many_51 : decode cX11_many 51 = .ok (.iload 6, 2) := by decide +kernel
theorem dX11_many_53 : decode cX11_many 53 = .ok (.aload_n 0, 1) := by decide +kernel
theorem dX11_many_54 : decode cX11_many 54 = .ok (.getfield 341, 3) := by decide +kernel
theorem dX11_many_57 : decode cX11_many 57 = .ok (.invokevirtual 373, 3) := by decide +kernel
theorem dX11_many_60 : decode cX11_many 60 = .ok (.if_icmp .ge 31, 3) := by decide +kernel
theorem dX11_many_63 : decode cX11_many 63 = .ok (.iload 5, 2) := by decide +kernel
theorem dX11_many_65 : decode cX11_many 65 = .ok (.aload_n 0, 1) := by decide +kernel
theorem dX11_many_66 : decode cX11_many 66 = .ok (.iload_n 3, 1) := by decide +kernel
theorem dX11_many_67 : decode cX11_many 67 = .ok (.iload_n 1, 1) := by decide +kernel
theorem dX11_many_68 : decode cX11_many 68 = .ok (.iload 6, 2) := by decide +kernel
theorem dX11_many_70 : decode cX11_many 70 = .ok (.invokevirtual 406, 3) := by decide +kernel
theorem dX11_many_73 : decode cX11_many 73 = .ok (.iload_n 2, 1) := by decide +kernel
theorem dX11_many_74 : decode cX11_many 74 = .ok (.if_icmp .ne 7, 3) := by decide +kernel
theorem dX11_many_77 : decode cX11_many 77 = .ok (.iconst 1, 1) := by decide +kernel
theorem dX11_many_78 : decode cX11_many 78 = .ok (.goto 4, 3) := by decide +kernel
theorem dX11_many_81 : decode cX11_many 81 = .ok (.iconst 0, 1) := by decide +kernel
theorem dX11_many_82 : decode cX11_many 82 = .ok (.iadd, 1) := by decide +kernel
theorem dX11_many_83 : decode cX11_many 83 = .ok (.istore 5, 2) := by decide +kernel
theorem dX11_many_85 : decode cX11_many 85 = .ok (.iinc 6 1, 3) := by decide +kernel
theorem dX11_many_88 : decode cX11_many 88 = .ok (.goto (-37), 3) := by decide +kernel
theorem dX11_many_91 : decode cX11_many 91 = .ok (.aload_n 0, 1) := by decide +kernel
theorem dX11_many_92 : decode cX11_many 92 = .ok (.iload 5, 2) := by decide +kernel
theorem dX11_many_94 : decode cX11_many 94 = .ok (.invokevirtual 88, 3) := by decide +kernel
theorem dX11_many_97 : decode cX11_many 97 = .ok (.ireturn, 1) := by decide +kernel
theorem dX11_unlike_0 : decode cX11_unlike 0 = .ok (.aload_n 0, 1) := by decide +kernel
theorem dX11_unlike_1 : decode cX11_unlike 1 = .ok (.iconst 0, 1) := by decide +kernel
theorem dX11_unlike_2 : decode cX11_unlike 2 = .ok (.putfield 78, 3) := by decide +kernel
theorem dX11_unlike_5 : decode cX11_unlike 5 = .ok (.aload_n 0, 1) := by decide +kernel
theorem dX11_unlike_6 : decode cX11_unlike 6 = .ok (.aload_n 0, 1) := by decide +kernel
theorem dX11_unlike_7 : decode cX11_unlike 7 = .ok (.iload_n 1, 1) := by decide +kernel
theorem dX11_unlike_8 : decode cX11_unlike 8 = .ok (.invokevirtual 349, 3) := by decide +kernel
theorem dX11_unlike_11 : decode cX11_unlike 11 = .ok (.ifCond .eq 15, 3) := by decide +kernel
theorem dX11_unlike_14 : decode cX11_unlike 14 = .ok (.aload_n 0, 1) := by decide +kernel
theorem dX11_unlike_15 : decode cX11_unlike 15 = .ok (.iload_n 2, 1) := by decide +kernel
theorem dX11_unlike_16 : decode cX11_unlike 16 = .ok (.invokevirtual 349, 3) := by decide +kernel
theorem dX11_unlike_19 : decode cX11_unlike 19 = .ok (.ifCond .eq 7, 3) := by decide +kernel
theorem dX11_unlike_22 : decode cX11_unlike 22 = .ok (.iconst 1, 1) := by decide +kernel
theorem dX11_unlike_23 : decode cX11_unlike 23 = .ok (.goto 4, 3) := by decide +kernel
theorem dX11_unlike_26 : decode cX11_unlike 26 = .ok (.iconst 0, 1) := by decide +kernel
theorem dX11_unlike_27 : decode cX11_unlike 27 = .ok (.iload_n 3, 1) := by decide +kernel
theorem dX11_unlike_28 : decode cX11_unlike 28 = .ok (.invokevirtual 402, 3) := by decide +kernel
theorem dX11_unlike_31 : decode cX11_unlike 31 = .ok (.istore 4, 2) := by decide +kernel
theorem dX11_unlike_33 : decode cX11_unlike 33 = .ok (.iload 4, 2) := by decide +kernel
theorem dX11_unlike_35 : decode cX11_unlike 35 = .ok (.ifCond .le 10, 3) := by decide +kernel
theorem dX11_unlike_38 : decode cX11_unlike 38 = .ok (.aload_n 0, 1) := by decide +kernel
theorem dX11_unlike_39 : decode cX11_unlike 39 = .ok (.iload 4, 2) := by decide +kernel
theorem dX11_unlike_41 : decode cX11_unlike 41 = .ok (.invokevirtual 84, 3) := by decide +kernel
theorem dX11_unlike_44 : decode cX11_unlike 44 = .ok (.ireturn, 1) := by decide +kernel
theorem dX11_unlike_45 : decode cX11_unlike 45 = .ok (.iconst 0, 1) := by decide +kernel
theorem dX11_unlike_46 : decode cX11_unlike 46 = .ok (.istore 5, 2) := by decide +kernel
theorem dX11_unlike_48 : decode cX11_unlike 48 = .ok (.iconst 0, 1) := by decide +kernel
theorem dX11_unlike_49 : decode cX11_unlike 49 = .ok (.istore 6, 2) := by decide +kernel
theorem dX11_unlike_51 : decode cX11_unlike 51 = .ok (.iload 6, 2) := by decide +kernel
theorem dX11_unlike_53 : decode cX11_unlike 53 = .ok (.aload_n 0, 1) := by decide +kernel
theorem dX11_unlike_54 : decode cX11_unlike 54 = .ok (.getfield 341, 3) := by decide +kernel
theorem dX11_unlike_57 : decode cX11_unlike 57 = .ok (.invokevirtual 373, 3) := by decide +kernel
theorem dX11_unlike_60 : decode cX11_unlike 60 = .ok (.if_icmp .ge 38, 3) := by decide +kernel
theorem dX11_unlike_63 : decode cX11_unlike 63 = .ok (.iload 5, 2) := by decide +kernel
theorem dX11_unlike_65 : decode cX11_unlike 65 = .ok (.aload_n 0, 1) := by decide +kernel
theorem dX11_unlike_66 : decode cX11_unlike 66 = .ok (.iload_n 3, 1) := by decide +kernel
theorem dX11_unlike_67 : decode cX11_unlike 67 = .ok (.iload_n 1, 1) := by decide +kernel
theorem dX11_unlike_68 : decode cX11_unlike 68 = .ok (.iload 6, 2) := by decide +kernel
theorem dX11_unlike_70 : decode cX11_unlike 70 = .ok (.invokevirtual 406, 3) := by decide +kernel
theorem dX11_unlike_73 : decode cX11_unlike 73 = .ok (.aload_n 0, 1) := by decide +kernel
theorem dX11_unlike_74 : decode cX11_unlike 74 = .ok (.iload_n 3, 1) := by decide +kernel
theorem dX11_unlike_75 : decode cX11_unlike 75 = .ok (.iload_n 2, 1) := by decide +kernel
theorem dX11_unlike_76 : decode cX11_unlike 76 = .ok (.iload 6, 2) := by decide +kernel
theorem dX11_unlike_78 : decode cX11_unlike 78 = .ok (.invokevirtual 406, 3) := by decide +kernel
theorem dX11_unlike_81 : decode cX11_unlike 81 = .ok (.if_icmp .eq 7, 3) := by decide +kernel
theorem dX11_unlike_84 : decode cX11_unlike 84 = .ok (.iconst 1, 1) := by decide +kernel
theorem dX11_unlike_85 : decode cX11_unlike 85 = .ok (.goto 4, 3) := by decide +kernel
theorem dX11_unlike_88 : decode cX11_unlike 88 = .ok (.iconst 0, 1) := by decide +kernel
theorem dX11_unlike_89 : decode cX11_unlike 89 = .ok (.iadd, 1) := by decide +kernel
theorem dX11_unlike_90 : decode cX11_unlike 90 = .ok (.istore 5, 2) := by decide +kernel
theorem dX11_unlike_92 : decode cX11_unlike 92 = .ok (.iinc 6 1, 3) := by decide +kernel
theorem dX11_unlike_95 : decode cX11_unlike 95 = .ok (.goto (-44), 3) := by decide +kernel
theorem dX11_unlike_98 : decode cX11_unlike 98 = .ok (.aload_n 0, 1) := by decide +kernel
theorem dX11_unlike_99 : decode cX11_unlike 99 = .ok (.iload 5, 2) := by decide +kernel
theorem dX11_unlike_101 : decode cX11_unlike 101 = .ok (.invokevirtual 88, 3) := by decide +kernel
theorem dX11_unlike_104 : decode cX11_unlike 104 = .ok (.ireturn, 1) := by decide +kernel
theorem dX11_trueOnes_0 : decode cX11_trueOnes 0 = .ok (.aload_n 0, 1) := by decide +kernel
theorem dX11_trueOnes_1 : decode cX11_trueOnes 1 = .ok (.iconst 0, 1) := by decide +kernel
theorem dX11_trueOnes_2 : decode cX11_trueOnes 2 = .ok (.putfield 78, 3) := by decide +kernel
theorem dX11_trueOnes_5 : decode cX11_trueOnes 5 = .ok (.aload_n 0, 1) := by decide +kernel
theorem dX11_trueOnes_6 : decode cX11_trueOnes 6 = .ok (.aload_n 0, 1) := by decide +kernel
theorem dX11_trueOnes_7 : decode cX11_trueOnes 7 = .ok (.iload_n 1, 1) := by decide +kernel
theorem dX11_trueOnes_8 : decode cX11_trueOnes 8 = .ok (.invokevirtual 349, 3) := by decide +kernel
theorem dX11_trueOnes_11 : decode cX11_trueOnes 11 = .ok (.iload_n 2, 1) := by decide +kernel
theorem dX11_trueOnes_12 : decode cX11_trueOnes 12 = .ok (.invokevirtual 402, 3) := by decide +kernel
theorem dX11_trueOnes_15 : decode cX11_trueOnes 15 = .ok (.istore_n 3, 1) := by decide +kernel
theorem dX11_trueOnes_16 : decode cX11_trueOnes 16 = .ok (.iload_n 3, 1) := by decide +kernel
theorem dX11_trueOnes_17 : decode cX11_trueOnes 17 = .ok (.ifCond .le 9, 3) := by decide +kernel
theorem dX11_trueOnes_20 : decode cX11_trueOnes 20 = .ok (.aload_n 0, 1) := by decide +kernel
theorem dX11_trueOnes_21 : decode cX11_trueOnes 21 = .ok (.iload_n 3, 1) := by decide +kernel
theorem dX11_trueOnes_22 : decode cX11_trueOnes 22 = .ok (.invokevirtual 84, 3) := by decide +kernel
theorem dX11_trueOnes_25 : decode cX11_trueOnes 25 = .ok (.ireturn, 1) := by decide +kernel
theorem dX11_trueOnes_26 : decode cX11_trueOnes 26 = .ok (.iconst 0, 1) := by decide +kernel
theorem dX11_trueOnes_27 : decode cX11_trueOnes 27 = .ok (.istore 4, 2) := by decide +kernel
theorem dX11_trueOnes_29 : decode cX11_trueOnes 29 = .ok (.iconst 0, 1) := by decide +kernel
theorem dX11_trueOnes_30 : decode cX11_trueOnes 30 = .ok (.istore 5, 2) := by decide +kernel
theorem dX11_trueOnes_32 : decode cX11_trueOnes 32 = .ok (.iload 5, 2) := by decide +kernel
theorem dX11_trueOnes_34 : decode cX11_trueOnes 34 = .ok (.aload_n 0, 1) := by decide +kernel
theorem dX11_trueOnes_35 : decode cX11_trueOnes 35 = .ok (.getfield 341, 3) := by decide +kernel
theorem dX11_trueOnes_38 : decode cX11_trueOnes 38 = .ok (.invokevirtual 373, 3) := by decide +kernel
theorem dX11_trueOnes_41 : decode cX11_trueOnes 41 = .ok (.if_icmp .ge 45, 3) := by decide +kernel
theorem dX11_trueOnes_44 : decode cX11_trueOnes 44 = .ok (.iload 4, 2) := by decide +kernel
theorem dX11_trueOnes_46 : decode cX11_trueOnes 46 = .ok (.aload_n 0, 1) := by decide +kernel
theorem dX11_trueOnes_47 : decode cX11_trueOnes 47 = .ok (.iload_n 2, 1) := by decide +kernel
theorem dX11_trueOnes_48 : decode cX11_trueOnes 48 = .ok (.iload_n 1, 1) := by decide +kernel
theorem dX11_trueOnes_49 : decode cX11_trueOnes 49 = .ok (.iload 5, 2) := by decide +kernel
theorem dX11_trueOnes_51 : decode cX11_trueOnes 51 = .ok (.invokevirtual 406, 3) := by decide +kernel
theorem dX11_trueOnes_54 : decode cX11_trueOnes 54 = .ok (.aload_n 0, 1) := by decide +kernel
theorem dX11_trueOnes_55 : decode cX11_trueOnes 55 = .ok (.getfield 341, 3) := by decide +kernel
theorem dX11_trueOnes_58 : decode cX11_trueOnes 58 = .ok (.getfield 262, 3) := by decide +kernel
theorem dX11_trueOnes_61 : decode cX11_trueOnes 61 = .ok (.bipush 36, 2) := by decide +kernel
theorem dX11_trueOnes_63 : decode cX11_trueOnes 63 = .ok (.iload_n 1, 1) := by decide +kernel
theorem dX11_trueOnes_64 : decode cX11_trueOnes 64 = .ok (.imul, 1) := by decide +kernel
theorem dX11_trueOnes_65 : decode cX11_trueOnes 65 = .ok (.iload 5, 2) := by decide +kernel
theorem dX11_trueOnes_67 : decode cX11_trueOnes 67 = .ok (.iadd, 1) := by decide +kernel
theorem dX11_trueOnes_68 : decode cX11_trueOnes 68 = .ok (.iaload, 1) := by decide +kernel
theorem dX11_trueOnes_69 : decode cX11_trueOnes 69 = .ok (.if_icmp .ne 7, 3) := by decide +kernel
theorem dX11_trueOnes_72 : decode cX11_trueOnes 72 = .ok (.iconst 1, 1) := by decide +kernel
theorem dX11_trueOnes_73 : decode cX11_trueOnes 73 = .ok (.goto 4, 3) := by decide +kernel
theorem dX11_trueOnes_76 : decode cX11_trueOnes 76 = .ok (.iconst 0, 1) := by decide +kernel
theorem dX11_trueOnes_77 : decode cX11_trueOnes 77 = .ok (.iadd, 1) := by decide +kernel
theorem dX11_trueOnes_78 : decode cX11_trueOnes 78 = .ok (.istore 4, 2) := by decide +kernel
theorem dX11_trueOnes_80 : decode cX11_trueOnes 80 = .ok (.iinc 5 1, 3) := by decide +kernel
theorem dX11_trueOnes_83 : decode cX11_trueOnes 83 = .ok (.goto (-51), 3) := by decide +kernel
theorem dX11_trueOnes_86 : decode cX11_trueOnes 86 = .ok (.aload_n 0, 1) := by decide +kernel
theorem dX11_trueOnes_87 : decode cX11_trueOnes 87 = .ok (.iload 4, 2) := by decide +kernel
theorem dX11_trueOnes_89 : decode cX11_trueOnes 89 = .ok (.invokevirtual 88, 3) := by decide +kernel
theorem dX11_trueOnes_92 : decode cX11_trueOnes 92 = .ok (.ireturn, 1) := by decide +kernel
theorem dX11_when_0 : decode cX11_when 0 = .ok (.aload_n 0, 1) := by decide +kernel
theorem dX11_when_1 : decode cX11_when 1 = .ok (.iconst 0, 1) := by decide +kernel
theorem dX11_when_2 : decode cX11_when 2 = .ok (.putfield 78, 3) := by decide +kernel
theorem dX11_when_5 : decode cX11_when 5 = .ok (.aload_n 0, 1) := by decide +kernel
theorem dX11_when_6 : decode cX11_when 6 = .ok (.aload_n 0, 1) := by decide +kernel
theorem dX11_when_7 : decode cX11_when 7 = .ok (.iload_n 1, 1) := by decide +kernel
theorem dX11_when_8 : decode cX11_when 8 = .ok (.iload_n 2, 1) := by decide +kernel
theorem dX11_when_9 : decode cX11_when 9 = .ok (.invokevirtual 392, 3) := by decide +kernel
theorem dX11_when_12 : decode cX11_when 12 = .ok (.ifCond .eq 15, 3) := by decide +kernel
theorem dX11_when_15 : decode cX11_when 15 = .ok (.aload_n 0, 1) := by decide +kernel
theorem dX11_when_16 : decode cX11_when 16 = .ok (.iload_n 3, 1) := by decide +kernel
theorem dX11_when_17 : decode cX11_when 17 = .ok (.invokevirtual 409, 3) := by decide +kernel
theorem dX11_when_20 : decode cX11_when 20 = .ok (.ifCond .eq 7, 3) := by decide +kernel
theorem dX11_when_23 : decode cX11_when 23 = .ok (.iconst 1, 1) := by decide +kernel
theorem dX11_when_24 : decode cX11_when 24 = .ok (.goto 4, 3) := by decide +kernel
theorem dX11_when_27 : decode cX11_when 27 = .ok (.iconst 0, 1) := by decide +kernel
theorem dX11_when_28 : decode cX11_when 28 = .ok (.bipush 60, 2) := by decide +kernel
theorem dX11_when_30 : decode cX11_when 30 = .ok (.invokevirtual 402, 3) := by decide +kernel
theorem dX11_when_33 : decode cX11_when 33 = .ok (.istore 4, 2) := by decide +kernel
theorem dX11_when_35 : decode cX11_when 35 = .ok (.iload 4, 2) := by decide +kernel
theorem dX11_when_37 : decode cX11_when 37 = .ok (.ifCond .le 10, 3) := by decide +kernel
theorem dX11_when_40 : decode cX11_when 40 = .ok (.aload_n 0, 1) := by decide +kernel
theorem dX11_when_41 : decode cX11_when 41 = .ok (.iload 4, 2) := by decide +kernel
theorem dX11_when_43 : decode cX11_when 43 = .ok (.invokevirtual 84, 3) := by decide +kernel
theorem dX11_when_46 : decode cX11_when 46 = .ok (.ireturn, 1) := by decide +kernel
theorem dX11_when_47 : decode cX11_when 47 = .ok (.iconst 0, 1) := by decide +kernel
theorem dX11_when_48 : decode cX11_when 48 = .ok (.istore 5, 2) := by decide +kernel
theorem dX11_when_50 : decode cX11_when 50 = .ok (.iload 5, 2) := by decide +kernel
theorem dX11_when_52 : decode cX11_when 52 = .ok (.bipush 60, 2) := by decide +kernel
theorem dX11_when_54 : decode cX11_when 54 = .ok (.if_icmp .gt 32, 3) := by decide +kernel
theorem dX11_when_57 : decode cX11_when 57 = .ok (.aload_n 0, 1) := by decide +kernel
theorem dX11_when_58 : decode cX11_when 58 = .ok (.iload 5, 2) := by decide +kernel
theorem dX11_when_60 : decode cX11_when 60 = .ok (.iload_n 1, 1) := by decide +kernel
theorem dX11_when_61 : decode cX11_when 61 = .ok (.aload_n 0, 1) := by decide +kernel
theorem dX11_when_62 : decode cX11_when 62 = .ok (.iload_n 2, 1) := by decide +kernel
theorem dX11_when_63 : decode cX11_when 63 = .ok (.invokevirtual 352, 3) := by decide +kernel
theorem dX11_when_66 : decode cX11_when 66 = .ok (.invokevirtual 406, 3) := by decide +kernel
theorem dX11_when_69 : decode cX11_when 69 = .ok (.iload_n 3, 1) := by decide +kernel
theorem dX11_when_70 : decode cX11_when 70 = .ok (.if_icmp .ne 10, 3) := by decide +kernel
theorem dX11_when_73 : decode cX11_when 73 = .ok (.aload_n 0, 1) := by decide +kernel
theorem dX11_when_74 : decode cX11_when 74 = .ok (.iload 5, 2) := by decide +kernel
theorem dX11_when_76 : decode cX11_when 76 = .ok (.invokevirtual 88, 3) := by decide +kernel
theorem dX11_when_79 : decode cX11_when 79 = .ok (.ireturn, 1) := by decide +kernel
theorem dX11_when_80 : decode cX11_when 80 = .ok (.iinc 5 1, 3) := by decide +kernel
theorem dX11_when_83 : decode cX11_when 83 = .ok (.goto (-33), 3) := by decide +kernel
theorem dX11_when_86 : decode cX11_when 86 = .ok (.aload_n 0, 1) := by decide +kernel
theorem dX11_when_87 : decode cX11_when 87 = .ok (.bipush (-2), 2) := by decide +kernel
theorem dX11_when_89 : decode cX11_when 89 = .ok (.invokevirtual 88, 3) := by decide +kernel
theorem dX11_when_92 : decode cX11_when 92 = .ok (.ireturn, 1) := by decide +kernel
theorem dX11_areasOf_0 : decode cX11_areasOf 0 = .ok (.iconst 0, 1) := by decide +kernel
theorem dX11_areasOf_1 : decode cX11_areasOf 1 = .ok (.istore_n 3, 1) := by decide +kernel
theorem dX11_areasOf_2 : decode cX11_areasOf 2 = .ok (.aload_n 0, 1) := by decide +kernel
theorem dX11_areasOf_3 : decode cX11_areasOf 3 = .ok (.iconst 0, 1) := by decide +kernel
theorem dX11_areasOf_4 : decode cX11_areasOf 4 = .ok (.putfield 412, 3) := by decide +kernel
theorem dX11_areasOf_7 : decode cX11_areasOf 7 = .ok (.iconst 0, 1) := by decide +kernel
theorem dX11_areasOf_8 : decode cX11_areasOf 8 = .ok (.istore 4, 2) := by decide +kernel
theorem dX11_areasOf_10 : decode cX11_areasOf 10 = .ok (.iload 4, 2) := by decide +kernel
theorem dX11_areasOf_12 : decode cX11_areasOf 12 = .ok (.bipush 36, 2) := by decide +kernel
theorem dX11_areasOf_14 : decode cX11_areasOf 14 = .ok (.if_icmp .ge 17, 3) := by decide +kernel
theorem dX11_areasOf_17 : decode cX11_areasOf 17 = .ok (.aload_n 0, 1) := by decide +kernel
theorem dX11_areasOf_18 : decode cX11_areasOf 18 = .ok (.getfield 40, 3) := by decide +kernel
theorem dX11_areasOf_21 : decode cX11_areasOf 21 = .ok (.iload 4, 2) := by decide +kernel
theorem dX11_areasOf_23 : decode cX11_areasOf 23 = .ok (.iconst 0, 1) := by decide +kernel
theorem dX11_areasOf_24 : decode cX11_areasOf 24 = .ok (.bastore, 1) := by decide +kernel
theorem dX11_areasOf_25 : decode cX11_areasOf 25 = .ok (.iinc 4 1, 3) := by decide +kernel
theorem dX11_areasOf_28 : decode cX11_areasOf 28 = .ok (.goto (-18), 3) := by decide +kernel
theorem dX11_areasOf_31 : decode cX11_areasOf 31 = .ok (.iconst 0, 1) := by decide +kernel
theorem dX11_areasOf_32 : decode cX11_areasOf 32 = .ok (.istore 4, 2) := by decide +kernel
theorem dX11_areasOf_34 : decode cX11_areasOf 34 = .ok (.iload 4, 2) := by decide +kernel
theorem dX11_areasOf_36 : decode cX11_areasOf 36 = .ok (.aload_n 0, 1) := by decide +kernel
theorem dX11_areasOf_37 : decode cX11_areasOf 37 = .ok (.getfield 341, 3) := by decide +kernel
theorem dX11_areasOf_40 : decode cX11_areasOf 40 = .ok (.invokevirtual 373, 3) := by decide +kernel
theorem dX11_areasOf_43 : decode cX11_areasOf 43 = .ok (.if_icmp .ge 177, 3) := by decide +kernel
theorem dX11_areasOf_46 : decode cX11_areasOf 46 = .ok (.aload_n 0, 1) := by decide +kernel
theorem dX11_areasOf_47 : decode cX11_areasOf 47 = .ok (.getfield 40, 3) := by decide +kernel
theorem dX11_areasOf_50 : decode cX11_areasOf 50 = .ok (.iload 4, 2) := by decide +kernel
theorem dX11_areasOf_52 : decode cX11_areasOf 52 = .ok (.baload, 1) := by decide +kernel
theorem dX11_areasOf_53 : decode cX11_areasOf 53 = .ok (.ifCond .ne 161, 3) := by decide +kernel
theorem dX11_areasOf_56 : decode cX11_areasOf 56 = .ok (.aload_n 0, 1) := by decide +kernel
theorem dX11_areasOf_57 : decode cX11_areasOf 57 = .ok (.getfield 28, 3) := by decide +kernel
theorem dX11_areasOf_60 : decode cX11_areasOf 60 = .ok (.iload_n 1, 1) := by decide +kernel
theorem dX11_areasOf_61 : decode cX11_areasOf 61 = .ok (.iload 4, 2) := by decide +kernel
theorem dX11_areasOf_63 : decode cX11_areasOf 63 = .ok (.iadd, 1) := by decide +kernel
theorem dX11_areasOf_64 : decode cX11_areasOf 64 = .ok (.iaload, 1) := by decide +kernel
theorem dX11_areasOf_65 : decode cX11_areasOf 65 = .ok (.iload_n 2, 1) := by decide +kernel
theorem dX11_areasOf_66 : decode cX11_areasOf 66 = .ok (.if_icmp .eq 6, 3) := by decide +kernel
theorem dX11_areasOf_69 : decode cX11_areasOf 69 = .ok (.goto 145, 3) := by decide +kernel
theorem dX11_areasOf_72 : decode cX11_areasOf 72 = .ok (.iinc 3 1, 3) := by decide +kernel
theorem dX11_areasOf_75 : decode cX11_areasOf 75 = .ok (.iconst 1, 1) := by decide +kernel
theorem dX11_areasOf_76 : decode cX11_areasOf 76 = .ok (.istore 5, 2) := by decide +kernel
theorem dX11_areasOf_78 : decode cX11_areasOf 78 = .ok (.aload_n 0, 1) := by decide +kernel
theorem dX11_areasOf_79 : decode cX11_areasOf 79 = .ok (.getfield 44, 3) := by decide +kernel
theorem dX11_areasOf_82 : decode cX11_areasOf 82 = .ok (.iconst 0, 1) := by decide +kernel
theorem dX11_areasOf_83 : decode cX11_areasOf 83 = .ok (.iload 4, 2) := by decide +kernel
theorem dX11_areasOf_85 : decode cX11_areasOf 85 = .ok (.iastore, 1) := by decide +kernel
theorem dX11_areasOf_86 : decode cX11_areasOf 86 = .ok (.aload_n 0, 1) := by decide +kernel
theorem dX11_areasOf_87 : decode cX11_areasOf 87 = .ok (.getfield 40, 3) := by decide +kernel
theorem dX11_areasOf_90 : decode cX11_areasOf 90 = .ok (.iload 4, 2) := by decide +kernel
theorem dX11_areasOf_92 : decode cX11_areasOf 92 = .ok (.iconst 1, 1) := by decide +kernel
theorem dX11_areasOf_93 : decode cX11_areasOf 93 = .ok (.bastore, 1) := by decide +kernel
theorem dX11_areasOf_94 : decode cX11_areasOf 94 = .ok (.iconst 0, 1) := by decide +kernel
theorem dX11_areasOf_95 : decode cX11_areasOf 95 = .ok (.istore 6, 2) := by decide +kernel
theorem dX11_areasOf_97 : decode cX11_areasOf 97 = .ok (.iload 6, 2) := by decide +kernel
theorem dX11_areasOf_99 : decode cX11_areasOf 99 = .ok (.iload 5, 2) := by decide +kernel
theorem dX11_areasOf_101 : decode cX11_areasOf 101 = .ok (.if_icmp .ge 91, 3) := by decide +kernel
theorem dX11_areasOf_104 : decode cX11_areasOf 104 = .ok (.iconst 0, 1) := by decide +kernel
theorem dX11_areasOf_105 : decode cX11_areasOf 105 = .ok (.istore 7, 2) := by decide +kernel
theorem dX11_areasOf_107 : decode cX11_areasOf 107 = .ok (.iload 7, 2) := by decide +kernel
theorem dX11_areasOf_109 : decode cX11_areasOf 109 = .ok (.iconst 4, 1) := by decide +kernel
theorem dX11_areasOf_110 : decode cX11_areasOf 110 = .ok (.if_icmp .ge 76, 3) := by decide +kernel
theorem dX11_areasOf_113 : decode cX11_areasOf 113 = .ok (.aload_n 0, 1) := by decide +kernel
theorem dX11_areasOf_114 : decode cX11_areasOf 114 = .ok (.aload_n 0, 1) := by decide +kernel
theorem dX11_areasOf_115 : decode cX11_areasOf 115 = .ok (.getfield 44, 3) := by decide +kernel
theorem dX11_areasOf_118 : decode cX11_areasOf 118 = .ok (.iload 6, 2) := by decide +kernel
theorem dX11_areasOf_120 : decode cX11_areasOf 120 = .ok (.iaload, 1) := by decide +kernel
theorem dX11_areasOf_121 : decode cX11_areasOf 121 = .ok (.iload 7, 2) := by decide +kernel
theorem dX11_areasOf_123 : decode cX11_areasOf 123 = .ok (.invokevirtual 367, 3) := by decide +kernel
theorem dX11_areasOf_126 : decode cX11_areasOf 126 = .ok (.istore 8, 2) := by decide +kernel
theorem dX11_areasOf_128 : decode cX11_areasOf 128 = .ok (.iload 8, 2) := by decide +kernel
theorem dX11_areasOf_130 : decode cX11_areasOf 130 = .ok (.iconst (-1), 1) := by decide +kernel
theorem dX11_areasOf_131 : decode cX11_areasOf 131 = .ok (.if_icmp .eq 49, 3) := by decide +kernel
theorem dX11_areasOf_134 : decode cX11_areasOf 134 = .ok (.aload_n 0, 1) := by decide +kernel
theorem dX11_areasOf_135 : decode cX11_areasOf 135 = .ok (.getfield 40, 3) := by decide +kernel
theorem dX11_areasOf_138 : decode cX11_areasOf 138 = .ok (.iload 8, 2) := by decide +kernel
theorem dX11_areasOf_140 : decode cX11_areasOf 140 = .ok (.baload, 1) := by decide +kernel
theorem dX11_areasOf_141 : decode cX11_areasOf 141 = .ok (.ifCond .ne 39, 3) := by decide +kernel
theorem dX11_areasOf_144 : decode cX11_areasOf 144 = .ok (.aload_n 0, 1) := by decide +kernel
theorem dX11_areasOf_145 : decode cX11_areasOf 145 = .ok (.getfield 28, 3) := by decide +kernel
theorem dX11_areasOf_148 : decode cX11_areasOf 148 = .ok (.iload_n 1, 1) := by decide +kernel
theorem dX11_areasOf_149 : decode cX11_areasOf 149 = .ok (.iload 8, 2) := by decide +kernel
theorem dX11_areasOf_151 : decode cX11_areasOf 151 = .ok (.iadd, 1) := by decide +kernel
theorem dX11_areasOf_152 : decode cX11_areasOf 152 = .ok (.iaload, 1) := by decide +kernel
theorem dX11_areasOf_153 : decode cX11_areasOf 153 = .ok (.iload_n 2, 1) := by decide +kernel
theorem dX11_areasOf_154 : decode cX11_areasOf 154 = .ok (.if_icmp .eq 6, 3) := by decide +kernel
theorem dX11_areasOf_157 : decode cX11_areasOf 157 = .ok (.goto 23, 3) := by decide +kernel
theorem dX11_areasOf_160 : decode cX11_areasOf 160 = .ok (.aload_n 0, 1) := by decide +kernel
theorem dX11_areasOf_161 : decode cX11_areasOf 161 = .ok (.getfield 40, 3) := by decide +kernel
theorem dX11_areasOf_164 : decode cX11_areasOf 164 = .ok (.iload 8, 2) := by decide +kernel
theorem dX11_areasOf_166 : decode cX11_areasOf 166 = .ok (.iconst 1, 1) := by decide +kernel
theorem dX11_areasOf_167 : decode cX11_areasOf 167 = .ok (.bastore, 1) := by decide +kernel
theorem dX11_areasOf_168 : decode cX11_areasOf 168 = .ok (.aload_n 0, 1) := by decide +kernel
theorem dX11_areasOf_169 : decode cX11_areasOf 169 = .ok (.getfield 44, 3) := by decide +kernel
theorem dX11_areasOf_172 : decode cX11_areasOf 172 = .ok (.iload 5, 2) := by decide +kernel
theorem dX11_areasOf_174 : decode cX11_areasOf 174 = .ok (.iload 8, 2) := by decide +kernel
theorem dX11_areasOf_176 : decode cX11_areasOf 176 = .ok (.iastore, 1) := by decide +kernel
theorem dX11_areasOf_177 : decode cX11_areasOf 177 = .ok (.iinc 5 1, 3) := by decide +kernel
theorem dX11_areasOf_180 : decode cX11_areasOf 180 = .ok (.iinc 7 1, 3) := by decide +kernel
theorem dX11_areasOf_183 : decode cX11_areasOf 183 = .ok (.goto (-76), 3) := by decide +kernel
theorem dX11_areasOf_186 : decode cX11_areasOf 186 = .ok (.iinc 6 1, 3) := by decide +kernel
theorem dX11_areasOf_189 : decode cX11_areasOf 189 = .ok (.goto (-92), 3) := by decide +kernel
theorem dX11_areasOf_192 : decode cX11_areasOf 192 = .ok (.aload_n 0, 1) := by decide +kernel
theorem dX11_areasOf_193 : decode cX11_areasOf 193 = .ok (.iload 5, 2) := by decide +kernel
theorem dX11_areasOf_195 : decode cX11_areasOf 195 = .ok (.aload_n 0, 1) := by decide +kernel
theorem dX11_areasOf_196 : decode cX11_areasOf 196 = .ok (.getfield 412, 3) := by decide +kernel
theorem dX11_areasOf_199 : decode cX11_areasOf 199 = .ok (.if_icmp .le 8, 3) := by decide +kernel
theorem dX11_areasOf_202 : decode cX11_areasOf 202 = .ok (.iload 5, 2) := by decide +kernel
theorem dX11_areasOf_204 : decode cX11_areasOf 204 = .ok (.goto 7, 3) := by decide +kernel
theorem dX11_areasOf_207 : decode cX11_areasOf 207 = .ok (.aload_n 0, 1) := by decide +kernel
theorem dX11_areasOf_208 : decode cX11_areasOf 208 = .ok (.getfield 412, 3) := by decide +kernel
theorem dX11_areasOf_211 : decode cX11_areasOf 211 = .ok (.putfield 412, 3) := by decide +kernel
theorem dX11_areasOf_214 : decode cX11_areasOf 214 = .ok (.iinc 4 1, 3) := by decide +kernel
theorem dX11_areasOf_217 : decode cX11_areasOf 217 = .ok (.goto (-183), 3) := by decide +kernel
theorem dX11_areasOf_220 : decode cX11_areasOf 220 = .ok (.iload_n 3, 1) := by decide +kernel
theorem dX11_areasOf_221 : decode cX11_areasOf 221 = .ok (.ireturn, 1) := by decide +kernel
theorem dX11_areas_0 : decode cX11_areas 0 = .ok (.aload_n 0, 1) := by decide +kernel
theorem dX11_areas_1 : decode cX11_areas 1 = .ok (.iconst 0, 1) := by decide +kernel
theorem dX11_areas_2 : decode cX11_areas 2 = .ok (.putfield 78, 3) := by decide +kernel
theorem dX11_areas_5 : decode cX11_areas 5 = .ok (.aload_n 0, 1) := by decide +kernel
theorem dX11_areas_6 : decode cX11_areas 6 = .ok (.aload_n 0, 1) := by decide +kernel
theorem dX11_areas_7 : decode cX11_areas 7 = .ok (.iload_n 1, 1) := by decide +kernel
theorem dX11_areas_8 : decode cX11_areas 8 = .ok (.invokevirtual 349, 3) := by decide +kernel
theorem dX11_areas_11 : decode cX11_areas 11 = .ok (.ifCond .eq 15, 3) := by decide +kernel
theorem dX11_areas_14 : decode cX11_areas 14 = .ok (.aload_n 0, 1) := by decide +kernel
theorem dX11_areas_15 : decode cX11_areas 15 = .ok (.iload_n 2, 1) := by decide +kernel
theorem dX11_areas_16 : decode cX11_areas 16 = .ok (.invokevirtual 409, 3) := by decide +kernel
theorem dX11_areas_19 : decode cX11_areas 19 = .ok (.ifCond .eq 7, 3) := by decide +kernel
theorem dX11_areas_22 : decode cX11_areas 22 = .ok (.iconst 1, 1) := by decide +kernel
theorem dX11_areas_23 : decode cX11_areas 23 = .ok (.goto 4, 3) := by decide +kernel
theorem dX11_areas_26 : decode cX11_areas 26 = .ok (.iconst 0, 1) := by decide +kernel
theorem dX11_areas_27 : decode cX11_areas 27 = .ok (.iload_n 3, 1) := by decide +kernel
theorem dX11_areas_28 : decode cX11_areas 28 = .ok (.invokevirtual 402, 3) := by decide +kernel
theorem dX11_areas_31 : decode cX11_areas 31 = .ok (.istore 4, 2) := by decide +kernel
theorem dX11_areas_33 : decode cX11_areas 33 = .ok (.iload 4, 2) := by decide +kernel
theorem dX11_areas_35 : decode cX11_areas 35 = .ok (.ifCond .le 12, 3) := by decide +kernel
theorem dX11_areas_38 : decode cX11_areas 38 = .ok (.aload_n 0, 1) := by decide +kernel
theorem dX11_areas_39 : decode cX11_areas 39 = .ok (.iload 4, 2) := by decide +kernel
theorem dX11_areas_41 : decode cX11_areas 41 = .ok (.invokevirtual 84, 3) := by decide +kernel
theorem dX11_areas_44 : decode cX11_areas 44 = .ok (.goto 22, 3) := by decide +kernel
theorem dX11_areas_47 : decode cX11_areas 47 = .ok (.aload_n 0, 1) := by decide +kernel
theorem dX11_areas_48 : decode cX11_areas 48 = .ok (.aload_n 0, 1) := by decide +kernel
theorem dX11_areas_49 : decode cX11_areas 49 = .ok (.sipush 216, 3) := by decide +kernel
theorem dX11_areas_52 : decode cX11_areas 52 = .ok (.iload_n 3, 1) := by decide +kernel
theorem dX11_areas_53 : decode cX11_areas 53 = .ok (.imul, 1) := by decide +kernel
theorem dX11_areas_54 : decode cX11_areas 54 = .ok (.bipush 36, 2) := by decide +kernel
theorem dX11_areas_56 : decode cX11_areas 56 = .ok (.iload_n 1, 1) := by decide +kernel
theorem dX11_areas_57 : decode cX11_areas 57 = .ok (.imul, 1) := by decide +kernel
theorem dX11_areas_58 : decode cX11_areas 58 = .ok (.iadd, 1) := by decide +kernel
theorem dX11_areas_59 : decode cX11_areas 59 = .ok (.iload_n 2, 1) := by decide +kernel
theorem dX11_areas_60 : decode cX11_areas 60 = .ok (.invokevirtual 415, 3) := by decide +kernel
theorem dX11_areas_63 : decode cX11_areas 63 = .ok (.invokevirtual 88, 3) := by decide +kernel
theorem dX11_areas_66 : decode cX11_areas 66 = .ok (.ireturn, 1) := by decide +kernel
theorem dX11_largest_0 : decode cX11_largest 0 = .ok (.aload_n 0, 1) := by decide +kernel
theorem dX11_largest_1 : decode cX11_largest 1 = .ok (.iconst 0, 1) := by decide +kernel
theorem dX11_largest_2 : decode cX11_largest 2 = .ok (.putfield 78, 3) := by decide +kernel
theorem dX11_largest_5 : decode cX11_largest 5 = .ok (.aload_n 0, 1) := by decide +kernel
theorem dX11_largest_6 : decode cX11_largest 6 = .ok (.aload_n 0, 1) := by decide +kernel
theorem dX11_largest_7 : decode cX11_largest 7 = .ok (.iload_n 1, 1) := by decide +kernel
theorem dX11_largest_8 : decode cX11_largest 8 = .ok (.invokevirtual 349, 3) := by decide +kernel
theorem dX11_largest_11 : decode cX11_largest 11 = .ok (.ifCond .eq 15, 3) := by decide +kernel
theorem dX11_largest_14 : decode cX11_largest 14 = .ok (.aload_n 0, 1) := by decide +kernel
theorem dX11_largest_15 : decode cX11_largest 15 = .ok (.iload_n 2, 1) := by decide +kernel
theorem dX11_largest_16 : decode cX11_largest 16 = .ok (.invokevirtual 409, 3) := by decide +kernel
theorem dX11_largest_19 : decode cX11_largest 19 = .ok (.ifCond .eq 7, 3) := by decide +kernel
theorem dX11_largest_22 : decode cX11_largest 22 = .ok (.iconst 1, 1) := by decide +kernel
theorem dX11_largest_23 : decode cX11_largest 23 = .ok (.goto 4, 3) := by decide +kernel
theorem dX11_largest_26 : decode cX11_largest 26 = .ok (.iconst 0, 1) := by decide +kernel
theorem dX11_largest_27 : decode cX11_largest 27 = .ok (.iload_n 3, 1) := by decide +kernel
theorem dX11_largest_28 : decode cX11_largest 28 = .ok (.invokevirtual 402, 3) := by decide +kernel
theorem dX11_largest_31 : decode cX11_largest 31 = .ok (.istore 4, 2) := by decide +kernel
theorem dX11_largest_33 : decode cX11_largest 33 = .ok (.iload 4, 2) := by decide +kernel
theorem dX11_largest_35 : decode cX11_largest 35 = .ok (.ifCond .le 10, 3) := by decide +kernel
theorem dX11_largest_38 : decode cX11_largest 38 = .ok (.aload_n 0, 1) := by decide +kernel
theorem dX11_largest_39 : decode cX11_largest 39 = .ok (.iload 4, 2) := by decide +kernel
theorem dX11_largest_41 : decode cX11_largest 41 = .ok (.invokevirtual 84, 3) := by decide +kernel
theorem dX11_largest_44 : decode cX11_largest 44 = .ok (.ireturn, 1) := by decide +kernel
theorem dX11_largest_45 : decode cX11_largest 45 = .ok (.aload_n 0, 1) := by decide +kernel
theorem dX11_largest_46 : decode cX11_largest 46 = .ok (.sipush 216, 3) := by decide +kernel
theorem dX11_largest_49 : decode cX11_largest 49 = .ok (.iload_n 3, 1) := by decide +kernel
theorem dX11_largest_50 : decode cX11_largest 50 = .ok (.imul, 1) := by decide +kernel
theorem dX11_largest_51 : decode cX11_largest 51 = .ok (.bipush 36, 2) := by decide +kernel
theorem dX11_largest_53 : decode cX11_largest 53 = .ok (.iload_n 1, 1) := by decide +kernel
theorem dX11_largest_54 : decode cX11_largest 54 = .ok (.imul, 1) := by decide +kernel
theorem dX11_largest_55 : decode cX11_largest 55 = .ok (.iadd, 1) := by decide +kernel
theorem dX11_largest_56 : decode cX11_largest 56 = .ok (.iload_n 2, 1) := by decide +kernel
theorem dX11_largest_57 : decode cX11_largest 57 = .ok (.invokevirtual 415, 3) := by decide +kernel
theorem dX11_largest_60 : decode cX11_largest 60 = .ok (.pop, 1) := by decide +kernel
theorem dX11_largest_61 : decode cX11_largest 61 = .ok (.aload_n 0, 1) := by decide +kernel
theorem dX11_largest_62 : decode cX11_largest 62 = .ok (.aload_n 0, 1) := by decide +kernel
theorem dX11_largest_63 : decode cX11_largest 63 = .ok (.getfield 412, 3) := by decide +kernel
theorem dX11_largest_66 : decode cX11_largest 66 = .ok (.invokevirtual 88, 3) := by decide +kernel
theorem dX11_largest_69 : decode cX11_largest 69 = .ok (.ireturn, 1) := by decide +kernel
theorem dX11_scale_0 : decode cX11_scale 0 = .ok (.aload_n 0, 1) := by decide +kernel
theorem dX11_scale_1 : decode cX11_scale 1 = .ok (.iconst 0, 1) := by decide +kernel
theorem dX11_scale_2 : decode cX11_scale 2 = .ok (.putfield 78, 3) := by decide +kernel
theorem dX11_scale_5 : decode cX11_scale 5 = .ok (.aload_n 0, 1) := by decide +kernel
theorem dX11_scale_6 : decode cX11_scale 6 = .ok (.iload_n 1, 1) := by decide +kernel
theorem dX11_scale_7 : decode cX11_scale 7 = .ok (.invokevirtual 349, 3) := by decide +kernel
theorem dX11_scale_10 : decode cX11_scale 10 = .ok (.ifCond .ne 10, 3) := by decide +kernel
theorem dX11_scale_13 : decode cX11_scale 13 = .ok (.aload_n 0, 1) := by decide +kernel
theorem dX11_scale_14 : decode cX11_scale 14 = .ok (.iconst 1, 1) := by decide +kernel
theorem dX11_scale_15 : decode cX11_scale 15 = .ok (.invokevirtual 84, 3) := by decide +kernel
theorem dX11_scale_18 : decode cX11_scale 18 = .ok (.i2l, 1) := by decide +kernel
theorem dX11_scale_19 : decode cX11_scale 19 = .ok (.lreturn, 1) := by decide +kernel
theorem dX11_scale_20 : decode cX11_scale 20 = .ok (.iload_n 2, 1) := by decide +kernel
theorem dX11_scale_21 : decode cX11_scale 21 = .ok (.iconst 0, 1) := by decide +kernel
theorem dX11_scale_22 : decode cX11_scale 22 = .ok (.bipush 12, 2) := by decide +kernel
theorem dX11_scale_24 : decode cX11_scale 24 = .ok (.invokestatic 166, 3) := by decide +kernel
theorem dX11_scale_27 : decode cX11_scale 27 = .ok (.ifCond .ne 10, 3) := by decide +kernel
theorem dX11_scale_30 : decode cX11_scale 30 = .ok (.aload_n 0, 1) := by decide +kernel
theorem dX11_scale_31 : decode cX11_scale 31 = .ok (.iconst 2, 1) := by decide +kernel
theorem dX11_scale_32 : decode cX11_scale 32 = .ok (.invokevirtual 84, 3) := by decide +kernel
theorem dX11_scale_35 : decode cX11_scale 35 = .ok (.i2l, 1) := by decide +kernel
theorem dX11_scale_36 : decode cX11_scale 36 = .ok (.lreturn, 1) := by decide +kernel
theorem dX11_scale_37 : decode cX11_scale 37 = .ok (.lconst 1, 1) := by decide +kernel
theorem dX11_scale_38 : decode cX11_scale 38 = .ok (.lstore 4, 2) := by decide +kernel
theorem dX11_scale_40 : decode cX11_scale 40 = .ok (.lconst 1, 1) := by decide +kernel
theorem dX11_scale_41 : decode cX11_scale 41 = .ok (.lstore 6, 2) := by decide +kernel
theorem dX11_scale_43 : decode cX11_scale 43 = .ok (.iload_n 1, 1) := by decide +kernel
theorem dX11_scale_44 : decode cX11_scale 44 = .ok (.istore 8, 2) := by decide +kernel
theorem dX11_scale_46 : decode cX11_scale 46 = .ok (.iconst 0, 1) := by decide +kernel
theorem dX11_scale_47 : decode cX11_scale 47 = .ok (.istore 9, 2) := by decide +kernel
theorem dX11_scale_49 : decode cX11_scale 49 = .ok (.iload 9, 2) := by decide +kernel
theorem dX11_scale_51 : decode cX11_scale 51 = .ok (.iload_n 2, 1) := by decide +kernel
theorem dX11_scale_52 : decode cX11_scale 52 = .ok (.if_icmp .ge 85, 3) := by decide +kernel
theorem dX11_scale_55 : decode cX11_scale 55 = .ok (.aload_n 0, 1) := by decide +kernel
theorem dX11_scale_56 : decode cX11_scale 56 = .ok (.getfield 17, 3) := by decide +kernel
theorem dX11_scale_59 : decode cX11_scale 59 = .ok (.sipush 216, 3) := by decide +kernel
theorem dX11_scale_62 : decode cX11_scale 62 = .ok (.iload 8, 2) := by decide +kernel
theorem dX11_scale_64 : decode cX11_scale 64 = .ok (.iadd, 1) := by decide +kernel
theorem dX11_scale_65 : decode cX11_scale 65 = .ok (.iaload, 1) := by decide +kernel
theorem dX11_scale_66 : decode cX11_scale 66 = .ok (.bipush (-2), 2) := by decide +kernel
theorem dX11_scale_68 : decode cX11_scale 68 = .ok (.if_icmp .eq 69, 3) := by decide +kernel
theorem dX11_scale_71 : decode cX11_scale 71 = .ok (.aload_n 0, 1) := by decide +kernel
theorem dX11_scale_72 : decode cX11_scale 72 = .ok (.getfield 17, 3) := by decide +kernel
theorem dX11_scale_75 : decode cX11_scale 75 = .ok (.sipush 222, 3) := by decide +kernel
theorem dX11_scale_78 : decode cX11_scale 78 = .ok (.iconst 4, 1) := by decide +kernel
theorem dX11_scale_79 : decode cX11_scale 79 = .ok (.iload 8, 2) := by decide +kernel
theorem dX11_scale_81 : decode cX11_scale 81 = .ok (.imul, 1) := by decide +kernel
theorem dX11_scale_82 : decode cX11_scale 82 = .ok (.iadd, 1) := by decide +kernel
theorem dX11_scale_83 : decode cX11_scale 83 = .ok (.iaload, 1) := by decide +kernel
theorem dX11_scale_84 : decode cX11_scale 84 = .ok (.bipush 8, 2) := by decide +kernel
theorem dX11_scale_86 : decode cX11_scale 86 = .ok (.if_icmp .ne 32, 3) := by decide +kernel
theorem dX11_scale_89 : decode cX11_scale 89 = .ok (.lload 4, 2) := by decide +kernel
theorem dX11_scale_91 : decode cX11_scale 91 = .ok (.aload_n 0, 1) := by decide +kernel
theorem dX11_scale_92 : decode cX11_scale 92 = .ok (.getfield 17, 3) := by decide +kernel
theorem dX11_scale_95 : decode cX11_scale 95 = .ok (.sipush 222, 3) := by decide +kernel
theorem dX11_scale_98 : decode cX11_scale 98 = .ok (.iconst 4, 1) := by decide +kernel
theorem dX11_scale_99 : decode cX11_scale 99 = .ok (.iload 8, 2) := by decide +kernel
theorem dX11_scale_101 : decode cX11_scale 101 = .ok (.imul, 1) := by decide +kernel
theorem dX11_scale_102 : decode cX11_scale 102 = .ok (.iadd, 1) := by decide +kernel
theorem dX11_scale_103 : decode cX11_scale 103 = .ok (.iconst 1, 1) := by decide +kernel
theorem dX11_scale_104 : decode cX11_scale 104 = .ok (.iadd, 1) := by decide +kernel
theorem dX11_scale_105 : decode cX11_scale 105 = .ok (.iaload, 1) := by decide +kernel
theorem dX11_scale_106 : decode cX11_scale 106 = .ok (.i2l, 1) := by decide +kernel
theorem dX11_scale_107 : decode cX11_scale 107 = .ok (.lmul, 1) := by decide +kernel
theorem dX11_scale_108 : decode cX11_scale 108 = .ok (.lstore 4, 2) := by decide +kernel
theorem dX11_scale_110 : decode cX11_scale 110 = .ok (.lload 6, 2) := by decide +kernel
theorem dX11_scale_112 : decode cX11_scale 112 = .ok (.ldc2_w 418, 3) := by decide +kernel
theorem dX11_scale_115 : decode cX11_scale 115 = .ok (.lmul, 1) := by decide +kernel
theorem dX11_scale_116 : decode cX11_scale 116 = .ok (.lstore 6, 2) := by decide +kernel
theorem dX11_scale_118 : decode cX11_scale 118 = .ok (.aload_n 0, 1) := by decide +kernel
theorem dX11_scale_119 : decode cX11_scale 119 = .ok (.getfield 17, 3) := by decide +kernel
theorem dX11_scale_122 : decode cX11_scale 122 = .ok (.sipush 216, 3) := by decide +kernel
theorem dX11_scale_125 : decode cX11_scale 125 = .ok (.iload 8, 2) := by decide +kernel
theorem dX11_scale_127 : decode cX11_scale 127 = .ok (.iadd, 1) := by decide +kernel
theorem dX11_scale_128 : decode cX11_scale 128 = .ok (.iaload, 1) := by decide +kernel
theorem dX11_scale_129 : decode cX11_scale 129 = .ok (.istore 8, 2) := by decide +kernel
theorem dX11_scale_131 : decode cX11_scale 131 = .ok (.iinc 9 1, 3) := by decide +kernel
theorem dX11_scale_134 : decode cX11_scale 134 = .ok (.goto (-85), 3) := by decide +kernel
theorem dX11_scale_137 : decode cX11_scale 137 = .ok (.aload_n 0, 1) := by decide +kernel
theorem dX11_scale_138 : decode cX11_scale 138 = .ok (.lload 4, 2) := by decide +kernel
theorem dX11_scale_140 : decode cX11_scale 140 = .ok (.lload 6, 2) := by decide +kernel
theorem dX11_scale_142 : decode cX11_scale 142 = .ok (.iload_n 3, 1) := by decide +kernel
theorem dX11_scale_143 : decode cX11_scale 143 = .ok (.invokevirtual 420, 3) := by decide +kernel
theorem dX11_scale_146 : decode cX11_scale 146 = .ok (.lreturn, 1) := by decide +kernel
theorem dX11_isSame_0 : decode cX11_isSame 0 = .ok (.iconst 0, 1) := by decide +kernel
theorem dX11_isSame_1 : decode cX11_isSame 1 = .ok (.istore_n 3, 1) := by decide +kernel
theorem dX11_isSame_2 : decode cX11_isSame 2 = .ok (.iload_n 3, 1) := by decide +kernel
theorem dX11_isSame_3 : decode cX11_isSame 3 = .ok (.aload_n 0, 1) := by decide +kernel
theorem dX11_isSame_4 : decode cX11_isSame 4 = .ok (.getfield 341, 3) := by decide +kernel
theorem dX11_isSame_7 : decode cX11_isSame 7 = .ok (.getfield 230, 3) := by decide +kernel
theorem dX11_isSame_10 : decode cX11_isSame 10 = .ok (.if_icmp .ge 51, 3) := by decide +kernel
theorem dX11_isSame_13 : decode cX11_isSame 13 = .ok (.iconst 0, 1) := by decide +kernel
theorem dX11_isSame_14 : decode cX11_isSame 14 = .ok (.istore 4, 2) := by decide +kernel
theorem dX11_isSame_16 : decode cX11_isSame 16 = .ok (.iload 4, 2) := by decide +kernel
theorem dX11_isSame_18 : decode cX11_isSame 18 = .ok (.aload_n 0, 1) := by decide +kernel
theorem dX11_isSame_19 : decode cX11_isSame 19 = .ok (.getfield 341, 3) := by decide +kernel
theorem dX11_isSame_22 : decode cX11_isSame 22 = .ok (.invokevirtual 373, 3) := by decide +kernel
theorem dX11_isSame_25 : decode cX11_isSame 25 = .ok (.if_icmp .ge 30, 3) := by decide +kernel
theorem dX11_isSame_28 : decode cX11_isSame 28 = .ok (.aload_n 0, 1) := by decide +kernel
theorem dX11_isSame_29 : decode cX11_isSame 29 = .ok (.iload_n 1, 1) := by decide +kernel
theorem dX11_isSame_30 : decode cX11_isSame 30 = .ok (.iload_n 3, 1) := by decide +kernel
theorem dX11_isSame_31 : decode cX11_isSame 31 = .ok (.iload 4, 2) := by decide +kernel
theorem dX11_isSame_33 : decode cX11_isSame 33 = .ok (.invokevirtual 406, 3) := by decide +kernel
theorem dX11_isSame_36 : decode cX11_isSame 36 = .ok (.aload_n 0, 1) := by decide +kernel
theorem dX11_isSame_37 : decode cX11_isSame 37 = .ok (.iload_n 2, 1) := by decide +kernel
theorem dX11_isSame_38 : decode cX11_isSame 38 = .ok (.iload_n 3, 1) := by decide +kernel
theorem dX11_isSame_39 : decode cX11_isSame 39 = .ok (.iload 4, 2) := by decide +kernel
theorem dX11_isSame_41 : decode cX11_isSame 41 = .ok (.invokevirtual 406, 3) := by decide +kernel
theorem dX11_isSame_44 : decode cX11_isSame 44 = .ok (.if_icmp .eq 5, 3) := by decide +kernel
theorem dX11_isSame_47 : decode cX11_isSame 47 = .ok (.iconst 0, 1) := by decide +kernel
theorem dX11_isSame_48 : decode cX11_isSame 48 = .ok (.ireturn, 1) := by decide +kernel
theorem dX11_isSame_49 : decode cX11_isSame 49 = .ok (.iinc 4 1, 3) := by decide +kernel
theorem dX11_isSame_52 : decode cX11_isSame 52 = .ok (.goto (-36), 3) := by decide +kernel
theorem dX11_isSame_55 : decode cX11_isSame 55 = .ok (.iinc 3 1, 3) := by decide +kernel
theorem dX11_isSame_58 : decode cX11_isSame 58 = .ok (.goto (-56), 3) := by decide +kernel
theorem dX11_isSame_61 : decode cX11_isSame 61 = .ok (.iconst 1, 1) := by decide +kernel
theorem dX11_isSame_62 : decode cX11_isSame 62 = .ok (.ireturn, 1) := by decide +kernel
theorem dX11_sumOf_0 : decode cX11_sumOf 0 = .ok (.ldc2_w 424, 3) := by decide +kernel
theorem dX11_sumOf_3 : decode cX11_sumOf 3 = .ok (.lstore_n 2, 1) := by decide +kernel
theorem dX11_sumOf_4 : decode cX11_sumOf 4 = .ok (.iconst 0, 1) := by decide +kernel
theorem dX11_sumOf_5 : decode cX11_sumOf 5 = .ok (.istore 4, 2) := by decide +kernel
theorem dX11_sumOf_7 : decode cX11_sumOf 7 = .ok (.iload 4, 2) := by decide +kernel
theorem dX11_sumOf_9 : decode cX11_sumOf 9 = .ok (.aload_n 0, 1) := by decide +kernel
theorem dX11_sumOf_10 : decode cX11_sumOf 10 = .ok (.getfield 341, 3) := by decide +kernel
theorem dX11_sumOf_13 : decode cX11_sumOf 13 = .ok (.getfield 230, 3) := by decide +kernel
theorem dX11_sumOf_16 : decode cX11_sumOf 16 = .ok (.if_icmp .ge 47, 3) := by decide +kernel
theorem dX11_sumOf_19 : decode cX11_sumOf 19 = .ok (.iconst 0, 1) := by decide +kernel
theorem dX11_sumOf_20 : decode cX11_sumOf 20 = .ok (.istore 5, 2) := by decide +kernel
theorem dX11_sumOf_22 : decode cX11_sumOf 22 = .ok (.iload 5, 2) := by decide +kernel
theorem dX11_sumOf_24 : decode cX11_sumOf 24 = .ok (.aload_n 0, 1) := by decide +kernel
theorem dX11_sumOf_25 : decode cX11_sumOf 25 = .ok (.getfield 341, 3) := by decide +kernel
theorem dX11_sumOf_28 : decode cX11_sumOf 28 = .ok (.invokevirtual 373, 3) := by decide +kernel
theorem dX11_sumOf_31 : decode cX11_sumOf 31 = .ok (.if_icmp .ge 26, 3) := by decide +kernel
theorem dX11_sumOf_34 : decode cX11_sumOf 34 = .ok (.ldc2_w 210, 3) := by decide +kernel
theorem dX11_sumOf_37 : decode cX11_sumOf 37 = .ok (.lload_n 2, 1) := by decide +kernel
theorem dX11_sumOf_38 : decode cX11_sumOf 38 = .ok (.lmul, 1) := by decide +kernel
theorem dX11_sumOf_39 : decode cX11_sumOf 39 = .ok (.aload_n 0, 1) := by decide +kernel
theorem dX11_sumOf_40 : decode cX11_sumOf 40 = .ok (.iload_n 1, 1) := by decide +kernel
theorem dX11_sumOf_41 : decode cX11_sumOf 41 = .ok (.iload 4, 2) := by decide +kernel
theorem dX11_sumOf_43 : decode cX11_sumOf 43 = .ok (.iload 5, 2) := by decide +kernel
theorem dX11_sumOf_45 : decode cX11_sumOf 45 = .ok (.invokevirtual 406, 3) := by decide +kernel
theorem dX11_sumOf_48 : decode cX11_sumOf 48 = .ok (.i2l, 1) := by decide +kernel
theorem dX11_sumOf_49 : decode cX11_sumOf 49 = .ok (.ladd, 1) := by decide +kernel
theorem dX11_sumOf_50 : decode cX11_sumOf 50 = .ok (.lstore_n 2, 1) := by decide +kernel
theorem dX11_sumOf_51 : decode cX11_sumOf 51 = .ok (.iinc 5 1, 3) := by decide +kernel
theorem dX11_sumOf_54 : decode cX11_sumOf 54 = .ok (.goto (-32), 3) := by decide +kernel
theorem dX11_sumOf_57 : decode cX11_sumOf 57 = .ok (.iinc 4 1, 3) := by decide +kernel
theorem dX11_sumOf_60 : decode cX11_sumOf 60 = .ok (.goto (-53), 3) := by decide +kernel
theorem dX11_sumOf_63 : decode cX11_sumOf 63 = .ok (.lload_n 2, 1) := by decide +kernel
theorem dX11_sumOf_64 : decode cX11_sumOf 64 = .ok (.lreturn, 1) := by decide +kernel
theorem dX11_round_0 : decode cX11_round 0 = .ok (.aload_n 0, 1) := by decide +kernel
theorem dX11_round_1 : decode cX11_round 1 = .ok (.iconst 0, 1) := by decide +kernel
theorem dX11_round_2 : decode cX11_round 2 = .ok (.putfield 78, 3) := by decide +kernel
theorem dX11_round_5 : decode cX11_round 5 = .ok (.aload_n 0, 1) := by decide +kernel
theorem dX11_round_6 : decode cX11_round 6 = .ok (.getfield 341, 3) := by decide +kernel
theorem dX11_round_9 : decode cX11_round 9 = .ok (.ifnonnull 9, 3) := by decide +kernel
theorem dX11_round_12 : decode cX11_round 12 = .ok (.aload_n 0, 1) := by decide +kernel
theorem dX11_round_13 : decode cX11_round 13 = .ok (.iconst 1, 1) := by decide +kernel
theorem dX11_round_14 : decode cX11_round 14 = .ok (.invokevirtual 84, 3) := by decide +kernel
theorem dX11_round_17 : decode cX11_round 17 = .ok (.ireturn, 1) := by decide +kernel
theorem dX11_round_18 : decode cX11_round 18 = .ok (.iconst 0, 1) := by decide +kernel
theorem dX11_round_19 : decode cX11_round 19 = .ok (.istore_n 2, 1) := by decide +kernel
theorem dX11_round_20 : decode cX11_round 20 = .ok (.iload_n 2, 1) := by decide +kernel
theorem dX11_round_21 : decode cX11_round 21 = .ok (.aload_n 0, 1) := by decide +kernel
theorem dX11_round_22 : decode cX11_round 22 = .ok (.getfield 341, 3) := by decide +kernel
theorem dX11_round_25 : decode cX11_round 25 = .ok (.getfield 230, 3) := by decide +kernel
theorem dX11_round_28 : decode cX11_round 28 = .ok (.if_icmp .ge 48, 3) := by decide +kernel
theorem dX11_round_31 : decode cX11_round 31 = .ok (.aload_n 0, 1) := by decide +kernel
theorem dX11_round_32 : decode cX11_round 32 = .ok (.getfield 17, 3) := by decide +kernel
theorem dX11_round_35 : decode cX11_round 35 = .ok (.sipush 216, 3) := by decide +kernel
theorem dX11_round_38 : decode cX11_round 38 = .ok (.iload_n 2, 1) := by decide +kernel
theorem dX11_round_39 : decode cX11_round 39 = .ok (.iadd, 1) := by decide +kernel
theorem dX11_round_40 : decode cX11_round 40 = .ok (.iaload, 1) := by decide +kernel
theorem dX11_round_41 : decode cX11_round 41 = .ok (.bipush (-2), 2) := by decide +kernel
theorem dX11_round_43 : decode cX11_round 43 = .ok (.if_icmp .eq 27, 3) := by decide +kernel
theorem dX11_round_46 : decode cX11_round 46 = .ok (.aload_n 0, 1) := by decide +kernel
theorem dX11_round_47 : decode cX11_round 47 = .ok (.getfield 17, 3) := by decide +kernel
theorem dX11_round_50 : decode cX11_round 50 = .ok (.sipush 222, 3) := by decide +kernel
theorem dX11_round_53 : decode cX11_round 53 = .ok (.iconst 4, 1) := by decide +kernel
theorem dX11_round_54 : decode cX11_round 54 = .ok (.iload_n 2, 1) := by decide +kernel
theorem dX11_round_55 : decode cX11_round 55 = .ok (.imul, 1) := by decide +kernel
theorem dX11_round_56 : decode cX11_round 56 = .ok (.iadd, 1) := by decide +kernel
theorem dX11_round_57 : decode cX11_round 57 = .ok (.iaload, 1) := by decide +kernel
theorem dX11_round_58 : decode cX11_round 58 = .ok (.bipush 9, 2) := by decide +kernel
theorem dX11_round_60 : decode cX11_round 60 = .ok (.if_icmp .ne 10, 3) := by decide +kernel
theorem dX11_round_63 : decode cX11_round 63 = .ok (.aload_n 0, 1) := by decide +kernel
theorem dX11_round_64 : decode cX11_round 64 = .ok (.bipush 6, 2) := by decide +kernel
theorem dX11_round_66 : decode cX11_round 66 = .ok (.invokevirtual 84, 3) := by decide +kernel
theorem dX11_round_69 : decode cX11_round 69 = .ok (.ireturn, 1) := by decide +kernel
theorem dX11_round_70 : decode cX11_round 70 = .ok (.iinc 2 1, 3) := by decide +kernel
theorem dX11_round_73 : decode cX11_round 73 = .ok (.goto (-53), 3) := by decide +kernel
theorem dX11_round_76 : decode cX11_round 76 = .ok (.aload_n 0, 1) := by decide +kernel
theorem dX11_round_77 : decode cX11_round 77 = .ok (.invokevirtual 396, 3) := by decide +kernel
theorem dX11_round_80 : decode cX11_round 80 = .ok (.aload_n 0, 1) := by decide +kernel
theorem dX11_round_81 : decode cX11_round 81 = .ok (.getfield 47, 3) := by decide +kernel
theorem dX11_round_84 : decode cX11_round 84 = .ok (.iconst 0, 1) := by decide +kernel
theorem dX11_round_85 : decode cX11_round 85 = .ok (.aload_n 0, 1) := by decide +kernel
theorem dX11_round_86 : decode cX11_round 86 = .ok (.iconst 0, 1) := by decide +kernel
theorem dX11_round_87 : decode cX11_round 87 = .ok (.invokevirtual 426, 3) := by decide +kernel
theorem dX11_round_90 : decode cX11_round 90 = .ok (.lastore, 1) := by decide +kernel
theorem dX11_round_91 : decode cX11_round 91 = .ok (.iconst 1, 1) := by decide +kernel
theorem dX11_round_92 : decode cX11_round 92 = .ok (.istore_n 2, 1) := by decide +kernel
theorem dX11_round_93 : decode cX11_round 93 = .ok (.iload_n 2, 1) := by decide +kernel
theorem dX11_round_94 : decode cX11_round 94 = .ok (.sipush 400, 3) := by decide +kernel
theorem dX11_round_97 : decode cX11_round 97 = .ok (.if_icmp .gt 81, 3) := by decide +kernel
theorem dX11_round_100 : decode cX11_round 100 = .ok (.aload_n 0, 1) := by decide +kernel
theorem dX11_round_101 : decode cX11_round 101 = .ok (.iload_n 2, 1) := by decide +kernel
theorem dX11_round_102 : decode cX11_round 102 = .ok (.iconst 1, 1) := by decide +kernel
theorem dX11_round_103 : decode cX11_round 103 = .ok (.isub, 1) := by decide +kernel
theorem dX11_round_104 : decode cX11_round 104 = .ok (.invokevirtual 370, 3) := by decide +kernel
theorem dX11_round_107 : decode cX11_round 107 = .ok (.aload_n 0, 1) := by decide +kernel
theorem dX11_round_108 : decode cX11_round 108 = .ok (.getfield 47, 3) := by decide +kernel
theorem dX11_round_111 : decode cX11_round 111 = .ok (.iload_n 2, 1) := by decide +kernel
theorem dX11_round_112 : decode cX11_round 112 = .ok (.aload_n 0, 1) := by decide +kernel
theorem dX11_round_113 : decode cX11_round 113 = .ok (.iload_n 2, 1) := by decide +kernel
theorem dX11_round_114 : decode cX11_round 114 = .ok (.invokevirtual 426, 3) := by decide +kernel
theorem dX11_round_117 : decode cX11_round 117 = .ok (.lastore, 1) := by decide +kernel
theorem dX11_round_118 : decode cX11_round 118 = .ok (.iconst 0, 1) := by decide +kernel
theorem dX11_round_119 : decode cX11_round 119 = .ok (.istore_n 3, 1) := by decide +kernel
theorem dX11_round_120 : decode cX11_round 120 = .ok (.iload_n 3, 1) := by decide +kernel
theorem dX11_round_121 : decode cX11_round 121 = .ok (.iload_n 2, 1) := by decide +kernel
theorem dX11_round_122 : decode cX11_round 122 = .ok (.if_icmp .ge 50, 3) := by decide +kernel
theorem dX11_round_125 : decode cX11_round 125 = .ok (.aload_n 0, 1) := by decide +kernel
theorem dX11_round_126 : decode cX11_round 126 = .ok (.getfield 47, 3) := by decide +kernel
theorem dX11_round_129 : decode cX11_round 129 = .ok (.iload_n 3, 1) := by decide +kernel
theorem dX11_round_130 : decode cX11_round 130 = .ok (.laload, 1) := by decide +kernel
theorem dX11_round_131 : decode cX11_round 131 = .ok (.aload_n 0, 1) := by decide +kernel
theorem dX11_round_132 : decode cX11_round 132 = .ok (.getfield 47, 3) := by decide +kernel
theorem dX11_round_135 : decode cX11_round 135 = .ok (.iload_n 2, 1) := by decide +kernel
theorem dX11_round_136 : decode cX11_round 136 = .ok (.laload, 1) := by decide +kernel
theorem dX11_round_137 : decode cX11_round 137 = .ok (.lcmp, 1) := by decide +kernel
theorem dX11_round_138 : decode cX11_round 138 = .ok (.ifCond .ne 28, 3) := by decide +kernel
theorem dX11_round_141 : decode cX11_round 141 = .ok (.aload_n 0, 1) := by decide +kernel
theorem dX11_round_142 : decode cX11_round 142 = .ok (.iload_n 3, 1) := by decide +kernel
theorem dX11_round_143 : decode cX11_round 143 = .ok (.iload_n 2, 1) := by decide +kernel
theorem dX11_round_144 : decode cX11_round 144 = .ok (.invokevirtual 430, 3) := by decide +kernel
theorem dX11_round_147 : decode cX11_round 147 = .ok (.ifCond .eq 19, 3) := by decide +kernel
theorem dX11_round_150 : decode cX11_round 150 = .ok (.aload_n 0, 1) := by decide +kernel
theorem dX11_round_151 : decode cX11_round 151 = .ok (.iload_n 1, 1) := by decide +kernel
theorem dX11_round_152 : decode cX11_round 152 = .ok (.ifCond .eq 7, 3) := by decide +kernel
theorem dX11_round_155 : decode cX11_round 155 = .ok (.iload_n 3, 1) := by decide +kernel
theorem dX11_round_156 : decode cX11_round 156 = .ok (.goto 6, 3) := by decide +kernel
theorem dX11_round_159 : decode cX11_round 159 = .ok (.iload_n 2, 1) := by decide +kernel
theorem dX11_round_160 : decode cX11_round 160 = .ok (.iload_n 3, 1) := by decide +kernel
theorem dX11_round_161 : decode cX11_round 161 = .ok (.isub, 1) := by decide +kernel
theorem dX11_round_162 : decode cX11_round 162 = .ok (.invokevirtual 88, 3) := by decide +kernel
theorem dX11_round_165 : decode cX11_round 165 = .ok (.ireturn, 1) := by decide +kernel
theorem dX11_round_166 : decode cX11_round 166 = .ok (.iinc 3 1, 3) := by decide +kernel
theorem dX11_round_169 : decode cX11_round 169 = .ok (.goto (-49), 3) := by decide +kernel
theorem dX11_round_172 : decode cX11_round 172 = .ok (.iinc 2 1, 3) := by decide +kernel
theorem dX11_round_175 : decode cX11_round 175 = .ok (.goto (-82), 3) := by decide +kernel
theorem dX11_round_178 : decode cX11_round 178 = .ok (.aload_n 0, 1) := by decide +kernel
theorem dX11_round_179 : decode cX11_round 179 = .ok (.bipush (-2), 2) := by decide +kernel
theorem dX11_round_181 : decode cX11_round 181 = .ok (.invokevirtual 88, 3) := by decide +kernel
theorem dX11_round_184 : decode cX11_round 184 = .ok (.ireturn, 1) := by decide +kernel
theorem dX11_origin_0 : decode cX11_origin 0 = .ok (.aload_n 0, 1) := by decide +kernel
theorem dX11_origin_1 : decode cX11_origin 1 = .ok (.iconst 0, 1) := by decide +kernel
theorem dX11_origin_2 : decode cX11_origin 2 = .ok (.putfield 78, 3) := by decide +kernel
theorem dX11_origin_5 : decode cX11_origin 5 = .ok (.aload_n 0, 1) := by decide +kernel
theorem dX11_origin_6 : decode cX11_origin 6 = .ok (.aload_n 0, 1) := by decide +kernel
theorem dX11_origin_7 : decode cX11_origin 7 = .ok (.iload_n 1, 1) := by decide +kernel
theorem dX11_origin_8 : decode cX11_origin 8 = .ok (.iload_n 2, 1) := by decide +kernel
theorem dX11_origin_9 : decode cX11_origin 9 = .ok (.invokevirtual 392, 3) := by decide +kernel
theorem dX11_origin_12 : decode cX11_origin 12 = .ok (.iload_n 3, 1) := by decide +kernel
theorem dX11_origin_13 : decode cX11_origin 13 = .ok (.invokevirtual 402, 3) := by decide +kernel
theorem dX11_origin_16 : decode cX11_origin 16 = .ok (.istore 4, 2) := by decide +kernel
theorem dX11_origin_18 : decode cX11_origin 18 = .ok (.iload 4, 2) := by decide +kernel
theorem dX11_origin_20 : decode cX11_origin 20 = .ok (.ifCond .le 10, 3) := by decide +kernel
theorem dX11_origin_23 : decode cX11_origin 23 = .ok (.aload_n 0, 1) := by decide +kernel
theorem dX11_origin_24 : decode cX11_origin 24 = .ok (.iload 4, 2) := by decide +kernel
theorem dX11_origin_26 : decode cX11_origin 26 = .ok (.invokevirtual 84, 3) := by decide +kernel
theorem dX11_origin_29 : decode cX11_origin 29 = .ok (.ireturn, 1) := by decide +kernel
theorem dX11_origin_30 : decode cX11_origin 30 = .ok (.iload_n 1, 1) := by decide +kernel
theorem dX11_origin_31 : decode cX11_origin 31 = .ok (.istore 5, 2) := by decide +kernel
theorem dX11_origin_33 : decode cX11_origin 33 = .ok (.aload_n 0, 1) := by decide +kernel
theorem dX11_origin_34 : decode cX11_origin 34 = .ok (.iload_n 2, 1) := by decide +kernel
theorem dX11_origin_35 : decode cX11_origin 35 = .ok (.invokevirtual 352, 3) := by decide +kernel
theorem dX11_origin_38 : decode cX11_origin 38 = .ok (.istore 6, 2) := by decide +kernel
theorem dX11_origin_40 : decode cX11_origin 40 = .ok (.iload_n 3, 1) := by decide +kernel
theorem dX11_origin_41 : decode cX11_origin 41 = .ok (.iconst 1, 1) := by decide +kernel
theorem dX11_origin_42 : decode cX11_origin 42 = .ok (.isub, 1) := by decide +kernel
theorem dX11_origin_43 : decode cX11_origin 43 = .ok (.istore 7, 2) := by decide +kernel
theorem dX11_origin_45 : decode cX11_origin 45 = .ok (.iload 7, 2) := by decide +kernel
theorem dX11_origin_47 : decode cX11_origin 47 = .ok (.ifCond .lt 52, 3) := by decide +kernel
theorem dX11_origin_50 : decode cX11_origin 50 = .ok (.iload 6, 2) := by decide +kernel
theorem dX11_origin_52 : decode cX11_origin 52 = .ok (.bipush (-2), 2) := by decide +kernel
theorem dX11_origin_54 : decode cX11_origin 54 = .ok (.if_icmp .eq 45, 3) := by decide +kernel
theorem dX11_origin_57 : decode cX11_origin 57 = .ok (.aload_n 0, 1) := by decide +kernel
theorem dX11_origin_58 : decode cX11_origin 58 = .ok (.getfield 31, 3) := by decide +kernel
theorem dX11_origin_61 : decode cX11_origin 61 = .ok (.iload 5, 2) := by decide +kernel
theorem dX11_origin_63 : decode cX11_origin 63 = .ok (.iaload, 1) := by decide +kernel
theorem dX11_origin_64 : decode cX11_origin 64 = .ok (.bipush (-2), 2) := by decide +kernel
theorem dX11_origin_66 : decode cX11_origin 66 = .ok (.if_icmp .ne 6, 3) := by decide +kernel
theorem dX11_origin_69 : decode cX11_origin 69 = .ok (.goto 24, 3) := by decide +kernel
theorem dX11_origin_72 : decode cX11_origin 72 = .ok (.aload_n 0, 1) := by decide +kernel
theorem dX11_origin_73 : decode cX11_origin 73 = .ok (.iload 7, 2) := by decide +kernel
theorem dX11_origin_75 : decode cX11_origin 75 = .ok (.iload 5, 2) := by decide +kernel
theorem dX11_origin_77 : decode cX11_origin 77 = .ok (.iload 6, 2) := by decide +kernel
theorem dX11_origin_79 : decode cX11_origin 79 = .ok (.invokevirtual 433, 3) := by decide +kernel
theorem dX11_origin_82 : decode cX11_origin 82 = .ok (.istore 6, 2) := by decide +kernel
theorem dX11_origin_84 : decode cX11_origin 84 = .ok (.aload_n 0, 1) := by decide +kernel
theorem dX11_origin_85 : decode cX11_origin 85 = .ok (.getfield 31, 3) := by decide +kernel
theorem dX11_origin_88 : decode cX11_origin 88 = .ok (.iload 5, 2) := by decide +kernel
theorem dX11_origin_90 : decode cX11_origin 90 = .ok (.iaload, 1) := by decide +kernel
theorem dX11_origin_91 : decode cX11_origin 91 = .ok (.istore 5, 2) := by decide +kernel
theorem dX11_origin_93 : decode cX11_origin 93 = .ok (.iinc 7 (-1), 3) := by decide +kernel
theorem dX11_origin_96 : decode cX11_origin 96 = .ok (.goto (-51), 3) := by decide +kernel
theorem dX11_origin_99 : decode cX11_origin 99 = .ok (.aload_n 0, 1) := by decide +kernel
theorem dX11_origin_100 : decode cX11_origin 100 = .ok (.iload 6, 2) := by decide +kernel
theorem dX11_origin_102 : decode cX11_origin 102 = .ok (.bipush (-2), 2) := by decide +kernel
theorem dX11_origin_104 : decode cX11_origin 104 = .ok (.if_icmp .ne 8, 3) := by decide +kernel
theorem dX11_origin_107 : decode cX11_origin 107 = .ok (.bipush (-2), 2) := by decide +kernel
theorem dX11_origin_109 : decode cX11_origin 109 = .ok (.goto 15, 3) := by decide +kernel
theorem dX11_origin_112 : decode cX11_origin 112 = .ok (.bipush 100, 2) := by decide +kernel
theorem dX11_origin_114 : decode cX11_origin 114 = .ok (.iload 5, 2) := by decide +kernel
theorem dX11_origin_116 : decode cX11_origin 116 = .ok (.imul, 1) := by decide +kernel
theorem dX11_origin_117 : decode cX11_origin 117 = .ok (.aload_n 0, 1) := by decide +kernel
theorem dX11_origin_118 : decode cX11_origin 118 = .ok (.iload 6, 2) := by decide +kernel
theorem dX11_origin_120 : decode cX11_origin 120 = .ok (.invokevirtual 436, 3) := by decide +kernel
theorem dX11_origin_123 : decode cX11_origin 123 = .ok (.iadd, 1) := by decide +kernel
theorem dX11_origin_124 : decode cX11_origin 124 = .ok (.invokevirtual 88, 3) := by decide +kernel
theorem dX11_origin_127 : decode cX11_origin 127 = .ok (.ireturn, 1) := by decide +kernel
theorem dX11_cameFrom_0 : decode cX11_cameFrom 0 = .ok (.sipush 216, 3) := by decide +kernel
theorem dX11_cameFrom_3 : decode cX11_cameFrom 3 = .ok (.iload_n 1, 1) := by decide +kernel
theorem dX11_cameFrom_4 : decode cX11_cameFrom 4 = .ok (.imul, 1) := by decide +kernel
theorem dX11_cameFrom_5 : decode cX11_cameFrom 5 = .ok (.bipush 36, 2) := by decide +kernel
theorem dX11_cameFrom_7 : decode cX11_cameFrom 7 = .ok (.aload_n 0, 1) := by decide +kernel
theorem dX11_cameFrom_8 : decode cX11_cameFrom 8 = .ok (.getfield 31, 3) := by decide +kernel
theorem dX11_cameFrom_11 : decode cX11_cameFrom 11 = .ok (.iload_n 2, 1) := by decide +kernel
theorem dX11_cameFrom_12 : decode cX11_cameFrom 12 = .ok (.iaload, 1) := by decide +kernel
theorem dX11_cameFrom_13 : decode cX11_cameFrom 13 = .ok (.imul, 1) := by decide +kernel
theorem dX11_cameFrom_14 : decode cX11_cameFrom 14 = .ok (.iadd, 1) := by decide +kernel
theorem dX11_cameFrom_15 : decode cX11_cameFrom 15 = .ok (.istore 4, 2) := by decide +kernel
theorem dX11_cameFrom_17 : decode cX11_cameFrom 17 = .ok (.aload_n 0, 1) := by decide +kernel
theorem dX11_cameFrom_18 : decode cX11_cameFrom 18 = .ok (.getfield 34, 3) := by decide +kernel
theorem dX11_cameFrom_21 : decode cX11_cameFrom 21 = .ok (.iconst 4, 1) := by decide +kernel
theorem dX11_cameFrom_22 : decode cX11_cameFrom 22 = .ok (.iload_n 2, 1) := by decide +kernel
theorem dX11_cameFrom_23 : decode cX11_cameFrom 23 = .ok (.imul, 1) := by decide +kernel
theorem dX11_cameFrom_24 : decode cX11_cameFrom 24 = .ok (.iconst 1, 1) := by decide +kernel
theorem dX11_cameFrom_25 : decode cX11_cameFrom 25 = .ok (.iadd, 1) := by decide +kernel
theorem dX11_cameFrom_26 : decode cX11_cameFrom 26 = .ok (.iaload, 1) := by decide +kernel
theorem dX11_cameFrom_27 : decode cX11_cameFrom 27 = .ok (.istore 5, 2) := by decide +kernel
theorem dX11_cameFrom_29 : decode cX11_cameFrom 29 = .ok (.aload_n 0, 1) := by decide +kernel
theorem dX11_cameFrom_30 : decode cX11_cameFrom 30 = .ok (.getfield 34, 3) := by decide +kernel
theorem dX11_cameFrom_33 : decode cX11_cameFrom 33 = .ok (.iconst 4, 1) := by decide +kernel
theorem dX11_cameFrom_34 : decode cX11_cameFrom 34 = .ok (.iload_n 2, 1) := by decide +kernel
theorem dX11_cameFrom_35 : decode cX11_cameFrom 35 = .ok (.imul, 1) := by decide +kernel
theorem dX11_cameFrom_36 : decode cX11_cameFrom 36 = .ok (.iaload, 1) := by decide +kernel
theorem dX11_cameFrom_37 : decode cX11_cameFrom 37 = .ok (.tableswitch 139 1 9 #[51, 139, 139, 139, 139, 86, 96, 139, 117], 51) := by decide +kernel
theorem dX11_cameFrom_88 : decode cX11_cameFrom 88 = .ok (.iload_n 3, 1) := by decide +kernel
theorem dX11_cameFrom_89 : decode cX11_cameFrom 89 = .ok (.aload_n 0, 1) := by decide +kernel
theorem dX11_cameFrom_90 : decode cX11_cameFrom 90 = .ok (.aload_n 0, 1) := by decide +kernel
theorem dX11_cameFrom_91 : decode cX11_cameFrom 91 = .ok (.getfield 34, 3) := by decide +kernel
theorem dX11_cameFrom_94 : decode cX11_cameFrom 94 = .ok (.iconst 4, 1) := by decide +kernel
theorem dX11_cameFrom_95 : decode cX11_cameFrom 95 = .ok (.iload_n 2, 1) := by decide +kernel
theorem dX11_cameFrom_96 : decode cX11_cameFrom 96 = .ok (.imul, 1) := by decide +kernel
theorem dX11_cameFrom_97 : decode cX11_cameFrom 97 = .ok (.iconst 2, 1) := by decide +kernel
theorem dX11_cameFrom_98 : decode cX11_cameFrom 98 = .ok (.iadd, 1) := by decide +kernel
theorem dX11_cameFrom_99 : decode cX11_cameFrom 99 = .ok (.iaload, 1) := by decide +kernel
theorem dX11_cameFrom_100 : decode cX11_cameFrom 100 = .ok (.aload_n 0, 1) := by decide +kernel
theorem dX11_cameFrom_101 : decode cX11_cameFrom 101 = .ok (.getfield 34, 3) := by decide +kernel
theorem dX11_cameFrom_104 : decode cX11_cameFrom 104 = .ok (.iconst 4, 1) := by decide +kernel
theorem dX11_cameFrom_105 : decode cX11_cameFrom 105 = .ok (.iload_n 2, 1) := by decide +kernel
theorem dX11_cameFrom_106 : decode cX11_cameFrom 106 = .ok (.imul, 1) := by decide +kernel
theorem dX11_cameFrom_107 : decode cX11_cameFrom 107 = .ok (.iconst 3, 1) := by decide +kernel
theorem dX11_cameFrom_108 : decode cX11_cameFrom 108 = .ok (.iadd, 1) := by decide +kernel
theorem dX11_cameFrom_109 : decode cX11_cameFrom 109 = .ok (.iaload, 1) := by decide +kernel
theorem dX11_cameFrom_110 : decode cX11_cameFrom 110 = .ok (.invokevirtual 364, 3) := by decide +kernel
theorem dX11_cameFrom_113 : decode cX11_cameFrom 113 = .ok (.if_icmp .ne 8, 3) := by decide +kernel
theorem dX11_cameFrom_116 : decode cX11_cameFrom 116 = .ok (.bipush (-2), 2) := by decide +kernel
theorem dX11_cameFrom_118 : decode cX11_cameFrom 118 = .ok (.goto 4, 3) := by decide +kernel
theorem dX11_cameFrom_121 : decode cX11_cameFrom 121 = .ok (.iload_n 3, 1) := by decide +kernel
theorem dX11_cameFrom_122 : decode cX11_cameFrom 122 = .ok (.ireturn, 1) := by decide +kernel
theorem dX11_cameFrom_123 : decode cX11_cameFrom 123 = .ok (.aload_n 0, 1) := by decide +kernel
theorem dX11_cameFrom_124 : decode cX11_cameFrom 124 = .ok (.iload 4, 2) := by decide +kernel
theorem dX11_cameFrom_126 : decode cX11_cameFrom 126 = .ok (.iload 5, 2) := by decide +kernel
theorem dX11_cameFrom_128 : decode cX11_cameFrom 128 = .ok (.iload_n 3, 1) := by decide +kernel
theorem dX11_cameFrom_129 : decode cX11_cameFrom 129 = .ok (.invokevirtual 389, 3) := by decide +kernel
theorem dX11_cameFrom_132 : decode cX11_cameFrom 132 = .ok (.ireturn, 1) := by decide +kernel
theorem dX11_cameFrom_133 : decode cX11_cameFrom 133 = .ok (.aload_n 0, 1) := by decide +kernel
theorem dX11_cameFrom_134 : decode cX11_cameFrom 134 = .ok (.getfield 28, 3) := by decide +kernel
theorem dX11_cameFrom_137 : decode cX11_cameFrom 137 = .ok (.iload 4, 2) := by decide +kernel
theorem dX11_cameFrom_139 : decode cX11_cameFrom 139 = .ok (.iload_n 3, 1) := by decide +kernel
theorem dX11_cameFrom_140 : decode cX11_cameFrom 140 = .ok (.iadd, 1) := by decide +kernel
theorem dX11_cameFrom_141 : decode cX11_cameFrom 141 = .ok (.iaload, 1) := by decide +kernel
theorem dX11_cameFrom_142 : decode cX11_cameFrom 142 = .ok (.iload 5, 2) := by decide +kernel
theorem dX11_cameFrom_144 : decode cX11_cameFrom 144 = .ok (.if_icmp .ne 8, 3) := by decide +kernel
theorem dX11_cameFrom_147 : decode cX11_cameFrom 147 = .ok (.bipush (-2), 2) := by decide +kernel
theorem dX11_cameFrom_149 : decode cX11_cameFrom 149 = .ok (.goto 4, 3) := by decide +kernel
theorem dX11_cameFrom_152 : decode cX11_cameFrom 152 = .ok (.iload_n 3, 1) := by decide +kernel
theorem dX11_cameFrom_153 : decode cX11_cameFrom 153 = .ok (.ireturn, 1) := by decide +kernel
theorem dX11_cameFrom_154 : decode cX11_cameFrom 154 = .ok (.aload_n 0, 1) := by decide +kernel
theorem dX11_cameFrom_155 : decode cX11_cameFrom 155 = .ok (.getfield 37, 3) := by decide +kernel
theorem dX11_cameFrom_158 : decode cX11_cameFrom 158 = .ok (.bipush 6, 2) := by decide +kernel
theorem dX11_cameFrom_160 : decode cX11_cameFrom 160 = .ok (.iload_n 1, 1) := by decide +kernel
theorem dX11_cameFrom_161 : decode cX11_cameFrom 161 = .ok (.imul, 1) := by decide +kernel
theorem dX11_cameFrom_162 : decode cX11_cameFrom 162 = .ok (.iload_n 2, 1) := by decide +kernel
theorem dX11_cameFrom_163 : decode cX11_cameFrom 163 = .ok (.iadd, 1) := by decide +kernel
theorem dX11_cameFrom_164 : decode cX11_cameFrom 164 = .ok (.iaload, 1) := by decide +kernel
theorem dX11_cameFrom_165 : decode cX11_cameFrom 165 = .ok (.iload_n 3, 1) := by decide +kernel
theorem dX11_cameFrom_166 : decode cX11_cameFrom 166 = .ok (.if_icmp .ne 8, 3) := by decide +kernel
theorem dX11_cameFrom_169 : decode cX11_cameFrom 169 = .ok (.bipush (-2), 2) := by decide +kernel
theorem dX11_cameFrom_171 : decode cX11_cameFrom 171 = .ok (.goto 4, 3) := by decide +kernel
theorem dX11_cameFrom_174 : decode cX11_cameFrom 174 = .ok (.iload_n 3, 1) := by decide +kernel
theorem dX11_cameFrom_175 : decode cX11_cameFrom 175 = .ok (.ireturn, 1) := by decide +kernel
theorem dX11_cameFrom_176 : decode cX11_cameFrom 176 = .ok (.aload_n 0, 1) := by decide +kernel
theorem dX11_cameFrom_177 : decode cX11_cameFrom 177 = .ok (.iload_n 2, 1) := by decide +kernel
theorem dX11_cameFrom_178 : decode cX11_cameFrom 178 = .ok (.iload_n 3, 1) := by decide +kernel
theorem dX11_cameFrom_179 : decode cX11_cameFrom 179 = .ok (.invokevirtual 386, 3) := by decide +kernel
theorem dX11_cameFrom_182 : decode cX11_cameFrom 182 = .ok (.ireturn, 1) := by decide +kernel
theorem dX11_blame_0 : decode cX11_blame 0 = .ok (.aload_n 0, 1) := by decide +kernel
theorem dX11_blame_1 : decode cX11_blame 1 = .ok (.iconst 0, 1) := by decide +kernel
theorem dX11_blame_2 : decode cX11_blame 2 = .ok (.putfield 78, 3) := by decide +kernel
theorem dX11_blame_5 : decode cX11_blame 5 = .ok (.aload_n 0, 1) := by decide +kernel
theorem dX11_blame_6 : decode cX11_blame 6 = .ok (.aload_n 0, 1) := by decide +kernel
theorem dX11_blame_7 : decode cX11_blame 7 = .ok (.iload_n 1, 1) := by decide +kernel
theorem dX11_blame_8 : decode cX11_blame 8 = .ok (.iload_n 2, 1) := by decide +kernel
theorem dX11_blame_9 : decode cX11_blame 9 = .ok (.invokevirtual 392, 3) := by decide +kernel
theorem dX11_blame_12 : decode cX11_blame 12 = .ok (.iload_n 3, 1) := by decide +kernel
theorem dX11_blame_13 : decode cX11_blame 13 = .ok (.invokevirtual 402, 3) := by decide +kernel
theorem dX11_blame_16 : decode cX11_blame 16 = .ok (.istore 4, 2) := by decide +kernel
theorem dX11_blame_18 : decode cX11_blame 18 = .ok (.iload 4, 2) := by decide +kernel
theorem dX11_blame_20 : decode cX11_blame 20 = .ok (.ifCond .le 10, 3) := by decide +kernel
theorem dX11_blame_23 : decode cX11_blame 23 = .ok (.aload_n 0, 1) := by decide +kernel
theorem dX11_blame_24 : decode cX11_blame 24 = .ok (.iload 4, 2) := by decide +kernel
theorem dX11_blame_26 : decode cX11_blame 26 = .ok (.invokevirtual 84, 3) := by decide +kernel
theorem dX11_blame_29 : decode cX11_blame 29 = .ok (.ireturn, 1) := by decide +kernel
theorem dX11_blame_30 : decode cX11_blame 30 = .ok (.aload_n 0, 1) := by decide +kernel
theorem dX11_blame_31 : decode cX11_blame 31 = .ok (.iload_n 3, 1) := by decide +kernel
theorem dX11_blame_32 : decode cX11_blame 32 = .ok (.iload_n 1, 1) := by decide +kernel
theorem dX11_blame_33 : decode cX11_blame 33 = .ok (.aload_n 0, 1) := by decide +kernel
theorem dX11_blame_34 : decode cX11_blame 34 = .ok (.iload_n 2, 1) := by decide +kernel
theorem dX11_blame_35 : decode cX11_blame 35 = .ok (.invokevirtual 352, 3) := by decide +kernel
theorem dX11_blame_38 : decode cX11_blame 38 = .ok (.invokevirtual 406, 3) := by decide +kernel
theorem dX11_blame_41 : decode cX11_blame 41 = .ok (.istore 5, 2) := by decide +kernel
theorem dX11_blame_43 : decode cX11_blame 43 = .ok (.iconst 0, 1) := by decide +kernel
theorem dX11_blame_44 : decode cX11_blame 44 = .ok (.istore 6, 2) := by decide +kernel
theorem dX11_blame_46 : decode cX11_blame 46 = .ok (.iconst 0, 1) := by decide +kernel
theorem dX11_blame_47 : decode cX11_blame 47 = .ok (.istore 7, 2) := by decide +kernel
theorem dX11_blame_49 : decode cX11_blame 49 = .ok (.iload 7, 2) := by decide +kernel
theorem dX11_blame_51 : decode cX11_blame 51 = .ok (.aload_n 0, 1) := by decide +kernel
theorem dX11_blame_52 : decode cX11_blame 52 = .ok (.getfield 341, 3) := by decide +kernel
theorem dX11_blame_55 : decode cX11_blame 55 = .ok (.getfield 230, 3) := by decide +kernel
theorem dX11_blame_58 : decode cX11_blame 58 = .ok (.if_icmp .ge 57, 3) := by decide +kernel
theorem dX11_blame_61 : decode cX11_blame 61 = .ok (.aload_n 0, 1) := by decide +kernel
theorem dX11_blame_62 : decode cX11_blame 62 = .ok (.invokevirtual 396, 3) := by decide +kernel
theorem dX11_blame_65 : decode cX11_blame 65 = .ok (.aload_n 0, 1) := by decide +kernel
theorem dX11_blame_66 : decode cX11_blame 66 = .ok (.getfield 34, 3) := by decide +kernel
theorem dX11_blame_69 : decode cX11_blame 69 = .ok (.iconst 4, 1) := by decide +kernel
theorem dX11_blame_70 : decode cX11_blame 70 = .ok (.iload 7, 2) := by decide +kernel
theorem dX11_blame_72 : decode cX11_blame 72 = .ok (.imul, 1) := by decide +kernel
theorem dX11_blame_73 : decode cX11_blame 73 = .ok (.iconst 0, 1) := by decide +kernel
theorem dX11_blame_74 : decode cX11_blame 74 = .ok (.iastore, 1) := by decide +kernel
theorem dX11_blame_75 : decode cX11_blame 75 = .ok (.aload_n 0, 1) := by decide +kernel
theorem dX11_blame_76 : decode cX11_blame 76 = .ok (.iload_n 3, 1) := by decide +kernel
theorem dX11_blame_77 : decode cX11_blame 77 = .ok (.invokevirtual 399, 3) := by decide +kernel
theorem dX11_blame_80 : decode cX11_blame 80 = .ok (.iload 6, 2) := by decide +kernel
theorem dX11_blame_82 : decode cX11_blame 82 = .ok (.aload_n 0, 1) := by decide +kernel
theorem dX11_blame_83 : decode cX11_blame 83 = .ok (.iload_n 3, 1) := by decide +kernel
theorem dX11_blame_84 : decode cX11_blame 84 = .ok (.iload_n 1, 1) := by decide +kernel
theorem dX11_blame_85 : decode cX11_blame 85 = .ok (.aload_n 0, 1) := by decide +kernel
theorem dX11_blame_86 : decode cX11_blame 86 = .ok (.iload_n 2, 1) := by decide +kernel
theorem dX11_blame_87 : decode cX11_blame 87 = .ok (.invokevirtual 352, 3) := by decide +kernel
theorem dX11_blame_90 : decode cX11_blame 90 = .ok (.invokevirtual 406, 3) := by decide +kernel
theorem dX11_blame_93 : decode cX11_blame 93 = .ok (.iload 5, 2) := by decide +kernel
theorem dX11_blame_95 : decode cX11_blame 95 = .ok (.if_icmp .eq 10, 3) := by decide +kernel
theorem dX11_blame_98 : decode cX11_blame 98 = .ok (.iconst 1, 1) := by decide +kernel
theorem dX11_blame_99 : decode cX11_blame 99 = .ok (.iload 7, 2) := by decide +kernel
theorem dX11_blame_101 : decode cX11_blame 101 = .ok (.ishl, 1) := by decide +kernel
theorem dX11_blame_102 : decode cX11_blame 102 = .ok (.goto 4, 3) := by decide +kernel
theorem dX11_blame_105 : decode cX11_blame 105 = .ok (.iconst 0, 1) := by decide +kernel
theorem dX11_blame_106 : decode cX11_blame 106 = .ok (.ior, 1) := by decide +kernel
theorem dX11_blame_107 : decode cX11_blame 107 = .ok (.istore 6, 2) := by decide +kernel
theorem dX11_blame_109 : decode cX11_blame 109 = .ok (.iinc 7 1, 3) := by decide +kernel
theorem dX11_blame_112 : decode cX11_blame 112 = .ok (.goto (-63), 3) := by decide +kernel
theorem dX11_blame_115 : decode cX11_blame 115 = .ok (.aload_n 0, 1) := by decide +kernel
theorem dX11_blame_116 : decode cX11_blame 116 = .ok (.iload 6, 2) := by decide +kernel
theorem dX11_blame_118 : decode cX11_blame 118 = .ok (.invokevirtual 88, 3) := by decide +kernel
theorem dX11_blame_121 : decode cX11_blame 121 = .ok (.ireturn, 1) := by decide +kernel
theorem dX11_loop_0 : decode cX11_loop 0 = .ok (.aload_n 0, 1) := by decide +kernel
theorem dX11_loop_1 : decode cX11_loop 1 = .ok (.iconst 0, 1) := by decide +kernel
theorem dX11_loop_2 : decode cX11_loop 2 = .ok (.putfield 78, 3) := by decide +kernel
