def TW : List Cond := lw_tbl.filter goodWord
theorem tw_in {w : Cond} (i : Nat) (h : lw_tbl[i]? = some w) (hg : goodWord w = true) : w ∈ TW := List.mem_filter.mpr ⟨List.mem_of_getElem? h, hg⟩
theorem tw_good {y : MethodName} {cc : ByteArray} {nL : Nat} {ret : Option FieldType} (hy : Cond.code y cc nL ret ∈ TW) : GoodIn TW (Cond.code y cc nL ret :: TW) := by
  intro w hw
  have hm : w ∈ TW := by
    rcases List.mem_cons.mp hw with h | h
    · rw [h]; exact hy
    · exact h
  exact ⟨hm, good_of_word (List.mem_filter.mp hm).2⟩
theorem tw_130 : (Jvm.Cond.initialized "NineMaps") ∈ TW := tw_in 130 (by decide +kernel) rfl
theorem tw_131 : (Jvm.Cond.initialized "NineMaps$Ring") ∈ TW := tw_in 131 (by decide +kernel) rfl
theorem tw_132 : (Jvm.Cond.initialized "NineMaps$World") ∈ TW := tw_in 132 (by decide +kernel) rfl
theorem tw_133 : (Jvm.Cond.initialized "NineMaps$Past") ∈ TW := tw_in 133 (by decide +kernel) rfl
theorem tw_134 : (Jvm.Cond.initialized "NineMaps$Chain") ∈ TW := tw_in 134 (by decide +kernel) rfl
theorem tw_135 : (Jvm.Cond.initialized "NineMaps$StrokeSearch") ∈ TW := tw_in 135 (by decide +kernel) rfl
theorem tw_136 : (Jvm.Cond.initialized "NineMaps$Trials") ∈ TW := tw_in 136 (by decide +kernel) rfl
theorem tw_137 : (Jvm.Cond.initialized "NineMaps$FitSearch") ∈ TW := tw_in 137 (by decide +kernel) rfl
theorem tw_138 : (Jvm.Cond.initialized "NineMaps$Ground") ∈ TW := tw_in 138 (by decide +kernel) rfl
theorem tw_139 : (Jvm.Cond.initialized "NineMapsModel") ∈ TW := tw_in 139 (by decide +kernel) rfl
theorem tw_140 : (Jvm.Cond.initialized "NineMaps$Reader") ∈ TW := tw_in 140 (by decide +kernel) rfl
theorem tw_141 : (Jvm.Cond.initialized "java/lang/Math") ∈ TW := tw_in 141 (by decide +kernel) rfl
theorem tw_142 : (Jvm.Cond.initialized "java/util/Arrays") ∈ TW := tw_in 142 (by decide +kernel) rfl
theorem tw_143 : (Jvm.Cond.initialized "java/lang/String") ∈ TW := tw_in 143 (by decide +kernel) rfl
theorem tw_144 : (Jvm.Cond.initialized "java/lang/StringLatin1") ∈ TW := tw_in 144 (by decide +kernel) rfl
theorem tw_145 : (Jvm.Cond.initialized "jdk/internal/util/Preconditions") ∈ TW := tw_in 145 (by decide +kernel) rfl
theorem tw_147 : (Jvm.Cond.initialized "java/lang/System") ∈ TW := tw_in 147 (by decide +kernel) rfl
theorem tw_148 : (Jvm.Cond.initialized "NineMapsModel$Ring") ∈ TW := tw_in 148 (by decide +kernel) rfl
theorem tw_158 : (Jvm.Cond.methodLink "NineMaps" (3 : Nat) ({ cls := "java/lang/Object", name := "<init>", desc := "()V" } : Jvm.MethodName)) ∈ TW := tw_in 158 (by decide +kernel) rfl
theorem tw_159 : (Jvm.Cond.instanceMethod ({ cls := "java/lang/Object", name := "<init>", desc := "()V" } : Jvm.MethodName)) ∈ TW := tw_in 159 (by decide +kernel) rfl
theorem tw_160 : (Jvm.Cond.code ({ cls := "java/lang/Object", name := "<init>", desc := "()V" } : Jvm.MethodName) object_method_1_code (1 : Nat) (Option.none : Option Jvm.ClassFile.FieldType)) ∈ TW := tw_in 160 (by decide +kernel) rfl
theorem tw_161 : (Jvm.Cond.classLink "NineMaps" (17 : Nat) "NineMaps$Ring") ∈ TW := tw_in 161 (by decide +kernel) rfl
theorem tw_162 : (Jvm.Cond.instantiable "NineMaps$Ring" (10 : Nat)) ∈ TW := tw_in 162 (by decide +kernel) rfl
theorem tw_164 : (Jvm.Cond.instanceMethod ({ cls := "NineMaps$Ring", name := "<init>", desc := "()V" } : Jvm.MethodName)) ∈ TW := tw_in 164 (by decide +kernel) rfl
theorem tw_165 : (Jvm.Cond.code ({ cls := "NineMaps$Ring", name := "<init>", desc := "()V" } : Jvm.MethodName) prog_7_method_1_code (1 : Nat) (Option.none : Option Jvm.ClassFile.FieldType)) ∈ TW := tw_in 165 (by decide +kernel) rfl
theorem tw_166 : (Jvm.Cond.methodLink "NineMaps$Ring" (3 : Nat) ({ cls := "java/lang/Object", name := "<init>", desc := "()V" } : Jvm.MethodName)) ∈ TW := tw_in 166 (by decide +kernel) rfl
theorem tw_167 : (Jvm.Cond.classLink "NineMaps$Ring" (15 : Nat) "NineMaps$World") ∈ TW := tw_in 167 (by decide +kernel) rfl
theorem tw_168 : (Jvm.Cond.instantiable "NineMaps$World" (8 : Nat)) ∈ TW := tw_in 168 (by decide +kernel) rfl
theorem tw_170 : (Jvm.Cond.instanceMethod ({ cls := "NineMaps$World", name := "<init>", desc := "()V" } : Jvm.MethodName)) ∈ TW := tw_in 170 (by decide +kernel) rfl
theorem tw_171 : (Jvm.Cond.code ({ cls := "NineMaps$World", name := "<init>", desc := "()V" } : Jvm.MethodName) prog_10_method_1_code (1 : Nat) (Option.none : Option Jvm.ClassFile.FieldType)) ∈ TW := tw_in 171 (by decide +kernel) rfl
theorem tw_172 : (Jvm.Cond.methodLink "NineMaps$World" (3 : Nat) ({ cls := "java/lang/Object", name := "<init>", desc := "()V" } : Jvm.MethodName)) ∈ TW := tw_in 172 (by decide +kernel) rfl
theorem tw_173 : (Jvm.Cond.fieldLink "NineMaps$World" (9 : Nat) "NineMaps$World" "wide" "I") ∈ TW := tw_in 173 (by decide +kernel) rfl
theorem tw_174 : (Jvm.Cond.fieldLink "NineMaps$Reader" (158 : Nat) "NineMaps$World" "wide" "I") ∈ TW := tw_in 174 (by decide +kernel) rfl
theorem tw_175 : (Jvm.Cond.fieldLink "NineMaps" (325 : Nat) "NineMaps$World" "wide" "I") ∈ TW := tw_in 175 (by decide +kernel) rfl
theorem tw_176 : (Jvm.Cond.fieldLink "NineMaps$World" (15 : Nat) "NineMaps$World" "high" "I") ∈ TW := tw_in 176 (by decide +kernel) rfl
theorem tw_177 : (Jvm.Cond.fieldLink "NineMaps$Reader" (160 : Nat) "NineMaps$World" "high" "I") ∈ TW := tw_in 177 (by decide +kernel) rfl
theorem tw_178 : (Jvm.Cond.fieldLink "NineMaps" (328 : Nat) "NineMaps$World" "high" "I") ∈ TW := tw_in 178 (by decide +kernel) rfl
theorem tw_179 : (Jvm.Cond.fieldLink "NineMaps$World" (18 : Nat) "NineMaps$World" "towns" "I") ∈ TW := tw_in 179 (by decide +kernel) rfl
theorem tw_180 : (Jvm.Cond.fieldLink "NineMaps$Reader" (87 : Nat) "NineMaps$World" "towns" "I") ∈ TW := tw_in 180 (by decide +kernel) rfl
theorem tw_181 : (Jvm.Cond.fieldLink "NineMaps$Ring" (57 : Nat) "NineMaps$World" "towns" "I") ∈ TW := tw_in 181 (by decide +kernel) rfl
theorem tw_182 : (Jvm.Cond.fieldLink "NineMaps" (130 : Nat) "NineMaps$World" "towns" "I") ∈ TW := tw_in 182 (by decide +kernel) rfl
theorem tw_183 : (Jvm.Cond.fieldLink "NineMaps$FitSearch" (79 : Nat) "NineMaps$World" "towns" "I") ∈ TW := tw_in 183 (by decide +kernel) rfl
theorem tw_184 : (Jvm.Cond.fieldLink "NineMaps$Chain" (91 : Nat) "NineMaps$World" "towns" "I") ∈ TW := tw_in 184 (by decide +kernel) rfl
theorem tw_185 : (Jvm.Cond.fieldLink "NineMaps$World" (21 : Nat) "NineMaps$World" "cells" "[I") ∈ TW := tw_in 185 (by decide +kernel) rfl
theorem tw_186 : (Jvm.Cond.fieldLink "NineMaps$Chain" (108 : Nat) "NineMaps$World" "cells" "[I") ∈ TW := tw_in 186 (by decide +kernel) rfl
theorem tw_187 : (Jvm.Cond.fieldLink "NineMaps" (149 : Nat) "NineMaps$World" "cells" "[I") ∈ TW := tw_in 187 (by decide +kernel) rfl
theorem tw_188 : (Jvm.Cond.fieldLink "NineMaps$Reader" (169 : Nat) "NineMaps$World" "cells" "[I") ∈ TW := tw_in 188 (by decide +kernel) rfl
theorem tw_189 : (Jvm.Cond.fieldLink "NineMaps$World" (25 : Nat) "NineMaps$World" "copied" "[I") ∈ TW := tw_in 189 (by decide +kernel) rfl
theorem tw_190 : (Jvm.Cond.fieldLink "NineMaps$Chain" (78 : Nat) "NineMaps$World" "copied" "[I") ∈ TW := tw_in 190 (by decide +kernel) rfl
theorem tw_191 : (Jvm.Cond.fieldLink "NineMaps" (140 : Nat) "NineMaps$World" "copied" "[I") ∈ TW := tw_in 191 (by decide +kernel) rfl
theorem tw_192 : (Jvm.Cond.fieldLink "NineMaps$Reader" (175 : Nat) "NineMaps$World" "copied" "[I") ∈ TW := tw_in 192 (by decide +kernel) rfl
theorem tw_193 : (Jvm.Cond.fieldLink "NineMaps$World" (28 : Nat) "NineMaps$World" "errors" "[I") ∈ TW := tw_in 193 (by decide +kernel) rfl
theorem tw_194 : (Jvm.Cond.fieldLink "NineMaps$Ring" (60 : Nat) "NineMaps$World" "errors" "[I") ∈ TW := tw_in 194 (by decide +kernel) rfl
theorem tw_195 : (Jvm.Cond.fieldLink "NineMaps$Trials" (66 : Nat) "NineMaps$World" "errors" "[I") ∈ TW := tw_in 195 (by decide +kernel) rfl
theorem tw_196 : (Jvm.Cond.fieldLink "NineMaps$Chain" (93 : Nat) "NineMaps$World" "errors" "[I") ∈ TW := tw_in 196 (by decide +kernel) rfl
theorem tw_197 : (Jvm.Cond.fieldLink "NineMaps$FitSearch" (93 : Nat) "NineMaps$World" "errors" "[I") ∈ TW := tw_in 197 (by decide +kernel) rfl
theorem tw_198 : (Jvm.Cond.fieldLink "NineMaps" (143 : Nat) "NineMaps$World" "errors" "[I") ∈ TW := tw_in 198 (by decide +kernel) rfl
theorem tw_199 : (Jvm.Cond.fieldLink "NineMaps$Reader" (184 : Nat) "NineMaps$World" "errors" "[I") ∈ TW := tw_in 199 (by decide +kernel) rfl
theorem tw_200 : (Jvm.Cond.fieldLink "NineMaps$World" (31 : Nat) "NineMaps$World" "sown" "I") ∈ TW := tw_in 200 (by decide +kernel) rfl
theorem tw_201 : (Jvm.Cond.fieldLink "NineMaps$Chain" (88 : Nat) "NineMaps$World" "sown" "I") ∈ TW := tw_in 201 (by decide +kernel) rfl
theorem tw_202 : (Jvm.Cond.fieldLink "NineMaps" (299 : Nat) "NineMaps$World" "sown" "I") ∈ TW := tw_in 202 (by decide +kernel) rfl
theorem tw_203 : (Jvm.Cond.fieldLink "NineMaps$World" (34 : Nat) "NineMaps$World" "gone" "I") ∈ TW := tw_in 203 (by decide +kernel) rfl
theorem tw_204 : (Jvm.Cond.fieldLink "NineMaps" (289 : Nat) "NineMaps$World" "gone" "I") ∈ TW := tw_in 204 (by decide +kernel) rfl
theorem tw_222 : (Jvm.Cond.arrayClass Jvm.ClassFile.FieldType.int) ∈ TW := tw_in 222 (by decide +kernel) rfl
theorem tw_223 : (Jvm.Cond.fieldLink "NineMaps$Ring" (9 : Nat) "NineMaps$Ring" "marks" "I") ∈ TW := tw_in 223 (by decide +kernel) rfl
theorem tw_224 : (Jvm.Cond.fieldLink "NineMaps$Reader" (116 : Nat) "NineMaps$Ring" "marks" "I") ∈ TW := tw_in 224 (by decide +kernel) rfl
theorem tw_225 : (Jvm.Cond.fieldLink "NineMaps" (331 : Nat) "NineMaps$Ring" "marks" "I") ∈ TW := tw_in 225 (by decide +kernel) rfl
theorem tw_226 : (Jvm.Cond.fieldLink "NineMaps$Ring" (18 : Nat) "NineMaps$Ring" "begin" "LNineMaps$World;") ∈ TW := tw_in 226 (by decide +kernel) rfl
theorem tw_227 : (Jvm.Cond.fieldLink "NineMaps$Reader" (83 : Nat) "NineMaps$Ring" "begin" "LNineMaps$World;") ∈ TW := tw_in 227 (by decide +kernel) rfl
theorem tw_228 : (Jvm.Cond.fieldLink "NineMaps$FitSearch" (58 : Nat) "NineMaps$Ring" "begin" "LNineMaps$World;") ∈ TW := tw_in 228 (by decide +kernel) rfl
theorem tw_229 : (Jvm.Cond.fieldLink "NineMaps" (117 : Nat) "NineMaps$Ring" "begin" "LNineMaps$World;") ∈ TW := tw_in 229 (by decide +kernel) rfl
theorem tw_230 : (Jvm.Cond.fieldLink "NineMaps$Ring" (22 : Nat) "NineMaps$Ring" "names" "[J") ∈ TW := tw_in 230 (by decide +kernel) rfl
theorem tw_231 : (Jvm.Cond.fieldLink "NineMaps$Reader" (162 : Nat) "NineMaps$Ring" "names" "[J") ∈ TW := tw_in 231 (by decide +kernel) rfl
theorem tw_232 : (Jvm.Cond.fieldLink "NineMaps$Ring" (26 : Nat) "NineMaps$Ring" "guesses" "[I") ∈ TW := tw_in 232 (by decide +kernel) rfl
theorem tw_233 : (Jvm.Cond.fieldLink "NineMaps$FitSearch" (90 : Nat) "NineMaps$Ring" "guesses" "[I") ∈ TW := tw_in 233 (by decide +kernel) rfl
theorem tw_234 : (Jvm.Cond.fieldLink "NineMaps$Reader" (191 : Nat) "NineMaps$Ring" "guesses" "[I") ∈ TW := tw_in 234 (by decide +kernel) rfl
theorem tw_235 : (Jvm.Cond.fieldLink "NineMaps$Ring" (30 : Nat) "NineMaps$Ring" "guessCount" "I") ∈ TW := tw_in 235 (by decide +kernel) rfl
theorem tw_236 : (Jvm.Cond.fieldLink "NineMaps$FitSearch" (76 : Nat) "NineMaps$Ring" "guessCount" "I") ∈ TW := tw_in 236 (by decide +kernel) rfl
theorem tw_237 : (Jvm.Cond.fieldLink "NineMaps$Reader" (141 : Nat) "NineMaps$Ring" "guessCount" "I") ∈ TW := tw_in 237 (by decide +kernel) rfl
theorem tw_238 : (Jvm.Cond.fieldLink "NineMaps" (283 : Nat) "NineMaps$Ring" "guessCount" "I") ∈ TW := tw_in 238 (by decide +kernel) rfl
theorem tw_239 : (Jvm.Cond.fieldLink "NineMaps$Ring" (33 : Nat) "NineMaps$Ring" "seenTown" "[I") ∈ TW := tw_in 239 (by decide +kernel) rfl
theorem tw_240 : (Jvm.Cond.fieldLink "NineMaps$FitSearch" (32 : Nat) "NineMaps$Ring" "seenTown" "[I") ∈ TW := tw_in 240 (by decide +kernel) rfl
theorem tw_241 : (Jvm.Cond.fieldLink "NineMaps$Reader" (197 : Nat) "NineMaps$Ring" "seenTown" "[I") ∈ TW := tw_in 241 (by decide +kernel) rfl
theorem tw_242 : (Jvm.Cond.fieldLink "NineMaps$Ring" (36 : Nat) "NineMaps$Ring" "seenBehind" "[I") ∈ TW := tw_in 242 (by decide +kernel) rfl
theorem tw_243 : (Jvm.Cond.fieldLink "NineMaps$FitSearch" (38 : Nat) "NineMaps$Ring" "seenBehind" "[I") ∈ TW := tw_in 243 (by decide +kernel) rfl
theorem tw_244 : (Jvm.Cond.fieldLink "NineMaps$Reader" (200 : Nat) "NineMaps$Ring" "seenBehind" "[I") ∈ TW := tw_in 244 (by decide +kernel) rfl
theorem tw_245 : (Jvm.Cond.fieldLink "NineMaps$Ring" (39 : Nat) "NineMaps$Ring" "seenPlace" "[I") ∈ TW := tw_in 245 (by decide +kernel) rfl
theorem tw_246 : (Jvm.Cond.fieldLink "NineMaps$FitSearch" (35 : Nat) "NineMaps$Ring" "seenPlace" "[I") ∈ TW := tw_in 246 (by decide +kernel) rfl
theorem tw_247 : (Jvm.Cond.fieldLink "NineMaps$Reader" (203 : Nat) "NineMaps$Ring" "seenPlace" "[I") ∈ TW := tw_in 247 (by decide +kernel) rfl
theorem tw_248 : (Jvm.Cond.fieldLink "NineMaps$Ring" (42 : Nat) "NineMaps$Ring" "seenMark" "[I") ∈ TW := tw_in 248 (by decide +kernel) rfl
theorem tw_249 : (Jvm.Cond.fieldLink "NineMaps$FitSearch" (47 : Nat) "NineMaps$Ring" "seenMark" "[I") ∈ TW := tw_in 249 (by decide +kernel) rfl
theorem tw_250 : (Jvm.Cond.fieldLink "NineMaps$Reader" (206 : Nat) "NineMaps$Ring" "seenMark" "[I") ∈ TW := tw_in 250 (by decide +kernel) rfl
theorem tw_251 : (Jvm.Cond.fieldLink "NineMaps$Ring" (45 : Nat) "NineMaps$Ring" "seenCount" "I") ∈ TW := tw_in 251 (by decide +kernel) rfl
theorem tw_252 : (Jvm.Cond.fieldLink "NineMaps$FitSearch" (27 : Nat) "NineMaps$Ring" "seenCount" "I") ∈ TW := tw_in 252 (by decide +kernel) rfl
theorem tw_253 : (Jvm.Cond.fieldLink "NineMaps$Reader" (144 : Nat) "NineMaps$Ring" "seenCount" "I") ∈ TW := tw_in 253 (by decide +kernel) rfl
theorem tw_254 : (Jvm.Cond.fieldLink "NineMaps" (337 : Nat) "NineMaps$Ring" "seenCount" "I") ∈ TW := tw_in 254 (by decide +kernel) rfl
theorem tw_276 : (Jvm.Cond.arrayClass Jvm.ClassFile.FieldType.long) ∈ TW := tw_in 276 (by decide +kernel) rfl
theorem tw_277 : (Jvm.Cond.classLink "NineMaps" (27 : Nat) "NineMaps$World") ∈ TW := tw_in 277 (by decide +kernel) rfl
theorem tw_279 : (Jvm.Cond.classLink "NineMaps" (40 : Nat) "NineMaps$Past") ∈ TW := tw_in 279 (by decide +kernel) rfl
theorem tw_280 : (Jvm.Cond.instantiable "NineMaps$Past" (4 : Nat)) ∈ TW := tw_in 280 (by decide +kernel) rfl
theorem tw_281 : (Jvm.Cond.methodLink "NineMaps" (42 : Nat) ({ cls := "NineMaps$Past", name := "<init>", desc := "()V" } : Jvm.MethodName)) ∈ TW := tw_in 281 (by decide +kernel) rfl
theorem tw_282 : (Jvm.Cond.instanceMethod ({ cls := "NineMaps$Past", name := "<init>", desc := "()V" } : Jvm.MethodName)) ∈ TW := tw_in 282 (by decide +kernel) rfl
theorem tw_283 : (Jvm.Cond.code ({ cls := "NineMaps$Past", name := "<init>", desc := "()V" } : Jvm.MethodName) prog_5_method_1_code (2 : Nat) (Option.none : Option Jvm.ClassFile.FieldType)) ∈ TW := tw_in 283 (by decide +kernel) rfl
theorem tw_284 : (Jvm.Cond.methodLink "NineMaps$Past" (3 : Nat) ({ cls := "java/lang/Object", name := "<init>", desc := "()V" } : Jvm.MethodName)) ∈ TW := tw_in 284 (by decide +kernel) rfl
theorem tw_285 : (Jvm.Cond.classLink "NineMaps$Past" (9 : Nat) "NineMaps$World") ∈ TW := tw_in 285 (by decide +kernel) rfl
theorem tw_288 : (Jvm.Cond.fieldLink "NineMaps$Past" (11 : Nat) "NineMaps$Past" "olds" "[LNineMaps$World;") ∈ TW := tw_in 288 (by decide +kernel) rfl
theorem tw_289 : (Jvm.Cond.fieldLink "NineMaps$Past" (17 : Nat) "NineMaps$Past" "oldCount" "I") ∈ TW := tw_in 289 (by decide +kernel) rfl
theorem tw_290 : (Jvm.Cond.fieldLink "NineMaps" (302 : Nat) "NineMaps$Past" "oldCount" "I") ∈ TW := tw_in 290 (by decide +kernel) rfl
theorem tw_291 : (Jvm.Cond.fieldLink "NineMaps$Past" (21 : Nat) "NineMaps$Past" "keeps" "[LNineMaps$World;") ∈ TW := tw_in 291 (by decide +kernel) rfl
theorem tw_292 : (Jvm.Cond.fieldLink "NineMaps" (315 : Nat) "NineMaps$Past" "keeps" "[LNineMaps$World;") ∈ TW := tw_in 292 (by decide +kernel) rfl
theorem tw_293 : (Jvm.Cond.fieldLink "NineMaps$Past" (24 : Nat) "NineMaps$Past" "keepCount" "I") ∈ TW := tw_in 293 (by decide +kernel) rfl
theorem tw_294 : (Jvm.Cond.fieldLink "NineMaps" (308 : Nat) "NineMaps$Past" "keepCount" "I") ∈ TW := tw_in 294 (by decide +kernel) rfl
theorem tw_304 : (Jvm.Cond.classLink "NineMaps" (47 : Nat) "NineMaps$Chain") ∈ TW := tw_in 304 (by decide +kernel) rfl
theorem tw_305 : (Jvm.Cond.instantiable "NineMaps$Chain" (9 : Nat)) ∈ TW := tw_in 305 (by decide +kernel) rfl
theorem tw_306 : (Jvm.Cond.methodLink "NineMaps" (49 : Nat) ({ cls := "NineMaps$Chain", name := "<init>", desc := "(LNineMaps$World;)V" } : Jvm.MethodName)) ∈ TW := tw_in 306 (by decide +kernel) rfl
theorem tw_307 : (Jvm.Cond.instanceMethod ({ cls := "NineMaps$Chain", name := "<init>", desc := "(LNineMaps$World;)V" } : Jvm.MethodName)) ∈ TW := tw_in 307 (by decide +kernel) rfl
theorem tw_308 : (Jvm.Cond.code ({ cls := "NineMaps$Chain", name := "<init>", desc := "(LNineMaps$World;)V" } : Jvm.MethodName) prog_2_method_1_code (2 : Nat) (Option.none : Option Jvm.ClassFile.FieldType)) ∈ TW := tw_in 308 (by decide +kernel) rfl
theorem tw_309 : (Jvm.Cond.methodLink "NineMaps$Chain" (3 : Nat) ({ cls := "java/lang/Object", name := "<init>", desc := "()V" } : Jvm.MethodName)) ∈ TW := tw_in 309 (by decide +kernel) rfl
theorem tw_310 : (Jvm.Cond.fieldLink "NineMaps$Chain" (38 : Nat) "NineMaps$Chain" "world" "LNineMaps$World;") ∈ TW := tw_in 310 (by decide +kernel) rfl
theorem tw_312 : (Jvm.Cond.fieldLink "NineMaps$Chain" (9 : Nat) "NineMaps$Chain" "last" "I") ∈ TW := tw_in 312 (by decide +kernel) rfl
theorem tw_314 : (Jvm.Cond.fieldLink "NineMaps$Chain" (15 : Nat) "NineMaps$Chain" "begin" "I") ∈ TW := tw_in 314 (by decide +kernel) rfl
theorem tw_316 : (Jvm.Cond.fieldLink "NineMaps$Chain" (18 : Nat) "NineMaps$Chain" "towns" "[I") ∈ TW := tw_in 316 (by decide +kernel) rfl
theorem tw_318 : (Jvm.Cond.fieldLink "NineMaps$Chain" (22 : Nat) "NineMaps$Chain" "drawn" "[I") ∈ TW := tw_in 318 (by decide +kernel) rfl
theorem tw_319 : (Jvm.Cond.fieldLink "NineMaps$Chain" (25 : Nat) "NineMaps$Chain" "maps" "[I") ∈ TW := tw_in 319 (by decide +kernel) rfl
theorem tw_320 : (Jvm.Cond.fieldLink "NineMaps$Chain" (28 : Nat) "NineMaps$Chain" "places" "[I") ∈ TW := tw_in 320 (by decide +kernel) rfl
theorem tw_322 : (Jvm.Cond.fieldLink "NineMaps$Chain" (31 : Nat) "NineMaps$Chain" "counts" "[I") ∈ TW := tw_in 322 (by decide +kernel) rfl
theorem tw_324 : (Jvm.Cond.fieldLink "NineMaps$Chain" (34 : Nat) "NineMaps$Chain" "bits" "[J") ∈ TW := tw_in 324 (by decide +kernel) rfl
theorem tw_344 : (Jvm.Cond.classLink "NineMaps" (56 : Nat) "NineMaps$StrokeSearch") ∈ TW := tw_in 344 (by decide +kernel) rfl
theorem tw_345 : (Jvm.Cond.instantiable "NineMaps$StrokeSearch" (7 : Nat)) ∈ TW := tw_in 345 (by decide +kernel) rfl
theorem tw_346 : (Jvm.Cond.methodLink "NineMaps" (58 : Nat) ({ cls := "NineMaps$StrokeSearch", name := "<init>", desc := "(LNineMaps$Chain;)V" } : Jvm.MethodName)) ∈ TW := tw_in 346 (by decide +kernel) rfl
theorem tw_347 : (Jvm.Cond.instanceMethod ({ cls := "NineMaps$StrokeSearch", name := "<init>", desc := "(LNineMaps$Chain;)V" } : Jvm.MethodName)) ∈ TW := tw_in 347 (by decide +kernel) rfl
theorem tw_348 : (Jvm.Cond.code ({ cls := "NineMaps$StrokeSearch", name := "<init>", desc := "(LNineMaps$Chain;)V" } : Jvm.MethodName) prog_8_method_1_code (2 : Nat) (Option.none : Option Jvm.ClassFile.FieldType)) ∈ TW := tw_in 348 (by decide +kernel) rfl
theorem tw_349 : (Jvm.Cond.methodLink "NineMaps$StrokeSearch" (3 : Nat) ({ cls := "java/lang/Object", name := "<init>", desc := "()V" } : Jvm.MethodName)) ∈ TW := tw_in 349 (by decide +kernel) rfl
theorem tw_350 : (Jvm.Cond.classLink "NineMaps$StrokeSearch" (32 : Nat) "NineMaps$Trials") ∈ TW := tw_in 350 (by decide +kernel) rfl
theorem tw_351 : (Jvm.Cond.instantiable "NineMaps$Trials" (4 : Nat)) ∈ TW := tw_in 351 (by decide +kernel) rfl
theorem tw_352 : (Jvm.Cond.methodLink "NineMaps$StrokeSearch" (34 : Nat) ({ cls := "NineMaps$Trials", name := "<init>", desc := "(LNineMaps$Chain;)V" } : Jvm.MethodName)) ∈ TW := tw_in 352 (by decide +kernel) rfl
theorem tw_353 : (Jvm.Cond.instanceMethod ({ cls := "NineMaps$Trials", name := "<init>", desc := "(LNineMaps$Chain;)V" } : Jvm.MethodName)) ∈ TW := tw_in 353 (by decide +kernel) rfl
theorem tw_354 : (Jvm.Cond.code ({ cls := "NineMaps$Trials", name := "<init>", desc := "(LNineMaps$Chain;)V" } : Jvm.MethodName) prog_9_method_1_code (2 : Nat) (Option.none : Option Jvm.ClassFile.FieldType)) ∈ TW := tw_in 354 (by decide +kernel) rfl
theorem tw_355 : (Jvm.Cond.methodLink "NineMaps$Trials" (3 : Nat) ({ cls := "java/lang/Object", name := "<init>", desc := "()V" } : Jvm.MethodName)) ∈ TW := tw_in 355 (by decide +kernel) rfl
theorem tw_356 : (Jvm.Cond.fieldLink "NineMaps$Trials" (21 : Nat) "NineMaps$Trials" "chain" "LNineMaps$Chain;") ∈ TW := tw_in 356 (by decide +kernel) rfl
theorem tw_357 : (Jvm.Cond.fieldLink "NineMaps$Trials" (11 : Nat) "NineMaps$Trials" "marks" "[J") ∈ TW := tw_in 357 (by decide +kernel) rfl
theorem tw_358 : (Jvm.Cond.fieldLink "NineMaps$Trials" (15 : Nat) "NineMaps$Trials" "next" "[J") ∈ TW := tw_in 358 (by decide +kernel) rfl
theorem tw_359 : (Jvm.Cond.fieldLink "NineMaps$Trials" (18 : Nat) "NineMaps$Trials" "stained" "[J") ∈ TW := tw_in 359 (by decide +kernel) rfl
theorem tw_369 : (Jvm.Cond.fieldLink "NineMaps$StrokeSearch" (28 : Nat) "NineMaps$StrokeSearch" "chain" "LNineMaps$Chain;") ∈ TW := tw_in 369 (by decide +kernel) rfl
theorem tw_370 : (Jvm.Cond.fieldLink "NineMaps$StrokeSearch" (37 : Nat) "NineMaps$StrokeSearch" "trials" "LNineMaps$Trials;") ∈ TW := tw_in 370 (by decide +kernel) rfl
theorem tw_371 : (Jvm.Cond.fieldLink "NineMaps$StrokeSearch" (9 : Nat) "NineMaps$StrokeSearch" "open" "[I") ∈ TW := tw_in 371 (by decide +kernel) rfl
theorem tw_372 : (Jvm.Cond.fieldLink "NineMaps$StrokeSearch" (15 : Nat) "NineMaps$StrokeSearch" "openCount" "I") ∈ TW := tw_in 372 (by decide +kernel) rfl
theorem tw_373 : (Jvm.Cond.fieldLink "NineMaps$StrokeSearch" (19 : Nat) "NineMaps$StrokeSearch" "picked" "[I") ∈ TW := tw_in 373 (by decide +kernel) rfl
theorem tw_374 : (Jvm.Cond.fieldLink "NineMaps" (241 : Nat) "NineMaps$StrokeSearch" "picked" "[I") ∈ TW := tw_in 374 (by decide +kernel) rfl
theorem tw_375 : (Jvm.Cond.fieldLink "NineMaps$StrokeSearch" (22 : Nat) "NineMaps$StrokeSearch" "pick" "[I") ∈ TW := tw_in 375 (by decide +kernel) rfl
theorem tw_376 : (Jvm.Cond.fieldLink "NineMaps$StrokeSearch" (25 : Nat) "NineMaps$StrokeSearch" "tried" "[I") ∈ TW := tw_in 376 (by decide +kernel) rfl
theorem tw_392 : (Jvm.Cond.classLink "NineMaps" (65 : Nat) "NineMaps$FitSearch") ∈ TW := tw_in 392 (by decide +kernel) rfl
theorem tw_393 : (Jvm.Cond.instantiable "NineMaps$FitSearch" (4 : Nat)) ∈ TW := tw_in 393 (by decide +kernel) rfl
theorem tw_394 : (Jvm.Cond.methodLink "NineMaps" (67 : Nat) ({ cls := "NineMaps$FitSearch", name := "<init>", desc := "(LNineMaps$Chain;)V" } : Jvm.MethodName)) ∈ TW := tw_in 394 (by decide +kernel) rfl
theorem tw_395 : (Jvm.Cond.instanceMethod ({ cls := "NineMaps$FitSearch", name := "<init>", desc := "(LNineMaps$Chain;)V" } : Jvm.MethodName)) ∈ TW := tw_in 395 (by decide +kernel) rfl
theorem tw_396 : (Jvm.Cond.code ({ cls := "NineMaps$FitSearch", name := "<init>", desc := "(LNineMaps$Chain;)V" } : Jvm.MethodName) prog_3_method_1_code (2 : Nat) (Option.none : Option Jvm.ClassFile.FieldType)) ∈ TW := tw_in 396 (by decide +kernel) rfl
theorem tw_397 : (Jvm.Cond.methodLink "NineMaps$FitSearch" (3 : Nat) ({ cls := "java/lang/Object", name := "<init>", desc := "()V" } : Jvm.MethodName)) ∈ TW := tw_in 397 (by decide +kernel) rfl
theorem tw_398 : (Jvm.Cond.fieldLink "NineMaps$FitSearch" (23 : Nat) "NineMaps$FitSearch" "chain" "LNineMaps$Chain;") ∈ TW := tw_in 398 (by decide +kernel) rfl
theorem tw_399 : (Jvm.Cond.fieldLink "NineMaps$FitSearch" (9 : Nat) "NineMaps$FitSearch" "known" "Z") ∈ TW := tw_in 399 (by decide +kernel) rfl
theorem tw_400 : (Jvm.Cond.fieldLink "NineMaps" (126 : Nat) "NineMaps$FitSearch" "known" "Z") ∈ TW := tw_in 400 (by decide +kernel) rfl
theorem tw_401 : (Jvm.Cond.fieldLink "NineMaps$FitSearch" (15 : Nat) "NineMaps$FitSearch" "rows" "[I") ∈ TW := tw_in 401 (by decide +kernel) rfl
theorem tw_402 : (Jvm.Cond.fieldLink "NineMaps" (269 : Nat) "NineMaps$FitSearch" "rows" "[I") ∈ TW := tw_in 402 (by decide +kernel) rfl
theorem tw_403 : (Jvm.Cond.fieldLink "NineMaps$FitSearch" (19 : Nat) "NineMaps$FitSearch" "count" "I") ∈ TW := tw_in 403 (by decide +kernel) rfl
theorem tw_404 : (Jvm.Cond.fieldLink "NineMaps" (265 : Nat) "NineMaps$FitSearch" "count" "I") ∈ TW := tw_in 404 (by decide +kernel) rfl
theorem tw_414 : (Jvm.Cond.classLink "NineMaps" (72 : Nat) "NineMaps$Ground") ∈ TW := tw_in 414 (by decide +kernel) rfl
theorem tw_415 : (Jvm.Cond.instantiable "NineMaps$Ground" (6 : Nat)) ∈ TW := tw_in 415 (by decide +kernel) rfl
theorem tw_417 : (Jvm.Cond.instanceMethod ({ cls := "NineMaps$Ground", name := "<init>", desc := "()V" } : Jvm.MethodName)) ∈ TW := tw_in 417 (by decide +kernel) rfl
theorem tw_418 : (Jvm.Cond.code ({ cls := "NineMaps$Ground", name := "<init>", desc := "()V" } : Jvm.MethodName) prog_4_method_1_code (1 : Nat) (Option.none : Option Jvm.ClassFile.FieldType)) ∈ TW := tw_in 418 (by decide +kernel) rfl
theorem tw_419 : (Jvm.Cond.methodLink "NineMaps$Ground" (3 : Nat) ({ cls := "java/lang/Object", name := "<init>", desc := "()V" } : Jvm.MethodName)) ∈ TW := tw_in 419 (by decide +kernel) rfl
theorem tw_420 : (Jvm.Cond.fieldLink "NineMaps$Ground" (9 : Nat) "NineMaps$Ground" "map" "[I") ∈ TW := tw_in 420 (by decide +kernel) rfl
theorem tw_421 : (Jvm.Cond.fieldLink "NineMaps" (173 : Nat) "NineMaps$Ground" "map" "[I") ∈ TW := tw_in 421 (by decide +kernel) rfl
theorem tw_422 : (Jvm.Cond.fieldLink "NineMaps$Ground" (15 : Nat) "NineMaps$Ground" "count" "I") ∈ TW := tw_in 422 (by decide +kernel) rfl
theorem tw_423 : (Jvm.Cond.fieldLink "NineMaps" (192 : Nat) "NineMaps$Ground" "count" "I") ∈ TW := tw_in 423 (by decide +kernel) rfl
theorem tw_424 : (Jvm.Cond.fieldLink "NineMaps$Ground" (19 : Nat) "NineMaps$Ground" "most" "I") ∈ TW := tw_in 424 (by decide +kernel) rfl
theorem tw_425 : (Jvm.Cond.fieldLink "NineMaps" (195 : Nat) "NineMaps$Ground" "most" "I") ∈ TW := tw_in 425 (by decide +kernel) rfl
theorem tw_426 : (Jvm.Cond.fieldLink "NineMaps$Ground" (22 : Nat) "NineMaps$Ground" "open" "[I") ∈ TW := tw_in 426 (by decide +kernel) rfl
theorem tw_427 : (Jvm.Cond.fieldLink "NineMaps$Ground" (25 : Nat) "NineMaps$Ground" "met" "[Z") ∈ TW := tw_in 427 (by decide +kernel) rfl
theorem tw_428 : (Jvm.Cond.fieldLink "NineMaps$Ground" (29 : Nat) "NineMaps$Ground" "ways" "[I") ∈ TW := tw_in 428 (by decide +kernel) rfl
theorem tw_442 : (Jvm.Cond.arrayClass Jvm.ClassFile.FieldType.boolean) ∈ TW := tw_in 442 (by decide +kernel) rfl
theorem tw_443 : (Jvm.Cond.fieldLink "NineMaps" (9 : Nat) "NineMaps" "tape" "[I") ∈ TW := tw_in 443 (by decide +kernel) rfl
theorem tw_444 : (Jvm.Cond.fieldLink "NineMaps" (13 : Nat) "NineMaps" "tapeLength" "I") ∈ TW := tw_in 444 (by decide +kernel) rfl
theorem tw_445 : (Jvm.Cond.fieldLink "NineMaps" (20 : Nat) "NineMaps" "told" "LNineMaps$Ring;") ∈ TW := tw_in 445 (by decide +kernel) rfl
theorem tw_446 : (Jvm.Cond.fieldLink "NineMaps" (24 : Nat) "NineMaps" "spare" "LNineMaps$Ring;") ∈ TW := tw_in 446 (by decide +kernel) rfl
theorem tw_447 : (Jvm.Cond.fieldLink "NineMaps" (30 : Nat) "NineMaps" "now" "LNineMaps$World;") ∈ TW := tw_in 447 (by decide +kernel) rfl
theorem tw_448 : (Jvm.Cond.fieldLink "NineMaps" (34 : Nat) "NineMaps" "other" "LNineMaps$World;") ∈ TW := tw_in 448 (by decide +kernel) rfl
theorem tw_449 : (Jvm.Cond.fieldLink "NineMaps" (37 : Nat) "NineMaps" "another" "LNineMaps$World;") ∈ TW := tw_in 449 (by decide +kernel) rfl
theorem tw_450 : (Jvm.Cond.fieldLink "NineMaps" (43 : Nat) "NineMaps" "past" "LNineMaps$Past;") ∈ TW := tw_in 450 (by decide +kernel) rfl
theorem tw_451 : (Jvm.Cond.fieldLink "NineMaps" (52 : Nat) "NineMaps" "chain" "LNineMaps$Chain;") ∈ TW := tw_in 451 (by decide +kernel) rfl
theorem tw_452 : (Jvm.Cond.fieldLink "NineMaps" (61 : Nat) "NineMaps" "search" "LNineMaps$StrokeSearch;") ∈ TW := tw_in 452 (by decide +kernel) rfl
theorem tw_453 : (Jvm.Cond.fieldLink "NineMaps" (68 : Nat) "NineMaps" "fitting" "LNineMaps$FitSearch;") ∈ TW := tw_in 453 (by decide +kernel) rfl
theorem tw_454 : (Jvm.Cond.fieldLink "NineMaps" (75 : Nat) "NineMaps" "ground" "LNineMaps$Ground;") ∈ TW := tw_in 454 (by decide +kernel) rfl
theorem tw_455 : (Jvm.Cond.fieldLink "NineMaps" (79 : Nat) "NineMaps" "seenMap" "[I") ∈ TW := tw_in 455 (by decide +kernel) rfl
theorem tw_456 : (Jvm.Cond.fieldLink "NineMaps" (82 : Nat) "NineMaps" "scratch" "[I") ∈ TW := tw_in 456 (by decide +kernel) rfl
theorem tw_457 : (Jvm.Cond.fieldLink "NineMaps" (85 : Nat) "NineMaps" "refusal" "I") ∈ TW := tw_in 457 (by decide +kernel) rfl
theorem tw_458 : (Jvm.Cond.fieldLink "NineMaps" (88 : Nat) "NineMaps" "faultNumber" "I") ∈ TW := tw_in 458 (by decide +kernel) rfl
theorem tw_459 : (Jvm.Cond.fieldLink "NineMaps" (91 : Nat) "NineMaps" "faultPlace" "I") ∈ TW := tw_in 459 (by decide +kernel) rfl
theorem tw_499 : (Jvm.Cond.methodLink "NineMaps" (94 : Nat) ({ cls := "NineMaps", name := "append", desc := "(I)V" } : Jvm.MethodName)) ∈ TW := tw_in 499 (by decide +kernel) rfl
theorem tw_501 : (Jvm.Cond.instanceMethod ({ cls := "NineMaps", name := "append", desc := "(I)V" } : Jvm.MethodName)) ∈ TW := tw_in 501 (by decide +kernel) rfl
theorem tw_502 : (Jvm.Cond.code ({ cls := "NineMaps", name := "append", desc := "(I)V" } : Jvm.MethodName) prog_1_method_3_code (3 : Nat) (Option.none : Option Jvm.ClassFile.FieldType)) ∈ TW := tw_in 502 (by decide +kernel) rfl
theorem tw_507 : (Jvm.Cond.methodLink "NineMaps" (98 : Nat) ({ cls := "NineMaps", name := "refused", desc := "(I)I" } : Jvm.MethodName)) ∈ TW := tw_in 507 (by decide +kernel) rfl
theorem tw_509 : (Jvm.Cond.instanceMethod ({ cls := "NineMaps", name := "refused", desc := "(I)I" } : Jvm.MethodName)) ∈ TW := tw_in 509 (by decide +kernel) rfl
theorem tw_510 : (Jvm.Cond.code ({ cls := "NineMaps", name := "refused", desc := "(I)I" } : Jvm.MethodName) prog_1_method_50_code (2 : Nat) (Option.some Jvm.ClassFile.FieldType.int)) ∈ TW := tw_in 510 (by decide +kernel) rfl
theorem tw_511 : (Jvm.Cond.classLink "NineMaps" (102 : Nat) "NineMaps$Reader") ∈ TW := tw_in 511 (by decide +kernel) rfl
theorem tw_512 : (Jvm.Cond.instantiable "NineMaps$Reader" (10 : Nat)) ∈ TW := tw_in 512 (by decide +kernel) rfl
theorem tw_513 : (Jvm.Cond.methodLink "NineMaps" (104 : Nat) ({ cls := "NineMaps$Reader", name := "<init>", desc := "([IILNineMaps$Ring;)V" } : Jvm.MethodName)) ∈ TW := tw_in 513 (by decide +kernel) rfl
theorem tw_514 : (Jvm.Cond.instanceMethod ({ cls := "NineMaps$Reader", name := "<init>", desc := "([IILNineMaps$Ring;)V" } : Jvm.MethodName)) ∈ TW := tw_in 514 (by decide +kernel) rfl
theorem tw_515 : (Jvm.Cond.code ({ cls := "NineMaps$Reader", name := "<init>", desc := "([IILNineMaps$Ring;)V" } : Jvm.MethodName) prog_6_method_1_code (4 : Nat) (Option.none : Option Jvm.ClassFile.FieldType)) ∈ TW := tw_in 515 (by decide +kernel) rfl
theorem tw_516 : (Jvm.Cond.methodLink "NineMaps$Reader" (3 : Nat) ({ cls := "java/lang/Object", name := "<init>", desc := "()V" } : Jvm.MethodName)) ∈ TW := tw_in 516 (by decide +kernel) rfl
theorem tw_517 : (Jvm.Cond.methodLink "NineMaps$Reader" (38 : Nat) ({ cls := "java/lang/Math", name := "min", desc := "(II)I" } : Jvm.MethodName)) ∈ TW := tw_in 517 (by decide +kernel) rfl
theorem tw_518 : (Jvm.Cond.static ({ cls := "java/lang/Math", name := "min", desc := "(II)I" } : Jvm.MethodName)) ∈ TW := tw_in 518 (by decide +kernel) rfl
theorem tw_519 : (Jvm.Cond.code ({ cls := "java/lang/Math", name := "min", desc := "(II)I" } : Jvm.MethodName) prog_18_method_69_code (2 : Nat) (Option.some Jvm.ClassFile.FieldType.int)) ∈ TW := tw_in 519 (by decide +kernel) rfl
theorem tw_520 : (Jvm.Cond.fieldLink "NineMaps$Reader" (9 : Nat) "NineMaps$Reader" "number" "I") ∈ TW := tw_in 520 (by decide +kernel) rfl
theorem tw_521 : (Jvm.Cond.fieldLink "NineMaps" (111 : Nat) "NineMaps$Reader" "number" "I") ∈ TW := tw_in 521 (by decide +kernel) rfl
theorem tw_522 : (Jvm.Cond.fieldLink "NineMaps$Reader" (15 : Nat) "NineMaps$Reader" "place" "I") ∈ TW := tw_in 522 (by decide +kernel) rfl
theorem tw_523 : (Jvm.Cond.fieldLink "NineMaps" (114 : Nat) "NineMaps$Reader" "place" "I") ∈ TW := tw_in 523 (by decide +kernel) rfl
theorem tw_524 : (Jvm.Cond.fieldLink "NineMaps$Reader" (34 : Nat) "NineMaps$Reader" "bytes" "[I") ∈ TW := tw_in 524 (by decide +kernel) rfl
theorem tw_525 : (Jvm.Cond.fieldLink "NineMaps$Reader" (44 : Nat) "NineMaps$Reader" "end" "I") ∈ TW := tw_in 525 (by decide +kernel) rfl
theorem tw_526 : (Jvm.Cond.fieldLink "NineMaps$Reader" (47 : Nat) "NineMaps$Reader" "into" "LNineMaps$Ring;") ∈ TW := tw_in 526 (by decide +kernel) rfl
theorem tw_527 : (Jvm.Cond.fieldLink "NineMaps$Reader" (18 : Nat) "NineMaps$Reader" "kind" "I") ∈ TW := tw_in 527 (by decide +kernel) rfl
theorem tw_528 : (Jvm.Cond.fieldLink "NineMaps$Reader" (21 : Nat) "NineMaps$Reader" "at" "I") ∈ TW := tw_in 528 (by decide +kernel) rfl
theorem tw_529 : (Jvm.Cond.fieldLink "NineMaps$Reader" (24 : Nat) "NineMaps$Reader" "behind" "I") ∈ TW := tw_in 529 (by decide +kernel) rfl
theorem tw_530 : (Jvm.Cond.fieldLink "NineMaps$Reader" (27 : Nat) "NineMaps$Reader" "whole" "I") ∈ TW := tw_in 530 (by decide +kernel) rfl
theorem tw_531 : (Jvm.Cond.fieldLink "NineMaps$Reader" (30 : Nat) "NineMaps$Reader" "word" "J") ∈ TW := tw_in 531 (by decide +kernel) rfl
theorem tw_553 : (Jvm.Cond.methodLink "NineMaps" (107 : Nat) ({ cls := "NineMaps$Reader", name := "read", desc := "()Z" } : Jvm.MethodName)) ∈ TW := tw_in 553 (by decide +kernel) rfl
theorem tw_554 : (Jvm.Cond.instanceMethod ({ cls := "NineMaps$Reader", name := "read", desc := "()Z" } : Jvm.MethodName)) ∈ TW := tw_in 554 (by decide +kernel) rfl
theorem tw_555 : (Jvm.Cond.selects "NineMaps$Reader" ({ cls := "NineMaps$Reader", name := "read", desc := "()Z" } : Jvm.MethodName) ({ cls := "NineMaps$Reader", name := "read", desc := "()Z" } : Jvm.MethodName)) ∈ TW := tw_in 555 (by decide +kernel) rfl
theorem tw_556 : (Jvm.Cond.code ({ cls := "NineMaps$Reader", name := "read", desc := "()Z" } : Jvm.MethodName) prog_6_method_2_code (4 : Nat) (Option.some Jvm.ClassFile.FieldType.boolean)) ∈ TW := tw_in 556 (by decide +kernel) rfl
theorem tw_557 : (Jvm.Cond.methodLink "NineMaps$Reader" (51 : Nat) ({ cls := "NineMaps$Ring", name := "clear", desc := "()V" } : Jvm.MethodName)) ∈ TW := tw_in 557 (by decide +kernel) rfl
theorem tw_558 : (Jvm.Cond.instanceMethod ({ cls := "NineMaps$Ring", name := "clear", desc := "()V" } : Jvm.MethodName)) ∈ TW := tw_in 558 (by decide +kernel) rfl
theorem tw_559 : (Jvm.Cond.selects "NineMaps$Ring" ({ cls := "NineMaps$Ring", name := "clear", desc := "()V" } : Jvm.MethodName) ({ cls := "NineMaps$Ring", name := "clear", desc := "()V" } : Jvm.MethodName)) ∈ TW := tw_in 559 (by decide +kernel) rfl
theorem tw_560 : (Jvm.Cond.code ({ cls := "NineMaps$Ring", name := "clear", desc := "()V" } : Jvm.MethodName) prog_7_method_2_code (1 : Nat) (Option.none : Option Jvm.ClassFile.FieldType)) ∈ TW := tw_in 560 (by decide +kernel) rfl
theorem tw_561 : (Jvm.Cond.methodLink "NineMaps$Ring" (48 : Nat) ({ cls := "NineMaps$World", name := "clear", desc := "()V" } : Jvm.MethodName)) ∈ TW := tw_in 561 (by decide +kernel) rfl
theorem tw_562 : (Jvm.Cond.instanceMethod ({ cls := "NineMaps$World", name := "clear", desc := "()V" } : Jvm.MethodName)) ∈ TW := tw_in 562 (by decide +kernel) rfl
theorem tw_563 : (Jvm.Cond.selects "NineMaps$World" ({ cls := "NineMaps$World", name := "clear", desc := "()V" } : Jvm.MethodName) ({ cls := "NineMaps$World", name := "clear", desc := "()V" } : Jvm.MethodName)) ∈ TW := tw_in 563 (by decide +kernel) rfl
theorem tw_564 : (Jvm.Cond.code ({ cls := "NineMaps$World", name := "clear", desc := "()V" } : Jvm.MethodName) prog_10_method_3_code (2 : Nat) (Option.none : Option Jvm.ClassFile.FieldType)) ∈ TW := tw_in 564 (by decide +kernel) rfl
theorem tw_565 : (Jvm.Cond.methodLink "NineMaps$World" (43 : Nat) ({ cls := "java/util/Arrays", name := "fill", desc := "([II)V" } : Jvm.MethodName)) ∈ TW := tw_in 565 (by decide +kernel) rfl
theorem tw_566 : (Jvm.Cond.static ({ cls := "java/util/Arrays", name := "fill", desc := "([II)V" } : Jvm.MethodName)) ∈ TW := tw_in 566 (by decide +kernel) rfl
theorem tw_567 : (Jvm.Cond.code ({ cls := "java/util/Arrays", name := "fill", desc := "([II)V" } : Jvm.MethodName) prog_27_method_103_code (4 : Nat) (Option.none : Option Jvm.ClassFile.FieldType)) ∈ TW := tw_in 567 (by decide +kernel) rfl
theorem tw_568 : (Jvm.Cond.methodLink "NineMaps$World" (49 : Nat) ({ cls := "NineMaps$World", name := "makeTrue", desc := "(I)V" } : Jvm.MethodName)) ∈ TW := tw_in 568 (by decide +kernel) rfl
theorem tw_569 : (Jvm.Cond.instanceMethod ({ cls := "NineMaps$World", name := "makeTrue", desc := "(I)V" } : Jvm.MethodName)) ∈ TW := tw_in 569 (by decide +kernel) rfl
theorem tw_570 : (Jvm.Cond.selects "NineMaps$World" ({ cls := "NineMaps$World", name := "makeTrue", desc := "(I)V" } : Jvm.MethodName) ({ cls := "NineMaps$World", name := "makeTrue", desc := "(I)V" } : Jvm.MethodName)) ∈ TW := tw_in 570 (by decide +kernel) rfl
theorem tw_571 : (Jvm.Cond.code ({ cls := "NineMaps$World", name := "makeTrue", desc := "(I)V" } : Jvm.MethodName) prog_10_method_4_code (3 : Nat) (Option.none : Option Jvm.ClassFile.FieldType)) ∈ TW := tw_in 571 (by decide +kernel) rfl
theorem tw_572 : (Jvm.Cond.methodLink "NineMaps$Ring" (51 : Nat) ({ cls := "java/util/Arrays", name := "fill", desc := "([II)V" } : Jvm.MethodName)) ∈ TW := tw_in 572 (by decide +kernel) rfl
theorem tw_573 : (Jvm.Cond.methodLink "NineMaps$Reader" (56 : Nat) ({ cls := "NineMaps$Reader", name := "take", desc := "()V" } : Jvm.MethodName)) ∈ TW := tw_in 573 (by decide +kernel) rfl
theorem tw_575 : (Jvm.Cond.instanceMethod ({ cls := "NineMaps$Reader", name := "take", desc := "()V" } : Jvm.MethodName)) ∈ TW := tw_in 575 (by decide +kernel) rfl
theorem tw_576 : (Jvm.Cond.code ({ cls := "NineMaps$Reader", name := "take", desc := "()V" } : Jvm.MethodName) prog_6_method_5_code (1 : Nat) (Option.none : Option Jvm.ClassFile.FieldType)) ∈ TW := tw_in 576 (by decide +kernel) rfl
theorem tw_577 : (Jvm.Cond.constantLong "NineMaps$Reader" (95 : Nat) (32 : Int64)) ∈ TW := tw_in 577 (by decide +kernel) rfl
theorem tw_578 : (Jvm.Cond.constantLong "NineMaps$Reader" (97 : Nat) (97 : Int64)) ∈ TW := tw_in 578 (by decide +kernel) rfl
theorem tw_579 : (Jvm.Cond.methodLink "NineMaps$Reader" (59 : Nat) ({ cls := "NineMaps$Reader", name := "lineSort", desc := "()I" } : Jvm.MethodName)) ∈ TW := tw_in 579 (by decide +kernel) rfl
theorem tw_581 : (Jvm.Cond.instanceMethod ({ cls := "NineMaps$Reader", name := "lineSort", desc := "()I" } : Jvm.MethodName)) ∈ TW := tw_in 581 (by decide +kernel) rfl
theorem tw_582 : (Jvm.Cond.code ({ cls := "NineMaps$Reader", name := "lineSort", desc := "()I" } : Jvm.MethodName) prog_6_method_12_code (1 : Nat) (Option.some Jvm.ClassFile.FieldType.int)) ∈ TW := tw_in 582 (by decide +kernel) rfl
theorem tw_584 : (Jvm.Cond.methodLink "NineMaps$Reader" (108 : Nat) ({ cls := "NineMaps$Reader", name := "isWord", desc := "(Ljava/lang/String;)Z" } : Jvm.MethodName)) ∈ TW := tw_in 584 (by decide +kernel) rfl
theorem tw_586 : (Jvm.Cond.instanceMethod ({ cls := "NineMaps$Reader", name := "isWord", desc := "(Ljava/lang/String;)Z" } : Jvm.MethodName)) ∈ TW := tw_in 586 (by decide +kernel) rfl
theorem tw_587 : (Jvm.Cond.code ({ cls := "NineMaps$Reader", name := "isWord", desc := "(Ljava/lang/String;)Z" } : Jvm.MethodName) prog_6_method_6_code (3 : Nat) (Option.some Jvm.ClassFile.FieldType.boolean)) ∈ TW := tw_in 587 (by decide +kernel) rfl
theorem tw_588 : (Jvm.Cond.methodLink "NineMaps$Reader" (99 : Nat) ({ cls := "java/lang/String", name := "length", desc := "()I" } : Jvm.MethodName)) ∈ TW := tw_in 588 (by decide +kernel) rfl
theorem tw_589 : (Jvm.Cond.instanceMethod ({ cls := "java/lang/String", name := "length", desc := "()I" } : Jvm.MethodName)) ∈ TW := tw_in 589 (by decide +kernel) rfl
theorem tw_590 : (Jvm.Cond.selects "java/lang/String" ({ cls := "java/lang/String", name := "length", desc := "()I" } : Jvm.MethodName) ({ cls := "java/lang/String", name := "length", desc := "()I" } : Jvm.MethodName)) ∈ TW := tw_in 590 (by decide +kernel) rfl
theorem tw_591 : (Jvm.Cond.code ({ cls := "java/lang/String", name := "length", desc := "()I" } : Jvm.MethodName) prog_20_method_54_code (1 : Nat) (Option.some Jvm.ClassFile.FieldType.int)) ∈ TW := tw_in 591 (by decide +kernel) rfl
theorem tw_592 : (Jvm.Cond.methodLink "java/lang/String" (335 : Nat) ({ cls := "java/lang/String", name := "coder", desc := "()B" } : Jvm.MethodName)) ∈ TW := tw_in 592 (by decide +kernel) rfl
theorem tw_593 : (Jvm.Cond.instanceMethod ({ cls := "java/lang/String", name := "coder", desc := "()B" } : Jvm.MethodName)) ∈ TW := tw_in 593 (by decide +kernel) rfl
theorem tw_594 : (Jvm.Cond.selects "java/lang/String" ({ cls := "java/lang/String", name := "coder", desc := "()B" } : Jvm.MethodName) ({ cls := "java/lang/String", name := "coder", desc := "()B" } : Jvm.MethodName)) ∈ TW := tw_in 594 (by decide +kernel) rfl
theorem tw_595 : (Jvm.Cond.code ({ cls := "java/lang/String", name := "coder", desc := "()B" } : Jvm.MethodName) prog_20_method_152_code (1 : Nat) (Option.some Jvm.ClassFile.FieldType.byte)) ∈ TW := tw_in 595 (by decide +kernel) rfl
theorem tw_596 : (Jvm.Cond.fieldLink "java/lang/String" (38 : Nat) "java/lang/String" "COMPACT_STRINGS" "Z") ∈ TW := tw_in 596 (by decide +kernel) rfl
theorem tw_598 : (Jvm.Cond.methodLink "NineMaps$Reader" (104 : Nat) ({ cls := "java/lang/String", name := "charAt", desc := "(I)C" } : Jvm.MethodName)) ∈ TW := tw_in 598 (by decide +kernel) rfl
theorem tw_599 : (Jvm.Cond.instanceMethod ({ cls := "java/lang/String", name := "charAt", desc := "(I)C" } : Jvm.MethodName)) ∈ TW := tw_in 599 (by decide +kernel) rfl
theorem tw_600 : (Jvm.Cond.selects "java/lang/String" ({ cls := "java/lang/String", name := "charAt", desc := "(I)C" } : Jvm.MethodName) ({ cls := "java/lang/String", name := "charAt", desc := "(I)C" } : Jvm.MethodName)) ∈ TW := tw_in 600 (by decide +kernel) rfl
theorem tw_601 : (Jvm.Cond.code ({ cls := "java/lang/String", name := "charAt", desc := "(I)C" } : Jvm.MethodName) prog_20_method_56_code (2 : Nat) (Option.some Jvm.ClassFile.FieldType.char)) ∈ TW := tw_in 601 (by decide +kernel) rfl
theorem tw_602 : (Jvm.Cond.methodLink "java/lang/String" (492 : Nat) ({ cls := "java/lang/String", name := "isLatin1", desc := "()Z" } : Jvm.MethodName)) ∈ TW := tw_in 602 (by decide +kernel) rfl
theorem tw_603 : (Jvm.Cond.instanceMethod ({ cls := "java/lang/String", name := "isLatin1", desc := "()Z" } : Jvm.MethodName)) ∈ TW := tw_in 603 (by decide +kernel) rfl
theorem tw_604 : (Jvm.Cond.selects "java/lang/String" ({ cls := "java/lang/String", name := "isLatin1", desc := "()Z" } : Jvm.MethodName) ({ cls := "java/lang/String", name := "isLatin1", desc := "()Z" } : Jvm.MethodName)) ∈ TW := tw_in 604 (by decide +kernel) rfl
theorem tw_605 : (Jvm.Cond.code ({ cls := "java/lang/String", name := "isLatin1", desc := "()Z" } : Jvm.MethodName) prog_20_method_154_code (1 : Nat) (Option.some Jvm.ClassFile.FieldType.boolean)) ∈ TW := tw_in 605 (by decide +kernel) rfl
theorem tw_606 : (Jvm.Cond.methodLink "java/lang/String" (495 : Nat) ({ cls := "java/lang/StringLatin1", name := "charAt", desc := "([BI)C" } : Jvm.MethodName)) ∈ TW := tw_in 606 (by decide +kernel) rfl
theorem tw_607 : (Jvm.Cond.static ({ cls := "java/lang/StringLatin1", name := "charAt", desc := "([BI)C" } : Jvm.MethodName)) ∈ TW := tw_in 607 (by decide +kernel) rfl
theorem tw_608 : (Jvm.Cond.code ({ cls := "java/lang/StringLatin1", name := "charAt", desc := "([BI)C" } : Jvm.MethodName) prog_21_method_2_code (2 : Nat) (Option.some Jvm.ClassFile.FieldType.char)) ∈ TW := tw_in 608 (by decide +kernel) rfl
theorem tw_609 : (Jvm.Cond.methodLink "java/lang/StringLatin1" (9 : Nat) ({ cls := "java/lang/String", name := "checkIndex", desc := "(II)V" } : Jvm.MethodName)) ∈ TW := tw_in 609 (by decide +kernel) rfl
theorem tw_610 : (Jvm.Cond.static ({ cls := "java/lang/String", name := "checkIndex", desc := "(II)V" } : Jvm.MethodName)) ∈ TW := tw_in 610 (by decide +kernel) rfl
theorem tw_611 : (Jvm.Cond.code ({ cls := "java/lang/String", name := "checkIndex", desc := "(II)V" } : Jvm.MethodName) prog_20_method_155_code (2 : Nat) (Option.none : Option Jvm.ClassFile.FieldType)) ∈ TW := tw_in 611 (by decide +kernel) rfl
theorem tw_612 : (Jvm.Cond.fieldLink "java/lang/String" (1053 : Nat) "jdk/internal/util/Preconditions" "SIOOBE_FORMATTER" "Ljava/util/function/BiFunction;") ∈ TW := tw_in 612 (by decide +kernel) rfl
theorem tw_614 : (Jvm.Cond.methodLink "java/lang/String" (1059 : Nat) ({ cls := "jdk/internal/util/Preconditions", name := "checkIndex", desc := "(IILjava/util/function/BiFunction;)I" } : Jvm.MethodName)) ∈ TW := tw_in 614 (by decide +kernel) rfl
theorem tw_615 : (Jvm.Cond.static ({ cls := "jdk/internal/util/Preconditions", name := "checkIndex", desc := "(IILjava/util/function/BiFunction;)I" } : Jvm.MethodName)) ∈ TW := tw_in 615 (by decide +kernel) rfl
theorem tw_616 : (Jvm.Cond.code ({ cls := "jdk/internal/util/Preconditions", name := "checkIndex", desc := "(IILjava/util/function/BiFunction;)I" } : Jvm.MethodName) prog_29_method_11_code (3 : Nat) (Option.some Jvm.ClassFile.FieldType.int)) ∈ TW := tw_in 616 (by decide +kernel) rfl
theorem tw_617 : (Jvm.Cond.methodLink "java/lang/String" (498 : Nat) ({ cls := "java/lang/StringUTF16", name := "charAt", desc := "([BI)C" } : Jvm.MethodName)) ∈ TW := tw_in 617 (by decide +kernel) rfl
theorem tw_626 : (Jvm.Cond.methodLink "java/lang/StringUTF16" (414 : Nat) ({ cls := "java/lang/String", name := "checkIndex", desc := "(II)V" } : Jvm.MethodName)) ∈ TW := tw_in 626 (by decide +kernel) rfl
theorem tw_640 : (Jvm.Cond.methodLink "NineMaps$Reader" (63 : Nat) ({ cls := "NineMaps$Reader", name := "mayCome", desc := "(I)Z" } : Jvm.MethodName)) ∈ TW := tw_in 640 (by decide +kernel) rfl
theorem tw_642 : (Jvm.Cond.instanceMethod ({ cls := "NineMaps$Reader", name := "mayCome", desc := "(I)Z" } : Jvm.MethodName)) ∈ TW := tw_in 642 (by decide +kernel) rfl
theorem tw_643 : (Jvm.Cond.code ({ cls := "NineMaps$Reader", name := "mayCome", desc := "(I)Z" } : Jvm.MethodName) prog_6_method_13_code (3 : Nat) (Option.some Jvm.ClassFile.FieldType.boolean)) ∈ TW := tw_in 643 (by decide +kernel) rfl
theorem tw_644 : (Jvm.Cond.methodLink "NineMaps$Reader" (92 : Nat) ({ cls := "NineMaps$Reader", name := "fail", desc := "(I)Z" } : Jvm.MethodName)) ∈ TW := tw_in 644 (by decide +kernel) rfl
theorem tw_646 : (Jvm.Cond.instanceMethod ({ cls := "NineMaps$Reader", name := "fail", desc := "(I)Z" } : Jvm.MethodName)) ∈ TW := tw_in 646 (by decide +kernel) rfl
theorem tw_647 : (Jvm.Cond.code ({ cls := "NineMaps$Reader", name := "fail", desc := "(I)Z" } : Jvm.MethodName) prog_6_method_3_code (2 : Nat) (Option.some Jvm.ClassFile.FieldType.boolean)) ∈ TW := tw_in 647 (by decide +kernel) rfl
theorem tw_648 : (Jvm.Cond.methodLink "NineMaps$Reader" (138 : Nat) ({ cls := "NineMaps$Reader", name := "isFull", desc := "(I)Z" } : Jvm.MethodName)) ∈ TW := tw_in 648 (by decide +kernel) rfl
theorem tw_650 : (Jvm.Cond.instanceMethod ({ cls := "NineMaps$Reader", name := "isFull", desc := "(I)Z" } : Jvm.MethodName)) ∈ TW := tw_in 650 (by decide +kernel) rfl
theorem tw_651 : (Jvm.Cond.code ({ cls := "NineMaps$Reader", name := "isFull", desc := "(I)Z" } : Jvm.MethodName) prog_6_method_14_code (2 : Nat) (Option.some Jvm.ClassFile.FieldType.boolean)) ∈ TW := tw_in 651 (by decide +kernel) rfl
theorem tw_652 : (Jvm.Cond.methodLink "NineMaps$Reader" (67 : Nat) ({ cls := "NineMaps$Reader", name := "readRing", desc := "()Z" } : Jvm.MethodName)) ∈ TW := tw_in 652 (by decide +kernel) rfl
theorem tw_654 : (Jvm.Cond.instanceMethod ({ cls := "NineMaps$Reader", name := "readRing", desc := "()Z" } : Jvm.MethodName)) ∈ TW := tw_in 654 (by decide +kernel) rfl
theorem tw_655 : (Jvm.Cond.code ({ cls := "NineMaps$Reader", name := "readRing", desc := "()Z" } : Jvm.MethodName) prog_6_method_15_code (4 : Nat) (Option.some Jvm.ClassFile.FieldType.boolean)) ∈ TW := tw_in 655 (by decide +kernel) rfl
theorem tw_657 : (Jvm.Cond.methodLink "NineMaps$Reader" (149 : Nat) ({ cls := "NineMaps$Reader", name := "wordDue", desc := "(Ljava/lang/String;)Z" } : Jvm.MethodName)) ∈ TW := tw_in 657 (by decide +kernel) rfl
theorem tw_659 : (Jvm.Cond.instanceMethod ({ cls := "NineMaps$Reader", name := "wordDue", desc := "(Ljava/lang/String;)Z" } : Jvm.MethodName)) ∈ TW := tw_in 659 (by decide +kernel) rfl
theorem tw_660 : (Jvm.Cond.code ({ cls := "NineMaps$Reader", name := "wordDue", desc := "(Ljava/lang/String;)Z" } : Jvm.MethodName) prog_6_method_7_code (2 : Nat) (Option.some Jvm.ClassFile.FieldType.boolean)) ∈ TW := tw_in 660 (by decide +kernel) rfl
theorem tw_661 : (Jvm.Cond.methodLink "NineMaps$Reader" (152 : Nat) ({ cls := "NineMaps$Reader", name := "wholeDue", desc := "(II)I" } : Jvm.MethodName)) ∈ TW := tw_in 661 (by decide +kernel) rfl
theorem tw_663 : (Jvm.Cond.instanceMethod ({ cls := "NineMaps$Reader", name := "wholeDue", desc := "(II)I" } : Jvm.MethodName)) ∈ TW := tw_in 663 (by decide +kernel) rfl
theorem tw_664 : (Jvm.Cond.code ({ cls := "NineMaps$Reader", name := "wholeDue", desc := "(II)I" } : Jvm.MethodName) prog_6_method_8_code (4 : Nat) (Option.some Jvm.ClassFile.FieldType.int)) ∈ TW := tw_in 664 (by decide +kernel) rfl
theorem tw_665 : (Jvm.Cond.methodLink "NineMaps$Reader" (112 : Nat) ({ cls := "NineMaps$Reader", name := "failed", desc := "(I)I" } : Jvm.MethodName)) ∈ TW := tw_in 665 (by decide +kernel) rfl
theorem tw_667 : (Jvm.Cond.instanceMethod ({ cls := "NineMaps$Reader", name := "failed", desc := "(I)I" } : Jvm.MethodName)) ∈ TW := tw_in 667 (by decide +kernel) rfl
theorem tw_668 : (Jvm.Cond.code ({ cls := "NineMaps$Reader", name := "failed", desc := "(I)I" } : Jvm.MethodName) prog_6_method_4_code (2 : Nat) (Option.some Jvm.ClassFile.FieldType.int)) ∈ TW := tw_in 668 (by decide +kernel) rfl
theorem tw_671 : (Jvm.Cond.methodLink "NineMaps$Reader" (71 : Nat) ({ cls := "NineMaps$Reader", name := "readTown", desc := "()Z" } : Jvm.MethodName)) ∈ TW := tw_in 671 (by decide +kernel) rfl
theorem tw_673 : (Jvm.Cond.instanceMethod ({ cls := "NineMaps$Reader", name := "readTown", desc := "()Z" } : Jvm.MethodName)) ∈ TW := tw_in 673 (by decide +kernel) rfl
theorem tw_674 : (Jvm.Cond.code ({ cls := "NineMaps$Reader", name := "readTown", desc := "()Z" } : Jvm.MethodName) prog_6_method_16_code (3 : Nat) (Option.some Jvm.ClassFile.FieldType.boolean)) ∈ TW := tw_in 674 (by decide +kernel) rfl
theorem tw_675 : (Jvm.Cond.methodLink "NineMaps$Reader" (121 : Nat) ({ cls := "NineMaps$Reader", name := "isName", desc := "()Z" } : Jvm.MethodName)) ∈ TW := tw_in 675 (by decide +kernel) rfl
theorem tw_677 : (Jvm.Cond.instanceMethod ({ cls := "NineMaps$Reader", name := "isName", desc := "()Z" } : Jvm.MethodName)) ∈ TW := tw_in 677 (by decide +kernel) rfl
theorem tw_678 : (Jvm.Cond.code ({ cls := "NineMaps$Reader", name := "isName", desc := "()Z" } : Jvm.MethodName) prog_6_method_10_code (1 : Nat) (Option.some Jvm.ClassFile.FieldType.boolean)) ∈ TW := tw_in 678 (by decide +kernel) rfl
theorem tw_680 : (Jvm.Cond.methodLink "NineMaps$Reader" (124 : Nat) ({ cls := "NineMaps$Ring", name := "townNamed", desc := "(J)I" } : Jvm.MethodName)) ∈ TW := tw_in 680 (by decide +kernel) rfl
theorem tw_681 : (Jvm.Cond.instanceMethod ({ cls := "NineMaps$Ring", name := "townNamed", desc := "(J)I" } : Jvm.MethodName)) ∈ TW := tw_in 681 (by decide +kernel) rfl
theorem tw_682 : (Jvm.Cond.selects "NineMaps$Ring" ({ cls := "NineMaps$Ring", name := "townNamed", desc := "(J)I" } : Jvm.MethodName) ({ cls := "NineMaps$Ring", name := "townNamed", desc := "(J)I" } : Jvm.MethodName)) ∈ TW := tw_in 682 (by decide +kernel) rfl
theorem tw_683 : (Jvm.Cond.code ({ cls := "NineMaps$Ring", name := "townNamed", desc := "(J)I" } : Jvm.MethodName) prog_7_method_3_code (4 : Nat) (Option.some Jvm.ClassFile.FieldType.int)) ∈ TW := tw_in 683 (by decide +kernel) rfl
theorem tw_684 : (Jvm.Cond.methodLink "NineMaps$Reader" (166 : Nat) ({ cls := "NineMaps$Reader", name := "readRow", desc := "(I)Z" } : Jvm.MethodName)) ∈ TW := tw_in 684 (by decide +kernel) rfl
theorem tw_686 : (Jvm.Cond.instanceMethod ({ cls := "NineMaps$Reader", name := "readRow", desc := "(I)Z" } : Jvm.MethodName)) ∈ TW := tw_in 686 (by decide +kernel) rfl
theorem tw_687 : (Jvm.Cond.code ({ cls := "NineMaps$Reader", name := "readRow", desc := "(I)Z" } : Jvm.MethodName) prog_6_method_17_code (4 : Nat) (Option.some Jvm.ClassFile.FieldType.boolean)) ∈ TW := tw_in 687 (by decide +kernel) rfl
theorem tw_688 : (Jvm.Cond.methodLink "NineMaps$Reader" (74 : Nat) ({ cls := "NineMaps$Reader", name := "readCopies", desc := "()Z" } : Jvm.MethodName)) ∈ TW := tw_in 688 (by decide +kernel) rfl
theorem tw_690 : (Jvm.Cond.instanceMethod ({ cls := "NineMaps$Reader", name := "readCopies", desc := "()Z" } : Jvm.MethodName)) ∈ TW := tw_in 690 (by decide +kernel) rfl
theorem tw_691 : (Jvm.Cond.code ({ cls := "NineMaps$Reader", name := "readCopies", desc := "()Z" } : Jvm.MethodName) prog_6_method_18_code (4 : Nat) (Option.some Jvm.ClassFile.FieldType.boolean)) ∈ TW := tw_in 691 (by decide +kernel) rfl
theorem tw_692 : (Jvm.Cond.methodLink "NineMaps$Reader" (172 : Nat) ({ cls := "NineMaps$Reader", name := "townHere", desc := "()I" } : Jvm.MethodName)) ∈ TW := tw_in 692 (by decide +kernel) rfl
theorem tw_694 : (Jvm.Cond.instanceMethod ({ cls := "NineMaps$Reader", name := "townHere", desc := "()I" } : Jvm.MethodName)) ∈ TW := tw_in 694 (by decide +kernel) rfl
theorem tw_695 : (Jvm.Cond.code ({ cls := "NineMaps$Reader", name := "townHere", desc := "()I" } : Jvm.MethodName) prog_6_method_11_code (2 : Nat) (Option.some Jvm.ClassFile.FieldType.int)) ∈ TW := tw_in 695 (by decide +kernel) rfl
theorem tw_696 : (Jvm.Cond.methodLink "NineMaps$Reader" (178 : Nat) ({ cls := "NineMaps$Reader", name := "errorSort", desc := "()I" } : Jvm.MethodName)) ∈ TW := tw_in 696 (by decide +kernel) rfl
theorem tw_698 : (Jvm.Cond.instanceMethod ({ cls := "NineMaps$Reader", name := "errorSort", desc := "()I" } : Jvm.MethodName)) ∈ TW := tw_in 698 (by decide +kernel) rfl
theorem tw_699 : (Jvm.Cond.code ({ cls := "NineMaps$Reader", name := "errorSort", desc := "()I" } : Jvm.MethodName) prog_6_method_21_code (2 : Nat) (Option.some Jvm.ClassFile.FieldType.int)) ∈ TW := tw_in 699 (by decide +kernel) rfl
theorem tw_700 : (Jvm.Cond.methodLink "NineMaps$Reader" (209 : Nat) ({ cls := "NineMaps$Reader", name := "errorWord", desc := "(I)Ljava/lang/String;" } : Jvm.MethodName)) ∈ TW := tw_in 700 (by decide +kernel) rfl
theorem tw_701 : (Jvm.Cond.static ({ cls := "NineMaps$Reader", name := "errorWord", desc := "(I)Ljava/lang/String;" } : Jvm.MethodName)) ∈ TW := tw_in 701 (by decide +kernel) rfl
theorem tw_702 : (Jvm.Cond.code ({ cls := "NineMaps$Reader", name := "errorWord", desc := "(I)Ljava/lang/String;" } : Jvm.MethodName) prog_6_method_22_code (1 : Nat) (Option.some (Jvm.ClassFile.FieldType.object "java/lang/String"))) ∈ TW := tw_in 702 (by decide +kernel) rfl
theorem tw_714 : (Jvm.Cond.methodLink "NineMaps$Reader" (181 : Nat) ({ cls := "NineMaps$Ring", name := "unknownCount", desc := "()I" } : Jvm.MethodName)) ∈ TW := tw_in 714 (by decide +kernel) rfl
theorem tw_715 : (Jvm.Cond.instanceMethod ({ cls := "NineMaps$Ring", name := "unknownCount", desc := "()I" } : Jvm.MethodName)) ∈ TW := tw_in 715 (by decide +kernel) rfl
theorem tw_716 : (Jvm.Cond.selects "NineMaps$Ring" ({ cls := "NineMaps$Ring", name := "unknownCount", desc := "()I" } : Jvm.MethodName) ({ cls := "NineMaps$Ring", name := "unknownCount", desc := "()I" } : Jvm.MethodName)) ∈ TW := tw_in 716 (by decide +kernel) rfl
theorem tw_717 : (Jvm.Cond.code ({ cls := "NineMaps$Ring", name := "unknownCount", desc := "()I" } : Jvm.MethodName) prog_7_method_5_code (1 : Nat) (Option.some Jvm.ClassFile.FieldType.int)) ∈ TW := tw_in 717 (by decide +kernel) rfl
theorem tw_718 : (Jvm.Cond.methodLink "NineMaps$Ring" (63 : Nat) ({ cls := "NineMaps$Ring", name := "unknownsBelow", desc := "(I)I" } : Jvm.MethodName)) ∈ TW := tw_in 718 (by decide +kernel) rfl
theorem tw_720 : (Jvm.Cond.instanceMethod ({ cls := "NineMaps$Ring", name := "unknownsBelow", desc := "(I)I" } : Jvm.MethodName)) ∈ TW := tw_in 720 (by decide +kernel) rfl
theorem tw_721 : (Jvm.Cond.code ({ cls := "NineMaps$Ring", name := "unknownsBelow", desc := "(I)I" } : Jvm.MethodName) prog_7_method_7_code (4 : Nat) (Option.some Jvm.ClassFile.FieldType.int)) ∈ TW := tw_in 721 (by decide +kernel) rfl
theorem tw_722 : (Jvm.Cond.methodLink "NineMaps$Ring" (67 : Nat) ({ cls := "NineMaps$Ring", name := "isUnknown", desc := "(I)Z" } : Jvm.MethodName)) ∈ TW := tw_in 722 (by decide +kernel) rfl
theorem tw_723 : (Jvm.Cond.instanceMethod ({ cls := "NineMaps$Ring", name := "isUnknown", desc := "(I)Z" } : Jvm.MethodName)) ∈ TW := tw_in 723 (by decide +kernel) rfl
theorem tw_724 : (Jvm.Cond.selects "NineMaps$Ring" ({ cls := "NineMaps$Ring", name := "isUnknown", desc := "(I)Z" } : Jvm.MethodName) ({ cls := "NineMaps$Ring", name := "isUnknown", desc := "(I)Z" } : Jvm.MethodName)) ∈ TW := tw_in 724 (by decide +kernel) rfl
theorem tw_725 : (Jvm.Cond.code ({ cls := "NineMaps$Ring", name := "isUnknown", desc := "(I)Z" } : Jvm.MethodName) prog_7_method_4_code (2 : Nat) (Option.some Jvm.ClassFile.FieldType.boolean)) ∈ TW := tw_in 725 (by decide +kernel) rfl
theorem tw_726 : (Jvm.Cond.methodLink "NineMaps$Reader" (187 : Nat) ({ cls := "NineMaps$Reader", name := "readError", desc := "(I[II)Z" } : Jvm.MethodName)) ∈ TW := tw_in 726 (by decide +kernel) rfl
theorem tw_728 : (Jvm.Cond.instanceMethod ({ cls := "NineMaps$Reader", name := "readError", desc := "(I[II)Z" } : Jvm.MethodName)) ∈ TW := tw_in 728 (by decide +kernel) rfl
theorem tw_729 : (Jvm.Cond.code ({ cls := "NineMaps$Reader", name := "readError", desc := "(I[II)Z" } : Jvm.MethodName) prog_6_method_24_code (7 : Nat) (Option.some Jvm.ClassFile.FieldType.boolean)) ∈ TW := tw_in 729 (by decide +kernel) rfl
theorem tw_730 : (Jvm.Cond.methodLink "NineMaps$Reader" (249 : Nat) ({ cls := "NineMaps$Reader", name := "errorParts", desc := "(I)Ljava/lang/String;" } : Jvm.MethodName)) ∈ TW := tw_in 730 (by decide +kernel) rfl
theorem tw_731 : (Jvm.Cond.static ({ cls := "NineMaps$Reader", name := "errorParts", desc := "(I)Ljava/lang/String;" } : Jvm.MethodName)) ∈ TW := tw_in 731 (by decide +kernel) rfl
theorem tw_732 : (Jvm.Cond.code ({ cls := "NineMaps$Reader", name := "errorParts", desc := "(I)Ljava/lang/String;" } : Jvm.MethodName) prog_6_method_23_code (1 : Nat) (Option.some (Jvm.ClassFile.FieldType.object "java/lang/String"))) ∈ TW := tw_in 732 (by decide +kernel) rfl
theorem tw_740 : (Jvm.Cond.methodLink "NineMaps$Reader" (252 : Nat) ({ cls := "NineMaps$Reader", name := "partDue", desc := "(CI)I" } : Jvm.MethodName)) ∈ TW := tw_in 740 (by decide +kernel) rfl
theorem tw_742 : (Jvm.Cond.instanceMethod ({ cls := "NineMaps$Reader", name := "partDue", desc := "(CI)I" } : Jvm.MethodName)) ∈ TW := tw_in 742 (by decide +kernel) rfl
theorem tw_743 : (Jvm.Cond.code ({ cls := "NineMaps$Reader", name := "partDue", desc := "(CI)I" } : Jvm.MethodName) prog_6_method_25_code (3 : Nat) (Option.some Jvm.ClassFile.FieldType.int)) ∈ TW := tw_in 743 (by decide +kernel) rfl
theorem tw_744 : (Jvm.Cond.methodLink "NineMaps$Reader" (194 : Nat) ({ cls := "NineMaps$Reader", name := "markDue", desc := "(I)I" } : Jvm.MethodName)) ∈ TW := tw_in 744 (by decide +kernel) rfl
theorem tw_746 : (Jvm.Cond.instanceMethod ({ cls := "NineMaps$Reader", name := "markDue", desc := "(I)I" } : Jvm.MethodName)) ∈ TW := tw_in 746 (by decide +kernel) rfl
theorem tw_747 : (Jvm.Cond.code ({ cls := "NineMaps$Reader", name := "markDue", desc := "(I)I" } : Jvm.MethodName) prog_6_method_9_code (3 : Nat) (Option.some Jvm.ClassFile.FieldType.int)) ∈ TW := tw_in 747 (by decide +kernel) rfl
theorem tw_748 : (Jvm.Cond.methodLink "NineMaps$Reader" (77 : Nat) ({ cls := "NineMaps$Reader", name := "readGuess", desc := "()Z" } : Jvm.MethodName)) ∈ TW := tw_in 748 (by decide +kernel) rfl
theorem tw_750 : (Jvm.Cond.instanceMethod ({ cls := "NineMaps$Reader", name := "readGuess", desc := "()Z" } : Jvm.MethodName)) ∈ TW := tw_in 750 (by decide +kernel) rfl
theorem tw_751 : (Jvm.Cond.code ({ cls := "NineMaps$Reader", name := "readGuess", desc := "()Z" } : Jvm.MethodName) prog_6_method_19_code (2 : Nat) (Option.some Jvm.ClassFile.FieldType.boolean)) ∈ TW := tw_in 751 (by decide +kernel) rfl
theorem tw_752 : (Jvm.Cond.methodLink "NineMaps$Reader" (80 : Nat) ({ cls := "NineMaps$Reader", name := "readSeen", desc := "()Z" } : Jvm.MethodName)) ∈ TW := tw_in 752 (by decide +kernel) rfl
theorem tw_754 : (Jvm.Cond.instanceMethod ({ cls := "NineMaps$Reader", name := "readSeen", desc := "()Z" } : Jvm.MethodName)) ∈ TW := tw_in 754 (by decide +kernel) rfl
theorem tw_755 : (Jvm.Cond.code ({ cls := "NineMaps$Reader", name := "readSeen", desc := "()Z" } : Jvm.MethodName) prog_6_method_20_code (7 : Nat) (Option.some Jvm.ClassFile.FieldType.boolean)) ∈ TW := tw_in 755 (by decide +kernel) rfl
theorem tw_756 : (Jvm.Cond.methodLink "NineMaps" (120 : Nat) ({ cls := "NineMaps$World", name := "become", desc := "(LNineMaps$World;)V" } : Jvm.MethodName)) ∈ TW := tw_in 756 (by decide +kernel) rfl
theorem tw_757 : (Jvm.Cond.instanceMethod ({ cls := "NineMaps$World", name := "become", desc := "(LNineMaps$World;)V" } : Jvm.MethodName)) ∈ TW := tw_in 757 (by decide +kernel) rfl
theorem tw_758 : (Jvm.Cond.selects "NineMaps$World" ({ cls := "NineMaps$World", name := "become", desc := "(LNineMaps$World;)V" } : Jvm.MethodName) ({ cls := "NineMaps$World", name := "become", desc := "(LNineMaps$World;)V" } : Jvm.MethodName)) ∈ TW := tw_in 758 (by decide +kernel) rfl
theorem tw_759 : (Jvm.Cond.code ({ cls := "NineMaps$World", name := "become", desc := "(LNineMaps$World;)V" } : Jvm.MethodName) prog_10_method_2_code (2 : Nat) (Option.none : Option Jvm.ClassFile.FieldType)) ∈ TW := tw_in 759 (by decide +kernel) rfl
theorem tw_760 : (Jvm.Cond.methodLink "NineMaps$World" (37 : Nat) ({ cls := "java/lang/System", name := "arraycopy", desc := "(Ljava/lang/Object;ILjava/lang/Object;II)V" } : Jvm.MethodName)) ∈ TW := tw_in 760 (by decide +kernel) rfl
theorem tw_761 : (Jvm.Cond.static ({ cls := "java/lang/System", name := "arraycopy", desc := "(Ljava/lang/Object;ILjava/lang/Object;II)V" } : Jvm.MethodName)) ∈ TW := tw_in 761 (by decide +kernel) rfl
theorem tw_762 : (Jvm.Cond.native ({ cls := "java/lang/System", name := "arraycopy", desc := "(Ljava/lang/Object;ILjava/lang/Object;II)V" } : Jvm.MethodName)) ∈ TW := tw_in 762 (by decide +kernel) rfl
theorem tw_763 : (Jvm.Cond.methodLink "NineMaps" (123 : Nat) ({ cls := "NineMaps$Past", name := "forgetAll", desc := "()V" } : Jvm.MethodName)) ∈ TW := tw_in 763 (by decide +kernel) rfl
theorem tw_764 : (Jvm.Cond.instanceMethod ({ cls := "NineMaps$Past", name := "forgetAll", desc := "()V" } : Jvm.MethodName)) ∈ TW := tw_in 764 (by decide +kernel) rfl
theorem tw_765 : (Jvm.Cond.selects "NineMaps$Past" ({ cls := "NineMaps$Past", name := "forgetAll", desc := "()V" } : Jvm.MethodName) ({ cls := "NineMaps$Past", name := "forgetAll", desc := "()V" } : Jvm.MethodName)) ∈ TW := tw_in 765 (by decide +kernel) rfl
theorem tw_766 : (Jvm.Cond.code ({ cls := "NineMaps$Past", name := "forgetAll", desc := "()V" } : Jvm.MethodName) prog_5_method_2_code (1 : Nat) (Option.none : Option Jvm.ClassFile.FieldType)) ∈ TW := tw_in 766 (by decide +kernel) rfl
theorem tw_767 : (Jvm.Cond.methodLink "NineMaps" (133 : Nat) ({ cls := "NineMaps", name := "answered", desc := "(I)I" } : Jvm.MethodName)) ∈ TW := tw_in 767 (by decide +kernel) rfl
theorem tw_769 : (Jvm.Cond.instanceMethod ({ cls := "NineMaps", name := "answered", desc := "(I)I" } : Jvm.MethodName)) ∈ TW := tw_in 769 (by decide +kernel) rfl
theorem tw_770 : (Jvm.Cond.code ({ cls := "NineMaps", name := "answered", desc := "(I)I" } : Jvm.MethodName) prog_1_method_51_code (2 : Nat) (Option.some Jvm.ClassFile.FieldType.int)) ∈ TW := tw_in 770 (by decide +kernel) rfl
theorem tw_771 : (Jvm.Cond.arrayClass Jvm.ClassFile.FieldType.byte) ∈ TW := tw_in 771 (by decide +kernel) rfl
theorem tw_784 : (Jvm.Cond.methodLink "NineMaps" (136 : Nat) ({ cls := "NineMaps", name := "isTown", desc := "(I)Z" } : Jvm.MethodName)) ∈ TW := tw_in 784 (by decide +kernel) rfl
theorem tw_786 : (Jvm.Cond.instanceMethod ({ cls := "NineMaps", name := "isTown", desc := "(I)Z" } : Jvm.MethodName)) ∈ TW := tw_in 786 (by decide +kernel) rfl
theorem tw_787 : (Jvm.Cond.code ({ cls := "NineMaps", name := "isTown", desc := "(I)Z" } : Jvm.MethodName) prog_1_method_54_code (2 : Nat) (Option.some Jvm.ClassFile.FieldType.boolean)) ∈ TW := tw_in 787 (by decide +kernel) rfl
theorem tw_796 : (Jvm.Cond.methodLink "NineMaps" (146 : Nat) ({ cls := "NineMaps", name := "isPlace", desc := "(I)Z" } : Jvm.MethodName)) ∈ TW := tw_in 796 (by decide +kernel) rfl
theorem tw_798 : (Jvm.Cond.instanceMethod ({ cls := "NineMaps", name := "isPlace", desc := "(I)Z" } : Jvm.MethodName)) ∈ TW := tw_in 798 (by decide +kernel) rfl
theorem tw_799 : (Jvm.Cond.code ({ cls := "NineMaps", name := "isPlace", desc := "(I)Z" } : Jvm.MethodName) prog_1_method_56_code (2 : Nat) (Option.some Jvm.ClassFile.FieldType.boolean)) ∈ TW := tw_in 799 (by decide +kernel) rfl
theorem tw_800 : (Jvm.Cond.methodLink "NineMaps" (152 : Nat) ({ cls := "NineMaps", name := "inner", desc := "(I)I" } : Jvm.MethodName)) ∈ TW := tw_in 800 (by decide +kernel) rfl
theorem tw_801 : (Jvm.Cond.static ({ cls := "NineMaps", name := "inner", desc := "(I)I" } : Jvm.MethodName)) ∈ TW := tw_in 801 (by decide +kernel) rfl
theorem tw_802 : (Jvm.Cond.code ({ cls := "NineMaps", name := "inner", desc := "(I)I" } : Jvm.MethodName) prog_1_method_58_code (1 : Nat) (Option.some Jvm.ClassFile.FieldType.int)) ∈ TW := tw_in 802 (by decide +kernel) rfl
theorem tw_811 : (Jvm.Cond.methodLink "NineMaps" (155 : Nat) ({ cls := "NineMaps", name := "isBehind", desc := "(II)Z" } : Jvm.MethodName)) ∈ TW := tw_in 811 (by decide +kernel) rfl
theorem tw_812 : (Jvm.Cond.static ({ cls := "NineMaps", name := "isBehind", desc := "(II)Z" } : Jvm.MethodName)) ∈ TW := tw_in 812 (by decide +kernel) rfl
theorem tw_813 : (Jvm.Cond.code ({ cls := "NineMaps", name := "isBehind", desc := "(II)Z" } : Jvm.MethodName) prog_1_method_57_code (2 : Nat) (Option.some Jvm.ClassFile.FieldType.boolean)) ∈ TW := tw_in 813 (by decide +kernel) rfl
theorem tw_814 : (Jvm.Cond.methodLink "NineMaps" (159 : Nat) ({ cls := "NineMaps$Chain", name := "markBehind", desc := "(LNineMaps$World;III)I" } : Jvm.MethodName)) ∈ TW := tw_in 814 (by decide +kernel) rfl
theorem tw_815 : (Jvm.Cond.instanceMethod ({ cls := "NineMaps$Chain", name := "markBehind", desc := "(LNineMaps$World;III)I" } : Jvm.MethodName)) ∈ TW := tw_in 815 (by decide +kernel) rfl
theorem tw_816 : (Jvm.Cond.selects "NineMaps$Chain" ({ cls := "NineMaps$Chain", name := "markBehind", desc := "(LNineMaps$World;III)I" } : Jvm.MethodName) ({ cls := "NineMaps$Chain", name := "markBehind", desc := "(LNineMaps$World;III)I" } : Jvm.MethodName)) ∈ TW := tw_in 816 (by decide +kernel) rfl
theorem tw_817 : (Jvm.Cond.code ({ cls := "NineMaps$Chain", name := "markBehind", desc := "(LNineMaps$World;III)I" } : Jvm.MethodName) prog_2_method_2_code (5 : Nat) (Option.some Jvm.ClassFile.FieldType.int)) ∈ TW := tw_in 817 (by decide +kernel) rfl
theorem tw_818 : (Jvm.Cond.methodLink "NineMaps$Chain" (42 : Nat) ({ cls := "NineMaps$Chain", name := "lay", desc := "(LNineMaps$World;II)V" } : Jvm.MethodName)) ∈ TW := tw_in 818 (by decide +kernel) rfl
theorem tw_820 : (Jvm.Cond.instanceMethod ({ cls := "NineMaps$Chain", name := "lay", desc := "(LNineMaps$World;II)V" } : Jvm.MethodName)) ∈ TW := tw_in 820 (by decide +kernel) rfl
theorem tw_821 : (Jvm.Cond.code ({ cls := "NineMaps$Chain", name := "lay", desc := "(LNineMaps$World;II)V" } : Jvm.MethodName) prog_2_method_4_code (5 : Nat) (Option.none : Option Jvm.ClassFile.FieldType)) ∈ TW := tw_in 821 (by decide +kernel) rfl
theorem tw_822 : (Jvm.Cond.methodLink "NineMaps$Chain" (69 : Nat) ({ cls := "java/lang/Math", name := "min", desc := "(II)I" } : Jvm.MethodName)) ∈ TW := tw_in 822 (by decide +kernel) rfl
theorem tw_823 : (Jvm.Cond.methodLink "NineMaps$Chain" (75 : Nat) ({ cls := "java/lang/Math", name := "max", desc := "(II)I" } : Jvm.MethodName)) ∈ TW := tw_in 823 (by decide +kernel) rfl
theorem tw_824 : (Jvm.Cond.static ({ cls := "java/lang/Math", name := "max", desc := "(II)I" } : Jvm.MethodName)) ∈ TW := tw_in 824 (by decide +kernel) rfl
theorem tw_825 : (Jvm.Cond.code ({ cls := "java/lang/Math", name := "max", desc := "(II)I" } : Jvm.MethodName) prog_18_method_65_code (2 : Nat) (Option.some Jvm.ClassFile.FieldType.int)) ∈ TW := tw_in 825 (by decide +kernel) rfl
theorem tw_826 : (Jvm.Cond.methodLink "NineMaps$Chain" (81 : Nat) ({ cls := "NineMaps$World", name := "sneezes", desc := "()Z" } : Jvm.MethodName)) ∈ TW := tw_in 826 (by decide +kernel) rfl
theorem tw_827 : (Jvm.Cond.instanceMethod ({ cls := "NineMaps$World", name := "sneezes", desc := "()Z" } : Jvm.MethodName)) ∈ TW := tw_in 827 (by decide +kernel) rfl
theorem tw_828 : (Jvm.Cond.selects "NineMaps$World" ({ cls := "NineMaps$World", name := "sneezes", desc := "()Z" } : Jvm.MethodName) ({ cls := "NineMaps$World", name := "sneezes", desc := "()Z" } : Jvm.MethodName)) ∈ TW := tw_in 828 (by decide +kernel) rfl
theorem tw_829 : (Jvm.Cond.code ({ cls := "NineMaps$World", name := "sneezes", desc := "()Z" } : Jvm.MethodName) prog_10_method_8_code (2 : Nat) (Option.some Jvm.ClassFile.FieldType.boolean)) ∈ TW := tw_in 829 (by decide +kernel) rfl
theorem tw_830 : (Jvm.Cond.methodLink "NineMaps$Chain" (85 : Nat) ({ cls := "NineMaps$Chain", name := "drawAll", desc := "()V" } : Jvm.MethodName)) ∈ TW := tw_in 830 (by decide +kernel) rfl
theorem tw_832 : (Jvm.Cond.instanceMethod ({ cls := "NineMaps$Chain", name := "drawAll", desc := "()V" } : Jvm.MethodName)) ∈ TW := tw_in 832 (by decide +kernel) rfl
theorem tw_833 : (Jvm.Cond.code ({ cls := "NineMaps$Chain", name := "drawAll", desc := "()V" } : Jvm.MethodName) prog_2_method_5_code (4 : Nat) (Option.none : Option Jvm.ClassFile.FieldType)) ∈ TW := tw_in 833 (by decide +kernel) rfl
theorem tw_834 : (Jvm.Cond.methodLink "NineMaps$Chain" (96 : Nat) ({ cls := "NineMaps$World", name := "nextSeed", desc := "(I)I" } : Jvm.MethodName)) ∈ TW := tw_in 834 (by decide +kernel) rfl
theorem tw_835 : (Jvm.Cond.static ({ cls := "NineMaps$World", name := "nextSeed", desc := "(I)I" } : Jvm.MethodName)) ∈ TW := tw_in 835 (by decide +kernel) rfl
theorem tw_836 : (Jvm.Cond.code ({ cls := "NineMaps$World", name := "nextSeed", desc := "(I)I" } : Jvm.MethodName) prog_10_method_12_code (1 : Nat) (Option.some Jvm.ClassFile.FieldType.int)) ∈ TW := tw_in 836 (by decide +kernel) rfl
theorem tw_837 : (Jvm.Cond.constant "NineMaps$World" (68 : Nat) (65537 : Int32)) ∈ TW := tw_in 837 (by decide +kernel) rfl
theorem tw_838 : (Jvm.Cond.methodLink "NineMaps$Chain" (99 : Nat) ({ cls := "NineMaps$World", name := "drawnPlace", desc := "(I)I" } : Jvm.MethodName)) ∈ TW := tw_in 838 (by decide +kernel) rfl
theorem tw_839 : (Jvm.Cond.instanceMethod ({ cls := "NineMaps$World", name := "drawnPlace", desc := "(I)I" } : Jvm.MethodName)) ∈ TW := tw_in 839 (by decide +kernel) rfl
theorem tw_840 : (Jvm.Cond.selects "NineMaps$World" ({ cls := "NineMaps$World", name := "drawnPlace", desc := "(I)I" } : Jvm.MethodName) ({ cls := "NineMaps$World", name := "drawnPlace", desc := "(I)I" } : Jvm.MethodName)) ∈ TW := tw_in 840 (by decide +kernel) rfl
theorem tw_841 : (Jvm.Cond.code ({ cls := "NineMaps$World", name := "drawnPlace", desc := "(I)I" } : Jvm.MethodName) prog_10_method_13_code (3 : Nat) (Option.some Jvm.ClassFile.FieldType.int)) ∈ TW := tw_in 841 (by decide +kernel) rfl
theorem tw_842 : (Jvm.Cond.methodLink "NineMaps$Chain" (46 : Nat) ({ cls := "NineMaps$Chain", name := "want", desc := "(II)V" } : Jvm.MethodName)) ∈ TW := tw_in 842 (by decide +kernel) rfl
theorem tw_844 : (Jvm.Cond.instanceMethod ({ cls := "NineMaps$Chain", name := "want", desc := "(II)V" } : Jvm.MethodName)) ∈ TW := tw_in 844 (by decide +kernel) rfl
theorem tw_845 : (Jvm.Cond.code ({ cls := "NineMaps$Chain", name := "want", desc := "(II)V" } : Jvm.MethodName) prog_2_method_6_code (5 : Nat) (Option.none : Option Jvm.ClassFile.FieldType)) ∈ TW := tw_in 845 (by decide +kernel) rfl
theorem tw_846 : (Jvm.Cond.methodLink "NineMaps$Chain" (50 : Nat) ({ cls := "NineMaps$Chain", name := "prepare", desc := "()V" } : Jvm.MethodName)) ∈ TW := tw_in 846 (by decide +kernel) rfl
theorem tw_848 : (Jvm.Cond.instanceMethod ({ cls := "NineMaps$Chain", name := "prepare", desc := "()V" } : Jvm.MethodName)) ∈ TW := tw_in 848 (by decide +kernel) rfl
theorem tw_849 : (Jvm.Cond.code ({ cls := "NineMaps$Chain", name := "prepare", desc := "()V" } : Jvm.MethodName) prog_2_method_7_code (6 : Nat) (Option.none : Option Jvm.ClassFile.FieldType)) ∈ TW := tw_in 849 (by decide +kernel) rfl
theorem tw_850 : (Jvm.Cond.methodLink "NineMaps$Chain" (102 : Nat) ({ cls := "NineMaps$Chain", name := "source", desc := "(II)I" } : Jvm.MethodName)) ∈ TW := tw_in 850 (by decide +kernel) rfl
theorem tw_851 : (Jvm.Cond.instanceMethod ({ cls := "NineMaps$Chain", name := "source", desc := "(II)I" } : Jvm.MethodName)) ∈ TW := tw_in 851 (by decide +kernel) rfl
theorem tw_852 : (Jvm.Cond.selects "NineMaps$Chain" ({ cls := "NineMaps$Chain", name := "source", desc := "(II)I" } : Jvm.MethodName) ({ cls := "NineMaps$Chain", name := "source", desc := "(II)I" } : Jvm.MethodName)) ∈ TW := tw_in 852 (by decide +kernel) rfl
theorem tw_853 : (Jvm.Cond.code ({ cls := "NineMaps$Chain", name := "source", desc := "(II)I" } : Jvm.MethodName) prog_2_method_9_code (4 : Nat) (Option.some Jvm.ClassFile.FieldType.int)) ∈ TW := tw_in 853 (by decide +kernel) rfl
theorem tw_854 : (Jvm.Cond.methodLink "NineMaps$Chain" (114 : Nat) ({ cls := "NineMaps$World", name := "source", desc := "(I[IIII)I" } : Jvm.MethodName)) ∈ TW := tw_in 854 (by decide +kernel) rfl
theorem tw_855 : (Jvm.Cond.instanceMethod ({ cls := "NineMaps$World", name := "source", desc := "(I[IIII)I" } : Jvm.MethodName)) ∈ TW := tw_in 855 (by decide +kernel) rfl
theorem tw_856 : (Jvm.Cond.selects "NineMaps$World" ({ cls := "NineMaps$World", name := "source", desc := "(I[IIII)I" } : Jvm.MethodName) ({ cls := "NineMaps$World", name := "source", desc := "(I[IIII)I" } : Jvm.MethodName)) ∈ TW := tw_in 856 (by decide +kernel) rfl
theorem tw_857 : (Jvm.Cond.code ({ cls := "NineMaps$World", name := "source", desc := "(I[IIII)I" } : Jvm.MethodName) prog_10_method_15_code (11 : Nat) (Option.some Jvm.ClassFile.FieldType.int)) ∈ TW := tw_in 857 (by decide +kernel) rfl
theorem tw_858 : (Jvm.Cond.methodLink "NineMaps$World" (72 : Nat) ({ cls := "NineMaps$World", name := "shiftSource", desc := "(II)I" } : Jvm.MethodName)) ∈ TW := tw_in 858 (by decide +kernel) rfl
theorem tw_860 : (Jvm.Cond.instanceMethod ({ cls := "NineMaps$World", name := "shiftSource", desc := "(II)I" } : Jvm.MethodName)) ∈ TW := tw_in 860 (by decide +kernel) rfl
theorem tw_861 : (Jvm.Cond.code ({ cls := "NineMaps$World", name := "shiftSource", desc := "(II)I" } : Jvm.MethodName) prog_10_method_16_code (3 : Nat) (Option.some Jvm.ClassFile.FieldType.int)) ∈ TW := tw_in 861 (by decide +kernel) rfl
theorem tw_862 : (Jvm.Cond.methodLink "NineMaps$World" (76 : Nat) ({ cls := "NineMaps$World", name := "stainSource", desc := "([IIII)I" } : Jvm.MethodName)) ∈ TW := tw_in 862 (by decide +kernel) rfl
theorem tw_864 : (Jvm.Cond.instanceMethod ({ cls := "NineMaps$World", name := "stainSource", desc := "([IIII)I" } : Jvm.MethodName)) ∈ TW := tw_in 864 (by decide +kernel) rfl
theorem tw_865 : (Jvm.Cond.code ({ cls := "NineMaps$World", name := "stainSource", desc := "([IIII)I" } : Jvm.MethodName) prog_10_method_17_code (8 : Nat) (Option.some Jvm.ClassFile.FieldType.int)) ∈ TW := tw_in 865 (by decide +kernel) rfl
theorem tw_866 : (Jvm.Cond.methodLink "NineMaps$Chain" (105 : Nat) ({ cls := "NineMaps$Chain", name := "wantAround", desc := "(II)V" } : Jvm.MethodName)) ∈ TW := tw_in 866 (by decide +kernel) rfl
theorem tw_868 : (Jvm.Cond.instanceMethod ({ cls := "NineMaps$Chain", name := "wantAround", desc := "(II)V" } : Jvm.MethodName)) ∈ TW := tw_in 868 (by decide +kernel) rfl
theorem tw_869 : (Jvm.Cond.code ({ cls := "NineMaps$Chain", name := "wantAround", desc := "(II)V" } : Jvm.MethodName) prog_2_method_8_code (5 : Nat) (Option.none : Option Jvm.ClassFile.FieldType)) ∈ TW := tw_in 869 (by decide +kernel) rfl
theorem tw_870 : (Jvm.Cond.methodLink "NineMaps$Chain" (111 : Nat) ({ cls := "NineMaps$World", name := "beside", desc := "(II)I" } : Jvm.MethodName)) ∈ TW := tw_in 870 (by decide +kernel) rfl
theorem tw_871 : (Jvm.Cond.instanceMethod ({ cls := "NineMaps$World", name := "beside", desc := "(II)I" } : Jvm.MethodName)) ∈ TW := tw_in 871 (by decide +kernel) rfl
theorem tw_872 : (Jvm.Cond.selects "NineMaps$World" ({ cls := "NineMaps$World", name := "beside", desc := "(II)I" } : Jvm.MethodName) ({ cls := "NineMaps$World", name := "beside", desc := "(II)I" } : Jvm.MethodName)) ∈ TW := tw_in 872 (by decide +kernel) rfl
theorem tw_873 : (Jvm.Cond.code ({ cls := "NineMaps$World", name := "beside", desc := "(II)I" } : Jvm.MethodName) prog_10_method_18_code (5 : Nat) (Option.some Jvm.ClassFile.FieldType.int)) ∈ TW := tw_in 873 (by decide +kernel) rfl
theorem tw_874 : (Jvm.Cond.methodLink "NineMaps$Chain" (63 : Nat) ({ cls := "java/lang/System", name := "arraycopy", desc := "(Ljava/lang/Object;ILjava/lang/Object;II)V" } : Jvm.MethodName)) ∈ TW := tw_in 874 (by decide +kernel) rfl
theorem tw_875 : (Jvm.Cond.methodLink "NineMaps$Chain" (53 : Nat) ({ cls := "NineMaps$Chain", name := "build", desc := "(I)I" } : Jvm.MethodName)) ∈ TW := tw_in 875 (by decide +kernel) rfl
theorem tw_876 : (Jvm.Cond.instanceMethod ({ cls := "NineMaps$Chain", name := "build", desc := "(I)I" } : Jvm.MethodName)) ∈ TW := tw_in 876 (by decide +kernel) rfl
theorem tw_877 : (Jvm.Cond.selects "NineMaps$Chain" ({ cls := "NineMaps$Chain", name := "build", desc := "(I)I" } : Jvm.MethodName) ({ cls := "NineMaps$Chain", name := "build", desc := "(I)I" } : Jvm.MethodName)) ∈ TW := tw_in 877 (by decide +kernel) rfl
theorem tw_878 : (Jvm.Cond.code ({ cls := "NineMaps$Chain", name := "build", desc := "(I)I" } : Jvm.MethodName) prog_2_method_10_code (7 : Nat) (Option.some Jvm.ClassFile.FieldType.int)) ∈ TW := tw_in 878 (by decide +kernel) rfl
theorem tw_879 : (Jvm.Cond.methodLink "NineMaps$Chain" (117 : Nat) ({ cls := "NineMaps$World", name := "markFor", desc := "(I[IIII)I" } : Jvm.MethodName)) ∈ TW := tw_in 879 (by decide +kernel) rfl
theorem tw_880 : (Jvm.Cond.instanceMethod ({ cls := "NineMaps$World", name := "markFor", desc := "(I[IIII)I" } : Jvm.MethodName)) ∈ TW := tw_in 880 (by decide +kernel) rfl
theorem tw_881 : (Jvm.Cond.selects "NineMaps$World" ({ cls := "NineMaps$World", name := "markFor", desc := "(I[IIII)I" } : Jvm.MethodName) ({ cls := "NineMaps$World", name := "markFor", desc := "(I[IIII)I" } : Jvm.MethodName)) ∈ TW := tw_in 881 (by decide +kernel) rfl
theorem tw_882 : (Jvm.Cond.code ({ cls := "NineMaps$World", name := "markFor", desc := "(I[IIII)I" } : Jvm.MethodName) prog_10_method_14_code (11 : Nat) (Option.some Jvm.ClassFile.FieldType.int)) ∈ TW := tw_in 882 (by decide +kernel) rfl
theorem tw_883 : (Jvm.Cond.methodLink "NineMaps$World" (69 : Nat) ({ cls := "NineMaps$World", name := "source", desc := "(I[IIII)I" } : Jvm.MethodName)) ∈ TW := tw_in 883 (by decide +kernel) rfl
theorem tw_888 : (Jvm.Cond.methodLink "NineMaps" (163 : Nat) ({ cls := "NineMaps", name := "isMark", desc := "(I)Z" } : Jvm.MethodName)) ∈ TW := tw_in 888 (by decide +kernel) rfl
theorem tw_890 : (Jvm.Cond.instanceMethod ({ cls := "NineMaps", name := "isMark", desc := "(I)Z" } : Jvm.MethodName)) ∈ TW := tw_in 890 (by decide +kernel) rfl
theorem tw_891 : (Jvm.Cond.code ({ cls := "NineMaps", name := "isMark", desc := "(I)Z" } : Jvm.MethodName) prog_1_method_55_code (2 : Nat) (Option.some Jvm.ClassFile.FieldType.boolean)) ∈ TW := tw_in 891 (by decide +kernel) rfl
theorem tw_892 : (Jvm.Cond.methodLink "NineMaps" (166 : Nat) ({ cls := "NineMaps$Chain", name := "mapBehind", desc := "(LNineMaps$World;II[I)V" } : Jvm.MethodName)) ∈ TW := tw_in 892 (by decide +kernel) rfl
theorem tw_893 : (Jvm.Cond.instanceMethod ({ cls := "NineMaps$Chain", name := "mapBehind", desc := "(LNineMaps$World;II[I)V" } : Jvm.MethodName)) ∈ TW := tw_in 893 (by decide +kernel) rfl
theorem tw_894 : (Jvm.Cond.selects "NineMaps$Chain" ({ cls := "NineMaps$Chain", name := "mapBehind", desc := "(LNineMaps$World;II[I)V" } : Jvm.MethodName) ({ cls := "NineMaps$Chain", name := "mapBehind", desc := "(LNineMaps$World;II[I)V" } : Jvm.MethodName)) ∈ TW := tw_in 894 (by decide +kernel) rfl
theorem tw_895 : (Jvm.Cond.code ({ cls := "NineMaps$Chain", name := "mapBehind", desc := "(LNineMaps$World;II[I)V" } : Jvm.MethodName) prog_2_method_3_code (6 : Nat) (Option.none : Option Jvm.ClassFile.FieldType)) ∈ TW := tw_in 895 (by decide +kernel) rfl
theorem tw_896 : (Jvm.Cond.methodLink "NineMaps$Chain" (57 : Nat) ({ cls := "NineMaps$World", name := "holds", desc := "(I)Z" } : Jvm.MethodName)) ∈ TW := tw_in 896 (by decide +kernel) rfl
theorem tw_897 : (Jvm.Cond.instanceMethod ({ cls := "NineMaps$World", name := "holds", desc := "(I)Z" } : Jvm.MethodName)) ∈ TW := tw_in 897 (by decide +kernel) rfl
theorem tw_898 : (Jvm.Cond.selects "NineMaps$World" ({ cls := "NineMaps$World", name := "holds", desc := "(I)Z" } : Jvm.MethodName) ({ cls := "NineMaps$World", name := "holds", desc := "(I)Z" } : Jvm.MethodName)) ∈ TW := tw_in 898 (by decide +kernel) rfl
theorem tw_899 : (Jvm.Cond.code ({ cls := "NineMaps$World", name := "holds", desc := "(I)Z" } : Jvm.MethodName) prog_10_method_6_code (2 : Nat) (Option.some Jvm.ClassFile.FieldType.boolean)) ∈ TW := tw_in 899 (by decide +kernel) rfl
theorem tw_900 : (Jvm.Cond.methodLink "NineMaps" (170 : Nat) ({ cls := "NineMaps$World", name := "holds", desc := "(I)Z" } : Jvm.MethodName)) ∈ TW := tw_in 900 (by decide +kernel) rfl
theorem tw_905 : (Jvm.Cond.methodLink "NineMaps" (176 : Nat) ({ cls := "NineMaps$World", name := "places", desc := "()I" } : Jvm.MethodName)) ∈ TW := tw_in 905 (by decide +kernel) rfl
theorem tw_906 : (Jvm.Cond.instanceMethod ({ cls := "NineMaps$World", name := "places", desc := "()I" } : Jvm.MethodName)) ∈ TW := tw_in 906 (by decide +kernel) rfl
theorem tw_907 : (Jvm.Cond.selects "NineMaps$World" ({ cls := "NineMaps$World", name := "places", desc := "()I" } : Jvm.MethodName) ({ cls := "NineMaps$World", name := "places", desc := "()I" } : Jvm.MethodName)) ∈ TW := tw_in 907 (by decide +kernel) rfl
theorem tw_908 : (Jvm.Cond.code ({ cls := "NineMaps$World", name := "places", desc := "()I" } : Jvm.MethodName) prog_10_method_5_code (1 : Nat) (Option.some Jvm.ClassFile.FieldType.int)) ∈ TW := tw_in 908 (by decide +kernel) rfl
theorem tw_909 : (Jvm.Cond.methodLink "NineMaps" (180 : Nat) ({ cls := "NineMaps", name := "likeOnes", desc := "([II)I" } : Jvm.MethodName)) ∈ TW := tw_in 909 (by decide +kernel) rfl
theorem tw_911 : (Jvm.Cond.instanceMethod ({ cls := "NineMaps", name := "likeOnes", desc := "([II)I" } : Jvm.MethodName)) ∈ TW := tw_in 911 (by decide +kernel) rfl
theorem tw_912 : (Jvm.Cond.code ({ cls := "NineMaps", name := "likeOnes", desc := "([II)I" } : Jvm.MethodName) prog_1_method_15_code (5 : Nat) (Option.some Jvm.ClassFile.FieldType.int)) ∈ TW := tw_in 912 (by decide +kernel) rfl
theorem tw_921 : (Jvm.Cond.methodLink "NineMaps" (184 : Nat) ({ cls := "NineMaps$World", name := "goOn", desc := "([I)V" } : Jvm.MethodName)) ∈ TW := tw_in 921 (by decide +kernel) rfl
theorem tw_922 : (Jvm.Cond.instanceMethod ({ cls := "NineMaps$World", name := "goOn", desc := "([I)V" } : Jvm.MethodName)) ∈ TW := tw_in 922 (by decide +kernel) rfl
theorem tw_923 : (Jvm.Cond.selects "NineMaps$World" ({ cls := "NineMaps$World", name := "goOn", desc := "([I)V" } : Jvm.MethodName) ({ cls := "NineMaps$World", name := "goOn", desc := "([I)V" } : Jvm.MethodName)) ∈ TW := tw_in 923 (by decide +kernel) rfl
theorem tw_924 : (Jvm.Cond.code ({ cls := "NineMaps$World", name := "goOn", desc := "([I)V" } : Jvm.MethodName) prog_10_method_10_code (4 : Nat) (Option.none : Option Jvm.ClassFile.FieldType)) ∈ TW := tw_in 924 (by decide +kernel) rfl
theorem tw_925 : (Jvm.Cond.methodLink "NineMaps$World" (53 : Nat) ({ cls := "NineMaps$World", name := "nextSeed", desc := "(I)I" } : Jvm.MethodName)) ∈ TW := tw_in 925 (by decide +kernel) rfl
theorem tw_926 : (Jvm.Cond.methodLink "NineMaps$World" (57 : Nat) ({ cls := "NineMaps$World", name := "drawnPlace", desc := "(I)I" } : Jvm.MethodName)) ∈ TW := tw_in 926 (by decide +kernel) rfl
theorem tw_927 : (Jvm.Cond.methodLink "NineMaps$World" (60 : Nat) ({ cls := "NineMaps$World", name := "build", desc := "(I[II)V" } : Jvm.MethodName)) ∈ TW := tw_in 927 (by decide +kernel) rfl
theorem tw_929 : (Jvm.Cond.instanceMethod ({ cls := "NineMaps$World", name := "build", desc := "(I[II)V" } : Jvm.MethodName)) ∈ TW := tw_in 929 (by decide +kernel) rfl
theorem tw_930 : (Jvm.Cond.code ({ cls := "NineMaps$World", name := "build", desc := "(I[II)V" } : Jvm.MethodName) prog_10_method_11_code (8 : Nat) (Option.none : Option Jvm.ClassFile.FieldType)) ∈ TW := tw_in 930 (by decide +kernel) rfl
theorem tw_931 : (Jvm.Cond.methodLink "NineMaps$World" (64 : Nat) ({ cls := "NineMaps$World", name := "markFor", desc := "(I[IIII)I" } : Jvm.MethodName)) ∈ TW := tw_in 931 (by decide +kernel) rfl
theorem tw_936 : (Jvm.Cond.methodLink "NineMaps" (188 : Nat) ({ cls := "NineMaps", name := "surveyBehind", desc := "(III)V" } : Jvm.MethodName)) ∈ TW := tw_in 936 (by decide +kernel) rfl
theorem tw_938 : (Jvm.Cond.instanceMethod ({ cls := "NineMaps", name := "surveyBehind", desc := "(III)V" } : Jvm.MethodName)) ∈ TW := tw_in 938 (by decide +kernel) rfl
theorem tw_939 : (Jvm.Cond.code ({ cls := "NineMaps", name := "surveyBehind", desc := "(III)V" } : Jvm.MethodName) prog_1_method_19_code (4 : Nat) (Option.none : Option Jvm.ClassFile.FieldType)) ∈ TW := tw_in 939 (by decide +kernel) rfl
theorem tw_940 : (Jvm.Cond.methodLink "NineMaps" (198 : Nat) ({ cls := "NineMaps$Ground", name := "survey", desc := "(LNineMaps$World;I)V" } : Jvm.MethodName)) ∈ TW := tw_in 940 (by decide +kernel) rfl
theorem tw_941 : (Jvm.Cond.instanceMethod ({ cls := "NineMaps$Ground", name := "survey", desc := "(LNineMaps$World;I)V" } : Jvm.MethodName)) ∈ TW := tw_in 941 (by decide +kernel) rfl
theorem tw_942 : (Jvm.Cond.selects "NineMaps$Ground" ({ cls := "NineMaps$Ground", name := "survey", desc := "(LNineMaps$World;I)V" } : Jvm.MethodName) ({ cls := "NineMaps$Ground", name := "survey", desc := "(LNineMaps$World;I)V" } : Jvm.MethodName)) ∈ TW := tw_in 942 (by decide +kernel) rfl
theorem tw_943 : (Jvm.Cond.code ({ cls := "NineMaps$Ground", name := "survey", desc := "(LNineMaps$World;I)V" } : Jvm.MethodName) prog_4_method_2_code (4 : Nat) (Option.none : Option Jvm.ClassFile.FieldType)) ∈ TW := tw_in 943 (by decide +kernel) rfl
theorem tw_944 : (Jvm.Cond.methodLink "NineMaps$Ground" (32 : Nat) ({ cls := "NineMaps$World", name := "holds", desc := "(I)Z" } : Jvm.MethodName)) ∈ TW := tw_in 944 (by decide +kernel) rfl
theorem tw_945 : (Jvm.Cond.methodLink "NineMaps$Ground" (38 : Nat) ({ cls := "NineMaps$Ground", name := "areaFrom", desc := "(LNineMaps$World;I)I" } : Jvm.MethodName)) ∈ TW := tw_in 945 (by decide +kernel) rfl
theorem tw_947 : (Jvm.Cond.instanceMethod ({ cls := "NineMaps$Ground", name := "areaFrom", desc := "(LNineMaps$World;I)I" } : Jvm.MethodName)) ∈ TW := tw_in 947 (by decide +kernel) rfl
theorem tw_948 : (Jvm.Cond.code ({ cls := "NineMaps$Ground", name := "areaFrom", desc := "(LNineMaps$World;I)I" } : Jvm.MethodName) prog_4_method_3_code (7 : Nat) (Option.some Jvm.ClassFile.FieldType.int)) ∈ TW := tw_in 948 (by decide +kernel) rfl
theorem tw_949 : (Jvm.Cond.methodLink "NineMaps$Ground" (48 : Nat) ({ cls := "NineMaps$World", name := "beside", desc := "(II)I" } : Jvm.MethodName)) ∈ TW := tw_in 949 (by decide +kernel) rfl
theorem tw_950 : (Jvm.Cond.methodLink "NineMaps$Ground" (42 : Nat) ({ cls := "java/lang/Math", name := "max", desc := "(II)I" } : Jvm.MethodName)) ∈ TW := tw_in 950 (by decide +kernel) rfl
theorem tw_959 : (Jvm.Cond.constantLong "NineMaps" (202 : Nat) (10 : Int64)) ∈ TW := tw_in 959 (by decide +kernel) rfl
theorem tw_960 : (Jvm.Cond.methodLink "NineMaps" (204 : Nat) ({ cls := "NineMaps", name := "commonDivisor", desc := "(JJ)J" } : Jvm.MethodName)) ∈ TW := tw_in 960 (by decide +kernel) rfl
theorem tw_961 : (Jvm.Cond.static ({ cls := "NineMaps", name := "commonDivisor", desc := "(JJ)J" } : Jvm.MethodName)) ∈ TW := tw_in 961 (by decide +kernel) rfl
theorem tw_962 : (Jvm.Cond.code ({ cls := "NineMaps", name := "commonDivisor", desc := "(JJ)J" } : Jvm.MethodName) prog_1_method_21_code (11 : Nat) (Option.some Jvm.ClassFile.FieldType.long)) ∈ TW := tw_in 962 (by decide +kernel) rfl
theorem tw_967 : (Jvm.Cond.methodLink "NineMaps" (208 : Nat) ({ cls := "NineMaps$World", name := "sneezes", desc := "()Z" } : Jvm.MethodName)) ∈ TW := tw_in 967 (by decide +kernel) rfl
theorem tw_968 : (Jvm.Cond.methodLink "NineMaps" (211 : Nat) ({ cls := "NineMaps", name := "roundLength", desc := "()I" } : Jvm.MethodName)) ∈ TW := tw_in 968 (by decide +kernel) rfl
theorem tw_970 : (Jvm.Cond.instanceMethod ({ cls := "NineMaps", name := "roundLength", desc := "()I" } : Jvm.MethodName)) ∈ TW := tw_in 970 (by decide +kernel) rfl
theorem tw_971 : (Jvm.Cond.code ({ cls := "NineMaps", name := "roundLength", desc := "()I" } : Jvm.MethodName) prog_1_method_23_code (4 : Nat) (Option.some Jvm.ClassFile.FieldType.int)) ∈ TW := tw_in 971 (by decide +kernel) rfl
theorem tw_972 : (Jvm.Cond.methodLink "NineMaps" (217 : Nat) ({ cls := "NineMaps$World", name := "looksLike", desc := "(LNineMaps$World;)Z" } : Jvm.MethodName)) ∈ TW := tw_in 972 (by decide +kernel) rfl
theorem tw_973 : (Jvm.Cond.instanceMethod ({ cls := "NineMaps$World", name := "looksLike", desc := "(LNineMaps$World;)Z" } : Jvm.MethodName)) ∈ TW := tw_in 973 (by decide +kernel) rfl
theorem tw_974 : (Jvm.Cond.selects "NineMaps$World" ({ cls := "NineMaps$World", name := "looksLike", desc := "(LNineMaps$World;)Z" } : Jvm.MethodName) ({ cls := "NineMaps$World", name := "looksLike", desc := "(LNineMaps$World;)Z" } : Jvm.MethodName)) ∈ TW := tw_in 974 (by decide +kernel) rfl
theorem tw_975 : (Jvm.Cond.code ({ cls := "NineMaps$World", name := "looksLike", desc := "(LNineMaps$World;)Z" } : Jvm.MethodName) prog_10_method_9_code (3 : Nat) (Option.some Jvm.ClassFile.FieldType.boolean)) ∈ TW := tw_in 975 (by decide +kernel) rfl
theorem tw_976 : (Jvm.Cond.methodLink "NineMaps" (214 : Nat) ({ cls := "NineMaps", name := "roundBegin", desc := "(I)I" } : Jvm.MethodName)) ∈ TW := tw_in 976 (by decide +kernel) rfl
theorem tw_978 : (Jvm.Cond.instanceMethod ({ cls := "NineMaps", name := "roundBegin", desc := "(I)I" } : Jvm.MethodName)) ∈ TW := tw_in 978 (by decide +kernel) rfl
theorem tw_979 : (Jvm.Cond.code ({ cls := "NineMaps", name := "roundBegin", desc := "(I)I" } : Jvm.MethodName) prog_1_method_24_code (3 : Nat) (Option.some Jvm.ClassFile.FieldType.int)) ∈ TW := tw_in 979 (by decide +kernel) rfl
theorem tw_984 : (Jvm.Cond.methodLink "NineMaps" (221 : Nat) ({ cls := "NineMaps$Chain", name := "sourceOf", desc := "(I)I" } : Jvm.MethodName)) ∈ TW := tw_in 984 (by decide +kernel) rfl
theorem tw_985 : (Jvm.Cond.instanceMethod ({ cls := "NineMaps$Chain", name := "sourceOf", desc := "(I)I" } : Jvm.MethodName)) ∈ TW := tw_in 985 (by decide +kernel) rfl
theorem tw_986 : (Jvm.Cond.selects "NineMaps$Chain" ({ cls := "NineMaps$Chain", name := "sourceOf", desc := "(I)I" } : Jvm.MethodName) ({ cls := "NineMaps$Chain", name := "sourceOf", desc := "(I)I" } : Jvm.MethodName)) ∈ TW := tw_in 986 (by decide +kernel) rfl
theorem tw_987 : (Jvm.Cond.code ({ cls := "NineMaps$Chain", name := "sourceOf", desc := "(I)I" } : Jvm.MethodName) prog_2_method_14_code (4 : Nat) (Option.some Jvm.ClassFile.FieldType.int)) ∈ TW := tw_in 987 (by decide +kernel) rfl
theorem tw_988 : (Jvm.Cond.methodLink "NineMaps" (224 : Nat) ({ cls := "NineMaps$Chain", name := "beginTown", desc := "()I" } : Jvm.MethodName)) ∈ TW := tw_in 988 (by decide +kernel) rfl
theorem tw_989 : (Jvm.Cond.instanceMethod ({ cls := "NineMaps$Chain", name := "beginTown", desc := "()I" } : Jvm.MethodName)) ∈ TW := tw_in 989 (by decide +kernel) rfl
theorem tw_990 : (Jvm.Cond.selects "NineMaps$Chain" ({ cls := "NineMaps$Chain", name := "beginTown", desc := "()I" } : Jvm.MethodName) ({ cls := "NineMaps$Chain", name := "beginTown", desc := "()I" } : Jvm.MethodName)) ∈ TW := tw_in 990 (by decide +kernel) rfl
theorem tw_991 : (Jvm.Cond.code ({ cls := "NineMaps$Chain", name := "beginTown", desc := "()I" } : Jvm.MethodName) prog_2_method_11_code (1 : Nat) (Option.some Jvm.ClassFile.FieldType.int)) ∈ TW := tw_in 991 (by decide +kernel) rfl
theorem tw_992 : (Jvm.Cond.methodLink "NineMaps" (227 : Nat) ({ cls := "NineMaps", name := "outer", desc := "(I)I" } : Jvm.MethodName)) ∈ TW := tw_in 992 (by decide +kernel) rfl
theorem tw_993 : (Jvm.Cond.static ({ cls := "NineMaps", name := "outer", desc := "(I)I" } : Jvm.MethodName)) ∈ TW := tw_in 993 (by decide +kernel) rfl
theorem tw_994 : (Jvm.Cond.code ({ cls := "NineMaps", name := "outer", desc := "(I)I" } : Jvm.MethodName) prog_1_method_59_code (1 : Nat) (Option.some Jvm.ClassFile.FieldType.int)) ∈ TW := tw_in 994 (by decide +kernel) rfl
theorem tw_999 : (Jvm.Cond.methodLink "NineMaps" (230 : Nat) ({ cls := "NineMaps$World", name := "makeTrue", desc := "(I)V" } : Jvm.MethodName)) ∈ TW := tw_in 999 (by decide +kernel) rfl
theorem tw_1012 : (Jvm.Cond.methodLink "NineMaps" (233 : Nat) ({ cls := "NineMaps", name := "strokeRefusal", desc := "(IIIIII)I" } : Jvm.MethodName)) ∈ TW := tw_in 1012 (by decide +kernel) rfl
theorem tw_1014 : (Jvm.Cond.instanceMethod ({ cls := "NineMaps", name := "strokeRefusal", desc := "(IIIIII)I" } : Jvm.MethodName)) ∈ TW := tw_in 1014 (by decide +kernel) rfl
theorem tw_1015 : (Jvm.Cond.code ({ cls := "NineMaps", name := "strokeRefusal", desc := "(IIIIII)I" } : Jvm.MethodName) prog_1_method_31_code (7 : Nat) (Option.some Jvm.ClassFile.FieldType.int)) ∈ TW := tw_in 1015 (by decide +kernel) rfl
theorem tw_1016 : (Jvm.Cond.methodLink "NineMaps" (237 : Nat) ({ cls := "NineMaps$StrokeSearch", name := "fewest", desc := "(LNineMaps$World;IIIIII)I" } : Jvm.MethodName)) ∈ TW := tw_in 1016 (by decide +kernel) rfl
theorem tw_1017 : (Jvm.Cond.instanceMethod ({ cls := "NineMaps$StrokeSearch", name := "fewest", desc := "(LNineMaps$World;IIIIII)I" } : Jvm.MethodName)) ∈ TW := tw_in 1017 (by decide +kernel) rfl
theorem tw_1018 : (Jvm.Cond.selects "NineMaps$StrokeSearch" ({ cls := "NineMaps$StrokeSearch", name := "fewest", desc := "(LNineMaps$World;IIIIII)I" } : Jvm.MethodName) ({ cls := "NineMaps$StrokeSearch", name := "fewest", desc := "(LNineMaps$World;IIIIII)I" } : Jvm.MethodName)) ∈ TW := tw_in 1018 (by decide +kernel) rfl
theorem tw_1019 : (Jvm.Cond.code ({ cls := "NineMaps$StrokeSearch", name := "fewest", desc := "(LNineMaps$World;IIIIII)I" } : Jvm.MethodName) prog_8_method_2_code (9 : Nat) (Option.some Jvm.ClassFile.FieldType.int)) ∈ TW := tw_in 1019 (by decide +kernel) rfl
theorem tw_1020 : (Jvm.Cond.methodLink "NineMaps$StrokeSearch" (41 : Nat) ({ cls := "NineMaps$Chain", name := "markBehind", desc := "(LNineMaps$World;III)I" } : Jvm.MethodName)) ∈ TW := tw_in 1020 (by decide +kernel) rfl
theorem tw_1021 : (Jvm.Cond.methodLink "NineMaps$StrokeSearch" (47 : Nat) ({ cls := "NineMaps$Chain", name := "beginTown", desc := "()I" } : Jvm.MethodName)) ∈ TW := tw_in 1021 (by decide +kernel) rfl
theorem tw_1022 : (Jvm.Cond.methodLink "NineMaps$StrokeSearch" (51 : Nat) ({ cls := "NineMaps$StrokeSearch", name := "listOpen", desc := "(I)V" } : Jvm.MethodName)) ∈ TW := tw_in 1022 (by decide +kernel) rfl
theorem tw_1024 : (Jvm.Cond.instanceMethod ({ cls := "NineMaps$StrokeSearch", name := "listOpen", desc := "(I)V" } : Jvm.MethodName)) ∈ TW := tw_in 1024 (by decide +kernel) rfl
theorem tw_1025 : (Jvm.Cond.code ({ cls := "NineMaps$StrokeSearch", name := "listOpen", desc := "(I)V" } : Jvm.MethodName) prog_8_method_3_code (5 : Nat) (Option.none : Option Jvm.ClassFile.FieldType)) ∈ TW := tw_in 1025 (by decide +kernel) rfl
theorem tw_1026 : (Jvm.Cond.methodLink "NineMaps$StrokeSearch" (59 : Nat) ({ cls := "NineMaps$Chain", name := "matters", desc := "(I)Z" } : Jvm.MethodName)) ∈ TW := tw_in 1026 (by decide +kernel) rfl
theorem tw_1027 : (Jvm.Cond.instanceMethod ({ cls := "NineMaps$Chain", name := "matters", desc := "(I)Z" } : Jvm.MethodName)) ∈ TW := tw_in 1027 (by decide +kernel) rfl
theorem tw_1028 : (Jvm.Cond.selects "NineMaps$Chain" ({ cls := "NineMaps$Chain", name := "matters", desc := "(I)Z" } : Jvm.MethodName) ({ cls := "NineMaps$Chain", name := "matters", desc := "(I)Z" } : Jvm.MethodName)) ∈ TW := tw_in 1028 (by decide +kernel) rfl
theorem tw_1029 : (Jvm.Cond.code ({ cls := "NineMaps$Chain", name := "matters", desc := "(I)Z" } : Jvm.MethodName) prog_2_method_12_code (2 : Nat) (Option.some Jvm.ClassFile.FieldType.boolean)) ∈ TW := tw_in 1029 (by decide +kernel) rfl
theorem tw_1030 : (Jvm.Cond.methodLink "NineMaps$StrokeSearch" (63 : Nat) ({ cls := "NineMaps$Chain", name := "beginMark", desc := "(I)I" } : Jvm.MethodName)) ∈ TW := tw_in 1030 (by decide +kernel) rfl
theorem tw_1031 : (Jvm.Cond.instanceMethod ({ cls := "NineMaps$Chain", name := "beginMark", desc := "(I)I" } : Jvm.MethodName)) ∈ TW := tw_in 1031 (by decide +kernel) rfl
theorem tw_1032 : (Jvm.Cond.selects "NineMaps$Chain" ({ cls := "NineMaps$Chain", name := "beginMark", desc := "(I)I" } : Jvm.MethodName) ({ cls := "NineMaps$Chain", name := "beginMark", desc := "(I)I" } : Jvm.MethodName)) ∈ TW := tw_in 1032 (by decide +kernel) rfl
theorem tw_1033 : (Jvm.Cond.code ({ cls := "NineMaps$Chain", name := "beginMark", desc := "(I)I" } : Jvm.MethodName) prog_2_method_13_code (2 : Nat) (Option.some Jvm.ClassFile.FieldType.int)) ∈ TW := tw_in 1033 (by decide +kernel) rfl
theorem tw_1034 : (Jvm.Cond.methodLink "NineMaps$StrokeSearch" (55 : Nat) ({ cls := "NineMaps$StrokeSearch", name := "find", desc := "(IIII)Z" } : Jvm.MethodName)) ∈ TW := tw_in 1034 (by decide +kernel) rfl
theorem tw_1036 : (Jvm.Cond.instanceMethod ({ cls := "NineMaps$StrokeSearch", name := "find", desc := "(IIII)Z" } : Jvm.MethodName)) ∈ TW := tw_in 1036 (by decide +kernel) rfl
theorem tw_1037 : (Jvm.Cond.code ({ cls := "NineMaps$StrokeSearch", name := "find", desc := "(IIII)Z" } : Jvm.MethodName) prog_8_method_4_code (8 : Nat) (Option.some Jvm.ClassFile.FieldType.boolean)) ∈ TW := tw_in 1037 (by decide +kernel) rfl
theorem tw_1038 : (Jvm.Cond.methodLink "NineMaps$StrokeSearch" (67 : Nat) ({ cls := "NineMaps$Trials", name := "begin", desc := "()V" } : Jvm.MethodName)) ∈ TW := tw_in 1038 (by decide +kernel) rfl
theorem tw_1039 : (Jvm.Cond.instanceMethod ({ cls := "NineMaps$Trials", name := "begin", desc := "()V" } : Jvm.MethodName)) ∈ TW := tw_in 1039 (by decide +kernel) rfl
theorem tw_1040 : (Jvm.Cond.selects "NineMaps$Trials" ({ cls := "NineMaps$Trials", name := "begin", desc := "()V" } : Jvm.MethodName) ({ cls := "NineMaps$Trials", name := "begin", desc := "()V" } : Jvm.MethodName)) ∈ TW := tw_in 1040 (by decide +kernel) rfl
theorem tw_1041 : (Jvm.Cond.code ({ cls := "NineMaps$Trials", name := "begin", desc := "()V" } : Jvm.MethodName) prog_9_method_2_code (3 : Nat) (Option.none : Option Jvm.ClassFile.FieldType)) ∈ TW := tw_in 1041 (by decide +kernel) rfl
theorem tw_1042 : (Jvm.Cond.constantLong "NineMaps$Trials" (38 : Nat) (-1 : Int64)) ∈ TW := tw_in 1042 (by decide +kernel) rfl
theorem tw_1043 : (Jvm.Cond.methodLink "NineMaps$Trials" (40 : Nat) ({ cls := "NineMaps$Chain", name := "beginMark", desc := "(I)I" } : Jvm.MethodName)) ∈ TW := tw_in 1043 (by decide +kernel) rfl
theorem tw_1044 : (Jvm.Cond.methodLink "NineMaps$Trials" (44 : Nat) ({ cls := "NineMaps$Trials", name := "overlay", desc := "([JIJI)V" } : Jvm.MethodName)) ∈ TW := tw_in 1044 (by decide +kernel) rfl
theorem tw_1045 : (Jvm.Cond.static ({ cls := "NineMaps$Trials", name := "overlay", desc := "([JIJI)V" } : Jvm.MethodName)) ∈ TW := tw_in 1045 (by decide +kernel) rfl
theorem tw_1046 : (Jvm.Cond.code ({ cls := "NineMaps$Trials", name := "overlay", desc := "([JIJI)V" } : Jvm.MethodName) prog_9_method_9_code (7 : Nat) (Option.none : Option Jvm.ClassFile.FieldType)) ∈ TW := tw_in 1046 (by decide +kernel) rfl
theorem tw_1047 : (Jvm.Cond.methodLink "NineMaps$StrokeSearch" (70 : Nat) ({ cls := "NineMaps$StrokeSearch", name := "tryPick", desc := "(III)V" } : Jvm.MethodName)) ∈ TW := tw_in 1047 (by decide +kernel) rfl
theorem tw_1049 : (Jvm.Cond.instanceMethod ({ cls := "NineMaps$StrokeSearch", name := "tryPick", desc := "(III)V" } : Jvm.MethodName)) ∈ TW := tw_in 1049 (by decide +kernel) rfl
theorem tw_1050 : (Jvm.Cond.code ({ cls := "NineMaps$StrokeSearch", name := "tryPick", desc := "(III)V" } : Jvm.MethodName) prog_8_method_5_code (6 : Nat) (Option.none : Option Jvm.ClassFile.FieldType)) ∈ TW := tw_in 1050 (by decide +kernel) rfl
theorem tw_1051 : (Jvm.Cond.methodLink "NineMaps$StrokeSearch" (85 : Nat) ({ cls := "NineMaps$Trials", name := "put", desc := "(III)V" } : Jvm.MethodName)) ∈ TW := tw_in 1051 (by decide +kernel) rfl
theorem tw_1052 : (Jvm.Cond.instanceMethod ({ cls := "NineMaps$Trials", name := "put", desc := "(III)V" } : Jvm.MethodName)) ∈ TW := tw_in 1052 (by decide +kernel) rfl
theorem tw_1053 : (Jvm.Cond.selects "NineMaps$Trials" ({ cls := "NineMaps$Trials", name := "put", desc := "(III)V" } : Jvm.MethodName) ({ cls := "NineMaps$Trials", name := "put", desc := "(III)V" } : Jvm.MethodName)) ∈ TW := tw_in 1053 (by decide +kernel) rfl
theorem tw_1054 : (Jvm.Cond.code ({ cls := "NineMaps$Trials", name := "put", desc := "(III)V" } : Jvm.MethodName) prog_9_method_3_code (4 : Nat) (Option.none : Option Jvm.ClassFile.FieldType)) ∈ TW := tw_in 1054 (by decide +kernel) rfl
theorem tw_1055 : (Jvm.Cond.methodLink "NineMaps$StrokeSearch" (74 : Nat) ({ cls := "NineMaps$StrokeSearch", name := "goToNextPick", desc := "(I)Z" } : Jvm.MethodName)) ∈ TW := tw_in 1055 (by decide +kernel) rfl
theorem tw_1057 : (Jvm.Cond.instanceMethod ({ cls := "NineMaps$StrokeSearch", name := "goToNextPick", desc := "(I)Z" } : Jvm.MethodName)) ∈ TW := tw_in 1057 (by decide +kernel) rfl
theorem tw_1058 : (Jvm.Cond.code ({ cls := "NineMaps$StrokeSearch", name := "goToNextPick", desc := "(I)Z" } : Jvm.MethodName) prog_8_method_6_code (4 : Nat) (Option.some Jvm.ClassFile.FieldType.boolean)) ∈ TW := tw_in 1058 (by decide +kernel) rfl
theorem tw_1059 : (Jvm.Cond.methodLink "NineMaps$StrokeSearch" (77 : Nat) ({ cls := "NineMaps$Trials", name := "having", desc := "(II)J" } : Jvm.MethodName)) ∈ TW := tw_in 1059 (by decide +kernel) rfl
theorem tw_1060 : (Jvm.Cond.instanceMethod ({ cls := "NineMaps$Trials", name := "having", desc := "(II)J" } : Jvm.MethodName)) ∈ TW := tw_in 1060 (by decide +kernel) rfl
theorem tw_1061 : (Jvm.Cond.selects "NineMaps$Trials" ({ cls := "NineMaps$Trials", name := "having", desc := "(II)J" } : Jvm.MethodName) ({ cls := "NineMaps$Trials", name := "having", desc := "(II)J" } : Jvm.MethodName)) ∈ TW := tw_in 1061 (by decide +kernel) rfl
theorem tw_1062 : (Jvm.Cond.code ({ cls := "NineMaps$Trials", name := "having", desc := "(II)J" } : Jvm.MethodName) prog_9_method_4_code (5 : Nat) (Option.some Jvm.ClassFile.FieldType.long)) ∈ TW := tw_in 1062 (by decide +kernel) rfl
theorem tw_1063 : (Jvm.Cond.methodLink "NineMaps$Trials" (51 : Nat) ({ cls := "NineMaps$Trials", name := "build", desc := "(I)V" } : Jvm.MethodName)) ∈ TW := tw_in 1063 (by decide +kernel) rfl
theorem tw_1065 : (Jvm.Cond.instanceMethod ({ cls := "NineMaps$Trials", name := "build", desc := "(I)V" } : Jvm.MethodName)) ∈ TW := tw_in 1065 (by decide +kernel) rfl
theorem tw_1066 : (Jvm.Cond.code ({ cls := "NineMaps$Trials", name := "build", desc := "(I)V" } : Jvm.MethodName) prog_9_method_5_code (9 : Nat) (Option.none : Option Jvm.ClassFile.FieldType)) ∈ TW := tw_in 1066 (by decide +kernel) rfl
theorem tw_1067 : (Jvm.Cond.methodLink "NineMaps$Trials" (71 : Nat) ({ cls := "NineMaps$Trials", name := "listStained", desc := "(II)V" } : Jvm.MethodName)) ∈ TW := tw_in 1067 (by decide +kernel) rfl
theorem tw_1069 : (Jvm.Cond.instanceMethod ({ cls := "NineMaps$Trials", name := "listStained", desc := "(II)V" } : Jvm.MethodName)) ∈ TW := tw_in 1069 (by decide +kernel) rfl
theorem tw_1070 : (Jvm.Cond.code ({ cls := "NineMaps$Trials", name := "listStained", desc := "(II)V" } : Jvm.MethodName) prog_9_method_6_code (5 : Nat) (Option.none : Option Jvm.ClassFile.FieldType)) ∈ TW := tw_in 1070 (by decide +kernel) rfl
theorem tw_1071 : (Jvm.Cond.methodLink "NineMaps$Trials" (55 : Nat) ({ cls := "NineMaps$Trials", name := "with", desc := "(II)J" } : Jvm.MethodName)) ∈ TW := tw_in 1071 (by decide +kernel) rfl
theorem tw_1073 : (Jvm.Cond.instanceMethod ({ cls := "NineMaps$Trials", name := "with", desc := "(II)J" } : Jvm.MethodName)) ∈ TW := tw_in 1073 (by decide +kernel) rfl
theorem tw_1074 : (Jvm.Cond.code ({ cls := "NineMaps$Trials", name := "with", desc := "(II)J" } : Jvm.MethodName) prog_9_method_8_code (8 : Nat) (Option.some Jvm.ClassFile.FieldType.long)) ∈ TW := tw_in 1074 (by decide +kernel) rfl
theorem tw_1075 : (Jvm.Cond.methodLink "NineMaps$Trials" (75 : Nat) ({ cls := "NineMaps$Chain", name := "source", desc := "(II)I" } : Jvm.MethodName)) ∈ TW := tw_in 1075 (by decide +kernel) rfl
theorem tw_1076 : (Jvm.Cond.methodLink "NineMaps$Trials" (79 : Nat) ({ cls := "java/lang/System", name := "arraycopy", desc := "(Ljava/lang/Object;ILjava/lang/Object;II)V" } : Jvm.MethodName)) ∈ TW := tw_in 1076 (by decide +kernel) rfl
theorem tw_1077 : (Jvm.Cond.methodLink "NineMaps$Trials" (85 : Nat) ({ cls := "NineMaps$Trials", name := "stainedAt", desc := "(I)J" } : Jvm.MethodName)) ∈ TW := tw_in 1077 (by decide +kernel) rfl
theorem tw_1079 : (Jvm.Cond.instanceMethod ({ cls := "NineMaps$Trials", name := "stainedAt", desc := "(I)J" } : Jvm.MethodName)) ∈ TW := tw_in 1079 (by decide +kernel) rfl
theorem tw_1080 : (Jvm.Cond.code ({ cls := "NineMaps$Trials", name := "stainedAt", desc := "(I)J" } : Jvm.MethodName) prog_9_method_7_code (6 : Nat) (Option.some Jvm.ClassFile.FieldType.long)) ∈ TW := tw_in 1080 (by decide +kernel) rfl
theorem tw_1081 : (Jvm.Cond.methodLink "NineMaps$Trials" (89 : Nat) ({ cls := "NineMaps$World", name := "beside", desc := "(II)I" } : Jvm.MethodName)) ∈ TW := tw_in 1081 (by decide +kernel) rfl
theorem tw_1082 : (Jvm.Cond.methodLink "NineMaps$StrokeSearch" (81 : Nat) ({ cls := "NineMaps$StrokeSearch", name := "takeFirst", desc := "(JI)Z" } : Jvm.MethodName)) ∈ TW := tw_in 1082 (by decide +kernel) rfl
theorem tw_1084 : (Jvm.Cond.instanceMethod ({ cls := "NineMaps$StrokeSearch", name := "takeFirst", desc := "(JI)Z" } : Jvm.MethodName)) ∈ TW := tw_in 1084 (by decide +kernel) rfl
theorem tw_1085 : (Jvm.Cond.code ({ cls := "NineMaps$StrokeSearch", name := "takeFirst", desc := "(JI)Z" } : Jvm.MethodName) prog_8_method_7_code (5 : Nat) (Option.some Jvm.ClassFile.FieldType.boolean)) ∈ TW := tw_in 1085 (by decide +kernel) rfl
theorem tw_1086 : (Jvm.Cond.methodLink "NineMaps$StrokeSearch" (88 : Nat) ({ cls := "java/lang/System", name := "arraycopy", desc := "(Ljava/lang/Object;ILjava/lang/Object;II)V" } : Jvm.MethodName)) ∈ TW := tw_in 1086 (by decide +kernel) rfl
theorem tw_1095 : (Jvm.Cond.methodLink "NineMaps" (244 : Nat) ({ cls := "java/lang/System", name := "arraycopy", desc := "(Ljava/lang/Object;ILjava/lang/Object;II)V" } : Jvm.MethodName)) ∈ TW := tw_in 1095 (by decide +kernel) rfl
theorem tw_1096 : (Jvm.Cond.methodLink "NineMaps" (250 : Nat) ({ cls := "NineMaps$Ground", name := "leastInk", desc := "(LNineMaps$World;II)I" } : Jvm.MethodName)) ∈ TW := tw_in 1096 (by decide +kernel) rfl
theorem tw_1097 : (Jvm.Cond.instanceMethod ({ cls := "NineMaps$Ground", name := "leastInk", desc := "(LNineMaps$World;II)I" } : Jvm.MethodName)) ∈ TW := tw_in 1097 (by decide +kernel) rfl
theorem tw_1098 : (Jvm.Cond.selects "NineMaps$Ground" ({ cls := "NineMaps$Ground", name := "leastInk", desc := "(LNineMaps$World;II)I" } : Jvm.MethodName) ({ cls := "NineMaps$Ground", name := "leastInk", desc := "(LNineMaps$World;II)I" } : Jvm.MethodName)) ∈ TW := tw_in 1098 (by decide +kernel) rfl
theorem tw_1099 : (Jvm.Cond.code ({ cls := "NineMaps$Ground", name := "leastInk", desc := "(LNineMaps$World;II)I" } : Jvm.MethodName) prog_4_method_4_code (8 : Nat) (Option.some Jvm.ClassFile.FieldType.int)) ∈ TW := tw_in 1099 (by decide +kernel) rfl
theorem tw_1100 : (Jvm.Cond.methodLink "NineMaps$Ground" (51 : Nat) ({ cls := "java/util/Arrays", name := "fill", desc := "([II)V" } : Jvm.MethodName)) ∈ TW := tw_in 1100 (by decide +kernel) rfl
theorem tw_1101 : (Jvm.Cond.methodLink "NineMaps$Ground" (57 : Nat) ({ cls := "NineMaps$Ground", name := "wayBy", desc := "(LNineMaps$World;II)I" } : Jvm.MethodName)) ∈ TW := tw_in 1101 (by decide +kernel) rfl
theorem tw_1103 : (Jvm.Cond.instanceMethod ({ cls := "NineMaps$Ground", name := "wayBy", desc := "(LNineMaps$World;II)I" } : Jvm.MethodName)) ∈ TW := tw_in 1103 (by decide +kernel) rfl
theorem tw_1104 : (Jvm.Cond.code ({ cls := "NineMaps$Ground", name := "wayBy", desc := "(LNineMaps$World;II)I" } : Jvm.MethodName) prog_4_method_5_code (7 : Nat) (Option.some Jvm.ClassFile.FieldType.int)) ∈ TW := tw_in 1104 (by decide +kernel) rfl
theorem tw_1105 : (Jvm.Cond.methodLink "NineMaps$Ground" (61 : Nat) ({ cls := "NineMaps$World", name := "isEdge", desc := "(I)Z" } : Jvm.MethodName)) ∈ TW := tw_in 1105 (by decide +kernel) rfl
theorem tw_1106 : (Jvm.Cond.instanceMethod ({ cls := "NineMaps$World", name := "isEdge", desc := "(I)Z" } : Jvm.MethodName)) ∈ TW := tw_in 1106 (by decide +kernel) rfl
theorem tw_1107 : (Jvm.Cond.selects "NineMaps$World" ({ cls := "NineMaps$World", name := "isEdge", desc := "(I)Z" } : Jvm.MethodName) ({ cls := "NineMaps$World", name := "isEdge", desc := "(I)Z" } : Jvm.MethodName)) ∈ TW := tw_in 1107 (by decide +kernel) rfl
theorem tw_1108 : (Jvm.Cond.code ({ cls := "NineMaps$World", name := "isEdge", desc := "(I)Z" } : Jvm.MethodName) prog_10_method_19_code (4 : Nat) (Option.some Jvm.ClassFile.FieldType.boolean)) ∈ TW := tw_in 1108 (by decide +kernel) rfl
theorem tw_1109 : (Jvm.Cond.methodLink "NineMaps$Ground" (64 : Nat) ({ cls := "java/lang/Math", name := "min", desc := "(II)I" } : Jvm.MethodName)) ∈ TW := tw_in 1109 (by decide +kernel) rfl
theorem tw_1114 : (Jvm.Cond.methodLink "NineMaps" (254 : Nat) ({ cls := "NineMaps$FitSearch", name := "firstNotSo", desc := "(LNineMaps$Ring;LNineMaps$World;)I" } : Jvm.MethodName)) ∈ TW := tw_in 1114 (by decide +kernel) rfl
theorem tw_1115 : (Jvm.Cond.instanceMethod ({ cls := "NineMaps$FitSearch", name := "firstNotSo", desc := "(LNineMaps$Ring;LNineMaps$World;)I" } : Jvm.MethodName)) ∈ TW := tw_in 1115 (by decide +kernel) rfl
theorem tw_1116 : (Jvm.Cond.selects "NineMaps$FitSearch" ({ cls := "NineMaps$FitSearch", name := "firstNotSo", desc := "(LNineMaps$Ring;LNineMaps$World;)I" } : Jvm.MethodName) ({ cls := "NineMaps$FitSearch", name := "firstNotSo", desc := "(LNineMaps$Ring;LNineMaps$World;)I" } : Jvm.MethodName)) ∈ TW := tw_in 1116 (by decide +kernel) rfl
theorem tw_1117 : (Jvm.Cond.code ({ cls := "NineMaps$FitSearch", name := "firstNotSo", desc := "(LNineMaps$Ring;LNineMaps$World;)I" } : Jvm.MethodName) prog_3_method_2_code (5 : Nat) (Option.some Jvm.ClassFile.FieldType.int)) ∈ TW := tw_in 1117 (by decide +kernel) rfl
theorem tw_1118 : (Jvm.Cond.methodLink "NineMaps$FitSearch" (41 : Nat) ({ cls := "NineMaps$Chain", name := "markBehind", desc := "(LNineMaps$World;III)I" } : Jvm.MethodName)) ∈ TW := tw_in 1118 (by decide +kernel) rfl
theorem tw_1123 : (Jvm.Cond.methodLink "NineMaps" (258 : Nat) ({ cls := "NineMaps", name := "fitRefusal", desc := "()I" } : Jvm.MethodName)) ∈ TW := tw_in 1123 (by decide +kernel) rfl
theorem tw_1125 : (Jvm.Cond.instanceMethod ({ cls := "NineMaps", name := "fitRefusal", desc := "()I" } : Jvm.MethodName)) ∈ TW := tw_in 1125 (by decide +kernel) rfl
theorem tw_1126 : (Jvm.Cond.code ({ cls := "NineMaps", name := "fitRefusal", desc := "()I" } : Jvm.MethodName) prog_1_method_37_code (1 : Nat) (Option.some Jvm.ClassFile.FieldType.int)) ∈ TW := tw_in 1126 (by decide +kernel) rfl
theorem tw_1127 : (Jvm.Cond.methodLink "NineMaps" (280 : Nat) ({ cls := "NineMaps$Ring", name := "unknownCount", desc := "()I" } : Jvm.MethodName)) ∈ TW := tw_in 1127 (by decide +kernel) rfl
theorem tw_1128 : (Jvm.Cond.methodLink "NineMaps" (261 : Nat) ({ cls := "NineMaps$FitSearch", name := "find", desc := "(LNineMaps$Ring;LNineMaps$World;)V" } : Jvm.MethodName)) ∈ TW := tw_in 1128 (by decide +kernel) rfl
theorem tw_1129 : (Jvm.Cond.instanceMethod ({ cls := "NineMaps$FitSearch", name := "find", desc := "(LNineMaps$Ring;LNineMaps$World;)V" } : Jvm.MethodName)) ∈ TW := tw_in 1129 (by decide +kernel) rfl
theorem tw_1130 : (Jvm.Cond.selects "NineMaps$FitSearch" ({ cls := "NineMaps$FitSearch", name := "find", desc := "(LNineMaps$Ring;LNineMaps$World;)V" } : Jvm.MethodName) ({ cls := "NineMaps$FitSearch", name := "find", desc := "(LNineMaps$Ring;LNineMaps$World;)V" } : Jvm.MethodName)) ∈ TW := tw_in 1130 (by decide +kernel) rfl
theorem tw_1131 : (Jvm.Cond.code ({ cls := "NineMaps$FitSearch", name := "find", desc := "(LNineMaps$Ring;LNineMaps$World;)V" } : Jvm.MethodName) prog_3_method_3_code (5 : Nat) (Option.none : Option Jvm.ClassFile.FieldType)) ∈ TW := tw_in 1131 (by decide +kernel) rfl
theorem tw_1132 : (Jvm.Cond.methodLink "NineMaps$FitSearch" (50 : Nat) ({ cls := "NineMaps$Ring", name := "unknownCount", desc := "()I" } : Jvm.MethodName)) ∈ TW := tw_in 1132 (by decide +kernel) rfl
theorem tw_1133 : (Jvm.Cond.methodLink "NineMaps$FitSearch" (54 : Nat) ({ cls := "NineMaps$FitSearch", name := "weight", desc := "(LNineMaps$Ring;I)I" } : Jvm.MethodName)) ∈ TW := tw_in 1133 (by decide +kernel) rfl
theorem tw_1134 : (Jvm.Cond.static ({ cls := "NineMaps$FitSearch", name := "weight", desc := "(LNineMaps$Ring;I)I" } : Jvm.MethodName)) ∈ TW := tw_in 1134 (by decide +kernel) rfl
theorem tw_1135 : (Jvm.Cond.code ({ cls := "NineMaps$FitSearch", name := "weight", desc := "(LNineMaps$Ring;I)I" } : Jvm.MethodName) prog_3_method_4_code (4 : Nat) (Option.some Jvm.ClassFile.FieldType.int)) ∈ TW := tw_in 1135 (by decide +kernel) rfl
theorem tw_1136 : (Jvm.Cond.methodLink "NineMaps$FitSearch" (62 : Nat) ({ cls := "NineMaps$World", name := "become", desc := "(LNineMaps$World;)V" } : Jvm.MethodName)) ∈ TW := tw_in 1136 (by decide +kernel) rfl
theorem tw_1137 : (Jvm.Cond.methodLink "NineMaps$FitSearch" (68 : Nat) ({ cls := "NineMaps$FitSearch", name := "setGuesses", desc := "(LNineMaps$Ring;LNineMaps$World;I)V" } : Jvm.MethodName)) ∈ TW := tw_in 1137 (by decide +kernel) rfl
theorem tw_1139 : (Jvm.Cond.instanceMethod ({ cls := "NineMaps$FitSearch", name := "setGuesses", desc := "(LNineMaps$Ring;LNineMaps$World;I)V" } : Jvm.MethodName)) ∈ TW := tw_in 1139 (by decide +kernel) rfl
theorem tw_1140 : (Jvm.Cond.code ({ cls := "NineMaps$FitSearch", name := "setGuesses", desc := "(LNineMaps$Ring;LNineMaps$World;I)V" } : Jvm.MethodName) prog_3_method_5_code (7 : Nat) (Option.none : Option Jvm.ClassFile.FieldType)) ∈ TW := tw_in 1140 (by decide +kernel) rfl
theorem tw_1141 : (Jvm.Cond.methodLink "NineMaps$FitSearch" (82 : Nat) ({ cls := "NineMaps$Ring", name := "isUnknown", desc := "(I)Z" } : Jvm.MethodName)) ∈ TW := tw_in 1141 (by decide +kernel) rfl
theorem tw_1142 : (Jvm.Cond.methodLink "NineMaps$FitSearch" (86 : Nat) ({ cls := "NineMaps$FitSearch", name := "guessIn", desc := "(LNineMaps$Ring;II)I" } : Jvm.MethodName)) ∈ TW := tw_in 1142 (by decide +kernel) rfl
theorem tw_1143 : (Jvm.Cond.instanceMethod ({ cls := "NineMaps$FitSearch", name := "guessIn", desc := "(LNineMaps$Ring;II)I" } : Jvm.MethodName)) ∈ TW := tw_in 1143 (by decide +kernel) rfl
theorem tw_1144 : (Jvm.Cond.selects "NineMaps$FitSearch" ({ cls := "NineMaps$FitSearch", name := "guessIn", desc := "(LNineMaps$Ring;II)I" } : Jvm.MethodName) ({ cls := "NineMaps$FitSearch", name := "guessIn", desc := "(LNineMaps$Ring;II)I" } : Jvm.MethodName)) ∈ TW := tw_in 1144 (by decide +kernel) rfl
theorem tw_1145 : (Jvm.Cond.code ({ cls := "NineMaps$FitSearch", name := "guessIn", desc := "(LNineMaps$Ring;II)I" } : Jvm.MethodName) prog_3_method_6_code (5 : Nat) (Option.some Jvm.ClassFile.FieldType.int)) ∈ TW := tw_in 1145 (by decide +kernel) rfl
theorem tw_1146 : (Jvm.Cond.methodLink "NineMaps$FitSearch" (96 : Nat) ({ cls := "java/lang/System", name := "arraycopy", desc := "(Ljava/lang/Object;ILjava/lang/Object;II)V" } : Jvm.MethodName)) ∈ TW := tw_in 1146 (by decide +kernel) rfl
theorem tw_1147 : (Jvm.Cond.methodLink "NineMaps$FitSearch" (72 : Nat) ({ cls := "NineMaps$FitSearch", name := "firstNotSo", desc := "(LNineMaps$Ring;LNineMaps$World;)I" } : Jvm.MethodName)) ∈ TW := tw_in 1147 (by decide +kernel) rfl
theorem tw_1152 : (Jvm.Cond.methodLink "NineMaps" (266 : Nat) ({ cls := "NineMaps$Ring", name := "unknownNumber", desc := "(I)I" } : Jvm.MethodName)) ∈ TW := tw_in 1152 (by decide +kernel) rfl
theorem tw_1153 : (Jvm.Cond.instanceMethod ({ cls := "NineMaps$Ring", name := "unknownNumber", desc := "(I)I" } : Jvm.MethodName)) ∈ TW := tw_in 1153 (by decide +kernel) rfl
theorem tw_1154 : (Jvm.Cond.selects "NineMaps$Ring" ({ cls := "NineMaps$Ring", name := "unknownNumber", desc := "(I)I" } : Jvm.MethodName) ({ cls := "NineMaps$Ring", name := "unknownNumber", desc := "(I)I" } : Jvm.MethodName)) ∈ TW := tw_in 1154 (by decide +kernel) rfl
theorem tw_1155 : (Jvm.Cond.code ({ cls := "NineMaps$Ring", name := "unknownNumber", desc := "(I)I" } : Jvm.MethodName) prog_7_method_6_code (2 : Nat) (Option.some Jvm.ClassFile.FieldType.int)) ∈ TW := tw_in 1155 (by decide +kernel) rfl
theorem tw_1156 : (Jvm.Cond.methodLink "NineMaps" (272 : Nat) ({ cls := "NineMaps$FitSearch", name := "guessIn", desc := "(LNineMaps$Ring;II)I" } : Jvm.MethodName)) ∈ TW := tw_in 1156 (by decide +kernel) rfl
theorem tw_1161 : (Jvm.Cond.methodLink "NineMaps" (276 : Nat) ({ cls := "NineMaps$FitSearch", name := "sureGuess", desc := "(LNineMaps$Ring;I)I" } : Jvm.MethodName)) ∈ TW := tw_in 1161 (by decide +kernel) rfl
theorem tw_1162 : (Jvm.Cond.instanceMethod ({ cls := "NineMaps$FitSearch", name := "sureGuess", desc := "(LNineMaps$Ring;I)I" } : Jvm.MethodName)) ∈ TW := tw_in 1162 (by decide +kernel) rfl
theorem tw_1163 : (Jvm.Cond.selects "NineMaps$FitSearch" ({ cls := "NineMaps$FitSearch", name := "sureGuess", desc := "(LNineMaps$Ring;I)I" } : Jvm.MethodName) ({ cls := "NineMaps$FitSearch", name := "sureGuess", desc := "(LNineMaps$Ring;I)I" } : Jvm.MethodName)) ∈ TW := tw_in 1163 (by decide +kernel) rfl
theorem tw_1164 : (Jvm.Cond.code ({ cls := "NineMaps$FitSearch", name := "sureGuess", desc := "(LNineMaps$Ring;I)I" } : Jvm.MethodName) prog_3_method_7_code (5 : Nat) (Option.some Jvm.ClassFile.FieldType.int)) ∈ TW := tw_in 1164 (by decide +kernel) rfl
theorem tw_1169 : (Jvm.Cond.methodLink "NineMaps" (286 : Nat) ({ cls := "NineMaps$Past", name := "remember", desc := "(LNineMaps$World;)V" } : Jvm.MethodName)) ∈ TW := tw_in 1169 (by decide +kernel) rfl
theorem tw_1170 : (Jvm.Cond.instanceMethod ({ cls := "NineMaps$Past", name := "remember", desc := "(LNineMaps$World;)V" } : Jvm.MethodName)) ∈ TW := tw_in 1170 (by decide +kernel) rfl
theorem tw_1171 : (Jvm.Cond.selects "NineMaps$Past" ({ cls := "NineMaps$Past", name := "remember", desc := "(LNineMaps$World;)V" } : Jvm.MethodName) ({ cls := "NineMaps$Past", name := "remember", desc := "(LNineMaps$World;)V" } : Jvm.MethodName)) ∈ TW := tw_in 1171 (by decide +kernel) rfl
theorem tw_1172 : (Jvm.Cond.code ({ cls := "NineMaps$Past", name := "remember", desc := "(LNineMaps$World;)V" } : Jvm.MethodName) prog_5_method_3_code (2 : Nat) (Option.none : Option Jvm.ClassFile.FieldType)) ∈ TW := tw_in 1172 (by decide +kernel) rfl
theorem tw_1173 : (Jvm.Cond.methodLink "NineMaps$Past" (28 : Nat) ({ cls := "NineMaps$Past", name := "forgetOldest", desc := "()V" } : Jvm.MethodName)) ∈ TW := tw_in 1173 (by decide +kernel) rfl
theorem tw_1175 : (Jvm.Cond.instanceMethod ({ cls := "NineMaps$Past", name := "forgetOldest", desc := "()V" } : Jvm.MethodName)) ∈ TW := tw_in 1175 (by decide +kernel) rfl
theorem tw_1176 : (Jvm.Cond.code ({ cls := "NineMaps$Past", name := "forgetOldest", desc := "()V" } : Jvm.MethodName) prog_5_method_4_code (3 : Nat) (Option.none : Option Jvm.ClassFile.FieldType)) ∈ TW := tw_in 1176 (by decide +kernel) rfl
theorem tw_1177 : (Jvm.Cond.methodLink "NineMaps$Past" (31 : Nat) ({ cls := "NineMaps$World", name := "become", desc := "(LNineMaps$World;)V" } : Jvm.MethodName)) ∈ TW := tw_in 1177 (by decide +kernel) rfl
theorem tw_1182 : (Jvm.Cond.methodLink "NineMaps" (292 : Nat) ({ cls := "NineMaps", name := "denied", desc := "(I)Z" } : Jvm.MethodName)) ∈ TW := tw_in 1182 (by decide +kernel) rfl
theorem tw_1184 : (Jvm.Cond.instanceMethod ({ cls := "NineMaps", name := "denied", desc := "(I)Z" } : Jvm.MethodName)) ∈ TW := tw_in 1184 (by decide +kernel) rfl
theorem tw_1185 : (Jvm.Cond.code ({ cls := "NineMaps", name := "denied", desc := "(I)Z" } : Jvm.MethodName) prog_1_method_52_code (2 : Nat) (Option.some Jvm.ClassFile.FieldType.boolean)) ∈ TW := tw_in 1185 (by decide +kernel) rfl
theorem tw_1186 : (Jvm.Cond.methodLink "NineMaps" (295 : Nat) ({ cls := "NineMaps", name := "granted", desc := "()Z" } : Jvm.MethodName)) ∈ TW := tw_in 1186 (by decide +kernel) rfl
theorem tw_1188 : (Jvm.Cond.instanceMethod ({ cls := "NineMaps", name := "granted", desc := "()Z" } : Jvm.MethodName)) ∈ TW := tw_in 1188 (by decide +kernel) rfl
theorem tw_1189 : (Jvm.Cond.code ({ cls := "NineMaps", name := "granted", desc := "()Z" } : Jvm.MethodName) prog_1_method_53_code (1 : Nat) (Option.some Jvm.ClassFile.FieldType.boolean)) ∈ TW := tw_in 1189 (by decide +kernel) rfl
theorem tw_1202 : (Jvm.Cond.constant "NineMaps" (298 : Nat) (65537 : Int32)) ∈ TW := tw_in 1202 (by decide +kernel) rfl
theorem tw_1207 : (Jvm.Cond.methodLink "NineMaps" (305 : Nat) ({ cls := "NineMaps$Past", name := "recall", desc := "(LNineMaps$World;)V" } : Jvm.MethodName)) ∈ TW := tw_in 1207 (by decide +kernel) rfl
theorem tw_1208 : (Jvm.Cond.instanceMethod ({ cls := "NineMaps$Past", name := "recall", desc := "(LNineMaps$World;)V" } : Jvm.MethodName)) ∈ TW := tw_in 1208 (by decide +kernel) rfl
theorem tw_1209 : (Jvm.Cond.selects "NineMaps$Past" ({ cls := "NineMaps$Past", name := "recall", desc := "(LNineMaps$World;)V" } : Jvm.MethodName) ({ cls := "NineMaps$Past", name := "recall", desc := "(LNineMaps$World;)V" } : Jvm.MethodName)) ∈ TW := tw_in 1209 (by decide +kernel) rfl
theorem tw_1210 : (Jvm.Cond.code ({ cls := "NineMaps$Past", name := "recall", desc := "(LNineMaps$World;)V" } : Jvm.MethodName) prog_5_method_5_code (2 : Nat) (Option.none : Option Jvm.ClassFile.FieldType)) ∈ TW := tw_in 1210 (by decide +kernel) rfl
theorem tw_1215 : (Jvm.Cond.methodLink "NineMaps" (311 : Nat) ({ cls := "NineMaps$Past", name := "hold", desc := "(LNineMaps$World;)I" } : Jvm.MethodName)) ∈ TW := tw_in 1215 (by decide +kernel) rfl
theorem tw_1216 : (Jvm.Cond.instanceMethod ({ cls := "NineMaps$Past", name := "hold", desc := "(LNineMaps$World;)I" } : Jvm.MethodName)) ∈ TW := tw_in 1216 (by decide +kernel) rfl
theorem tw_1217 : (Jvm.Cond.selects "NineMaps$Past" ({ cls := "NineMaps$Past", name := "hold", desc := "(LNineMaps$World;)I" } : Jvm.MethodName) ({ cls := "NineMaps$Past", name := "hold", desc := "(LNineMaps$World;)I" } : Jvm.MethodName)) ∈ TW := tw_in 1217 (by decide +kernel) rfl
theorem tw_1218 : (Jvm.Cond.code ({ cls := "NineMaps$Past", name := "hold", desc := "(LNineMaps$World;)I" } : Jvm.MethodName) prog_5_method_6_code (2 : Nat) (Option.some Jvm.ClassFile.FieldType.int)) ∈ TW := tw_in 1218 (by decide +kernel) rfl
theorem tw_1227 : (Jvm.Cond.methodLink "NineMaps" (334 : Nat) ({ cls := "NineMaps$World", name := "copyingTowns", desc := "()I" } : Jvm.MethodName)) ∈ TW := tw_in 1227 (by decide +kernel) rfl
theorem tw_1228 : (Jvm.Cond.instanceMethod ({ cls := "NineMaps$World", name := "copyingTowns", desc := "()I" } : Jvm.MethodName)) ∈ TW := tw_in 1228 (by decide +kernel) rfl
theorem tw_1229 : (Jvm.Cond.selects "NineMaps$World" ({ cls := "NineMaps$World", name := "copyingTowns", desc := "()I" } : Jvm.MethodName) ({ cls := "NineMaps$World", name := "copyingTowns", desc := "()I" } : Jvm.MethodName)) ∈ TW := tw_in 1229 (by decide +kernel) rfl
theorem tw_1230 : (Jvm.Cond.code ({ cls := "NineMaps$World", name := "copyingTowns", desc := "()I" } : Jvm.MethodName) prog_10_method_7_code (3 : Nat) (Option.some Jvm.ClassFile.FieldType.int)) ∈ TW := tw_in 1230 (by decide +kernel) rfl
theorem tw_1313 : (Jvm.Cond.methodLink "NineMapsModel" (3 : Nat) ({ cls := "java/lang/Object", name := "<init>", desc := "()V" } : Jvm.MethodName)) ∈ TW := tw_in 1313 (by decide +kernel) rfl
theorem tw_1314 : (Jvm.Cond.constant "NineMapsModel" (27 : Nat) (86616 : Int32)) ∈ TW := tw_in 1314 (by decide +kernel) rfl
theorem tw_1315 : (Jvm.Cond.fieldLink "NineMapsModel" (78 : Nat) "NineMapsModel" "thrown" "I") ∈ TW := tw_in 1315 (by decide +kernel) rfl
theorem tw_1316 : (Jvm.Cond.fieldLink "NineMapsModel" (81 : Nat) "NineMapsModel" "trouble" "I") ∈ TW := tw_in 1316 (by decide +kernel) rfl
theorem tw_1317 : (Jvm.Cond.fieldLink "NineMapsModel" (9 : Nat) "NineMapsModel" "where" "I") ∈ TW := tw_in 1317 (by decide +kernel) rfl
theorem tw_1318 : (Jvm.Cond.fieldLink "NineMapsModel" (341 : Nat) "NineMapsModel" "ring" "LNineMapsModel$Ring;") ∈ TW := tw_in 1318 (by decide +kernel) rfl
theorem tw_1319 : (Jvm.Cond.fieldLink "NineMapsModel" (190 : Nat) "NineMapsModel" "read" "LNineMapsModel$Ring;") ∈ TW := tw_in 1319 (by decide +kernel) rfl
theorem tw_1320 : (Jvm.Cond.fieldLink "NineMapsModel" (13 : Nat) "NineMapsModel" "tape" "[B") ∈ TW := tw_in 1320 (by decide +kernel) rfl
theorem tw_1321 : (Jvm.Cond.fieldLink "NineMapsModel" (334 : Nat) "NineMapsModel" "taped" "I") ∈ TW := tw_in 1321 (by decide +kernel) rfl
theorem tw_1322 : (Jvm.Cond.fieldLink "NineMapsModel" (95 : Nat) "NineMapsModel" "size" "I") ∈ TW := tw_in 1322 (by decide +kernel) rfl
theorem tw_1323 : (Jvm.Cond.fieldLink "NineMapsModel" (113 : Nat) "NineMapsModel" "spot" "I") ∈ TW := tw_in 1323 (by decide +kernel) rfl
theorem tw_1324 : (Jvm.Cond.fieldLink "NineMapsModel" (110 : Nat) "NineMapsModel" "sort" "I") ∈ TW := tw_in 1324 (by decide +kernel) rfl
theorem tw_1325 : (Jvm.Cond.fieldLink "NineMapsModel" (119 : Nat) "NineMapsModel" "place" "I") ∈ TW := tw_in 1325 (by decide +kernel) rfl
theorem tw_1326 : (Jvm.Cond.fieldLink "NineMapsModel" (122 : Nat) "NineMapsModel" "sign" "I") ∈ TW := tw_in 1326 (by decide +kernel) rfl
theorem tw_1327 : (Jvm.Cond.fieldLink "NineMapsModel" (139 : Nat) "NineMapsModel" "number" "I") ∈ TW := tw_in 1327 (by decide +kernel) rfl
theorem tw_1328 : (Jvm.Cond.fieldLink "NineMapsModel" (142 : Nat) "NineMapsModel" "fault" "I") ∈ TW := tw_in 1328 (by decide +kernel) rfl
theorem tw_1329 : (Jvm.Cond.fieldLink "NineMapsModel" (145 : Nat) "NineMapsModel" "wrongAt" "I") ∈ TW := tw_in 1329 (by decide +kernel) rfl
theorem tw_1330 : (Jvm.Cond.fieldLink "NineMapsModel" (133 : Nat) "NineMapsModel" "letters" "I") ∈ TW := tw_in 1330 (by decide +kernel) rfl
theorem tw_1331 : (Jvm.Cond.fieldLink "NineMapsModel" (129 : Nat) "NineMapsModel" "word" "J") ∈ TW := tw_in 1331 (by decide +kernel) rfl
theorem tw_1332 : (Jvm.Cond.fieldLink "NineMapsModel" (17 : Nat) "NineMapsModel" "v" "[I") ∈ TW := tw_in 1332 (by decide +kernel) rfl
theorem tw_1333 : (Jvm.Cond.fieldLink "NineMapsModel" (21 : Nat) "NineMapsModel" "past" "[I") ∈ TW := tw_in 1333 (by decide +kernel) rfl
theorem tw_1334 : (Jvm.Cond.fieldLink "NineMapsModel" (24 : Nat) "NineMapsModel" "kept" "[I") ∈ TW := tw_in 1334 (by decide +kernel) rfl
theorem tw_1335 : (Jvm.Cond.fieldLink "NineMapsModel" (343 : Nat) "NineMapsModel" "acts" "I") ∈ TW := tw_in 1335 (by decide +kernel) rfl
theorem tw_1336 : (Jvm.Cond.fieldLink "NineMapsModel" (346 : Nat) "NineMapsModel" "keeps" "I") ∈ TW := tw_in 1336 (by decide +kernel) rfl
theorem tw_1337 : (Jvm.Cond.fieldLink "NineMapsModel" (28 : Nat) "NineMapsModel" "maps" "[I") ∈ TW := tw_in 1337 (by decide +kernel) rfl
theorem tw_1338 : (Jvm.Cond.fieldLink "NineMapsModel" (31 : Nat) "NineMapsModel" "copied" "[I") ∈ TW := tw_in 1338 (by decide +kernel) rfl
theorem tw_1339 : (Jvm.Cond.fieldLink "NineMapsModel" (34 : Nat) "NineMapsModel" "errors" "[I") ∈ TW := tw_in 1339 (by decide +kernel) rfl
theorem tw_1340 : (Jvm.Cond.fieldLink "NineMapsModel" (37 : Nat) "NineMapsModel" "sneezed" "[I") ∈ TW := tw_in 1340 (by decide +kernel) rfl
theorem tw_1341 : (Jvm.Cond.fieldLink "NineMapsModel" (355 : Nat) "NineMapsModel" "seed" "I") ∈ TW := tw_in 1341 (by decide +kernel) rfl
theorem tw_1342 : (Jvm.Cond.fieldLink "NineMapsModel" (40 : Nat) "NineMapsModel" "isSeen" "[Z") ∈ TW := tw_in 1342 (by decide +kernel) rfl
theorem tw_1343 : (Jvm.Cond.fieldLink "NineMapsModel" (44 : Nat) "NineMapsModel" "heap" "[I") ∈ TW := tw_in 1343 (by decide +kernel) rfl
theorem tw_1344 : (Jvm.Cond.fieldLink "NineMapsModel" (412 : Nat) "NineMapsModel" "largestOf" "I") ∈ TW := tw_in 1344 (by decide +kernel) rfl
theorem tw_1345 : (Jvm.Cond.fieldLink "NineMapsModel" (47 : Nat) "NineMapsModel" "sums" "[J") ∈ TW := tw_in 1345 (by decide +kernel) rfl
theorem tw_1346 : (Jvm.Cond.fieldLink "NineMapsModel" (51 : Nat) "NineMapsModel" "bears" "[I") ∈ TW := tw_in 1346 (by decide +kernel) rfl
theorem tw_1347 : (Jvm.Cond.fieldLink "NineMapsModel" (54 : Nat) "NineMapsModel" "stroke" "[I") ∈ TW := tw_in 1347 (by decide +kernel) rfl
theorem tw_1348 : (Jvm.Cond.fieldLink "NineMapsModel" (57 : Nat) "NineMapsModel" "bestStroke" "[I") ∈ TW := tw_in 1348 (by decide +kernel) rfl
theorem tw_1349 : (Jvm.Cond.fieldLink "NineMapsModel" (60 : Nat) "NineMapsModel" "hangs" "[Z") ∈ TW := tw_in 1349 (by decide +kernel) rfl
theorem tw_1350 : (Jvm.Cond.fieldLink "NineMapsModel" (63 : Nat) "NineMapsModel" "hung" "[Z") ∈ TW := tw_in 1350 (by decide +kernel) rfl
theorem tw_1351 : (Jvm.Cond.fieldLink "NineMapsModel" (442 : Nat) "NineMapsModel" "borne" "I") ∈ TW := tw_in 1351 (by decide +kernel) rfl
theorem tw_1352 : (Jvm.Cond.fieldLink "NineMapsModel" (66 : Nat) "NineMapsModel" "cost" "[I") ∈ TW := tw_in 1352 (by decide +kernel) rfl
theorem tw_1353 : (Jvm.Cond.fieldLink "NineMapsModel" (69 : Nat) "NineMapsModel" "row" "[I") ∈ TW := tw_in 1353 (by decide +kernel) rfl
theorem tw_1354 : (Jvm.Cond.fieldLink "NineMapsModel" (72 : Nat) "NineMapsModel" "fitRow" "[I") ∈ TW := tw_in 1354 (by decide +kernel) rfl
theorem tw_1355 : (Jvm.Cond.fieldLink "NineMapsModel" (75 : Nat) "NineMapsModel" "could" "[I") ∈ TW := tw_in 1355 (by decide +kernel) rfl
theorem tw_1451 : (Jvm.Cond.methodLink "NineMapsModel" (84 : Nat) ({ cls := "NineMapsModel", name := "refused", desc := "(I)I" } : Jvm.MethodName)) ∈ TW := tw_in 1451 (by decide +kernel) rfl
theorem tw_1453 : (Jvm.Cond.instanceMethod ({ cls := "NineMapsModel", name := "refused", desc := "(I)I" } : Jvm.MethodName)) ∈ TW := tw_in 1453 (by decide +kernel) rfl
theorem tw_1454 : (Jvm.Cond.code ({ cls := "NineMapsModel", name := "refused", desc := "(I)I" } : Jvm.MethodName) prog_12_method_3_code (2 : Nat) (Option.some Jvm.ClassFile.FieldType.int)) ∈ TW := tw_in 1454 (by decide +kernel) rfl
theorem tw_1455 : (Jvm.Cond.classLink "NineMapsModel" (195 : Nat) "NineMapsModel$Ring") ∈ TW := tw_in 1455 (by decide +kernel) rfl
theorem tw_1456 : (Jvm.Cond.instantiable "NineMapsModel$Ring" (16 : Nat)) ∈ TW := tw_in 1456 (by decide +kernel) rfl
theorem tw_1458 : (Jvm.Cond.instanceMethod ({ cls := "NineMapsModel$Ring", name := "<init>", desc := "()V" } : Jvm.MethodName)) ∈ TW := tw_in 1458 (by decide +kernel) rfl
theorem tw_1459 : (Jvm.Cond.code ({ cls := "NineMapsModel$Ring", name := "<init>", desc := "()V" } : Jvm.MethodName) prog_13_method_1_code (1 : Nat) (Option.none : Option Jvm.ClassFile.FieldType)) ∈ TW := tw_in 1459 (by decide +kernel) rfl
theorem tw_1460 : (Jvm.Cond.methodLink "NineMapsModel$Ring" (3 : Nat) ({ cls := "java/lang/Object", name := "<init>", desc := "()V" } : Jvm.MethodName)) ∈ TW := tw_in 1460 (by decide +kernel) rfl
theorem tw_1461 : (Jvm.Cond.fieldLink "NineMapsModel$Ring" (44 : Nat) "NineMapsModel$Ring" "wide" "I") ∈ TW := tw_in 1461 (by decide +kernel) rfl
theorem tw_1463 : (Jvm.Cond.fieldLink "NineMapsModel$Ring" (47 : Nat) "NineMapsModel$Ring" "high" "I") ∈ TW := tw_in 1463 (by decide +kernel) rfl
theorem tw_1466 : (Jvm.Cond.fieldLink "NineMapsModel$Ring" (40 : Nat) "NineMapsModel$Ring" "towns" "I") ∈ TW := tw_in 1466 (by decide +kernel) rfl
theorem tw_1471 : (Jvm.Cond.fieldLink "NineMapsModel$Ring" (9 : Nat) "NineMapsModel$Ring" "map" "[I") ∈ TW := tw_in 1471 (by decide +kernel) rfl
theorem tw_1473 : (Jvm.Cond.fieldLink "NineMapsModel$Ring" (15 : Nat) "NineMapsModel$Ring" "copies" "[I") ∈ TW := tw_in 1473 (by decide +kernel) rfl
theorem tw_1475 : (Jvm.Cond.fieldLink "NineMapsModel$Ring" (18 : Nat) "NineMapsModel$Ring" "error" "[I") ∈ TW := tw_in 1475 (by decide +kernel) rfl
theorem tw_1477 : (Jvm.Cond.fieldLink "NineMapsModel$Ring" (21 : Nat) "NineMapsModel$Ring" "guess" "[I") ∈ TW := tw_in 1477 (by decide +kernel) rfl
theorem tw_1479 : (Jvm.Cond.fieldLink "NineMapsModel$Ring" (24 : Nat) "NineMapsModel$Ring" "seenOf" "[I") ∈ TW := tw_in 1479 (by decide +kernel) rfl
theorem tw_1481 : (Jvm.Cond.fieldLink "NineMapsModel$Ring" (27 : Nat) "NineMapsModel$Ring" "seenBehind" "[I") ∈ TW := tw_in 1481 (by decide +kernel) rfl
theorem tw_1483 : (Jvm.Cond.fieldLink "NineMapsModel$Ring" (30 : Nat) "NineMapsModel$Ring" "seenAt" "[I") ∈ TW := tw_in 1483 (by decide +kernel) rfl
theorem tw_1485 : (Jvm.Cond.fieldLink "NineMapsModel$Ring" (33 : Nat) "NineMapsModel$Ring" "seenMark" "[I") ∈ TW := tw_in 1485 (by decide +kernel) rfl
theorem tw_1487 : (Jvm.Cond.fieldLink "NineMapsModel$Ring" (36 : Nat) "NineMapsModel$Ring" "name" "[J") ∈ TW := tw_in 1487 (by decide +kernel) rfl
theorem tw_1522 : (Jvm.Cond.methodLink "NineMapsModel" (155 : Nat) ({ cls := "NineMapsModel", name := "goesOn", desc := "()V" } : Jvm.MethodName)) ∈ TW := tw_in 1522 (by decide +kernel) rfl
theorem tw_1524 : (Jvm.Cond.instanceMethod ({ cls := "NineMapsModel", name := "goesOn", desc := "()V" } : Jvm.MethodName)) ∈ TW := tw_in 1524 (by decide +kernel) rfl
theorem tw_1525 : (Jvm.Cond.code ({ cls := "NineMapsModel", name := "goesOn", desc := "()V" } : Jvm.MethodName) prog_12_method_14_code (3 : Nat) (Option.none : Option Jvm.ClassFile.FieldType)) ∈ TW := tw_in 1525 (by decide +kernel) rfl
theorem tw_1526 : (Jvm.Cond.methodLink "NineMapsModel" (116 : Nat) ({ cls := "NineMapsModel", name := "byteAt", desc := "(I)I" } : Jvm.MethodName)) ∈ TW := tw_in 1526 (by decide +kernel) rfl
theorem tw_1528 : (Jvm.Cond.instanceMethod ({ cls := "NineMapsModel", name := "byteAt", desc := "(I)I" } : Jvm.MethodName)) ∈ TW := tw_in 1528 (by decide +kernel) rfl
theorem tw_1529 : (Jvm.Cond.code ({ cls := "NineMapsModel", name := "byteAt", desc := "(I)I" } : Jvm.MethodName) prog_12_method_10_code (2 : Nat) (Option.some Jvm.ClassFile.FieldType.int)) ∈ TW := tw_in 1529 (by decide +kernel) rfl
theorem tw_1530 : (Jvm.Cond.methodLink "NineMapsModel" (125 : Nat) ({ cls := "NineMapsModel", name := "isLetter", desc := "(I)Z" } : Jvm.MethodName)) ∈ TW := tw_in 1530 (by decide +kernel) rfl
theorem tw_1531 : (Jvm.Cond.static ({ cls := "NineMapsModel", name := "isLetter", desc := "(I)Z" } : Jvm.MethodName)) ∈ TW := tw_in 1531 (by decide +kernel) rfl
theorem tw_1532 : (Jvm.Cond.code ({ cls := "NineMapsModel", name := "isLetter", desc := "(I)Z" } : Jvm.MethodName) prog_12_method_11_code (1 : Nat) (Option.some Jvm.ClassFile.FieldType.boolean)) ∈ TW := tw_in 1532 (by decide +kernel) rfl
theorem tw_1533 : (Jvm.Cond.constantLong "NineMapsModel" (104 : Nat) (32 : Int64)) ∈ TW := tw_in 1533 (by decide +kernel) rfl
theorem tw_1534 : (Jvm.Cond.methodLink "NineMapsModel" (136 : Nat) ({ cls := "NineMapsModel", name := "isDigit", desc := "(I)Z" } : Jvm.MethodName)) ∈ TW := tw_in 1534 (by decide +kernel) rfl
theorem tw_1535 : (Jvm.Cond.static ({ cls := "NineMapsModel", name := "isDigit", desc := "(I)Z" } : Jvm.MethodName)) ∈ TW := tw_in 1535 (by decide +kernel) rfl
theorem tw_1536 : (Jvm.Cond.code ({ cls := "NineMapsModel", name := "isDigit", desc := "(I)Z" } : Jvm.MethodName) prog_12_method_12_code (1 : Nat) (Option.some Jvm.ClassFile.FieldType.boolean)) ∈ TW := tw_in 1536 (by decide +kernel) rfl
theorem tw_1537 : (Jvm.Cond.methodLink "NineMapsModel" (338 : Nat) ({ cls := "NineMapsModel", name := "readAll", desc := "()V" } : Jvm.MethodName)) ∈ TW := tw_in 1537 (by decide +kernel) rfl
theorem tw_1539 : (Jvm.Cond.instanceMethod ({ cls := "NineMapsModel", name := "readAll", desc := "()V" } : Jvm.MethodName)) ∈ TW := tw_in 1539 (by decide +kernel) rfl
theorem tw_1540 : (Jvm.Cond.code ({ cls := "NineMapsModel", name := "readAll", desc := "()V" } : Jvm.MethodName) prog_12_method_30_code (2 : Nat) (Option.none : Option Jvm.ClassFile.FieldType)) ∈ TW := tw_in 1540 (by decide +kernel) rfl
theorem tw_1541 : (Jvm.Cond.methodLink "NineMapsModel" (224 : Nat) ({ cls := "NineMapsModel", name := "readLine", desc := "()V" } : Jvm.MethodName)) ∈ TW := tw_in 1541 (by decide +kernel) rfl
theorem tw_1543 : (Jvm.Cond.instanceMethod ({ cls := "NineMapsModel", name := "readLine", desc := "()V" } : Jvm.MethodName)) ∈ TW := tw_in 1543 (by decide +kernel) rfl
theorem tw_1544 : (Jvm.Cond.code ({ cls := "NineMapsModel", name := "readLine", desc := "()V" } : Jvm.MethodName) prog_12_method_31_code (1 : Nat) (Option.none : Option Jvm.ClassFile.FieldType)) ∈ TW := tw_in 1544 (by decide +kernel) rfl
theorem tw_1546 : (Jvm.Cond.methodLink "NineMapsModel" (158 : Nat) ({ cls := "NineMapsModel", name := "isWord", desc := "(Ljava/lang/String;)Z" } : Jvm.MethodName)) ∈ TW := tw_in 1546 (by decide +kernel) rfl
theorem tw_1548 : (Jvm.Cond.instanceMethod ({ cls := "NineMapsModel", name := "isWord", desc := "(Ljava/lang/String;)Z" } : Jvm.MethodName)) ∈ TW := tw_in 1548 (by decide +kernel) rfl
theorem tw_1549 : (Jvm.Cond.code ({ cls := "NineMapsModel", name := "isWord", desc := "(Ljava/lang/String;)Z" } : Jvm.MethodName) prog_12_method_16_code (2 : Nat) (Option.some Jvm.ClassFile.FieldType.boolean)) ∈ TW := tw_in 1549 (by decide +kernel) rfl
theorem tw_1550 : (Jvm.Cond.methodLink "NineMapsModel" (148 : Nat) ({ cls := "NineMapsModel", name := "wordOf", desc := "(Ljava/lang/String;)J" } : Jvm.MethodName)) ∈ TW := tw_in 1550 (by decide +kernel) rfl
theorem tw_1551 : (Jvm.Cond.static ({ cls := "NineMapsModel", name := "wordOf", desc := "(Ljava/lang/String;)J" } : Jvm.MethodName)) ∈ TW := tw_in 1551 (by decide +kernel) rfl
theorem tw_1552 : (Jvm.Cond.code ({ cls := "NineMapsModel", name := "wordOf", desc := "(Ljava/lang/String;)J" } : Jvm.MethodName) prog_12_method_13_code (4 : Nat) (Option.some Jvm.ClassFile.FieldType.long)) ∈ TW := tw_in 1552 (by decide +kernel) rfl
theorem tw_1553 : (Jvm.Cond.methodLink "NineMapsModel" (98 : Nat) ({ cls := "java/lang/String", name := "length", desc := "()I" } : Jvm.MethodName)) ∈ TW := tw_in 1553 (by decide +kernel) rfl
theorem tw_1554 : (Jvm.Cond.methodLink "NineMapsModel" (106 : Nat) ({ cls := "java/lang/String", name := "charAt", desc := "(I)C" } : Jvm.MethodName)) ∈ TW := tw_in 1554 (by decide +kernel) rfl
theorem tw_1555 : (Jvm.Cond.methodLink "NineMapsModel" (233 : Nat) ({ cls := "NineMapsModel", name := "readRing", desc := "()V" } : Jvm.MethodName)) ∈ TW := tw_in 1555 (by decide +kernel) rfl
theorem tw_1557 : (Jvm.Cond.instanceMethod ({ cls := "NineMapsModel", name := "readRing", desc := "()V" } : Jvm.MethodName)) ∈ TW := tw_in 1557 (by decide +kernel) rfl
theorem tw_1558 : (Jvm.Cond.code ({ cls := "NineMapsModel", name := "readRing", desc := "()V" } : Jvm.MethodName) prog_12_method_32_code (4 : Nat) (Option.none : Option Jvm.ClassFile.FieldType)) ∈ TW := tw_in 1558 (by decide +kernel) rfl
theorem tw_1559 : (Jvm.Cond.methodLink "NineMapsModel" (162 : Nat) ({ cls := "NineMapsModel", name := "flaw", desc := "(I)V" } : Jvm.MethodName)) ∈ TW := tw_in 1559 (by decide +kernel) rfl
theorem tw_1561 : (Jvm.Cond.instanceMethod ({ cls := "NineMapsModel", name := "flaw", desc := "(I)V" } : Jvm.MethodName)) ∈ TW := tw_in 1561 (by decide +kernel) rfl
theorem tw_1562 : (Jvm.Cond.code ({ cls := "NineMapsModel", name := "flaw", desc := "(I)V" } : Jvm.MethodName) prog_12_method_15_code (2 : Nat) (Option.none : Option Jvm.ClassFile.FieldType)) ∈ TW := tw_in 1562 (by decide +kernel) rfl
theorem tw_1564 : (Jvm.Cond.methodLink "NineMapsModel" (249 : Nat) ({ cls := "NineMapsModel", name := "readPart", desc := "(Ljava/lang/String;II)I" } : Jvm.MethodName)) ∈ TW := tw_in 1564 (by decide +kernel) rfl
theorem tw_1566 : (Jvm.Cond.instanceMethod ({ cls := "NineMapsModel", name := "readPart", desc := "(Ljava/lang/String;II)I" } : Jvm.MethodName)) ∈ TW := tw_in 1566 (by decide +kernel) rfl
theorem tw_1567 : (Jvm.Cond.code ({ cls := "NineMapsModel", name := "readPart", desc := "(Ljava/lang/String;II)I" } : Jvm.MethodName) prog_12_method_21_code (4 : Nat) (Option.some Jvm.ClassFile.FieldType.int)) ∈ TW := tw_in 1567 (by decide +kernel) rfl
theorem tw_1568 : (Jvm.Cond.methodLink "NineMapsModel" (170 : Nat) ({ cls := "NineMapsModel", name := "needs", desc := "(Ljava/lang/String;)V" } : Jvm.MethodName)) ∈ TW := tw_in 1568 (by decide +kernel) rfl
theorem tw_1570 : (Jvm.Cond.instanceMethod ({ cls := "NineMapsModel", name := "needs", desc := "(Ljava/lang/String;)V" } : Jvm.MethodName)) ∈ TW := tw_in 1570 (by decide +kernel) rfl
theorem tw_1571 : (Jvm.Cond.code ({ cls := "NineMapsModel", name := "needs", desc := "(Ljava/lang/String;)V" } : Jvm.MethodName) prog_12_method_19_code (2 : Nat) (Option.none : Option Jvm.ClassFile.FieldType)) ∈ TW := tw_in 1571 (by decide +kernel) rfl
theorem tw_1572 : (Jvm.Cond.methodLink "NineMapsModel" (174 : Nat) ({ cls := "NineMapsModel", name := "readWhole", desc := "(II)I" } : Jvm.MethodName)) ∈ TW := tw_in 1572 (by decide +kernel) rfl
theorem tw_1574 : (Jvm.Cond.instanceMethod ({ cls := "NineMapsModel", name := "readWhole", desc := "(II)I" } : Jvm.MethodName)) ∈ TW := tw_in 1574 (by decide +kernel) rfl
theorem tw_1575 : (Jvm.Cond.code ({ cls := "NineMapsModel", name := "readWhole", desc := "(II)I" } : Jvm.MethodName) prog_12_method_20_code (4 : Nat) (Option.some Jvm.ClassFile.FieldType.int)) ∈ TW := tw_in 1575 (by decide +kernel) rfl
theorem tw_1576 : (Jvm.Cond.methodLink "NineMapsModel" (166 : Nat) ({ cls := "NineMapsModel", name := "in", desc := "(III)Z" } : Jvm.MethodName)) ∈ TW := tw_in 1576 (by decide +kernel) rfl
theorem tw_1577 : (Jvm.Cond.static ({ cls := "NineMapsModel", name := "in", desc := "(III)Z" } : Jvm.MethodName)) ∈ TW := tw_in 1577 (by decide +kernel) rfl
theorem tw_1578 : (Jvm.Cond.code ({ cls := "NineMapsModel", name := "in", desc := "(III)Z" } : Jvm.MethodName) prog_12_method_7_code (3 : Nat) (Option.some Jvm.ClassFile.FieldType.boolean)) ∈ TW := tw_in 1578 (by decide +kernel) rfl
theorem tw_1582 : (Jvm.Cond.methodLink "NineMapsModel" (236 : Nat) ({ cls := "NineMapsModel", name := "readTownLine", desc := "()V" } : Jvm.MethodName)) ∈ TW := tw_in 1582 (by decide +kernel) rfl
theorem tw_1584 : (Jvm.Cond.instanceMethod ({ cls := "NineMapsModel", name := "readTownLine", desc := "()V" } : Jvm.MethodName)) ∈ TW := tw_in 1584 (by decide +kernel) rfl
theorem tw_1585 : (Jvm.Cond.code ({ cls := "NineMapsModel", name := "readTownLine", desc := "()V" } : Jvm.MethodName) prog_12_method_33_code (5 : Nat) (Option.none : Option Jvm.ClassFile.FieldType)) ∈ TW := tw_in 1585 (by decide +kernel) rfl
theorem tw_1586 : (Jvm.Cond.methodLink "NineMapsModel" (258 : Nat) ({ cls := "NineMapsModel", name := "begins", desc := "(II)V" } : Jvm.MethodName)) ∈ TW := tw_in 1586 (by decide +kernel) rfl
theorem tw_1588 : (Jvm.Cond.instanceMethod ({ cls := "NineMapsModel", name := "begins", desc := "(II)V" } : Jvm.MethodName)) ∈ TW := tw_in 1588 (by decide +kernel) rfl
theorem tw_1589 : (Jvm.Cond.code ({ cls := "NineMapsModel", name := "begins", desc := "(II)V" } : Jvm.MethodName) prog_12_method_23_code (3 : Nat) (Option.none : Option Jvm.ClassFile.FieldType)) ∈ TW := tw_in 1589 (by decide +kernel) rfl
theorem tw_1590 : (Jvm.Cond.methodLink "NineMapsModel" (199 : Nat) ({ cls := "NineMapsModel", name := "isName", desc := "()Z" } : Jvm.MethodName)) ∈ TW := tw_in 1590 (by decide +kernel) rfl
theorem tw_1592 : (Jvm.Cond.instanceMethod ({ cls := "NineMapsModel", name := "isName", desc := "()Z" } : Jvm.MethodName)) ∈ TW := tw_in 1592 (by decide +kernel) rfl
theorem tw_1593 : (Jvm.Cond.code ({ cls := "NineMapsModel", name := "isName", desc := "()Z" } : Jvm.MethodName) prog_12_method_22_code (1 : Nat) (Option.some Jvm.ClassFile.FieldType.boolean)) ∈ TW := tw_in 1593 (by decide +kernel) rfl
theorem tw_1598 : (Jvm.Cond.methodLink "NineMapsModel" (203 : Nat) ({ cls := "NineMapsModel$Ring", name := "find", desc := "(J)I" } : Jvm.MethodName)) ∈ TW := tw_in 1598 (by decide +kernel) rfl
theorem tw_1599 : (Jvm.Cond.instanceMethod ({ cls := "NineMapsModel$Ring", name := "find", desc := "(J)I" } : Jvm.MethodName)) ∈ TW := tw_in 1599 (by decide +kernel) rfl
theorem tw_1600 : (Jvm.Cond.selects "NineMapsModel$Ring" ({ cls := "NineMapsModel$Ring", name := "find", desc := "(J)I" } : Jvm.MethodName) ({ cls := "NineMapsModel$Ring", name := "find", desc := "(J)I" } : Jvm.MethodName)) ∈ TW := tw_in 1600 (by decide +kernel) rfl
theorem tw_1601 : (Jvm.Cond.code ({ cls := "NineMapsModel$Ring", name := "find", desc := "(J)I" } : Jvm.MethodName) prog_13_method_2_code (4 : Nat) (Option.some Jvm.ClassFile.FieldType.int)) ∈ TW := tw_in 1601 (by decide +kernel) rfl
theorem tw_1602 : (Jvm.Cond.methodLink "NineMapsModel" (227 : Nat) ({ cls := "NineMapsModel", name := "eatsSign", desc := "(I)Z" } : Jvm.MethodName)) ∈ TW := tw_in 1602 (by decide +kernel) rfl
theorem tw_1604 : (Jvm.Cond.instanceMethod ({ cls := "NineMapsModel", name := "eatsSign", desc := "(I)Z" } : Jvm.MethodName)) ∈ TW := tw_in 1604 (by decide +kernel) rfl
theorem tw_1605 : (Jvm.Cond.code ({ cls := "NineMapsModel", name := "eatsSign", desc := "(I)Z" } : Jvm.MethodName) prog_12_method_18_code (3 : Nat) (Option.some Jvm.ClassFile.FieldType.boolean)) ∈ TW := tw_in 1605 (by decide +kernel) rfl
theorem tw_1606 : (Jvm.Cond.methodLink "NineMapsModel" (152 : Nat) ({ cls := "NineMapsModel", name := "isSign", desc := "(I)Z" } : Jvm.MethodName)) ∈ TW := tw_in 1606 (by decide +kernel) rfl
theorem tw_1608 : (Jvm.Cond.instanceMethod ({ cls := "NineMapsModel", name := "isSign", desc := "(I)Z" } : Jvm.MethodName)) ∈ TW := tw_in 1608 (by decide +kernel) rfl
theorem tw_1609 : (Jvm.Cond.code ({ cls := "NineMapsModel", name := "isSign", desc := "(I)Z" } : Jvm.MethodName) prog_12_method_17_code (2 : Nat) (Option.some Jvm.ClassFile.FieldType.boolean)) ∈ TW := tw_in 1609 (by decide +kernel) rfl
theorem tw_1610 : (Jvm.Cond.methodLink "NineMapsModel" (218 : Nat) ({ cls := "NineMapsModel", name := "checksMarks", desc := "(I)V" } : Jvm.MethodName)) ∈ TW := tw_in 1610 (by decide +kernel) rfl
theorem tw_1612 : (Jvm.Cond.instanceMethod ({ cls := "NineMapsModel", name := "checksMarks", desc := "(I)V" } : Jvm.MethodName)) ∈ TW := tw_in 1612 (by decide +kernel) rfl
theorem tw_1613 : (Jvm.Cond.code ({ cls := "NineMapsModel", name := "checksMarks", desc := "(I)V" } : Jvm.MethodName) prog_12_method_27_code (4 : Nat) (Option.none : Option Jvm.ClassFile.FieldType)) ∈ TW := tw_in 1613 (by decide +kernel) rfl
theorem tw_1614 : (Jvm.Cond.methodLink "NineMapsModel" (212 : Nat) ({ cls := "NineMapsModel", name := "markAt", desc := "(I)I" } : Jvm.MethodName)) ∈ TW := tw_in 1614 (by decide +kernel) rfl
theorem tw_1616 : (Jvm.Cond.instanceMethod ({ cls := "NineMapsModel", name := "markAt", desc := "(I)I" } : Jvm.MethodName)) ∈ TW := tw_in 1616 (by decide +kernel) rfl
theorem tw_1617 : (Jvm.Cond.code ({ cls := "NineMapsModel", name := "markAt", desc := "(I)I" } : Jvm.MethodName) prog_12_method_26_code (2 : Nat) (Option.some Jvm.ClassFile.FieldType.int)) ∈ TW := tw_in 1617 (by decide +kernel) rfl
theorem tw_1618 : (Jvm.Cond.constantLong "NineMapsModel" (210 : Nat) (31 : Int64)) ∈ TW := tw_in 1618 (by decide +kernel) rfl
theorem tw_1619 : (Jvm.Cond.methodLink "NineMapsModel" (273 : Nat) ({ cls := "NineMapsModel", name := "clears", desc := "([II)V" } : Jvm.MethodName)) ∈ TW := tw_in 1619 (by decide +kernel) rfl
theorem tw_1621 : (Jvm.Cond.instanceMethod ({ cls := "NineMapsModel", name := "clears", desc := "([II)V" } : Jvm.MethodName)) ∈ TW := tw_in 1621 (by decide +kernel) rfl
theorem tw_1622 : (Jvm.Cond.code ({ cls := "NineMapsModel", name := "clears", desc := "([II)V" } : Jvm.MethodName) prog_12_method_34_code (4 : Nat) (Option.none : Option Jvm.ClassFile.FieldType)) ∈ TW := tw_in 1622 (by decide +kernel) rfl
theorem tw_1623 : (Jvm.Cond.methodLink "NineMapsModel" (239 : Nat) ({ cls := "NineMapsModel", name := "readCopies", desc := "()V" } : Jvm.MethodName)) ∈ TW := tw_in 1623 (by decide +kernel) rfl
theorem tw_1625 : (Jvm.Cond.instanceMethod ({ cls := "NineMapsModel", name := "readCopies", desc := "()V" } : Jvm.MethodName)) ∈ TW := tw_in 1625 (by decide +kernel) rfl
theorem tw_1626 : (Jvm.Cond.code ({ cls := "NineMapsModel", name := "readCopies", desc := "()V" } : Jvm.MethodName) prog_12_method_37_code (3 : Nat) (Option.none : Option Jvm.ClassFile.FieldType)) ∈ TW := tw_in 1626 (by decide +kernel) rfl
theorem tw_1627 : (Jvm.Cond.methodLink "NineMapsModel" (207 : Nat) ({ cls := "NineMapsModel", name := "knownTown", desc := "()I" } : Jvm.MethodName)) ∈ TW := tw_in 1627 (by decide +kernel) rfl
theorem tw_1629 : (Jvm.Cond.instanceMethod ({ cls := "NineMapsModel", name := "knownTown", desc := "()I" } : Jvm.MethodName)) ∈ TW := tw_in 1629 (by decide +kernel) rfl
theorem tw_1630 : (Jvm.Cond.code ({ cls := "NineMapsModel", name := "knownTown", desc := "()I" } : Jvm.MethodName) prog_12_method_24_code (2 : Nat) (Option.some Jvm.ClassFile.FieldType.int)) ∈ TW := tw_in 1630 (by decide +kernel) rfl
theorem tw_1631 : (Jvm.Cond.methodLink "NineMapsModel" (307 : Nat) ({ cls := "NineMapsModel", name := "readTown", desc := "()I" } : Jvm.MethodName)) ∈ TW := tw_in 1631 (by decide +kernel) rfl
theorem tw_1633 : (Jvm.Cond.instanceMethod ({ cls := "NineMapsModel", name := "readTown", desc := "()I" } : Jvm.MethodName)) ∈ TW := tw_in 1633 (by decide +kernel) rfl
theorem tw_1634 : (Jvm.Cond.code ({ cls := "NineMapsModel", name := "readTown", desc := "()I" } : Jvm.MethodName) prog_12_method_25_code (2 : Nat) (Option.some Jvm.ClassFile.FieldType.int)) ∈ TW := tw_in 1634 (by decide +kernel) rfl
theorem tw_1635 : (Jvm.Cond.methodLink "NineMapsModel" (310 : Nat) ({ cls := "NineMapsModel", name := "readError", desc := "([IIZ)V" } : Jvm.MethodName)) ∈ TW := tw_in 1635 (by decide +kernel) rfl
theorem tw_1637 : (Jvm.Cond.instanceMethod ({ cls := "NineMapsModel", name := "readError", desc := "([IIZ)V" } : Jvm.MethodName)) ∈ TW := tw_in 1637 (by decide +kernel) rfl
theorem tw_1638 : (Jvm.Cond.code ({ cls := "NineMapsModel", name := "readError", desc := "([IIZ)V" } : Jvm.MethodName) prog_12_method_36_code (8 : Nat) (Option.none : Option Jvm.ClassFile.FieldType)) ∈ TW := tw_in 1638 (by decide +kernel) rfl
theorem tw_1639 : (Jvm.Cond.methodLink "NineMapsModel" (299 : Nat) ({ cls := "NineMapsModel", name := "sortOfError", desc := "()I" } : Jvm.MethodName)) ∈ TW := tw_in 1639 (by decide +kernel) rfl
theorem tw_1641 : (Jvm.Cond.instanceMethod ({ cls := "NineMapsModel", name := "sortOfError", desc := "()I" } : Jvm.MethodName)) ∈ TW := tw_in 1641 (by decide +kernel) rfl
theorem tw_1642 : (Jvm.Cond.code ({ cls := "NineMapsModel", name := "sortOfError", desc := "()I" } : Jvm.MethodName) prog_12_method_35_code (1 : Nat) (Option.some Jvm.ClassFile.FieldType.int)) ∈ TW := tw_in 1642 (by decide +kernel) rfl
theorem tw_1654 : (Jvm.Cond.methodLink "NineMapsModel" (304 : Nat) ({ cls := "NineMapsModel", name := "readMark", desc := "()I" } : Jvm.MethodName)) ∈ TW := tw_in 1654 (by decide +kernel) rfl
theorem tw_1656 : (Jvm.Cond.instanceMethod ({ cls := "NineMapsModel", name := "readMark", desc := "()I" } : Jvm.MethodName)) ∈ TW := tw_in 1656 (by decide +kernel) rfl
theorem tw_1657 : (Jvm.Cond.code ({ cls := "NineMapsModel", name := "readMark", desc := "()I" } : Jvm.MethodName) prog_12_method_29_code (2 : Nat) (Option.some Jvm.ClassFile.FieldType.int)) ∈ TW := tw_in 1657 (by decide +kernel) rfl
theorem tw_1658 : (Jvm.Cond.methodLink "NineMapsModel" (221 : Nat) ({ cls := "NineMapsModel", name := "knownMark", desc := "()I" } : Jvm.MethodName)) ∈ TW := tw_in 1658 (by decide +kernel) rfl
theorem tw_1660 : (Jvm.Cond.instanceMethod ({ cls := "NineMapsModel", name := "knownMark", desc := "()I" } : Jvm.MethodName)) ∈ TW := tw_in 1660 (by decide +kernel) rfl
theorem tw_1661 : (Jvm.Cond.code ({ cls := "NineMapsModel", name := "knownMark", desc := "()I" } : Jvm.MethodName) prog_12_method_28_code (1 : Nat) (Option.some Jvm.ClassFile.FieldType.int)) ∈ TW := tw_in 1661 (by decide +kernel) rfl
theorem tw_1662 : (Jvm.Cond.methodLink "NineMapsModel" (242 : Nat) ({ cls := "NineMapsModel", name := "readGuess", desc := "()V" } : Jvm.MethodName)) ∈ TW := tw_in 1662 (by decide +kernel) rfl
theorem tw_1664 : (Jvm.Cond.instanceMethod ({ cls := "NineMapsModel", name := "readGuess", desc := "()V" } : Jvm.MethodName)) ∈ TW := tw_in 1664 (by decide +kernel) rfl
theorem tw_1665 : (Jvm.Cond.code ({ cls := "NineMapsModel", name := "readGuess", desc := "()V" } : Jvm.MethodName) prog_12_method_38_code (1 : Nat) (Option.none : Option Jvm.ClassFile.FieldType)) ∈ TW := tw_in 1665 (by decide +kernel) rfl
theorem tw_1666 : (Jvm.Cond.methodLink "NineMapsModel" (245 : Nat) ({ cls := "NineMapsModel", name := "readSeen", desc := "()V" } : Jvm.MethodName)) ∈ TW := tw_in 1666 (by decide +kernel) rfl
theorem tw_1668 : (Jvm.Cond.instanceMethod ({ cls := "NineMapsModel", name := "readSeen", desc := "()V" } : Jvm.MethodName)) ∈ TW := tw_in 1668 (by decide +kernel) rfl
theorem tw_1669 : (Jvm.Cond.code ({ cls := "NineMapsModel", name := "readSeen", desc := "()V" } : Jvm.MethodName) prog_12_method_39_code (6 : Nat) (Option.none : Option Jvm.ClassFile.FieldType)) ∈ TW := tw_in 1669 (by decide +kernel) rfl
theorem tw_1670 : (Jvm.Cond.methodLink "NineMapsModel" (88 : Nat) ({ cls := "NineMapsModel", name := "good", desc := "(I)I" } : Jvm.MethodName)) ∈ TW := tw_in 1670 (by decide +kernel) rfl
theorem tw_1672 : (Jvm.Cond.instanceMethod ({ cls := "NineMapsModel", name := "good", desc := "(I)I" } : Jvm.MethodName)) ∈ TW := tw_in 1672 (by decide +kernel) rfl
theorem tw_1673 : (Jvm.Cond.code ({ cls := "NineMapsModel", name := "good", desc := "(I)I" } : Jvm.MethodName) prog_12_method_5_code (2 : Nat) (Option.some Jvm.ClassFile.FieldType.int)) ∈ TW := tw_in 1673 (by decide +kernel) rfl
theorem tw_1686 : (Jvm.Cond.methodLink "NineMapsModel" (349 : Nat) ({ cls := "NineMapsModel", name := "isTown", desc := "(I)Z" } : Jvm.MethodName)) ∈ TW := tw_in 1686 (by decide +kernel) rfl
theorem tw_1688 : (Jvm.Cond.instanceMethod ({ cls := "NineMapsModel", name := "isTown", desc := "(I)Z" } : Jvm.MethodName)) ∈ TW := tw_in 1688 (by decide +kernel) rfl
theorem tw_1689 : (Jvm.Cond.code ({ cls := "NineMapsModel", name := "isTown", desc := "(I)Z" } : Jvm.MethodName) prog_12_method_44_code (2 : Nat) (Option.some Jvm.ClassFile.FieldType.boolean)) ∈ TW := tw_in 1689 (by decide +kernel) rfl
theorem tw_1698 : (Jvm.Cond.methodLink "NineMapsModel" (392 : Nat) ({ cls := "NineMapsModel", name := "isPlace", desc := "(II)Z" } : Jvm.MethodName)) ∈ TW := tw_in 1698 (by decide +kernel) rfl
theorem tw_1700 : (Jvm.Cond.instanceMethod ({ cls := "NineMapsModel", name := "isPlace", desc := "(II)Z" } : Jvm.MethodName)) ∈ TW := tw_in 1700 (by decide +kernel) rfl
theorem tw_1701 : (Jvm.Cond.code ({ cls := "NineMapsModel", name := "isPlace", desc := "(II)Z" } : Jvm.MethodName) prog_12_method_48_code (3 : Nat) (Option.some Jvm.ClassFile.FieldType.boolean)) ∈ TW := tw_in 1701 (by decide +kernel) rfl
theorem tw_1702 : (Jvm.Cond.methodLink "NineMapsModel" (352 : Nat) ({ cls := "NineMapsModel", name := "placeOf", desc := "(I)I" } : Jvm.MethodName)) ∈ TW := tw_in 1702 (by decide +kernel) rfl
theorem tw_1704 : (Jvm.Cond.instanceMethod ({ cls := "NineMapsModel", name := "placeOf", desc := "(I)I" } : Jvm.MethodName)) ∈ TW := tw_in 1704 (by decide +kernel) rfl
theorem tw_1705 : (Jvm.Cond.code ({ cls := "NineMapsModel", name := "placeOf", desc := "(I)I" } : Jvm.MethodName) prog_12_method_46_code (4 : Nat) (Option.some Jvm.ClassFile.FieldType.int)) ∈ TW := tw_in 1705 (by decide +kernel) rfl
theorem tw_1714 : (Jvm.Cond.methodLink "NineMapsModel" (402 : Nat) ({ cls := "NineMapsModel", name := "asks", desc := "(ZI)I" } : Jvm.MethodName)) ∈ TW := tw_in 1714 (by decide +kernel) rfl
theorem tw_1716 : (Jvm.Cond.instanceMethod ({ cls := "NineMapsModel", name := "asks", desc := "(ZI)I" } : Jvm.MethodName)) ∈ TW := tw_in 1716 (by decide +kernel) rfl
theorem tw_1717 : (Jvm.Cond.code ({ cls := "NineMapsModel", name := "asks", desc := "(ZI)I" } : Jvm.MethodName) prog_12_method_65_code (3 : Nat) (Option.some Jvm.ClassFile.FieldType.int)) ∈ TW := tw_in 1717 (by decide +kernel) rfl
theorem tw_1718 : (Jvm.Cond.methodLink "NineMapsModel" (396 : Nat) ({ cls := "NineMapsModel", name := "starts", desc := "()V" } : Jvm.MethodName)) ∈ TW := tw_in 1718 (by decide +kernel) rfl
theorem tw_1720 : (Jvm.Cond.instanceMethod ({ cls := "NineMapsModel", name := "starts", desc := "()V" } : Jvm.MethodName)) ∈ TW := tw_in 1720 (by decide +kernel) rfl
theorem tw_1721 : (Jvm.Cond.code ({ cls := "NineMapsModel", name := "starts", desc := "()V" } : Jvm.MethodName) prog_12_method_49_code (3 : Nat) (Option.none : Option Jvm.ClassFile.FieldType)) ∈ TW := tw_in 1721 (by decide +kernel) rfl
theorem tw_1722 : (Jvm.Cond.methodLink "NineMapsModel" (399 : Nat) ({ cls := "NineMapsModel", name := "steps", desc := "(I)V" } : Jvm.MethodName)) ∈ TW := tw_in 1722 (by decide +kernel) rfl
theorem tw_1724 : (Jvm.Cond.instanceMethod ({ cls := "NineMapsModel", name := "steps", desc := "(I)V" } : Jvm.MethodName)) ∈ TW := tw_in 1724 (by decide +kernel) rfl
theorem tw_1725 : (Jvm.Cond.code ({ cls := "NineMapsModel", name := "steps", desc := "(I)V" } : Jvm.MethodName) prog_12_method_57_code (3 : Nat) (Option.none : Option Jvm.ClassFile.FieldType)) ∈ TW := tw_in 1725 (by decide +kernel) rfl
theorem tw_1726 : (Jvm.Cond.methodLink "NineMapsModel" (370 : Nat) ({ cls := "NineMapsModel", name := "step", desc := "(I)V" } : Jvm.MethodName)) ∈ TW := tw_in 1726 (by decide +kernel) rfl
theorem tw_1728 : (Jvm.Cond.instanceMethod ({ cls := "NineMapsModel", name := "step", desc := "(I)V" } : Jvm.MethodName)) ∈ TW := tw_in 1728 (by decide +kernel) rfl
theorem tw_1729 : (Jvm.Cond.code ({ cls := "NineMapsModel", name := "step", desc := "(I)V" } : Jvm.MethodName) prog_12_method_58_code (7 : Nat) (Option.none : Option Jvm.ClassFile.FieldType)) ∈ TW := tw_in 1729 (by decide +kernel) rfl
theorem tw_1730 : (Jvm.Cond.methodLink "NineMapsModel" (373 : Nat) ({ cls := "NineMapsModel$Ring", name := "all", desc := "()I" } : Jvm.MethodName)) ∈ TW := tw_in 1730 (by decide +kernel) rfl
theorem tw_1731 : (Jvm.Cond.instanceMethod ({ cls := "NineMapsModel$Ring", name := "all", desc := "()I" } : Jvm.MethodName)) ∈ TW := tw_in 1731 (by decide +kernel) rfl
theorem tw_1732 : (Jvm.Cond.selects "NineMapsModel$Ring" ({ cls := "NineMapsModel$Ring", name := "all", desc := "()I" } : Jvm.MethodName) ({ cls := "NineMapsModel$Ring", name := "all", desc := "()I" } : Jvm.MethodName)) ∈ TW := tw_in 1732 (by decide +kernel) rfl
theorem tw_1733 : (Jvm.Cond.code ({ cls := "NineMapsModel$Ring", name := "all", desc := "()I" } : Jvm.MethodName) prog_13_method_3_code (1 : Nat) (Option.some Jvm.ClassFile.FieldType.int)) ∈ TW := tw_in 1733 (by decide +kernel) rfl
theorem tw_1734 : (Jvm.Cond.methodLink "NineMapsModel" (376 : Nat) ({ cls := "NineMapsModel", name := "marked", desc := "(III)I" } : Jvm.MethodName)) ∈ TW := tw_in 1734 (by decide +kernel) rfl
theorem tw_1736 : (Jvm.Cond.instanceMethod ({ cls := "NineMapsModel", name := "marked", desc := "(III)I" } : Jvm.MethodName)) ∈ TW := tw_in 1736 (by decide +kernel) rfl
theorem tw_1737 : (Jvm.Cond.code ({ cls := "NineMapsModel", name := "marked", desc := "(III)I" } : Jvm.MethodName) prog_12_method_59_code (7 : Nat) (Option.some Jvm.ClassFile.FieldType.int)) ∈ TW := tw_in 1737 (by decide +kernel) rfl
theorem tw_1738 : (Jvm.Cond.methodLink "NineMapsModel" (386 : Nat) ({ cls := "NineMapsModel", name := "from", desc := "(II)I" } : Jvm.MethodName)) ∈ TW := tw_in 1738 (by decide +kernel) rfl
theorem tw_1740 : (Jvm.Cond.instanceMethod ({ cls := "NineMapsModel", name := "from", desc := "(II)I" } : Jvm.MethodName)) ∈ TW := tw_in 1740 (by decide +kernel) rfl
theorem tw_1741 : (Jvm.Cond.code ({ cls := "NineMapsModel", name := "from", desc := "(II)I" } : Jvm.MethodName) prog_12_method_54_code (7 : Nat) (Option.some Jvm.ClassFile.FieldType.int)) ∈ TW := tw_in 1741 (by decide +kernel) rfl
theorem tw_1742 : (Jvm.Cond.methodLink "NineMapsModel" (358 : Nat) ({ cls := "NineMapsModel", name := "column", desc := "(I)I" } : Jvm.MethodName)) ∈ TW := tw_in 1742 (by decide +kernel) rfl
theorem tw_1744 : (Jvm.Cond.instanceMethod ({ cls := "NineMapsModel", name := "column", desc := "(I)I" } : Jvm.MethodName)) ∈ TW := tw_in 1744 (by decide +kernel) rfl
theorem tw_1745 : (Jvm.Cond.code ({ cls := "NineMapsModel", name := "column", desc := "(I)I" } : Jvm.MethodName) prog_12_method_51_code (2 : Nat) (Option.some Jvm.ClassFile.FieldType.int)) ∈ TW := tw_in 1745 (by decide +kernel) rfl
theorem tw_1746 : (Jvm.Cond.methodLink "NineMapsModel" (361 : Nat) ({ cls := "NineMapsModel", name := "rowOf", desc := "(I)I" } : Jvm.MethodName)) ∈ TW := tw_in 1746 (by decide +kernel) rfl
theorem tw_1748 : (Jvm.Cond.instanceMethod ({ cls := "NineMapsModel", name := "rowOf", desc := "(I)I" } : Jvm.MethodName)) ∈ TW := tw_in 1748 (by decide +kernel) rfl
theorem tw_1749 : (Jvm.Cond.code ({ cls := "NineMapsModel", name := "rowOf", desc := "(I)I" } : Jvm.MethodName) prog_12_method_52_code (2 : Nat) (Option.some Jvm.ClassFile.FieldType.int)) ∈ TW := tw_in 1749 (by decide +kernel) rfl
theorem tw_1750 : (Jvm.Cond.methodLink "NineMapsModel" (364 : Nat) ({ cls := "NineMapsModel", name := "at", desc := "(II)I" } : Jvm.MethodName)) ∈ TW := tw_in 1750 (by decide +kernel) rfl
theorem tw_1752 : (Jvm.Cond.instanceMethod ({ cls := "NineMapsModel", name := "at", desc := "(II)I" } : Jvm.MethodName)) ∈ TW := tw_in 1752 (by decide +kernel) rfl
theorem tw_1753 : (Jvm.Cond.code ({ cls := "NineMapsModel", name := "at", desc := "(II)I" } : Jvm.MethodName) prog_12_method_53_code (3 : Nat) (Option.some Jvm.ClassFile.FieldType.int)) ∈ TW := tw_in 1753 (by decide +kernel) rfl
theorem tw_1754 : (Jvm.Cond.methodLink "NineMapsModel" (389 : Nat) ({ cls := "NineMapsModel", name := "stainedBy", desc := "(III)I" } : Jvm.MethodName)) ∈ TW := tw_in 1754 (by decide +kernel) rfl
theorem tw_1756 : (Jvm.Cond.instanceMethod ({ cls := "NineMapsModel", name := "stainedBy", desc := "(III)I" } : Jvm.MethodName)) ∈ TW := tw_in 1756 (by decide +kernel) rfl
theorem tw_1757 : (Jvm.Cond.code ({ cls := "NineMapsModel", name := "stainedBy", desc := "(III)I" } : Jvm.MethodName) prog_12_method_56_code (6 : Nat) (Option.some Jvm.ClassFile.FieldType.int)) ∈ TW := tw_in 1757 (by decide +kernel) rfl
theorem tw_1758 : (Jvm.Cond.methodLink "NineMapsModel" (367 : Nat) ({ cls := "NineMapsModel", name := "beside", desc := "(II)I" } : Jvm.MethodName)) ∈ TW := tw_in 1758 (by decide +kernel) rfl
theorem tw_1760 : (Jvm.Cond.instanceMethod ({ cls := "NineMapsModel", name := "beside", desc := "(II)I" } : Jvm.MethodName)) ∈ TW := tw_in 1760 (by decide +kernel) rfl
theorem tw_1761 : (Jvm.Cond.code ({ cls := "NineMapsModel", name := "beside", desc := "(II)I" } : Jvm.MethodName) prog_12_method_55_code (5 : Nat) (Option.some Jvm.ClassFile.FieldType.int)) ∈ TW := tw_in 1761 (by decide +kernel) rfl
theorem tw_1762 : (Jvm.Cond.constantLong "NineMapsModel" (380 : Nat) (75 : Int64)) ∈ TW := tw_in 1762 (by decide +kernel) rfl
theorem tw_1763 : (Jvm.Cond.constantLong "NineMapsModel" (382 : Nat) (74 : Int64)) ∈ TW := tw_in 1763 (by decide +kernel) rfl
theorem tw_1764 : (Jvm.Cond.constantLong "NineMapsModel" (384 : Nat) (65537 : Int64)) ∈ TW := tw_in 1764 (by decide +kernel) rfl
theorem tw_1765 : (Jvm.Cond.methodLink "NineMapsModel" (406 : Nat) ({ cls := "NineMapsModel", name := "behind", desc := "(III)I" } : Jvm.MethodName)) ∈ TW := tw_in 1765 (by decide +kernel) rfl
theorem tw_1767 : (Jvm.Cond.instanceMethod ({ cls := "NineMapsModel", name := "behind", desc := "(III)I" } : Jvm.MethodName)) ∈ TW := tw_in 1767 (by decide +kernel) rfl
theorem tw_1768 : (Jvm.Cond.code ({ cls := "NineMapsModel", name := "behind", desc := "(III)I" } : Jvm.MethodName) prog_12_method_60_code (4 : Nat) (Option.some Jvm.ClassFile.FieldType.int)) ∈ TW := tw_in 1768 (by decide +kernel) rfl
theorem tw_1773 : (Jvm.Cond.methodLink "NineMapsModel" (409 : Nat) ({ cls := "NineMapsModel", name := "isMark", desc := "(I)Z" } : Jvm.MethodName)) ∈ TW := tw_in 1773 (by decide +kernel) rfl
theorem tw_1775 : (Jvm.Cond.instanceMethod ({ cls := "NineMapsModel", name := "isMark", desc := "(I)Z" } : Jvm.MethodName)) ∈ TW := tw_in 1775 (by decide +kernel) rfl
theorem tw_1776 : (Jvm.Cond.code ({ cls := "NineMapsModel", name := "isMark", desc := "(I)Z" } : Jvm.MethodName) prog_12_method_45_code (2 : Nat) (Option.some Jvm.ClassFile.FieldType.boolean)) ∈ TW := tw_in 1776 (by decide +kernel) rfl
theorem tw_1793 : (Jvm.Cond.methodLink "NineMapsModel" (415 : Nat) ({ cls := "NineMapsModel", name := "areasOf", desc := "(II)I" } : Jvm.MethodName)) ∈ TW := tw_in 1793 (by decide +kernel) rfl
theorem tw_1795 : (Jvm.Cond.instanceMethod ({ cls := "NineMapsModel", name := "areasOf", desc := "(II)I" } : Jvm.MethodName)) ∈ TW := tw_in 1795 (by decide +kernel) rfl
theorem tw_1796 : (Jvm.Cond.code ({ cls := "NineMapsModel", name := "areasOf", desc := "(II)I" } : Jvm.MethodName) prog_12_method_71_code (9 : Nat) (Option.some Jvm.ClassFile.FieldType.int)) ∈ TW := tw_in 1796 (by decide +kernel) rfl
theorem tw_1805 : (Jvm.Cond.constantLong "NineMapsModel" (418 : Nat) (10 : Int64)) ∈ TW := tw_in 1805 (by decide +kernel) rfl
theorem tw_1806 : (Jvm.Cond.methodLink "NineMapsModel" (420 : Nat) ({ cls := "NineMapsModel", name := "fraction", desc := "(JJZ)J" } : Jvm.MethodName)) ∈ TW := tw_in 1806 (by decide +kernel) rfl
theorem tw_1808 : (Jvm.Cond.instanceMethod ({ cls := "NineMapsModel", name := "fraction", desc := "(JJZ)J" } : Jvm.MethodName)) ∈ TW := tw_in 1808 (by decide +kernel) rfl
theorem tw_1809 : (Jvm.Cond.code ({ cls := "NineMapsModel", name := "fraction", desc := "(JJZ)J" } : Jvm.MethodName) prog_12_method_9_code (6 : Nat) (Option.some Jvm.ClassFile.FieldType.long)) ∈ TW := tw_in 1809 (by decide +kernel) rfl
theorem tw_1810 : (Jvm.Cond.methodLink "NineMapsModel" (91 : Nat) ({ cls := "NineMapsModel", name := "common", desc := "(JJ)J" } : Jvm.MethodName)) ∈ TW := tw_in 1810 (by decide +kernel) rfl
theorem tw_1811 : (Jvm.Cond.static ({ cls := "NineMapsModel", name := "common", desc := "(JJ)J" } : Jvm.MethodName)) ∈ TW := tw_in 1811 (by decide +kernel) rfl
theorem tw_1812 : (Jvm.Cond.code ({ cls := "NineMapsModel", name := "common", desc := "(JJ)J" } : Jvm.MethodName) prog_12_method_8_code (10 : Nat) (Option.some Jvm.ClassFile.FieldType.long)) ∈ TW := tw_in 1812 (by decide +kernel) rfl
theorem tw_1817 : (Jvm.Cond.methodLink "NineMapsModel" (426 : Nat) ({ cls := "NineMapsModel", name := "sumOf", desc := "(I)J" } : Jvm.MethodName)) ∈ TW := tw_in 1817 (by decide +kernel) rfl
theorem tw_1819 : (Jvm.Cond.instanceMethod ({ cls := "NineMapsModel", name := "sumOf", desc := "(I)J" } : Jvm.MethodName)) ∈ TW := tw_in 1819 (by decide +kernel) rfl
theorem tw_1820 : (Jvm.Cond.code ({ cls := "NineMapsModel", name := "sumOf", desc := "(I)J" } : Jvm.MethodName) prog_12_method_76_code (6 : Nat) (Option.some Jvm.ClassFile.FieldType.long)) ∈ TW := tw_in 1820 (by decide +kernel) rfl
theorem tw_1821 : (Jvm.Cond.constantLong "NineMapsModel" (424 : Nat) (7 : Int64)) ∈ TW := tw_in 1821 (by decide +kernel) rfl
theorem tw_1822 : (Jvm.Cond.methodLink "NineMapsModel" (430 : Nat) ({ cls := "NineMapsModel", name := "isSame", desc := "(II)Z" } : Jvm.MethodName)) ∈ TW := tw_in 1822 (by decide +kernel) rfl
theorem tw_1824 : (Jvm.Cond.instanceMethod ({ cls := "NineMapsModel", name := "isSame", desc := "(II)Z" } : Jvm.MethodName)) ∈ TW := tw_in 1824 (by decide +kernel) rfl
theorem tw_1825 : (Jvm.Cond.code ({ cls := "NineMapsModel", name := "isSame", desc := "(II)Z" } : Jvm.MethodName) prog_12_method_75_code (5 : Nat) (Option.some Jvm.ClassFile.FieldType.boolean)) ∈ TW := tw_in 1825 (by decide +kernel) rfl
theorem tw_1830 : (Jvm.Cond.methodLink "NineMapsModel" (433 : Nat) ({ cls := "NineMapsModel", name := "cameFrom", desc := "(III)I" } : Jvm.MethodName)) ∈ TW := tw_in 1830 (by decide +kernel) rfl
theorem tw_1832 : (Jvm.Cond.instanceMethod ({ cls := "NineMapsModel", name := "cameFrom", desc := "(III)I" } : Jvm.MethodName)) ∈ TW := tw_in 1832 (by decide +kernel) rfl
theorem tw_1833 : (Jvm.Cond.code ({ cls := "NineMapsModel", name := "cameFrom", desc := "(III)I" } : Jvm.MethodName) prog_12_method_79_code (6 : Nat) (Option.some Jvm.ClassFile.FieldType.int)) ∈ TW := tw_in 1833 (by decide +kernel) rfl
theorem tw_1834 : (Jvm.Cond.methodLink "NineMapsModel" (436 : Nat) ({ cls := "NineMapsModel", name := "told", desc := "(I)I" } : Jvm.MethodName)) ∈ TW := tw_in 1834 (by decide +kernel) rfl
theorem tw_1836 : (Jvm.Cond.instanceMethod ({ cls := "NineMapsModel", name := "told", desc := "(I)I" } : Jvm.MethodName)) ∈ TW := tw_in 1836 (by decide +kernel) rfl
theorem tw_1837 : (Jvm.Cond.code ({ cls := "NineMapsModel", name := "told", desc := "(I)I" } : Jvm.MethodName) prog_12_method_47_code (2 : Nat) (Option.some Jvm.ClassFile.FieldType.int)) ∈ TW := tw_in 1837 (by decide +kernel) rfl
theorem tw_1854 : (Jvm.Cond.methodLink "NineMapsModel" (456 : Nat) ({ cls := "NineMapsModel", name := "refusesStrokes", desc := "(IIIIII)I" } : Jvm.MethodName)) ∈ TW := tw_in 1854 (by decide +kernel) rfl
theorem tw_1856 : (Jvm.Cond.instanceMethod ({ cls := "NineMapsModel", name := "refusesStrokes", desc := "(IIIIII)I" } : Jvm.MethodName)) ∈ TW := tw_in 1856 (by decide +kernel) rfl
theorem tw_1857 : (Jvm.Cond.code ({ cls := "NineMapsModel", name := "refusesStrokes", desc := "(IIIIII)I" } : Jvm.MethodName) prog_12_method_88_code (7 : Nat) (Option.some Jvm.ClassFile.FieldType.int)) ∈ TW := tw_in 1857 (by decide +kernel) rfl
theorem tw_1858 : (Jvm.Cond.methodLink "NineMapsModel" (460 : Nat) ({ cls := "NineMapsModel", name := "strokesOf", desc := "(IIIIII)I" } : Jvm.MethodName)) ∈ TW := tw_in 1858 (by decide +kernel) rfl
theorem tw_1860 : (Jvm.Cond.instanceMethod ({ cls := "NineMapsModel", name := "strokesOf", desc := "(IIIIII)I" } : Jvm.MethodName)) ∈ TW := tw_in 1860 (by decide +kernel) rfl
theorem tw_1861 : (Jvm.Cond.code ({ cls := "NineMapsModel", name := "strokesOf", desc := "(IIIIII)I" } : Jvm.MethodName) prog_12_method_86_code (10 : Nat) (Option.some Jvm.ClassFile.FieldType.int)) ∈ TW := tw_in 1861 (by decide +kernel) rfl
theorem tw_1862 : (Jvm.Cond.methodLink "NineMapsModel" (445 : Nat) ({ cls := "NineMapsModel", name := "laysBears", desc := "(IIII)V" } : Jvm.MethodName)) ∈ TW := tw_in 1862 (by decide +kernel) rfl
theorem tw_1864 : (Jvm.Cond.instanceMethod ({ cls := "NineMapsModel", name := "laysBears", desc := "(IIII)V" } : Jvm.MethodName)) ∈ TW := tw_in 1864 (by decide +kernel) rfl
theorem tw_1865 : (Jvm.Cond.code ({ cls := "NineMapsModel", name := "laysBears", desc := "(IIII)V" } : Jvm.MethodName) prog_12_method_83_code (8 : Nat) (Option.none : Option Jvm.ClassFile.FieldType)) ∈ TW := tw_in 1865 (by decide +kernel) rfl
theorem tw_1866 : (Jvm.Cond.methodLink "NineMapsModel" (439 : Nat) ({ cls := "NineMapsModel", name := "hangsBy", desc := "(II)V" } : Jvm.MethodName)) ∈ TW := tw_in 1866 (by decide +kernel) rfl
theorem tw_1868 : (Jvm.Cond.instanceMethod ({ cls := "NineMapsModel", name := "hangsBy", desc := "(II)V" } : Jvm.MethodName)) ∈ TW := tw_in 1868 (by decide +kernel) rfl
theorem tw_1869 : (Jvm.Cond.code ({ cls := "NineMapsModel", name := "hangsBy", desc := "(II)V" } : Jvm.MethodName) prog_12_method_84_code (5 : Nat) (Option.none : Option Jvm.ClassFile.FieldType)) ∈ TW := tw_in 1869 (by decide +kernel) rfl
theorem tw_1870 : (Jvm.Cond.methodLink "NineMapsModel" (449 : Nat) ({ cls := "NineMapsModel", name := "isDrawn", desc := "(IIIIIII)Z" } : Jvm.MethodName)) ∈ TW := tw_in 1870 (by decide +kernel) rfl
theorem tw_1872 : (Jvm.Cond.instanceMethod ({ cls := "NineMapsModel", name := "isDrawn", desc := "(IIIIIII)Z" } : Jvm.MethodName)) ∈ TW := tw_in 1872 (by decide +kernel) rfl
theorem tw_1873 : (Jvm.Cond.code ({ cls := "NineMapsModel", name := "isDrawn", desc := "(IIIIIII)Z" } : Jvm.MethodName) prog_12_method_85_code (9 : Nat) (Option.some Jvm.ClassFile.FieldType.boolean)) ∈ TW := tw_in 1873 (by decide +kernel) rfl
theorem tw_1874 : (Jvm.Cond.methodLink "NineMapsModel" (453 : Nat) ({ cls := "NineMapsModel", name := "nextStrokes", desc := "(I)Z" } : Jvm.MethodName)) ∈ TW := tw_in 1874 (by decide +kernel) rfl
theorem tw_1876 : (Jvm.Cond.instanceMethod ({ cls := "NineMapsModel", name := "nextStrokes", desc := "(I)Z" } : Jvm.MethodName)) ∈ TW := tw_in 1876 (by decide +kernel) rfl
theorem tw_1877 : (Jvm.Cond.code ({ cls := "NineMapsModel", name := "nextStrokes", desc := "(I)Z" } : Jvm.MethodName) prog_12_method_87_code (4 : Nat) (Option.some Jvm.ClassFile.FieldType.boolean)) ∈ TW := tw_in 1877 (by decide +kernel) rfl
theorem tw_1886 : (Jvm.Cond.methodLink "NineMapsModel" (463 : Nat) ({ cls := "NineMapsModel", name := "isEdge", desc := "(I)Z" } : Jvm.MethodName)) ∈ TW := tw_in 1886 (by decide +kernel) rfl
theorem tw_1888 : (Jvm.Cond.instanceMethod ({ cls := "NineMapsModel", name := "isEdge", desc := "(I)Z" } : Jvm.MethodName)) ∈ TW := tw_in 1888 (by decide +kernel) rfl
theorem tw_1889 : (Jvm.Cond.code ({ cls := "NineMapsModel", name := "isEdge", desc := "(I)Z" } : Jvm.MethodName) prog_12_method_91_code (2 : Nat) (Option.some Jvm.ClassFile.FieldType.boolean)) ∈ TW := tw_in 1889 (by decide +kernel) rfl
theorem tw_1894 : (Jvm.Cond.methodLink "NineMapsModel" (466 : Nat) ({ cls := "NineMapsModel", name := "startsTold", desc := "()V" } : Jvm.MethodName)) ∈ TW := tw_in 1894 (by decide +kernel) rfl
theorem tw_1896 : (Jvm.Cond.instanceMethod ({ cls := "NineMapsModel", name := "startsTold", desc := "()V" } : Jvm.MethodName)) ∈ TW := tw_in 1896 (by decide +kernel) rfl
theorem tw_1897 : (Jvm.Cond.code ({ cls := "NineMapsModel", name := "startsTold", desc := "()V" } : Jvm.MethodName) prog_12_method_50_code (3 : Nat) (Option.none : Option Jvm.ClassFile.FieldType)) ∈ TW := tw_in 1897 (by decide +kernel) rfl
theorem tw_1898 : (Jvm.Cond.methodLink "NineMapsModel" (469 : Nat) ({ cls := "NineMapsModel", name := "latestSeen", desc := "()I" } : Jvm.MethodName)) ∈ TW := tw_in 1898 (by decide +kernel) rfl
theorem tw_1900 : (Jvm.Cond.instanceMethod ({ cls := "NineMapsModel", name := "latestSeen", desc := "()I" } : Jvm.MethodName)) ∈ TW := tw_in 1900 (by decide +kernel) rfl
theorem tw_1901 : (Jvm.Cond.code ({ cls := "NineMapsModel", name := "latestSeen", desc := "()I" } : Jvm.MethodName) prog_12_method_94_code (3 : Nat) (Option.some Jvm.ClassFile.FieldType.int)) ∈ TW := tw_in 1901 (by decide +kernel) rfl
theorem tw_1902 : (Jvm.Cond.methodLink "NineMapsModel" (472 : Nat) ({ cls := "NineMapsModel", name := "firstUnseen", desc := "()I" } : Jvm.MethodName)) ∈ TW := tw_in 1902 (by decide +kernel) rfl
theorem tw_1904 : (Jvm.Cond.instanceMethod ({ cls := "NineMapsModel", name := "firstUnseen", desc := "()I" } : Jvm.MethodName)) ∈ TW := tw_in 1904 (by decide +kernel) rfl
theorem tw_1905 : (Jvm.Cond.code ({ cls := "NineMapsModel", name := "firstUnseen", desc := "()I" } : Jvm.MethodName) prog_12_method_93_code (2 : Nat) (Option.some Jvm.ClassFile.FieldType.int)) ∈ TW := tw_in 1905 (by decide +kernel) rfl
theorem tw_1910 : (Jvm.Cond.methodLink "NineMapsModel" (481 : Nat) ({ cls := "NineMapsModel", name := "refusesFits", desc := "()I" } : Jvm.MethodName)) ∈ TW := tw_in 1910 (by decide +kernel) rfl
theorem tw_1912 : (Jvm.Cond.instanceMethod ({ cls := "NineMapsModel", name := "refusesFits", desc := "()I" } : Jvm.MethodName)) ∈ TW := tw_in 1912 (by decide +kernel) rfl
theorem tw_1913 : (Jvm.Cond.code ({ cls := "NineMapsModel", name := "refusesFits", desc := "()I" } : Jvm.MethodName) prog_12_method_99_code (1 : Nat) (Option.some Jvm.ClassFile.FieldType.int)) ∈ TW := tw_in 1913 (by decide +kernel) rfl
theorem tw_1914 : (Jvm.Cond.methodLink "NineMapsModel" (484 : Nat) ({ cls := "NineMapsModel", name := "fitting", desc := "(I)I" } : Jvm.MethodName)) ∈ TW := tw_in 1914 (by decide +kernel) rfl
theorem tw_1916 : (Jvm.Cond.instanceMethod ({ cls := "NineMapsModel", name := "fitting", desc := "(I)I" } : Jvm.MethodName)) ∈ TW := tw_in 1916 (by decide +kernel) rfl
theorem tw_1917 : (Jvm.Cond.code ({ cls := "NineMapsModel", name := "fitting", desc := "(I)I" } : Jvm.MethodName) prog_12_method_97_code (6 : Nat) (Option.some Jvm.ClassFile.FieldType.int)) ∈ TW := tw_in 1917 (by decide +kernel) rfl
theorem tw_1918 : (Jvm.Cond.methodLink "NineMapsModel" (475 : Nat) ({ cls := "NineMapsModel", name := "isUnknown", desc := "(I)Z" } : Jvm.MethodName)) ∈ TW := tw_in 1918 (by decide +kernel) rfl
theorem tw_1920 : (Jvm.Cond.instanceMethod ({ cls := "NineMapsModel", name := "isUnknown", desc := "(I)Z" } : Jvm.MethodName)) ∈ TW := tw_in 1920 (by decide +kernel) rfl
theorem tw_1921 : (Jvm.Cond.code ({ cls := "NineMapsModel", name := "isUnknown", desc := "(I)Z" } : Jvm.MethodName) prog_12_method_96_code (2 : Nat) (Option.some Jvm.ClassFile.FieldType.boolean)) ∈ TW := tw_in 1921 (by decide +kernel) rfl
theorem tw_1922 : (Jvm.Cond.methodLink "NineMapsModel" (478 : Nat) ({ cls := "NineMapsModel", name := "nextRow", desc := "()Z" } : Jvm.MethodName)) ∈ TW := tw_in 1922 (by decide +kernel) rfl
theorem tw_1924 : (Jvm.Cond.instanceMethod ({ cls := "NineMapsModel", name := "nextRow", desc := "()Z" } : Jvm.MethodName)) ∈ TW := tw_in 1924 (by decide +kernel) rfl
theorem tw_1925 : (Jvm.Cond.code ({ cls := "NineMapsModel", name := "nextRow", desc := "()Z" } : Jvm.MethodName) prog_12_method_98_code (2 : Nat) (Option.some Jvm.ClassFile.FieldType.boolean)) ∈ TW := tw_in 1925 (by decide +kernel) rfl
theorem tw_1938 : (Jvm.Cond.methodLink "NineMapsModel" (487 : Nat) ({ cls := "NineMapsModel", name := "remembers", desc := "()V" } : Jvm.MethodName)) ∈ TW := tw_in 1938 (by decide +kernel) rfl
theorem tw_1940 : (Jvm.Cond.instanceMethod ({ cls := "NineMapsModel", name := "remembers", desc := "()V" } : Jvm.MethodName)) ∈ TW := tw_in 1940 (by decide +kernel) rfl
theorem tw_1941 : (Jvm.Cond.code ({ cls := "NineMapsModel", name := "remembers", desc := "()V" } : Jvm.MethodName) prog_12_method_103_code (2 : Nat) (Option.none : Option Jvm.ClassFile.FieldType)) ∈ TW := tw_in 1941 (by decide +kernel) rfl
theorem tw_1946 : (Jvm.Cond.methodLink "NineMapsModel" (490 : Nat) ({ cls := "NineMapsModel", name := "denied", desc := "(I)Z" } : Jvm.MethodName)) ∈ TW := tw_in 1946 (by decide +kernel) rfl
theorem tw_1948 : (Jvm.Cond.instanceMethod ({ cls := "NineMapsModel", name := "denied", desc := "(I)Z" } : Jvm.MethodName)) ∈ TW := tw_in 1948 (by decide +kernel) rfl
theorem tw_1949 : (Jvm.Cond.code ({ cls := "NineMapsModel", name := "denied", desc := "(I)Z" } : Jvm.MethodName) prog_12_method_4_code (2 : Nat) (Option.some Jvm.ClassFile.FieldType.boolean)) ∈ TW := tw_in 1949 (by decide +kernel) rfl
theorem tw_1950 : (Jvm.Cond.methodLink "NineMapsModel" (493 : Nat) ({ cls := "NineMapsModel", name := "granted", desc := "()Z" } : Jvm.MethodName)) ∈ TW := tw_in 1950 (by decide +kernel) rfl
theorem tw_1952 : (Jvm.Cond.instanceMethod ({ cls := "NineMapsModel", name := "granted", desc := "()Z" } : Jvm.MethodName)) ∈ TW := tw_in 1952 (by decide +kernel) rfl
theorem tw_1953 : (Jvm.Cond.code ({ cls := "NineMapsModel", name := "granted", desc := "()Z" } : Jvm.MethodName) prog_12_method_6_code (1 : Nat) (Option.some Jvm.ClassFile.FieldType.boolean)) ∈ TW := tw_in 1953 (by decide +kernel) rfl
theorem tw_1966 : (Jvm.Cond.constant "NineMapsModel" (496 : Nat) (65536 : Int32)) ∈ TW := tw_in 1966 (by decide +kernel) rfl
theorem tw_1983 : (Jvm.Cond.methodLink "NineMapsModel" (497 : Nat) ({ cls := "NineMapsModel", name := "isAsFirst", desc := "(I)Z" } : Jvm.MethodName)) ∈ TW := tw_in 1983 (by decide +kernel) rfl
theorem tw_1985 : (Jvm.Cond.instanceMethod ({ cls := "NineMapsModel", name := "isAsFirst", desc := "(I)Z" } : Jvm.MethodName)) ∈ TW := tw_in 1985 (by decide +kernel) rfl
theorem tw_1986 : (Jvm.Cond.code ({ cls := "NineMapsModel", name := "isAsFirst", desc := "(I)Z" } : Jvm.MethodName) prog_12_method_112_code (3 : Nat) (Option.some Jvm.ClassFile.FieldType.boolean)) ∈ TW := tw_in 1986 (by decide +kernel) rfl
theorem tw_1991 : (Jvm.Cond.methodLink "NineMapsModel" (500 : Nat) ({ cls := "NineMapsModel", name := "copiers", desc := "()I" } : Jvm.MethodName)) ∈ TW := tw_in 1991 (by decide +kernel) rfl
theorem tw_1993 : (Jvm.Cond.instanceMethod ({ cls := "NineMapsModel", name := "copiers", desc := "()I" } : Jvm.MethodName)) ∈ TW := tw_in 1993 (by decide +kernel) rfl
theorem tw_1994 : (Jvm.Cond.code ({ cls := "NineMapsModel", name := "copiers", desc := "()I" } : Jvm.MethodName) prog_12_method_114_code (3 : Nat) (Option.some Jvm.ClassFile.FieldType.int)) ∈ TW := tw_in 1994 (by decide +kernel) rfl
theorem tw_2015 : (Jvm.Cond.fieldLink "java/lang/String" (9 : Nat) "java/lang/String" "value" "[B") ∈ TW := tw_in 2015 (by decide +kernel) rfl
theorem tw_2016 : (Jvm.Cond.fieldLink "java/lang/String" (15 : Nat) "java/lang/String" "coder" "B") ∈ TW := tw_in 2016 (by decide +kernel) rfl
theorem ts_28 : Cond.selects "NineMaps$Chain" ({ cls := "NineMaps$Chain", name := "drawAll", desc := "()V" } : Jvm.MethodName) ({ cls := "NineMaps$Chain", name := "drawAll", desc := "()V" } : Jvm.MethodName) ∈ TW := tw_in 28 (by decide +kernel) rfl
theorem ts_27 : Cond.selects "NineMaps$Chain" ({ cls := "NineMaps$Chain", name := "lay", desc := "(LNineMaps$World;II)V" } : Jvm.MethodName) ({ cls := "NineMaps$Chain", name := "lay", desc := "(LNineMaps$World;II)V" } : Jvm.MethodName) ∈ TW := tw_in 27 (by decide +kernel) rfl
theorem ts_30 : Cond.selects "NineMaps$Chain" ({ cls := "NineMaps$Chain", name := "prepare", desc := "()V" } : Jvm.MethodName) ({ cls := "NineMaps$Chain", name := "prepare", desc := "()V" } : Jvm.MethodName) ∈ TW := tw_in 30 (by decide +kernel) rfl
theorem ts_29 : Cond.selects "NineMaps$Chain" ({ cls := "NineMaps$Chain", name := "want", desc := "(II)V" } : Jvm.MethodName) ({ cls := "NineMaps$Chain", name := "want", desc := "(II)V" } : Jvm.MethodName) ∈ TW := tw_in 29 (by decide +kernel) rfl
theorem ts_33 : Cond.selects "NineMaps$Chain" ({ cls := "NineMaps$Chain", name := "wantAround", desc := "(II)V" } : Jvm.MethodName) ({ cls := "NineMaps$Chain", name := "wantAround", desc := "(II)V" } : Jvm.MethodName) ∈ TW := tw_in 33 (by decide +kernel) rfl
theorem ts_104 : Cond.selects "NineMapsModel" ({ cls := "NineMapsModel", name := "areasOf", desc := "(II)I" } : Jvm.MethodName) ({ cls := "NineMapsModel", name := "areasOf", desc := "(II)I" } : Jvm.MethodName) ∈ TW := tw_in 104 (by decide +kernel) rfl
theorem ts_91 : Cond.selects "NineMapsModel" ({ cls := "NineMapsModel", name := "asks", desc := "(ZI)I" } : Jvm.MethodName) ({ cls := "NineMapsModel", name := "asks", desc := "(ZI)I" } : Jvm.MethodName) ∈ TW := tw_in 91 (by decide +kernel) rfl
theorem ts_99 : Cond.selects "NineMapsModel" ({ cls := "NineMapsModel", name := "at", desc := "(II)I" } : Jvm.MethodName) ({ cls := "NineMapsModel", name := "at", desc := "(II)I" } : Jvm.MethodName) ∈ TW := tw_in 99 (by decide +kernel) rfl
theorem ts_71 : Cond.selects "NineMapsModel" ({ cls := "NineMapsModel", name := "begins", desc := "(II)V" } : Jvm.MethodName) ({ cls := "NineMapsModel", name := "begins", desc := "(II)V" } : Jvm.MethodName) ∈ TW := tw_in 71 (by decide +kernel) rfl
theorem ts_102 : Cond.selects "NineMapsModel" ({ cls := "NineMapsModel", name := "behind", desc := "(III)I" } : Jvm.MethodName) ({ cls := "NineMapsModel", name := "behind", desc := "(III)I" } : Jvm.MethodName) ∈ TW := tw_in 102 (by decide +kernel) rfl
theorem ts_101 : Cond.selects "NineMapsModel" ({ cls := "NineMapsModel", name := "beside", desc := "(II)I" } : Jvm.MethodName) ({ cls := "NineMapsModel", name := "beside", desc := "(II)I" } : Jvm.MethodName) ∈ TW := tw_in 101 (by decide +kernel) rfl
theorem ts_61 : Cond.selects "NineMapsModel" ({ cls := "NineMapsModel", name := "byteAt", desc := "(I)I" } : Jvm.MethodName) ({ cls := "NineMapsModel", name := "byteAt", desc := "(I)I" } : Jvm.MethodName) ∈ TW := tw_in 61 (by decide +kernel) rfl
theorem ts_108 : Cond.selects "NineMapsModel" ({ cls := "NineMapsModel", name := "cameFrom", desc := "(III)I" } : Jvm.MethodName) ({ cls := "NineMapsModel", name := "cameFrom", desc := "(III)I" } : Jvm.MethodName) ∈ TW := tw_in 108 (by decide +kernel) rfl
theorem ts_75 : Cond.selects "NineMapsModel" ({ cls := "NineMapsModel", name := "checksMarks", desc := "(I)V" } : Jvm.MethodName) ({ cls := "NineMapsModel", name := "checksMarks", desc := "(I)V" } : Jvm.MethodName) ∈ TW := tw_in 75 (by decide +kernel) rfl
theorem ts_77 : Cond.selects "NineMapsModel" ({ cls := "NineMapsModel", name := "clears", desc := "([II)V" } : Jvm.MethodName) ({ cls := "NineMapsModel", name := "clears", desc := "([II)V" } : Jvm.MethodName) ∈ TW := tw_in 77 (by decide +kernel) rfl
theorem ts_97 : Cond.selects "NineMapsModel" ({ cls := "NineMapsModel", name := "column", desc := "(I)I" } : Jvm.MethodName) ({ cls := "NineMapsModel", name := "column", desc := "(I)I" } : Jvm.MethodName) ∈ TW := tw_in 97 (by decide +kernel) rfl
theorem ts_128 : Cond.selects "NineMapsModel" ({ cls := "NineMapsModel", name := "copiers", desc := "()I" } : Jvm.MethodName) ({ cls := "NineMapsModel", name := "copiers", desc := "()I" } : Jvm.MethodName) ∈ TW := tw_in 128 (by decide +kernel) rfl
theorem ts_125 : Cond.selects "NineMapsModel" ({ cls := "NineMapsModel", name := "denied", desc := "(I)Z" } : Jvm.MethodName) ({ cls := "NineMapsModel", name := "denied", desc := "(I)Z" } : Jvm.MethodName) ∈ TW := tw_in 125 (by decide +kernel) rfl
theorem ts_73 : Cond.selects "NineMapsModel" ({ cls := "NineMapsModel", name := "eatsSign", desc := "(I)Z" } : Jvm.MethodName) ({ cls := "NineMapsModel", name := "eatsSign", desc := "(I)Z" } : Jvm.MethodName) ∈ TW := tw_in 73 (by decide +kernel) rfl
theorem ts_119 : Cond.selects "NineMapsModel" ({ cls := "NineMapsModel", name := "firstUnseen", desc := "()I" } : Jvm.MethodName) ({ cls := "NineMapsModel", name := "firstUnseen", desc := "()I" } : Jvm.MethodName) ∈ TW := tw_in 119 (by decide +kernel) rfl
theorem ts_121 : Cond.selects "NineMapsModel" ({ cls := "NineMapsModel", name := "fitting", desc := "(I)I" } : Jvm.MethodName) ({ cls := "NineMapsModel", name := "fitting", desc := "(I)I" } : Jvm.MethodName) ∈ TW := tw_in 121 (by decide +kernel) rfl
theorem ts_66 : Cond.selects "NineMapsModel" ({ cls := "NineMapsModel", name := "flaw", desc := "(I)V" } : Jvm.MethodName) ({ cls := "NineMapsModel", name := "flaw", desc := "(I)V" } : Jvm.MethodName) ∈ TW := tw_in 66 (by decide +kernel) rfl
theorem ts_105 : Cond.selects "NineMapsModel" ({ cls := "NineMapsModel", name := "fraction", desc := "(JJZ)J" } : Jvm.MethodName) ({ cls := "NineMapsModel", name := "fraction", desc := "(JJZ)J" } : Jvm.MethodName) ∈ TW := tw_in 105 (by decide +kernel) rfl
theorem ts_96 : Cond.selects "NineMapsModel" ({ cls := "NineMapsModel", name := "from", desc := "(II)I" } : Jvm.MethodName) ({ cls := "NineMapsModel", name := "from", desc := "(II)I" } : Jvm.MethodName) ∈ TW := tw_in 96 (by decide +kernel) rfl
theorem ts_60 : Cond.selects "NineMapsModel" ({ cls := "NineMapsModel", name := "goesOn", desc := "()V" } : Jvm.MethodName) ({ cls := "NineMapsModel", name := "goesOn", desc := "()V" } : Jvm.MethodName) ∈ TW := tw_in 60 (by decide +kernel) rfl
theorem ts_87 : Cond.selects "NineMapsModel" ({ cls := "NineMapsModel", name := "good", desc := "(I)I" } : Jvm.MethodName) ({ cls := "NineMapsModel", name := "good", desc := "(I)I" } : Jvm.MethodName) ∈ TW := tw_in 87 (by decide +kernel) rfl
theorem ts_126 : Cond.selects "NineMapsModel" ({ cls := "NineMapsModel", name := "granted", desc := "()Z" } : Jvm.MethodName) ({ cls := "NineMapsModel", name := "granted", desc := "()Z" } : Jvm.MethodName) ∈ TW := tw_in 126 (by decide +kernel) rfl
theorem ts_113 : Cond.selects "NineMapsModel" ({ cls := "NineMapsModel", name := "hangsBy", desc := "(II)V" } : Jvm.MethodName) ({ cls := "NineMapsModel", name := "hangsBy", desc := "(II)V" } : Jvm.MethodName) ∈ TW := tw_in 113 (by decide +kernel) rfl
theorem ts_127 : Cond.selects "NineMapsModel" ({ cls := "NineMapsModel", name := "isAsFirst", desc := "(I)Z" } : Jvm.MethodName) ({ cls := "NineMapsModel", name := "isAsFirst", desc := "(I)Z" } : Jvm.MethodName) ∈ TW := tw_in 127 (by decide +kernel) rfl
theorem ts_114 : Cond.selects "NineMapsModel" ({ cls := "NineMapsModel", name := "isDrawn", desc := "(IIIIIII)Z" } : Jvm.MethodName) ({ cls := "NineMapsModel", name := "isDrawn", desc := "(IIIIIII)Z" } : Jvm.MethodName) ∈ TW := tw_in 114 (by decide +kernel) rfl
theorem ts_116 : Cond.selects "NineMapsModel" ({ cls := "NineMapsModel", name := "isEdge", desc := "(I)Z" } : Jvm.MethodName) ({ cls := "NineMapsModel", name := "isEdge", desc := "(I)Z" } : Jvm.MethodName) ∈ TW := tw_in 116 (by decide +kernel) rfl
theorem ts_103 : Cond.selects "NineMapsModel" ({ cls := "NineMapsModel", name := "isMark", desc := "(I)Z" } : Jvm.MethodName) ({ cls := "NineMapsModel", name := "isMark", desc := "(I)Z" } : Jvm.MethodName) ∈ TW := tw_in 103 (by decide +kernel) rfl
theorem ts_72 : Cond.selects "NineMapsModel" ({ cls := "NineMapsModel", name := "isName", desc := "()Z" } : Jvm.MethodName) ({ cls := "NineMapsModel", name := "isName", desc := "()Z" } : Jvm.MethodName) ∈ TW := tw_in 72 (by decide +kernel) rfl
theorem ts_89 : Cond.selects "NineMapsModel" ({ cls := "NineMapsModel", name := "isPlace", desc := "(II)Z" } : Jvm.MethodName) ({ cls := "NineMapsModel", name := "isPlace", desc := "(II)Z" } : Jvm.MethodName) ∈ TW := tw_in 89 (by decide +kernel) rfl
theorem ts_107 : Cond.selects "NineMapsModel" ({ cls := "NineMapsModel", name := "isSame", desc := "(II)Z" } : Jvm.MethodName) ({ cls := "NineMapsModel", name := "isSame", desc := "(II)Z" } : Jvm.MethodName) ∈ TW := tw_in 107 (by decide +kernel) rfl
theorem ts_74 : Cond.selects "NineMapsModel" ({ cls := "NineMapsModel", name := "isSign", desc := "(I)Z" } : Jvm.MethodName) ({ cls := "NineMapsModel", name := "isSign", desc := "(I)Z" } : Jvm.MethodName) ∈ TW := tw_in 74 (by decide +kernel) rfl
theorem ts_88 : Cond.selects "NineMapsModel" ({ cls := "NineMapsModel", name := "isTown", desc := "(I)Z" } : Jvm.MethodName) ({ cls := "NineMapsModel", name := "isTown", desc := "(I)Z" } : Jvm.MethodName) ∈ TW := tw_in 88 (by decide +kernel) rfl
theorem ts_122 : Cond.selects "NineMapsModel" ({ cls := "NineMapsModel", name := "isUnknown", desc := "(I)Z" } : Jvm.MethodName) ({ cls := "NineMapsModel", name := "isUnknown", desc := "(I)Z" } : Jvm.MethodName) ∈ TW := tw_in 122 (by decide +kernel) rfl
theorem ts_64 : Cond.selects "NineMapsModel" ({ cls := "NineMapsModel", name := "isWord", desc := "(Ljava/lang/String;)Z" } : Jvm.MethodName) ({ cls := "NineMapsModel", name := "isWord", desc := "(Ljava/lang/String;)Z" } : Jvm.MethodName) ∈ TW := tw_in 64 (by decide +kernel) rfl
theorem ts_84 : Cond.selects "NineMapsModel" ({ cls := "NineMapsModel", name := "knownMark", desc := "()I" } : Jvm.MethodName) ({ cls := "NineMapsModel", name := "knownMark", desc := "()I" } : Jvm.MethodName) ∈ TW := tw_in 84 (by decide +kernel) rfl
theorem ts_79 : Cond.selects "NineMapsModel" ({ cls := "NineMapsModel", name := "knownTown", desc := "()I" } : Jvm.MethodName) ({ cls := "NineMapsModel", name := "knownTown", desc := "()I" } : Jvm.MethodName) ∈ TW := tw_in 79 (by decide +kernel) rfl
theorem ts_118 : Cond.selects "NineMapsModel" ({ cls := "NineMapsModel", name := "latestSeen", desc := "()I" } : Jvm.MethodName) ({ cls := "NineMapsModel", name := "latestSeen", desc := "()I" } : Jvm.MethodName) ∈ TW := tw_in 118 (by decide +kernel) rfl
theorem ts_112 : Cond.selects "NineMapsModel" ({ cls := "NineMapsModel", name := "laysBears", desc := "(IIII)V" } : Jvm.MethodName) ({ cls := "NineMapsModel", name := "laysBears", desc := "(IIII)V" } : Jvm.MethodName) ∈ TW := tw_in 112 (by decide +kernel) rfl
theorem ts_76 : Cond.selects "NineMapsModel" ({ cls := "NineMapsModel", name := "markAt", desc := "(I)I" } : Jvm.MethodName) ({ cls := "NineMapsModel", name := "markAt", desc := "(I)I" } : Jvm.MethodName) ∈ TW := tw_in 76 (by decide +kernel) rfl
theorem ts_95 : Cond.selects "NineMapsModel" ({ cls := "NineMapsModel", name := "marked", desc := "(III)I" } : Jvm.MethodName) ({ cls := "NineMapsModel", name := "marked", desc := "(III)I" } : Jvm.MethodName) ∈ TW := tw_in 95 (by decide +kernel) rfl
theorem ts_68 : Cond.selects "NineMapsModel" ({ cls := "NineMapsModel", name := "needs", desc := "(Ljava/lang/String;)V" } : Jvm.MethodName) ({ cls := "NineMapsModel", name := "needs", desc := "(Ljava/lang/String;)V" } : Jvm.MethodName) ∈ TW := tw_in 68 (by decide +kernel) rfl
theorem ts_123 : Cond.selects "NineMapsModel" ({ cls := "NineMapsModel", name := "nextRow", desc := "()Z" } : Jvm.MethodName) ({ cls := "NineMapsModel", name := "nextRow", desc := "()Z" } : Jvm.MethodName) ∈ TW := tw_in 123 (by decide +kernel) rfl
theorem ts_115 : Cond.selects "NineMapsModel" ({ cls := "NineMapsModel", name := "nextStrokes", desc := "(I)Z" } : Jvm.MethodName) ({ cls := "NineMapsModel", name := "nextStrokes", desc := "(I)Z" } : Jvm.MethodName) ∈ TW := tw_in 115 (by decide +kernel) rfl
theorem ts_90 : Cond.selects "NineMapsModel" ({ cls := "NineMapsModel", name := "placeOf", desc := "(I)I" } : Jvm.MethodName) ({ cls := "NineMapsModel", name := "placeOf", desc := "(I)I" } : Jvm.MethodName) ∈ TW := tw_in 90 (by decide +kernel) rfl
theorem ts_62 : Cond.selects "NineMapsModel" ({ cls := "NineMapsModel", name := "readAll", desc := "()V" } : Jvm.MethodName) ({ cls := "NineMapsModel", name := "readAll", desc := "()V" } : Jvm.MethodName) ∈ TW := tw_in 62 (by decide +kernel) rfl
theorem ts_78 : Cond.selects "NineMapsModel" ({ cls := "NineMapsModel", name := "readCopies", desc := "()V" } : Jvm.MethodName) ({ cls := "NineMapsModel", name := "readCopies", desc := "()V" } : Jvm.MethodName) ∈ TW := tw_in 78 (by decide +kernel) rfl
theorem ts_81 : Cond.selects "NineMapsModel" ({ cls := "NineMapsModel", name := "readError", desc := "([IIZ)V" } : Jvm.MethodName) ({ cls := "NineMapsModel", name := "readError", desc := "([IIZ)V" } : Jvm.MethodName) ∈ TW := tw_in 81 (by decide +kernel) rfl
theorem ts_85 : Cond.selects "NineMapsModel" ({ cls := "NineMapsModel", name := "readGuess", desc := "()V" } : Jvm.MethodName) ({ cls := "NineMapsModel", name := "readGuess", desc := "()V" } : Jvm.MethodName) ∈ TW := tw_in 85 (by decide +kernel) rfl
theorem ts_63 : Cond.selects "NineMapsModel" ({ cls := "NineMapsModel", name := "readLine", desc := "()V" } : Jvm.MethodName) ({ cls := "NineMapsModel", name := "readLine", desc := "()V" } : Jvm.MethodName) ∈ TW := tw_in 63 (by decide +kernel) rfl
theorem ts_83 : Cond.selects "NineMapsModel" ({ cls := "NineMapsModel", name := "readMark", desc := "()I" } : Jvm.MethodName) ({ cls := "NineMapsModel", name := "readMark", desc := "()I" } : Jvm.MethodName) ∈ TW := tw_in 83 (by decide +kernel) rfl
theorem ts_67 : Cond.selects "NineMapsModel" ({ cls := "NineMapsModel", name := "readPart", desc := "(Ljava/lang/String;II)I" } : Jvm.MethodName) ({ cls := "NineMapsModel", name := "readPart", desc := "(Ljava/lang/String;II)I" } : Jvm.MethodName) ∈ TW := tw_in 67 (by decide +kernel) rfl
theorem ts_65 : Cond.selects "NineMapsModel" ({ cls := "NineMapsModel", name := "readRing", desc := "()V" } : Jvm.MethodName) ({ cls := "NineMapsModel", name := "readRing", desc := "()V" } : Jvm.MethodName) ∈ TW := tw_in 65 (by decide +kernel) rfl
theorem ts_86 : Cond.selects "NineMapsModel" ({ cls := "NineMapsModel", name := "readSeen", desc := "()V" } : Jvm.MethodName) ({ cls := "NineMapsModel", name := "readSeen", desc := "()V" } : Jvm.MethodName) ∈ TW := tw_in 86 (by decide +kernel) rfl
theorem ts_80 : Cond.selects "NineMapsModel" ({ cls := "NineMapsModel", name := "readTown", desc := "()I" } : Jvm.MethodName) ({ cls := "NineMapsModel", name := "readTown", desc := "()I" } : Jvm.MethodName) ∈ TW := tw_in 80 (by decide +kernel) rfl
theorem ts_70 : Cond.selects "NineMapsModel" ({ cls := "NineMapsModel", name := "readTownLine", desc := "()V" } : Jvm.MethodName) ({ cls := "NineMapsModel", name := "readTownLine", desc := "()V" } : Jvm.MethodName) ∈ TW := tw_in 70 (by decide +kernel) rfl
theorem ts_69 : Cond.selects "NineMapsModel" ({ cls := "NineMapsModel", name := "readWhole", desc := "(II)I" } : Jvm.MethodName) ({ cls := "NineMapsModel", name := "readWhole", desc := "(II)I" } : Jvm.MethodName) ∈ TW := tw_in 69 (by decide +kernel) rfl
theorem ts_59 : Cond.selects "NineMapsModel" ({ cls := "NineMapsModel", name := "refused", desc := "(I)I" } : Jvm.MethodName) ({ cls := "NineMapsModel", name := "refused", desc := "(I)I" } : Jvm.MethodName) ∈ TW := tw_in 59 (by decide +kernel) rfl
theorem ts_120 : Cond.selects "NineMapsModel" ({ cls := "NineMapsModel", name := "refusesFits", desc := "()I" } : Jvm.MethodName) ({ cls := "NineMapsModel", name := "refusesFits", desc := "()I" } : Jvm.MethodName) ∈ TW := tw_in 120 (by decide +kernel) rfl
theorem ts_110 : Cond.selects "NineMapsModel" ({ cls := "NineMapsModel", name := "refusesStrokes", desc := "(IIIIII)I" } : Jvm.MethodName) ({ cls := "NineMapsModel", name := "refusesStrokes", desc := "(IIIIII)I" } : Jvm.MethodName) ∈ TW := tw_in 110 (by decide +kernel) rfl
theorem ts_124 : Cond.selects "NineMapsModel" ({ cls := "NineMapsModel", name := "remembers", desc := "()V" } : Jvm.MethodName) ({ cls := "NineMapsModel", name := "remembers", desc := "()V" } : Jvm.MethodName) ∈ TW := tw_in 124 (by decide +kernel) rfl
theorem ts_98 : Cond.selects "NineMapsModel" ({ cls := "NineMapsModel", name := "rowOf", desc := "(I)I" } : Jvm.MethodName) ({ cls := "NineMapsModel", name := "rowOf", desc := "(I)I" } : Jvm.MethodName) ∈ TW := tw_in 98 (by decide +kernel) rfl
theorem ts_82 : Cond.selects "NineMapsModel" ({ cls := "NineMapsModel", name := "sortOfError", desc := "()I" } : Jvm.MethodName) ({ cls := "NineMapsModel", name := "sortOfError", desc := "()I" } : Jvm.MethodName) ∈ TW := tw_in 82 (by decide +kernel) rfl
theorem ts_100 : Cond.selects "NineMapsModel" ({ cls := "NineMapsModel", name := "stainedBy", desc := "(III)I" } : Jvm.MethodName) ({ cls := "NineMapsModel", name := "stainedBy", desc := "(III)I" } : Jvm.MethodName) ∈ TW := tw_in 100 (by decide +kernel) rfl
theorem ts_92 : Cond.selects "NineMapsModel" ({ cls := "NineMapsModel", name := "starts", desc := "()V" } : Jvm.MethodName) ({ cls := "NineMapsModel", name := "starts", desc := "()V" } : Jvm.MethodName) ∈ TW := tw_in 92 (by decide +kernel) rfl
theorem ts_117 : Cond.selects "NineMapsModel" ({ cls := "NineMapsModel", name := "startsTold", desc := "()V" } : Jvm.MethodName) ({ cls := "NineMapsModel", name := "startsTold", desc := "()V" } : Jvm.MethodName) ∈ TW := tw_in 117 (by decide +kernel) rfl
theorem ts_94 : Cond.selects "NineMapsModel" ({ cls := "NineMapsModel", name := "step", desc := "(I)V" } : Jvm.MethodName) ({ cls := "NineMapsModel", name := "step", desc := "(I)V" } : Jvm.MethodName) ∈ TW := tw_in 94 (by decide +kernel) rfl
theorem ts_93 : Cond.selects "NineMapsModel" ({ cls := "NineMapsModel", name := "steps", desc := "(I)V" } : Jvm.MethodName) ({ cls := "NineMapsModel", name := "steps", desc := "(I)V" } : Jvm.MethodName) ∈ TW := tw_in 93 (by decide +kernel) rfl
theorem ts_111 : Cond.selects "NineMapsModel" ({ cls := "NineMapsModel", name := "strokesOf", desc := "(IIIIII)I" } : Jvm.MethodName) ({ cls := "NineMapsModel", name := "strokesOf", desc := "(IIIIII)I" } : Jvm.MethodName) ∈ TW := tw_in 111 (by decide +kernel) rfl
theorem ts_106 : Cond.selects "NineMapsModel" ({ cls := "NineMapsModel", name := "sumOf", desc := "(I)J" } : Jvm.MethodName) ({ cls := "NineMapsModel", name := "sumOf", desc := "(I)J" } : Jvm.MethodName) ∈ TW := tw_in 106 (by decide +kernel) rfl
theorem ts_109 : Cond.selects "NineMapsModel" ({ cls := "NineMapsModel", name := "told", desc := "(I)I" } : Jvm.MethodName) ({ cls := "NineMapsModel", name := "told", desc := "(I)I" } : Jvm.MethodName) ∈ TW := tw_in 109 (by decide +kernel) rfl
theorem ts_53 : Cond.selects "NineMaps$FitSearch" ({ cls := "NineMaps$FitSearch", name := "setGuesses", desc := "(LNineMaps$Ring;LNineMaps$World;I)V" } : Jvm.MethodName) ({ cls := "NineMaps$FitSearch", name := "setGuesses", desc := "(LNineMaps$Ring;LNineMaps$World;I)V" } : Jvm.MethodName) ∈ TW := tw_in 53 (by decide +kernel) rfl
theorem ts_38 : Cond.selects "NineMaps$Ground" ({ cls := "NineMaps$Ground", name := "areaFrom", desc := "(LNineMaps$World;I)I" } : Jvm.MethodName) ({ cls := "NineMaps$Ground", name := "areaFrom", desc := "(LNineMaps$World;I)I" } : Jvm.MethodName) ∈ TW := tw_in 38 (by decide +kernel) rfl
theorem ts_51 : Cond.selects "NineMaps$Ground" ({ cls := "NineMaps$Ground", name := "wayBy", desc := "(LNineMaps$World;II)I" } : Jvm.MethodName) ({ cls := "NineMaps$Ground", name := "wayBy", desc := "(LNineMaps$World;II)I" } : Jvm.MethodName) ∈ TW := tw_in 51 (by decide +kernel) rfl
theorem ts_54 : Cond.selects "NineMaps$Past" ({ cls := "NineMaps$Past", name := "forgetOldest", desc := "()V" } : Jvm.MethodName) ({ cls := "NineMaps$Past", name := "forgetOldest", desc := "()V" } : Jvm.MethodName) ∈ TW := tw_in 54 (by decide +kernel) rfl
theorem ts_17 : Cond.selects "NineMaps$Reader" ({ cls := "NineMaps$Reader", name := "errorSort", desc := "()I" } : Jvm.MethodName) ({ cls := "NineMaps$Reader", name := "errorSort", desc := "()I" } : Jvm.MethodName) ∈ TW := tw_in 17 (by decide +kernel) rfl
theorem ts_6 : Cond.selects "NineMaps$Reader" ({ cls := "NineMaps$Reader", name := "fail", desc := "(I)Z" } : Jvm.MethodName) ({ cls := "NineMaps$Reader", name := "fail", desc := "(I)Z" } : Jvm.MethodName) ∈ TW := tw_in 6 (by decide +kernel) rfl
theorem ts_11 : Cond.selects "NineMaps$Reader" ({ cls := "NineMaps$Reader", name := "failed", desc := "(I)I" } : Jvm.MethodName) ({ cls := "NineMaps$Reader", name := "failed", desc := "(I)I" } : Jvm.MethodName) ∈ TW := tw_in 11 (by decide +kernel) rfl
theorem ts_7 : Cond.selects "NineMaps$Reader" ({ cls := "NineMaps$Reader", name := "isFull", desc := "(I)Z" } : Jvm.MethodName) ({ cls := "NineMaps$Reader", name := "isFull", desc := "(I)Z" } : Jvm.MethodName) ∈ TW := tw_in 7 (by decide +kernel) rfl
theorem ts_13 : Cond.selects "NineMaps$Reader" ({ cls := "NineMaps$Reader", name := "isName", desc := "()Z" } : Jvm.MethodName) ({ cls := "NineMaps$Reader", name := "isName", desc := "()Z" } : Jvm.MethodName) ∈ TW := tw_in 13 (by decide +kernel) rfl
theorem ts_4 : Cond.selects "NineMaps$Reader" ({ cls := "NineMaps$Reader", name := "isWord", desc := "(Ljava/lang/String;)Z" } : Jvm.MethodName) ({ cls := "NineMaps$Reader", name := "isWord", desc := "(Ljava/lang/String;)Z" } : Jvm.MethodName) ∈ TW := tw_in 4 (by decide +kernel) rfl
theorem ts_3 : Cond.selects "NineMaps$Reader" ({ cls := "NineMaps$Reader", name := "lineSort", desc := "()I" } : Jvm.MethodName) ({ cls := "NineMaps$Reader", name := "lineSort", desc := "()I" } : Jvm.MethodName) ∈ TW := tw_in 3 (by decide +kernel) rfl
theorem ts_21 : Cond.selects "NineMaps$Reader" ({ cls := "NineMaps$Reader", name := "markDue", desc := "(I)I" } : Jvm.MethodName) ({ cls := "NineMaps$Reader", name := "markDue", desc := "(I)I" } : Jvm.MethodName) ∈ TW := tw_in 21 (by decide +kernel) rfl
theorem ts_5 : Cond.selects "NineMaps$Reader" ({ cls := "NineMaps$Reader", name := "mayCome", desc := "(I)Z" } : Jvm.MethodName) ({ cls := "NineMaps$Reader", name := "mayCome", desc := "(I)Z" } : Jvm.MethodName) ∈ TW := tw_in 5 (by decide +kernel) rfl
theorem ts_20 : Cond.selects "NineMaps$Reader" ({ cls := "NineMaps$Reader", name := "partDue", desc := "(CI)I" } : Jvm.MethodName) ({ cls := "NineMaps$Reader", name := "partDue", desc := "(CI)I" } : Jvm.MethodName) ∈ TW := tw_in 20 (by decide +kernel) rfl
theorem ts_15 : Cond.selects "NineMaps$Reader" ({ cls := "NineMaps$Reader", name := "readCopies", desc := "()Z" } : Jvm.MethodName) ({ cls := "NineMaps$Reader", name := "readCopies", desc := "()Z" } : Jvm.MethodName) ∈ TW := tw_in 15 (by decide +kernel) rfl
theorem ts_19 : Cond.selects "NineMaps$Reader" ({ cls := "NineMaps$Reader", name := "readError", desc := "(I[II)Z" } : Jvm.MethodName) ({ cls := "NineMaps$Reader", name := "readError", desc := "(I[II)Z" } : Jvm.MethodName) ∈ TW := tw_in 19 (by decide +kernel) rfl
theorem ts_22 : Cond.selects "NineMaps$Reader" ({ cls := "NineMaps$Reader", name := "readGuess", desc := "()Z" } : Jvm.MethodName) ({ cls := "NineMaps$Reader", name := "readGuess", desc := "()Z" } : Jvm.MethodName) ∈ TW := tw_in 22 (by decide +kernel) rfl
theorem ts_8 : Cond.selects "NineMaps$Reader" ({ cls := "NineMaps$Reader", name := "readRing", desc := "()Z" } : Jvm.MethodName) ({ cls := "NineMaps$Reader", name := "readRing", desc := "()Z" } : Jvm.MethodName) ∈ TW := tw_in 8 (by decide +kernel) rfl
theorem ts_14 : Cond.selects "NineMaps$Reader" ({ cls := "NineMaps$Reader", name := "readRow", desc := "(I)Z" } : Jvm.MethodName) ({ cls := "NineMaps$Reader", name := "readRow", desc := "(I)Z" } : Jvm.MethodName) ∈ TW := tw_in 14 (by decide +kernel) rfl
theorem ts_23 : Cond.selects "NineMaps$Reader" ({ cls := "NineMaps$Reader", name := "readSeen", desc := "()Z" } : Jvm.MethodName) ({ cls := "NineMaps$Reader", name := "readSeen", desc := "()Z" } : Jvm.MethodName) ∈ TW := tw_in 23 (by decide +kernel) rfl
theorem ts_12 : Cond.selects "NineMaps$Reader" ({ cls := "NineMaps$Reader", name := "readTown", desc := "()Z" } : Jvm.MethodName) ({ cls := "NineMaps$Reader", name := "readTown", desc := "()Z" } : Jvm.MethodName) ∈ TW := tw_in 12 (by decide +kernel) rfl
theorem ts_2 : Cond.selects "NineMaps$Reader" ({ cls := "NineMaps$Reader", name := "take", desc := "()V" } : Jvm.MethodName) ({ cls := "NineMaps$Reader", name := "take", desc := "()V" } : Jvm.MethodName) ∈ TW := tw_in 2 (by decide +kernel) rfl
theorem ts_16 : Cond.selects "NineMaps$Reader" ({ cls := "NineMaps$Reader", name := "townHere", desc := "()I" } : Jvm.MethodName) ({ cls := "NineMaps$Reader", name := "townHere", desc := "()I" } : Jvm.MethodName) ∈ TW := tw_in 16 (by decide +kernel) rfl
theorem ts_10 : Cond.selects "NineMaps$Reader" ({ cls := "NineMaps$Reader", name := "wholeDue", desc := "(II)I" } : Jvm.MethodName) ({ cls := "NineMaps$Reader", name := "wholeDue", desc := "(II)I" } : Jvm.MethodName) ∈ TW := tw_in 10 (by decide +kernel) rfl
theorem ts_9 : Cond.selects "NineMaps$Reader" ({ cls := "NineMaps$Reader", name := "wordDue", desc := "(Ljava/lang/String;)Z" } : Jvm.MethodName) ({ cls := "NineMaps$Reader", name := "wordDue", desc := "(Ljava/lang/String;)Z" } : Jvm.MethodName) ∈ TW := tw_in 9 (by decide +kernel) rfl
theorem ts_18 : Cond.selects "NineMaps$Ring" ({ cls := "NineMaps$Ring", name := "unknownsBelow", desc := "(I)I" } : Jvm.MethodName) ({ cls := "NineMaps$Ring", name := "unknownsBelow", desc := "(I)I" } : Jvm.MethodName) ∈ TW := tw_in 18 (by decide +kernel) rfl
theorem ts_43 : Cond.selects "NineMaps$StrokeSearch" ({ cls := "NineMaps$StrokeSearch", name := "find", desc := "(IIII)Z" } : Jvm.MethodName) ({ cls := "NineMaps$StrokeSearch", name := "find", desc := "(IIII)Z" } : Jvm.MethodName) ∈ TW := tw_in 43 (by decide +kernel) rfl
theorem ts_45 : Cond.selects "NineMaps$StrokeSearch" ({ cls := "NineMaps$StrokeSearch", name := "goToNextPick", desc := "(I)Z" } : Jvm.MethodName) ({ cls := "NineMaps$StrokeSearch", name := "goToNextPick", desc := "(I)Z" } : Jvm.MethodName) ∈ TW := tw_in 45 (by decide +kernel) rfl
theorem ts_42 : Cond.selects "NineMaps$StrokeSearch" ({ cls := "NineMaps$StrokeSearch", name := "listOpen", desc := "(I)V" } : Jvm.MethodName) ({ cls := "NineMaps$StrokeSearch", name := "listOpen", desc := "(I)V" } : Jvm.MethodName) ∈ TW := tw_in 42 (by decide +kernel) rfl
theorem ts_50 : Cond.selects "NineMaps$StrokeSearch" ({ cls := "NineMaps$StrokeSearch", name := "takeFirst", desc := "(JI)Z" } : Jvm.MethodName) ({ cls := "NineMaps$StrokeSearch", name := "takeFirst", desc := "(JI)Z" } : Jvm.MethodName) ∈ TW := tw_in 50 (by decide +kernel) rfl
theorem ts_44 : Cond.selects "NineMaps$StrokeSearch" ({ cls := "NineMaps$StrokeSearch", name := "tryPick", desc := "(III)V" } : Jvm.MethodName) ({ cls := "NineMaps$StrokeSearch", name := "tryPick", desc := "(III)V" } : Jvm.MethodName) ∈ TW := tw_in 44 (by decide +kernel) rfl
theorem ts_46 : Cond.selects "NineMaps$Trials" ({ cls := "NineMaps$Trials", name := "build", desc := "(I)V" } : Jvm.MethodName) ({ cls := "NineMaps$Trials", name := "build", desc := "(I)V" } : Jvm.MethodName) ∈ TW := tw_in 46 (by decide +kernel) rfl
theorem ts_47 : Cond.selects "NineMaps$Trials" ({ cls := "NineMaps$Trials", name := "listStained", desc := "(II)V" } : Jvm.MethodName) ({ cls := "NineMaps$Trials", name := "listStained", desc := "(II)V" } : Jvm.MethodName) ∈ TW := tw_in 47 (by decide +kernel) rfl
theorem ts_49 : Cond.selects "NineMaps$Trials" ({ cls := "NineMaps$Trials", name := "stainedAt", desc := "(I)J" } : Jvm.MethodName) ({ cls := "NineMaps$Trials", name := "stainedAt", desc := "(I)J" } : Jvm.MethodName) ∈ TW := tw_in 49 (by decide +kernel) rfl
theorem ts_48 : Cond.selects "NineMaps$Trials" ({ cls := "NineMaps$Trials", name := "with", desc := "(II)J" } : Jvm.MethodName) ({ cls := "NineMaps$Trials", name := "with", desc := "(II)J" } : Jvm.MethodName) ∈ TW := tw_in 48 (by decide +kernel) rfl
theorem ts_36 : Cond.selects "NineMaps$World" ({ cls := "NineMaps$World", name := "build", desc := "(I[II)V" } : Jvm.MethodName) ({ cls := "NineMaps$World", name := "build", desc := "(I[II)V" } : Jvm.MethodName) ∈ TW := tw_in 36 (by decide +kernel) rfl
theorem ts_31 : Cond.selects "NineMaps$World" ({ cls := "NineMaps$World", name := "shiftSource", desc := "(II)I" } : Jvm.MethodName) ({ cls := "NineMaps$World", name := "shiftSource", desc := "(II)I" } : Jvm.MethodName) ∈ TW := tw_in 31 (by decide +kernel) rfl
theorem ts_32 : Cond.selects "NineMaps$World" ({ cls := "NineMaps$World", name := "stainSource", desc := "([IIII)I" } : Jvm.MethodName) ({ cls := "NineMaps$World", name := "stainSource", desc := "([IIII)I" } : Jvm.MethodName) ∈ TW := tw_in 32 (by decide +kernel) rfl
theorem ts_24 : Cond.selects "NineMaps" ({ cls := "NineMaps", name := "answered", desc := "(I)I" } : Jvm.MethodName) ({ cls := "NineMaps", name := "answered", desc := "(I)I" } : Jvm.MethodName) ∈ TW := tw_in 24 (by decide +kernel) rfl
theorem ts_0 : Cond.selects "NineMaps" ({ cls := "NineMaps", name := "append", desc := "(I)V" } : Jvm.MethodName) ({ cls := "NineMaps", name := "append", desc := "(I)V" } : Jvm.MethodName) ∈ TW := tw_in 0 (by decide +kernel) rfl
theorem ts_55 : Cond.selects "NineMaps" ({ cls := "NineMaps", name := "denied", desc := "(I)Z" } : Jvm.MethodName) ({ cls := "NineMaps", name := "denied", desc := "(I)Z" } : Jvm.MethodName) ∈ TW := tw_in 55 (by decide +kernel) rfl
theorem ts_52 : Cond.selects "NineMaps" ({ cls := "NineMaps", name := "fitRefusal", desc := "()I" } : Jvm.MethodName) ({ cls := "NineMaps", name := "fitRefusal", desc := "()I" } : Jvm.MethodName) ∈ TW := tw_in 52 (by decide +kernel) rfl
theorem ts_56 : Cond.selects "NineMaps" ({ cls := "NineMaps", name := "granted", desc := "()Z" } : Jvm.MethodName) ({ cls := "NineMaps", name := "granted", desc := "()Z" } : Jvm.MethodName) ∈ TW := tw_in 56 (by decide +kernel) rfl
theorem ts_34 : Cond.selects "NineMaps" ({ cls := "NineMaps", name := "isMark", desc := "(I)Z" } : Jvm.MethodName) ({ cls := "NineMaps", name := "isMark", desc := "(I)Z" } : Jvm.MethodName) ∈ TW := tw_in 34 (by decide +kernel) rfl
theorem ts_26 : Cond.selects "NineMaps" ({ cls := "NineMaps", name := "isPlace", desc := "(I)Z" } : Jvm.MethodName) ({ cls := "NineMaps", name := "isPlace", desc := "(I)Z" } : Jvm.MethodName) ∈ TW := tw_in 26 (by decide +kernel) rfl
theorem ts_25 : Cond.selects "NineMaps" ({ cls := "NineMaps", name := "isTown", desc := "(I)Z" } : Jvm.MethodName) ({ cls := "NineMaps", name := "isTown", desc := "(I)Z" } : Jvm.MethodName) ∈ TW := tw_in 25 (by decide +kernel) rfl
theorem ts_35 : Cond.selects "NineMaps" ({ cls := "NineMaps", name := "likeOnes", desc := "([II)I" } : Jvm.MethodName) ({ cls := "NineMaps", name := "likeOnes", desc := "([II)I" } : Jvm.MethodName) ∈ TW := tw_in 35 (by decide +kernel) rfl
theorem ts_1 : Cond.selects "NineMaps" ({ cls := "NineMaps", name := "refused", desc := "(I)I" } : Jvm.MethodName) ({ cls := "NineMaps", name := "refused", desc := "(I)I" } : Jvm.MethodName) ∈ TW := tw_in 1 (by decide +kernel) rfl
theorem ts_40 : Cond.selects "NineMaps" ({ cls := "NineMaps", name := "roundBegin", desc := "(I)I" } : Jvm.MethodName) ({ cls := "NineMaps", name := "roundBegin", desc := "(I)I" } : Jvm.MethodName) ∈ TW := tw_in 40 (by decide +kernel) rfl
theorem ts_39 : Cond.selects "NineMaps" ({ cls := "NineMaps", name := "roundLength", desc := "()I" } : Jvm.MethodName) ({ cls := "NineMaps", name := "roundLength", desc := "()I" } : Jvm.MethodName) ∈ TW := tw_in 39 (by decide +kernel) rfl
theorem ts_41 : Cond.selects "NineMaps" ({ cls := "NineMaps", name := "strokeRefusal", desc := "(IIIIII)I" } : Jvm.MethodName) ({ cls := "NineMaps", name := "strokeRefusal", desc := "(IIIIII)I" } : Jvm.MethodName) ∈ TW := tw_in 41 (by decide +kernel) rfl
theorem ts_37 : Cond.selects "NineMaps" ({ cls := "NineMaps", name := "surveyBehind", desc := "(III)V" } : Jvm.MethodName) ({ cls := "NineMaps", name := "surveyBehind", desc := "(III)V" } : Jvm.MethodName) ∈ TW := tw_in 37 (by decide +kernel) rfl
