set_option maxRecDepth 100000 in
theorem wd_72 : Jvm.Cond.classLink "BodySolidsLaw" (8 : Nat) "BodySolids" ∈ gAll := gm 72 rfl rfl
set_option maxRecDepth 100000 in
theorem wd_74 : Jvm.Cond.methodLink "BodySolidsLaw" (75 : Nat) ({ cls := "BodySolids", name := "<init>", desc := "(J)V" } : Jvm.MethodName) ∈ gAll := gm 74 rfl rfl
set_option maxRecDepth 100000 in
theorem wd_220 : Jvm.Cond.methodLink "BodySolidsLaw" (81 : Nat) ({ cls := "BodySolids", name := "body", desc := "()I" } : Jvm.MethodName) ∈ gAll := gm 220 rfl rfl
set_option maxRecDepth 100000 in
theorem wd_222 : Jvm.Cond.selects "BodySolids" ({ cls := "BodySolids", name := "body", desc := "()I" } : Jvm.MethodName) ({ cls := "BodySolids", name := "body", desc := "()I" } : Jvm.MethodName) ∈ gAll := gm 222 rfl rfl
set_option maxRecDepth 100000 in
theorem wd_424 : Jvm.Cond.methodLink "BodySolidsLaw" (69 : Nat) ({ cls := "BodySolidsLaw", name := "cell", desc := "([II)I" } : Jvm.MethodName) ∈ gAll := gm 424 rfl rfl
set_option maxRecDepth 100000 in
theorem wd_427 : Jvm.Cond.methodLink "BodySolidsLaw" (88 : Nat) ({ cls := "BodySolidsLaw", name := "box", desc := "(LBodySolids;IJJJJJJ[J)I" } : Jvm.MethodName) ∈ gAll := gm 427 rfl rfl
set_option maxRecDepth 100000 in
theorem wd_577 : Jvm.Cond.methodLink "BodySolidsLaw" (96 : Nat) ({ cls := "BodySolidsLaw", name := "corner", desc := "(LBodySolids;JJ[J)I" } : Jvm.MethodName) ∈ gAll := gm 577 rfl rfl
set_option maxRecDepth 100000 in
theorem wd_584 : Jvm.Cond.methodLink "BodySolidsLaw" (100 : Nat) ({ cls := "BodySolidsLaw", name := "prism", desc := "(LBodySolids;IJJ[J)I" } : Jvm.MethodName) ∈ gAll := gm 584 rfl rfl
set_option maxRecDepth 100000 in
theorem wd_608 : Jvm.Cond.methodLink "BodySolidsLaw" (104 : Nat) ({ cls := "BodySolidsLaw", name := "tube", desc := "(LBodySolids;IJJJJIJ[J)I" } : Jvm.MethodName) ∈ gAll := gm 608 rfl rfl
set_option maxRecDepth 100000 in
theorem wd_622 : Jvm.Cond.methodLink "BodySolidsLaw" (111 : Nat) ({ cls := "BodySolidsLaw", name := "join", desc := "(LBodySolids;II[J)I" } : Jvm.MethodName) ∈ gAll := gm 622 rfl rfl
set_option maxRecDepth 100000 in
theorem wd_779 : Jvm.Cond.classLink "BodySolidsLaw" (78 : Nat) "BodySolidsModel" ∈ gAll := gm 779 rfl rfl
set_option maxRecDepth 100000 in
theorem wd_781 : Jvm.Cond.methodLink "BodySolidsLaw" (80 : Nat) ({ cls := "BodySolidsModel", name := "<init>", desc := "(J)V" } : Jvm.MethodName) ∈ gAll := gm 781 rfl rfl
set_option maxRecDepth 100000 in
theorem wd_868 : Jvm.Cond.methodLink "BodySolidsLaw" (108 : Nat) ({ cls := "BodySolidsModel", name := "thrown", desc := "()I" } : Jvm.MethodName) ∈ gAll := gm 868 rfl rfl
set_option maxRecDepth 100000 in
theorem wd_870 : Jvm.Cond.selects "BodySolidsModel" ({ cls := "BodySolidsModel", name := "thrown", desc := "()I" } : Jvm.MethodName) ({ cls := "BodySolidsModel", name := "thrown", desc := "()I" } : Jvm.MethodName) ∈ gAll := gm 870 rfl rfl
set_option maxRecDepth 100000 in
theorem wd_872 : Jvm.Cond.methodLink "BodySolidsLaw" (85 : Nat) ({ cls := "BodySolidsModel", name := "body", desc := "()I" } : Jvm.MethodName) ∈ gAll := gm 872 rfl rfl
set_option maxRecDepth 100000 in
theorem wd_874 : Jvm.Cond.selects "BodySolidsModel" ({ cls := "BodySolidsModel", name := "body", desc := "()I" } : Jvm.MethodName) ({ cls := "BodySolidsModel", name := "body", desc := "()I" } : Jvm.MethodName) ∈ gAll := gm 874 rfl rfl
set_option maxRecDepth 100000 in
theorem wd_876 : Jvm.Cond.methodLink "BodySolidsLaw" (91 : Nat) ({ cls := "BodySolidsModel", name := "box", desc := "(IJJJJJJ)Z" } : Jvm.MethodName) ∈ gAll := gm 876 rfl rfl
set_option maxRecDepth 100000 in
theorem wd_878 : Jvm.Cond.selects "BodySolidsModel" ({ cls := "BodySolidsModel", name := "box", desc := "(IJJJJJJ)Z" } : Jvm.MethodName) ({ cls := "BodySolidsModel", name := "box", desc := "(IJJJJJJ)Z" } : Jvm.MethodName) ∈ gAll := gm 878 rfl rfl
set_option maxRecDepth 100000 in
theorem wd_910 : Jvm.Cond.methodLink "BodySolidsLaw" (99 : Nat) ({ cls := "BodySolidsModel", name := "corner", desc := "(JJ)Z" } : Jvm.MethodName) ∈ gAll := gm 910 rfl rfl
set_option maxRecDepth 100000 in
theorem wd_912 : Jvm.Cond.selects "BodySolidsModel" ({ cls := "BodySolidsModel", name := "corner", desc := "(JJ)Z" } : Jvm.MethodName) ({ cls := "BodySolidsModel", name := "corner", desc := "(JJ)Z" } : Jvm.MethodName) ∈ gAll := gm 912 rfl rfl
set_option maxRecDepth 100000 in
theorem wd_914 : Jvm.Cond.methodLink "BodySolidsLaw" (103 : Nat) ({ cls := "BodySolidsModel", name := "prism", desc := "(IJJ)Z" } : Jvm.MethodName) ∈ gAll := gm 914 rfl rfl
set_option maxRecDepth 100000 in
theorem wd_916 : Jvm.Cond.selects "BodySolidsModel" ({ cls := "BodySolidsModel", name := "prism", desc := "(IJJ)Z" } : Jvm.MethodName) ({ cls := "BodySolidsModel", name := "prism", desc := "(IJJ)Z" } : Jvm.MethodName) ∈ gAll := gm 916 rfl rfl
set_option maxRecDepth 100000 in
theorem wd_925 : Jvm.Cond.methodLink "BodySolidsLaw" (107 : Nat) ({ cls := "BodySolidsModel", name := "tube", desc := "(IJJJJIJ)Z" } : Jvm.MethodName) ∈ gAll := gm 925 rfl rfl
set_option maxRecDepth 100000 in
theorem wd_927 : Jvm.Cond.selects "BodySolidsModel" ({ cls := "BodySolidsModel", name := "tube", desc := "(IJJJJIJ)Z" } : Jvm.MethodName) ({ cls := "BodySolidsModel", name := "tube", desc := "(IJJJJIJ)Z" } : Jvm.MethodName) ∈ gAll := gm 927 rfl rfl
set_option maxRecDepth 100000 in
theorem wd_932 : Jvm.Cond.methodLink "BodySolidsLaw" (114 : Nat) ({ cls := "BodySolidsModel", name := "join", desc := "(II)I" } : Jvm.MethodName) ∈ gAll := gm 932 rfl rfl
set_option maxRecDepth 100000 in
theorem wd_934 : Jvm.Cond.selects "BodySolidsModel" ({ cls := "BodySolidsModel", name := "join", desc := "(II)I" } : Jvm.MethodName) ({ cls := "BodySolidsModel", name := "join", desc := "(II)I" } : Jvm.MethodName) ∈ gAll := gm 934 rfl rfl
set_option maxRecDepth 100000 in
theorem wd_1121 : Jvm.Cond.constantLong "BodySolidsLaw" (86 : Nat) (4294967295 : Int64) ∈ gAll := gm 1121 rfl rfl
abbrev b_law : ByteArray := code
def y_law : MethodName := ⟨"BodySolidsLaw", "law", "([I)Z"⟩
theorem d_law_0 : decode b_law 0 = .ok (.new 8, 3) := by decide +kernel
theorem d_law_3 : decode b_law 3 = .ok (.dup, 1) := by decide +kernel
theorem d_law_4 : decode b_law 4 = .ok (.aload_n 0, 1) := by decide +kernel
theorem d_law_5 : decode b_law 5 = .ok (.iconst 0, 1) := by decide +kernel
theorem d_law_6 : decode b_law 6 = .ok (.invokestatic 69, 3) := by decide +kernel
theorem d_law_9 : decode b_law 9 = .ok (.i2l, 1) := by decide +kernel
theorem d_law_10 : decode b_law 10 = .ok (.invokespecial 75, 3) := by decide +kernel
theorem d_law_13 : decode b_law 13 = .ok (.astore_n 1, 1) := by decide +kernel
theorem d_law_14 : decode b_law 14 = .ok (.new 78, 3) := by decide +kernel
theorem d_law_17 : decode b_law 17 = .ok (.dup, 1) := by decide +kernel
theorem d_law_18 : decode b_law 18 = .ok (.aload_n 0, 1) := by decide +kernel
theorem d_law_19 : decode b_law 19 = .ok (.iconst 0, 1) := by decide +kernel
theorem d_law_20 : decode b_law 20 = .ok (.invokestatic 69, 3) := by decide +kernel
theorem d_law_23 : decode b_law 23 = .ok (.i2l, 1) := by decide +kernel
theorem d_law_24 : decode b_law 24 = .ok (.invokespecial 80, 3) := by decide +kernel
theorem d_law_27 : decode b_law 27 = .ok (.astore_n 2, 1) := by decide +kernel
theorem d_law_28 : decode b_law 28 = .ok (.iconst 1, 1) := by decide +kernel
theorem d_law_29 : decode b_law 29 = .ok (.newarray .long, 2) := by decide +kernel
theorem d_law_31 : decode b_law 31 = .ok (.astore_n 3, 1) := by decide +kernel
theorem d_law_32 : decode b_law 32 = .ok (.iconst 1, 1) := by decide +kernel
theorem d_law_33 : decode b_law 33 = .ok (.istore 4, 2) := by decide +kernel
theorem d_law_35 : decode b_law 35 = .ok (.iload 4, 2) := by decide +kernel
theorem d_law_37 : decode b_law 37 = .ok (.aload_n 0, 1) := by decide +kernel
theorem d_law_38 : decode b_law 38 = .ok (.arraylength, 1) := by decide +kernel
theorem d_law_39 : decode b_law 39 = .ok (.bipush 14, 2) := by decide +kernel
theorem d_law_41 : decode b_law 41 = .ok (.isub, 1) := by decide +kernel
theorem d_law_42 : decode b_law 42 = .ok (.if_icmp .gt 2068, 3) := by decide +kernel
theorem d_law_45 : decode b_law 45 = .ok (.aload_n 0, 1) := by decide +kernel
theorem d_law_46 : decode b_law 46 = .ok (.iload 4, 2) := by decide +kernel
theorem d_law_48 : decode b_law 48 = .ok (.iaload, 1) := by decide +kernel
theorem d_law_49 : decode b_law 49 = .ok (.bipush 31, 2) := by decide +kernel
theorem d_law_51 : decode b_law 51 = .ok (.iand, 1) := by decide +kernel
theorem d_law_52 : decode b_law 52 = .ok (.tableswitch 2052 0 16 #[84, 97, 405, 665, 769, 885, 1194, 1234, 1378, 1522, 1562, 1575, 1615, 1875, 1900, 1940, 2024], 84) := by decide +kernel
theorem d_law_136 : decode b_law 136 = .ok (.aload_n 1, 1) := by decide +kernel
theorem d_law_137 : decode b_law 137 = .ok (.invokevirtual 81, 3) := by decide +kernel
theorem d_law_140 : decode b_law 140 = .ok (.pop, 1) := by decide +kernel
theorem d_law_141 : decode b_law 141 = .ok (.aload_n 2, 1) := by decide +kernel
theorem d_law_142 : decode b_law 142 = .ok (.invokevirtual 85, 3) := by decide +kernel
theorem d_law_145 : decode b_law 145 = .ok (.pop, 1) := by decide +kernel
theorem d_law_146 : decode b_law 146 = .ok (.goto 1958, 3) := by decide +kernel
theorem d_law_149 : decode b_law 149 = .ok (.aload_n 1, 1) := by decide +kernel
theorem d_law_150 : decode b_law 150 = .ok (.aload_n 0, 1) := by decide +kernel
theorem d_law_151 : decode b_law 151 = .ok (.iload 4, 2) := by decide +kernel
theorem d_law_153 : decode b_law 153 = .ok (.iconst 1, 1) := by decide +kernel
theorem d_law_154 : decode b_law 154 = .ok (.iadd, 1) := by decide +kernel
theorem d_law_155 : decode b_law 155 = .ok (.iaload, 1) := by decide +kernel
theorem d_law_156 : decode b_law 156 = .ok (.aload_n 0, 1) := by decide +kernel
theorem d_law_157 : decode b_law 157 = .ok (.iload 4, 2) := by decide +kernel
theorem d_law_159 : decode b_law 159 = .ok (.iconst 2, 1) := by decide +kernel
theorem d_law_160 : decode b_law 160 = .ok (.iadd, 1) := by decide +kernel
theorem d_law_161 : decode b_law 161 = .ok (.iaload, 1) := by decide +kernel
theorem d_law_162 : decode b_law 162 = .ok (.i2l, 1) := by decide +kernel
theorem d_law_163 : decode b_law 163 = .ok (.bipush 32, 2) := by decide +kernel
theorem d_law_165 : decode b_law 165 = .ok (.lshl, 1) := by decide +kernel
theorem d_law_166 : decode b_law 166 = .ok (.aload_n 0, 1) := by decide +kernel
theorem d_law_167 : decode b_law 167 = .ok (.iload 4, 2) := by decide +kernel
theorem d_law_169 : decode b_law 169 = .ok (.iconst 3, 1) := by decide +kernel
theorem d_law_170 : decode b_law 170 = .ok (.iadd, 1) := by decide +kernel
theorem d_law_171 : decode b_law 171 = .ok (.iaload, 1) := by decide +kernel
theorem d_law_172 : decode b_law 172 = .ok (.i2l, 1) := by decide +kernel
theorem d_law_173 : decode b_law 173 = .ok (.ldc2_w 86, 3) := by decide +kernel
theorem d_law_176 : decode b_law 176 = .ok (.land, 1) := by decide +kernel
theorem d_law_177 : decode b_law 177 = .ok (.lor, 1) := by decide +kernel
theorem d_law_178 : decode b_law 178 = .ok (.aload_n 0, 1) := by decide +kernel
theorem d_law_179 : decode b_law 179 = .ok (.iload 4, 2) := by decide +kernel
theorem d_law_181 : decode b_law 181 = .ok (.iconst 4, 1) := by decide +kernel
theorem d_law_182 : decode b_law 182 = .ok (.iadd, 1) := by decide +kernel
theorem d_law_183 : decode b_law 183 = .ok (.iaload, 1) := by decide +kernel
theorem d_law_184 : decode b_law 184 = .ok (.i2l, 1) := by decide +kernel
theorem d_law_185 : decode b_law 185 = .ok (.bipush 32, 2) := by decide +kernel
theorem d_law_187 : decode b_law 187 = .ok (.lshl, 1) := by decide +kernel
theorem d_law_188 : decode b_law 188 = .ok (.aload_n 0, 1) := by decide +kernel
theorem d_law_189 : decode b_law 189 = .ok (.iload 4, 2) := by decide +kernel
theorem d_law_191 : decode b_law 191 = .ok (.iconst 5, 1) := by decide +kernel
theorem d_law_192 : decode b_law 192 = .ok (.iadd, 1) := by decide +kernel
theorem d_law_193 : decode b_law 193 = .ok (.iaload, 1) := by decide +kernel
theorem d_law_194 : decode b_law 194 = .ok (.i2l, 1) := by decide +kernel
theorem d_law_195 : decode b_law 195 = .ok (.ldc2_w 86, 3) := by decide +kernel
theorem d_law_198 : decode b_law 198 = .ok (.land, 1) := by decide +kernel
theorem d_law_199 : decode b_law 199 = .ok (.lor, 1) := by decide +kernel
theorem d_law_200 : decode b_law 200 = .ok (.aload_n 0, 1) := by decide +kernel
theorem d_law_201 : decode b_law 201 = .ok (.iload 4, 2) := by decide +kernel
theorem d_law_203 : decode b_law 203 = .ok (.bipush 6, 2) := by decide +kernel
theorem d_law_205 : decode b_law 205 = .ok (.iadd, 1) := by decide +kernel
theorem d_law_206 : decode b_law 206 = .ok (.iaload, 1) := by decide +kernel
theorem d_law_207 : decode b_law 207 = .ok (.i2l, 1) := by decide +kernel
theorem d_law_208 : decode b_law 208 = .ok (.bipush 32, 2) := by decide +kernel
theorem d_law_210 : decode b_law 210 = .ok (.lshl, 1) := by decide +kernel
theorem d_law_211 : decode b_law 211 = .ok (.aload_n 0, 1) := by decide +kernel
theorem d_law_212 : decode b_law 212 = .ok (.iload 4, 2) := by decide +kernel
theorem d_law_214 : decode b_law 214 = .ok (.bipush 7, 2) := by decide +kernel
theorem d_law_216 : decode b_law 216 = .ok (.iadd, 1) := by decide +kernel
theorem d_law_217 : decode b_law 217 = .ok (.iaload, 1) := by decide +kernel
theorem d_law_218 : decode b_law 218 = .ok (.i2l, 1) := by decide +kernel
theorem d_law_219 : decode b_law 219 = .ok (.ldc2_w 86, 3) := by decide +kernel
theorem d_law_222 : decode b_law 222 = .ok (.land, 1) := by decide +kernel
theorem d_law_223 : decode b_law 223 = .ok (.lor, 1) := by decide +kernel
theorem d_law_224 : decode b_law 224 = .ok (.aload_n 0, 1) := by decide +kernel
theorem d_law_225 : decode b_law 225 = .ok (.iload 4, 2) := by decide +kernel
theorem d_law_227 : decode b_law 227 = .ok (.bipush 8, 2) := by decide +kernel
theorem d_law_229 : decode b_law 229 = .ok (.iadd, 1) := by decide +kernel
theorem d_law_230 : decode b_law 230 = .ok (.iaload, 1) := by decide +kernel
theorem d_law_231 : decode b_law 231 = .ok (.i2l, 1) := by decide +kernel
theorem d_law_232 : decode b_law 232 = .ok (.bipush 32, 2) := by decide +kernel
theorem d_law_234 : decode b_law 234 = .ok (.lshl, 1) := by decide +kernel
theorem d_law_235 : decode b_law 235 = .ok (.aload_n 0, 1) := by decide +kernel
theorem d_law_236 : decode b_law 236 = .ok (.iload 4, 2) := by decide +kernel
theorem d_law_238 : decode b_law 238 = .ok (.bipush 9, 2) := by decide +kernel
theorem d_law_240 : decode b_law 240 = .ok (.iadd, 1) := by decide +kernel
theorem d_law_241 : decode b_law 241 = .ok (.iaload, 1) := by decide +kernel
theorem d_law_242 : decode b_law 242 = .ok (.i2l, 1) := by decide +kernel
theorem d_law_243 : decode b_law 243 = .ok (.ldc2_w 86, 3) := by decide +kernel
theorem d_law_246 : decode b_law 246 = .ok (.land, 1) := by decide +kernel
theorem d_law_247 : decode b_law 247 = .ok (.lor, 1) := by decide +kernel
theorem d_law_248 : decode b_law 248 = .ok (.aload_n 0, 1) := by decide +kernel
theorem d_law_249 : decode b_law 249 = .ok (.iload 4, 2) := by decide +kernel
theorem d_law_251 : decode b_law 251 = .ok (.bipush 10, 2) := by decide +kernel
theorem d_law_253 : decode b_law 253 = .ok (.iadd, 1) := by decide +kernel
theorem d_law_254 : decode b_law 254 = .ok (.iaload, 1) := by decide +kernel
theorem d_law_255 : decode b_law 255 = .ok (.i2l, 1) := by decide +kernel
theorem d_law_256 : decode b_law 256 = .ok (.bipush 32, 2) := by decide +kernel
theorem d_law_258 : decode b_law 258 = .ok (.lshl, 1) := by decide +kernel
theorem d_law_259 : decode b_law 259 = .ok (.aload_n 0, 1) := by decide +kernel
theorem d_law_260 : decode b_law 260 = .ok (.iload 4, 2) := by decide +kernel
theorem d_law_262 : decode b_law 262 = .ok (.bipush 11, 2) := by decide +kernel
theorem d_law_264 : decode b_law 264 = .ok (.iadd, 1) := by decide +kernel
theorem d_law_265 : decode b_law 265 = .ok (.iaload, 1) := by decide +kernel
theorem d_law_266 : decode b_law 266 = .ok (.i2l, 1) := by decide +kernel
theorem d_law_267 : decode b_law 267 = .ok (.ldc2_w 86, 3) := by decide +kernel
theorem d_law_270 : decode b_law 270 = .ok (.land, 1) := by decide +kernel
theorem d_law_271 : decode b_law 271 = .ok (.lor, 1) := by decide +kernel
theorem d_law_272 : decode b_law 272 = .ok (.aload_n 0, 1) := by decide +kernel
theorem d_law_273 : decode b_law 273 = .ok (.iload 4, 2) := by decide +kernel
theorem d_law_275 : decode b_law 275 = .ok (.bipush 12, 2) := by decide +kernel
theorem d_law_277 : decode b_law 277 = .ok (.iadd, 1) := by decide +kernel
theorem d_law_278 : decode b_law 278 = .ok (.iaload, 1) := by decide +kernel
theorem d_law_279 : decode b_law 279 = .ok (.i2l, 1) := by decide +kernel
theorem d_law_280 : decode b_law 280 = .ok (.bipush 32, 2) := by decide +kernel
theorem d_law_282 : decode b_law 282 = .ok (.lshl, 1) := by decide +kernel
theorem d_law_283 : decode b_law 283 = .ok (.aload_n 0, 1) := by decide +kernel
theorem d_law_284 : decode b_law 284 = .ok (.iload 4, 2) := by decide +kernel
theorem d_law_286 : decode b_law 286 = .ok (.bipush 13, 2) := by decide +kernel
theorem d_law_288 : decode b_law 288 = .ok (.iadd, 1) := by decide +kernel
theorem d_law_289 : decode b_law 289 = .ok (.iaload, 1) := by decide +kernel
theorem d_law_290 : decode b_law 290 = .ok (.i2l, 1) := by decide +kernel
theorem d_law_291 : decode b_law 291 = .ok (.ldc2_w 86, 3) := by decide +kernel
theorem d_law_294 : decode b_law 294 = .ok (.land, 1) := by decide +kernel
theorem d_law_295 : decode b_law 295 = .ok (.lor, 1) := by decide +kernel
theorem d_law_296 : decode b_law 296 = .ok (.aload_n 3, 1) := by decide +kernel
theorem d_law_297 : decode b_law 297 = .ok (.invokestatic 88, 3) := by decide +kernel
theorem d_law_300 : decode b_law 300 = .ok (.istore 5, 2) := by decide +kernel
theorem d_law_302 : decode b_law 302 = .ok (.aload_n 2, 1) := by decide +kernel
theorem d_law_303 : decode b_law 303 = .ok (.aload_n 0, 1) := by decide +kernel
theorem d_law_304 : decode b_law 304 = .ok (.iload 4, 2) := by decide +kernel
theorem d_law_306 : decode b_law 306 = .ok (.iconst 1, 1) := by decide +kernel
theorem d_law_307 : decode b_law 307 = .ok (.iadd, 1) := by decide +kernel
theorem d_law_308 : decode b_law 308 = .ok (.iaload, 1) := by decide +kernel
theorem d_law_309 : decode b_law 309 = .ok (.aload_n 0, 1) := by decide +kernel
theorem d_law_310 : decode b_law 310 = .ok (.iload 4, 2) := by decide +kernel
theorem d_law_312 : decode b_law 312 = .ok (.iconst 2, 1) := by decide +kernel
theorem d_law_313 : decode b_law 313 = .ok (.iadd, 1) := by decide +kernel
theorem d_law_314 : decode b_law 314 = .ok (.iaload, 1) := by decide +kernel
theorem d_law_315 : decode b_law 315 = .ok (.i2l, 1) := by decide +kernel
theorem d_law_316 : decode b_law 316 = .ok (.bipush 32, 2) := by decide +kernel
theorem d_law_318 : decode b_law 318 = .ok (.lshl, 1) := by decide +kernel
theorem d_law_319 : decode b_law 319 = .ok (.aload_n 0, 1) := by decide +kernel
theorem d_law_320 : decode b_law 320 = .ok (.iload 4, 2) := by decide +kernel
theorem d_law_322 : decode b_law 322 = .ok (.iconst 3, 1) := by decide +kernel
theorem d_law_323 : decode b_law 323 = .ok (.iadd, 1) := by decide +kernel
theorem d_law_324 : decode b_law 324 = .ok (.iaload, 1) := by decide +kernel
theorem d_law_325 : decode b_law 325 = .ok (.i2l, 1) := by decide +kernel
theorem d_law_326 : decode b_law 326 = .ok (.ldc2_w 86, 3) := by decide +kernel
theorem d_law_329 : decode b_law 329 = .ok (.land, 1) := by decide +kernel
theorem d_law_330 : decode b_law 330 = .ok (.lor, 1) := by decide +kernel
theorem d_law_331 : decode b_law 331 = .ok (.aload_n 0, 1) := by decide +kernel
theorem d_law_332 : decode b_law 332 = .ok (.iload 4, 2) := by decide +kernel
theorem d_law_334 : decode b_law 334 = .ok (.iconst 4, 1) := by decide +kernel
theorem d_law_335 : decode b_law 335 = .ok (.iadd, 1) := by decide +kernel
theorem d_law_336 : decode b_law 336 = .ok (.iaload, 1) := by decide +kernel
theorem d_law_337 : decode b_law 337 = .ok (.i2l, 1) := by decide +kernel
theorem d_law_338 : decode b_law 338 = .ok (.bipush 32, 2) := by decide +kernel
theorem d_law_340 : decode b_law 340 = .ok (.lshl, 1) := by decide +kernel
theorem d_law_341 : decode b_law 341 = .ok (.aload_n 0, 1) := by decide +kernel
theorem d_law_342 : decode b_law 342 = .ok (.iload 4, 2) := by decide +kernel
theorem d_law_344 : decode b_law 344 = .ok (.iconst 5, 1) := by decide +kernel
theorem d_law_345 : decode b_law 345 = .ok (.iadd, 1) := by decide +kernel
theorem d_law_346 : decode b_law 346 = .ok (.iaload, 1) := by decide +kernel
theorem d_law_347 : decode b_law 347 = .ok (.i2l, 1) := by decide +kernel
theorem d_law_348 : decode b_law 348 = .ok (.ldc2_w 86, 3) := by decide +kernel
theorem d_law_351 : decode b_law 351 = .ok (.land, 1) := by decide +kernel
theorem d_law_352 : decode b_law 352 = .ok (.lor, 1) := by decide +kernel
theorem d_law_353 : decode b_law 353 = .ok (.aload_n 0, 1) := by decide +kernel
theorem d_law_354 : decode b_law 354 = .ok (.iload 4, 2) := by decide +kernel
theorem d_law_356 : decode b_law 356 = .ok (.bipush 6, 2) := by decide +kernel
theorem d_law_358 : decode b_law 358 = .ok (.iadd, 1) := by decide +kernel
theorem d_law_359 : decode b_law 359 = .ok (.iaload, 1) := by decide +kernel
theorem d_law_360 : decode b_law 360 = .ok (.i2l, 1) := by decide +kernel
theorem d_law_361 : decode b_law 361 = .ok (.bipush 32, 2) := by decide +kernel
theorem d_law_363 : decode b_law 363 = .ok (.lshl, 1) := by decide +kernel
theorem d_law_364 : decode b_law 364 = .ok (.aload_n 0, 1) := by decide +kernel
theorem d_law_365 : decode b_law 365 = .ok (.iload 4, 2) := by decide +kernel
theorem d_law_367 : decode b_law 367 = .ok (.bipush 7, 2) := by decide +kernel
theorem d_law_369 : decode b_law 369 = .ok (.iadd, 1) := by decide +kernel
theorem d_law_370 : decode b_law 370 = .ok (.iaload, 1) := by decide +kernel
theorem d_law_371 : decode b_law 371 = .ok (.i2l, 1) := by decide +kernel
theorem d_law_372 : decode b_law 372 = .ok (.ldc2_w 86, 3) := by decide +kernel
theorem d_law_375 : decode b_law 375 = .ok (.land, 1) := by decide +kernel
theorem d_law_376 : decode b_law 376 = .ok (.lor, 1) := by decide +kernel
theorem d_law_377 : decode b_law 377 = .ok (.aload_n 0, 1) := by decide +kernel
theorem d_law_378 : decode b_law 378 = .ok (.iload 4, 2) := by decide +kernel
theorem d_law_380 : decode b_law 380 = .ok (.bipush 8, 2) := by decide +kernel
theorem d_law_382 : decode b_law 382 = .ok (.iadd, 1) := by decide +kernel
theorem d_law_383 : decode b_law 383 = .ok (.iaload, 1) := by decide +kernel
theorem d_law_384 : decode b_law 384 = .ok (.i2l, 1) := by decide +kernel
theorem d_law_385 : decode b_law 385 = .ok (.bipush 32, 2) := by decide +kernel
theorem d_law_387 : decode b_law 387 = .ok (.lshl, 1) := by decide +kernel
theorem d_law_388 : decode b_law 388 = .ok (.aload_n 0, 1) := by decide +kernel
theorem d_law_389 : decode b_law 389 = .ok (.iload 4, 2) := by decide +kernel
theorem d_law_391 : decode b_law 391 = .ok (.bipush 9, 2) := by decide +kernel
theorem d_law_393 : decode b_law 393 = .ok (.iadd, 1) := by decide +kernel
theorem d_law_394 : decode b_law 394 = .ok (.iaload, 1) := by decide +kernel
theorem d_law_395 : decode b_law 395 = .ok (.i2l, 1) := by decide +kernel
theorem d_law_396 : decode b_law 396 = .ok (.ldc2_w 86, 3) := by decide +kernel
theorem d_law_399 : decode b_law 399 = .ok (.land, 1) := by decide +kernel
theorem d_law_400 : decode b_law 400 = .ok (.lor, 1) := by decide +kernel
theorem d_law_401 : decode b_law 401 = .ok (.aload_n 0, 1) := by decide +kernel
theorem d_law_402 : decode b_law 402 = .ok (.iload 4, 2) := by decide +kernel
theorem d_law_404 : decode b_law 404 = .ok (.bipush 10, 2) := by decide +kernel
theorem d_law_406 : decode b_law 406 = .ok (.iadd, 1) := by decide +kernel
theorem d_law_407 : decode b_law 407 = .ok (.iaload, 1) := by decide +kernel
theorem d_law_408 : decode b_law 408 = .ok (.i2l, 1) := by decide +kernel
theorem d_law_409 : decode b_law 409 = .ok (.bipush 32, 2) := by decide +kernel
theorem d_law_411 : decode b_law 411 = .ok (.lshl, 1) := by decide +kernel
theorem d_law_412 : decode b_law 412 = .ok (.aload_n 0, 1) := by decide +kernel
theorem d_law_413 : decode b_law 413 = .ok (.iload 4, 2) := by decide +kernel
theorem d_law_415 : decode b_law 415 = .ok (.bipush 11, 2) := by decide +kernel
theorem d_law_417 : decode b_law 417 = .ok (.iadd, 1) := by decide +kernel
theorem d_law_418 : decode b_law 418 = .ok (.iaload, 1) := by decide +kernel
theorem d_law_419 : decode b_law 419 = .ok (.i2l, 1) := by decide +kernel
theorem d_law_420 : decode b_law 420 = .ok (.ldc2_w 86, 3) := by decide +kernel
theorem d_law_423 : decode b_law 423 = .ok (.land, 1) := by decide +kernel
theorem d_law_424 : decode b_law 424 = .ok (.lor, 1) := by decide +kernel
theorem d_law_425 : decode b_law 425 = .ok (.aload_n 0, 1) := by decide +kernel
theorem d_law_426 : decode b_law 426 = .ok (.iload 4, 2) := by decide +kernel
theorem d_law_428 : decode b_law 428 = .ok (.bipush 12, 2) := by decide +kernel
theorem d_law_430 : decode b_law 430 = .ok (.iadd, 1) := by decide +kernel
theorem d_law_431 : decode b_law 431 = .ok (.iaload, 1) := by decide +kernel
theorem d_law_432 : decode b_law 432 = .ok (.i2l, 1) := by decide +kernel
theorem d_law_433 : decode b_law 433 = .ok (.bipush 32, 2) := by decide +kernel
theorem d_law_435 : decode b_law 435 = .ok (.lshl, 1) := by decide +kernel
theorem d_law_436 : decode b_law 436 = .ok (.aload_n 0, 1) := by decide +kernel
theorem d_law_437 : decode b_law 437 = .ok (.iload 4, 2) := by decide +kernel
theorem d_law_439 : decode b_law 439 = .ok (.bipush 13, 2) := by decide +kernel
theorem d_law_441 : decode b_law 441 = .ok (.iadd, 1) := by decide +kernel
theorem d_law_442 : decode b_law 442 = .ok (.iaload, 1) := by decide +kernel
theorem d_law_443 : decode b_law 443 = .ok (.i2l, 1) := by decide +kernel
theorem d_law_444 : decode b_law 444 = .ok (.ldc2_w 86, 3) := by decide +kernel
theorem d_law_447 : decode b_law 447 = .ok (.land, 1) := by decide +kernel
theorem d_law_448 : decode b_law 448 = .ok (.lor, 1) := by decide +kernel
theorem d_law_449 : decode b_law 449 = .ok (.invokevirtual 91, 3) := by decide +kernel
theorem d_law_452 : decode b_law 452 = .ok (.istore 6, 2) := by decide +kernel
theorem d_law_454 : decode b_law 454 = .ok (.goto 1650, 3) := by decide +kernel
theorem d_law_457 : decode b_law 457 = .ok (.aload_n 1, 1) := by decide +kernel
theorem d_law_458 : decode b_law 458 = .ok (.aload_n 0, 1) := by decide +kernel
theorem d_law_459 : decode b_law 459 = .ok (.iload 4, 2) := by decide +kernel
theorem d_law_461 : decode b_law 461 = .ok (.iconst 1, 1) := by decide +kernel
theorem d_law_462 : decode b_law 462 = .ok (.iadd, 1) := by decide +kernel
theorem d_law_463 : decode b_law 463 = .ok (.iaload, 1) := by decide +kernel
theorem d_law_464 : decode b_law 464 = .ok (.aload_n 0, 1) := by decide +kernel
theorem d_law_465 : decode b_law 465 = .ok (.iload 4, 2) := by decide +kernel
theorem d_law_467 : decode b_law 467 = .ok (.iconst 2, 1) := by decide +kernel
theorem d_law_468 : decode b_law 468 = .ok (.iadd, 1) := by decide +kernel
theorem d_law_469 : decode b_law 469 = .ok (.iaload, 1) := by decide +kernel
theorem d_law_470 : decode b_law 470 = .ok (.i2l, 1) := by decide +kernel
theorem d_law_471 : decode b_law 471 = .ok (.bipush 32, 2) := by decide +kernel
theorem d_law_473 : decode b_law 473 = .ok (.lshl, 1) := by decide +kernel
theorem d_law_474 : decode b_law 474 = .ok (.aload_n 0, 1) := by decide +kernel
theorem d_law_475 : decode b_law 475 = .ok (.iload 4, 2) := by decide +kernel
theorem d_law_477 : decode b_law 477 = .ok (.iconst 3, 1) := by decide +kernel
theorem d_law_478 : decode b_law 478 = .ok (.iadd, 1) := by decide +kernel
theorem d_law_479 : decode b_law 479 = .ok (.iaload, 1) := by decide +kernel
theorem d_law_480 : decode b_law 480 = .ok (.i2l, 1) := by decide +kernel
theorem d_law_481 : decode b_law 481 = .ok (.ldc2_w 86, 3) := by decide +kernel
theorem d_law_484 : decode b_law 484 = .ok (.land, 1) := by decide +kernel
theorem d_law_485 : decode b_law 485 = .ok (.lor, 1) := by decide +kernel
theorem d_law_486 : decode b_law 486 = .ok (.aload_n 0, 1) := by decide +kernel
theorem d_law_487 : decode b_law 487 = .ok (.iload 4, 2) := by decide +kernel
theorem d_law_489 : decode b_law 489 = .ok (.iconst 4, 1) := by decide +kernel
theorem d_law_490 : decode b_law 490 = .ok (.iadd, 1) := by decide +kernel
theorem d_law_491 : decode b_law 491 = .ok (.iaload, 1) := by decide +kernel
theorem d_law_492 : decode b_law 492 = .ok (.i2l, 1) := by decide +kernel
theorem d_law_493 : decode b_law 493 = .ok (.bipush 32, 2) := by decide +kernel
theorem d_law_495 : decode b_law 495 = .ok (.lshl, 1) := by decide +kernel
theorem d_law_496 : decode b_law 496 = .ok (.aload_n 0, 1) := by decide +kernel
theorem d_law_497 : decode b_law 497 = .ok (.iload 4, 2) := by decide +kernel
theorem d_law_499 : decode b_law 499 = .ok (.iconst 5, 1) := by decide +kernel
theorem d_law_500 : decode b_law 500 = .ok (.iadd, 1) := by decide +kernel
theorem d_law_501 : decode b_law 501 = .ok (.iaload, 1) := by decide +kernel
theorem d_law_502 : decode b_law 502 = .ok (.i2l, 1) := by decide +kernel
theorem d_law_503 : decode b_law 503 = .ok (.ldc2_w 86, 3) := by decide +kernel
theorem d_law_506 : decode b_law 506 = .ok (.land, 1) := by decide +kernel
theorem d_law_507 : decode b_law 507 = .ok (.lor, 1) := by decide +kernel
theorem d_law_508 : decode b_law 508 = .ok (.aload_n 0, 1) := by decide +kernel
theorem d_law_509 : decode b_law 509 = .ok (.iload 4, 2) := by decide +kernel
theorem d_law_511 : decode b_law 511 = .ok (.bipush 6, 2) := by decide +kernel
theorem d_law_513 : decode b_law 513 = .ok (.iadd, 1) := by decide +kernel
theorem d_law_514 : decode b_law 514 = .ok (.iaload, 1) := by decide +kernel
theorem d_law_515 : decode b_law 515 = .ok (.i2l, 1) := by decide +kernel
theorem d_law_516 : decode b_law 516 = .ok (.bipush 32, 2) := by decide +kernel
theorem d_law_518 : decode b_law 518 = .ok (.lshl, 1) := by decide +kernel
theorem d_law_519 : decode b_law 519 = .ok (.aload_n 0, 1) := by decide +kernel
theorem d_law_520 : decode b_law 520 = .ok (.iload 4, 2) := by decide +kernel
theorem d_law_522 : decode b_law 522 = .ok (.bipush 7, 2) := by decide +kernel
theorem d_law_524 : decode b_law 524 = .ok (.iadd, 1) := by decide +kernel
theorem d_law_525 : decode b_law 525 = .ok (.iaload, 1) := by decide +kernel
theorem d_law_526 : decode b_law 526 = .ok (.i2l, 1) := by decide +kernel
theorem d_law_527 : decode b_law 527 = .ok (.ldc2_w 86, 3) := by decide +kernel
theorem d_law_530 : decode b_law 530 = .ok (.land, 1) := by decide +kernel
theorem d_law_531 : decode b_law 531 = .ok (.lor, 1) := by decide +kernel
theorem d_law_532 : decode b_law 532 = .ok (.aload_n 0, 1) := by decide +kernel
theorem d_law_533 : decode b_law 533 = .ok (.iload 4, 2) := by decide +kernel
theorem d_law_535 : decode b_law 535 = .ok (.bipush 8, 2) := by decide +kernel
theorem d_law_537 : decode b_law 537 = .ok (.iadd, 1) := by decide +kernel
theorem d_law_538 : decode b_law 538 = .ok (.iaload, 1) := by decide +kernel
theorem d_law_539 : decode b_law 539 = .ok (.i2l, 1) := by decide +kernel
theorem d_law_540 : decode b_law 540 = .ok (.bipush 32, 2) := by decide +kernel
theorem d_law_542 : decode b_law 542 = .ok (.lshl, 1) := by decide +kernel
theorem d_law_543 : decode b_law 543 = .ok (.aload_n 0, 1) := by decide +kernel
theorem d_law_544 : decode b_law 544 = .ok (.iload 4, 2) := by decide +kernel
theorem d_law_546 : decode b_law 546 = .ok (.bipush 9, 2) := by decide +kernel
theorem d_law_548 : decode b_law 548 = .ok (.iadd, 1) := by decide +kernel
theorem d_law_549 : decode b_law 549 = .ok (.iaload, 1) := by decide +kernel
theorem d_law_550 : decode b_law 550 = .ok (.i2l, 1) := by decide +kernel
theorem d_law_551 : decode b_law 551 = .ok (.ldc2_w 86, 3) := by decide +kernel
theorem d_law_554 : decode b_law 554 = .ok (.land, 1) := by decide +kernel
theorem d_law_555 : decode b_law 555 = .ok (.lor, 1) := by decide +kernel
theorem d_law_556 : decode b_law 556 = .ok (.aload_n 0, 1) := by decide +kernel
theorem d_law_557 : decode b_law 557 = .ok (.iload 4, 2) := by decide +kernel
theorem d_law_559 : decode b_law 559 = .ok (.bipush 10, 2) := by decide +kernel
theorem d_law_561 : decode b_law 561 = .ok (.iadd, 1) := by decide +kernel
theorem d_law_562 : decode b_law 562 = .ok (.iaload, 1) := by decide +kernel
theorem d_law_563 : decode b_law 563 = .ok (.i2l, 1) := by decide +kernel
theorem d_law_564 : decode b_law 564 = .ok (.bipush 32, 2) := by decide +kernel
theorem d_law_566 : decode b_law 566 = .ok (.lshl, 1) := by decide +kernel
theorem d_law_567 : decode b_law 567 = .ok (.aload_n 0, 1) := by decide +kernel
theorem d_law_568 : decode b_law 568 = .ok (.iload 4, 2) := by decide +kernel
theorem d_law_570 : decode b_law 570 = .ok (.bipush 11, 2) := by decide +kernel
theorem d_law_572 : decode b_law 572 = .ok (.iadd, 1) := by decide +kernel
theorem d_law_573 : decode b_law 573 = .ok (.iaload, 1) := by decide +kernel
theorem d_law_574 : decode b_law 574 = .ok (.i2l, 1) := by decide +kernel
theorem d_law_575 : decode b_law 575 = .ok (.ldc2_w 86, 3) := by decide +kernel
theorem d_law_578 : decode b_law 578 = .ok (.land, 1) := by decide +kernel
theorem d_law_579 : decode b_law 579 = .ok (.lor, 1) := by decide +kernel
theorem d_law_580 : decode b_law 580 = .ok (.aload_n 3, 1) := by decide +kernel
theorem d_law_581 : decode b_law 581 = .ok (.invokestatic 92, 3) := by decide +kernel
theorem d_law_717 : decode b_law 717 = .ok (.aload_n 1, 1) := by decide +kernel
theorem d_law_718 : decode b_law 718 = .ok (.aload_n 0, 1) := by decide +kernel
theorem d_law_719 : decode b_law 719 = .ok (.iload 4, 2) := by decide +kernel
theorem d_law_721 : decode b_law 721 = .ok (.iconst 1, 1) := by decide +kernel
theorem d_law_722 : decode b_law 722 = .ok (.iadd, 1) := by decide +kernel
theorem d_law_723 : decode b_law 723 = .ok (.iaload, 1) := by decide +kernel
theorem d_law_724 : decode b_law 724 = .ok (.i2l, 1) := by decide +kernel
theorem d_law_725 : decode b_law 725 = .ok (.bipush 32, 2) := by decide +kernel
theorem d_law_727 : decode b_law 727 = .ok (.lshl, 1) := by decide +kernel
theorem d_law_728 : decode b_law 728 = .ok (.aload_n 0, 1) := by decide +kernel
theorem d_law_729 : decode b_law 729 = .ok (.iload 4, 2) := by decide +kernel
theorem d_law_731 : decode b_law 731 = .ok (.iconst 2, 1) := by decide +kernel
theorem d_law_732 : decode b_law 732 = .ok (.iadd, 1) := by decide +kernel
theorem d_law_733 : decode b_law 733 = .ok (.iaload, 1) := by decide +kernel
theorem d_law_734 : decode b_law 734 = .ok (.i2l, 1) := by decide +kernel
theorem d_law_735 : decode b_law 735 = .ok (.ldc2_w 86, 3) := by decide +kernel
theorem d_law_738 : decode b_law 738 = .ok (.land, 1) := by decide +kernel
theorem d_law_739 : decode b_law 739 = .ok (.lor, 1) := by decide +kernel
theorem d_law_740 : decode b_law 740 = .ok (.aload_n 0, 1) := by decide +kernel
theorem d_law_741 : decode b_law 741 = .ok (.iload 4, 2) := by decide +kernel
theorem d_law_743 : decode b_law 743 = .ok (.iconst 3, 1) := by decide +kernel
theorem d_law_744 : decode b_law 744 = .ok (.iadd, 1) := by decide +kernel
theorem d_law_745 : decode b_law 745 = .ok (.iaload, 1) := by decide +kernel
theorem d_law_746 : decode b_law 746 = .ok (.i2l, 1) := by decide +kernel
theorem d_law_747 : decode b_law 747 = .ok (.bipush 32, 2) := by decide +kernel
theorem d_law_749 : decode b_law 749 = .ok (.lshl, 1) := by decide +kernel
theorem d_law_750 : decode b_law 750 = .ok (.aload_n 0, 1) := by decide +kernel
theorem d_law_751 : decode b_law 751 = .ok (.iload 4, 2) := by decide +kernel
theorem d_law_753 : decode b_law 753 = .ok (.iconst 4, 1) := by decide +kernel
theorem d_law_754 : decode b_law 754 = .ok (.iadd, 1) := by decide +kernel
theorem d_law_755 : decode b_law 755 = .ok (.iaload, 1) := by decide +kernel
theorem d_law_756 : decode b_law 756 = .ok (.i2l, 1) := by decide +kernel
theorem d_law_757 : decode b_law 757 = .ok (.ldc2_w 86, 3) := by decide +kernel
theorem d_law_760 : decode b_law 760 = .ok (.land, 1) := by decide +kernel
theorem d_law_761 : decode b_law 761 = .ok (.lor, 1) := by decide +kernel
theorem d_law_762 : decode b_law 762 = .ok (.aload_n 3, 1) := by decide +kernel
theorem d_law_763 : decode b_law 763 = .ok (.invokestatic 96, 3) := by decide +kernel
theorem d_law_766 : decode b_law 766 = .ok (.istore 5, 2) := by decide +kernel
theorem d_law_768 : decode b_law 768 = .ok (.aload_n 2, 1) := by decide +kernel
theorem d_law_769 : decode b_law 769 = .ok (.aload_n 0, 1) := by decide +kernel
theorem d_law_770 : decode b_law 770 = .ok (.iload 4, 2) := by decide +kernel
theorem d_law_772 : decode b_law 772 = .ok (.iconst 1, 1) := by decide +kernel
theorem d_law_773 : decode b_law 773 = .ok (.iadd, 1) := by decide +kernel
theorem d_law_774 : decode b_law 774 = .ok (.iaload, 1) := by decide +kernel
theorem d_law_775 : decode b_law 775 = .ok (.i2l, 1) := by decide +kernel
theorem d_law_776 : decode b_law 776 = .ok (.bipush 32, 2) := by decide +kernel
theorem d_law_778 : decode b_law 778 = .ok (.lshl, 1) := by decide +kernel
theorem d_law_779 : decode b_law 779 = .ok (.aload_n 0, 1) := by decide +kernel
theorem d_law_780 : decode b_law 780 = .ok (.iload 4, 2) := by decide +kernel
theorem d_law_782 : decode b_law 782 = .ok (.iconst 2, 1) := by decide +kernel
theorem d_law_783 : decode b_law 783 = .ok (.iadd, 1) := by decide +kernel
theorem d_law_784 : decode b_law 784 = .ok (.iaload, 1) := by decide +kernel
theorem d_law_785 : decode b_law 785 = .ok (.i2l, 1) := by decide +kernel
theorem d_law_786 : decode b_law 786 = .ok (.ldc2_w 86, 3) := by decide +kernel
theorem d_law_789 : decode b_law 789 = .ok (.land, 1) := by decide +kernel
theorem d_law_790 : decode b_law 790 = .ok (.lor, 1) := by decide +kernel
theorem d_law_791 : decode b_law 791 = .ok (.aload_n 0, 1) := by decide +kernel
theorem d_law_792 : decode b_law 792 = .ok (.iload 4, 2) := by decide +kernel
theorem d_law_794 : decode b_law 794 = .ok (.iconst 3, 1) := by decide +kernel
theorem d_law_795 : decode b_law 795 = .ok (.iadd, 1) := by decide +kernel
theorem d_law_796 : decode b_law 796 = .ok (.iaload, 1) := by decide +kernel
theorem d_law_797 : decode b_law 797 = .ok (.i2l, 1) := by decide +kernel
theorem d_law_798 : decode b_law 798 = .ok (.bipush 32, 2) := by decide +kernel
theorem d_law_800 : decode b_law 800 = .ok (.lshl, 1) := by decide +kernel
theorem d_law_801 : decode b_law 801 = .ok (.aload_n 0, 1) := by decide +kernel
theorem d_law_802 : decode b_law 802 = .ok (.iload 4, 2) := by decide +kernel
theorem d_law_804 : decode b_law 804 = .ok (.iconst 4, 1) := by decide +kernel
theorem d_law_805 : decode b_law 805 = .ok (.iadd, 1) := by decide +kernel
theorem d_law_806 : decode b_law 806 = .ok (.iaload, 1) := by decide +kernel
theorem d_law_807 : decode b_law 807 = .ok (.i2l, 1) := by decide +kernel
theorem d_law_808 : decode b_law 808 = .ok (.ldc2_w 86, 3) := by decide +kernel
theorem d_law_811 : decode b_law 811 = .ok (.land, 1) := by decide +kernel
theorem d_law_812 : decode b_law 812 = .ok (.lor, 1) := by decide +kernel
theorem d_law_813 : decode b_law 813 = .ok (.invokevirtual 99, 3) := by decide +kernel
theorem d_law_816 : decode b_law 816 = .ok (.istore 6, 2) := by decide +kernel
theorem d_law_818 : decode b_law 818 = .ok (.goto 1286, 3) := by decide +kernel
theorem d_law_821 : decode b_law 821 = .ok (.aload_n 1, 1) := by decide +kernel
theorem d_law_822 : decode b_law 822 = .ok (.aload_n 0, 1) := by decide +kernel
theorem d_law_823 : decode b_law 823 = .ok (.iload 4, 2) := by decide +kernel
theorem d_law_825 : decode b_law 825 = .ok (.iconst 1, 1) := by decide +kernel
theorem d_law_826 : decode b_law 826 = .ok (.iadd, 1) := by decide +kernel
theorem d_law_827 : decode b_law 827 = .ok (.iaload, 1) := by decide +kernel
theorem d_law_828 : decode b_law 828 = .ok (.aload_n 0, 1) := by decide +kernel
theorem d_law_829 : decode b_law 829 = .ok (.iload 4, 2) := by decide +kernel
theorem d_law_831 : decode b_law 831 = .ok (.iconst 2, 1) := by decide +kernel
theorem d_law_832 : decode b_law 832 = .ok (.iadd, 1) := by decide +kernel
theorem d_law_833 : decode b_law 833 = .ok (.iaload, 1) := by decide +kernel
theorem d_law_834 : decode b_law 834 = .ok (.i2l, 1) := by decide +kernel
theorem d_law_835 : decode b_law 835 = .ok (.bipush 32, 2) := by decide +kernel
theorem d_law_837 : decode b_law 837 = .ok (.lshl, 1) := by decide +kernel
theorem d_law_838 : decode b_law 838 = .ok (.aload_n 0, 1) := by decide +kernel
theorem d_law_839 : decode b_law 839 = .ok (.iload 4, 2) := by decide +kernel
theorem d_law_841 : decode b_law 841 = .ok (.iconst 3, 1) := by decide +kernel
theorem d_law_842 : decode b_law 842 = .ok (.iadd, 1) := by decide +kernel
theorem d_law_843 : decode b_law 843 = .ok (.iaload, 1) := by decide +kernel
theorem d_law_844 : decode b_law 844 = .ok (.i2l, 1) := by decide +kernel
theorem d_law_845 : decode b_law 845 = .ok (.ldc2_w 86, 3) := by decide +kernel
theorem d_law_848 : decode b_law 848 = .ok (.land, 1) := by decide +kernel
theorem d_law_849 : decode b_law 849 = .ok (.lor, 1) := by decide +kernel
theorem d_law_850 : decode b_law 850 = .ok (.aload_n 0, 1) := by decide +kernel
theorem d_law_851 : decode b_law 851 = .ok (.iload 4, 2) := by decide +kernel
theorem d_law_853 : decode b_law 853 = .ok (.iconst 4, 1) := by decide +kernel
theorem d_law_854 : decode b_law 854 = .ok (.iadd, 1) := by decide +kernel
theorem d_law_855 : decode b_law 855 = .ok (.iaload, 1) := by decide +kernel
theorem d_law_856 : decode b_law 856 = .ok (.i2l, 1) := by decide +kernel
theorem d_law_857 : decode b_law 857 = .ok (.bipush 32, 2) := by decide +kernel
theorem d_law_859 : decode b_law 859 = .ok (.lshl, 1) := by decide +kernel
theorem d_law_860 : decode b_law 860 = .ok (.aload_n 0, 1) := by decide +kernel
theorem d_law_861 : decode b_law 861 = .ok (.iload 4, 2) := by decide +kernel
theorem d_law_863 : decode b_law 863 = .ok (.iconst 5, 1) := by decide +kernel
theorem d_law_864 : decode b_law 864 = .ok (.iadd, 1) := by decide +kernel
theorem d_law_865 : decode b_law 865 = .ok (.iaload, 1) := by decide +kernel
theorem d_law_866 : decode b_law 866 = .ok (.i2l, 1) := by decide +kernel
theorem d_law_867 : decode b_law 867 = .ok (.ldc2_w 86, 3) := by decide +kernel
theorem d_law_870 : decode b_law 870 = .ok (.land, 1) := by decide +kernel
theorem d_law_871 : decode b_law 871 = .ok (.lor, 1) := by decide +kernel
theorem d_law_872 : decode b_law 872 = .ok (.aload_n 3, 1) := by decide +kernel
theorem d_law_873 : decode b_law 873 = .ok (.invokestatic 100, 3) := by decide +kernel
theorem d_law_876 : decode b_law 876 = .ok (.istore 5, 2) := by decide +kernel
theorem d_law_878 : decode b_law 878 = .ok (.aload_n 2, 1) := by decide +kernel
theorem d_law_879 : decode b_law 879 = .ok (.aload_n 0, 1) := by decide +kernel
theorem d_law_880 : decode b_law 880 = .ok (.iload 4, 2) := by decide +kernel
theorem d_law_882 : decode b_law 882 = .ok (.iconst 1, 1) := by decide +kernel
theorem d_law_883 : decode b_law 883 = .ok (.iadd, 1) := by decide +kernel
theorem d_law_884 : decode b_law 884 = .ok (.iaload, 1) := by decide +kernel
theorem d_law_885 : decode b_law 885 = .ok (.aload_n 0, 1) := by decide +kernel
theorem d_law_886 : decode b_law 886 = .ok (.iload 4, 2) := by decide +kernel
theorem d_law_888 : decode b_law 888 = .ok (.iconst 2, 1) := by decide +kernel
theorem d_law_889 : decode b_law 889 = .ok (.iadd, 1) := by decide +kernel
theorem d_law_890 : decode b_law 890 = .ok (.iaload, 1) := by decide +kernel
theorem d_law_891 : decode b_law 891 = .ok (.i2l, 1) := by decide +kernel
theorem d_law_892 : decode b_law 892 = .ok (.bipush 32, 2) := by decide +kernel
theorem d_law_894 : decode b_law 894 = .ok (.lshl, 1) := by decide +kernel
theorem d_law_895 : decode b_law 895 = .ok (.aload_n 0, 1) := by decide +kernel
theorem d_law_896 : decode b_law 896 = .ok (.iload 4, 2) := by decide +kernel
theorem d_law_898 : decode b_law 898 = .ok (.iconst 3, 1) := by decide +kernel
theorem d_law_899 : decode b_law 899 = .ok (.iadd, 1) := by decide +kernel
theorem d_law_900 : decode b_law 900 = .ok (.iaload, 1) := by decide +kernel
theorem d_law_901 : decode b_law 901 = .ok (.i2l, 1) := by decide +kernel
theorem d_law_902 : decode b_law 902 = .ok (.ldc2_w 86, 3) := by decide +kernel
theorem d_law_905 : decode b_law 905 = .ok (.land, 1) := by decide +kernel
theorem d_law_906 : decode b_law 906 = .ok (.lor, 1) := by decide +kernel
theorem d_law_907 : decode b_law 907 = .ok (.aload_n 0, 1) := by decide +kernel
theorem d_law_908 : decode b_law 908 = .ok (.iload 4, 2) := by decide +kernel
theorem d_law_910 : decode b_law 910 = .ok (.iconst 4, 1) := by decide +kernel
theorem d_law_911 : decode b_law 911 = .ok (.iadd, 1) := by decide +kernel
theorem d_law_912 : decode b_law 912 = .ok (.iaload, 1) := by decide +kernel
theorem d_law_913 : decode b_law 913 = .ok (.i2l, 1) := by decide +kernel
theorem d_law_914 : decode b_law 914 = .ok (.bipush 32, 2) := by decide +kernel
theorem d_law_916 : decode b_law 916 = .ok (.lshl, 1) := by decide +kernel
theorem d_law_917 : decode b_law 917 = .ok (.aload_n 0, 1) := by decide +kernel
theorem d_law_918 : decode b_law 918 = .ok (.iload 4, 2) := by decide +kernel
theorem d_law_920 : decode b_law 920 = .ok (.iconst 5, 1) := by decide +kernel
theorem d_law_921 : decode b_law 921 = .ok (.iadd, 1) := by decide +kernel
theorem d_law_922 : decode b_law 922 = .ok (.iaload, 1) := by decide +kernel
theorem d_law_923 : decode b_law 923 = .ok (.i2l, 1) := by decide +kernel
theorem d_law_924 : decode b_law 924 = .ok (.ldc2_w 86, 3) := by decide +kernel
theorem d_law_927 : decode b_law 927 = .ok (.land, 1) := by decide +kernel
theorem d_law_928 : decode b_law 928 = .ok (.lor, 1) := by decide +kernel
theorem d_law_929 : decode b_law 929 = .ok (.invokevirtual 103, 3) := by decide +kernel
theorem d_law_932 : decode b_law 932 = .ok (.istore 6, 2) := by decide +kernel
theorem d_law_934 : decode b_law 934 = .ok (.goto 1170, 3) := by decide +kernel
theorem d_law_937 : decode b_law 937 = .ok (.aload_n 1, 1) := by decide +kernel
theorem d_law_938 : decode b_law 938 = .ok (.aload_n 0, 1) := by decide +kernel
theorem d_law_939 : decode b_law 939 = .ok (.iload 4, 2) := by decide +kernel
theorem d_law_941 : decode b_law 941 = .ok (.iconst 1, 1) := by decide +kernel
theorem d_law_942 : decode b_law 942 = .ok (.iadd, 1) := by decide +kernel
theorem d_law_943 : decode b_law 943 = .ok (.iaload, 1) := by decide +kernel
theorem d_law_944 : decode b_law 944 = .ok (.aload_n 0, 1) := by decide +kernel
theorem d_law_945 : decode b_law 945 = .ok (.iload 4, 2) := by decide +kernel
theorem d_law_947 : decode b_law 947 = .ok (.iconst 2, 1) := by decide +kernel
theorem d_law_948 : decode b_law 948 = .ok (.iadd, 1) := by decide +kernel
theorem d_law_949 : decode b_law 949 = .ok (.iaload, 1) := by decide +kernel
theorem d_law_950 : decode b_law 950 = .ok (.i2l, 1) := by decide +kernel
theorem d_law_951 : decode b_law 951 = .ok (.bipush 32, 2) := by decide +kernel
theorem d_law_953 : decode b_law 953 = .ok (.lshl, 1) := by decide +kernel
theorem d_law_954 : decode b_law 954 = .ok (.aload_n 0, 1) := by decide +kernel
theorem d_law_955 : decode b_law 955 = .ok (.iload 4, 2) := by decide +kernel
theorem d_law_957 : decode b_law 957 = .ok (.iconst 3, 1) := by decide +kernel
theorem d_law_958 : decode b_law 958 = .ok (.iadd, 1) := by decide +kernel
theorem d_law_959 : decode b_law 959 = .ok (.iaload, 1) := by decide +kernel
theorem d_law_960 : decode b_law 960 = .ok (.i2l, 1) := by decide +kernel
theorem d_law_961 : decode b_law 961 = .ok (.ldc2_w 86, 3) := by decide +kernel
theorem d_law_964 : decode b_law 964 = .ok (.land, 1) := by decide +kernel
theorem d_law_965 : decode b_law 965 = .ok (.lor, 1) := by decide +kernel
theorem d_law_966 : decode b_law 966 = .ok (.aload_n 0, 1) := by decide +kernel
theorem d_law_967 : decode b_law 967 = .ok (.iload 4, 2) := by decide +kernel
theorem d_law_969 : decode b_law 969 = .ok (.iconst 4, 1) := by decide +kernel
theorem d_law_970 : decode b_law 970 = .ok (.iadd, 1) := by decide +kernel
theorem d_law_971 : decode b_law 971 = .ok (.iaload, 1) := by decide +kernel
theorem d_law_972 : decode b_law 972 = .ok (.i2l, 1) := by decide +kernel
theorem d_law_973 : decode b_law 973 = .ok (.bipush 32, 2) := by decide +kernel
theorem d_law_975 : decode b_law 975 = .ok (.lshl, 1) := by decide +kernel
theorem d_law_976 : decode b_law 976 = .ok (.aload_n 0, 1) := by decide +kernel
theorem d_law_977 : decode b_law 977 = .ok (.iload 4, 2) := by decide +kernel
theorem d_law_979 : decode b_law 979 = .ok (.iconst 5, 1) := by decide +kernel
theorem d_law_980 : decode b_law 980 = .ok (.iadd, 1) := by decide +kernel
theorem d_law_981 : decode b_law 981 = .ok (.iaload, 1) := by decide +kernel
theorem d_law_982 : decode b_law 982 = .ok (.i2l, 1) := by decide +kernel
theorem d_law_983 : decode b_law 983 = .ok (.ldc2_w 86, 3) := by decide +kernel
theorem d_law_986 : decode b_law 986 = .ok (.land, 1) := by decide +kernel
theorem d_law_987 : decode b_law 987 = .ok (.lor, 1) := by decide +kernel
theorem d_law_988 : decode b_law 988 = .ok (.aload_n 0, 1) := by decide +kernel
theorem d_law_989 : decode b_law 989 = .ok (.iload 4, 2) := by decide +kernel
theorem d_law_991 : decode b_law 991 = .ok (.bipush 6, 2) := by decide +kernel
theorem d_law_993 : decode b_law 993 = .ok (.iadd, 1) := by decide +kernel
theorem d_law_994 : decode b_law 994 = .ok (.iaload, 1) := by decide +kernel
theorem d_law_995 : decode b_law 995 = .ok (.i2l, 1) := by decide +kernel
theorem d_law_996 : decode b_law 996 = .ok (.bipush 32, 2) := by decide +kernel
theorem d_law_998 : decode b_law 998 = .ok (.lshl, 1) := by decide +kernel
theorem d_law_999 : decode b_law 999 = .ok (.aload_n 0, 1) := by decide +kernel
theorem d_law_1000 : decode b_law 1000 = .ok (.iload 4, 2) := by decide +kernel
theorem d_law_1002 : decode b_law 1002 = .ok (.bipush 7, 2) := by decide +kernel
theorem d_law_1004 : decode b_law 1004 = .ok (.iadd, 1) := by decide +kernel
theorem d_law_1005 : decode b_law 1005 = .ok (.iaload, 1) := by decide +kernel
theorem d_law_1006 : decode b_law 1006 = .ok (.i2l, 1) := by decide +kernel
theorem d_law_1007 : decode b_law 1007 = .ok (.ldc2_w 86, 3) := by decide +kernel
theorem d_law_1010 : decode b_law 1010 = .ok (.land, 1) := by decide +kernel
theorem d_law_1011 : decode b_law 1011 = .ok (.lor, 1) := by decide +kernel
theorem d_law_1012 : decode b_law 1012 = .ok (.aload_n 0, 1) := by decide +kernel
theorem d_law_1013 : decode b_law 1013 = .ok (.iload 4, 2) := by decide +kernel
theorem d_law_1015 : decode b_law 1015 = .ok (.bipush 8, 2) := by decide +kernel
theorem d_law_1017 : decode b_law 1017 = .ok (.iadd, 1) := by decide +kernel
theorem d_law_1018 : decode b_law 1018 = .ok (.iaload, 1) := by decide +kernel
theorem d_law_1019 : decode b_law 1019 = .ok (.i2l, 1) := by decide +kernel
theorem d_law_1020 : decode b_law 1020 = .ok (.bipush 32, 2) := by decide +kernel
theorem d_law_1022 : decode b_law 1022 = .ok (.lshl, 1) := by decide +kernel
theorem d_law_1023 : decode b_law 1023 = .ok (.aload_n 0, 1) := by decide +kernel
theorem d_law_1024 : decode b_law 1024 = .ok (.iload 4, 2) := by decide +kernel
theorem d_law_1026 : decode b_law 1026 = .ok (.bipush 9, 2) := by decide +kernel
theorem d_law_1028 : decode b_law 1028 = .ok (.iadd, 1) := by decide +kernel
theorem d_law_1029 : decode b_law 1029 = .ok (.iaload, 1) := by decide +kernel
theorem d_law_1030 : decode b_law 1030 = .ok (.i2l, 1) := by decide +kernel
theorem d_law_1031 : decode b_law 1031 = .ok (.ldc2_w 86, 3) := by decide +kernel
theorem d_law_1034 : decode b_law 1034 = .ok (.land, 1) := by decide +kernel
theorem d_law_1035 : decode b_law 1035 = .ok (.lor, 1) := by decide +kernel
theorem d_law_1036 : decode b_law 1036 = .ok (.aload_n 0, 1) := by decide +kernel
theorem d_law_1037 : decode b_law 1037 = .ok (.iload 4, 2) := by decide +kernel
theorem d_law_1039 : decode b_law 1039 = .ok (.bipush 10, 2) := by decide +kernel
theorem d_law_1041 : decode b_law 1041 = .ok (.iadd, 1) := by decide +kernel
theorem d_law_1042 : decode b_law 1042 = .ok (.iaload, 1) := by decide +kernel
theorem d_law_1043 : decode b_law 1043 = .ok (.aload_n 0, 1) := by decide +kernel
theorem d_law_1044 : decode b_law 1044 = .ok (.iload 4, 2) := by decide +kernel
theorem d_law_1046 : decode b_law 1046 = .ok (.bipush 11, 2) := by decide +kernel
theorem d_law_1048 : decode b_law 1048 = .ok (.iadd, 1) := by decide +kernel
theorem d_law_1049 : decode b_law 1049 = .ok (.iaload, 1) := by decide +kernel
theorem d_law_1050 : decode b_law 1050 = .ok (.i2l, 1) := by decide +kernel
theorem d_law_1051 : decode b_law 1051 = .ok (.bipush 32, 2) := by decide +kernel
theorem d_law_1053 : decode b_law 1053 = .ok (.lshl, 1) := by decide +kernel
theorem d_law_1054 : decode b_law 1054 = .ok (.aload_n 0, 1) := by decide +kernel
theorem d_law_1055 : decode b_law 1055 = .ok (.iload 4, 2) := by decide +kernel
theorem d_law_1057 : decode b_law 1057 = .ok (.bipush 12, 2) := by decide +kernel
theorem d_law_1059 : decode b_law 1059 = .ok (.iadd, 1) := by decide +kernel
theorem d_law_1060 : decode b_law 1060 = .ok (.iaload, 1) := by decide +kernel
theorem d_law_1061 : decode b_law 1061 = .ok (.i2l, 1) := by decide +kernel
theorem d_law_1062 : decode b_law 1062 = .ok (.ldc2_w 86, 3) := by decide +kernel
theorem d_law_1065 : decode b_law 1065 = .ok (.land, 1) := by decide +kernel
theorem d_law_1066 : decode b_law 1066 = .ok (.lor, 1) := by decide +kernel
theorem d_law_1067 : decode b_law 1067 = .ok (.aload_n 3, 1) := by decide +kernel
theorem d_law_1068 : decode b_law 1068 = .ok (.invokestatic 104, 3) := by decide +kernel
theorem d_law_1071 : decode b_law 1071 = .ok (.istore 5, 2) := by decide +kernel
theorem d_law_1073 : decode b_law 1073 = .ok (.aload_n 2, 1) := by decide +kernel
theorem d_law_1074 : decode b_law 1074 = .ok (.aload_n 0, 1) := by decide +kernel
theorem d_law_1075 : decode b_law 1075 = .ok (.iload 4, 2) := by decide +kernel
theorem d_law_1077 : decode b_law 1077 = .ok (.iconst 1, 1) := by decide +kernel
theorem d_law_1078 : decode b_law 1078 = .ok (.iadd, 1) := by decide +kernel
theorem d_law_1079 : decode b_law 1079 = .ok (.iaload, 1) := by decide +kernel
theorem d_law_1080 : decode b_law 1080 = .ok (.aload_n 0, 1) := by decide +kernel
theorem d_law_1081 : decode b_law 1081 = .ok (.iload 4, 2) := by decide +kernel
theorem d_law_1083 : decode b_law 1083 = .ok (.iconst 2, 1) := by decide +kernel
theorem d_law_1084 : decode b_law 1084 = .ok (.iadd, 1) := by decide +kernel
theorem d_law_1085 : decode b_law 1085 = .ok (.iaload, 1) := by decide +kernel
theorem d_law_1086 : decode b_law 1086 = .ok (.i2l, 1) := by decide +kernel
theorem d_law_1087 : decode b_law 1087 = .ok (.bipush 32, 2) := by decide +kernel
theorem d_law_1089 : decode b_law 1089 = .ok (.lshl, 1) := by decide +kernel
theorem d_law_1090 : decode b_law 1090 = .ok (.aload_n 0, 1) := by decide +kernel
theorem d_law_1091 : decode b_law 1091 = .ok (.iload 4, 2) := by decide +kernel
theorem d_law_1093 : decode b_law 1093 = .ok (.iconst 3, 1) := by decide +kernel
theorem d_law_1094 : decode b_law 1094 = .ok (.iadd, 1) := by decide +kernel
theorem d_law_1095 : decode b_law 1095 = .ok (.iaload, 1) := by decide +kernel
theorem d_law_1096 : decode b_law 1096 = .ok (.i2l, 1) := by decide +kernel
theorem d_law_1097 : decode b_law 1097 = .ok (.ldc2_w 86, 3) := by decide +kernel
theorem d_law_1100 : decode b_law 1100 = .ok (.land, 1) := by decide +kernel
theorem d_law_1101 : decode b_law 1101 = .ok (.lor, 1) := by decide +kernel
theorem d_law_1102 : decode b_law 1102 = .ok (.aload_n 0, 1) := by decide +kernel
theorem d_law_1103 : decode b_law 1103 = .ok (.iload 4, 2) := by decide +kernel
theorem d_law_1105 : decode b_law 1105 = .ok (.iconst 4, 1) := by decide +kernel
theorem d_law_1106 : decode b_law 1106 = .ok (.iadd, 1) := by decide +kernel
theorem d_law_1107 : decode b_law 1107 = .ok (.iaload, 1) := by decide +kernel
theorem d_law_1108 : decode b_law 1108 = .ok (.i2l, 1) := by decide +kernel
theorem d_law_1109 : decode b_law 1109 = .ok (.bipush 32, 2) := by decide +kernel
theorem d_law_1111 : decode b_law 1111 = .ok (.lshl, 1) := by decide +kernel
theorem d_law_1112 : decode b_law 1112 = .ok (.aload_n 0, 1) := by decide +kernel
theorem d_law_1113 : decode b_law 1113 = .ok (.iload 4, 2) := by decide +kernel
theorem d_law_1115 : decode b_law 1115 = .ok (.iconst 5, 1) := by decide +kernel
theorem d_law_1116 : decode b_law 1116 = .ok (.iadd, 1) := by decide +kernel
theorem d_law_1117 : decode b_law 1117 = .ok (.iaload, 1) := by decide +kernel
theorem d_law_1118 : decode b_law 1118 = .ok (.i2l, 1) := by decide +kernel
theorem d_law_1119 : decode b_law 1119 = .ok (.ldc2_w 86, 3) := by decide +kernel
theorem d_law_1122 : decode b_law 1122 = .ok (.land, 1) := by decide +kernel
theorem d_law_1123 : decode b_law 1123 = .ok (.lor, 1) := by decide +kernel
theorem d_law_1124 : decode b_law 1124 = .ok (.aload_n 0, 1) := by decide +kernel
theorem d_law_1125 : decode b_law 1125 = .ok (.iload 4, 2) := by decide +kernel
theorem d_law_1127 : decode b_law 1127 = .ok (.bipush 6, 2) := by decide +kernel
theorem d_law_1129 : decode b_law 1129 = .ok (.iadd, 1) := by decide +kernel
theorem d_law_1130 : decode b_law 1130 = .ok (.iaload, 1) := by decide +kernel
theorem d_law_1131 : decode b_law 1131 = .ok (.i2l, 1) := by decide +kernel
theorem d_law_1132 : decode b_law 1132 = .ok (.bipush 32, 2) := by decide +kernel
theorem d_law_1134 : decode b_law 1134 = .ok (.lshl, 1) := by decide +kernel
theorem d_law_1135 : decode b_law 1135 = .ok (.aload_n 0, 1) := by decide +kernel
theorem d_law_1136 : decode b_law 1136 = .ok (.iload 4, 2) := by decide +kernel
theorem d_law_1138 : decode b_law 1138 = .ok (.bipush 7, 2) := by decide +kernel
theorem d_law_1140 : decode b_law 1140 = .ok (.iadd, 1) := by decide +kernel
theorem d_law_1141 : decode b_law 1141 = .ok (.iaload, 1) := by decide +kernel
theorem d_law_1142 : decode b_law 1142 = .ok (.i2l, 1) := by decide +kernel
theorem d_law_1143 : decode b_law 1143 = .ok (.ldc2_w 86, 3) := by decide +kernel
theorem d_law_1146 : decode b_law 1146 = .ok (.land, 1) := by decide +kernel
theorem d_law_1147 : decode b_law 1147 = .ok (.lor, 1) := by decide +kernel
theorem d_law_1148 : decode b_law 1148 = .ok (.aload_n 0, 1) := by decide +kernel
theorem d_law_1149 : decode b_law 1149 = .ok (.iload 4, 2) := by decide +kernel
theorem d_law_1151 : decode b_law 1151 = .ok (.bipush 8, 2) := by decide +kernel
theorem d_law_1153 : decode b_law 1153 = .ok (.iadd, 1) := by decide +kernel
theorem d_law_1154 : decode b_law 1154 = .ok (.iaload, 1) := by decide +kernel
theorem d_law_1155 : decode b_law 1155 = .ok (.i2l, 1) := by decide +kernel
theorem d_law_1156 : decode b_law 1156 = .ok (.bipush 32, 2) := by decide +kernel
theorem d_law_1158 : decode b_law 1158 = .ok (.lshl, 1) := by decide +kernel
theorem d_law_1159 : decode b_law 1159 = .ok (.aload_n 0, 1) := by decide +kernel
theorem d_law_1160 : decode b_law 1160 = .ok (.iload 4, 2) := by decide +kernel
theorem d_law_1162 : decode b_law 1162 = .ok (.bipush 9, 2) := by decide +kernel
theorem d_law_1164 : decode b_law 1164 = .ok (.iadd, 1) := by decide +kernel
theorem d_law_1165 : decode b_law 1165 = .ok (.iaload, 1) := by decide +kernel
theorem d_law_1166 : decode b_law 1166 = .ok (.i2l, 1) := by decide +kernel
theorem d_law_1167 : decode b_law 1167 = .ok (.ldc2_w 86, 3) := by decide +kernel
theorem d_law_1170 : decode b_law 1170 = .ok (.land, 1) := by decide +kernel
theorem d_law_1171 : decode b_law 1171 = .ok (.lor, 1) := by decide +kernel
theorem d_law_1172 : decode b_law 1172 = .ok (.aload_n 0, 1) := by decide +kernel
theorem d_law_1173 : decode b_law 1173 = .ok (.iload 4, 2) := by decide +kernel
theorem d_law_1175 : decode b_law 1175 = .ok (.bipush 10, 2) := by decide +kernel
theorem d_law_1177 : decode b_law 1177 = .ok (.iadd, 1) := by decide +kernel
theorem d_law_1178 : decode b_law 1178 = .ok (.iaload, 1) := by decide +kernel
theorem d_law_1179 : decode b_law 1179 = .ok (.aload_n 0, 1) := by decide +kernel
theorem d_law_1180 : decode b_law 1180 = .ok (.iload 4, 2) := by decide +kernel
theorem d_law_1182 : decode b_law 1182 = .ok (.bipush 11, 2) := by decide +kernel
theorem d_law_1184 : decode b_law 1184 = .ok (.iadd, 1) := by decide +kernel
theorem d_law_1185 : decode b_law 1185 = .ok (.iaload, 1) := by decide +kernel
theorem d_law_1186 : decode b_law 1186 = .ok (.i2l, 1) := by decide +kernel
theorem d_law_1187 : decode b_law 1187 = .ok (.bipush 32, 2) := by decide +kernel
theorem d_law_1189 : decode b_law 1189 = .ok (.lshl, 1) := by decide +kernel
theorem d_law_1190 : decode b_law 1190 = .ok (.aload_n 0, 1) := by decide +kernel
theorem d_law_1191 : decode b_law 1191 = .ok (.iload 4, 2) := by decide +kernel
theorem d_law_1193 : decode b_law 1193 = .ok (.bipush 12, 2) := by decide +kernel
theorem d_law_1195 : decode b_law 1195 = .ok (.iadd, 1) := by decide +kernel
theorem d_law_1196 : decode b_law 1196 = .ok (.iaload, 1) := by decide +kernel
theorem d_law_1197 : decode b_law 1197 = .ok (.i2l, 1) := by decide +kernel
theorem d_law_1198 : decode b_law 1198 = .ok (.ldc2_w 86, 3) := by decide +kernel
theorem d_law_1201 : decode b_law 1201 = .ok (.land, 1) := by decide +kernel
theorem d_law_1202 : decode b_law 1202 = .ok (.lor, 1) := by decide +kernel
theorem d_law_1203 : decode b_law 1203 = .ok (.invokevirtual 107, 3) := by decide +kernel
theorem d_law_1206 : decode b_law 1206 = .ok (.istore 6, 2) := by decide +kernel
theorem d_law_1208 : decode b_law 1208 = .ok (.aload_n 2, 1) := by decide +kernel
theorem d_law_1209 : decode b_law 1209 = .ok (.invokevirtual 108, 3) := by decide +kernel
theorem d_law_1212 : decode b_law 1212 = .ok (.iload 5, 2) := by decide +kernel
theorem d_law_1214 : decode b_law 1214 = .ok (.if_icmp .eq 5, 3) := by decide +kernel
theorem d_law_1217 : decode b_law 1217 = .ok (.iconst 0, 1) := by decide +kernel
theorem d_law_1218 : decode b_law 1218 = .ok (.ireturn, 1) := by decide +kernel
theorem d_law_1219 : decode b_law 1219 = .ok (.iload 5, 2) := by decide +kernel
theorem d_law_1221 : decode b_law 1221 = .ok (.ifCond .ne 22, 3) := by decide +kernel
theorem d_law_1224 : decode b_law 1224 = .ok (.aload_n 3, 1) := by decide +kernel
theorem d_law_1225 : decode b_law 1225 = .ok (.iconst 0, 1) := by decide +kernel
theorem d_law_1226 : decode b_law 1226 = .ok (.laload, 1) := by decide +kernel
theorem d_law_1227 : decode b_law 1227 = .ok (.iload 6, 2) := by decide +kernel
theorem d_law_1229 : decode b_law 1229 = .ok (.ifCond .eq 7, 3) := by decide +kernel
theorem d_law_1232 : decode b_law 1232 = .ok (.lconst 1, 1) := by decide +kernel
theorem d_law_1233 : decode b_law 1233 = .ok (.goto 4, 3) := by decide +kernel
theorem d_law_1236 : decode b_law 1236 = .ok (.lconst 0, 1) := by decide +kernel
theorem d_law_1237 : decode b_law 1237 = .ok (.lcmp, 1) := by decide +kernel
theorem d_law_1238 : decode b_law 1238 = .ok (.ifCond .eq 5, 3) := by decide +kernel
theorem d_law_1241 : decode b_law 1241 = .ok (.iconst 0, 1) := by decide +kernel
theorem d_law_1242 : decode b_law 1242 = .ok (.ireturn, 1) := by decide +kernel
theorem d_law_1243 : decode b_law 1243 = .ok (.goto 861, 3) := by decide +kernel
theorem d_law_1246 : decode b_law 1246 = .ok (.aload_n 1, 1) := by decide +kernel
theorem d_law_1247 : decode b_law 1247 = .ok (.aload_n 0, 1) := by decide +kernel
theorem d_law_1248 : decode b_law 1248 = .ok (.iload 4, 2) := by decide +kernel
theorem d_law_1250 : decode b_law 1250 = .ok (.iconst 1, 1) := by decide +kernel
theorem d_law_1251 : decode b_law 1251 = .ok (.iadd, 1) := by decide +kernel
theorem d_law_1252 : decode b_law 1252 = .ok (.iaload, 1) := by decide +kernel
theorem d_law_1253 : decode b_law 1253 = .ok (.aload_n 0, 1) := by decide +kernel
theorem d_law_1254 : decode b_law 1254 = .ok (.iload 4, 2) := by decide +kernel
theorem d_law_1256 : decode b_law 1256 = .ok (.iconst 2, 1) := by decide +kernel
theorem d_law_1257 : decode b_law 1257 = .ok (.iadd, 1) := by decide +kernel
theorem d_law_1258 : decode b_law 1258 = .ok (.iaload, 1) := by decide +kernel
theorem d_law_1259 : decode b_law 1259 = .ok (.aload_n 3, 1) := by decide +kernel
theorem d_law_1260 : decode b_law 1260 = .ok (.invokestatic 111, 3) := by decide +kernel
theorem d_law_1263 : decode b_law 1263 = .ok (.istore 5, 2) := by decide +kernel
theorem d_law_1265 : decode b_law 1265 = .ok (.aload_n 2, 1) := by decide +kernel
theorem d_law_1266 : decode b_law 1266 = .ok (.aload_n 0, 1) := by decide +kernel
theorem d_law_1267 : decode b_law 1267 = .ok (.iload 4, 2) := by decide +kernel
theorem d_law_1269 : decode b_law 1269 = .ok (.iconst 1, 1) := by decide +kernel
theorem d_law_1270 : decode b_law 1270 = .ok (.iadd, 1) := by decide +kernel
theorem d_law_1271 : decode b_law 1271 = .ok (.iaload, 1) := by decide +kernel
theorem d_law_1272 : decode b_law 1272 = .ok (.aload_n 0, 1) := by decide +kernel
theorem d_law_1273 : decode b_law 1273 = .ok (.iload 4, 2) := by decide +kernel
theorem d_law_1275 : decode b_law 1275 = .ok (.iconst 2, 1) := by decide +kernel
theorem d_law_1276 : decode b_law 1276 = .ok (.iadd, 1) := by decide +kernel
theorem d_law_1277 : decode b_law 1277 = .ok (.iaload, 1) := by decide +kernel
theorem d_law_1278 : decode b_law 1278 = .ok (.invokevirtual 114, 3) := by decide +kernel
theorem d_law_1281 : decode b_law 1281 = .ok (.istore 6, 2) := by decide +kernel
theorem d_law_1283 : decode b_law 1283 = .ok (.goto 821, 3) := by decide +kernel
theorem d_law_1286 : decode b_law 1286 = .ok (.aload_n 1, 1) := by decide +kernel
theorem d_law_1287 : decode b_law 1287 = .ok (.aload_n 0, 1) := by decide +kernel
theorem d_law_1288 : decode b_law 1288 = .ok (.iload 4, 2) := by decide +kernel
theorem d_law_1290 : decode b_law 1290 = .ok (.iconst 1, 1) := by decide +kernel
theorem d_law_1291 : decode b_law 1291 = .ok (.iadd, 1) := by decide +kernel
theorem d_law_1292 : decode b_law 1292 = .ok (.iaload, 1) := by decide +kernel
theorem d_law_1293 : decode b_law 1293 = .ok (.aload_n 0, 1) := by decide +kernel
theorem d_law_1294 : decode b_law 1294 = .ok (.iload 4, 2) := by decide +kernel
theorem d_law_1296 : decode b_law 1296 = .ok (.iconst 2, 1) := by decide +kernel
theorem d_law_1297 : decode b_law 1297 = .ok (.iadd, 1) := by decide +kernel
theorem d_law_1298 : decode b_law 1298 = .ok (.iaload, 1) := by decide +kernel
theorem d_law_1299 : decode b_law 1299 = .ok (.i2l, 1) := by decide +kernel
theorem d_law_1300 : decode b_law 1300 = .ok (.bipush 32, 2) := by decide +kernel
theorem d_law_1302 : decode b_law 1302 = .ok (.lshl, 1) := by decide +kernel
theorem d_law_1303 : decode b_law 1303 = .ok (.aload_n 0, 1) := by decide +kernel
theorem d_law_1304 : decode b_law 1304 = .ok (.iload 4, 2) := by decide +kernel
theorem d_law_1306 : decode b_law 1306 = .ok (.iconst 3, 1) := by decide +kernel
theorem d_law_1307 : decode b_law 1307 = .ok (.iadd, 1) := by decide +kernel
theorem d_law_1308 : decode b_law 1308 = .ok (.iaload, 1) := by decide +kernel
theorem d_law_1309 : decode b_law 1309 = .ok (.i2l, 1) := by decide +kernel
theorem d_law_1310 : decode b_law 1310 = .ok (.ldc2_w 86, 3) := by decide +kernel
theorem d_law_1313 : decode b_law 1313 = .ok (.land, 1) := by decide +kernel
theorem d_law_1314 : decode b_law 1314 = .ok (.lor, 1) := by decide +kernel
theorem d_law_1315 : decode b_law 1315 = .ok (.aload_n 0, 1) := by decide +kernel
theorem d_law_1316 : decode b_law 1316 = .ok (.iload 4, 2) := by decide +kernel
theorem d_law_1318 : decode b_law 1318 = .ok (.iconst 4, 1) := by decide +kernel
theorem d_law_1319 : decode b_law 1319 = .ok (.iadd, 1) := by decide +kernel
theorem d_law_1320 : decode b_law 1320 = .ok (.iaload, 1) := by decide +kernel
theorem d_law_1321 : decode b_law 1321 = .ok (.i2l, 1) := by decide +kernel
theorem d_law_1322 : decode b_law 1322 = .ok (.bipush 32, 2) := by decide +kernel
theorem d_law_1324 : decode b_law 1324 = .ok (.lshl, 1) := by decide +kernel
theorem d_law_1325 : decode b_law 1325 = .ok (.aload_n 0, 1) := by decide +kernel
theorem d_law_1326 : decode b_law 1326 = .ok (.iload 4, 2) := by decide +kernel
theorem d_law_1328 : decode b_law 1328 = .ok (.iconst 5, 1) := by decide +kernel
theorem d_law_1329 : decode b_law 1329 = .ok (.iadd, 1) := by decide +kernel
theorem d_law_1330 : decode b_law 1330 = .ok (.iaload, 1) := by decide +kernel
theorem d_law_1331 : decode b_law 1331 = .ok (.i2l, 1) := by decide +kernel
theorem d_law_1332 : decode b_law 1332 = .ok (.ldc2_w 86, 3) := by decide +kernel
theorem d_law_1335 : decode b_law 1335 = .ok (.land, 1) := by decide +kernel
theorem d_law_1336 : decode b_law 1336 = .ok (.lor, 1) := by decide +kernel
theorem d_law_1337 : decode b_law 1337 = .ok (.aload_n 0, 1) := by decide +kernel
theorem d_law_1338 : decode b_law 1338 = .ok (.iload 4, 2) := by decide +kernel
theorem d_law_1340 : decode b_law 1340 = .ok (.bipush 6, 2) := by decide +kernel
theorem d_law_1342 : decode b_law 1342 = .ok (.iadd, 1) := by decide +kernel
theorem d_law_1343 : decode b_law 1343 = .ok (.iaload, 1) := by decide +kernel
theorem d_law_1344 : decode b_law 1344 = .ok (.aload_n 0, 1) := by decide +kernel
theorem d_law_1345 : decode b_law 1345 = .ok (.iload 4, 2) := by decide +kernel
theorem d_law_1347 : decode b_law 1347 = .ok (.bipush 7, 2) := by decide +kernel
theorem d_law_1349 : decode b_law 1349 = .ok (.iadd, 1) := by decide +kernel
theorem d_law_1350 : decode b_law 1350 = .ok (.iaload, 1) := by decide +kernel
theorem d_law_1351 : decode b_law 1351 = .ok (.aload_n 3, 1) := by decide +kernel
theorem d_law_1352 : decode b_law 1352 = .ok (.invokestatic 115, 3) := by decide +kernel
theorem d_law_1430 : decode b_law 1430 = .ok (.aload_n 1, 1) := by decide +kernel
theorem d_law_1431 : decode b_law 1431 = .ok (.aload_n 0, 1) := by decide +kernel
theorem d_law_1432 : decode b_law 1432 = .ok (.iload 4, 2) := by decide +kernel
theorem d_law_1434 : decode b_law 1434 = .ok (.iconst 1, 1) := by decide +kernel
theorem d_law_1435 : decode b_law 1435 = .ok (.iadd, 1) := by decide +kernel
theorem d_law_1436 : decode b_law 1436 = .ok (.iaload, 1) := by decide +kernel
theorem d_law_1437 : decode b_law 1437 = .ok (.aload_n 0, 1) := by decide +kernel
theorem d_law_1438 : decode b_law 1438 = .ok (.iload 4, 2) := by decide +kernel
theorem d_law_1440 : decode b_law 1440 = .ok (.iconst 2, 1) := by decide +kernel
theorem d_law_1441 : decode b_law 1441 = .ok (.iadd, 1) := by decide +kernel
theorem d_law_1442 : decode b_law 1442 = .ok (.iaload, 1) := by decide +kernel
theorem d_law_1443 : decode b_law 1443 = .ok (.i2l, 1) := by decide +kernel
theorem d_law_1444 : decode b_law 1444 = .ok (.bipush 32, 2) := by decide +kernel
theorem d_law_1446 : decode b_law 1446 = .ok (.lshl, 1) := by decide +kernel
theorem d_law_1447 : decode b_law 1447 = .ok (.aload_n 0, 1) := by decide +kernel
theorem d_law_1448 : decode b_law 1448 = .ok (.iload 4, 2) := by decide +kernel
theorem d_law_1450 : decode b_law 1450 = .ok (.iconst 3, 1) := by decide +kernel
theorem d_law_1451 : decode b_law 1451 = .ok (.iadd, 1) := by decide +kernel
theorem d_law_1452 : decode b_law 1452 = .ok (.iaload, 1) := by decide +kernel
theorem d_law_1453 : decode b_law 1453 = .ok (.i2l, 1) := by decide +kernel
theorem d_law_1454 : decode b_law 1454 = .ok (.ldc2_w 86, 3) := by decide +kernel
theorem d_law_1457 : decode b_law 1457 = .ok (.land, 1) := by decide +kernel
theorem d_law_1458 : decode b_law 1458 = .ok (.lor, 1) := by decide +kernel
theorem d_law_1459 : decode b_law 1459 = .ok (.aload_n 0, 1) := by decide +kernel
theorem d_law_1460 : decode b_law 1460 = .ok (.iload 4, 2) := by decide +kernel
theorem d_law_1462 : decode b_law 1462 = .ok (.iconst 4, 1) := by decide +kernel
theorem d_law_1463 : decode b_law 1463 = .ok (.iadd, 1) := by decide +kernel
theorem d_law_1464 : decode b_law 1464 = .ok (.iaload, 1) := by decide +kernel
theorem d_law_1465 : decode b_law 1465 = .ok (.i2l, 1) := by decide +kernel
theorem d_law_1466 : decode b_law 1466 = .ok (.bipush 32, 2) := by decide +kernel
theorem d_law_1468 : decode b_law 1468 = .ok (.lshl, 1) := by decide +kernel
theorem d_law_1469 : decode b_law 1469 = .ok (.aload_n 0, 1) := by decide +kernel
theorem d_law_1470 : decode b_law 1470 = .ok (.iload 4, 2) := by decide +kernel
theorem d_law_1472 : decode b_law 1472 = .ok (.iconst 5, 1) := by decide +kernel
theorem d_law_1473 : decode b_law 1473 = .ok (.iadd, 1) := by decide +kernel
theorem d_law_1474 : decode b_law 1474 = .ok (.iaload, 1) := by decide +kernel
theorem d_law_1475 : decode b_law 1475 = .ok (.i2l, 1) := by decide +kernel
theorem d_law_1476 : decode b_law 1476 = .ok (.ldc2_w 86, 3) := by decide +kernel
theorem d_law_1479 : decode b_law 1479 = .ok (.land, 1) := by decide +kernel
theorem d_law_1480 : decode b_law 1480 = .ok (.lor, 1) := by decide +kernel
theorem d_law_1481 : decode b_law 1481 = .ok (.aload_n 0, 1) := by decide +kernel
theorem d_law_1482 : decode b_law 1482 = .ok (.iload 4, 2) := by decide +kernel
theorem d_law_1484 : decode b_law 1484 = .ok (.bipush 6, 2) := by decide +kernel
theorem d_law_1486 : decode b_law 1486 = .ok (.iadd, 1) := by decide +kernel
theorem d_law_1487 : decode b_law 1487 = .ok (.iaload, 1) := by decide +kernel
theorem d_law_1488 : decode b_law 1488 = .ok (.aload_n 0, 1) := by decide +kernel
theorem d_law_1489 : decode b_law 1489 = .ok (.iload 4, 2) := by decide +kernel
theorem d_law_1491 : decode b_law 1491 = .ok (.bipush 7, 2) := by decide +kernel
theorem d_law_1493 : decode b_law 1493 = .ok (.iadd, 1) := by decide +kernel
theorem d_law_1494 : decode b_law 1494 = .ok (.iaload, 1) := by decide +kernel
theorem d_law_1495 : decode b_law 1495 = .ok (.aload_n 3, 1) := by decide +kernel
theorem d_law_1496 : decode b_law 1496 = .ok (.invokestatic 119, 3) := by decide +kernel
theorem d_law_1574 : decode b_law 1574 = .ok (.aload_n 1, 1) := by decide +kernel
theorem d_law_1575 : decode b_law 1575 = .ok (.aload_n 0, 1) := by decide +kernel
theorem d_law_1576 : decode b_law 1576 = .ok (.iload 4, 2) := by decide +kernel
theorem d_law_1578 : decode b_law 1578 = .ok (.iconst 1, 1) := by decide +kernel
theorem d_law_1579 : decode b_law 1579 = .ok (.iadd, 1) := by decide +kernel
theorem d_law_1580 : decode b_law 1580 = .ok (.iaload, 1) := by decide +kernel
theorem d_law_1581 : decode b_law 1581 = .ok (.aload_n 0, 1) := by decide +kernel
theorem d_law_1582 : decode b_law 1582 = .ok (.iload 4, 2) := by decide +kernel
theorem d_law_1584 : decode b_law 1584 = .ok (.iconst 2, 1) := by decide +kernel
theorem d_law_1585 : decode b_law 1585 = .ok (.iadd, 1) := by decide +kernel
theorem d_law_1586 : decode b_law 1586 = .ok (.iaload, 1) := by decide +kernel
theorem d_law_1587 : decode b_law 1587 = .ok (.aload_n 3, 1) := by decide +kernel
theorem d_law_1588 : decode b_law 1588 = .ok (.invokestatic 122, 3) := by decide +kernel
theorem d_law_1614 : decode b_law 1614 = .ok (.aload_n 1, 1) := by decide +kernel
theorem d_law_1615 : decode b_law 1615 = .ok (.invokevirtual 125, 3) := by decide +kernel
theorem d_law_1627 : decode b_law 1627 = .ok (.aload_n 1, 1) := by decide +kernel
theorem d_law_1628 : decode b_law 1628 = .ok (.aload_n 0, 1) := by decide +kernel
theorem d_law_1629 : decode b_law 1629 = .ok (.iload 4, 2) := by decide +kernel
theorem d_law_1631 : decode b_law 1631 = .ok (.iconst 1, 1) := by decide +kernel
theorem d_law_1632 : decode b_law 1632 = .ok (.iadd, 1) := by decide +kernel
theorem d_law_1633 : decode b_law 1633 = .ok (.iaload, 1) := by decide +kernel
theorem d_law_1634 : decode b_law 1634 = .ok (.aload_n 0, 1) := by decide +kernel
theorem d_law_1635 : decode b_law 1635 = .ok (.iload 4, 2) := by decide +kernel
theorem d_law_1637 : decode b_law 1637 = .ok (.iconst 2, 1) := by decide +kernel
theorem d_law_1638 : decode b_law 1638 = .ok (.iadd, 1) := by decide +kernel
theorem d_law_1639 : decode b_law 1639 = .ok (.iaload, 1) := by decide +kernel
theorem d_law_1640 : decode b_law 1640 = .ok (.aload_n 3, 1) := by decide +kernel
theorem d_law_1641 : decode b_law 1641 = .ok (.invokestatic 129, 3) := by decide +kernel
theorem d_law_1667 : decode b_law 1667 = .ok (.aload_n 1, 1) := by decide +kernel
theorem d_law_1668 : decode b_law 1668 = .ok (.aload_n 0, 1) := by decide +kernel
theorem d_law_1669 : decode b_law 1669 = .ok (.iload 4, 2) := by decide +kernel
theorem d_law_1671 : decode b_law 1671 = .ok (.iconst 1, 1) := by decide +kernel
theorem d_law_1672 : decode b_law 1672 = .ok (.iadd, 1) := by decide +kernel
theorem d_law_1673 : decode b_law 1673 = .ok (.iaload, 1) := by decide +kernel
theorem d_law_1674 : decode b_law 1674 = .ok (.i2l, 1) := by decide +kernel
theorem d_law_1675 : decode b_law 1675 = .ok (.bipush 32, 2) := by decide +kernel
theorem d_law_1677 : decode b_law 1677 = .ok (.lshl, 1) := by decide +kernel
theorem d_law_1678 : decode b_law 1678 = .ok (.aload_n 0, 1) := by decide +kernel
theorem d_law_1679 : decode b_law 1679 = .ok (.iload 4, 2) := by decide +kernel
theorem d_law_1681 : decode b_law 1681 = .ok (.iconst 2, 1) := by decide +kernel
theorem d_law_1682 : decode b_law 1682 = .ok (.iadd, 1) := by decide +kernel
theorem d_law_1683 : decode b_law 1683 = .ok (.iaload, 1) := by decide +kernel
theorem d_law_1684 : decode b_law 1684 = .ok (.i2l, 1) := by decide +kernel
theorem d_law_1685 : decode b_law 1685 = .ok (.ldc2_w 86, 3) := by decide +kernel
theorem d_law_1688 : decode b_law 1688 = .ok (.land, 1) := by decide +kernel
theorem d_law_1689 : decode b_law 1689 = .ok (.lor, 1) := by decide +kernel
theorem d_law_1690 : decode b_law 1690 = .ok (.aload_n 0, 1) := by decide +kernel
theorem d_law_1691 : decode b_law 1691 = .ok (.iload 4, 2) := by decide +kernel
theorem d_law_1693 : decode b_law 1693 = .ok (.iconst 3, 1) := by decide +kernel
theorem d_law_1694 : decode b_law 1694 = .ok (.iadd, 1) := by decide +kernel
theorem d_law_1695 : decode b_law 1695 = .ok (.iaload, 1) := by decide +kernel
theorem d_law_1696 : decode b_law 1696 = .ok (.i2l, 1) := by decide +kernel
theorem d_law_1697 : decode b_law 1697 = .ok (.bipush 32, 2) := by decide +kernel
theorem d_law_1699 : decode b_law 1699 = .ok (.lshl, 1) := by decide +kernel
theorem d_law_1700 : decode b_law 1700 = .ok (.aload_n 0, 1) := by decide +kernel
theorem d_law_1701 : decode b_law 1701 = .ok (.iload 4, 2) := by decide +kernel
theorem d_law_1703 : decode b_law 1703 = .ok (.iconst 4, 1) := by decide +kernel
theorem d_law_1704 : decode b_law 1704 = .ok (.iadd, 1) := by decide +kernel
theorem d_law_1705 : decode b_law 1705 = .ok (.iaload, 1) := by decide +kernel
theorem d_law_1706 : decode b_law 1706 = .ok (.i2l, 1) := by decide +kernel
theorem d_law_1707 : decode b_law 1707 = .ok (.ldc2_w 86, 3) := by decide +kernel
theorem d_law_1710 : decode b_law 1710 = .ok (.land, 1) := by decide +kernel
theorem d_law_1711 : decode b_law 1711 = .ok (.lor, 1) := by decide +kernel
theorem d_law_1712 : decode b_law 1712 = .ok (.aload_n 0, 1) := by decide +kernel
theorem d_law_1713 : decode b_law 1713 = .ok (.iload 4, 2) := by decide +kernel
theorem d_law_1715 : decode b_law 1715 = .ok (.iconst 5, 1) := by decide +kernel
theorem d_law_1716 : decode b_law 1716 = .ok (.iadd, 1) := by decide +kernel
theorem d_law_1717 : decode b_law 1717 = .ok (.iaload, 1) := by decide +kernel
theorem d_law_1718 : decode b_law 1718 = .ok (.i2l, 1) := by decide +kernel
theorem d_law_1719 : decode b_law 1719 = .ok (.bipush 32, 2) := by decide +kernel
theorem d_law_1721 : decode b_law 1721 = .ok (.lshl, 1) := by decide +kernel
theorem d_law_1722 : decode b_law 1722 = .ok (.aload_n 0, 1) := by decide +kernel
theorem d_law_1723 : decode b_law 1723 = .ok (.iload 4, 2) := by decide +kernel
theorem d_law_1725 : decode b_law 1725 = .ok (.bipush 6, 2) := by decide +kernel
theorem d_law_1727 : decode b_law 1727 = .ok (.iadd, 1) := by decide +kernel
theorem d_law_1728 : decode b_law 1728 = .ok (.iaload, 1) := by decide +kernel
theorem d_law_1729 : decode b_law 1729 = .ok (.i2l, 1) := by decide +kernel
theorem d_law_1730 : decode b_law 1730 = .ok (.ldc2_w 86, 3) := by decide +kernel
theorem d_law_1733 : decode b_law 1733 = .ok (.land, 1) := by decide +kernel
theorem d_law_1734 : decode b_law 1734 = .ok (.lor, 1) := by decide +kernel
theorem d_law_1735 : decode b_law 1735 = .ok (.aload_n 0, 1) := by decide +kernel
theorem d_law_1736 : decode b_law 1736 = .ok (.iload 4, 2) := by decide +kernel
theorem d_law_1738 : decode b_law 1738 = .ok (.bipush 7, 2) := by decide +kernel
theorem d_law_1740 : decode b_law 1740 = .ok (.iadd, 1) := by decide +kernel
theorem d_law_1741 : decode b_law 1741 = .ok (.iaload, 1) := by decide +kernel
theorem d_law_1742 : decode b_law 1742 = .ok (.i2l, 1) := by decide +kernel
theorem d_law_1743 : decode b_law 1743 = .ok (.bipush 32, 2) := by decide +kernel
theorem d_law_1745 : decode b_law 1745 = .ok (.lshl, 1) := by decide +kernel
theorem d_law_1746 : decode b_law 1746 = .ok (.aload_n 0, 1) := by decide +kernel
theorem d_law_1747 : decode b_law 1747 = .ok (.iload 4, 2) := by decide +kernel
theorem d_law_1749 : decode b_law 1749 = .ok (.bipush 8, 2) := by decide +kernel
theorem d_law_1751 : decode b_law 1751 = .ok (.iadd, 1) := by decide +kernel
theorem d_law_1752 : decode b_law 1752 = .ok (.iaload, 1) := by decide +kernel
theorem d_law_1753 : decode b_law 1753 = .ok (.i2l, 1) := by decide +kernel
theorem d_law_1754 : decode b_law 1754 = .ok (.ldc2_w 86, 3) := by decide +kernel
theorem d_law_1757 : decode b_law 1757 = .ok (.land, 1) := by decide +kernel
theorem d_law_1758 : decode b_law 1758 = .ok (.lor, 1) := by decide +kernel
theorem d_law_1759 : decode b_law 1759 = .ok (.aload_n 0, 1) := by decide +kernel
theorem d_law_1760 : decode b_law 1760 = .ok (.iload 4, 2) := by decide +kernel
theorem d_law_1762 : decode b_law 1762 = .ok (.bipush 9, 2) := by decide +kernel
theorem d_law_1764 : decode b_law 1764 = .ok (.iadd, 1) := by decide +kernel
theorem d_law_1765 : decode b_law 1765 = .ok (.iaload, 1) := by decide +kernel
theorem d_law_1766 : decode b_law 1766 = .ok (.aload_n 0, 1) := by decide +kernel
theorem d_law_1767 : decode b_law 1767 = .ok (.iload 4, 2) := by decide +kernel
theorem d_law_1769 : decode b_law 1769 = .ok (.bipush 10, 2) := by decide +kernel
theorem d_law_1771 : decode b_law 1771 = .ok (.iadd, 1) := by decide +kernel
theorem d_law_1772 : decode b_law 1772 = .ok (.iaload, 1) := by decide +kernel
theorem d_law_1773 : decode b_law 1773 = .ok (.i2l, 1) := by decide +kernel
theorem d_law_1774 : decode b_law 1774 = .ok (.bipush 32, 2) := by decide +kernel
theorem d_law_1776 : decode b_law 1776 = .ok (.lshl, 1) := by decide +kernel
theorem d_law_1777 : decode b_law 1777 = .ok (.aload_n 0, 1) := by decide +kernel
theorem d_law_1778 : decode b_law 1778 = .ok (.iload 4, 2) := by decide +kernel
theorem d_law_1780 : decode b_law 1780 = .ok (.bipush 11, 2) := by decide +kernel
theorem d_law_1782 : decode b_law 1782 = .ok (.iadd, 1) := by decide +kernel
theorem d_law_1783 : decode b_law 1783 = .ok (.iaload, 1) := by decide +kernel
theorem d_law_1784 : decode b_law 1784 = .ok (.i2l, 1) := by decide +kernel
theorem d_law_1785 : decode b_law 1785 = .ok (.ldc2_w 86, 3) := by decide +kernel
theorem d_law_1788 : decode b_law 1788 = .ok (.land, 1) := by decide +kernel
theorem d_law_1789 : decode b_law 1789 = .ok (.lor, 1) := by decide +kernel
theorem d_law_1790 : decode b_law 1790 = .ok (.aload_n 3, 1) := by decide +kernel
theorem d_law_1791 : decode b_law 1791 = .ok (.invokestatic 132, 3) := by decide +kernel
theorem d_law_1927 : decode b_law 1927 = .ok (.aload_n 1, 1) := by decide +kernel
theorem d_law_1928 : decode b_law 1928 = .ok (.aload_n 0, 1) := by decide +kernel
theorem d_law_1929 : decode b_law 1929 = .ok (.iload 4, 2) := by decide +kernel
theorem d_law_1931 : decode b_law 1931 = .ok (.iconst 1, 1) := by decide +kernel
theorem d_law_1932 : decode b_law 1932 = .ok (.iadd, 1) := by decide +kernel
theorem d_law_1933 : decode b_law 1933 = .ok (.iaload, 1) := by decide +kernel
theorem d_law_1934 : decode b_law 1934 = .ok (.invokevirtual 136, 3) := by decide +kernel
theorem d_law_1952 : decode b_law 1952 = .ok (.aload_n 1, 1) := by decide +kernel
theorem d_law_1953 : decode b_law 1953 = .ok (.aload_n 0, 1) := by decide +kernel
theorem d_law_1954 : decode b_law 1954 = .ok (.iload 4, 2) := by decide +kernel
theorem d_law_1956 : decode b_law 1956 = .ok (.iconst 1, 1) := by decide +kernel
theorem d_law_1957 : decode b_law 1957 = .ok (.iadd, 1) := by decide +kernel
theorem d_law_1958 : decode b_law 1958 = .ok (.iaload, 1) := by decide +kernel
theorem d_law_1959 : decode b_law 1959 = .ok (.aload_n 0, 1) := by decide +kernel
theorem d_law_1960 : decode b_law 1960 = .ok (.iload 4, 2) := by decide +kernel
theorem d_law_1962 : decode b_law 1962 = .ok (.iconst 2, 1) := by decide +kernel
theorem d_law_1963 : decode b_law 1963 = .ok (.iadd, 1) := by decide +kernel
theorem d_law_1964 : decode b_law 1964 = .ok (.iaload, 1) := by decide +kernel
theorem d_law_1965 : decode b_law 1965 = .ok (.aload_n 3, 1) := by decide +kernel
theorem d_law_1966 : decode b_law 1966 = .ok (.invokestatic 141, 3) := by decide +kernel
theorem d_law_1992 : decode b_law 1992 = .ok (.aload_n 1, 1) := by decide +kernel
theorem d_law_1993 : decode b_law 1993 = .ok (.aload_n 0, 1) := by decide +kernel
theorem d_law_1994 : decode b_law 1994 = .ok (.iload 4, 2) := by decide +kernel
theorem d_law_1996 : decode b_law 1996 = .ok (.iconst 1, 1) := by decide +kernel
theorem d_law_1997 : decode b_law 1997 = .ok (.iadd, 1) := by decide +kernel
theorem d_law_1998 : decode b_law 1998 = .ok (.iaload, 1) := by decide +kernel
theorem d_law_1999 : decode b_law 1999 = .ok (.i2l, 1) := by decide +kernel
theorem d_law_2000 : decode b_law 2000 = .ok (.bipush 32, 2) := by decide +kernel
theorem d_law_2002 : decode b_law 2002 = .ok (.lshl, 1) := by decide +kernel
theorem d_law_2003 : decode b_law 2003 = .ok (.aload_n 0, 1) := by decide +kernel
theorem d_law_2004 : decode b_law 2004 = .ok (.iload 4, 2) := by decide +kernel
theorem d_law_2006 : decode b_law 2006 = .ok (.iconst 2, 1) := by decide +kernel
theorem d_law_2007 : decode b_law 2007 = .ok (.iadd, 1) := by decide +kernel
theorem d_law_2008 : decode b_law 2008 = .ok (.iaload, 1) := by decide +kernel
theorem d_law_2009 : decode b_law 2009 = .ok (.i2l, 1) := by decide +kernel
theorem d_law_2010 : decode b_law 2010 = .ok (.ldc2_w 86, 3) := by decide +kernel
theorem d_law_2013 : decode b_law 2013 = .ok (.land, 1) := by decide +kernel
theorem d_law_2014 : decode b_law 2014 = .ok (.lor, 1) := by decide +kernel
theorem d_law_2015 : decode b_law 2015 = .ok (.aload_n 0, 1) := by decide +kernel
theorem d_law_2016 : decode b_law 2016 = .ok (.iload 4, 2) := by decide +kernel
theorem d_law_2018 : decode b_law 2018 = .ok (.iconst 3, 1) := by decide +kernel
theorem d_law_2019 : decode b_law 2019 = .ok (.iadd, 1) := by decide +kernel
theorem d_law_2020 : decode b_law 2020 = .ok (.iaload, 1) := by decide +kernel
theorem d_law_2021 : decode b_law 2021 = .ok (.aload_n 0, 1) := by decide +kernel
theorem d_law_2022 : decode b_law 2022 = .ok (.iload 4, 2) := by decide +kernel
theorem d_law_2024 : decode b_law 2024 = .ok (.iconst 4, 1) := by decide +kernel
theorem d_law_2025 : decode b_law 2025 = .ok (.iadd, 1) := by decide +kernel
theorem d_law_2026 : decode b_law 2026 = .ok (.iaload, 1) := by decide +kernel
theorem d_law_2027 : decode b_law 2027 = .ok (.aload_n 3, 1) := by decide +kernel
theorem d_law_2028 : decode b_law 2028 = .ok (.invokestatic 144, 3) := by decide +kernel
theorem d_law_2076 : decode b_law 2076 = .ok (.aload_n 1, 1) := by decide +kernel
theorem d_law_2077 : decode b_law 2077 = .ok (.aload_n 0, 1) := by decide +kernel
theorem d_law_2078 : decode b_law 2078 = .ok (.iload 4, 2) := by decide +kernel
theorem d_law_2080 : decode b_law 2080 = .ok (.iconst 1, 1) := by decide +kernel
theorem d_law_2081 : decode b_law 2081 = .ok (.iadd, 1) := by decide +kernel
theorem d_law_2082 : decode b_law 2082 = .ok (.iaload, 1) := by decide +kernel
theorem d_law_2083 : decode b_law 2083 = .ok (.aload_n 3, 1) := by decide +kernel
theorem d_law_2084 : decode b_law 2084 = .ok (.invokestatic 148, 3) := by decide +kernel
theorem d_law_2104 : decode b_law 2104 = .ok (.iinc 4 14, 3) := by decide +kernel
theorem d_law_2107 : decode b_law 2107 = .ok (.goto (-2072), 3) := by decide +kernel
theorem d_law_2110 : decode b_law 2110 = .ok (.iconst 1, 1) := by decide +kernel
theorem d_law_2111 : decode b_law 2111 = .ok (.ireturn, 1) := by decide +kernel
abbrev rm_law : Room := room_1
set_option maxHeartbeats 4000000 in
set_option maxRecDepth 100000 in
theorem m_law {p : Program} {l : Launch} {e : Env} {s : State} {m : MethodId} {below : List Frame} {meth : Method} {c : Code} {ls : Array Slot} {args : Array Value} {A : Nat → Prop} {Q : State → Prop} (hst : l.stackTraces = false) (D : gD) (g0 : gG) (a0 : Nat) (w : gW) (r : (String ⊕ Int32) × gW) (h : f_law g0 a0 w = some r) (hx : p.tables.exec = Jvm.exec) (hb : c.code = b_law) (hml : c.maxLocals = 8) (hown : s.vm.findClass "BodySolidsLaw" = some m.cls) (hT : gT s) (hK : gK D s) (hZ : gZ A s s.heap g0) (hA : ∀ q : Nat, s.heap.size ≤ q → A q) (hret : ∀ {v : Int32}, (v = 0 ∨ v = 1) → ∀ (v9 : Int32) (w1 : gW), r = (.inr v, w1) → ∀ (pc : Nat) (ls : Array Slot) (H : Heap) (locs : List Loc), decode b_law pc = .ok (.ireturn, 1) → gI D s A w1 H locs → W p l e rm_law s m args below meth c H locs 601024 7293000 Q (F0 m pc ls [.int v])) (hexc : gEx p l e rm_law s m args below meth c Q D A r) (hI : gI D s A w s.heap []) (hl : lv_has ls 8 [(0, .ref a0)]) : W p l e rm_law s m args below meth c s.heap [] 0 0 Q (F0 m 0 ls []) := by
  obtain ⟨H, hH⟩ : ∃ H, H = s.heap := ⟨_, rfl⟩
  rw [← hH] at hI ⊢
  obtain ⟨locs, hlocs⟩ : ∃ z : List Loc, z = [] := ⟨_, rfl⟩
  rw [← hlocs] at hI ⊢
  have hl : lv_has ls 8 [(0, .ref a0)] := hl
  unfold f_law at h
  obtain ⟨o1, w, e2, h⟩ := gb2 h
  refine gw_new hx hb hT hown hK hI hA (ci := 0) rfl i_0 t_0 t_0_ok wd_72 wd_73 wd_49 (fs := [.long 0, .null, .null, .null, .null, .null, .int 0, .null, .null, .null]) df_0 e2 (show 0 + 1 ≤ 601024 by omega) (show 0 + 10 ≤ 7293000 by omega) d_law_0 (fun H hI => ?_)
  refine W.widen (k := 1) (n := 10) (show 0 + 1 ≤ 1 by omega) (show 0 + 10 ≤ 10 by omega) ?_
  refine lv_dup hx hb d_law_3 rfl ?_
  refine lv_aload_n hx hb d_law_4 rfl (lv_at hl 0 rfl) ?_
  refine lv_iconst (v := 0) hx hb d_law_5 (by decide) ?_
  obtain ⟨u3, e4⟩ := gsome h
  refine gw_callI e4 h (gw_runS (As := [.ref a0, .int 0]) (rest := [.ref o1, .ref o1]) hx hb hml hown hT hK hZ hA hI (m_W_cell l hst D g0 a0 0 w u3 e4) ce_W_cell wd_424 ⟨by decide, by decide⟩ rfl rfl hl.1 rfl (lv_room (Nat.le_of_ble_eq_true rfl)) d_law_6 ⟨(show 1 + 0 ≤ 601024 by omega), (show 10 + 0 ≤ 7293000 by omega)⟩) hI hA hexc (show 1 + 0 ≤ 601024 by omega) (show 10 + 0 ≤ 7293000 by omega) (fun v5 w H locs h hI => ?_)
  refine lv_i2l (v := v5.toInt64) hx hb d_law_9 rfl ?_
  obtain ⟨u6, e7⟩ := gsome h
  refine gw_callV e7 h (gw_runI (As := [.long (v5.toInt64)]) (rest := [.ref o1]) hx hb hml hown hT hK hZ hA hI (m_B_init l hst D g0 o1 (v5.toInt64) w u6 e7) ce_B_init wd_74 rfl ⟨by decide, by decide⟩ rfl rfl hl.1 rfl (lv_room (Nat.le_of_ble_eq_true rfl)) d_law_10 ⟨(show 1 + 88 ≤ 601024 by omega), (show 10 + 1681 ≤ 7293000 by omega)⟩) hI hA hexc (show 1 + 88 ≤ 601024 by omega) (show 10 + 1681 ≤ 7293000 by omega) (fun v8 w H locs h hI => ?_)
  refine W.widen (k := 89) (n := 1691) (show 1 + 88 ≤ 89 by omega) (show 10 + 1681 ≤ 1691 by omega) ?_
  refine lv_astore_n (lv' := [(1, .ref o1), (0, .ref a0)]) hx hb d_law_13 rfl hl (by decide) rfl (fun ls hl => ?_)
  obtain ⟨o9, w, e10, h⟩ := gb2 h
  refine gw_new hx hb hT hown hK hI hA (ci := 7) rfl i_7 t_7 t_7_ok wd_779 wd_780 wd_57 (fs := [.int 0, .long 0, .int 0, .null, .null, .null, .null, .null, .null, .int 0, .null, .null, .int 0, .null, .null, .null, .null, .null, .int 0, .null, .null, .null, .null, .null, .null, .null, .null]) df_7 e10 (show 89 + 1 ≤ 601024 by omega) (show 1691 + 27 ≤ 7293000 by omega) d_law_14 (fun H hI => ?_)
  refine W.widen (k := 90) (n := 1718) (show 89 + 1 ≤ 90 by omega) (show 1691 + 27 ≤ 1718 by omega) ?_
  refine lv_dup hx hb d_law_17 rfl ?_
  refine lv_aload_n hx hb d_law_18 rfl (lv_at hl 1 rfl) ?_
  refine lv_iconst (v := 0) hx hb d_law_19 (by decide) ?_
  obtain ⟨u11, e12⟩ := gsome h
  refine gw_callI e12 h (gw_runS (As := [.ref a0, .int 0]) (rest := [.ref o9, .ref o9]) hx hb hml hown hT hK hZ hA hI (m_W_cell l hst D g0 a0 0 w u11 e12) ce_W_cell wd_424 ⟨by decide, by decide⟩ rfl rfl hl.1 rfl (lv_room (Nat.le_of_ble_eq_true rfl)) d_law_20 ⟨(show 90 + 0 ≤ 601024 by omega), (show 1718 + 0 ≤ 7293000 by omega)⟩) hI hA hexc (show 90 + 0 ≤ 601024 by omega) (show 1718 + 0 ≤ 7293000 by omega) (fun v13 w H locs h hI => ?_)
  refine lv_i2l (v := v13.toInt64) hx hb d_law_23 rfl ?_
  obtain ⟨u14, e15⟩ := gsome h
  refine gw_callV e15 h (gw_runI (As := [.long (v13.toInt64)]) (rest := [.ref o9]) hx hb hml hown hT hK hZ hA hI (m_M_init l hst D g0 o9 (v13.toInt64) w u14 e15) ce_M_init wd_781 rfl ⟨by decide, by decide⟩ rfl rfl hl.1 rfl (lv_room (Nat.le_of_ble_eq_true rfl)) d_law_24 ⟨(show 90 + 21 ≤ 601024 by omega), (show 1718 + 8938 ≤ 7293000 by omega)⟩) hI hA hexc (show 90 + 21 ≤ 601024 by omega) (show 1718 + 8938 ≤ 7293000 by omega) (fun v16 w H locs h hI => ?_)
  refine W.widen (k := 111) (n := 10656) (show 90 + 21 ≤ 111 by omega) (show 1718 + 8938 ≤ 10656 by omega) ?_
  refine lv_astore_n (lv' := [(2, .ref o9), (1, .ref o1), (0, .ref a0)]) hx hb d_law_27 rfl hl (by decide) rfl (fun ls hl => ?_)
  refine lv_iconst (v := 1) hx hb d_law_28 (by decide) ?_
  obtain ⟨o17, w, e18, h⟩ := gb2 h
  refine gw_newa (atype := .long) (ty := .long) (M := 1) hx hb hK hI hA (hT _ wd_178 args) rfl (k := 1) rfl (fun h9 => h9) e18 (show 111 + 1 ≤ 601024 by omega) (show 10656 + 1 ≤ 7293000 by omega) (show 1 * 8 ≤ 536870912 by omega) d_law_29 (fun H hI => ?_)
  refine W.widen (k := 112) (n := 10657) (show 111 + 1 ≤ 112 by omega) (show 10656 + 1 ≤ 10657 by omega) ?_
  refine lv_astore_n (lv' := [(3, .ref o17), (2, .ref o9), (1, .ref o1), (0, .ref a0)]) hx hb d_law_31 rfl hl (by decide) rfl (fun ls hl => ?_)
  refine lv_iconst (v := 1) hx hb d_law_32 (by decide) ?_
  refine lv_istore (lv' := [(4, .int 1), (3, .ref o17), (2, .ref o9), (1, .ref o1), (0, .ref a0)]) hx hb d_law_33 hl (by decide) rfl (fun ls hl => ?_)
  obtain ⟨K2110, eK2110, h⟩ := gj h
  have hK2110 : ∀ (w : gW) (H : Heap) (locs : List Loc) (ls : Array Slot), K2110 w = some r → gI D s A w H locs → lv_has ls 8 [] → W p l e rm_law s m args below meth c H locs 16015 905842 Q (F0 m 2110 ls []) := by
    intro w H locs ls h hI hl
    have h := gk1 eK2110 h
    refine lv_iconst (v := 1) hx hb d_law_2110 (by decide) ?_
    obtain ⟨g19, h⟩ := gif h
    exact W.widen (show 16015 ≤ 601024 by omega) (show 905842 ≤ 7293000 by omega) (hret g19 0 _ (Option.some.inj h).symm _ _ _ _ d_law_2111 hI)
  obtain ⟨K457, eK457, h⟩ := gj h
  have hK457 : ∀ (x20 : Int32) (w : gW) (H : Heap) (locs : List Loc) (ls : Array Slot), K457 x20 w = some r → gI D s A w H locs → lv_has ls 8 [(0, .ref a0), (1, .ref o1), (3, .ref o17), (4, .int x20)] → W p l e rm_law s m args below meth c H locs 16015 905842 Q (F0 m 457 ls []) := by
    intro x20 w H locs ls h hI hl
    have h := gk2 eK457 h
    exact absurd h (by simp)
  obtain ⟨K1241, eK1241, h⟩ := gj h
  have hK1241 : ∀ (w : gW) (H : Heap) (locs : List Loc) (ls : Array Slot), K1241 w = some r → gI D s A w H locs → lv_has ls 8 [] → W p l e rm_law s m args below meth c H locs 16015 905842 Q (F0 m 1241 ls []) := by
    intro w H locs ls h hI hl
    have h := gk1 eK1241 h
    refine lv_iconst (v := 0) hx hb d_law_1241 (by decide) ?_
    obtain ⟨g21, h⟩ := gif h
    exact W.widen (show 16015 ≤ 601024 by omega) (show 905842 ≤ 7293000 by omega) (hret g21 0 _ (Option.some.inj h).symm _ _ _ _ d_law_1242 hI)
  obtain ⟨K1217, eK1217, h⟩ := gj h
  have hK1217 : ∀ (w : gW) (H : Heap) (locs : List Loc) (ls : Array Slot), K1217 w = some r → gI D s A w H locs → lv_has ls 8 [] → W p l e rm_law s m args below meth c H locs 16015 905842 Q (F0 m 1217 ls []) := by
    intro w H locs ls h hI hl
    have h := gk1 eK1217 h
    refine lv_iconst (v := 0) hx hb d_law_1217 (by decide) ?_
    obtain ⟨g22, h⟩ := gif h
    exact W.widen (show 16015 ≤ 601024 by omega) (show 905842 ≤ 7293000 by omega) (hret g22 0 _ (Option.some.inj h).symm _ _ _ _ d_law_1218 hI)
  obtain ⟨K1286, eK1286, h⟩ := gj h
  have hK1286 : ∀ (x23 : Int32) (w : gW) (H : Heap) (locs : List Loc) (ls : Array Slot), K1286 x23 w = some r → gI D s A w H locs → lv_has ls 8 [(0, .ref a0), (1, .ref o1), (3, .ref o17), (4, .int x23)] → W p l e rm_law s m args below meth c H locs 16015 905842 Q (F0 m 1286 ls []) := by
    intro x23 w H locs ls h hI hl
    have h := gk2 eK1286 h
    exact absurd h (by simp)
  obtain ⟨K1430, eK1430, h⟩ := gj h
  have hK1430 : ∀ (x24 : Int32) (w : gW) (H : Heap) (locs : List Loc) (ls : Array Slot), K1430 x24 w = some r → gI D s A w H locs → lv_has ls 8 [(0, .ref a0), (1, .ref o1), (3, .ref o17), (4, .int x24)] → W p l e rm_law s m args below meth c H locs 16015 905842 Q (F0 m 1430 ls []) := by
    intro x24 w H locs ls h hI hl
    have h := gk2 eK1430 h
    exact absurd h (by simp)
  obtain ⟨K1574, eK1574, h⟩ := gj h
  have hK1574 : ∀ (x25 : Int32) (w : gW) (H : Heap) (locs : List Loc) (ls : Array Slot), K1574 x25 w = some r → gI D s A w H locs → lv_has ls 8 [(0, .ref a0), (1, .ref o1), (3, .ref o17), (4, .int x25)] → W p l e rm_law s m args below meth c H locs 16015 905842 Q (F0 m 1574 ls []) := by
    intro x25 w H locs ls h hI hl
    have h := gk2 eK1574 h
    exact absurd h (by simp)
  obtain ⟨K1614, eK1614, h⟩ := gj h
  have hK1614 : ∀ (w : gW) (H : Heap) (locs : List Loc) (ls : Array Slot), K1614 w = some r → gI D s A w H locs → lv_has ls 8 [(1, .ref o1)] → W p l e rm_law s m args below meth c H locs 16015 905842 Q (F0 m 1614 ls []) := by
    intro w H locs ls h hI hl
    have h := gk1 eK1614 h
    exact absurd h (by simp)
  obtain ⟨K1627, eK1627, h⟩ := gj h
  have hK1627 : ∀ (x26 : Int32) (w : gW) (H : Heap) (locs : List Loc) (ls : Array Slot), K1627 x26 w = some r → gI D s A w H locs → lv_has ls 8 [(0, .ref a0), (1, .ref o1), (3, .ref o17), (4, .int x26)] → W p l e rm_law s m args below meth c H locs 16015 905842 Q (F0 m 1627 ls []) := by
    intro x26 w H locs ls h hI hl
    have h := gk2 eK1627 h
    exact absurd h (by simp)
  obtain ⟨K1667, eK1667, h⟩ := gj h
  have hK1667 : ∀ (x27 : Int32) (w : gW) (H : Heap) (locs : List Loc) (ls : Array Slot), K1667 x27 w = some r → gI D s A w H locs → lv_has ls 8 [(0, .ref a0), (1, .ref o1), (3, .ref o17), (4, .int x27)] → W p l e rm_law s m args below meth c H locs 16015 905842 Q (F0 m 1667 ls []) := by
    intro x27 w H locs ls h hI hl
    have h := gk2 eK1667 h
    exact absurd h (by simp)
  obtain ⟨K1927, eK1927, h⟩ := gj h
  have hK1927 : ∀ (x28 : Int32) (w : gW) (H : Heap) (locs : List Loc) (ls : Array Slot), K1927 x28 w = some r → gI D s A w H locs → lv_has ls 8 [(0, .ref a0), (1, .ref o1), (4, .int x28)] → W p l e rm_law s m args below meth c H locs 16015 905842 Q (F0 m 1927 ls []) := by
    intro x28 w H locs ls h hI hl
    have h := gk2 eK1927 h
    exact absurd h (by simp)
  obtain ⟨K1952, eK1952, h⟩ := gj h
  have hK1952 : ∀ (x29 : Int32) (w : gW) (H : Heap) (locs : List Loc) (ls : Array Slot), K1952 x29 w = some r → gI D s A w H locs → lv_has ls 8 [(0, .ref a0), (1, .ref o1), (3, .ref o17), (4, .int x29)] → W p l e rm_law s m args below meth c H locs 16015 905842 Q (F0 m 1952 ls []) := by
    intro x29 w H locs ls h hI hl
    have h := gk2 eK1952 h
    exact absurd h (by simp)
  obtain ⟨K1992, eK1992, h⟩ := gj h
  have hK1992 : ∀ (x30 : Int32) (w : gW) (H : Heap) (locs : List Loc) (ls : Array Slot), K1992 x30 w = some r → gI D s A w H locs → lv_has ls 8 [(0, .ref a0), (1, .ref o1), (3, .ref o17), (4, .int x30)] → W p l e rm_law s m args below meth c H locs 16015 905842 Q (F0 m 1992 ls []) := by
    intro x30 w H locs ls h hI hl
    have h := gk2 eK1992 h
    exact absurd h (by simp)
  obtain ⟨K2076, eK2076, h⟩ := gj h
  have hK2076 : ∀ (x31 : Int32) (w : gW) (H : Heap) (locs : List Loc) (ls : Array Slot), K2076 x31 w = some r → gI D s A w H locs → lv_has ls 8 [(0, .ref a0), (1, .ref o1), (3, .ref o17), (4, .int x31)] → W p l e rm_law s m args below meth c H locs 16015 905842 Q (F0 m 2076 ls []) := by
    intro x31 w H locs ls h hI hl
    have h := gk2 eK2076 h
    exact absurd h (by simp)
  have hL35 : ∀ (n : Nat), n ≤ 513 → ∀ (z32 : Int32) (w : gW) (H : Heap) (locs : List Loc) (ls : Array Slot), f_law_L35 g0 a0 o1 o9 o17 K2110 K457 K1286 K1430 K1574 K1614 K1627 K1667 K1927 K1952 K1992 K2076 K1217 K1241 n z32 w = some r → gI D s A w H locs → lv_has ls 8 [(0, .ref a0), (1, .ref o1), (2, .ref o9), (3, .ref o17), (4, .int z32)] → W p l e rm_law s m args below meth c H locs (16015 - n * 31) (905842 - n * 1745) Q (F0 m 35 ls []) := by
    intro n
    induction n with
    | zero => intro hn z32 w H locs ls h hI hl; exact absurd h (by simp [f_law_L35])
    | succ n ih =>
      intro hn z32 w H locs ls h hI hl
      rw [f_law_L35] at h
      refine lv_iload hx hb d_law_35 (lv_at hl 4 rfl) ?_
      refine lv_aload_n hx hb d_law_37 rfl (lv_at hl 0 rfl) ?_
      obtain ⟨v33, e34, h⟩ := gb h
      refine gw_alen hx hb hK hI e34 d_law_38 ?_
      refine lv_bipush (v := 14) hx hb d_law_39 (by decide) ?_
      refine lv_isub hx hb d_law_41 ?_
      refine lv_icmp_gt (tgt := 2110) hx hb d_law_42 (by decide) (fun c35 => ?_) (fun c35 => ?_)
      · skip
        have h := git c35 h
        refine W.widen (k := 16015) (n := 905842) (show (16015 - (n + 1) * 31) ≤ 16015 by omega) (show (905842 - (n + 1) * 1745) ≤ 905842 by omega) ?_
        exact hK2110 w H locs ls h hI (lv_sub hl [] rfl)
      · skip
        have h := gie c35 h
        refine lv_aload_n hx hb d_law_45 rfl (lv_at hl 0 rfl) ?_
        refine lv_iload hx hb d_law_46 (lv_at hl 4 rfl) ?_
        obtain ⟨v36, e37, h⟩ := gb h
        refine gw_aldI hx hb hK hI e37 d_law_48 ?_
        refine lv_bipush (v := 31) hx hb d_law_49 (by decide) ?_
        refine lv_iand hx hb d_law_51 ?_
        obtain ⟨K2104, eK2104, h⟩ := gj h
        have hK2104 : ∀ (w : gW) (H : Heap) (locs : List Loc) (ls : Array Slot), K2104 w = some r → gI D s A w H locs → lv_has ls 8 [(0, .ref a0), (1, .ref o1), (2, .ref o9), (3, .ref o17), (4, .int z32)] → W p l e rm_law s m args below meth c H locs ((16015 - (n + 1) * 31) + 31) ((905842 - (n + 1) * 1745) + 1745) Q (F0 m 2104 ls []) := by
          intro w H locs ls h hI hl
          have h := gk1 eK2104 h
          refine lv_iinc (v := z32 + 14) (lv' := [(4, .int (z32 + 14)), (0, .ref a0), (1, .ref o1), (2, .ref o9), (3, .ref o17)]) hx hb d_law_2104 hl (k := 4) rfl rfl (by decide) rfl (fun ls hl => ?_)
          refine lv_goto (tgt := 35) hx hb d_law_2107 (by decide) ?_
          refine W.widen (k := (16015 - n * 31)) (n := (905842 - n * 1745)) (show ((16015 - (n + 1) * 31) + 31) ≤ (16015 - n * 31) by omega) (show ((905842 - (n + 1) * 1745) + 1745) ≤ (905842 - n * 1745) by omega) ?_
          exact ih (by omega) _ w H locs ls h hI (lv_sub hl [1, 2, 3, 4, 0] rfl)
        rcases Decidable.em ((v36 &&& 31) = 0) with c38 | c38
        · have h := git c38 h
          refine lv_tableIn (off := 84) (tgt := 136) hx hb d_law_52 (by rw [c38]; decide) (by rw [c38]; decide) (by rw [c38]; decide) (by decide) ?_
          refine lv_aload_n hx hb d_law_136 rfl (lv_at hl 1 rfl) ?_
          obtain ⟨q41, e42, h⟩ := gb h
          obtain ⟨u39, e40⟩ := gsome h
          refine gw_callI e40 h (gw_runV (As := []) (rest := []) hx hb hml hown hT hK hZ hA hI (ci := 0) rfl e42 (m_B_body l hst D g0 o1 w u39 e40) ce_B_body wd_220 wd_222 ⟨by decide, by decide⟩ rfl rfl hl.1 rfl (lv_room (Nat.le_of_ble_eq_true rfl)) d_law_137 ⟨(show (16015 - (n + 1) * 31) + 3 ≤ 601024 by omega), (show (905842 - (n + 1) * 1745) + 69 ≤ 7293000 by omega)⟩) hI hA hexc (show (16015 - (n + 1) * 31) + 3 ≤ 601024 by omega) (show (905842 - (n + 1) * 1745) + 69 ≤ 7293000 by omega) (fun v43 w H locs h hI => ?_)
          refine W.widen (k := ((16015 - (n + 1) * 31) + 3)) (n := ((905842 - (n + 1) * 1745) + 69)) (show (16015 - (n + 1) * 31) + 3 ≤ ((16015 - (n + 1) * 31) + 3) by omega) (show (905842 - (n + 1) * 1745) + 69 ≤ ((905842 - (n + 1) * 1745) + 69) by omega) ?_
          refine lv_pop hx hb d_law_140 rfl ?_
          refine lv_aload_n hx hb d_law_141 rfl (lv_at hl 2 rfl) ?_
          obtain ⟨q46, e47, h⟩ := gb h
          obtain ⟨u44, e45⟩ := gsome h
          refine gw_callI e45 h (gw_runV (As := []) (rest := []) hx hb hml hown hT hK hZ hA hI (ci := 7) rfl e47 (m_M_body l hst D g0 o9 w u44 e45) ce_M_body wd_872 wd_874 ⟨by decide, by decide⟩ rfl rfl hl.1 rfl (lv_room (Nat.le_of_ble_eq_true rfl)) d_law_142 ⟨(show ((16015 - (n + 1) * 31) + 3) + 0 ≤ 601024 by omega), (show ((905842 - (n + 1) * 1745) + 69) + 0 ≤ 7293000 by omega)⟩) hI hA hexc (show ((16015 - (n + 1) * 31) + 3) + 0 ≤ 601024 by omega) (show ((905842 - (n + 1) * 1745) + 69) + 0 ≤ 7293000 by omega) (fun v48 w H locs h hI => ?_)
          refine lv_pop hx hb d_law_145 rfl ?_
          refine lv_goto (tgt := 2104) hx hb d_law_146 (by decide) ?_
          refine W.widen (k := ((16015 - (n + 1) * 31) + 31)) (n := ((905842 - (n + 1) * 1745) + 1745)) (show ((16015 - (n + 1) * 31) + 3) ≤ ((16015 - (n + 1) * 31) + 31) by omega) (show ((905842 - (n + 1) * 1745) + 69) ≤ ((905842 - (n + 1) * 1745) + 1745) by omega) ?_
          exact hK2104 w H locs ls h hI (lv_sub hl [0, 1, 2, 3, 4] rfl)
        have h := gie c38 h
        rcases Decidable.em ((v36 &&& 31) = 1) with c49 | c49
        · have h := git c49 h
          refine lv_tableIn (off := 97) (tgt := 149) hx hb d_law_52 (by rw [c49]; decide) (by rw [c49]; decide) (by rw [c49]; decide) (by decide) ?_
          refine lv_aload_n hx hb d_law_149 rfl (lv_at hl 1 rfl) ?_
          refine lv_aload_n hx hb d_law_150 rfl (lv_at hl 0 rfl) ?_
          refine lv_iload hx hb d_law_151 (lv_at hl 4 rfl) ?_
          refine lv_iconst (v := 1) hx hb d_law_153 (by decide) ?_
          refine lv_iadd hx hb d_law_154 ?_
          obtain ⟨v50, e51, h⟩ := gb h
          refine gw_aldI hx hb hK hI e51 d_law_155 ?_
          refine lv_aload_n hx hb d_law_156 rfl (lv_at hl 0 rfl) ?_
          refine lv_iload hx hb d_law_157 (lv_at hl 4 rfl) ?_
          refine lv_iconst (v := 2) hx hb d_law_159 (by decide) ?_
          refine lv_iadd hx hb d_law_160 ?_
          obtain ⟨v52, e53, h⟩ := gb h
          refine gw_aldI hx hb hK hI e53 d_law_161 ?_
          refine lv_i2l (v := v52.toInt64) hx hb d_law_162 rfl ?_
          refine lv_bipush (v := 32) hx hb d_law_163 (by decide) ?_
          refine lv_lshl (v := (v52.toInt64) <<< ((32 : Int32).toInt64 &&& 63)) hx hb d_law_165 rfl ?_
          refine lv_aload_n hx hb d_law_166 rfl (lv_at hl 0 rfl) ?_
          refine lv_iload hx hb d_law_167 (lv_at hl 4 rfl) ?_
          refine lv_iconst (v := 3) hx hb d_law_169 (by decide) ?_
          refine lv_iadd hx hb d_law_170 ?_
          obtain ⟨v54, e55, h⟩ := gb h
          refine gw_aldI hx hb hK hI e55 d_law_171 ?_
          refine lv_i2l (v := v54.toInt64) hx hb d_law_172 rfl ?_
          refine lv_ldc2 (v := 4294967295) hx hb hown (hT _ wd_1121 args) d_law_173 ?_
          refine lv_land hx hb d_law_176 ?_
          refine lv_lor hx hb d_law_177 ?_
          refine lv_aload_n hx hb d_law_178 rfl (lv_at hl 0 rfl) ?_
          refine lv_iload hx hb d_law_179 (lv_at hl 4 rfl) ?_
          refine lv_iconst (v := 4) hx hb d_law_181 (by decide) ?_
          refine lv_iadd hx hb d_law_182 ?_
          obtain ⟨v56, e57, h⟩ := gb h
          refine gw_aldI hx hb hK hI e57 d_law_183 ?_
          refine lv_i2l (v := v56.toInt64) hx hb d_law_184 rfl ?_
          refine lv_bipush (v := 32) hx hb d_law_185 (by decide) ?_
          refine lv_lshl (v := (v56.toInt64) <<< ((32 : Int32).toInt64 &&& 63)) hx hb d_law_187 rfl ?_
          refine lv_aload_n hx hb d_law_188 rfl (lv_at hl 0 rfl) ?_
          refine lv_iload hx hb d_law_189 (lv_at hl 4 rfl) ?_
          refine lv_iconst (v := 5) hx hb d_law_191 (by decide) ?_
          refine lv_iadd hx hb d_law_192 ?_
          obtain ⟨v58, e59, h⟩ := gb h
          refine gw_aldI hx hb hK hI e59 d_law_193 ?_
          refine lv_i2l (v := v58.toInt64) hx hb d_law_194 rfl ?_
          refine lv_ldc2 (v := 4294967295) hx hb hown (hT _ wd_1121 args) d_law_195 ?_
          refine lv_land hx hb d_law_198 ?_
          refine lv_lor hx hb d_law_199 ?_
          refine lv_aload_n hx hb d_law_200 rfl (lv_at hl 0 rfl) ?_
          refine lv_iload hx hb d_law_201 (lv_at hl 4 rfl) ?_
          refine lv_bipush (v := 6) hx hb d_law_203 (by decide) ?_
          refine lv_iadd hx hb d_law_205 ?_
          obtain ⟨v60, e61, h⟩ := gb h
          refine gw_aldI hx hb hK hI e61 d_law_206 ?_
          refine lv_i2l (v := v60.toInt64) hx hb d_law_207 rfl ?_
          refine lv_bipush (v := 32) hx hb d_law_208 (by decide) ?_
          refine lv_lshl (v := (v60.toInt64) <<< ((32 : Int32).toInt64 &&& 63)) hx hb d_law_210 rfl ?_
          refine lv_aload_n hx hb d_law_211 rfl (lv_at hl 0 rfl) ?_
          refine lv_iload hx hb d_law_212 (lv_at hl 4 rfl) ?_
          refine lv_bipush (v := 7) hx hb d_law_214 (by decide) ?_
          refine lv_iadd hx hb d_law_216 ?_
          obtain ⟨v62, e63, h⟩ := gb h
          refine gw_aldI hx hb hK hI e63 d_law_217 ?_
          refine lv_i2l (v := v62.toInt64) hx hb d_law_218 rfl ?_
          refine lv_ldc2 (v := 4294967295) hx hb hown (hT _ wd_1121 args) d_law_219 ?_
          refine lv_land hx hb d_law_222 ?_
          refine lv_lor hx hb d_law_223 ?_
          refine lv_aload_n hx hb d_law_224 rfl (lv_at hl 0 rfl) ?_
          refine lv_iload hx hb d_law_225 (lv_at hl 4 rfl) ?_
          refine lv_bipush (v := 8) hx hb d_law_227 (by decide) ?_
          refine lv_iadd hx hb d_law_229 ?_
          obtain ⟨v64, e65, h⟩ := gb h
          refine gw_aldI hx hb hK hI e65 d_law_230 ?_
          refine lv_i2l (v := v64.toInt64) hx hb d_law_231 rfl ?_
          refine lv_bipush (v := 32) hx hb d_law_232 (by decide) ?_
          refine lv_lshl (v := (v64.toInt64) <<< ((32 : Int32).toInt64 &&& 63)) hx hb d_law_234 rfl ?_
          refine lv_aload_n hx hb d_law_235 rfl (lv_at hl 0 rfl) ?_
          refine lv_iload hx hb d_law_236 (lv_at hl 4 rfl) ?_
          refine lv_bipush (v := 9) hx hb d_law_238 (by decide) ?_
          refine lv_iadd hx hb d_law_240 ?_
          obtain ⟨v66, e67, h⟩ := gb h
          refine gw_aldI hx hb hK hI e67 d_law_241 ?_
          refine lv_i2l (v := v66.toInt64) hx hb d_law_242 rfl ?_
          refine lv_ldc2 (v := 4294967295) hx hb hown (hT _ wd_1121 args) d_law_243 ?_
          refine lv_land hx hb d_law_246 ?_
          refine lv_lor hx hb d_law_247 ?_
          refine lv_aload_n hx hb d_law_248 rfl (lv_at hl 0 rfl) ?_
          refine lv_iload hx hb d_law_249 (lv_at hl 4 rfl) ?_
          refine lv_bipush (v := 10) hx hb d_law_251 (by decide) ?_
          refine lv_iadd hx hb d_law_253 ?_
          obtain ⟨v68, e69, h⟩ := gb h
          refine gw_aldI hx hb hK hI e69 d_law_254 ?_
          refine lv_i2l (v := v68.toInt64) hx hb d_law_255 rfl ?_
          refine lv_bipush (v := 32) hx hb d_law_256 (by decide) ?_
          refine lv_lshl (v := (v68.toInt64) <<< ((32 : Int32).toInt64 &&& 63)) hx hb d_law_258 rfl ?_
          refine lv_aload_n hx hb d_law_259 rfl (lv_at hl 0 rfl) ?_
          refine lv_iload hx hb d_law_260 (lv_at hl 4 rfl) ?_
          refine lv_bipush (v := 11) hx hb d_law_262 (by decide) ?_
          refine lv_iadd hx hb d_law_264 ?_
          obtain ⟨v70, e71, h⟩ := gb h
          refine gw_aldI hx hb hK hI e71 d_law_265 ?_
          refine lv_i2l (v := v70.toInt64) hx hb d_law_266 rfl ?_
          refine lv_ldc2 (v := 4294967295) hx hb hown (hT _ wd_1121 args) d_law_267 ?_
          refine lv_land hx hb d_law_270 ?_
          refine lv_lor hx hb d_law_271 ?_
          refine lv_aload_n hx hb d_law_272 rfl (lv_at hl 0 rfl) ?_
          refine lv_iload hx hb d_law_273 (lv_at hl 4 rfl) ?_
          refine lv_bipush (v := 12) hx hb d_law_275 (by decide) ?_
          refine lv_iadd hx hb d_law_277 ?_
          obtain ⟨v72, e73, h⟩ := gb h
          refine gw_aldI hx hb hK hI e73 d_law_278 ?_
          refine lv_i2l (v := v72.toInt64) hx hb d_law_279 rfl ?_
          refine lv_bipush (v := 32) hx hb d_law_280 (by decide) ?_
          refine lv_lshl (v := (v72.toInt64) <<< ((32 : Int32).toInt64 &&& 63)) hx hb d_law_282 rfl ?_
          refine lv_aload_n hx hb d_law_283 rfl (lv_at hl 0 rfl) ?_
          refine lv_iload hx hb d_law_284 (lv_at hl 4 rfl) ?_
          refine lv_bipush (v := 13) hx hb d_law_286 (by decide) ?_
          refine lv_iadd hx hb d_law_288 ?_
          obtain ⟨v74, e75, h⟩ := gb h
          refine gw_aldI hx hb hK hI e75 d_law_289 ?_
          refine lv_i2l (v := v74.toInt64) hx hb d_law_290 rfl ?_
          refine lv_ldc2 (v := 4294967295) hx hb hown (hT _ wd_1121 args) d_law_291 ?_
          refine lv_land hx hb d_law_294 ?_
          refine lv_lor hx hb d_law_295 ?_
          refine lv_aload_n hx hb d_law_296 rfl (lv_at hl 3 rfl) ?_
          obtain ⟨u76, e77⟩ := gsome h
          refine gw_callI e77 h (gw_runS (As := [.ref o1, .int v50, .long (((v52.toInt64) <<< ((32 : Int32).toInt64 &&& 63)) ||| ((v54.toInt64) &&& 4294967295)), .long (((v56.toInt64) <<< ((32 : Int32).toInt64 &&& 63)) ||| ((v58.toInt64) &&& 4294967295)), .long (((v60.toInt64) <<< ((32 : Int32).toInt64 &&& 63)) ||| ((v62.toInt64) &&& 4294967295)), .long (((v64.toInt64) <<< ((32 : Int32).toInt64 &&& 63)) ||| ((v66.toInt64) &&& 4294967295)), .long (((v68.toInt64) <<< ((32 : Int32).toInt64 &&& 63)) ||| ((v70.toInt64) &&& 4294967295)), .long (((v72.toInt64) <<< ((32 : Int32).toInt64 &&& 63)) ||| ((v74.toInt64) &&& 4294967295)), .ref o17]) (rest := []) hx hb hml hown hT hK hZ hA hI (m_W_box l hst D g0 o1 v50 (((v52.toInt64) <<< ((32 : Int32).toInt64 &&& 63)) ||| ((v54.toInt64) &&& 4294967295)) (((v56.toInt64) <<< ((32 : Int32).toInt64 &&& 63)) ||| ((v58.toInt64) &&& 4294967295)) (((v60.toInt64) <<< ((32 : Int32).toInt64 &&& 63)) ||| ((v62.toInt64) &&& 4294967295)) (((v64.toInt64) <<< ((32 : Int32).toInt64 &&& 63)) ||| ((v66.toInt64) &&& 4294967295)) (((v68.toInt64) <<< ((32 : Int32).toInt64 &&& 63)) ||| ((v70.toInt64) &&& 4294967295)) (((v72.toInt64) <<< ((32 : Int32).toInt64 &&& 63)) ||| ((v74.toInt64) &&& 4294967295)) o17 w u76 e77) ce_W_box wd_427 ⟨by decide, by decide⟩ rfl rfl hl.1 rfl (lv_room (Nat.le_of_ble_eq_true rfl)) d_law_297 ⟨(show (16015 - (n + 1) * 31) + 14 ≤ 601024 by omega), (show (905842 - (n + 1) * 1745) + 152 ≤ 7293000 by omega)⟩) hI hA hexc (show (16015 - (n + 1) * 31) + 14 ≤ 601024 by omega) (show (905842 - (n + 1) * 1745) + 152 ≤ 7293000 by omega) (fun v78 w H locs h hI => ?_)
          refine W.widen (k := ((16015 - (n + 1) * 31) + 14)) (n := ((905842 - (n + 1) * 1745) + 152)) (show (16015 - (n + 1) * 31) + 14 ≤ ((16015 - (n + 1) * 31) + 14) by omega) (show (905842 - (n + 1) * 1745) + 152 ≤ ((905842 - (n + 1) * 1745) + 152) by omega) ?_
          refine lv_istore (lv' := [(5, .int v78), (0, .ref a0), (1, .ref o1), (2, .ref o9), (3, .ref o17), (4, .int z32)]) hx hb d_law_300 hl (by decide) rfl (fun ls hl => ?_)
          refine lv_aload_n hx hb d_law_302 rfl (lv_at hl 3 rfl) ?_
          refine lv_aload_n hx hb d_law_303 rfl (lv_at hl 1 rfl) ?_
          refine lv_iload hx hb d_law_304 (lv_at hl 5 rfl) ?_
          refine lv_iconst (v := 1) hx hb d_law_306 (by decide) ?_
          refine lv_iadd hx hb d_law_307 ?_
          obtain ⟨v79, e80, h⟩ := gb h
          refine gw_aldI hx hb hK hI e80 d_law_308 ?_
          refine lv_aload_n hx hb d_law_309 rfl (lv_at hl 1 rfl) ?_
          refine lv_iload hx hb d_law_310 (lv_at hl 5 rfl) ?_
          refine lv_iconst (v := 2) hx hb d_law_312 (by decide) ?_
          refine lv_iadd hx hb d_law_313 ?_
          obtain ⟨v81, e82, h⟩ := gb h
          refine gw_aldI hx hb hK hI e82 d_law_314 ?_
          refine lv_i2l (v := v81.toInt64) hx hb d_law_315 rfl ?_
          refine lv_bipush (v := 32) hx hb d_law_316 (by decide) ?_
          refine lv_lshl (v := (v81.toInt64) <<< ((32 : Int32).toInt64 &&& 63)) hx hb d_law_318 rfl ?_
          refine lv_aload_n hx hb d_law_319 rfl (lv_at hl 1 rfl) ?_
          refine lv_iload hx hb d_law_320 (lv_at hl 5 rfl) ?_
          refine lv_iconst (v := 3) hx hb d_law_322 (by decide) ?_
          refine lv_iadd hx hb d_law_323 ?_
          obtain ⟨v83, e84, h⟩ := gb h
          refine gw_aldI hx hb hK hI e84 d_law_324 ?_
          refine lv_i2l (v := v83.toInt64) hx hb d_law_325 rfl ?_
          refine lv_ldc2 (v := 4294967295) hx hb hown (hT _ wd_1121 args) d_law_326 ?_
          refine lv_land hx hb d_law_329 ?_
          refine lv_lor hx hb d_law_330 ?_
          refine lv_aload_n hx hb d_law_331 rfl (lv_at hl 1 rfl) ?_
          refine lv_iload hx hb d_law_332 (lv_at hl 5 rfl) ?_
          refine lv_iconst (v := 4) hx hb d_law_334 (by decide) ?_
          refine lv_iadd hx hb d_law_335 ?_
          obtain ⟨v85, e86, h⟩ := gb h
          refine gw_aldI hx hb hK hI e86 d_law_336 ?_
          refine lv_i2l (v := v85.toInt64) hx hb d_law_337 rfl ?_
          refine lv_bipush (v := 32) hx hb d_law_338 (by decide) ?_
          refine lv_lshl (v := (v85.toInt64) <<< ((32 : Int32).toInt64 &&& 63)) hx hb d_law_340 rfl ?_
          refine lv_aload_n hx hb d_law_341 rfl (lv_at hl 1 rfl) ?_
          refine lv_iload hx hb d_law_342 (lv_at hl 5 rfl) ?_
          refine lv_iconst (v := 5) hx hb d_law_344 (by decide) ?_
          refine lv_iadd hx hb d_law_345 ?_
          obtain ⟨v87, e88, h⟩ := gb h
          refine gw_aldI hx hb hK hI e88 d_law_346 ?_
          refine lv_i2l (v := v87.toInt64) hx hb d_law_347 rfl ?_
          refine lv_ldc2 (v := 4294967295) hx hb hown (hT _ wd_1121 args) d_law_348 ?_
          refine lv_land hx hb d_law_351 ?_
          refine lv_lor hx hb d_law_352 ?_
          refine lv_aload_n hx hb d_law_353 rfl (lv_at hl 1 rfl) ?_
          refine lv_iload hx hb d_law_354 (lv_at hl 5 rfl) ?_
          refine lv_bipush (v := 6) hx hb d_law_356 (by decide) ?_
          refine lv_iadd hx hb d_law_358 ?_
          obtain ⟨v89, e90, h⟩ := gb h
          refine gw_aldI hx hb hK hI e90 d_law_359 ?_
          refine lv_i2l (v := v89.toInt64) hx hb d_law_360 rfl ?_
          refine lv_bipush (v := 32) hx hb d_law_361 (by decide) ?_
          refine lv_lshl (v := (v89.toInt64) <<< ((32 : Int32).toInt64 &&& 63)) hx hb d_law_363 rfl ?_
          refine lv_aload_n hx hb d_law_364 rfl (lv_at hl 1 rfl) ?_
          refine lv_iload hx hb d_law_365 (lv_at hl 5 rfl) ?_
          refine lv_bipush (v := 7) hx hb d_law_367 (by decide) ?_
          refine lv_iadd hx hb d_law_369 ?_
          obtain ⟨v91, e92, h⟩ := gb h
          refine gw_aldI hx hb hK hI e92 d_law_370 ?_
          refine lv_i2l (v := v91.toInt64) hx hb d_law_371 rfl ?_
          refine lv_ldc2 (v := 4294967295) hx hb hown (hT _ wd_1121 args) d_law_372 ?_
          refine lv_land hx hb d_law_375 ?_
          refine lv_lor hx hb d_law_376 ?_
          refine lv_aload_n hx hb d_law_377 rfl (lv_at hl 1 rfl) ?_
          refine lv_iload hx hb d_law_378 (lv_at hl 5 rfl) ?_
          refine lv_bipush (v := 8) hx hb d_law_380 (by decide) ?_
          refine lv_iadd hx hb d_law_382 ?_
          obtain ⟨v93, e94, h⟩ := gb h
          refine gw_aldI hx hb hK hI e94 d_law_383 ?_
          refine lv_i2l (v := v93.toInt64) hx hb d_law_384 rfl ?_
          refine lv_bipush (v := 32) hx hb d_law_385 (by decide) ?_
          refine lv_lshl (v := (v93.toInt64) <<< ((32 : Int32).toInt64 &&& 63)) hx hb d_law_387 rfl ?_
          refine lv_aload_n hx hb d_law_388 rfl (lv_at hl 1 rfl) ?_
          refine lv_iload hx hb d_law_389 (lv_at hl 5 rfl) ?_
          refine lv_bipush (v := 9) hx hb d_law_391 (by decide) ?_
          refine lv_iadd hx hb d_law_393 ?_
          obtain ⟨v95, e96, h⟩ := gb h
          refine gw_aldI hx hb hK hI e96 d_law_394 ?_
          refine lv_i2l (v := v95.toInt64) hx hb d_law_395 rfl ?_
          refine lv_ldc2 (v := 4294967295) hx hb hown (hT _ wd_1121 args) d_law_396 ?_
          refine lv_land hx hb d_law_399 ?_
          refine lv_lor hx hb d_law_400 ?_
          refine lv_aload_n hx hb d_law_401 rfl (lv_at hl 1 rfl) ?_
          refine lv_iload hx hb d_law_402 (lv_at hl 5 rfl) ?_
          refine lv_bipush (v := 10) hx hb d_law_404 (by decide) ?_
          refine lv_iadd hx hb d_law_406 ?_
          obtain ⟨v97, e98, h⟩ := gb h
          refine gw_aldI hx hb hK hI e98 d_law_407 ?_
          refine lv_i2l (v := v97.toInt64) hx hb d_law_408 rfl ?_
          refine lv_bipush (v := 32) hx hb d_law_409 (by decide) ?_
          refine lv_lshl (v := (v97.toInt64) <<< ((32 : Int32).toInt64 &&& 63)) hx hb d_law_411 rfl ?_
          refine lv_aload_n hx hb d_law_412 rfl (lv_at hl 1 rfl) ?_
          refine lv_iload hx hb d_law_413 (lv_at hl 5 rfl) ?_
          refine lv_bipush (v := 11) hx hb d_law_415 (by decide) ?_
          refine lv_iadd hx hb d_law_417 ?_
          obtain ⟨v99, e100, h⟩ := gb h
          refine gw_aldI hx hb hK hI e100 d_law_418 ?_
          refine lv_i2l (v := v99.toInt64) hx hb d_law_419 rfl ?_
          refine lv_ldc2 (v := 4294967295) hx hb hown (hT _ wd_1121 args) d_law_420 ?_
          refine lv_land hx hb d_law_423 ?_
          refine lv_lor hx hb d_law_424 ?_
          refine lv_aload_n hx hb d_law_425 rfl (lv_at hl 1 rfl) ?_
          refine lv_iload hx hb d_law_426 (lv_at hl 5 rfl) ?_
          refine lv_bipush (v := 12) hx hb d_law_428 (by decide) ?_
          refine lv_iadd hx hb d_law_430 ?_
          obtain ⟨v101, e102, h⟩ := gb h
          refine gw_aldI hx hb hK hI e102 d_law_431 ?_
          refine lv_i2l (v := v101.toInt64) hx hb d_law_432 rfl ?_
          refine lv_bipush (v := 32) hx hb d_law_433 (by decide) ?_
          refine lv_lshl (v := (v101.toInt64) <<< ((32 : Int32).toInt64 &&& 63)) hx hb d_law_435 rfl ?_
          refine lv_aload_n hx hb d_law_436 rfl (lv_at hl 1 rfl) ?_
          refine lv_iload hx hb d_law_437 (lv_at hl 5 rfl) ?_
          refine lv_bipush (v := 13) hx hb d_law_439 (by decide) ?_
          refine lv_iadd hx hb d_law_441 ?_
          obtain ⟨v103, e104, h⟩ := gb h
          refine gw_aldI hx hb hK hI e104 d_law_442 ?_
          refine lv_i2l (v := v103.toInt64) hx hb d_law_443 rfl ?_
          refine lv_ldc2 (v := 4294967295) hx hb hown (hT _ wd_1121 args) d_law_444 ?_
          refine lv_land hx hb d_law_447 ?_
          refine lv_lor hx hb d_law_448 ?_
          obtain ⟨q107, e108, h⟩ := gb h
          obtain ⟨u105, e106⟩ := gsome h
          refine gw_callI e106 h (gw_runV (As := [.int v79, .long (((v81.toInt64) <<< ((32 : Int32).toInt64 &&& 63)) ||| ((v83.toInt64) &&& 4294967295)), .long (((v85.toInt64) <<< ((32 : Int32).toInt64 &&& 63)) ||| ((v87.toInt64) &&& 4294967295)), .long (((v89.toInt64) <<< ((32 : Int32).toInt64 &&& 63)) ||| ((v91.toInt64) &&& 4294967295)), .long (((v93.toInt64) <<< ((32 : Int32).toInt64 &&& 63)) ||| ((v95.toInt64) &&& 4294967295)), .long (((v97.toInt64) <<< ((32 : Int32).toInt64 &&& 63)) ||| ((v99.toInt64) &&& 4294967295)), .long (((v101.toInt64) <<< ((32 : Int32).toInt64 &&& 63)) ||| ((v103.toInt64) &&& 4294967295))]) (rest := []) hx hb hml hown hT hK hZ hA hI (ci := 7) rfl e108 (m_M_box l hst D g0 o9 v79 (((v81.toInt64) <<< ((32 : Int32).toInt64 &&& 63)) ||| ((v83.toInt64) &&& 4294967295)) (((v85.toInt64) <<< ((32 : Int32).toInt64 &&& 63)) ||| ((v87.toInt64) &&& 4294967295)) (((v89.toInt64) <<< ((32 : Int32).toInt64 &&& 63)) ||| ((v91.toInt64) &&& 4294967295)) (((v93.toInt64) <<< ((32 : Int32).toInt64 &&& 63)) ||| ((v95.toInt64) &&& 4294967295)) (((v97.toInt64) <<< ((32 : Int32).toInt64 &&& 63)) ||| ((v99.toInt64) &&& 4294967295)) (((v101.toInt64) <<< ((32 : Int32).toInt64 &&& 63)) ||| ((v103.toInt64) &&& 4294967295)) w u105 e106) ce_M_box wd_876 wd_878 ⟨by decide, by decide⟩ rfl rfl hl.1 rfl (lv_room (Nat.le_of_ble_eq_true rfl)) d_law_449 ⟨(show ((16015 - (n + 1) * 31) + 14) + 0 ≤ 601024 by omega), (show ((905842 - (n + 1) * 1745) + 152) + 0 ≤ 7293000 by omega)⟩) hI hA hexc (show ((16015 - (n + 1) * 31) + 14) + 0 ≤ 601024 by omega) (show ((905842 - (n + 1) * 1745) + 152) + 0 ≤ 7293000 by omega) (fun v109 w H locs h hI => ?_)
          refine lv_istore (lv' := [(6, .int v109), (5, .int v78), (0, .ref a0), (1, .ref o1), (2, .ref o9), (3, .ref o17), (4, .int z32)]) hx hb d_law_452 hl (by decide) rfl (fun ls hl => ?_)
          refine lv_goto (tgt := 2104) hx hb d_law_454 (by decide) ?_
          refine W.widen (k := ((16015 - (n + 1) * 31) + 31)) (n := ((905842 - (n + 1) * 1745) + 1745)) (show ((16015 - (n + 1) * 31) + 14) ≤ ((16015 - (n + 1) * 31) + 31) by omega) (show ((905842 - (n + 1) * 1745) + 152) ≤ ((905842 - (n + 1) * 1745) + 1745) by omega) ?_
          exact hK2104 w H locs ls h hI (lv_sub hl [2, 3, 4, 5, 6] rfl)
        have h := gie c49 h
        rcases Decidable.em ((v36 &&& 31) = 2) with c110 | c110
        · have h := git c110 h
          refine lv_tableIn (off := 405) (tgt := 457) hx hb d_law_52 (by rw [c110]; decide) (by rw [c110]; decide) (by rw [c110]; decide) (by decide) ?_
          refine W.widen (k := 16015) (n := 905842) (show (16015 - (n + 1) * 31) ≤ 16015 by omega) (show (905842 - (n + 1) * 1745) ≤ 905842 by omega) ?_
          exact hK457 _ w H locs ls h hI (lv_sub hl [0, 1, 3, 4] rfl)
        have h := gie c110 h
        rcases Decidable.em ((v36 &&& 31) = 3) with c111 | c111
        · have h := git c111 h
          refine lv_tableIn (off := 665) (tgt := 717) hx hb d_law_52 (by rw [c111]; decide) (by rw [c111]; decide) (by rw [c111]; decide) (by decide) ?_
          refine lv_aload_n hx hb d_law_717 rfl (lv_at hl 1 rfl) ?_
          refine lv_aload_n hx hb d_law_718 rfl (lv_at hl 0 rfl) ?_
          refine lv_iload hx hb d_law_719 (lv_at hl 4 rfl) ?_
          refine lv_iconst (v := 1) hx hb d_law_721 (by decide) ?_
          refine lv_iadd hx hb d_law_722 ?_
          obtain ⟨v112, e113, h⟩ := gb h
          refine gw_aldI hx hb hK hI e113 d_law_723 ?_
          refine lv_i2l (v := v112.toInt64) hx hb d_law_724 rfl ?_
          refine lv_bipush (v := 32) hx hb d_law_725 (by decide) ?_
          refine lv_lshl (v := (v112.toInt64) <<< ((32 : Int32).toInt64 &&& 63)) hx hb d_law_727 rfl ?_
          refine lv_aload_n hx hb d_law_728 rfl (lv_at hl 0 rfl) ?_
          refine lv_iload hx hb d_law_729 (lv_at hl 4 rfl) ?_
          refine lv_iconst (v := 2) hx hb d_law_731 (by decide) ?_
          refine lv_iadd hx hb d_law_732 ?_
          obtain ⟨v114, e115, h⟩ := gb h
          refine gw_aldI hx hb hK hI e115 d_law_733 ?_
          refine lv_i2l (v := v114.toInt64) hx hb d_law_734 rfl ?_
          refine lv_ldc2 (v := 4294967295) hx hb hown (hT _ wd_1121 args) d_law_735 ?_
          refine lv_land hx hb d_law_738 ?_
          refine lv_lor hx hb d_law_739 ?_
          refine lv_aload_n hx hb d_law_740 rfl (lv_at hl 0 rfl) ?_
          refine lv_iload hx hb d_law_741 (lv_at hl 4 rfl) ?_
          refine lv_iconst (v := 3) hx hb d_law_743 (by decide) ?_
          refine lv_iadd hx hb d_law_744 ?_
          obtain ⟨v116, e117, h⟩ := gb h
          refine gw_aldI hx hb hK hI e117 d_law_745 ?_
          refine lv_i2l (v := v116.toInt64) hx hb d_law_746 rfl ?_
          refine lv_bipush (v := 32) hx hb d_law_747 (by decide) ?_
          refine lv_lshl (v := (v116.toInt64) <<< ((32 : Int32).toInt64 &&& 63)) hx hb d_law_749 rfl ?_
          refine lv_aload_n hx hb d_law_750 rfl (lv_at hl 0 rfl) ?_
          refine lv_iload hx hb d_law_751 (lv_at hl 4 rfl) ?_
          refine lv_iconst (v := 4) hx hb d_law_753 (by decide) ?_
          refine lv_iadd hx hb d_law_754 ?_
          obtain ⟨v118, e119, h⟩ := gb h
          refine gw_aldI hx hb hK hI e119 d_law_755 ?_
          refine lv_i2l (v := v118.toInt64) hx hb d_law_756 rfl ?_
          refine lv_ldc2 (v := 4294967295) hx hb hown (hT _ wd_1121 args) d_law_757 ?_
          refine lv_land hx hb d_law_760 ?_
          refine lv_lor hx hb d_law_761 ?_
          refine lv_aload_n hx hb d_law_762 rfl (lv_at hl 3 rfl) ?_
          obtain ⟨u120, e121⟩ := gsome h
          refine gw_callI e121 h (gw_runS (As := [.ref o1, .long (((v112.toInt64) <<< ((32 : Int32).toInt64 &&& 63)) ||| ((v114.toInt64) &&& 4294967295)), .long (((v116.toInt64) <<< ((32 : Int32).toInt64 &&& 63)) ||| ((v118.toInt64) &&& 4294967295)), .ref o17]) (rest := []) hx hb hml hown hT hK hZ hA hI (m_W_corner l hst D g0 o1 (((v112.toInt64) <<< ((32 : Int32).toInt64 &&& 63)) ||| ((v114.toInt64) &&& 4294967295)) (((v116.toInt64) <<< ((32 : Int32).toInt64 &&& 63)) ||| ((v118.toInt64) &&& 4294967295)) o17 w u120 e121) ce_W_corner wd_577 ⟨by decide, by decide⟩ rfl rfl hl.1 rfl (lv_room (Nat.le_of_ble_eq_true rfl)) d_law_763 ⟨(show (16015 - (n + 1) * 31) + 2 ≤ 601024 by omega), (show (905842 - (n + 1) * 1745) + 12 ≤ 7293000 by omega)⟩) hI hA hexc (show (16015 - (n + 1) * 31) + 2 ≤ 601024 by omega) (show (905842 - (n + 1) * 1745) + 12 ≤ 7293000 by omega) (fun v122 w H locs h hI => ?_)
          refine W.widen (k := ((16015 - (n + 1) * 31) + 2)) (n := ((905842 - (n + 1) * 1745) + 12)) (show (16015 - (n + 1) * 31) + 2 ≤ ((16015 - (n + 1) * 31) + 2) by omega) (show (905842 - (n + 1) * 1745) + 12 ≤ ((905842 - (n + 1) * 1745) + 12) by omega) ?_
          refine lv_istore (lv' := [(5, .int v122), (0, .ref a0), (1, .ref o1), (2, .ref o9), (3, .ref o17), (4, .int z32)]) hx hb d_law_766 hl (by decide) rfl (fun ls hl => ?_)
          refine lv_aload_n hx hb d_law_768 rfl (lv_at hl 3 rfl) ?_
          refine lv_aload_n hx hb d_law_769 rfl (lv_at hl 1 rfl) ?_
          refine lv_iload hx hb d_law_770 (lv_at hl 5 rfl) ?_
          refine lv_iconst (v := 1) hx hb d_law_772 (by decide) ?_
          refine lv_iadd hx hb d_law_773 ?_
          obtain ⟨v123, e124, h⟩ := gb h
          refine gw_aldI hx hb hK hI e124 d_law_774 ?_
          refine lv_i2l (v := v123.toInt64) hx hb d_law_775 rfl ?_
          refine lv_bipush (v := 32) hx hb d_law_776 (by decide) ?_
          refine lv_lshl (v := (v123.toInt64) <<< ((32 : Int32).toInt64 &&& 63)) hx hb d_law_778 rfl ?_
          refine lv_aload_n hx hb d_law_779 rfl (lv_at hl 1 rfl) ?_
          refine lv_iload hx hb d_law_780 (lv_at hl 5 rfl) ?_
          refine lv_iconst (v := 2) hx hb d_law_782 (by decide) ?_
          refine lv_iadd hx hb d_law_783 ?_
          obtain ⟨v125, e126, h⟩ := gb h
          refine gw_aldI hx hb hK hI e126 d_law_784 ?_
          refine lv_i2l (v := v125.toInt64) hx hb d_law_785 rfl ?_
          refine lv_ldc2 (v := 4294967295) hx hb hown (hT _ wd_1121 args) d_law_786 ?_
          refine lv_land hx hb d_law_789 ?_
          refine lv_lor hx hb d_law_790 ?_
          refine lv_aload_n hx hb d_law_791 rfl (lv_at hl 1 rfl) ?_
          refine lv_iload hx hb d_law_792 (lv_at hl 5 rfl) ?_
          refine lv_iconst (v := 3) hx hb d_law_794 (by decide) ?_
          refine lv_iadd hx hb d_law_795 ?_
          obtain ⟨v127, e128, h⟩ := gb h
          refine gw_aldI hx hb hK hI e128 d_law_796 ?_
          refine lv_i2l (v := v127.toInt64) hx hb d_law_797 rfl ?_
          refine lv_bipush (v := 32) hx hb d_law_798 (by decide) ?_
          refine lv_lshl (v := (v127.toInt64) <<< ((32 : Int32).toInt64 &&& 63)) hx hb d_law_800 rfl ?_
          refine lv_aload_n hx hb d_law_801 rfl (lv_at hl 1 rfl) ?_
          refine lv_iload hx hb d_law_802 (lv_at hl 5 rfl) ?_
          refine lv_iconst (v := 4) hx hb d_law_804 (by decide) ?_
          refine lv_iadd hx hb d_law_805 ?_
          obtain ⟨v129, e130, h⟩ := gb h
          refine gw_aldI hx hb hK hI e130 d_law_806 ?_
          refine lv_i2l (v := v129.toInt64) hx hb d_law_807 rfl ?_
          refine lv_ldc2 (v := 4294967295) hx hb hown (hT _ wd_1121 args) d_law_808 ?_
          refine lv_land hx hb d_law_811 ?_
          refine lv_lor hx hb d_law_812 ?_
          obtain ⟨q133, e134, h⟩ := gb h
          obtain ⟨u131, e132⟩ := gsome h
          refine gw_callI e132 h (gw_runV (As := [.long (((v123.toInt64) <<< ((32 : Int32).toInt64 &&& 63)) ||| ((v125.toInt64) &&& 4294967295)), .long (((v127.toInt64) <<< ((32 : Int32).toInt64 &&& 63)) ||| ((v129.toInt64) &&& 4294967295))]) (rest := []) hx hb hml hown hT hK hZ hA hI (ci := 7) rfl e134 (m_M_corner l hst D g0 o9 (((v123.toInt64) <<< ((32 : Int32).toInt64 &&& 63)) ||| ((v125.toInt64) &&& 4294967295)) (((v127.toInt64) <<< ((32 : Int32).toInt64 &&& 63)) ||| ((v129.toInt64) &&& 4294967295)) w u131 e132) ce_M_corner wd_910 wd_912 ⟨by decide, by decide⟩ rfl rfl hl.1 rfl (lv_room (Nat.le_of_ble_eq_true rfl)) d_law_813 ⟨(show ((16015 - (n + 1) * 31) + 2) + 0 ≤ 601024 by omega), (show ((905842 - (n + 1) * 1745) + 12) + 0 ≤ 7293000 by omega)⟩) hI hA hexc (show ((16015 - (n + 1) * 31) + 2) + 0 ≤ 601024 by omega) (show ((905842 - (n + 1) * 1745) + 12) + 0 ≤ 7293000 by omega) (fun v135 w H locs h hI => ?_)
          refine lv_istore (lv' := [(6, .int v135), (5, .int v122), (0, .ref a0), (1, .ref o1), (2, .ref o9), (3, .ref o17), (4, .int z32)]) hx hb d_law_816 hl (by decide) rfl (fun ls hl => ?_)
          refine lv_goto (tgt := 2104) hx hb d_law_818 (by decide) ?_
          refine W.widen (k := ((16015 - (n + 1) * 31) + 31)) (n := ((905842 - (n + 1) * 1745) + 1745)) (show ((16015 - (n + 1) * 31) + 2) ≤ ((16015 - (n + 1) * 31) + 31) by omega) (show ((905842 - (n + 1) * 1745) + 12) ≤ ((905842 - (n + 1) * 1745) + 1745) by omega) ?_
          exact hK2104 w H locs ls h hI (lv_sub hl [2, 3, 4, 5, 6] rfl)
        have h := gie c111 h
        rcases Decidable.em ((v36 &&& 31) = 4) with c136 | c136
        · have h := git c136 h
          refine lv_tableIn (off := 769) (tgt := 821) hx hb d_law_52 (by rw [c136]; decide) (by rw [c136]; decide) (by rw [c136]; decide) (by decide) ?_
          refine lv_aload_n hx hb d_law_821 rfl (lv_at hl 1 rfl) ?_
          refine lv_aload_n hx hb d_law_822 rfl (lv_at hl 0 rfl) ?_
          refine lv_iload hx hb d_law_823 (lv_at hl 4 rfl) ?_
          refine lv_iconst (v := 1) hx hb d_law_825 (by decide) ?_
          refine lv_iadd hx hb d_law_826 ?_
          obtain ⟨v137, e138, h⟩ := gb h
          refine gw_aldI hx hb hK hI e138 d_law_827 ?_
          refine lv_aload_n hx hb d_law_828 rfl (lv_at hl 0 rfl) ?_
          refine lv_iload hx hb d_law_829 (lv_at hl 4 rfl) ?_
          refine lv_iconst (v := 2) hx hb d_law_831 (by decide) ?_
          refine lv_iadd hx hb d_law_832 ?_
          obtain ⟨v139, e140, h⟩ := gb h
          refine gw_aldI hx hb hK hI e140 d_law_833 ?_
          refine lv_i2l (v := v139.toInt64) hx hb d_law_834 rfl ?_
          refine lv_bipush (v := 32) hx hb d_law_835 (by decide) ?_
          refine lv_lshl (v := (v139.toInt64) <<< ((32 : Int32).toInt64 &&& 63)) hx hb d_law_837 rfl ?_
          refine lv_aload_n hx hb d_law_838 rfl (lv_at hl 0 rfl) ?_
          refine lv_iload hx hb d_law_839 (lv_at hl 4 rfl) ?_
          refine lv_iconst (v := 3) hx hb d_law_841 (by decide) ?_
          refine lv_iadd hx hb d_law_842 ?_
          obtain ⟨v141, e142, h⟩ := gb h
          refine gw_aldI hx hb hK hI e142 d_law_843 ?_
          refine lv_i2l (v := v141.toInt64) hx hb d_law_844 rfl ?_
          refine lv_ldc2 (v := 4294967295) hx hb hown (hT _ wd_1121 args) d_law_845 ?_
          refine lv_land hx hb d_law_848 ?_
          refine lv_lor hx hb d_law_849 ?_
          refine lv_aload_n hx hb d_law_850 rfl (lv_at hl 0 rfl) ?_
          refine lv_iload hx hb d_law_851 (lv_at hl 4 rfl) ?_
          refine lv_iconst (v := 4) hx hb d_law_853 (by decide) ?_
          refine lv_iadd hx hb d_law_854 ?_
          obtain ⟨v143, e144, h⟩ := gb h
          refine gw_aldI hx hb hK hI e144 d_law_855 ?_
          refine lv_i2l (v := v143.toInt64) hx hb d_law_856 rfl ?_
          refine lv_bipush (v := 32) hx hb d_law_857 (by decide) ?_
          refine lv_lshl (v := (v143.toInt64) <<< ((32 : Int32).toInt64 &&& 63)) hx hb d_law_859 rfl ?_
          refine lv_aload_n hx hb d_law_860 rfl (lv_at hl 0 rfl) ?_
          refine lv_iload hx hb d_law_861 (lv_at hl 4 rfl) ?_
          refine lv_iconst (v := 5) hx hb d_law_863 (by decide) ?_
          refine lv_iadd hx hb d_law_864 ?_
          obtain ⟨v145, e146, h⟩ := gb h
          refine gw_aldI hx hb hK hI e146 d_law_865 ?_
          refine lv_i2l (v := v145.toInt64) hx hb d_law_866 rfl ?_
          refine lv_ldc2 (v := 4294967295) hx hb hown (hT _ wd_1121 args) d_law_867 ?_
          refine lv_land hx hb d_law_870 ?_
          refine lv_lor hx hb d_law_871 ?_
          refine lv_aload_n hx hb d_law_872 rfl (lv_at hl 3 rfl) ?_
          obtain ⟨u147, e148⟩ := gsome h
          refine gw_callI e148 h (gw_runS (As := [.ref o1, .int v137, .long (((v139.toInt64) <<< ((32 : Int32).toInt64 &&& 63)) ||| ((v141.toInt64) &&& 4294967295)), .long (((v143.toInt64) <<< ((32 : Int32).toInt64 &&& 63)) ||| ((v145.toInt64) &&& 4294967295)), .ref o17]) (rest := []) hx hb hml hown hT hK hZ hA hI (m_W_prism l hst D g0 o1 v137 (((v139.toInt64) <<< ((32 : Int32).toInt64 &&& 63)) ||| ((v141.toInt64) &&& 4294967295)) (((v143.toInt64) <<< ((32 : Int32).toInt64 &&& 63)) ||| ((v145.toInt64) &&& 4294967295)) o17 w u147 e148) ce_W_prism wd_584 ⟨by decide, by decide⟩ rfl rfl hl.1 rfl (lv_room (Nat.le_of_ble_eq_true rfl)) d_law_873 ⟨(show (16015 - (n + 1) * 31) + 8 ≤ 601024 by omega), (show (905842 - (n + 1) * 1745) + 116 ≤ 7293000 by omega)⟩) hI hA hexc (show (16015 - (n + 1) * 31) + 8 ≤ 601024 by omega) (show (905842 - (n + 1) * 1745) + 116 ≤ 7293000 by omega) (fun v149 w H locs h hI => ?_)
          refine W.widen (k := ((16015 - (n + 1) * 31) + 8)) (n := ((905842 - (n + 1) * 1745) + 116)) (show (16015 - (n + 1) * 31) + 8 ≤ ((16015 - (n + 1) * 31) + 8) by omega) (show (905842 - (n + 1) * 1745) + 116 ≤ ((905842 - (n + 1) * 1745) + 116) by omega) ?_
          refine lv_istore (lv' := [(5, .int v149), (0, .ref a0), (1, .ref o1), (2, .ref o9), (3, .ref o17), (4, .int z32)]) hx hb d_law_876 hl (by decide) rfl (fun ls hl => ?_)
          refine lv_aload_n hx hb d_law_878 rfl (lv_at hl 3 rfl) ?_
          refine lv_aload_n hx hb d_law_879 rfl (lv_at hl 1 rfl) ?_
          refine lv_iload hx hb d_law_880 (lv_at hl 5 rfl) ?_
          refine lv_iconst (v := 1) hx hb d_law_882 (by decide) ?_
          refine lv_iadd hx hb d_law_883 ?_
          obtain ⟨v150, e151, h⟩ := gb h
          refine gw_aldI hx hb hK hI e151 d_law_884 ?_
          refine lv_aload_n hx hb d_law_885 rfl (lv_at hl 1 rfl) ?_
          refine lv_iload hx hb d_law_886 (lv_at hl 5 rfl) ?_
          refine lv_iconst (v := 2) hx hb d_law_888 (by decide) ?_
          refine lv_iadd hx hb d_law_889 ?_
          obtain ⟨v152, e153, h⟩ := gb h
          refine gw_aldI hx hb hK hI e153 d_law_890 ?_
          refine lv_i2l (v := v152.toInt64) hx hb d_law_891 rfl ?_
          refine lv_bipush (v := 32) hx hb d_law_892 (by decide) ?_
          refine lv_lshl (v := (v152.toInt64) <<< ((32 : Int32).toInt64 &&& 63)) hx hb d_law_894 rfl ?_
          refine lv_aload_n hx hb d_law_895 rfl (lv_at hl 1 rfl) ?_
          refine lv_iload hx hb d_law_896 (lv_at hl 5 rfl) ?_
          refine lv_iconst (v := 3) hx hb d_law_898 (by decide) ?_
          refine lv_iadd hx hb d_law_899 ?_
          obtain ⟨v154, e155, h⟩ := gb h
          refine gw_aldI hx hb hK hI e155 d_law_900 ?_
          refine lv_i2l (v := v154.toInt64) hx hb d_law_901 rfl ?_
          refine lv_ldc2 (v := 4294967295) hx hb hown (hT _ wd_1121 args) d_law_902 ?_
          refine lv_land hx hb d_law_905 ?_
          refine lv_lor hx hb d_law_906 ?_
          refine lv_aload_n hx hb d_law_907 rfl (lv_at hl 1 rfl) ?_
          refine lv_iload hx hb d_law_908 (lv_at hl 5 rfl) ?_
          refine lv_iconst (v := 4) hx hb d_law_910 (by decide) ?_
          refine lv_iadd hx hb d_law_911 ?_
          obtain ⟨v156, e157, h⟩ := gb h
          refine gw_aldI hx hb hK hI e157 d_law_912 ?_
          refine lv_i2l (v := v156.toInt64) hx hb d_law_913 rfl ?_
          refine lv_bipush (v := 32) hx hb d_law_914 (by decide) ?_
          refine lv_lshl (v := (v156.toInt64) <<< ((32 : Int32).toInt64 &&& 63)) hx hb d_law_916 rfl ?_
          refine lv_aload_n hx hb d_law_917 rfl (lv_at hl 1 rfl) ?_
          refine lv_iload hx hb d_law_918 (lv_at hl 5 rfl) ?_
          refine lv_iconst (v := 5) hx hb d_law_920 (by decide) ?_
          refine lv_iadd hx hb d_law_921 ?_
          obtain ⟨v158, e159, h⟩ := gb h
          refine gw_aldI hx hb hK hI e159 d_law_922 ?_
          refine lv_i2l (v := v158.toInt64) hx hb d_law_923 rfl ?_
          refine lv_ldc2 (v := 4294967295) hx hb hown (hT _ wd_1121 args) d_law_924 ?_
          refine lv_land hx hb d_law_927 ?_
          refine lv_lor hx hb d_law_928 ?_
          obtain ⟨q162, e163, h⟩ := gb h
          obtain ⟨u160, e161⟩ := gsome h
          refine gw_callI e161 h (gw_runV (As := [.int v150, .long (((v152.toInt64) <<< ((32 : Int32).toInt64 &&& 63)) ||| ((v154.toInt64) &&& 4294967295)), .long (((v156.toInt64) <<< ((32 : Int32).toInt64 &&& 63)) ||| ((v158.toInt64) &&& 4294967295))]) (rest := []) hx hb hml hown hT hK hZ hA hI (ci := 7) rfl e163 (m_M_prism l hst D g0 o9 v150 (((v152.toInt64) <<< ((32 : Int32).toInt64 &&& 63)) ||| ((v154.toInt64) &&& 4294967295)) (((v156.toInt64) <<< ((32 : Int32).toInt64 &&& 63)) ||| ((v158.toInt64) &&& 4294967295)) w u160 e161) ce_M_prism wd_914 wd_916 ⟨by decide, by decide⟩ rfl rfl hl.1 rfl (lv_room (Nat.le_of_ble_eq_true rfl)) d_law_929 ⟨(show ((16015 - (n + 1) * 31) + 8) + 0 ≤ 601024 by omega), (show ((905842 - (n + 1) * 1745) + 116) + 0 ≤ 7293000 by omega)⟩) hI hA hexc (show ((16015 - (n + 1) * 31) + 8) + 0 ≤ 601024 by omega) (show ((905842 - (n + 1) * 1745) + 116) + 0 ≤ 7293000 by omega) (fun v164 w H locs h hI => ?_)
          refine lv_istore (lv' := [(6, .int v164), (5, .int v149), (0, .ref a0), (1, .ref o1), (2, .ref o9), (3, .ref o17), (4, .int z32)]) hx hb d_law_932 hl (by decide) rfl (fun ls hl => ?_)
          refine lv_goto (tgt := 2104) hx hb d_law_934 (by decide) ?_
          refine W.widen (k := ((16015 - (n + 1) * 31) + 31)) (n := ((905842 - (n + 1) * 1745) + 1745)) (show ((16015 - (n + 1) * 31) + 8) ≤ ((16015 - (n + 1) * 31) + 31) by omega) (show ((905842 - (n + 1) * 1745) + 116) ≤ ((905842 - (n + 1) * 1745) + 1745) by omega) ?_
          exact hK2104 w H locs ls h hI (lv_sub hl [2, 3, 4, 5, 6] rfl)
        have h := gie c136 h
        rcases Decidable.em ((v36 &&& 31) = 5) with c165 | c165
        · have h := git c165 h
          refine lv_tableIn (off := 885) (tgt := 937) hx hb d_law_52 (by rw [c165]; decide) (by rw [c165]; decide) (by rw [c165]; decide) (by decide) ?_
          refine lv_aload_n hx hb d_law_937 rfl (lv_at hl 1 rfl) ?_
          refine lv_aload_n hx hb d_law_938 rfl (lv_at hl 0 rfl) ?_
          refine lv_iload hx hb d_law_939 (lv_at hl 4 rfl) ?_
          refine lv_iconst (v := 1) hx hb d_law_941 (by decide) ?_
          refine lv_iadd hx hb d_law_942 ?_
          obtain ⟨v166, e167, h⟩ := gb h
          refine gw_aldI hx hb hK hI e167 d_law_943 ?_
          refine lv_aload_n hx hb d_law_944 rfl (lv_at hl 0 rfl) ?_
          refine lv_iload hx hb d_law_945 (lv_at hl 4 rfl) ?_
          refine lv_iconst (v := 2) hx hb d_law_947 (by decide) ?_
          refine lv_iadd hx hb d_law_948 ?_
          obtain ⟨v168, e169, h⟩ := gb h
          refine gw_aldI hx hb hK hI e169 d_law_949 ?_
          refine lv_i2l (v := v168.toInt64) hx hb d_law_950 rfl ?_
          refine lv_bipush (v := 32) hx hb d_law_951 (by decide) ?_
          refine lv_lshl (v := (v168.toInt64) <<< ((32 : Int32).toInt64 &&& 63)) hx hb d_law_953 rfl ?_
          refine lv_aload_n hx hb d_law_954 rfl (lv_at hl 0 rfl) ?_
          refine lv_iload hx hb d_law_955 (lv_at hl 4 rfl) ?_
          refine lv_iconst (v := 3) hx hb d_law_957 (by decide) ?_
          refine lv_iadd hx hb d_law_958 ?_
          obtain ⟨v170, e171, h⟩ := gb h
          refine gw_aldI hx hb hK hI e171 d_law_959 ?_
          refine lv_i2l (v := v170.toInt64) hx hb d_law_960 rfl ?_
          refine lv_ldc2 (v := 4294967295) hx hb hown (hT _ wd_1121 args) d_law_961 ?_
          refine lv_land hx hb d_law_964 ?_
          refine lv_lor hx hb d_law_965 ?_
          refine lv_aload_n hx hb d_law_966 rfl (lv_at hl 0 rfl) ?_
          refine lv_iload hx hb d_law_967 (lv_at hl 4 rfl) ?_
          refine lv_iconst (v := 4) hx hb d_law_969 (by decide) ?_
          refine lv_iadd hx hb d_law_970 ?_
          obtain ⟨v172, e173, h⟩ := gb h
          refine gw_aldI hx hb hK hI e173 d_law_971 ?_
          refine lv_i2l (v := v172.toInt64) hx hb d_law_972 rfl ?_
          refine lv_bipush (v := 32) hx hb d_law_973 (by decide) ?_
          refine lv_lshl (v := (v172.toInt64) <<< ((32 : Int32).toInt64 &&& 63)) hx hb d_law_975 rfl ?_
          refine lv_aload_n hx hb d_law_976 rfl (lv_at hl 0 rfl) ?_
          refine lv_iload hx hb d_law_977 (lv_at hl 4 rfl) ?_
          refine lv_iconst (v := 5) hx hb d_law_979 (by decide) ?_
          refine lv_iadd hx hb d_law_980 ?_
          obtain ⟨v174, e175, h⟩ := gb h
          refine gw_aldI hx hb hK hI e175 d_law_981 ?_
          refine lv_i2l (v := v174.toInt64) hx hb d_law_982 rfl ?_
          refine lv_ldc2 (v := 4294967295) hx hb hown (hT _ wd_1121 args) d_law_983 ?_
          refine lv_land hx hb d_law_986 ?_
          refine lv_lor hx hb d_law_987 ?_
          refine lv_aload_n hx hb d_law_988 rfl (lv_at hl 0 rfl) ?_
          refine lv_iload hx hb d_law_989 (lv_at hl 4 rfl) ?_
          refine lv_bipush (v := 6) hx hb d_law_991 (by decide) ?_
          refine lv_iadd hx hb d_law_993 ?_
          obtain ⟨v176, e177, h⟩ := gb h
          refine gw_aldI hx hb hK hI e177 d_law_994 ?_
          refine lv_i2l (v := v176.toInt64) hx hb d_law_995 rfl ?_
          refine lv_bipush (v := 32) hx hb d_law_996 (by decide) ?_
          refine lv_lshl (v := (v176.toInt64) <<< ((32 : Int32).toInt64 &&& 63)) hx hb d_law_998 rfl ?_
          refine lv_aload_n hx hb d_law_999 rfl (lv_at hl 0 rfl) ?_
          refine lv_iload hx hb d_law_1000 (lv_at hl 4 rfl) ?_
          refine lv_bipush (v := 7) hx hb d_law_1002 (by decide) ?_
          refine lv_iadd hx hb d_law_1004 ?_
          obtain ⟨v178, e179, h⟩ := gb h
          refine gw_aldI hx hb hK hI e179 d_law_1005 ?_
          refine lv_i2l (v := v178.toInt64) hx hb d_law_1006 rfl ?_
          refine lv_ldc2 (v := 4294967295) hx hb hown (hT _ wd_1121 args) d_law_1007 ?_
          refine lv_land hx hb d_law_1010 ?_
          refine lv_lor hx hb d_law_1011 ?_
          refine lv_aload_n hx hb d_law_1012 rfl (lv_at hl 0 rfl) ?_
          refine lv_iload hx hb d_law_1013 (lv_at hl 4 rfl) ?_
          refine lv_bipush (v := 8) hx hb d_law_1015 (by decide) ?_
          refine lv_iadd hx hb d_law_1017 ?_
          obtain ⟨v180, e181, h⟩ := gb h
          refine gw_aldI hx hb hK hI e181 d_law_1018 ?_
          refine lv_i2l (v := v180.toInt64) hx hb d_law_1019 rfl ?_
          refine lv_bipush (v := 32) hx hb d_law_1020 (by decide) ?_
          refine lv_lshl (v := (v180.toInt64) <<< ((32 : Int32).toInt64 &&& 63)) hx hb d_law_1022 rfl ?_
          refine lv_aload_n hx hb d_law_1023 rfl (lv_at hl 0 rfl) ?_
          refine lv_iload hx hb d_law_1024 (lv_at hl 4 rfl) ?_
          refine lv_bipush (v := 9) hx hb d_law_1026 (by decide) ?_
          refine lv_iadd hx hb d_law_1028 ?_
          obtain ⟨v182, e183, h⟩ := gb h
          refine gw_aldI hx hb hK hI e183 d_law_1029 ?_
          refine lv_i2l (v := v182.toInt64) hx hb d_law_1030 rfl ?_
          refine lv_ldc2 (v := 4294967295) hx hb hown (hT _ wd_1121 args) d_law_1031 ?_
          refine lv_land hx hb d_law_1034 ?_
          refine lv_lor hx hb d_law_1035 ?_
          refine lv_aload_n hx hb d_law_1036 rfl (lv_at hl 0 rfl) ?_
          refine lv_iload hx hb d_law_1037 (lv_at hl 4 rfl) ?_
          refine lv_bipush (v := 10) hx hb d_law_1039 (by decide) ?_
          refine lv_iadd hx hb d_law_1041 ?_
          obtain ⟨v184, e185, h⟩ := gb h
          refine gw_aldI hx hb hK hI e185 d_law_1042 ?_
          refine lv_aload_n hx hb d_law_1043 rfl (lv_at hl 0 rfl) ?_
          refine lv_iload hx hb d_law_1044 (lv_at hl 4 rfl) ?_
          refine lv_bipush (v := 11) hx hb d_law_1046 (by decide) ?_
          refine lv_iadd hx hb d_law_1048 ?_
          obtain ⟨v186, e187, h⟩ := gb h
          refine gw_aldI hx hb hK hI e187 d_law_1049 ?_
          refine lv_i2l (v := v186.toInt64) hx hb d_law_1050 rfl ?_
          refine lv_bipush (v := 32) hx hb d_law_1051 (by decide) ?_
          refine lv_lshl (v := (v186.toInt64) <<< ((32 : Int32).toInt64 &&& 63)) hx hb d_law_1053 rfl ?_
          refine lv_aload_n hx hb d_law_1054 rfl (lv_at hl 0 rfl) ?_
          refine lv_iload hx hb d_law_1055 (lv_at hl 4 rfl) ?_
          refine lv_bipush (v := 12) hx hb d_law_1057 (by decide) ?_
          refine lv_iadd hx hb d_law_1059 ?_
          obtain ⟨v188, e189, h⟩ := gb h
          refine gw_aldI hx hb hK hI e189 d_law_1060 ?_
          refine lv_i2l (v := v188.toInt64) hx hb d_law_1061 rfl ?_
          refine lv_ldc2 (v := 4294967295) hx hb hown (hT _ wd_1121 args) d_law_1062 ?_
          refine lv_land hx hb d_law_1065 ?_
          refine lv_lor hx hb d_law_1066 ?_
          refine lv_aload_n hx hb d_law_1067 rfl (lv_at hl 3 rfl) ?_
          obtain ⟨u190, e191⟩ := gsome h
          refine gw_callI e191 h (gw_runS (As := [.ref o1, .int v166, .long (((v168.toInt64) <<< ((32 : Int32).toInt64 &&& 63)) ||| ((v170.toInt64) &&& 4294967295)), .long (((v172.toInt64) <<< ((32 : Int32).toInt64 &&& 63)) ||| ((v174.toInt64) &&& 4294967295)), .long (((v176.toInt64) <<< ((32 : Int32).toInt64 &&& 63)) ||| ((v178.toInt64) &&& 4294967295)), .long (((v180.toInt64) <<< ((32 : Int32).toInt64 &&& 63)) ||| ((v182.toInt64) &&& 4294967295)), .int v184, .long (((v186.toInt64) <<< ((32 : Int32).toInt64 &&& 63)) ||| ((v188.toInt64) &&& 4294967295)), .ref o17]) (rest := []) hx hb hml hown hT hK hZ hA hI (m_W_tube l hst D g0 o1 v166 (((v168.toInt64) <<< ((32 : Int32).toInt64 &&& 63)) ||| ((v170.toInt64) &&& 4294967295)) (((v172.toInt64) <<< ((32 : Int32).toInt64 &&& 63)) ||| ((v174.toInt64) &&& 4294967295)) (((v176.toInt64) <<< ((32 : Int32).toInt64 &&& 63)) ||| ((v178.toInt64) &&& 4294967295)) (((v180.toInt64) <<< ((32 : Int32).toInt64 &&& 63)) ||| ((v182.toInt64) &&& 4294967295)) v184 (((v186.toInt64) <<< ((32 : Int32).toInt64 &&& 63)) ||| ((v188.toInt64) &&& 4294967295)) o17 w u190 e191) ce_W_tube wd_608 ⟨by decide, by decide⟩ rfl rfl hl.1 rfl (lv_room (Nat.le_of_ble_eq_true rfl)) d_law_1068 ⟨(show (16015 - (n + 1) * 31) + 14 ≤ 601024 by omega), (show (905842 - (n + 1) * 1745) + 152 ≤ 7293000 by omega)⟩) hI hA hexc (show (16015 - (n + 1) * 31) + 14 ≤ 601024 by omega) (show (905842 - (n + 1) * 1745) + 152 ≤ 7293000 by omega) (fun v192 w H locs h hI => ?_)
          refine W.widen (k := ((16015 - (n + 1) * 31) + 14)) (n := ((905842 - (n + 1) * 1745) + 152)) (show (16015 - (n + 1) * 31) + 14 ≤ ((16015 - (n + 1) * 31) + 14) by omega) (show (905842 - (n + 1) * 1745) + 152 ≤ ((905842 - (n + 1) * 1745) + 152) by omega) ?_
          refine lv_istore (lv' := [(5, .int v192), (0, .ref a0), (1, .ref o1), (2, .ref o9), (3, .ref o17), (4, .int z32)]) hx hb d_law_1071 hl (by decide) rfl (fun ls hl => ?_)
          refine lv_aload_n hx hb d_law_1073 rfl (lv_at hl 3 rfl) ?_
          refine lv_aload_n hx hb d_law_1074 rfl (lv_at hl 1 rfl) ?_
          refine lv_iload hx hb d_law_1075 (lv_at hl 5 rfl) ?_
          refine lv_iconst (v := 1) hx hb d_law_1077 (by decide) ?_
          refine lv_iadd hx hb d_law_1078 ?_
          obtain ⟨v193, e194, h⟩ := gb h
          refine gw_aldI hx hb hK hI e194 d_law_1079 ?_
          refine lv_aload_n hx hb d_law_1080 rfl (lv_at hl 1 rfl) ?_
          refine lv_iload hx hb d_law_1081 (lv_at hl 5 rfl) ?_
          refine lv_iconst (v := 2) hx hb d_law_1083 (by decide) ?_
          refine lv_iadd hx hb d_law_1084 ?_
          obtain ⟨v195, e196, h⟩ := gb h
          refine gw_aldI hx hb hK hI e196 d_law_1085 ?_
          refine lv_i2l (v := v195.toInt64) hx hb d_law_1086 rfl ?_
          refine lv_bipush (v := 32) hx hb d_law_1087 (by decide) ?_
          refine lv_lshl (v := (v195.toInt64) <<< ((32 : Int32).toInt64 &&& 63)) hx hb d_law_1089 rfl ?_
          refine lv_aload_n hx hb d_law_1090 rfl (lv_at hl 1 rfl) ?_
          refine lv_iload hx hb d_law_1091 (lv_at hl 5 rfl) ?_
          refine lv_iconst (v := 3) hx hb d_law_1093 (by decide) ?_
          refine lv_iadd hx hb d_law_1094 ?_
          obtain ⟨v197, e198, h⟩ := gb h
          refine gw_aldI hx hb hK hI e198 d_law_1095 ?_
          refine lv_i2l (v := v197.toInt64) hx hb d_law_1096 rfl ?_
          refine lv_ldc2 (v := 4294967295) hx hb hown (hT _ wd_1121 args) d_law_1097 ?_
          refine lv_land hx hb d_law_1100 ?_
          refine lv_lor hx hb d_law_1101 ?_
          refine lv_aload_n hx hb d_law_1102 rfl (lv_at hl 1 rfl) ?_
          refine lv_iload hx hb d_law_1103 (lv_at hl 5 rfl) ?_
          refine lv_iconst (v := 4) hx hb d_law_1105 (by decide) ?_
          refine lv_iadd hx hb d_law_1106 ?_
          obtain ⟨v199, e200, h⟩ := gb h
          refine gw_aldI hx hb hK hI e200 d_law_1107 ?_
          refine lv_i2l (v := v199.toInt64) hx hb d_law_1108 rfl ?_
          refine lv_bipush (v := 32) hx hb d_law_1109 (by decide) ?_
          refine lv_lshl (v := (v199.toInt64) <<< ((32 : Int32).toInt64 &&& 63)) hx hb d_law_1111 rfl ?_
          refine lv_aload_n hx hb d_law_1112 rfl (lv_at hl 1 rfl) ?_
          refine lv_iload hx hb d_law_1113 (lv_at hl 5 rfl) ?_
          refine lv_iconst (v := 5) hx hb d_law_1115 (by decide) ?_
          refine lv_iadd hx hb d_law_1116 ?_
          obtain ⟨v201, e202, h⟩ := gb h
          refine gw_aldI hx hb hK hI e202 d_law_1117 ?_
          refine lv_i2l (v := v201.toInt64) hx hb d_law_1118 rfl ?_
          refine lv_ldc2 (v := 4294967295) hx hb hown (hT _ wd_1121 args) d_law_1119 ?_
          refine lv_land hx hb d_law_1122 ?_
          refine lv_lor hx hb d_law_1123 ?_
          refine lv_aload_n hx hb d_law_1124 rfl (lv_at hl 1 rfl) ?_
          refine lv_iload hx hb d_law_1125 (lv_at hl 5 rfl) ?_
          refine lv_bipush (v := 6) hx hb d_law_1127 (by decide) ?_
          refine lv_iadd hx hb d_law_1129 ?_
          obtain ⟨v203, e204, h⟩ := gb h
          refine gw_aldI hx hb hK hI e204 d_law_1130 ?_
          refine lv_i2l (v := v203.toInt64) hx hb d_law_1131 rfl ?_
          refine lv_bipush (v := 32) hx hb d_law_1132 (by decide) ?_
          refine lv_lshl (v := (v203.toInt64) <<< ((32 : Int32).toInt64 &&& 63)) hx hb d_law_1134 rfl ?_
          refine lv_aload_n hx hb d_law_1135 rfl (lv_at hl 1 rfl) ?_
          refine lv_iload hx hb d_law_1136 (lv_at hl 5 rfl) ?_
          refine lv_bipush (v := 7) hx hb d_law_1138 (by decide) ?_
          refine lv_iadd hx hb d_law_1140 ?_
          obtain ⟨v205, e206, h⟩ := gb h
          refine gw_aldI hx hb hK hI e206 d_law_1141 ?_
          refine lv_i2l (v := v205.toInt64) hx hb d_law_1142 rfl ?_
          refine lv_ldc2 (v := 4294967295) hx hb hown (hT _ wd_1121 args) d_law_1143 ?_
          refine lv_land hx hb d_law_1146 ?_
          refine lv_lor hx hb d_law_1147 ?_
          refine lv_aload_n hx hb d_law_1148 rfl (lv_at hl 1 rfl) ?_
          refine lv_iload hx hb d_law_1149 (lv_at hl 5 rfl) ?_
          refine lv_bipush (v := 8) hx hb d_law_1151 (by decide) ?_
          refine lv_iadd hx hb d_law_1153 ?_
          obtain ⟨v207, e208, h⟩ := gb h
          refine gw_aldI hx hb hK hI e208 d_law_1154 ?_
          refine lv_i2l (v := v207.toInt64) hx hb d_law_1155 rfl ?_
          refine lv_bipush (v := 32) hx hb d_law_1156 (by decide) ?_
          refine lv_lshl (v := (v207.toInt64) <<< ((32 : Int32).toInt64 &&& 63)) hx hb d_law_1158 rfl ?_
          refine lv_aload_n hx hb d_law_1159 rfl (lv_at hl 1 rfl) ?_
          refine lv_iload hx hb d_law_1160 (lv_at hl 5 rfl) ?_
          refine lv_bipush (v := 9) hx hb d_law_1162 (by decide) ?_
          refine lv_iadd hx hb d_law_1164 ?_
          obtain ⟨v209, e210, h⟩ := gb h
          refine gw_aldI hx hb hK hI e210 d_law_1165 ?_
          refine lv_i2l (v := v209.toInt64) hx hb d_law_1166 rfl ?_
          refine lv_ldc2 (v := 4294967295) hx hb hown (hT _ wd_1121 args) d_law_1167 ?_
          refine lv_land hx hb d_law_1170 ?_
          refine lv_lor hx hb d_law_1171 ?_
          refine lv_aload_n hx hb d_law_1172 rfl (lv_at hl 1 rfl) ?_
          refine lv_iload hx hb d_law_1173 (lv_at hl 5 rfl) ?_
          refine lv_bipush (v := 10) hx hb d_law_1175 (by decide) ?_
          refine lv_iadd hx hb d_law_1177 ?_
          obtain ⟨v211, e212, h⟩ := gb h
          refine gw_aldI hx hb hK hI e212 d_law_1178 ?_
          refine lv_aload_n hx hb d_law_1179 rfl (lv_at hl 1 rfl) ?_
          refine lv_iload hx hb d_law_1180 (lv_at hl 5 rfl) ?_
          refine lv_bipush (v := 11) hx hb d_law_1182 (by decide) ?_
          refine lv_iadd hx hb d_law_1184 ?_
          obtain ⟨v213, e214, h⟩ := gb h
          refine gw_aldI hx hb hK hI e214 d_law_1185 ?_
          refine lv_i2l (v := v213.toInt64) hx hb d_law_1186 rfl ?_
          refine lv_bipush (v := 32) hx hb d_law_1187 (by decide) ?_
          refine lv_lshl (v := (v213.toInt64) <<< ((32 : Int32).toInt64 &&& 63)) hx hb d_law_1189 rfl ?_
          refine lv_aload_n hx hb d_law_1190 rfl (lv_at hl 1 rfl) ?_
          refine lv_iload hx hb d_law_1191 (lv_at hl 5 rfl) ?_
          refine lv_bipush (v := 12) hx hb d_law_1193 (by decide) ?_
          refine lv_iadd hx hb d_law_1195 ?_
          obtain ⟨v215, e216, h⟩ := gb h
          refine gw_aldI hx hb hK hI e216 d_law_1196 ?_
          refine lv_i2l (v := v215.toInt64) hx hb d_law_1197 rfl ?_
          refine lv_ldc2 (v := 4294967295) hx hb hown (hT _ wd_1121 args) d_law_1198 ?_
          refine lv_land hx hb d_law_1201 ?_
          refine lv_lor hx hb d_law_1202 ?_
          obtain ⟨q219, e220, h⟩ := gb h
          obtain ⟨u217, e218⟩ := gsome h
          refine gw_callI e218 h (gw_runV (As := [.int v193, .long (((v195.toInt64) <<< ((32 : Int32).toInt64 &&& 63)) ||| ((v197.toInt64) &&& 4294967295)), .long (((v199.toInt64) <<< ((32 : Int32).toInt64 &&& 63)) ||| ((v201.toInt64) &&& 4294967295)), .long (((v203.toInt64) <<< ((32 : Int32).toInt64 &&& 63)) ||| ((v205.toInt64) &&& 4294967295)), .long (((v207.toInt64) <<< ((32 : Int32).toInt64 &&& 63)) ||| ((v209.toInt64) &&& 4294967295)), .int v211, .long (((v213.toInt64) <<< ((32 : Int32).toInt64 &&& 63)) ||| ((v215.toInt64) &&& 4294967295))]) (rest := []) hx hb hml hown hT hK hZ hA hI (ci := 7) rfl e220 (m_M_tube l hst D g0 o9 v193 (((v195.toInt64) <<< ((32 : Int32).toInt64 &&& 63)) ||| ((v197.toInt64) &&& 4294967295)) (((v199.toInt64) <<< ((32 : Int32).toInt64 &&& 63)) ||| ((v201.toInt64) &&& 4294967295)) (((v203.toInt64) <<< ((32 : Int32).toInt64 &&& 63)) ||| ((v205.toInt64) &&& 4294967295)) (((v207.toInt64) <<< ((32 : Int32).toInt64 &&& 63)) ||| ((v209.toInt64) &&& 4294967295)) v211 (((v213.toInt64) <<< ((32 : Int32).toInt64 &&& 63)) ||| ((v215.toInt64) &&& 4294967295)) w u217 e218) ce_M_tube wd_925 wd_927 ⟨by decide, by decide⟩ rfl rfl hl.1 rfl (lv_room (Nat.le_of_ble_eq_true rfl)) d_law_1203 ⟨(show ((16015 - (n + 1) * 31) + 14) + 0 ≤ 601024 by omega), (show ((905842 - (n + 1) * 1745) + 152) + 0 ≤ 7293000 by omega)⟩) hI hA hexc (show ((16015 - (n + 1) * 31) + 14) + 0 ≤ 601024 by omega) (show ((905842 - (n + 1) * 1745) + 152) + 0 ≤ 7293000 by omega) (fun v221 w H locs h hI => ?_)
          refine lv_istore (lv' := [(6, .int v221), (5, .int v192), (0, .ref a0), (1, .ref o1), (2, .ref o9), (3, .ref o17), (4, .int z32)]) hx hb d_law_1206 hl (by decide) rfl (fun ls hl => ?_)
          refine lv_aload_n hx hb d_law_1208 rfl (lv_at hl 4 rfl) ?_
          obtain ⟨q224, e225, h⟩ := gb h
          obtain ⟨u222, e223⟩ := gsome h
          refine gw_callI e223 h (gw_runV (As := []) (rest := []) hx hb hml hown hT hK hZ hA hI (ci := 7) rfl e225 (m_M_thrown l hst D g0 o9 w u222 e223) ce_M_thrown wd_868 wd_870 ⟨by decide, by decide⟩ rfl rfl hl.1 rfl (lv_room (Nat.le_of_ble_eq_true rfl)) d_law_1209 ⟨(show ((16015 - (n + 1) * 31) + 14) + 0 ≤ 601024 by omega), (show ((905842 - (n + 1) * 1745) + 152) + 0 ≤ 7293000 by omega)⟩) hI hA hexc (show ((16015 - (n + 1) * 31) + 14) + 0 ≤ 601024 by omega) (show ((905842 - (n + 1) * 1745) + 152) + 0 ≤ 7293000 by omega) (fun v226 w H locs h hI => ?_)
          refine lv_iload hx hb d_law_1212 (lv_at hl 1 rfl) ?_
          refine lv_icmp_eq (tgt := 1219) hx hb d_law_1214 (by decide) (fun c227 => ?_) (fun c227 => ?_)
          · skip
            have h := git c227 h
            refine lv_iload hx hb d_law_1219 (lv_at hl 1 rfl) ?_
            obtain ⟨K1243, eK1243, h⟩ := gj h
            have hK1243 : ∀ (w : gW) (H : Heap) (locs : List Loc) (ls : Array Slot), K1243 w = some r → gI D s A w H locs → lv_has ls 8 [(0, .ref a0), (1, .ref o1), (2, .ref o9), (3, .ref o17), (4, .int z32)] → W p l e rm_law s m args below meth c H locs ((16015 - (n + 1) * 31) + 14) ((905842 - (n + 1) * 1745) + 152) Q (F0 m 1243 ls []) := by
              intro w H locs ls h hI hl
              have h := gk1 eK1243 h
              refine lv_goto (tgt := 2104) hx hb d_law_1243 (by decide) ?_
              refine W.widen (k := ((16015 - (n + 1) * 31) + 31)) (n := ((905842 - (n + 1) * 1745) + 1745)) (show ((16015 - (n + 1) * 31) + 14) ≤ ((16015 - (n + 1) * 31) + 31) by omega) (show ((905842 - (n + 1) * 1745) + 152) ≤ ((905842 - (n + 1) * 1745) + 1745) by omega) ?_
              exact hK2104 w H locs ls h hI (lv_sub hl [0, 1, 2, 3, 4] rfl)
            refine lv_if_ne (tgt := 1243) hx hb d_law_1221 (by decide) (fun c228 => ?_) (fun c228 => ?_)
            · skip
              have h := gie c228 h
              exact hK1243 w H locs ls h hI (lv_sub hl [2, 3, 4, 5, 6] rfl)
            · skip
              have h := git c228 h
              refine lv_aload_n hx hb d_law_1224 rfl (lv_at hl 5 rfl) ?_
              refine lv_iconst (v := 0) hx hb d_law_1225 (by decide) ?_
              obtain ⟨v229, e230, h⟩ := gb h
              refine gw_aldJ hx hb hK hI e230 d_law_1226 ?_
              refine lv_iload hx hb d_law_1227 (lv_at hl 0 rfl) ?_
              obtain ⟨K1237, eK1237, h⟩ := gj h
              have hK1237 : ∀ (y231 : Int64) (w : gW) (H : Heap) (locs : List Loc) (ls : Array Slot), K1237 y231 w = some r → gI D s A w H locs → lv_has ls 8 [(0, .ref a0), (1, .ref o1), (2, .ref o9), (3, .ref o17), (4, .int z32)] → W p l e rm_law s m args below meth c H locs ((16015 - (n + 1) * 31) + 14) ((905842 - (n + 1) * 1745) + 152) Q (F0 m 1237 ls [.long y231, .long v229]) := by
                intro y231 w H locs ls h hI hl
                have h := gk2 eK1237 h
                refine W.lcmp hx hb d_law_1237 ?_
                refine lv_if_eq (tgt := 1243) hx hb d_law_1238 (by decide) (fun c232 => ?_) (fun c232 => ?_)
                · have c232 := (lg_cmp_eq _ _).mp c232
                  have h := git c232 h
                  exact hK1243 w H locs ls h hI (lv_sub hl [0, 1, 2, 3, 4] rfl)
                · have c232 := mt (lg_cmp_eq _ _).mpr c232
                  have h := gie c232 h
                  refine W.widen (k := 16015) (n := 905842) (show ((16015 - (n + 1) * 31) + 14) ≤ 16015 by omega) (show ((905842 - (n + 1) * 1745) + 152) ≤ 905842 by omega) ?_
                  exact hK1241 w H locs ls h hI (lv_sub hl [] rfl)
              refine lv_if_eq (tgt := 1236) hx hb d_law_1229 (by decide) (fun c233 => ?_) (fun c233 => ?_)
              · skip
                have h := git c233 h
                refine lv_lconst (v := 0) hx hb d_law_1236 (by decide) ?_
                exact hK1237 _ w H locs ls h hI (lv_sub hl [2, 3, 4, 5, 6] rfl)
              · skip
                have h := gie c233 h
                refine lv_lconst (v := 1) hx hb d_law_1232 (by decide) ?_
                refine lv_goto (tgt := 1237) hx hb d_law_1233 (by decide) ?_
                exact hK1237 _ w H locs ls h hI (lv_sub hl [2, 3, 4, 5, 6] rfl)
          · skip
            have h := gie c227 h
            refine W.widen (k := 16015) (n := 905842) (show ((16015 - (n + 1) * 31) + 14) ≤ 16015 by omega) (show ((905842 - (n + 1) * 1745) + 152) ≤ 905842 by omega) ?_
            exact hK1217 w H locs ls h hI (lv_sub hl [] rfl)
        have h := gie c165 h
        rcases Decidable.em ((v36 &&& 31) = 6) with c234 | c234
        · have h := git c234 h
          refine lv_tableIn (off := 1194) (tgt := 1246) hx hb d_law_52 (by rw [c234]; decide) (by rw [c234]; decide) (by rw [c234]; decide) (by decide) ?_
          refine lv_aload_n hx hb d_law_1246 rfl (lv_at hl 1 rfl) ?_
          refine lv_aload_n hx hb d_law_1247 rfl (lv_at hl 0 rfl) ?_
          refine lv_iload hx hb d_law_1248 (lv_at hl 4 rfl) ?_
          refine lv_iconst (v := 1) hx hb d_law_1250 (by decide) ?_
          refine lv_iadd hx hb d_law_1251 ?_
          obtain ⟨v235, e236, h⟩ := gb h
          refine gw_aldI hx hb hK hI e236 d_law_1252 ?_
          refine lv_aload_n hx hb d_law_1253 rfl (lv_at hl 0 rfl) ?_
          refine lv_iload hx hb d_law_1254 (lv_at hl 4 rfl) ?_
          refine lv_iconst (v := 2) hx hb d_law_1256 (by decide) ?_
          refine lv_iadd hx hb d_law_1257 ?_
          obtain ⟨v237, e238, h⟩ := gb h
          refine gw_aldI hx hb hK hI e238 d_law_1258 ?_
          refine lv_aload_n hx hb d_law_1259 rfl (lv_at hl 3 rfl) ?_
          obtain ⟨u239, e240⟩ := gsome h
          refine gw_callI e240 h (gw_runS (As := [.ref o1, .int v235, .int v237, .ref o17]) (rest := []) hx hb hml hown hT hK hZ hA hI (m_W_join l hst D g0 o1 v235 v237 o17 w u239 e240) ce_W_join wd_622 ⟨by decide, by decide⟩ rfl rfl hl.1 rfl (lv_room (Nat.le_of_ble_eq_true rfl)) d_law_1260 ⟨(show (16015 - (n + 1) * 31) + 31 ≤ 601024 by omega), (show (905842 - (n + 1) * 1745) + 1745 ≤ 7293000 by omega)⟩) hI hA hexc (show (16015 - (n + 1) * 31) + 31 ≤ 601024 by omega) (show (905842 - (n + 1) * 1745) + 1745 ≤ 7293000 by omega) (fun v241 w H locs h hI => ?_)
          refine W.widen (k := ((16015 - (n + 1) * 31) + 31)) (n := ((905842 - (n + 1) * 1745) + 1745)) (show (16015 - (n + 1) * 31) + 31 ≤ ((16015 - (n + 1) * 31) + 31) by omega) (show (905842 - (n + 1) * 1745) + 1745 ≤ ((905842 - (n + 1) * 1745) + 1745) by omega) ?_
          refine lv_istore (lv' := [(5, .int v241), (0, .ref a0), (1, .ref o1), (2, .ref o9), (3, .ref o17), (4, .int z32)]) hx hb d_law_1263 hl (by decide) rfl (fun ls hl => ?_)
          refine lv_aload_n hx hb d_law_1265 rfl (lv_at hl 3 rfl) ?_
          refine lv_aload_n hx hb d_law_1266 rfl (lv_at hl 1 rfl) ?_
          refine lv_iload hx hb d_law_1267 (lv_at hl 5 rfl) ?_
          refine lv_iconst (v := 1) hx hb d_law_1269 (by decide) ?_
          refine lv_iadd hx hb d_law_1270 ?_
          obtain ⟨v242, e243, h⟩ := gb h
          refine gw_aldI hx hb hK hI e243 d_law_1271 ?_
          refine lv_aload_n hx hb d_law_1272 rfl (lv_at hl 1 rfl) ?_
          refine lv_iload hx hb d_law_1273 (lv_at hl 5 rfl) ?_
          refine lv_iconst (v := 2) hx hb d_law_1275 (by decide) ?_
          refine lv_iadd hx hb d_law_1276 ?_
          obtain ⟨v244, e245, h⟩ := gb h
          refine gw_aldI hx hb hK hI e245 d_law_1277 ?_
          obtain ⟨q248, e249, h⟩ := gb h
          obtain ⟨u246, e247⟩ := gsome h
          refine gw_callI e247 h (gw_runV (As := [.int v242, .int v244]) (rest := []) hx hb hml hown hT hK hZ hA hI (ci := 7) rfl e249 (m_M_join l hst D g0 o9 v242 v244 w u246 e247) ce_M_join wd_932 wd_934 ⟨by decide, by decide⟩ rfl rfl hl.1 rfl (lv_room (Nat.le_of_ble_eq_true rfl)) d_law_1278 ⟨(show ((16015 - (n + 1) * 31) + 31) + 0 ≤ 601024 by omega), (show ((905842 - (n + 1) * 1745) + 1745) + 0 ≤ 7293000 by omega)⟩) hI hA hexc (show ((16015 - (n + 1) * 31) + 31) + 0 ≤ 601024 by omega) (show ((905842 - (n + 1) * 1745) + 1745) + 0 ≤ 7293000 by omega) (fun v250 w H locs h hI => ?_)
          refine lv_istore (lv' := [(6, .int v250), (5, .int v241), (0, .ref a0), (1, .ref o1), (2, .ref o9), (3, .ref o17), (4, .int z32)]) hx hb d_law_1281 hl (by decide) rfl (fun ls hl => ?_)
          refine lv_goto (tgt := 2104) hx hb d_law_1283 (by decide) ?_
          exact hK2104 w H locs ls h hI (lv_sub hl [2, 3, 4, 5, 6] rfl)
        have h := gie c234 h
        rcases Decidable.em ((v36 &&& 31) = 7) with c251 | c251
        · have h := git c251 h
          refine lv_tableIn (off := 1234) (tgt := 1286) hx hb d_law_52 (by rw [c251]; decide) (by rw [c251]; decide) (by rw [c251]; decide) (by decide) ?_
          refine W.widen (k := 16015) (n := 905842) (show (16015 - (n + 1) * 31) ≤ 16015 by omega) (show (905842 - (n + 1) * 1745) ≤ 905842 by omega) ?_
          exact hK1286 _ w H locs ls h hI (lv_sub hl [0, 1, 3, 4] rfl)
        have h := gie c251 h
        rcases Decidable.em ((v36 &&& 31) = 8) with c252 | c252
        · have h := git c252 h
          refine lv_tableIn (off := 1378) (tgt := 1430) hx hb d_law_52 (by rw [c252]; decide) (by rw [c252]; decide) (by rw [c252]; decide) (by decide) ?_
          refine W.widen (k := 16015) (n := 905842) (show (16015 - (n + 1) * 31) ≤ 16015 by omega) (show (905842 - (n + 1) * 1745) ≤ 905842 by omega) ?_
          exact hK1430 _ w H locs ls h hI (lv_sub hl [0, 1, 3, 4] rfl)
        have h := gie c252 h
        rcases Decidable.em ((v36 &&& 31) = 9) with c253 | c253
        · have h := git c253 h
          refine lv_tableIn (off := 1522) (tgt := 1574) hx hb d_law_52 (by rw [c253]; decide) (by rw [c253]; decide) (by rw [c253]; decide) (by decide) ?_
          refine W.widen (k := 16015) (n := 905842) (show (16015 - (n + 1) * 31) ≤ 16015 by omega) (show (905842 - (n + 1) * 1745) ≤ 905842 by omega) ?_
          exact hK1574 _ w H locs ls h hI (lv_sub hl [0, 1, 3, 4] rfl)
        have h := gie c253 h
        rcases Decidable.em ((v36 &&& 31) = 10) with c254 | c254
        · have h := git c254 h
          refine lv_tableIn (off := 1562) (tgt := 1614) hx hb d_law_52 (by rw [c254]; decide) (by rw [c254]; decide) (by rw [c254]; decide) (by decide) ?_
          refine W.widen (k := 16015) (n := 905842) (show (16015 - (n + 1) * 31) ≤ 16015 by omega) (show (905842 - (n + 1) * 1745) ≤ 905842 by omega) ?_
          exact hK1614 w H locs ls h hI (lv_sub hl [1] rfl)
        have h := gie c254 h
        rcases Decidable.em ((v36 &&& 31) = 11) with c255 | c255
        · have h := git c255 h
          refine lv_tableIn (off := 1575) (tgt := 1627) hx hb d_law_52 (by rw [c255]; decide) (by rw [c255]; decide) (by rw [c255]; decide) (by decide) ?_
          refine W.widen (k := 16015) (n := 905842) (show (16015 - (n + 1) * 31) ≤ 16015 by omega) (show (905842 - (n + 1) * 1745) ≤ 905842 by omega) ?_
          exact hK1627 _ w H locs ls h hI (lv_sub hl [0, 1, 3, 4] rfl)
        have h := gie c255 h
        rcases Decidable.em ((v36 &&& 31) = 12) with c256 | c256
        · have h := git c256 h
          refine lv_tableIn (off := 1615) (tgt := 1667) hx hb d_law_52 (by rw [c256]; decide) (by rw [c256]; decide) (by rw [c256]; decide) (by decide) ?_
          refine W.widen (k := 16015) (n := 905842) (show (16015 - (n + 1) * 31) ≤ 16015 by omega) (show (905842 - (n + 1) * 1745) ≤ 905842 by omega) ?_
          exact hK1667 _ w H locs ls h hI (lv_sub hl [0, 1, 3, 4] rfl)
        have h := gie c256 h
        rcases Decidable.em ((v36 &&& 31) = 13) with c257 | c257
        · have h := git c257 h
          refine lv_tableIn (off := 1875) (tgt := 1927) hx hb d_law_52 (by rw [c257]; decide) (by rw [c257]; decide) (by rw [c257]; decide) (by decide) ?_
          refine W.widen (k := 16015) (n := 905842) (show (16015 - (n + 1) * 31) ≤ 16015 by omega) (show (905842 - (n + 1) * 1745) ≤ 905842 by omega) ?_
          exact hK1927 _ w H locs ls h hI (lv_sub hl [0, 1, 4] rfl)
        have h := gie c257 h
        rcases Decidable.em ((v36 &&& 31) = 14) with c258 | c258
        · have h := git c258 h
          refine lv_tableIn (off := 1900) (tgt := 1952) hx hb d_law_52 (by rw [c258]; decide) (by rw [c258]; decide) (by rw [c258]; decide) (by decide) ?_
          refine W.widen (k := 16015) (n := 905842) (show (16015 - (n + 1) * 31) ≤ 16015 by omega) (show (905842 - (n + 1) * 1745) ≤ 905842 by omega) ?_
          exact hK1952 _ w H locs ls h hI (lv_sub hl [0, 1, 3, 4] rfl)
        have h := gie c258 h
        rcases Decidable.em ((v36 &&& 31) = 15) with c259 | c259
        · have h := git c259 h
          refine lv_tableIn (off := 1940) (tgt := 1992) hx hb d_law_52 (by rw [c259]; decide) (by rw [c259]; decide) (by rw [c259]; decide) (by decide) ?_
          refine W.widen (k := 16015) (n := 905842) (show (16015 - (n + 1) * 31) ≤ 16015 by omega) (show (905842 - (n + 1) * 1745) ≤ 905842 by omega) ?_
          exact hK1992 _ w H locs ls h hI (lv_sub hl [0, 1, 3, 4] rfl)
        have h := gie c259 h
        rcases Decidable.em ((v36 &&& 31) = 16) with c260 | c260
        · have h := git c260 h
          refine lv_tableIn (off := 2024) (tgt := 2076) hx hb d_law_52 (by rw [c260]; decide) (by rw [c260]; decide) (by rw [c260]; decide) (by decide) ?_
          refine W.widen (k := 16015) (n := 905842) (show (16015 - (n + 1) * 31) ≤ 16015 by omega) (show (905842 - (n + 1) * 1745) ≤ 905842 by omega) ?_
          exact hK2076 _ w H locs ls h hI (lv_sub hl [0, 1, 3, 4] rfl)
        have h := gie c260 h
        refine lv_tableOut (tgt := 2104) hx hb d_law_52 (by have q0 := lv_neT c38 (show (0 : Int32).toInt = 0 by decide); have q1 := lv_neT c49 (show (1 : Int32).toInt = 1 by decide); have q2 := lv_neT c110 (show (2 : Int32).toInt = 2 by decide); have q3 := lv_neT c111 (show (3 : Int32).toInt = 3 by decide); have q4 := lv_neT c136 (show (4 : Int32).toInt = 4 by decide); have q5 := lv_neT c165 (show (5 : Int32).toInt = 5 by decide); have q6 := lv_neT c234 (show (6 : Int32).toInt = 6 by decide); have q7 := lv_neT c251 (show (7 : Int32).toInt = 7 by decide); have q8 := lv_neT c252 (show (8 : Int32).toInt = 8 by decide); have q9 := lv_neT c253 (show (9 : Int32).toInt = 9 by decide); have q10 := lv_neT c254 (show (10 : Int32).toInt = 10 by decide); have q11 := lv_neT c255 (show (11 : Int32).toInt = 11 by decide); have q12 := lv_neT c256 (show (12 : Int32).toInt = 12 by decide); have q13 := lv_neT c257 (show (13 : Int32).toInt = 13 by decide); have q14 := lv_neT c258 (show (14 : Int32).toInt = 14 by decide); have q15 := lv_neT c259 (show (15 : Int32).toInt = 15 by decide); have q16 := lv_neT c260 (show (16 : Int32).toInt = 16 by decide); omega) (by decide) ?_
        refine W.widen (k := ((16015 - (n + 1) * 31) + 31)) (n := ((905842 - (n + 1) * 1745) + 1745)) (show (16015 - (n + 1) * 31) ≤ ((16015 - (n + 1) * 31) + 31) by omega) (show (905842 - (n + 1) * 1745) ≤ ((905842 - (n + 1) * 1745) + 1745) by omega) ?_
        exact hK2104 w H locs ls h hI (lv_sub hl [0, 1, 2, 3, 4] rfl)
  refine W.widen (k := (16015 - 513 * 31)) (n := (905842 - 513 * 1745)) (show 112 ≤ (16015 - 513 * 31) by omega) (show 10657 ≤ (905842 - 513 * 1745) by omega) ?_
  exact hL35 513 (Nat.le_refl _) _ w H locs ls h hI (lv_sub hl [4, 3, 2, 1, 0] rfl)
