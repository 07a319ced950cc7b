set_option maxRecDepth 100000 in
theorem wd_72 : Jvm.Cond.classLink "BodySolidsLaw" (8 : Nat) "BodySolids" ∈ gAll := gm 72 rfl rfl
set_option maxRecDepth 100000 in
theorem wd_74 : Jvm.Cond.methodLink "BodySolidsLaw" (75 : Nat) ({ cls := "BodySolids", name := "<init>", desc := "(J)V" } : Jvm.MethodName) ∈ gAll := gm 74 rfl rfl
set_option maxRecDepth 100000 in
theorem wd_220 : Jvm.Cond.methodLink "BodySolidsLaw" (81 : Nat) ({ cls := "BodySolids", name := "body", desc := "()I" } : Jvm.MethodName) ∈ gAll := gm 220 rfl rfl
set_option maxRecDepth 100000 in
theorem wd_222 : Jvm.Cond.selects "BodySolids" ({ cls := "BodySolids", name := "body", desc := "()I" } : Jvm.MethodName) ({ cls := "BodySolids", name := "body", desc := "()I" } : Jvm.MethodName) ∈ gAll := gm 222 rfl rfl
set_option maxRecDepth 100000 in
theorem wd_424 : Jvm.Cond.methodLink "BodySolidsLaw" (69 : Nat) ({ cls := "BodySolidsLaw", name := "cell", desc := "([II)I" } : Jvm.MethodName) ∈ gAll := gm 424 rfl rfl
set_option maxRecDepth 100000 in
theorem wd_427 : Jvm.Cond.methodLink "BodySolidsLaw" (88 : Nat) ({ cls := "BodySolidsLaw", name := "box", desc := "(LBodySolids;IJJJJJJ[J)I" } : Jvm.MethodName) ∈ gAll := gm 427 rfl rfl
set_option maxRecDepth 100000 in
theorem wd_577 : Jvm.Cond.methodLink "BodySolidsLaw" (96 : Nat) ({ cls := "BodySolidsLaw", name := "corner", desc := "(LBodySolids;JJ[J)I" } : Jvm.MethodName) ∈ gAll := gm 577 rfl rfl
set_option maxRecDepth 100000 in
theorem wd_584 : Jvm.Cond.methodLink "BodySolidsLaw" (100 : Nat) ({ cls := "BodySolidsLaw", name := "prism", desc := "(LBodySolids;IJJ[J)I" } : Jvm.MethodName) ∈ gAll := gm 584 rfl rfl
set_option maxRecDepth 100000 in
theorem wd_622 : Jvm.Cond.methodLink "BodySolidsLaw" (108 : Nat) ({ cls := "BodySolidsLaw", name := "join", desc := "(LBodySolids;II[J)I" } : Jvm.MethodName) ∈ gAll := gm 622 rfl rfl
set_option maxRecDepth 100000 in
theorem wd_635 : Jvm.Cond.methodLink "BodySolidsLaw" (112 : Nat) ({ cls := "BodySolidsLaw", name := "place", desc := "(LBodySolids;IJJII[J)I" } : Jvm.MethodName) ∈ gAll := gm 635 rfl rfl
set_option maxRecDepth 100000 in
theorem wd_697 : Jvm.Cond.methodLink "BodySolidsLaw" (126 : Nat) ({ cls := "BodySolidsLaw", name := "pair", desc := "(LBodySolids;II[J)I" } : Jvm.MethodName) ∈ gAll := gm 697 rfl rfl
set_option maxRecDepth 100000 in
theorem wd_779 : Jvm.Cond.classLink "BodySolidsLaw" (78 : Nat) "BodySolidsModel" ∈ gAll := gm 779 rfl rfl
set_option maxRecDepth 100000 in
theorem wd_781 : Jvm.Cond.methodLink "BodySolidsLaw" (80 : Nat) ({ cls := "BodySolidsModel", name := "<init>", desc := "(J)V" } : Jvm.MethodName) ∈ gAll := gm 781 rfl rfl
set_option maxRecDepth 100000 in
theorem wd_868 : Jvm.Cond.methodLink "BodySolidsLaw" (129 : Nat) ({ cls := "BodySolidsModel", name := "thrown", desc := "()I" } : Jvm.MethodName) ∈ gAll := gm 868 rfl rfl
set_option maxRecDepth 100000 in
theorem wd_870 : Jvm.Cond.selects "BodySolidsModel" ({ cls := "BodySolidsModel", name := "thrown", desc := "()I" } : Jvm.MethodName) ({ cls := "BodySolidsModel", name := "thrown", desc := "()I" } : Jvm.MethodName) ∈ gAll := gm 870 rfl rfl
set_option maxRecDepth 100000 in
theorem wd_872 : Jvm.Cond.methodLink "BodySolidsLaw" (85 : Nat) ({ cls := "BodySolidsModel", name := "body", desc := "()I" } : Jvm.MethodName) ∈ gAll := gm 872 rfl rfl
set_option maxRecDepth 100000 in
theorem wd_874 : Jvm.Cond.selects "BodySolidsModel" ({ cls := "BodySolidsModel", name := "body", desc := "()I" } : Jvm.MethodName) ({ cls := "BodySolidsModel", name := "body", desc := "()I" } : Jvm.MethodName) ∈ gAll := gm 874 rfl rfl
set_option maxRecDepth 100000 in
theorem wd_876 : Jvm.Cond.methodLink "BodySolidsLaw" (91 : Nat) ({ cls := "BodySolidsModel", name := "box", desc := "(IJJJJJJ)Z" } : Jvm.MethodName) ∈ gAll := gm 876 rfl rfl
set_option maxRecDepth 100000 in
theorem wd_878 : Jvm.Cond.selects "BodySolidsModel" ({ cls := "BodySolidsModel", name := "box", desc := "(IJJJJJJ)Z" } : Jvm.MethodName) ({ cls := "BodySolidsModel", name := "box", desc := "(IJJJJJJ)Z" } : Jvm.MethodName) ∈ gAll := gm 878 rfl rfl
set_option maxRecDepth 100000 in
theorem wd_910 : Jvm.Cond.methodLink "BodySolidsLaw" (99 : Nat) ({ cls := "BodySolidsModel", name := "corner", desc := "(JJ)Z" } : Jvm.MethodName) ∈ gAll := gm 910 rfl rfl
set_option maxRecDepth 100000 in
theorem wd_912 : Jvm.Cond.selects "BodySolidsModel" ({ cls := "BodySolidsModel", name := "corner", desc := "(JJ)Z" } : Jvm.MethodName) ({ cls := "BodySolidsModel", name := "corner", desc := "(JJ)Z" } : Jvm.MethodName) ∈ gAll := gm 912 rfl rfl
set_option maxRecDepth 100000 in
theorem wd_914 : Jvm.Cond.methodLink "BodySolidsLaw" (103 : Nat) ({ cls := "BodySolidsModel", name := "prism", desc := "(IJJ)Z" } : Jvm.MethodName) ∈ gAll := gm 914 rfl rfl
set_option maxRecDepth 100000 in
theorem wd_916 : Jvm.Cond.selects "BodySolidsModel" ({ cls := "BodySolidsModel", name := "prism", desc := "(IJJ)Z" } : Jvm.MethodName) ({ cls := "BodySolidsModel", name := "prism", desc := "(IJJ)Z" } : Jvm.MethodName) ∈ gAll := gm 916 rfl rfl
set_option maxRecDepth 100000 in
theorem wd_932 : Jvm.Cond.methodLink "BodySolidsLaw" (111 : Nat) ({ cls := "BodySolidsModel", name := "join", desc := "(II)I" } : Jvm.MethodName) ∈ gAll := gm 932 rfl rfl
set_option maxRecDepth 100000 in
theorem wd_934 : Jvm.Cond.selects "BodySolidsModel" ({ cls := "BodySolidsModel", name := "join", desc := "(II)I" } : Jvm.MethodName) ({ cls := "BodySolidsModel", name := "join", desc := "(II)I" } : Jvm.MethodName) ∈ gAll := gm 934 rfl rfl
set_option maxRecDepth 100000 in
theorem wd_940 : Jvm.Cond.methodLink "BodySolidsLaw" (115 : Nat) ({ cls := "BodySolidsModel", name := "place", desc := "(IJJII)I" } : Jvm.MethodName) ∈ gAll := gm 940 rfl rfl
set_option maxRecDepth 100000 in
theorem wd_942 : Jvm.Cond.selects "BodySolidsModel" ({ cls := "BodySolidsModel", name := "place", desc := "(IJJII)I" } : Jvm.MethodName) ({ cls := "BodySolidsModel", name := "place", desc := "(IJJII)I" } : Jvm.MethodName) ∈ gAll := gm 942 rfl rfl
set_option maxRecDepth 100000 in
theorem wd_1071 : Jvm.Cond.methodLink "BodySolidsLaw" (128 : Nat) ({ cls := "BodySolidsModel", name := "pair", desc := "(II)I" } : Jvm.MethodName) ∈ gAll := gm 1071 rfl rfl
set_option maxRecDepth 100000 in
theorem wd_1073 : Jvm.Cond.selects "BodySolidsModel" ({ cls := "BodySolidsModel", name := "pair", desc := "(II)I" } : Jvm.MethodName) ({ cls := "BodySolidsModel", name := "pair", desc := "(II)I" } : Jvm.MethodName) ∈ gAll := gm 1073 rfl rfl
set_option maxRecDepth 100000 in
theorem wd_1121 : Jvm.Cond.constantLong "BodySolidsLaw" (86 : Nat) (4294967295 : Int64) ∈ gAll := gm 1121 rfl rfl
abbrev b_law : ByteArray := code
def y_law : MethodName := ⟨"BodySolidsLaw", "law", "([I)Z"⟩
theorem d_law_0 : decode b_law 0 = .ok (.new 8, 3) := by decide +kernel
theorem d_law_3 : decode b_law 3 = .ok (.dup, 1) := by decide +kernel
theorem d_law_4 : decode b_law 4 = .ok (.aload_n 0, 1) := by decide +kernel
theorem d_law_5 : decode b_law 5 = .ok (.iconst 0, 1) := by decide +kernel
theorem d_law_6 : decode b_law 6 = .ok (.invokestatic 69, 3) := by decide +kernel
theorem d_law_9 : decode b_law 9 = .ok (.i2l, 1) := by decide +kernel
theorem d_law_10 : decode b_law 10 = .ok (.invokespecial 75, 3) := by decide +kernel
theorem d_law_13 : decode b_law 13 = .ok (.astore_n 1, 1) := by decide +kernel
theorem d_law_14 : decode b_law 14 = .ok (.new 78, 3) := by decide +kernel
theorem d_law_17 : decode b_law 17 = .ok (.dup, 1) := by decide +kernel
theorem d_law_18 : decode b_law 18 = .ok (.aload_n 0, 1) := by decide +kernel
theorem d_law_19 : decode b_law 19 = .ok (.iconst 0, 1) := by decide +kernel
theorem d_law_20 : decode b_law 20 = .ok (.invokestatic 69, 3) := by decide +kernel
theorem d_law_23 : decode b_law 23 = .ok (.i2l, 1) := by decide +kernel
theorem d_law_24 : decode b_law 24 = .ok (.invokespecial 80, 3) := by decide +kernel
theorem d_law_27 : decode b_law 27 = .ok (.astore_n 2, 1) := by decide +kernel
theorem d_law_28 : decode b_law 28 = .ok (.iconst 1, 1) := by decide +kernel
theorem d_law_29 : decode b_law 29 = .ok (.newarray .long, 2) := by decide +kernel
theorem d_law_31 : decode b_law 31 = .ok (.astore_n 3, 1) := by decide +kernel
theorem d_law_32 : decode b_law 32 = .ok (.iconst 1, 1) := by decide +kernel
theorem d_law_33 : decode b_law 33 = .ok (.istore 4, 2) := by decide +kernel
theorem d_law_35 : decode b_law 35 = .ok (.iload 4, 2) := by decide +kernel
theorem d_law_37 : decode b_law 37 = .ok (.aload_n 0, 1) := by decide +kernel
theorem d_law_38 : decode b_law 38 = .ok (.arraylength, 1) := by decide +kernel
theorem d_law_39 : decode b_law 39 = .ok (.bipush 14, 2) := by decide +kernel
theorem d_law_41 : decode b_law 41 = .ok (.isub, 1) := by decide +kernel
theorem d_law_42 : decode b_law 42 = .ok (.if_icmp .gt 2061, 3) := by decide +kernel
theorem d_law_45 : decode b_law 45 = .ok (.aload_n 0, 1) := by decide +kernel
theorem d_law_46 : decode b_law 46 = .ok (.iload 4, 2) := by decide +kernel
theorem d_law_48 : decode b_law 48 = .ok (.iaload, 1) := by decide +kernel
theorem d_law_49 : decode b_law 49 = .ok (.bipush 31, 2) := by decide +kernel
theorem d_law_51 : decode b_law 51 = .ok (.iand, 1) := by decide +kernel
theorem d_law_52 : decode b_law 52 = .ok (.tableswitch 2045 0 16 #[84, 97, 405, 665, 769, 885, 1159, 1199, 1343, 1487, 1527, 1540, 1608, 1868, 1893, 1933, 2017], 84) := by decide +kernel
theorem d_law_136 : decode b_law 136 = .ok (.aload_n 1, 1) := by decide +kernel
theorem d_law_137 : decode b_law 137 = .ok (.invokevirtual 81, 3) := by decide +kernel
theorem d_law_140 : decode b_law 140 = .ok (.pop, 1) := by decide +kernel
theorem d_law_141 : decode b_law 141 = .ok (.aload_n 2, 1) := by decide +kernel
theorem d_law_142 : decode b_law 142 = .ok (.invokevirtual 85, 3) := by decide +kernel
theorem d_law_145 : decode b_law 145 = .ok (.pop, 1) := by decide +kernel
theorem d_law_146 : decode b_law 146 = .ok (.goto 1951, 3) := by decide +kernel
theorem d_law_149 : decode b_law 149 = .ok (.aload_n 1, 1) := by decide +kernel
theorem d_law_150 : decode b_law 150 = .ok (.aload_n 0, 1) := by decide +kernel
theorem d_law_151 : decode b_law 151 = .ok (.iload 4, 2) := by decide +kernel
theorem d_law_153 : decode b_law 153 = .ok (.iconst 1, 1) := by decide +kernel
theorem d_law_154 : decode b_law 154 = .ok (.iadd, 1) := by decide +kernel
theorem d_law_155 : decode b_law 155 = .ok (.iaload, 1) := by decide +kernel
theorem d_law_156 : decode b_law 156 = .ok (.aload_n 0, 1) := by decide +kernel
theorem d_law_157 : decode b_law 157 = .ok (.iload 4, 2) := by decide +kernel
theorem d_law_159 : decode b_law 159 = .ok (.iconst 2, 1) := by decide +kernel
theorem d_law_160 : decode b_law 160 = .ok (.iadd, 1) := by decide +kernel
theorem d_law_161 : decode b_law 161 = .ok (.iaload, 1) := by decide +kernel
theorem d_law_162 : decode b_law 162 = .ok (.i2l, 1) := by decide +kernel
theorem d_law_163 : decode b_law 163 = .ok (.bipush 32, 2) := by decide +kernel
theorem d_law_165 : decode b_law 165 = .ok (.lshl, 1) := by decide +kernel
theorem d_law_166 : decode b_law 166 = .ok (.aload_n 0, 1) := by decide +kernel
theorem d_law_167 : decode b_law 167 = .ok (.iload 4, 2) := by decide +kernel
theorem d_law_169 : decode b_law 169 = .ok (.iconst 3, 1) := by decide +kernel
theorem d_law_170 : decode b_law 170 = .ok (.iadd, 1) := by decide +kernel
theorem d_law_171 : decode b_law 171 = .ok (.iaload, 1) := by decide +kernel
theorem d_law_172 : decode b_law 172 = .ok (.i2l, 1) := by decide +kernel
theorem d_law_173 : decode b_law 173 = .ok (.ldc2_w 86, 3) := by decide +kernel
theorem d_law_176 : decode b_law 176 = .ok (.land, 1) := by decide +kernel
theorem d_law_177 : decode b_law 177 = .ok (.lor, 1) := by decide +kernel
theorem d_law_178 : decode b_law 178 = .ok (.aload_n 0, 1) := by decide +kernel
theorem d_law_179 : decode b_law 179 = .ok (.iload 4, 2) := by decide +kernel
theorem d_law_181 : decode b_law 181 = .ok (.iconst 4, 1) := by decide +kernel
theorem d_law_182 : decode b_law 182 = .ok (.iadd, 1) := by decide +kernel
theorem d_law_183 : decode b_law 183 = .ok (.iaload, 1) := by decide +kernel
theorem d_law_184 : decode b_law 184 = .ok (.i2l, 1) := by decide +kernel
theorem d_law_185 : decode b_law 185 = .ok (.bipush 32, 2) := by decide +kernel
theorem d_law_187 : decode b_law 187 = .ok (.lshl, 1) := by decide +kernel
theorem d_law_188 : decode b_law 188 = .ok (.aload_n 0, 1) := by decide +kernel
theorem d_law_189 : decode b_law 189 = .ok (.iload 4, 2) := by decide +kernel
theorem d_law_191 : decode b_law 191 = .ok (.iconst 5, 1) := by decide +kernel
theorem d_law_192 : decode b_law 192 = .ok (.iadd, 1) := by decide +kernel
theorem d_law_193 : decode b_law 193 = .ok (.iaload, 1) := by decide +kernel
theorem d_law_194 : decode b_law 194 = .ok (.i2l, 1) := by decide +kernel
theorem d_law_195 : decode b_law 195 = .ok (.ldc2_w 86, 3) := by decide +kernel
theorem d_law_198 : decode b_law 198 = .ok (.land, 1) := by decide +kernel
theorem d_law_199 : decode b_law 199 = .ok (.lor, 1) := by decide +kernel
theorem d_law_200 : decode b_law 200 = .ok (.aload_n 0, 1) := by decide +kernel
theorem d_law_201 : decode b_law 201 = .ok (.iload 4, 2) := by decide +kernel
theorem d_law_203 : decode b_law 203 = .ok (.bipush 6, 2) := by decide +kernel
theorem d_law_205 : decode b_law 205 = .ok (.iadd, 1) := by decide +kernel
theorem d_law_206 : decode b_law 206 = .ok (.iaload, 1) := by decide +kernel
theorem d_law_207 : decode b_law 207 = .ok (.i2l, 1) := by decide +kernel
theorem d_law_208 : decode b_law 208 = .ok (.bipush 32, 2) := by decide +kernel
theorem d_law_210 : decode b_law 210 = .ok (.lshl, 1) := by decide +kernel
theorem d_law_211 : decode b_law 211 = .ok (.aload_n 0, 1) := by decide +kernel
theorem d_law_212 : decode b_law 212 = .ok (.iload 4, 2) := by decide +kernel
theorem d_law_214 : decode b_law 214 = .ok (.bipush 7, 2) := by decide +kernel
theorem d_law_216 : decode b_law 216 = .ok (.iadd, 1) := by decide +kernel
theorem d_law_217 : decode b_law 217 = .ok (.iaload, 1) := by decide +kernel
theorem d_law_218 : decode b_law 218 = .ok (.i2l, 1) := by decide +kernel
theorem d_law_219 : decode b_law 219 = .ok (.ldc2_w 86, 3) := by decide +kernel
theorem d_law_222 : decode b_law 222 = .ok (.land, 1) := by decide +kernel
theorem d_law_223 : decode b_law 223 = .ok (.lor, 1) := by decide +kernel
theorem d_law_224 : decode b_law 224 = .ok (.aload_n 0, 1) := by decide +kernel
theorem d_law_225 : decode b_law 225 = .ok (.iload 4, 2) := by decide +kernel
theorem d_law_227 : decode b_law 227 = .ok (.bipush 8, 2) := by decide +kernel
theorem d_law_229 : decode b_law 229 = .ok (.iadd, 1) := by decide +kernel
theorem d_law_230 : decode b_law 230 = .ok (.iaload, 1) := by decide +kernel
theorem d_law_231 : decode b_law 231 = .ok (.i2l, 1) := by decide +kernel
theorem d_law_232 : decode b_law 232 = .ok (.bipush 32, 2) := by decide +kernel
theorem d_law_234 : decode b_law 234 = .ok (.lshl, 1) := by decide +kernel
theorem d_law_235 : decode b_law 235 = .ok (.aload_n 0, 1) := by decide +kernel
theorem d_law_236 : decode b_law 236 = .ok (.iload 4, 2) := by decide +kernel
theorem d_law_238 : decode b_law 238 = .ok (.bipush 9, 2) := by decide +kernel
theorem d_law_240 : decode b_law 240 = .ok (.iadd, 1) := by decide +kernel
theorem d_law_241 : decode b_law 241 = .ok (.iaload, 1) := by decide +kernel
theorem d_law_242 : decode b_law 242 = .ok (.i2l, 1) := by decide +kernel
theorem d_law_243 : decode b_law 243 = .ok (.ldc2_w 86, 3) := by decide +kernel
theorem d_law_246 : decode b_law 246 = .ok (.land, 1) := by decide +kernel
theorem d_law_247 : decode b_law 247 = .ok (.lor, 1) := by decide +kernel
theorem d_law_248 : decode b_law 248 = .ok (.aload_n 0, 1) := by decide +kernel
theorem d_law_249 : decode b_law 249 = .ok (.iload 4, 2) := by decide +kernel
theorem d_law_251 : decode b_law 251 = .ok (.bipush 10, 2) := by decide +kernel
theorem d_law_253 : decode b_law 253 = .ok (.iadd, 1) := by decide +kernel
theorem d_law_254 : decode b_law 254 = .ok (.iaload, 1) := by decide +kernel
theorem d_law_255 : decode b_law 255 = .ok (.i2l, 1) := by decide +kernel
theorem d_law_256 : decode b_law 256 = .ok (.bipush 32, 2) := by decide +kernel
theorem d_law_258 : decode b_law 258 = .ok (.lshl, 1) := by decide +kernel
theorem d_law_259 : decode b_law 259 = .ok (.aload_n 0, 1) := by decide +kernel
theorem d_law_260 : decode b_law 260 = .ok (.iload 4, 2) := by decide +kernel
theorem d_law_262 : decode b_law 262 = .ok (.bipush 11, 2) := by decide +kernel
theorem d_law_264 : decode b_law 264 = .ok (.iadd, 1) := by decide +kernel
theorem d_law_265 : decode b_law 265 = .ok (.iaload, 1) := by decide +kernel
theorem d_law_266 : decode b_law 266 = .ok (.i2l, 1) := by decide +kernel
theorem d_law_267 : decode b_law 267 = .ok (.ldc2_w 86, 3) := by decide +kernel
theorem d_law_270 : decode b_law 270 = .ok (.land, 1) := by decide +kernel
theorem d_law_271 : decode b_law 271 = .ok (.lor, 1) := by decide +kernel
theorem d_law_272 : decode b_law 272 = .ok (.aload_n 0, 1) := by decide +kernel
theorem d_law_273 : decode b_law 273 = .ok (.iload 4, 2) := by decide +kernel
theorem d_law_275 : decode b_law 275 = .ok (.bipush 12, 2) := by decide +kernel
theorem d_law_277 : decode b_law 277 = .ok (.iadd, 1) := by decide +kernel
theorem d_law_278 : decode b_law 278 = .ok (.iaload, 1) := by decide +kernel
theorem d_law_279 : decode b_law 279 = .ok (.i2l, 1) := by decide +kernel
theorem d_law_280 : decode b_law 280 = .ok (.bipush 32, 2) := by decide +kernel
theorem d_law_282 : decode b_law 282 = .ok (.lshl, 1) := by decide +kernel
theorem d_law_283 : decode b_law 283 = .ok (.aload_n 0, 1) := by decide +kernel
theorem d_law_284 : decode b_law 284 = .ok (.iload 4, 2) := by decide +kernel
theorem d_law_286 : decode b_law 286 = .ok (.bipush 13, 2) := by decide +kernel
theorem d_law_288 : decode b_law 288 = .ok (.iadd, 1) := by decide +kernel
theorem d_law_289 : decode b_law 289 = .ok (.iaload, 1) := by decide +kernel
theorem d_law_290 : decode b_law 290 = .ok (.i2l, 1) := by decide +kernel
theorem d_law_291 : decode b_law 291 = .ok (.ldc2_w 86, 3) := by decide +kernel
theorem d_law_294 : decode b_law 294 = .ok (.land, 1) := by decide +kernel
theorem d_law_295 : decode b_law 295 = .ok (.lor, 1) := by decide +kernel
theorem d_law_296 : decode b_law 296 = .ok (.aload_n 3, 1) := by decide +kernel
theorem d_law_297 : decode b_law 297 = .ok (.invokestatic 88, 3) := by decide +kernel
theorem d_law_300 : decode b_law 300 = .ok (.istore 5, 2) := by decide +kernel
theorem d_law_302 : decode b_law 302 = .ok (.aload_n 2, 1) := by decide +kernel
theorem d_law_303 : decode b_law 303 = .ok (.aload_n 0, 1) := by decide +kernel
theorem d_law_304 : decode b_law 304 = .ok (.iload 4, 2) := by decide +kernel
theorem d_law_306 : decode b_law 306 = .ok (.iconst 1, 1) := by decide +kernel
theorem d_law_307 : decode b_law 307 = .ok (.iadd, 1) := by decide +kernel
theorem d_law_308 : decode b_law 308 = .ok (.iaload, 1) := by decide +kernel
theorem d_law_309 : decode b_law 309 = .ok (.aload_n 0, 1) := by decide +kernel
theorem d_law_310 : decode b_law 310 = .ok (.iload 4, 2) := by decide +kernel
theorem d_law_312 : decode b_law 312 = .ok (.iconst 2, 1) := by decide +kernel
theorem d_law_313 : decode b_law 313 = .ok (.iadd, 1) := by decide +kernel
theorem d_law_314 : decode b_law 314 = .ok (.iaload, 1) := by decide +kernel
theorem d_law_315 : decode b_law 315 = .ok (.i2l, 1) := by decide +kernel
theorem d_law_316 : decode b_law 316 = .ok (.bipush 32, 2) := by decide +kernel
theorem d_law_318 : decode b_law 318 = .ok (.lshl, 1) := by decide +kernel
theorem d_law_319 : decode b_law 319 = .ok (.aload_n 0, 1) := by decide +kernel
theorem d_law_320 : decode b_law 320 = .ok (.iload 4, 2) := by decide +kernel
theorem d_law_322 : decode b_law 322 = .ok (.iconst 3, 1) := by decide +kernel
theorem d_law_323 : decode b_law 323 = .ok (.iadd, 1) := by decide +kernel
theorem d_law_324 : decode b_law 324 = .ok (.iaload, 1) := by decide +kernel
theorem d_law_325 : decode b_law 325 = .ok (.i2l, 1) := by decide +kernel
theorem d_law_326 : decode b_law 326 = .ok (.ldc2_w 86, 3) := by decide +kernel
theorem d_law_329 : decode b_law 329 = .ok (.land, 1) := by decide +kernel
theorem d_law_330 : decode b_law 330 = .ok (.lor, 1) := by decide +kernel
theorem d_law_331 : decode b_law 331 = .ok (.aload_n 0, 1) := by decide +kernel
theorem d_law_332 : decode b_law 332 = .ok (.iload 4, 2) := by decide +kernel
theorem d_law_334 : decode b_law 334 = .ok (.iconst 4, 1) := by decide +kernel
theorem d_law_335 : decode b_law 335 = .ok (.iadd, 1) := by decide +kernel
theorem d_law_336 : decode b_law 336 = .ok (.iaload, 1) := by decide +kernel
theorem d_law_337 : decode b_law 337 = .ok (.i2l, 1) := by decide +kernel
theorem d_law_338 : decode b_law 338 = .ok (.bipush 32, 2) := by decide +kernel
theorem d_law_340 : decode b_law 340 = .ok (.lshl, 1) := by decide +kernel
theorem d_law_341 : decode b_law 341 = .ok (.aload_n 0, 1) := by decide +kernel
theorem d_law_342 : decode b_law 342 = .ok (.iload 4, 2) := by decide +kernel
theorem d_law_344 : decode b_law 344 = .ok (.iconst 5, 1) := by decide +kernel
theorem d_law_345 : decode b_law 345 = .ok (.iadd, 1) := by decide +kernel
theorem d_law_346 : decode b_law 346 = .ok (.iaload, 1) := by decide +kernel
theorem d_law_347 : decode b_law 347 = .ok (.i2l, 1) := by decide +kernel
theorem d_law_348 : decode b_law 348 = .ok (.ldc2_w 86, 3) := by decide +kernel
theorem d_law_351 : decode b_law 351 = .ok (.land, 1) := by decide +kernel
theorem d_law_352 : decode b_law 352 = .ok (.lor, 1) := by decide +kernel
theorem d_law_353 : decode b_law 353 = .ok (.aload_n 0, 1) := by decide +kernel
theorem d_law_354 : decode b_law 354 = .ok (.iload 4, 2) := by decide +kernel
theorem d_law_356 : decode b_law 356 = .ok (.bipush 6, 2) := by decide +kernel
theorem d_law_358 : decode b_law 358 = .ok (.iadd, 1) := by decide +kernel
theorem d_law_359 : decode b_law 359 = .ok (.iaload, 1) := by decide +kernel
theorem d_law_360 : decode b_law 360 = .ok (.i2l, 1) := by decide +kernel
theorem d_law_361 : decode b_law 361 = .ok (.bipush 32, 2) := by decide +kernel
theorem d_law_363 : decode b_law 363 = .ok (.lshl, 1) := by decide +kernel
theorem d_law_364 : decode b_law 364 = .ok (.aload_n 0, 1) := by decide +kernel
theorem d_law_365 : decode b_law 365 = .ok (.iload 4, 2) := by decide +kernel
theorem d_law_367 : decode b_law 367 = .ok (.bipush 7, 2) := by decide +kernel
theorem d_law_369 : decode b_law 369 = .ok (.iadd, 1) := by decide +kernel
theorem d_law_370 : decode b_law 370 = .ok (.iaload, 1) := by decide +kernel
theorem d_law_371 : decode b_law 371 = .ok (.i2l, 1) := by decide +kernel
theorem d_law_372 : decode b_law 372 = .ok (.ldc2_w 86, 3) := by decide +kernel
theorem d_law_375 : decode b_law 375 = .ok (.land, 1) := by decide +kernel
theorem d_law_376 : decode b_law 376 = .ok (.lor, 1) := by decide +kernel
theorem d_law_377 : decode b_law 377 = .ok (.aload_n 0, 1) := by decide +kernel
theorem d_law_378 : decode b_law 378 = .ok (.iload 4, 2) := by decide +kernel
theorem d_law_380 : decode b_law 380 = .ok (.bipush 8, 2) := by decide +kernel
theorem d_law_382 : decode b_law 382 = .ok (.iadd, 1) := by decide +kernel
theorem d_law_383 : decode b_law 383 = .ok (.iaload, 1) := by decide +kernel
theorem d_law_384 : decode b_law 384 = .ok (.i2l, 1) := by decide +kernel
theorem d_law_385 : decode b_law 385 = .ok (.bipush 32, 2) := by decide +kernel
theorem d_law_387 : decode b_law 387 = .ok (.lshl, 1) := by decide +kernel
theorem d_law_388 : decode b_law 388 = .ok (.aload_n 0, 1) := by decide +kernel
theorem d_law_389 : decode b_law 389 = .ok (.iload 4, 2) := by decide +kernel
theorem d_law_391 : decode b_law 391 = .ok (.bipush 9, 2) := by decide +kernel
theorem d_law_393 : decode b_law 393 = .ok (.iadd, 1) := by decide +kernel
theorem d_law_394 : decode b_law 394 = .ok (.iaload, 1) := by decide +kernel
theorem d_law_395 : decode b_law 395 = .ok (.i2l, 1) := by decide +kernel
theorem d_law_396 : decode b_law 396 = .ok (.ldc2_w 86, 3) := by decide +kernel
theorem d_law_399 : decode b_law 399 = .ok (.land, 1) := by decide +kernel
theorem d_law_400 : decode b_law 400 = .ok (.lor, 1) := by decide +kernel
theorem d_law_401 : decode b_law 401 = .ok (.aload_n 0, 1) := by decide +kernel
theorem d_law_402 : decode b_law 402 = .ok (.iload 4, 2) := by decide +kernel
theorem d_law_404 : decode b_law 404 = .ok (.bipush 10, 2) := by decide +kernel
theorem d_law_406 : decode b_law 406 = .ok (.iadd, 1) := by decide +kernel
theorem d_law_407 : decode b_law 407 = .ok (.iaload, 1) := by decide +kernel
theorem d_law_408 : decode b_law 408 = .ok (.i2l, 1) := by decide +kernel
theorem d_law_409 : decode b_law 409 = .ok (.bipush 32, 2) := by decide +kernel
theorem d_law_411 : decode b_law 411 = .ok (.lshl, 1) := by decide +kernel
theorem d_law_412 : decode b_law 412 = .ok (.aload_n 0, 1) := by decide +kernel
theorem d_law_413 : decode b_law 413 = .ok (.iload 4, 2) := by decide +kernel
theorem d_law_415 : decode b_law 415 = .ok (.bipush 11, 2) := by decide +kernel
theorem d_law_417 : decode b_law 417 = .ok (.iadd, 1) := by decide +kernel
theorem d_law_418 : decode b_law 418 = .ok (.iaload, 1) := by decide +kernel
theorem d_law_419 : decode b_law 419 = .ok (.i2l, 1) := by decide +kernel
theorem d_law_420 : decode b_law 420 = .ok (.ldc2_w 86, 3) := by decide +kernel
theorem d_law_423 : decode b_law 423 = .ok (.land, 1) := by decide +kernel
theorem d_law_424 : decode b_law 424 = .ok (.lor, 1) := by decide +kernel
theorem d_law_425 : decode b_law 425 = .ok (.aload_n 0, 1) := by decide +kernel
theorem d_law_426 : decode b_law 426 = .ok (.iload 4, 2) := by decide +kernel
theorem d_law_428 : decode b_law 428 = .ok (.bipush 12, 2) := by decide +kernel
theorem d_law_430 : decode b_law 430 = .ok (.iadd, 1) := by decide +kernel
theorem d_law_431 : decode b_law 431 = .ok (.iaload, 1) := by decide +kernel
theorem d_law_432 : decode b_law 432 = .ok (.i2l, 1) := by decide +kernel
theorem d_law_433 : decode b_law 433 = .ok (.bipush 32, 2) := by decide +kernel
theorem d_law_435 : decode b_law 435 = .ok (.lshl, 1) := by decide +kernel
theorem d_law_436 : decode b_law 436 = .ok (.aload_n 0, 1) := by decide +kernel
theorem d_law_437 : decode b_law 437 = .ok (.iload 4, 2) := by decide +kernel
theorem d_law_439 : decode b_law 439 = .ok (.bipush 13, 2) := by decide +kernel
theorem d_law_441 : decode b_law 441 = .ok (.iadd, 1) := by decide +kernel
theorem d_law_442 : decode b_law 442 = .ok (.iaload, 1) := by decide +kernel
theorem d_law_443 : decode b_law 443 = .ok (.i2l, 1) := by decide +kernel
theorem d_law_444 : decode b_law 444 = .ok (.ldc2_w 86, 3) := by decide +kernel
theorem d_law_447 : decode b_law 447 = .ok (.land, 1) := by decide +kernel
theorem d_law_448 : decode b_law 448 = .ok (.lor, 1) := by decide +kernel
theorem d_law_449 : decode b_law 449 = .ok (.invokevirtual 91, 3) := by decide +kernel
theorem d_law_452 : decode b_law 452 = .ok (.istore 6, 2) := by decide +kernel
theorem d_law_454 : decode b_law 454 = .ok (.goto 1643, 3) := by decide +kernel
theorem d_law_457 : decode b_law 457 = .ok (.aload_n 1, 1) := by decide +kernel
theorem d_law_458 : decode b_law 458 = .ok (.aload_n 0, 1) := by decide +kernel
theorem d_law_459 : decode b_law 459 = .ok (.iload 4, 2) := by decide +kernel
theorem d_law_461 : decode b_law 461 = .ok (.iconst 1, 1) := by decide +kernel
theorem d_law_462 : decode b_law 462 = .ok (.iadd, 1) := by decide +kernel
theorem d_law_463 : decode b_law 463 = .ok (.iaload, 1) := by decide +kernel
theorem d_law_464 : decode b_law 464 = .ok (.aload_n 0, 1) := by decide +kernel
theorem d_law_465 : decode b_law 465 = .ok (.iload 4, 2) := by decide +kernel
theorem d_law_467 : decode b_law 467 = .ok (.iconst 2, 1) := by decide +kernel
theorem d_law_468 : decode b_law 468 = .ok (.iadd, 1) := by decide +kernel
theorem d_law_469 : decode b_law 469 = .ok (.iaload, 1) := by decide +kernel
theorem d_law_470 : decode b_law 470 = .ok (.i2l, 1) := by decide +kernel
theorem d_law_471 : decode b_law 471 = .ok (.bipush 32, 2) := by decide +kernel
theorem d_law_473 : decode b_law 473 = .ok (.lshl, 1) := by decide +kernel
theorem d_law_474 : decode b_law 474 = .ok (.aload_n 0, 1) := by decide +kernel
theorem d_law_475 : decode b_law 475 = .ok (.iload 4, 2) := by decide +kernel
theorem d_law_477 : decode b_law 477 = .ok (.iconst 3, 1) := by decide +kernel
theorem d_law_478 : decode b_law 478 = .ok (.iadd, 1) := by decide +kernel
theorem d_law_479 : decode b_law 479 = .ok (.iaload, 1) := by decide +kernel
theorem d_law_480 : decode b_law 480 = .ok (.i2l, 1) := by decide +kernel
theorem d_law_481 : decode b_law 481 = .ok (.ldc2_w 86, 3) := by decide +kernel
theorem d_law_484 : decode b_law 484 = .ok (.land, 1) := by decide +kernel
theorem d_law_485 : decode b_law 485 = .ok (.lor, 1) := by decide +kernel
theorem d_law_486 : decode b_law 486 = .ok (.aload_n 0, 1) := by decide +kernel
theorem d_law_487 : decode b_law 487 = .ok (.iload 4, 2) := by decide +kernel
theorem d_law_489 : decode b_law 489 = .ok (.iconst 4, 1) := by decide +kernel
theorem d_law_490 : decode b_law 490 = .ok (.iadd, 1) := by decide +kernel
theorem d_law_491 : decode b_law 491 = .ok (.iaload, 1) := by decide +kernel
theorem d_law_492 : decode b_law 492 = .ok (.i2l, 1) := by decide +kernel
theorem d_law_493 : decode b_law 493 = .ok (.bipush 32, 2) := by decide +kernel
theorem d_law_495 : decode b_law 495 = .ok (.lshl, 1) := by decide +kernel
theorem d_law_496 : decode b_law 496 = .ok (.aload_n 0, 1) := by decide +kernel
theorem d_law_497 : decode b_law 497 = .ok (.iload 4, 2) := by decide +kernel
theorem d_law_499 : decode b_law 499 = .ok (.iconst 5, 1) := by decide +kernel
theorem d_law_500 : decode b_law 500 = .ok (.iadd, 1) := by decide +kernel
theorem d_law_501 : decode b_law 501 = .ok (.iaload, 1) := by decide +kernel
theorem d_law_502 : decode b_law 502 = .ok (.i2l, 1) := by decide +kernel
theorem d_law_503 : decode b_law 503 = .ok (.ldc2_w 86, 3) := by decide +kernel
theorem d_law_506 : decode b_law 506 = .ok (.land, 1) := by decide +kernel
theorem d_law_507 : decode b_law 507 = .ok (.lor, 1) := by decide +kernel
theorem d_law_508 : decode b_law 508 = .ok (.aload_n 0, 1) := by decide +kernel
theorem d_law_509 : decode b_law 509 = .ok (.iload 4, 2) := by decide +kernel
theorem d_law_511 : decode b_law 511 = .ok (.bipush 6, 2) := by decide +kernel
theorem d_law_513 : decode b_law 513 = .ok (.iadd, 1) := by decide +kernel
theorem d_law_514 : decode b_law 514 = .ok (.iaload, 1) := by decide +kernel
theorem d_law_515 : decode b_law 515 = .ok (.i2l, 1) := by decide +kernel
theorem d_law_516 : decode b_law 516 = .ok (.bipush 32, 2) := by decide +kernel
theorem d_law_518 : decode b_law 518 = .ok (.lshl, 1) := by decide +kernel
theorem d_law_519 : decode b_law 519 = .ok (.aload_n 0, 1) := by decide +kernel
theorem d_law_520 : decode b_law 520 = .ok (.iload 4, 2) := by decide +kernel
theorem d_law_522 : decode b_law 522 = .ok (.bipush 7, 2) := by decide +kernel
theorem d_law_524 : decode b_law 524 = .ok (.iadd, 1) := by decide +kernel
theorem d_law_525 : decode b_law 525 = .ok (.iaload, 1) := by decide +kernel
theorem d_law_526 : decode b_law 526 = .ok (.i2l, 1) := by decide +kernel
theorem d_law_527 : decode b_law 527 = .ok (.ldc2_w 86, 3) := by decide +kernel
theorem d_law_530 : decode b_law 530 = .ok (.land, 1) := by decide +kernel
theorem d_law_531 : decode b_law 531 = .ok (.lor, 1) := by decide +kernel
theorem d_law_532 : decode b_law 532 = .ok (.aload_n 0, 1) := by decide +kernel
theorem d_law_533 : decode b_law 533 = .ok (.iload 4, 2) := by decide +kernel
theorem d_law_535 : decode b_law 535 = .ok (.bipush 8, 2) := by decide +kernel
theorem d_law_537 : decode b_law 537 = .ok (.iadd, 1) := by decide +kernel
theorem d_law_538 : decode b_law 538 = .ok (.iaload, 1) := by decide +kernel
theorem d_law_539 : decode b_law 539 = .ok (.i2l, 1) := by decide +kernel
theorem d_law_540 : decode b_law 540 = .ok (.bipush 32, 2) := by decide +kernel
theorem d_law_542 : decode b_law 542 = .ok (.lshl, 1) := by decide +kernel
theorem d_law_543 : decode b_law 543 = .ok (.aload_n 0, 1) := by decide +kernel
theorem d_law_544 : decode b_law 544 = .ok (.iload 4, 2) := by decide +kernel
theorem d_law_546 : decode b_law 546 = .ok (.bipush 9, 2) := by decide +kernel
theorem d_law_548 : decode b_law 548 = .ok (.iadd, 1) := by decide +kernel
theorem d_law_549 : decode b_law 549 = .ok (.iaload, 1) := by decide +kernel
theorem d_law_550 : decode b_law 550 = .ok (.i2l, 1) := by decide +kernel
theorem d_law_551 : decode b_law 551 = .ok (.ldc2_w 86, 3) := by decide +kernel
theorem d_law_554 : decode b_law 554 = .ok (.land, 1) := by decide +kernel
theorem d_law_555 : decode b_law 555 = .ok (.lor, 1) := by decide +kernel
theorem d_law_556 : decode b_law 556 = .ok (.aload_n 0, 1) := by decide +kernel
theorem d_law_557 : decode b_law 557 = .ok (.iload 4, 2) := by decide +kernel
theorem d_law_559 : decode b_law 559 = .ok (.bipush 10, 2) := by decide +kernel
theorem d_law_561 : decode b_law 561 = .ok (.iadd, 1) := by decide +kernel
theorem d_law_562 : decode b_law 562 = .ok (.iaload, 1) := by decide +kernel
theorem d_law_563 : decode b_law 563 = .ok (.i2l, 1) := by decide +kernel
theorem d_law_564 : decode b_law 564 = .ok (.bipush 32, 2) := by decide +kernel
theorem d_law_566 : decode b_law 566 = .ok (.lshl, 1) := by decide +kernel
theorem d_law_567 : decode b_law 567 = .ok (.aload_n 0, 1) := by decide +kernel
theorem d_law_568 : decode b_law 568 = .ok (.iload 4, 2) := by decide +kernel
theorem d_law_570 : decode b_law 570 = .ok (.bipush 11, 2) := by decide +kernel
theorem d_law_572 : decode b_law 572 = .ok (.iadd, 1) := by decide +kernel
theorem d_law_573 : decode b_law 573 = .ok (.iaload, 1) := by decide +kernel
theorem d_law_574 : decode b_law 574 = .ok (.i2l, 1) := by decide +kernel
theorem d_law_575 : decode b_law 575 = .ok (.ldc2_w 86, 3) := by decide +kernel
theorem d_law_578 : decode b_law 578 = .ok (.land, 1) := by decide +kernel
theorem d_law_579 : decode b_law 579 = .ok (.lor, 1) := by decide +kernel
theorem d_law_580 : decode b_law 580 = .ok (.aload_n 3, 1) := by decide +kernel
theorem d_law_581 : decode b_law 581 = .ok (.invokestatic 92, 3) := by decide +kernel
theorem d_law_717 : decode b_law 717 = .ok (.aload_n 1, 1) := by decide +kernel
theorem d_law_718 : decode b_law 718 = .ok (.aload_n 0, 1) := by decide +kernel
theorem d_law_719 : decode b_law 719 = .ok (.iload 4, 2) := by decide +kernel
theorem d_law_721 : decode b_law 721 = .ok (.iconst 1, 1) := by decide +kernel
theorem d_law_722 : decode b_law 722 = .ok (.iadd, 1) := by decide +kernel
theorem d_law_723 : decode b_law 723 = .ok (.iaload, 1) := by decide +kernel
theorem d_law_724 : decode b_law 724 = .ok (.i2l, 1) := by decide +kernel
theorem d_law_725 : decode b_law 725 = .ok (.bipush 32, 2) := by decide +kernel
theorem d_law_727 : decode b_law 727 = .ok (.lshl, 1) := by decide +kernel
theorem d_law_728 : decode b_law 728 = .ok (.aload_n 0, 1) := by decide +kernel
theorem d_law_729 : decode b_law 729 = .ok (.iload 4, 2) := by decide +kernel
theorem d_law_731 : decode b_law 731 = .ok (.iconst 2, 1) := by decide +kernel
theorem d_law_732 : decode b_law 732 = .ok (.iadd, 1) := by decide +kernel
theorem d_law_733 : decode b_law 733 = .ok (.iaload, 1) := by decide +kernel
theorem d_law_734 : decode b_law 734 = .ok (.i2l, 1) := by decide +kernel
theorem d_law_735 : decode b_law 735 = .ok (.ldc2_w 86, 3) := by decide +kernel
theorem d_law_738 : decode b_law 738 = .ok (.land, 1) := by decide +kernel
theorem d_law_739 : decode b_law 739 = .ok (.lor, 1) := by decide +kernel
theorem d_law_740 : decode b_law 740 = .ok (.aload_n 0, 1) := by decide +kernel
theorem d_law_741 : decode b_law 741 = .ok (.iload 4, 2) := by decide +kernel
theorem d_law_743 : decode b_law 743 = .ok (.iconst 3, 1) := by decide +kernel
theorem d_law_744 : decode b_law 744 = .ok (.iadd, 1) := by decide +kernel
theorem d_law_745 : decode b_law 745 = .ok (.iaload, 1) := by decide +kernel
theorem d_law_746 : decode b_law 746 = .ok (.i2l, 1) := by decide +kernel
theorem d_law_747 : decode b_law 747 = .ok (.bipush 32, 2) := by decide +kernel
theorem d_law_749 : decode b_law 749 = .ok (.lshl, 1) := by decide +kernel
theorem d_law_750 : decode b_law 750 = .ok (.aload_n 0, 1) := by decide +kernel
theorem d_law_751 : decode b_law 751 = .ok (.iload 4, 2) := by decide +kernel
theorem d_law_753 : decode b_law 753 = .ok (.iconst 4, 1) := by decide +kernel
theorem d_law_754 : decode b_law 754 = .ok (.iadd, 1) := by decide +kernel
theorem d_law_755 : decode b_law 755 = .ok (.iaload, 1) := by decide +kernel
theorem d_law_756 : decode b_law 756 = .ok (.i2l, 1) := by decide +kernel
theorem d_law_757 : decode b_law 757 = .ok (.ldc2_w 86, 3) := by decide +kernel
theorem d_law_760 : decode b_law 760 = .ok (.land, 1) := by decide +kernel
theorem d_law_761 : decode b_law 761 = .ok (.lor, 1) := by decide +kernel
theorem d_law_762 : decode b_law 762 = .ok (.aload_n 3, 1) := by decide +kernel
theorem d_law_763 : decode b_law 763 = .ok (.invokestatic 96, 3) := by decide +kernel
theorem d_law_766 : decode b_law 766 = .ok (.istore 5, 2) := by decide +kernel
theorem d_law_768 : decode b_law 768 = .ok (.aload_n 2, 1) := by decide +kernel
theorem d_law_769 : decode b_law 769 = .ok (.aload_n 0, 1) := by decide +kernel
theorem d_law_770 : decode b_law 770 = .ok (.iload 4, 2) := by decide +kernel
theorem d_law_772 : decode b_law 772 = .ok (.iconst 1, 1) := by decide +kernel
theorem d_law_773 : decode b_law 773 = .ok (.iadd, 1) := by decide +kernel
theorem d_law_774 : decode b_law 774 = .ok (.iaload, 1) := by decide +kernel
theorem d_law_775 : decode b_law 775 = .ok (.i2l, 1) := by decide +kernel
theorem d_law_776 : decode b_law 776 = .ok (.bipush 32, 2) := by decide +kernel
theorem d_law_778 : decode b_law 778 = .ok (.lshl, 1) := by decide +kernel
theorem d_law_779 : decode b_law 779 = .ok (.aload_n 0, 1) := by decide +kernel
theorem d_law_780 : decode b_law 780 = .ok (.iload 4, 2) := by decide +kernel
theorem d_law_782 : decode b_law 782 = .ok (.iconst 2, 1) := by decide +kernel
theorem d_law_783 : decode b_law 783 = .ok (.iadd, 1) := by decide +kernel
theorem d_law_784 : decode b_law 784 = .ok (.iaload, 1) := by decide +kernel
theorem d_law_785 : decode b_law 785 = .ok (.i2l, 1) := by decide +kernel
theorem d_law_786 : decode b_law 786 = .ok (.ldc2_w 86, 3) := by decide +kernel
theorem d_law_789 : decode b_law 789 = .ok (.land, 1) := by decide +kernel
theorem d_law_790 : decode b_law 790 = .ok (.lor, 1) := by decide +kernel
theorem d_law_791 : decode b_law 791 = .ok (.aload_n 0, 1) := by decide +kernel
theorem d_law_792 : decode b_law 792 = .ok (.iload 4, 2) := by decide +kernel
theorem d_law_794 : decode b_law 794 = .ok (.iconst 3, 1) := by decide +kernel
theorem d_law_795 : decode b_law 795 = .ok (.iadd, 1) := by decide +kernel
theorem d_law_796 : decode b_law 796 = .ok (.iaload, 1) := by decide +kernel
theorem d_law_797 : decode b_law 797 = .ok (.i2l, 1) := by decide +kernel
theorem d_law_798 : decode b_law 798 = .ok (.bipush 32, 2) := by decide +kernel
theorem d_law_800 : decode b_law 800 = .ok (.lshl, 1) := by decide +kernel
theorem d_law_801 : decode b_law 801 = .ok (.aload_n 0, 1) := by decide +kernel
theorem d_law_802 : decode b_law 802 = .ok (.iload 4, 2) := by decide +kernel
theorem d_law_804 : decode b_law 804 = .ok (.iconst 4, 1) := by decide +kernel
theorem d_law_805 : decode b_law 805 = .ok (.iadd, 1) := by decide +kernel
theorem d_law_806 : decode b_law 806 = .ok (.iaload, 1) := by decide +kernel
theorem d_law_807 : decode b_law 807 = .ok (.i2l, 1) := by decide +kernel
theorem d_law_808 : decode b_law 808 = .ok (.ldc2_w 86, 3) := by decide +kernel
theorem d_law_811 : decode b_law 811 = .ok (.land, 1) := by decide +kernel
theorem d_law_812 : decode b_law 812 = .ok (.lor, 1) := by decide +kernel
theorem d_law_813 : decode b_law 813 = .ok (.invokevirtual 99, 3) := by decide +kernel
theorem d_law_816 : decode b_law 816 = .ok (.istore 6, 2) := by decide +kernel
theorem d_law_818 : decode b_law 818 = .ok (.goto 1279, 3) := by decide +kernel
theorem d_law_821 : decode b_law 821 = .ok (.aload_n 1, 1) := by decide +kernel
theorem d_law_822 : decode b_law 822 = .ok (.aload_n 0, 1) := by decide +kernel
theorem d_law_823 : decode b_law 823 = .ok (.iload 4, 2) := by decide +kernel
theorem d_law_825 : decode b_law 825 = .ok (.iconst 1, 1) := by decide +kernel
theorem d_law_826 : decode b_law 826 = .ok (.iadd, 1) := by decide +kernel
theorem d_law_827 : decode b_law 827 = .ok (.iaload, 1) := by decide +kernel
theorem d_law_828 : decode b_law 828 = .ok (.aload_n 0, 1) := by decide +kernel
theorem d_law_829 : decode b_law 829 = .ok (.iload 4, 2) := by decide +kernel
theorem d_law_831 : decode b_law 831 = .ok (.iconst 2, 1) := by decide +kernel
theorem d_law_832 : decode b_law 832 = .ok (.iadd, 1) := by decide +kernel
theorem d_law_833 : decode b_law 833 = .ok (.iaload, 1) := by decide +kernel
theorem d_law_834 : decode b_law 834 = .ok (.i2l, 1) := by decide +kernel
theorem d_law_835 : decode b_law 835 = .ok (.bipush 32, 2) := by decide +kernel
theorem d_law_837 : decode b_law 837 = .ok (.lshl, 1) := by decide +kernel
theorem d_law_838 : decode b_law 838 = .ok (.aload_n 0, 1) := by decide +kernel
theorem d_law_839 : decode b_law 839 = .ok (.iload 4, 2) := by decide +kernel
theorem d_law_841 : decode b_law 841 = .ok (.iconst 3, 1) := by decide +kernel
theorem d_law_842 : decode b_law 842 = .ok (.iadd, 1) := by decide +kernel
theorem d_law_843 : decode b_law 843 = .ok (.iaload, 1) := by decide +kernel
theorem d_law_844 : decode b_law 844 = .ok (.i2l, 1) := by decide +kernel
theorem d_law_845 : decode b_law 845 = .ok (.ldc2_w 86, 3) := by decide +kernel
theorem d_law_848 : decode b_law 848 = .ok (.land, 1) := by decide +kernel
theorem d_law_849 : decode b_law 849 = .ok (.lor, 1) := by decide +kernel
theorem d_law_850 : decode b_law 850 = .ok (.aload_n 0, 1) := by decide +kernel
theorem d_law_851 : decode b_law 851 = .ok (.iload 4, 2) := by decide +kernel
theorem d_law_853 : decode b_law 853 = .ok (.iconst 4, 1) := by decide +kernel
theorem d_law_854 : decode b_law 854 = .ok (.iadd, 1) := by decide +kernel
theorem d_law_855 : decode b_law 855 = .ok (.iaload, 1) := by decide +kernel
theorem d_law_856 : decode b_law 856 = .ok (.i2l, 1) := by decide +kernel
theorem d_law_857 : decode b_law 857 = .ok (.bipush 32, 2) := by decide +kernel
theorem d_law_859 : decode b_law 859 = .ok (.lshl, 1) := by decide +kernel
theorem d_law_860 : decode b_law 860 = .ok (.aload_n 0, 1) := by decide +kernel
theorem d_law_861 : decode b_law 861 = .ok (.iload 4, 2) := by decide +kernel
theorem d_law_863 : decode b_law 863 = .ok (.iconst 5, 1) := by decide +kernel
theorem d_law_864 : decode b_law 864 = .ok (.iadd, 1) := by decide +kernel
theorem d_law_865 : decode b_law 865 = .ok (.iaload, 1) := by decide +kernel
theorem d_law_866 : decode b_law 866 = .ok (.i2l, 1) := by decide +kernel
theorem d_law_867 : decode b_law 867 = .ok (.ldc2_w 86, 3) := by decide +kernel
theorem d_law_870 : decode b_law 870 = .ok (.land, 1) := by decide +kernel
theorem d_law_871 : decode b_law 871 = .ok (.lor, 1) := by decide +kernel
theorem d_law_872 : decode b_law 872 = .ok (.aload_n 3, 1) := by decide +kernel
theorem d_law_873 : decode b_law 873 = .ok (.invokestatic 100, 3) := by decide +kernel
theorem d_law_876 : decode b_law 876 = .ok (.istore 5, 2) := by decide +kernel
theorem d_law_878 : decode b_law 878 = .ok (.aload_n 2, 1) := by decide +kernel
theorem d_law_879 : decode b_law 879 = .ok (.aload_n 0, 1) := by decide +kernel
theorem d_law_880 : decode b_law 880 = .ok (.iload 4, 2) := by decide +kernel
theorem d_law_882 : decode b_law 882 = .ok (.iconst 1, 1) := by decide +kernel
theorem d_law_883 : decode b_law 883 = .ok (.iadd, 1) := by decide +kernel
theorem d_law_884 : decode b_law 884 = .ok (.iaload, 1) := by decide +kernel
theorem d_law_885 : decode b_law 885 = .ok (.aload_n 0, 1) := by decide +kernel
theorem d_law_886 : decode b_law 886 = .ok (.iload 4, 2) := by decide +kernel
theorem d_law_888 : decode b_law 888 = .ok (.iconst 2, 1) := by decide +kernel
theorem d_law_889 : decode b_law 889 = .ok (.iadd, 1) := by decide +kernel
theorem d_law_890 : decode b_law 890 = .ok (.iaload, 1) := by decide +kernel
theorem d_law_891 : decode b_law 891 = .ok (.i2l, 1) := by decide +kernel
theorem d_law_892 : decode b_law 892 = .ok (.bipush 32, 2) := by decide +kernel
theorem d_law_894 : decode b_law 894 = .ok (.lshl, 1) := by decide +kernel
theorem d_law_895 : decode b_law 895 = .ok (.aload_n 0, 1) := by decide +kernel
theorem d_law_896 : decode b_law 896 = .ok (.iload 4, 2) := by decide +kernel
theorem d_law_898 : decode b_law 898 = .ok (.iconst 3, 1) := by decide +kernel
theorem d_law_899 : decode b_law 899 = .ok (.iadd, 1) := by decide +kernel
theorem d_law_900 : decode b_law 900 = .ok (.iaload, 1) := by decide +kernel
theorem d_law_901 : decode b_law 901 = .ok (.i2l, 1) := by decide +kernel
theorem d_law_902 : decode b_law 902 = .ok (.ldc2_w 86, 3) := by decide +kernel
theorem d_law_905 : decode b_law 905 = .ok (.land, 1) := by decide +kernel
theorem d_law_906 : decode b_law 906 = .ok (.lor, 1) := by decide +kernel
theorem d_law_907 : decode b_law 907 = .ok (.aload_n 0, 1) := by decide +kernel
theorem d_law_908 : decode b_law 908 = .ok (.iload 4, 2) := by decide +kernel
theorem d_law_910 : decode b_law 910 = .ok (.iconst 4, 1) := by decide +kernel
theorem d_law_911 : decode b_law 911 = .ok (.iadd, 1) := by decide +kernel
theorem d_law_912 : decode b_law 912 = .ok (.iaload, 1) := by decide +kernel
theorem d_law_913 : decode b_law 913 = .ok (.i2l, 1) := by decide +kernel
theorem d_law_914 : decode b_law 914 = .ok (.bipush 32, 2) := by decide +kernel
theorem d_law_916 : decode b_law 916 = .ok (.lshl, 1) := by decide +kernel
theorem d_law_917 : decode b_law 917 = .ok (.aload_n 0, 1) := by decide +kernel
theorem d_law_918 : decode b_law 918 = .ok (.iload 4, 2) := by decide +kernel
theorem d_law_920 : decode b_law 920 = .ok (.iconst 5, 1) := by decide +kernel
theorem d_law_921 : decode b_law 921 = .ok (.iadd, 1) := by decide +kernel
theorem d_law_922 : decode b_law 922 = .ok (.iaload, 1) := by decide +kernel
theorem d_law_923 : decode b_law 923 = .ok (.i2l, 1) := by decide +kernel
theorem d_law_924 : decode b_law 924 = .ok (.ldc2_w 86, 3) := by decide +kernel
theorem d_law_927 : decode b_law 927 = .ok (.land, 1) := by decide +kernel
theorem d_law_928 : decode b_law 928 = .ok (.lor, 1) := by decide +kernel
theorem d_law_929 : decode b_law 929 = .ok (.invokevirtual 103, 3) := by decide +kernel
theorem d_law_932 : decode b_law 932 = .ok (.istore 6, 2) := by decide +kernel
theorem d_law_934 : decode b_law 934 = .ok (.goto 1163, 3) := by decide +kernel
theorem d_law_937 : decode b_law 937 = .ok (.aload_n 1, 1) := by decide +kernel
theorem d_law_938 : decode b_law 938 = .ok (.aload_n 0, 1) := by decide +kernel
theorem d_law_939 : decode b_law 939 = .ok (.iload 4, 2) := by decide +kernel
theorem d_law_941 : decode b_law 941 = .ok (.iconst 1, 1) := by decide +kernel
theorem d_law_942 : decode b_law 942 = .ok (.iadd, 1) := by decide +kernel
theorem d_law_943 : decode b_law 943 = .ok (.iaload, 1) := by decide +kernel
theorem d_law_944 : decode b_law 944 = .ok (.aload_n 0, 1) := by decide +kernel
theorem d_law_945 : decode b_law 945 = .ok (.iload 4, 2) := by decide +kernel
theorem d_law_947 : decode b_law 947 = .ok (.iconst 2, 1) := by decide +kernel
theorem d_law_948 : decode b_law 948 = .ok (.iadd, 1) := by decide +kernel
theorem d_law_949 : decode b_law 949 = .ok (.iaload, 1) := by decide +kernel
theorem d_law_950 : decode b_law 950 = .ok (.i2l, 1) := by decide +kernel
theorem d_law_951 : decode b_law 951 = .ok (.bipush 32, 2) := by decide +kernel
theorem d_law_953 : decode b_law 953 = .ok (.lshl, 1) := by decide +kernel
theorem d_law_954 : decode b_law 954 = .ok (.aload_n 0, 1) := by decide +kernel
theorem d_law_955 : decode b_law 955 = .ok (.iload 4, 2) := by decide +kernel
theorem d_law_957 : decode b_law 957 = .ok (.iconst 3, 1) := by decide +kernel
theorem d_law_958 : decode b_law 958 = .ok (.iadd, 1) := by decide +kernel
theorem d_law_959 : decode b_law 959 = .ok (.iaload, 1) := by decide +kernel
theorem d_law_960 : decode b_law 960 = .ok (.i2l, 1) := by decide +kernel
theorem d_law_961 : decode b_law 961 = .ok (.ldc2_w 86, 3) := by decide +kernel
theorem d_law_964 : decode b_law 964 = .ok (.land, 1) := by decide +kernel
theorem d_law_965 : decode b_law 965 = .ok (.lor, 1) := by decide +kernel
theorem d_law_966 : decode b_law 966 = .ok (.aload_n 0, 1) := by decide +kernel
theorem d_law_967 : decode b_law 967 = .ok (.iload 4, 2) := by decide +kernel
theorem d_law_969 : decode b_law 969 = .ok (.iconst 4, 1) := by decide +kernel
theorem d_law_970 : decode b_law 970 = .ok (.iadd, 1) := by decide +kernel
theorem d_law_971 : decode b_law 971 = .ok (.iaload, 1) := by decide +kernel
theorem d_law_972 : decode b_law 972 = .ok (.i2l, 1) := by decide +kernel
theorem d_law_973 : decode b_law 973 = .ok (.bipush 32, 2) := by decide +kernel
theorem d_law_975 : decode b_law 975 = .ok (.lshl, 1) := by decide +kernel
theorem d_law_976 : decode b_law 976 = .ok (.aload_n 0, 1) := by decide +kernel
theorem d_law_977 : decode b_law 977 = .ok (.iload 4, 2) := by decide +kernel
theorem d_law_979 : decode b_law 979 = .ok (.iconst 5, 1) := by decide +kernel
theorem d_law_980 : decode b_law 980 = .ok (.iadd, 1) := by decide +kernel
theorem d_law_981 : decode b_law 981 = .ok (.iaload, 1) := by decide +kernel
theorem d_law_982 : decode b_law 982 = .ok (.i2l, 1) := by decide +kernel
theorem d_law_983 : decode b_law 983 = .ok (.ldc2_w 86, 3) := by decide +kernel
theorem d_law_986 : decode b_law 986 = .ok (.land, 1) := by decide +kernel
theorem d_law_987 : decode b_law 987 = .ok (.lor, 1) := by decide +kernel
theorem d_law_988 : decode b_law 988 = .ok (.aload_n 0, 1) := by decide +kernel
theorem d_law_989 : decode b_law 989 = .ok (.iload 4, 2) := by decide +kernel
theorem d_law_991 : decode b_law 991 = .ok (.bipush 6, 2) := by decide +kernel
theorem d_law_993 : decode b_law 993 = .ok (.iadd, 1) := by decide +kernel
theorem d_law_994 : decode b_law 994 = .ok (.iaload, 1) := by decide +kernel
theorem d_law_995 : decode b_law 995 = .ok (.i2l, 1) := by decide +kernel
theorem d_law_996 : decode b_law 996 = .ok (.bipush 32, 2) := by decide +kernel
theorem d_law_998 : decode b_law 998 = .ok (.lshl, 1) := by decide +kernel
theorem d_law_999 : decode b_law 999 = .ok (.aload_n 0, 1) := by decide +kernel
theorem d_law_1000 : decode b_law 1000 = .ok (.iload 4, 2) := by decide +kernel
theorem d_law_1002 : decode b_law 1002 = .ok (.bipush 7, 2) := by decide +kernel
theorem d_law_1004 : decode b_law 1004 = .ok (.iadd, 1) := by decide +kernel
theorem d_law_1005 : decode b_law 1005 = .ok (.iaload, 1) := by decide +kernel
theorem d_law_1006 : decode b_law 1006 = .ok (.i2l, 1) := by decide +kernel
theorem d_law_1007 : decode b_law 1007 = .ok (.ldc2_w 86, 3) := by decide +kernel
theorem d_law_1010 : decode b_law 1010 = .ok (.land, 1) := by decide +kernel
theorem d_law_1011 : decode b_law 1011 = .ok (.lor, 1) := by decide +kernel
theorem d_law_1012 : decode b_law 1012 = .ok (.aload_n 0, 1) := by decide +kernel
theorem d_law_1013 : decode b_law 1013 = .ok (.iload 4, 2) := by decide +kernel
theorem d_law_1015 : decode b_law 1015 = .ok (.bipush 8, 2) := by decide +kernel
theorem d_law_1017 : decode b_law 1017 = .ok (.iadd, 1) := by decide +kernel
theorem d_law_1018 : decode b_law 1018 = .ok (.iaload, 1) := by decide +kernel
theorem d_law_1019 : decode b_law 1019 = .ok (.i2l, 1) := by decide +kernel
theorem d_law_1020 : decode b_law 1020 = .ok (.bipush 32, 2) := by decide +kernel
theorem d_law_1022 : decode b_law 1022 = .ok (.lshl, 1) := by decide +kernel
theorem d_law_1023 : decode b_law 1023 = .ok (.aload_n 0, 1) := by decide +kernel
theorem d_law_1024 : decode b_law 1024 = .ok (.iload 4, 2) := by decide +kernel
theorem d_law_1026 : decode b_law 1026 = .ok (.bipush 9, 2) := by decide +kernel
theorem d_law_1028 : decode b_law 1028 = .ok (.iadd, 1) := by decide +kernel
theorem d_law_1029 : decode b_law 1029 = .ok (.iaload, 1) := by decide +kernel
theorem d_law_1030 : decode b_law 1030 = .ok (.i2l, 1) := by decide +kernel
theorem d_law_1031 : decode b_law 1031 = .ok (.ldc2_w 86, 3) := by decide +kernel
theorem d_law_1034 : decode b_law 1034 = .ok (.land, 1) := by decide +kernel
theorem d_law_1035 : decode b_law 1035 = .ok (.lor, 1) := by decide +kernel
theorem d_law_1036 : decode b_law 1036 = .ok (.aload_n 0, 1) := by decide +kernel
theorem d_law_1037 : decode b_law 1037 = .ok (.iload 4, 2) := by decide +kernel
theorem d_law_1039 : decode b_law 1039 = .ok (.bipush 10, 2) := by decide +kernel
theorem d_law_1041 : decode b_law 1041 = .ok (.iadd, 1) := by decide +kernel
theorem d_law_1042 : decode b_law 1042 = .ok (.iaload, 1) := by decide +kernel
theorem d_law_1043 : decode b_law 1043 = .ok (.aload_n 0, 1) := by decide +kernel
theorem d_law_1044 : decode b_law 1044 = .ok (.iload 4, 2) := by decide +kernel
theorem d_law_1046 : decode b_law 1046 = .ok (.bipush 11, 2) := by decide +kernel
theorem d_law_1048 : decode b_law 1048 = .ok (.iadd, 1) := by decide +kernel
theorem d_law_1049 : decode b_law 1049 = .ok (.iaload, 1) := by decide +kernel
theorem d_law_1050 : decode b_law 1050 = .ok (.i2l, 1) := by decide +kernel
theorem d_law_1051 : decode b_law 1051 = .ok (.bipush 32, 2) := by decide +kernel
theorem d_law_1053 : decode b_law 1053 = .ok (.lshl, 1) := by decide +kernel
theorem d_law_1054 : decode b_law 1054 = .ok (.aload_n 0, 1) := by decide +kernel
theorem d_law_1055 : decode b_law 1055 = .ok (.iload 4, 2) := by decide +kernel
theorem d_law_1057 : decode b_law 1057 = .ok (.bipush 12, 2) := by decide +kernel
theorem d_law_1059 : decode b_law 1059 = .ok (.iadd, 1) := by decide +kernel
theorem d_law_1060 : decode b_law 1060 = .ok (.iaload, 1) := by decide +kernel
theorem d_law_1061 : decode b_law 1061 = .ok (.i2l, 1) := by decide +kernel
theorem d_law_1062 : decode b_law 1062 = .ok (.ldc2_w 86, 3) := by decide +kernel
theorem d_law_1065 : decode b_law 1065 = .ok (.land, 1) := by decide +kernel
theorem d_law_1066 : decode b_law 1066 = .ok (.lor, 1) := by decide +kernel
theorem d_law_1067 : decode b_law 1067 = .ok (.aload_n 3, 1) := by decide +kernel
theorem d_law_1068 : decode b_law 1068 = .ok (.invokestatic 104, 3) := by decide +kernel
theorem d_law_1211 : decode b_law 1211 = .ok (.aload_n 1, 1) := by decide +kernel
theorem d_law_1212 : decode b_law 1212 = .ok (.aload_n 0, 1) := by decide +kernel
theorem d_law_1213 : decode b_law 1213 = .ok (.iload 4, 2) := by decide +kernel
theorem d_law_1215 : decode b_law 1215 = .ok (.iconst 1, 1) := by decide +kernel
theorem d_law_1216 : decode b_law 1216 = .ok (.iadd, 1) := by decide +kernel
theorem d_law_1217 : decode b_law 1217 = .ok (.iaload, 1) := by decide +kernel
theorem d_law_1218 : decode b_law 1218 = .ok (.aload_n 0, 1) := by decide +kernel
theorem d_law_1219 : decode b_law 1219 = .ok (.iload 4, 2) := by decide +kernel
theorem d_law_1221 : decode b_law 1221 = .ok (.iconst 2, 1) := by decide +kernel
theorem d_law_1222 : decode b_law 1222 = .ok (.iadd, 1) := by decide +kernel
theorem d_law_1223 : decode b_law 1223 = .ok (.iaload, 1) := by decide +kernel
theorem d_law_1224 : decode b_law 1224 = .ok (.aload_n 3, 1) := by decide +kernel
theorem d_law_1225 : decode b_law 1225 = .ok (.invokestatic 108, 3) := by decide +kernel
theorem d_law_1228 : decode b_law 1228 = .ok (.istore 5, 2) := by decide +kernel
theorem d_law_1230 : decode b_law 1230 = .ok (.aload_n 2, 1) := by decide +kernel
theorem d_law_1231 : decode b_law 1231 = .ok (.aload_n 0, 1) := by decide +kernel
theorem d_law_1232 : decode b_law 1232 = .ok (.iload 4, 2) := by decide +kernel
theorem d_law_1234 : decode b_law 1234 = .ok (.iconst 1, 1) := by decide +kernel
theorem d_law_1235 : decode b_law 1235 = .ok (.iadd, 1) := by decide +kernel
theorem d_law_1236 : decode b_law 1236 = .ok (.iaload, 1) := by decide +kernel
theorem d_law_1237 : decode b_law 1237 = .ok (.aload_n 0, 1) := by decide +kernel
theorem d_law_1238 : decode b_law 1238 = .ok (.iload 4, 2) := by decide +kernel
theorem d_law_1240 : decode b_law 1240 = .ok (.iconst 2, 1) := by decide +kernel
theorem d_law_1241 : decode b_law 1241 = .ok (.iadd, 1) := by decide +kernel
theorem d_law_1242 : decode b_law 1242 = .ok (.iaload, 1) := by decide +kernel
theorem d_law_1243 : decode b_law 1243 = .ok (.invokevirtual 111, 3) := by decide +kernel
theorem d_law_1246 : decode b_law 1246 = .ok (.istore 6, 2) := by decide +kernel
theorem d_law_1248 : decode b_law 1248 = .ok (.goto 849, 3) := by decide +kernel
theorem d_law_1251 : decode b_law 1251 = .ok (.aload_n 1, 1) := by decide +kernel
theorem d_law_1252 : decode b_law 1252 = .ok (.aload_n 0, 1) := by decide +kernel
theorem d_law_1253 : decode b_law 1253 = .ok (.iload 4, 2) := by decide +kernel
theorem d_law_1255 : decode b_law 1255 = .ok (.iconst 1, 1) := by decide +kernel
theorem d_law_1256 : decode b_law 1256 = .ok (.iadd, 1) := by decide +kernel
theorem d_law_1257 : decode b_law 1257 = .ok (.iaload, 1) := by decide +kernel
theorem d_law_1258 : decode b_law 1258 = .ok (.aload_n 0, 1) := by decide +kernel
theorem d_law_1259 : decode b_law 1259 = .ok (.iload 4, 2) := by decide +kernel
theorem d_law_1261 : decode b_law 1261 = .ok (.iconst 2, 1) := by decide +kernel
theorem d_law_1262 : decode b_law 1262 = .ok (.iadd, 1) := by decide +kernel
theorem d_law_1263 : decode b_law 1263 = .ok (.iaload, 1) := by decide +kernel
theorem d_law_1264 : decode b_law 1264 = .ok (.i2l, 1) := by decide +kernel
theorem d_law_1265 : decode b_law 1265 = .ok (.bipush 32, 2) := by decide +kernel
theorem d_law_1267 : decode b_law 1267 = .ok (.lshl, 1) := by decide +kernel
theorem d_law_1268 : decode b_law 1268 = .ok (.aload_n 0, 1) := by decide +kernel
theorem d_law_1269 : decode b_law 1269 = .ok (.iload 4, 2) := by decide +kernel
theorem d_law_1271 : decode b_law 1271 = .ok (.iconst 3, 1) := by decide +kernel
theorem d_law_1272 : decode b_law 1272 = .ok (.iadd, 1) := by decide +kernel
theorem d_law_1273 : decode b_law 1273 = .ok (.iaload, 1) := by decide +kernel
theorem d_law_1274 : decode b_law 1274 = .ok (.i2l, 1) := by decide +kernel
theorem d_law_1275 : decode b_law 1275 = .ok (.ldc2_w 86, 3) := by decide +kernel
theorem d_law_1278 : decode b_law 1278 = .ok (.land, 1) := by decide +kernel
theorem d_law_1279 : decode b_law 1279 = .ok (.lor, 1) := by decide +kernel
theorem d_law_1280 : decode b_law 1280 = .ok (.aload_n 0, 1) := by decide +kernel
theorem d_law_1281 : decode b_law 1281 = .ok (.iload 4, 2) := by decide +kernel
theorem d_law_1283 : decode b_law 1283 = .ok (.iconst 4, 1) := by decide +kernel
theorem d_law_1284 : decode b_law 1284 = .ok (.iadd, 1) := by decide +kernel
theorem d_law_1285 : decode b_law 1285 = .ok (.iaload, 1) := by decide +kernel
theorem d_law_1286 : decode b_law 1286 = .ok (.i2l, 1) := by decide +kernel
theorem d_law_1287 : decode b_law 1287 = .ok (.bipush 32, 2) := by decide +kernel
theorem d_law_1289 : decode b_law 1289 = .ok (.lshl, 1) := by decide +kernel
theorem d_law_1290 : decode b_law 1290 = .ok (.aload_n 0, 1) := by decide +kernel
theorem d_law_1291 : decode b_law 1291 = .ok (.iload 4, 2) := by decide +kernel
theorem d_law_1293 : decode b_law 1293 = .ok (.iconst 5, 1) := by decide +kernel
theorem d_law_1294 : decode b_law 1294 = .ok (.iadd, 1) := by decide +kernel
theorem d_law_1295 : decode b_law 1295 = .ok (.iaload, 1) := by decide +kernel
theorem d_law_1296 : decode b_law 1296 = .ok (.i2l, 1) := by decide +kernel
theorem d_law_1297 : decode b_law 1297 = .ok (.ldc2_w 86, 3) := by decide +kernel
theorem d_law_1300 : decode b_law 1300 = .ok (.land, 1) := by decide +kernel
theorem d_law_1301 : decode b_law 1301 = .ok (.lor, 1) := by decide +kernel
theorem d_law_1302 : decode b_law 1302 = .ok (.aload_n 0, 1) := by decide +kernel
theorem d_law_1303 : decode b_law 1303 = .ok (.iload 4, 2) := by decide +kernel
theorem d_law_1305 : decode b_law 1305 = .ok (.bipush 6, 2) := by decide +kernel
theorem d_law_1307 : decode b_law 1307 = .ok (.iadd, 1) := by decide +kernel
theorem d_law_1308 : decode b_law 1308 = .ok (.iaload, 1) := by decide +kernel
theorem d_law_1309 : decode b_law 1309 = .ok (.aload_n 0, 1) := by decide +kernel
theorem d_law_1310 : decode b_law 1310 = .ok (.iload 4, 2) := by decide +kernel
theorem d_law_1312 : decode b_law 1312 = .ok (.bipush 7, 2) := by decide +kernel
theorem d_law_1314 : decode b_law 1314 = .ok (.iadd, 1) := by decide +kernel
theorem d_law_1315 : decode b_law 1315 = .ok (.iaload, 1) := by decide +kernel
theorem d_law_1316 : decode b_law 1316 = .ok (.aload_n 3, 1) := by decide +kernel
theorem d_law_1317 : decode b_law 1317 = .ok (.invokestatic 112, 3) := by decide +kernel
theorem d_law_1320 : decode b_law 1320 = .ok (.istore 5, 2) := by decide +kernel
theorem d_law_1322 : decode b_law 1322 = .ok (.aload_n 2, 1) := by decide +kernel
theorem d_law_1323 : decode b_law 1323 = .ok (.aload_n 0, 1) := by decide +kernel
theorem d_law_1324 : decode b_law 1324 = .ok (.iload 4, 2) := by decide +kernel
theorem d_law_1326 : decode b_law 1326 = .ok (.iconst 1, 1) := by decide +kernel
theorem d_law_1327 : decode b_law 1327 = .ok (.iadd, 1) := by decide +kernel
theorem d_law_1328 : decode b_law 1328 = .ok (.iaload, 1) := by decide +kernel
theorem d_law_1329 : decode b_law 1329 = .ok (.aload_n 0, 1) := by decide +kernel
theorem d_law_1330 : decode b_law 1330 = .ok (.iload 4, 2) := by decide +kernel
theorem d_law_1332 : decode b_law 1332 = .ok (.iconst 2, 1) := by decide +kernel
theorem d_law_1333 : decode b_law 1333 = .ok (.iadd, 1) := by decide +kernel
theorem d_law_1334 : decode b_law 1334 = .ok (.iaload, 1) := by decide +kernel
theorem d_law_1335 : decode b_law 1335 = .ok (.i2l, 1) := by decide +kernel
theorem d_law_1336 : decode b_law 1336 = .ok (.bipush 32, 2) := by decide +kernel
theorem d_law_1338 : decode b_law 1338 = .ok (.lshl, 1) := by decide +kernel
theorem d_law_1339 : decode b_law 1339 = .ok (.aload_n 0, 1) := by decide +kernel
theorem d_law_1340 : decode b_law 1340 = .ok (.iload 4, 2) := by decide +kernel
theorem d_law_1342 : decode b_law 1342 = .ok (.iconst 3, 1) := by decide +kernel
theorem d_law_1343 : decode b_law 1343 = .ok (.iadd, 1) := by decide +kernel
theorem d_law_1344 : decode b_law 1344 = .ok (.iaload, 1) := by decide +kernel
theorem d_law_1345 : decode b_law 1345 = .ok (.i2l, 1) := by decide +kernel
theorem d_law_1346 : decode b_law 1346 = .ok (.ldc2_w 86, 3) := by decide +kernel
theorem d_law_1349 : decode b_law 1349 = .ok (.land, 1) := by decide +kernel
theorem d_law_1350 : decode b_law 1350 = .ok (.lor, 1) := by decide +kernel
theorem d_law_1351 : decode b_law 1351 = .ok (.aload_n 0, 1) := by decide +kernel
theorem d_law_1352 : decode b_law 1352 = .ok (.iload 4, 2) := by decide +kernel
theorem d_law_1354 : decode b_law 1354 = .ok (.iconst 4, 1) := by decide +kernel
theorem d_law_1355 : decode b_law 1355 = .ok (.iadd, 1) := by decide +kernel
theorem d_law_1356 : decode b_law 1356 = .ok (.iaload, 1) := by decide +kernel
theorem d_law_1357 : decode b_law 1357 = .ok (.i2l, 1) := by decide +kernel
theorem d_law_1358 : decode b_law 1358 = .ok (.bipush 32, 2) := by decide +kernel
theorem d_law_1360 : decode b_law 1360 = .ok (.lshl, 1) := by decide +kernel
theorem d_law_1361 : decode b_law 1361 = .ok (.aload_n 0, 1) := by decide +kernel
theorem d_law_1362 : decode b_law 1362 = .ok (.iload 4, 2) := by decide +kernel
theorem d_law_1364 : decode b_law 1364 = .ok (.iconst 5, 1) := by decide +kernel
theorem d_law_1365 : decode b_law 1365 = .ok (.iadd, 1) := by decide +kernel
theorem d_law_1366 : decode b_law 1366 = .ok (.iaload, 1) := by decide +kernel
theorem d_law_1367 : decode b_law 1367 = .ok (.i2l, 1) := by decide +kernel
theorem d_law_1368 : decode b_law 1368 = .ok (.ldc2_w 86, 3) := by decide +kernel
theorem d_law_1371 : decode b_law 1371 = .ok (.land, 1) := by decide +kernel
theorem d_law_1372 : decode b_law 1372 = .ok (.lor, 1) := by decide +kernel
theorem d_law_1373 : decode b_law 1373 = .ok (.aload_n 0, 1) := by decide +kernel
theorem d_law_1374 : decode b_law 1374 = .ok (.iload 4, 2) := by decide +kernel
theorem d_law_1376 : decode b_law 1376 = .ok (.bipush 6, 2) := by decide +kernel
theorem d_law_1378 : decode b_law 1378 = .ok (.iadd, 1) := by decide +kernel
theorem d_law_1379 : decode b_law 1379 = .ok (.iaload, 1) := by decide +kernel
theorem d_law_1380 : decode b_law 1380 = .ok (.aload_n 0, 1) := by decide +kernel
theorem d_law_1381 : decode b_law 1381 = .ok (.iload 4, 2) := by decide +kernel
theorem d_law_1383 : decode b_law 1383 = .ok (.bipush 7, 2) := by decide +kernel
theorem d_law_1385 : decode b_law 1385 = .ok (.iadd, 1) := by decide +kernel
theorem d_law_1386 : decode b_law 1386 = .ok (.iaload, 1) := by decide +kernel
theorem d_law_1387 : decode b_law 1387 = .ok (.invokevirtual 115, 3) := by decide +kernel
theorem d_law_1390 : decode b_law 1390 = .ok (.istore 6, 2) := by decide +kernel
theorem d_law_1392 : decode b_law 1392 = .ok (.goto 705, 3) := by decide +kernel
theorem d_law_1395 : decode b_law 1395 = .ok (.aload_n 1, 1) := by decide +kernel
theorem d_law_1396 : decode b_law 1396 = .ok (.aload_n 0, 1) := by decide +kernel
theorem d_law_1397 : decode b_law 1397 = .ok (.iload 4, 2) := by decide +kernel
theorem d_law_1399 : decode b_law 1399 = .ok (.iconst 1, 1) := by decide +kernel
theorem d_law_1400 : decode b_law 1400 = .ok (.iadd, 1) := by decide +kernel
theorem d_law_1401 : decode b_law 1401 = .ok (.iaload, 1) := by decide +kernel
theorem d_law_1402 : decode b_law 1402 = .ok (.aload_n 0, 1) := by decide +kernel
theorem d_law_1403 : decode b_law 1403 = .ok (.iload 4, 2) := by decide +kernel
theorem d_law_1405 : decode b_law 1405 = .ok (.iconst 2, 1) := by decide +kernel
theorem d_law_1406 : decode b_law 1406 = .ok (.iadd, 1) := by decide +kernel
theorem d_law_1407 : decode b_law 1407 = .ok (.iaload, 1) := by decide +kernel
theorem d_law_1408 : decode b_law 1408 = .ok (.i2l, 1) := by decide +kernel
theorem d_law_1409 : decode b_law 1409 = .ok (.bipush 32, 2) := by decide +kernel
theorem d_law_1411 : decode b_law 1411 = .ok (.lshl, 1) := by decide +kernel
theorem d_law_1412 : decode b_law 1412 = .ok (.aload_n 0, 1) := by decide +kernel
theorem d_law_1413 : decode b_law 1413 = .ok (.iload 4, 2) := by decide +kernel
theorem d_law_1415 : decode b_law 1415 = .ok (.iconst 3, 1) := by decide +kernel
theorem d_law_1416 : decode b_law 1416 = .ok (.iadd, 1) := by decide +kernel
theorem d_law_1417 : decode b_law 1417 = .ok (.iaload, 1) := by decide +kernel
theorem d_law_1418 : decode b_law 1418 = .ok (.i2l, 1) := by decide +kernel
theorem d_law_1419 : decode b_law 1419 = .ok (.ldc2_w 86, 3) := by decide +kernel
theorem d_law_1422 : decode b_law 1422 = .ok (.land, 1) := by decide +kernel
theorem d_law_1423 : decode b_law 1423 = .ok (.lor, 1) := by decide +kernel
theorem d_law_1424 : decode b_law 1424 = .ok (.aload_n 0, 1) := by decide +kernel
theorem d_law_1425 : decode b_law 1425 = .ok (.iload 4, 2) := by decide +kernel
theorem d_law_1427 : decode b_law 1427 = .ok (.iconst 4, 1) := by decide +kernel
theorem d_law_1428 : decode b_law 1428 = .ok (.iadd, 1) := by decide +kernel
theorem d_law_1429 : decode b_law 1429 = .ok (.iaload, 1) := by decide +kernel
theorem d_law_1430 : decode b_law 1430 = .ok (.i2l, 1) := by decide +kernel
theorem d_law_1431 : decode b_law 1431 = .ok (.bipush 32, 2) := by decide +kernel
theorem d_law_1433 : decode b_law 1433 = .ok (.lshl, 1) := by decide +kernel
theorem d_law_1434 : decode b_law 1434 = .ok (.aload_n 0, 1) := by decide +kernel
theorem d_law_1435 : decode b_law 1435 = .ok (.iload 4, 2) := by decide +kernel
theorem d_law_1437 : decode b_law 1437 = .ok (.iconst 5, 1) := by decide +kernel
theorem d_law_1438 : decode b_law 1438 = .ok (.iadd, 1) := by decide +kernel
theorem d_law_1439 : decode b_law 1439 = .ok (.iaload, 1) := by decide +kernel
theorem d_law_1440 : decode b_law 1440 = .ok (.i2l, 1) := by decide +kernel
theorem d_law_1441 : decode b_law 1441 = .ok (.ldc2_w 86, 3) := by decide +kernel
theorem d_law_1444 : decode b_law 1444 = .ok (.land, 1) := by decide +kernel
theorem d_law_1445 : decode b_law 1445 = .ok (.lor, 1) := by decide +kernel
theorem d_law_1446 : decode b_law 1446 = .ok (.aload_n 0, 1) := by decide +kernel
theorem d_law_1447 : decode b_law 1447 = .ok (.iload 4, 2) := by decide +kernel
theorem d_law_1449 : decode b_law 1449 = .ok (.bipush 6, 2) := by decide +kernel
theorem d_law_1451 : decode b_law 1451 = .ok (.iadd, 1) := by decide +kernel
theorem d_law_1452 : decode b_law 1452 = .ok (.iaload, 1) := by decide +kernel
theorem d_law_1453 : decode b_law 1453 = .ok (.aload_n 0, 1) := by decide +kernel
theorem d_law_1454 : decode b_law 1454 = .ok (.iload 4, 2) := by decide +kernel
theorem d_law_1456 : decode b_law 1456 = .ok (.bipush 7, 2) := by decide +kernel
theorem d_law_1458 : decode b_law 1458 = .ok (.iadd, 1) := by decide +kernel
theorem d_law_1459 : decode b_law 1459 = .ok (.iaload, 1) := by decide +kernel
theorem d_law_1460 : decode b_law 1460 = .ok (.aload_n 3, 1) := by decide +kernel
theorem d_law_1461 : decode b_law 1461 = .ok (.invokestatic 116, 3) := by decide +kernel
theorem d_law_1539 : decode b_law 1539 = .ok (.aload_n 1, 1) := by decide +kernel
theorem d_law_1540 : decode b_law 1540 = .ok (.aload_n 0, 1) := by decide +kernel
theorem d_law_1541 : decode b_law 1541 = .ok (.iload 4, 2) := by decide +kernel
theorem d_law_1543 : decode b_law 1543 = .ok (.iconst 1, 1) := by decide +kernel
theorem d_law_1544 : decode b_law 1544 = .ok (.iadd, 1) := by decide +kernel
theorem d_law_1545 : decode b_law 1545 = .ok (.iaload, 1) := by decide +kernel
theorem d_law_1546 : decode b_law 1546 = .ok (.aload_n 0, 1) := by decide +kernel
theorem d_law_1547 : decode b_law 1547 = .ok (.iload 4, 2) := by decide +kernel
theorem d_law_1549 : decode b_law 1549 = .ok (.iconst 2, 1) := by decide +kernel
theorem d_law_1550 : decode b_law 1550 = .ok (.iadd, 1) := by decide +kernel
theorem d_law_1551 : decode b_law 1551 = .ok (.iaload, 1) := by decide +kernel
theorem d_law_1552 : decode b_law 1552 = .ok (.aload_n 3, 1) := by decide +kernel
theorem d_law_1553 : decode b_law 1553 = .ok (.invokestatic 119, 3) := by decide +kernel
theorem d_law_1579 : decode b_law 1579 = .ok (.aload_n 1, 1) := by decide +kernel
theorem d_law_1580 : decode b_law 1580 = .ok (.invokevirtual 122, 3) := by decide +kernel
theorem d_law_1592 : decode b_law 1592 = .ok (.aload_n 1, 1) := by decide +kernel
theorem d_law_1593 : decode b_law 1593 = .ok (.aload_n 0, 1) := by decide +kernel
theorem d_law_1594 : decode b_law 1594 = .ok (.iload 4, 2) := by decide +kernel
theorem d_law_1596 : decode b_law 1596 = .ok (.iconst 1, 1) := by decide +kernel
theorem d_law_1597 : decode b_law 1597 = .ok (.iadd, 1) := by decide +kernel
theorem d_law_1598 : decode b_law 1598 = .ok (.iaload, 1) := by decide +kernel
theorem d_law_1599 : decode b_law 1599 = .ok (.aload_n 0, 1) := by decide +kernel
theorem d_law_1600 : decode b_law 1600 = .ok (.iload 4, 2) := by decide +kernel
theorem d_law_1602 : decode b_law 1602 = .ok (.iconst 2, 1) := by decide +kernel
theorem d_law_1603 : decode b_law 1603 = .ok (.iadd, 1) := by decide +kernel
theorem d_law_1604 : decode b_law 1604 = .ok (.iaload, 1) := by decide +kernel
theorem d_law_1605 : decode b_law 1605 = .ok (.aload_n 3, 1) := by decide +kernel
theorem d_law_1606 : decode b_law 1606 = .ok (.invokestatic 126, 3) := by decide +kernel
theorem d_law_1609 : decode b_law 1609 = .ok (.istore 5, 2) := by decide +kernel
theorem d_law_1611 : decode b_law 1611 = .ok (.aload_n 2, 1) := by decide +kernel
theorem d_law_1612 : decode b_law 1612 = .ok (.aload_n 0, 1) := by decide +kernel
theorem d_law_1613 : decode b_law 1613 = .ok (.iload 4, 2) := by decide +kernel
theorem d_law_1615 : decode b_law 1615 = .ok (.iconst 1, 1) := by decide +kernel
theorem d_law_1616 : decode b_law 1616 = .ok (.iadd, 1) := by decide +kernel
theorem d_law_1617 : decode b_law 1617 = .ok (.iaload, 1) := by decide +kernel
theorem d_law_1618 : decode b_law 1618 = .ok (.aload_n 0, 1) := by decide +kernel
theorem d_law_1619 : decode b_law 1619 = .ok (.iload 4, 2) := by decide +kernel
theorem d_law_1621 : decode b_law 1621 = .ok (.iconst 2, 1) := by decide +kernel
theorem d_law_1622 : decode b_law 1622 = .ok (.iadd, 1) := by decide +kernel
theorem d_law_1623 : decode b_law 1623 = .ok (.iaload, 1) := by decide +kernel
theorem d_law_1624 : decode b_law 1624 = .ok (.invokevirtual 128, 3) := by decide +kernel
theorem d_law_1627 : decode b_law 1627 = .ok (.istore 6, 2) := by decide +kernel
theorem d_law_1629 : decode b_law 1629 = .ok (.aload_n 2, 1) := by decide +kernel
theorem d_law_1630 : decode b_law 1630 = .ok (.invokevirtual 129, 3) := by decide +kernel
theorem d_law_1633 : decode b_law 1633 = .ok (.iload 5, 2) := by decide +kernel
theorem d_law_1635 : decode b_law 1635 = .ok (.if_icmp .eq 5, 3) := by decide +kernel
theorem d_law_1638 : decode b_law 1638 = .ok (.iconst 0, 1) := by decide +kernel
theorem d_law_1639 : decode b_law 1639 = .ok (.ireturn, 1) := by decide +kernel
theorem d_law_1640 : decode b_law 1640 = .ok (.iload 5, 2) := by decide +kernel
theorem d_law_1642 : decode b_law 1642 = .ok (.ifCond .ne 15, 3) := by decide +kernel
theorem d_law_1645 : decode b_law 1645 = .ok (.aload_n 3, 1) := by decide +kernel
theorem d_law_1646 : decode b_law 1646 = .ok (.iconst 0, 1) := by decide +kernel
theorem d_law_1647 : decode b_law 1647 = .ok (.laload, 1) := by decide +kernel
theorem d_law_1648 : decode b_law 1648 = .ok (.iload 6, 2) := by decide +kernel
theorem d_law_1650 : decode b_law 1650 = .ok (.i2l, 1) := by decide +kernel
theorem d_law_1651 : decode b_law 1651 = .ok (.lcmp, 1) := by decide +kernel
theorem d_law_1652 : decode b_law 1652 = .ok (.ifCond .eq 5, 3) := by decide +kernel
theorem d_law_1655 : decode b_law 1655 = .ok (.iconst 0, 1) := by decide +kernel
theorem d_law_1656 : decode b_law 1656 = .ok (.ireturn, 1) := by decide +kernel
theorem d_law_1657 : decode b_law 1657 = .ok (.goto 440, 3) := by decide +kernel
theorem d_law_1660 : decode b_law 1660 = .ok (.aload_n 1, 1) := by decide +kernel
theorem d_law_1661 : decode b_law 1661 = .ok (.aload_n 0, 1) := by decide +kernel
theorem d_law_1662 : decode b_law 1662 = .ok (.iload 4, 2) := by decide +kernel
theorem d_law_1664 : decode b_law 1664 = .ok (.iconst 1, 1) := by decide +kernel
theorem d_law_1665 : decode b_law 1665 = .ok (.iadd, 1) := by decide +kernel
theorem d_law_1666 : decode b_law 1666 = .ok (.iaload, 1) := by decide +kernel
theorem d_law_1667 : decode b_law 1667 = .ok (.i2l, 1) := by decide +kernel
theorem d_law_1668 : decode b_law 1668 = .ok (.bipush 32, 2) := by decide +kernel
theorem d_law_1670 : decode b_law 1670 = .ok (.lshl, 1) := by decide +kernel
theorem d_law_1671 : decode b_law 1671 = .ok (.aload_n 0, 1) := by decide +kernel
theorem d_law_1672 : decode b_law 1672 = .ok (.iload 4, 2) := by decide +kernel
theorem d_law_1674 : decode b_law 1674 = .ok (.iconst 2, 1) := by decide +kernel
theorem d_law_1675 : decode b_law 1675 = .ok (.iadd, 1) := by decide +kernel
theorem d_law_1676 : decode b_law 1676 = .ok (.iaload, 1) := by decide +kernel
theorem d_law_1677 : decode b_law 1677 = .ok (.i2l, 1) := by decide +kernel
theorem d_law_1678 : decode b_law 1678 = .ok (.ldc2_w 86, 3) := by decide +kernel
theorem d_law_1681 : decode b_law 1681 = .ok (.land, 1) := by decide +kernel
theorem d_law_1682 : decode b_law 1682 = .ok (.lor, 1) := by decide +kernel
theorem d_law_1683 : decode b_law 1683 = .ok (.aload_n 0, 1) := by decide +kernel
theorem d_law_1684 : decode b_law 1684 = .ok (.iload 4, 2) := by decide +kernel
theorem d_law_1686 : decode b_law 1686 = .ok (.iconst 3, 1) := by decide +kernel
theorem d_law_1687 : decode b_law 1687 = .ok (.iadd, 1) := by decide +kernel
theorem d_law_1688 : decode b_law 1688 = .ok (.iaload, 1) := by decide +kernel
theorem d_law_1689 : decode b_law 1689 = .ok (.i2l, 1) := by decide +kernel
theorem d_law_1690 : decode b_law 1690 = .ok (.bipush 32, 2) := by decide +kernel
theorem d_law_1692 : decode b_law 1692 = .ok (.lshl, 1) := by decide +kernel
theorem d_law_1693 : decode b_law 1693 = .ok (.aload_n 0, 1) := by decide +kernel
theorem d_law_1694 : decode b_law 1694 = .ok (.iload 4, 2) := by decide +kernel
theorem d_law_1696 : decode b_law 1696 = .ok (.iconst 4, 1) := by decide +kernel
theorem d_law_1697 : decode b_law 1697 = .ok (.iadd, 1) := by decide +kernel
theorem d_law_1698 : decode b_law 1698 = .ok (.iaload, 1) := by decide +kernel
theorem d_law_1699 : decode b_law 1699 = .ok (.i2l, 1) := by decide +kernel
theorem d_law_1700 : decode b_law 1700 = .ok (.ldc2_w 86, 3) := by decide +kernel
theorem d_law_1703 : decode b_law 1703 = .ok (.land, 1) := by decide +kernel
theorem d_law_1704 : decode b_law 1704 = .ok (.lor, 1) := by decide +kernel
theorem d_law_1705 : decode b_law 1705 = .ok (.aload_n 0, 1) := by decide +kernel
theorem d_law_1706 : decode b_law 1706 = .ok (.iload 4, 2) := by decide +kernel
theorem d_law_1708 : decode b_law 1708 = .ok (.iconst 5, 1) := by decide +kernel
theorem d_law_1709 : decode b_law 1709 = .ok (.iadd, 1) := by decide +kernel
theorem d_law_1710 : decode b_law 1710 = .ok (.iaload, 1) := by decide +kernel
theorem d_law_1711 : decode b_law 1711 = .ok (.i2l, 1) := by decide +kernel
theorem d_law_1712 : decode b_law 1712 = .ok (.bipush 32, 2) := by decide +kernel
theorem d_law_1714 : decode b_law 1714 = .ok (.lshl, 1) := by decide +kernel
theorem d_law_1715 : decode b_law 1715 = .ok (.aload_n 0, 1) := by decide +kernel
theorem d_law_1716 : decode b_law 1716 = .ok (.iload 4, 2) := by decide +kernel
theorem d_law_1718 : decode b_law 1718 = .ok (.bipush 6, 2) := by decide +kernel
theorem d_law_1720 : decode b_law 1720 = .ok (.iadd, 1) := by decide +kernel
theorem d_law_1721 : decode b_law 1721 = .ok (.iaload, 1) := by decide +kernel
theorem d_law_1722 : decode b_law 1722 = .ok (.i2l, 1) := by decide +kernel
theorem d_law_1723 : decode b_law 1723 = .ok (.ldc2_w 86, 3) := by decide +kernel
theorem d_law_1726 : decode b_law 1726 = .ok (.land, 1) := by decide +kernel
theorem d_law_1727 : decode b_law 1727 = .ok (.lor, 1) := by decide +kernel
theorem d_law_1728 : decode b_law 1728 = .ok (.aload_n 0, 1) := by decide +kernel
theorem d_law_1729 : decode b_law 1729 = .ok (.iload 4, 2) := by decide +kernel
theorem d_law_1731 : decode b_law 1731 = .ok (.bipush 7, 2) := by decide +kernel
theorem d_law_1733 : decode b_law 1733 = .ok (.iadd, 1) := by decide +kernel
theorem d_law_1734 : decode b_law 1734 = .ok (.iaload, 1) := by decide +kernel
theorem d_law_1735 : decode b_law 1735 = .ok (.i2l, 1) := by decide +kernel
theorem d_law_1736 : decode b_law 1736 = .ok (.bipush 32, 2) := by decide +kernel
theorem d_law_1738 : decode b_law 1738 = .ok (.lshl, 1) := by decide +kernel
theorem d_law_1739 : decode b_law 1739 = .ok (.aload_n 0, 1) := by decide +kernel
theorem d_law_1740 : decode b_law 1740 = .ok (.iload 4, 2) := by decide +kernel
theorem d_law_1742 : decode b_law 1742 = .ok (.bipush 8, 2) := by decide +kernel
theorem d_law_1744 : decode b_law 1744 = .ok (.iadd, 1) := by decide +kernel
theorem d_law_1745 : decode b_law 1745 = .ok (.iaload, 1) := by decide +kernel
theorem d_law_1746 : decode b_law 1746 = .ok (.i2l, 1) := by decide +kernel
theorem d_law_1747 : decode b_law 1747 = .ok (.ldc2_w 86, 3) := by decide +kernel
theorem d_law_1750 : decode b_law 1750 = .ok (.land, 1) := by decide +kernel
theorem d_law_1751 : decode b_law 1751 = .ok (.lor, 1) := by decide +kernel
theorem d_law_1752 : decode b_law 1752 = .ok (.aload_n 0, 1) := by decide +kernel
theorem d_law_1753 : decode b_law 1753 = .ok (.iload 4, 2) := by decide +kernel
theorem d_law_1755 : decode b_law 1755 = .ok (.bipush 9, 2) := by decide +kernel
theorem d_law_1757 : decode b_law 1757 = .ok (.iadd, 1) := by decide +kernel
theorem d_law_1758 : decode b_law 1758 = .ok (.iaload, 1) := by decide +kernel
theorem d_law_1759 : decode b_law 1759 = .ok (.aload_n 0, 1) := by decide +kernel
theorem d_law_1760 : decode b_law 1760 = .ok (.iload 4, 2) := by decide +kernel
theorem d_law_1762 : decode b_law 1762 = .ok (.bipush 10, 2) := by decide +kernel
theorem d_law_1764 : decode b_law 1764 = .ok (.iadd, 1) := by decide +kernel
theorem d_law_1765 : decode b_law 1765 = .ok (.iaload, 1) := by decide +kernel
theorem d_law_1766 : decode b_law 1766 = .ok (.i2l, 1) := by decide +kernel
theorem d_law_1767 : decode b_law 1767 = .ok (.bipush 32, 2) := by decide +kernel
theorem d_law_1769 : decode b_law 1769 = .ok (.lshl, 1) := by decide +kernel
theorem d_law_1770 : decode b_law 1770 = .ok (.aload_n 0, 1) := by decide +kernel
theorem d_law_1771 : decode b_law 1771 = .ok (.iload 4, 2) := by decide +kernel
theorem d_law_1773 : decode b_law 1773 = .ok (.bipush 11, 2) := by decide +kernel
theorem d_law_1775 : decode b_law 1775 = .ok (.iadd, 1) := by decide +kernel
theorem d_law_1776 : decode b_law 1776 = .ok (.iaload, 1) := by decide +kernel
theorem d_law_1777 : decode b_law 1777 = .ok (.i2l, 1) := by decide +kernel
theorem d_law_1778 : decode b_law 1778 = .ok (.ldc2_w 86, 3) := by decide +kernel
theorem d_law_1781 : decode b_law 1781 = .ok (.land, 1) := by decide +kernel
theorem d_law_1782 : decode b_law 1782 = .ok (.lor, 1) := by decide +kernel
theorem d_law_1783 : decode b_law 1783 = .ok (.aload_n 3, 1) := by decide +kernel
theorem d_law_1784 : decode b_law 1784 = .ok (.invokestatic 132, 3) := by decide +kernel
theorem d_law_1920 : decode b_law 1920 = .ok (.aload_n 1, 1) := by decide +kernel
theorem d_law_1921 : decode b_law 1921 = .ok (.aload_n 0, 1) := by decide +kernel
theorem d_law_1922 : decode b_law 1922 = .ok (.iload 4, 2) := by decide +kernel
theorem d_law_1924 : decode b_law 1924 = .ok (.iconst 1, 1) := by decide +kernel
theorem d_law_1925 : decode b_law 1925 = .ok (.iadd, 1) := by decide +kernel
theorem d_law_1926 : decode b_law 1926 = .ok (.iaload, 1) := by decide +kernel
theorem d_law_1927 : decode b_law 1927 = .ok (.invokevirtual 136, 3) := by decide +kernel
theorem d_law_1945 : decode b_law 1945 = .ok (.aload_n 1, 1) := by decide +kernel
theorem d_law_1946 : decode b_law 1946 = .ok (.aload_n 0, 1) := by decide +kernel
theorem d_law_1947 : decode b_law 1947 = .ok (.iload 4, 2) := by decide +kernel
theorem d_law_1949 : decode b_law 1949 = .ok (.iconst 1, 1) := by decide +kernel
theorem d_law_1950 : decode b_law 1950 = .ok (.iadd, 1) := by decide +kernel
theorem d_law_1951 : decode b_law 1951 = .ok (.iaload, 1) := by decide +kernel
theorem d_law_1952 : decode b_law 1952 = .ok (.aload_n 0, 1) := by decide +kernel
theorem d_law_1953 : decode b_law 1953 = .ok (.iload 4, 2) := by decide +kernel
theorem d_law_1955 : decode b_law 1955 = .ok (.iconst 2, 1) := by decide +kernel
theorem d_law_1956 : decode b_law 1956 = .ok (.iadd, 1) := by decide +kernel
theorem d_law_1957 : decode b_law 1957 = .ok (.iaload, 1) := by decide +kernel
theorem d_law_1958 : decode b_law 1958 = .ok (.aload_n 3, 1) := by decide +kernel
theorem d_law_1959 : decode b_law 1959 = .ok (.invokestatic 141, 3) := by decide +kernel
theorem d_law_1985 : decode b_law 1985 = .ok (.aload_n 1, 1) := by decide +kernel
theorem d_law_1986 : decode b_law 1986 = .ok (.aload_n 0, 1) := by decide +kernel
theorem d_law_1987 : decode b_law 1987 = .ok (.iload 4, 2) := by decide +kernel
theorem d_law_1989 : decode b_law 1989 = .ok (.iconst 1, 1) := by decide +kernel
theorem d_law_1990 : decode b_law 1990 = .ok (.iadd, 1) := by decide +kernel
theorem d_law_1991 : decode b_law 1991 = .ok (.iaload, 1) := by decide +kernel
theorem d_law_1992 : decode b_law 1992 = .ok (.i2l, 1) := by decide +kernel
theorem d_law_1993 : decode b_law 1993 = .ok (.bipush 32, 2) := by decide +kernel
theorem d_law_1995 : decode b_law 1995 = .ok (.lshl, 1) := by decide +kernel
theorem d_law_1996 : decode b_law 1996 = .ok (.aload_n 0, 1) := by decide +kernel
theorem d_law_1997 : decode b_law 1997 = .ok (.iload 4, 2) := by decide +kernel
theorem d_law_1999 : decode b_law 1999 = .ok (.iconst 2, 1) := by decide +kernel
theorem d_law_2000 : decode b_law 2000 = .ok (.iadd, 1) := by decide +kernel
theorem d_law_2001 : decode b_law 2001 = .ok (.iaload, 1) := by decide +kernel
theorem d_law_2002 : decode b_law 2002 = .ok (.i2l, 1) := by decide +kernel
theorem d_law_2003 : decode b_law 2003 = .ok (.ldc2_w 86, 3) := by decide +kernel
theorem d_law_2006 : decode b_law 2006 = .ok (.land, 1) := by decide +kernel
theorem d_law_2007 : decode b_law 2007 = .ok (.lor, 1) := by decide +kernel
theorem d_law_2008 : decode b_law 2008 = .ok (.aload_n 0, 1) := by decide +kernel
theorem d_law_2009 : decode b_law 2009 = .ok (.iload 4, 2) := by decide +kernel
theorem d_law_2011 : decode b_law 2011 = .ok (.iconst 3, 1) := by decide +kernel
theorem d_law_2012 : decode b_law 2012 = .ok (.iadd, 1) := by decide +kernel
theorem d_law_2013 : decode b_law 2013 = .ok (.iaload, 1) := by decide +kernel
theorem d_law_2014 : decode b_law 2014 = .ok (.aload_n 0, 1) := by decide +kernel
theorem d_law_2015 : decode b_law 2015 = .ok (.iload 4, 2) := by decide +kernel
theorem d_law_2017 : decode b_law 2017 = .ok (.iconst 4, 1) := by decide +kernel
theorem d_law_2018 : decode b_law 2018 = .ok (.iadd, 1) := by decide +kernel
theorem d_law_2019 : decode b_law 2019 = .ok (.iaload, 1) := by decide +kernel
theorem d_law_2020 : decode b_law 2020 = .ok (.aload_n 3, 1) := by decide +kernel
theorem d_law_2021 : decode b_law 2021 = .ok (.invokestatic 144, 3) := by decide +kernel
theorem d_law_2069 : decode b_law 2069 = .ok (.aload_n 1, 1) := by decide +kernel
theorem d_law_2070 : decode b_law 2070 = .ok (.aload_n 0, 1) := by decide +kernel
theorem d_law_2071 : decode b_law 2071 = .ok (.iload 4, 2) := by decide +kernel
theorem d_law_2073 : decode b_law 2073 = .ok (.iconst 1, 1) := by decide +kernel
theorem d_law_2074 : decode b_law 2074 = .ok (.iadd, 1) := by decide +kernel
theorem d_law_2075 : decode b_law 2075 = .ok (.iaload, 1) := by decide +kernel
theorem d_law_2076 : decode b_law 2076 = .ok (.aload_n 3, 1) := by decide +kernel
theorem d_law_2077 : decode b_law 2077 = .ok (.invokestatic 148, 3) := by decide +kernel
theorem d_law_2097 : decode b_law 2097 = .ok (.iinc 4 14, 3) := by decide +kernel
theorem d_law_2100 : decode b_law 2100 = .ok (.goto (-2065), 3) := by decide +kernel
theorem d_law_2103 : decode b_law 2103 = .ok (.iconst 1, 1) := by decide +kernel
theorem d_law_2104 : decode b_law 2104 = .ok (.ireturn, 1) := by decide +kernel
abbrev rm_law : Room := room_1
set_option maxHeartbeats 4000000 in
set_option maxRecDepth 100000 in
theorem m_law {p : Program} {l : Launch} {e : Env} {s : State} {m : MethodId} {below : List Frame} {meth : Method} {c : Code} {ls : Array Slot} {args : Array Value} {A : Nat → Prop} {Q : State → Prop} (hst : l.stackTraces = false) (D : gD) (g0 : gG) (a0 : Nat) (w : gW) (r : (String ⊕ Int32) × gW) (h : f_law g0 a0 w = some r) (hx : p.tables.exec = Jvm.exec) (hb : c.code = b_law) (hml : c.maxLocals = 8) (hown : s.vm.findClass "BodySolidsLaw" = some m.cls) (hT : gT s) (hK : gK D s) (hZ : gZ A s s.heap g0) (hA : ∀ q : Nat, s.heap.size ≤ q → A q) (hret : ∀ {v : Int32}, (v = 0 ∨ v = 1) → ∀ (v9 : Int32) (w1 : gW), r = (.inr v, w1) → ∀ (pc : Nat) (ls : Array Slot) (H : Heap) (locs : List Loc), decode b_law pc = .ok (.ireturn, 1) → gI D s A w1 H locs → W p l e rm_law s m args below meth c H locs 601024 7293000 Q (F0 m pc ls [.int v])) (hexc : gEx p l e rm_law s m args below meth c Q D A r) (hI : gI D s A w s.heap []) (hl : lv_has ls 8 [(0, .ref a0)]) : W p l e rm_law s m args below meth c s.heap [] 0 0 Q (F0 m 0 ls []) := by
  obtain ⟨H, hH⟩ : ∃ H, H = s.heap := ⟨_, rfl⟩
  rw [← hH] at hI ⊢
  obtain ⟨locs, hlocs⟩ : ∃ z : List Loc, z = [] := ⟨_, rfl⟩
  rw [← hlocs] at hI ⊢
  have hl : lv_has ls 8 [(0, .ref a0)] := hl
  unfold f_law at h
  obtain ⟨o1, w, e2, h⟩ := gb2 h
  refine gw_new hx hb hT hown hK hI hA (ci := 0) rfl i_0 t_0 t_0_ok wd_72 wd_73 wd_49 (fs := [.long 0, .null, .null, .null, .null, .null, .int 0, .null, .null, .null]) df_0 e2 (show 0 + 1 ≤ 601024 by omega) (show 0 + 10 ≤ 7293000 by omega) d_law_0 (fun H hI => ?_)
  refine W.widen (k := 1) (n := 10) (show 0 + 1 ≤ 1 by omega) (show 0 + 10 ≤ 10 by omega) ?_
  refine lv_dup hx hb d_law_3 rfl ?_
  refine lv_aload_n hx hb d_law_4 rfl (lv_at hl 0 rfl) ?_
  refine lv_iconst (v := 0) hx hb d_law_5 (by decide) ?_
  obtain ⟨u3, e4⟩ := gsome h
  refine gw_callI e4 h (gw_runS (As := [.ref a0, .int 0]) (rest := [.ref o1, .ref o1]) hx hb hml hown hT hK hZ hA hI (m_W_cell l hst D g0 a0 0 w u3 e4) ce_W_cell wd_424 ⟨by decide, by decide⟩ rfl rfl hl.1 rfl (lv_room (Nat.le_of_ble_eq_true rfl)) d_law_6 ⟨(show 1 + 0 ≤ 601024 by omega), (show 10 + 0 ≤ 7293000 by omega)⟩) hI hA hexc (show 1 + 0 ≤ 601024 by omega) (show 10 + 0 ≤ 7293000 by omega) (fun v5 w H locs h hI => ?_)
  refine lv_i2l (v := v5.toInt64) hx hb d_law_9 rfl ?_
  obtain ⟨u6, e7⟩ := gsome h
  refine gw_callV e7 h (gw_runI (As := [.long (v5.toInt64)]) (rest := [.ref o1]) hx hb hml hown hT hK hZ hA hI (m_B_init l hst D g0 o1 (v5.toInt64) w u6 e7) ce_B_init wd_74 rfl ⟨by decide, by decide⟩ rfl rfl hl.1 rfl (lv_room (Nat.le_of_ble_eq_true rfl)) d_law_10 ⟨(show 1 + 88 ≤ 601024 by omega), (show 10 + 1681 ≤ 7293000 by omega)⟩) hI hA hexc (show 1 + 88 ≤ 601024 by omega) (show 10 + 1681 ≤ 7293000 by omega) (fun v8 w H locs h hI => ?_)
  refine W.widen (k := 89) (n := 1691) (show 1 + 88 ≤ 89 by omega) (show 10 + 1681 ≤ 1691 by omega) ?_
  refine lv_astore_n (lv' := [(1, .ref o1), (0, .ref a0)]) hx hb d_law_13 rfl hl (by decide) rfl (fun ls hl => ?_)
  obtain ⟨o9, w, e10, h⟩ := gb2 h
  refine gw_new hx hb hT hown hK hI hA (ci := 7) rfl i_7 t_7 t_7_ok wd_779 wd_780 wd_57 (fs := [.int 0, .long 0, .int 0, .null, .null, .null, .null, .null, .null, .int 0, .null, .null, .int 0, .null, .null, .null, .null, .null, .int 0, .null, .null, .null, .null, .null, .null, .null, .null]) df_7 e10 (show 89 + 1 ≤ 601024 by omega) (show 1691 + 27 ≤ 7293000 by omega) d_law_14 (fun H hI => ?_)
  refine W.widen (k := 90) (n := 1718) (show 89 + 1 ≤ 90 by omega) (show 1691 + 27 ≤ 1718 by omega) ?_
  refine lv_dup hx hb d_law_17 rfl ?_
  refine lv_aload_n hx hb d_law_18 rfl (lv_at hl 1 rfl) ?_
  refine lv_iconst (v := 0) hx hb d_law_19 (by decide) ?_
  obtain ⟨u11, e12⟩ := gsome h
  refine gw_callI e12 h (gw_runS (As := [.ref a0, .int 0]) (rest := [.ref o9, .ref o9]) hx hb hml hown hT hK hZ hA hI (m_W_cell l hst D g0 a0 0 w u11 e12) ce_W_cell wd_424 ⟨by decide, by decide⟩ rfl rfl hl.1 rfl (lv_room (Nat.le_of_ble_eq_true rfl)) d_law_20 ⟨(show 90 + 0 ≤ 601024 by omega), (show 1718 + 0 ≤ 7293000 by omega)⟩) hI hA hexc (show 90 + 0 ≤ 601024 by omega) (show 1718 + 0 ≤ 7293000 by omega) (fun v13 w H locs h hI => ?_)
  refine lv_i2l (v := v13.toInt64) hx hb d_law_23 rfl ?_
  obtain ⟨u14, e15⟩ := gsome h
  refine gw_callV e15 h (gw_runI (As := [.long (v13.toInt64)]) (rest := [.ref o9]) hx hb hml hown hT hK hZ hA hI (m_M_init l hst D g0 o9 (v13.toInt64) w u14 e15) ce_M_init wd_781 rfl ⟨by decide, by decide⟩ rfl rfl hl.1 rfl (lv_room (Nat.le_of_ble_eq_true rfl)) d_law_24 ⟨(show 90 + 21 ≤ 601024 by omega), (show 1718 + 8938 ≤ 7293000 by omega)⟩) hI hA hexc (show 90 + 21 ≤ 601024 by omega) (show 1718 + 8938 ≤ 7293000 by omega) (fun v16 w H locs h hI => ?_)
  refine W.widen (k := 111) (n := 10656) (show 90 + 21 ≤ 111 by omega) (show 1718 + 8938 ≤ 10656 by omega) ?_
  refine lv_astore_n (lv' := [(2, .ref o9), (1, .ref o1), (0, .ref a0)]) hx hb d_law_27 rfl hl (by decide) rfl (fun ls hl => ?_)
  refine lv_iconst (v := 1) hx hb d_law_28 (by decide) ?_
  obtain ⟨o17, w, e18, h⟩ := gb2 h
  refine gw_newa (atype := .long) (ty := .long) (M := 1) hx hb hK hI hA (hT _ wd_178 args) rfl (k := 1) rfl (fun h9 => h9) e18 (show 111 + 1 ≤ 601024 by omega) (show 10656 + 1 ≤ 7293000 by omega) (show 1 * 8 ≤ 536870912 by omega) d_law_29 (fun H hI => ?_)
  refine W.widen (k := 112) (n := 10657) (show 111 + 1 ≤ 112 by omega) (show 10656 + 1 ≤ 10657 by omega) ?_
  refine lv_astore_n (lv' := [(3, .ref o17), (2, .ref o9), (1, .ref o1), (0, .ref a0)]) hx hb d_law_31 rfl hl (by decide) rfl (fun ls hl => ?_)
  refine lv_iconst (v := 1) hx hb d_law_32 (by decide) ?_
  refine lv_istore (lv' := [(4, .int 1), (3, .ref o17), (2, .ref o9), (1, .ref o1), (0, .ref a0)]) hx hb d_law_33 hl (by decide) rfl (fun ls hl => ?_)
  obtain ⟨K2103, eK2103, h⟩ := gj h
  have hK2103 : ∀ (w : gW) (H : Heap) (locs : List Loc) (ls : Array Slot), K2103 w = some r → gI D s A w H locs → lv_has ls 8 [] → W p l e rm_law s m args below meth c H locs 16015 905842 Q (F0 m 2103 ls []) := by
    intro w H locs ls h hI hl
    have h := gk1 eK2103 h
    refine lv_iconst (v := 1) hx hb d_law_2103 (by decide) ?_
    obtain ⟨g19, h⟩ := gif h
    exact W.widen (show 16015 ≤ 601024 by omega) (show 905842 ≤ 7293000 by omega) (hret g19 0 _ (Option.some.inj h).symm _ _ _ _ d_law_2104 hI)
  obtain ⟨K457, eK457, h⟩ := gj h
  have hK457 : ∀ (x20 : Int32) (w : gW) (H : Heap) (locs : List Loc) (ls : Array Slot), K457 x20 w = some r → gI D s A w H locs → lv_has ls 8 [(0, .ref a0), (1, .ref o1), (3, .ref o17), (4, .int x20)] → W p l e rm_law s m args below meth c H locs 16015 905842 Q (F0 m 457 ls []) := by
    intro x20 w H locs ls h hI hl
    have h := gk2 eK457 h
    exact absurd h (by simp)
  obtain ⟨K937, eK937, h⟩ := gj h
  have hK937 : ∀ (x21 : Int32) (w : gW) (H : Heap) (locs : List Loc) (ls : Array Slot), K937 x21 w = some r → gI D s A w H locs → lv_has ls 8 [(0, .ref a0), (1, .ref o1), (3, .ref o17), (4, .int x21)] → W p l e rm_law s m args below meth c H locs 16015 905842 Q (F0 m 937 ls []) := by
    intro x21 w H locs ls h hI hl
    have h := gk2 eK937 h
    exact absurd h (by simp)
  obtain ⟨K1395, eK1395, h⟩ := gj h
  have hK1395 : ∀ (x22 : Int32) (w : gW) (H : Heap) (locs : List Loc) (ls : Array Slot), K1395 x22 w = some r → gI D s A w H locs → lv_has ls 8 [(0, .ref a0), (1, .ref o1), (3, .ref o17), (4, .int x22)] → W p l e rm_law s m args below meth c H locs 16015 905842 Q (F0 m 1395 ls []) := by
    intro x22 w H locs ls h hI hl
    have h := gk2 eK1395 h
    exact absurd h (by simp)
  obtain ⟨K1539, eK1539, h⟩ := gj h
  have hK1539 : ∀ (x23 : Int32) (w : gW) (H : Heap) (locs : List Loc) (ls : Array Slot), K1539 x23 w = some r → gI D s A w H locs → lv_has ls 8 [(0, .ref a0), (1, .ref o1), (3, .ref o17), (4, .int x23)] → W p l e rm_law s m args below meth c H locs 16015 905842 Q (F0 m 1539 ls []) := by
    intro x23 w H locs ls h hI hl
    have h := gk2 eK1539 h
    exact absurd h (by simp)
  obtain ⟨K1579, eK1579, h⟩ := gj h
  have hK1579 : ∀ (w : gW) (H : Heap) (locs : List Loc) (ls : Array Slot), K1579 w = some r → gI D s A w H locs → lv_has ls 8 [(1, .ref o1)] → W p l e rm_law s m args below meth c H locs 16015 905842 Q (F0 m 1579 ls []) := by
    intro w H locs ls h hI hl
    have h := gk1 eK1579 h
    exact absurd h (by simp)
  obtain ⟨K1655, eK1655, h⟩ := gj h
  have hK1655 : ∀ (w : gW) (H : Heap) (locs : List Loc) (ls : Array Slot), K1655 w = some r → gI D s A w H locs → lv_has ls 8 [] → W p l e rm_law s m args below meth c H locs 16015 905842 Q (F0 m 1655 ls []) := by
    intro w H locs ls h hI hl
    have h := gk1 eK1655 h
    refine lv_iconst (v := 0) hx hb d_law_1655 (by decide) ?_
    obtain ⟨g24, h⟩ := gif h
    exact W.widen (show 16015 ≤ 601024 by omega) (show 905842 ≤ 7293000 by omega) (hret g24 0 _ (Option.some.inj h).symm _ _ _ _ d_law_1656 hI)
  obtain ⟨K1638, eK1638, h⟩ := gj h
  have hK1638 : ∀ (w : gW) (H : Heap) (locs : List Loc) (ls : Array Slot), K1638 w = some r → gI D s A w H locs → lv_has ls 8 [] → W p l e rm_law s m args below meth c H locs 16015 905842 Q (F0 m 1638 ls []) := by
    intro w H locs ls h hI hl
    have h := gk1 eK1638 h
    refine lv_iconst (v := 0) hx hb d_law_1638 (by decide) ?_
    obtain ⟨g25, h⟩ := gif h
    exact W.widen (show 16015 ≤ 601024 by omega) (show 905842 ≤ 7293000 by omega) (hret g25 0 _ (Option.some.inj h).symm _ _ _ _ d_law_1639 hI)
  obtain ⟨K1660, eK1660, h⟩ := gj h
  have hK1660 : ∀ (x26 : Int32) (w : gW) (H : Heap) (locs : List Loc) (ls : Array Slot), K1660 x26 w = some r → gI D s A w H locs → lv_has ls 8 [(0, .ref a0), (1, .ref o1), (3, .ref o17), (4, .int x26)] → W p l e rm_law s m args below meth c H locs 16015 905842 Q (F0 m 1660 ls []) := by
    intro x26 w H locs ls h hI hl
    have h := gk2 eK1660 h
    exact absurd h (by simp)
  obtain ⟨K1920, eK1920, h⟩ := gj h
  have hK1920 : ∀ (x27 : Int32) (w : gW) (H : Heap) (locs : List Loc) (ls : Array Slot), K1920 x27 w = some r → gI D s A w H locs → lv_has ls 8 [(0, .ref a0), (1, .ref o1), (4, .int x27)] → W p l e rm_law s m args below meth c H locs 16015 905842 Q (F0 m 1920 ls []) := by
    intro x27 w H locs ls h hI hl
    have h := gk2 eK1920 h
    exact absurd h (by simp)
  obtain ⟨K1945, eK1945, h⟩ := gj h
  have hK1945 : ∀ (x28 : Int32) (w : gW) (H : Heap) (locs : List Loc) (ls : Array Slot), K1945 x28 w = some r → gI D s A w H locs → lv_has ls 8 [(0, .ref a0), (1, .ref o1), (3, .ref o17), (4, .int x28)] → W p l e rm_law s m args below meth c H locs 16015 905842 Q (F0 m 1945 ls []) := by
    intro x28 w H locs ls h hI hl
    have h := gk2 eK1945 h
    exact absurd h (by simp)
  obtain ⟨K1985, eK1985, h⟩ := gj h
  have hK1985 : ∀ (x29 : Int32) (w : gW) (H : Heap) (locs : List Loc) (ls : Array Slot), K1985 x29 w = some r → gI D s A w H locs → lv_has ls 8 [(0, .ref a0), (1, .ref o1), (3, .ref o17), (4, .int x29)] → W p l e rm_law s m args below meth c H locs 16015 905842 Q (F0 m 1985 ls []) := by
    intro x29 w H locs ls h hI hl
    have h := gk2 eK1985 h
    exact absurd h (by simp)
  obtain ⟨K2069, eK2069, h⟩ := gj h
  have hK2069 : ∀ (x30 : Int32) (w : gW) (H : Heap) (locs : List Loc) (ls : Array Slot), K2069 x30 w = some r → gI D s A w H locs → lv_has ls 8 [(0, .ref a0), (1, .ref o1), (3, .ref o17), (4, .int x30)] → W p l e rm_law s m args below meth c H locs 16015 905842 Q (F0 m 2069 ls []) := by
    intro x30 w H locs ls h hI hl
    have h := gk2 eK2069 h
    exact absurd h (by simp)
  have hL35 : ∀ (n : Nat), n ≤ 513 → ∀ (z31 : Int32) (w : gW) (H : Heap) (locs : List Loc) (ls : Array Slot), f_law_L35 g0 a0 o1 o9 o17 K2103 K457 K937 K1395 K1539 K1579 K1660 K1920 K1945 K1985 K2069 K1638 K1655 n z31 w = some r → gI D s A w H locs → lv_has ls 8 [(0, .ref a0), (1, .ref o1), (2, .ref o9), (3, .ref o17), (4, .int z31)] → W p l e rm_law s m args below meth c H locs (16015 - n * 31) (905842 - n * 1745) Q (F0 m 35 ls []) := by
    intro n
    induction n with
    | zero => intro hn z31 w H locs ls h hI hl; exact absurd h (by simp [f_law_L35])
    | succ n ih =>
      intro hn z31 w H locs ls h hI hl
      rw [f_law_L35] at h
      refine lv_iload hx hb d_law_35 (lv_at hl 4 rfl) ?_
      refine lv_aload_n hx hb d_law_37 rfl (lv_at hl 0 rfl) ?_
      obtain ⟨v32, e33, h⟩ := gb h
      refine gw_alen hx hb hK hI e33 d_law_38 ?_
      refine lv_bipush (v := 14) hx hb d_law_39 (by decide) ?_
      refine lv_isub hx hb d_law_41 ?_
      refine lv_icmp_gt (tgt := 2103) hx hb d_law_42 (by decide) (fun c34 => ?_) (fun c34 => ?_)
      · skip
        have h := git c34 h
        refine W.widen (k := 16015) (n := 905842) (show (16015 - (n + 1) * 31) ≤ 16015 by omega) (show (905842 - (n + 1) * 1745) ≤ 905842 by omega) ?_
        exact hK2103 w H locs ls h hI (lv_sub hl [] rfl)
      · skip
        have h := gie c34 h
        refine lv_aload_n hx hb d_law_45 rfl (lv_at hl 0 rfl) ?_
        refine lv_iload hx hb d_law_46 (lv_at hl 4 rfl) ?_
        obtain ⟨v35, e36, h⟩ := gb h
        refine gw_aldI hx hb hK hI e36 d_law_48 ?_
        refine lv_bipush (v := 31) hx hb d_law_49 (by decide) ?_
        refine lv_iand hx hb d_law_51 ?_
        obtain ⟨K2097, eK2097, h⟩ := gj h
        have hK2097 : ∀ (w : gW) (H : Heap) (locs : List Loc) (ls : Array Slot), K2097 w = some r → gI D s A w H locs → lv_has ls 8 [(0, .ref a0), (1, .ref o1), (2, .ref o9), (3, .ref o17), (4, .int z31)] → W p l e rm_law s m args below meth c H locs ((16015 - (n + 1) * 31) + 31) ((905842 - (n + 1) * 1745) + 1745) Q (F0 m 2097 ls []) := by
          intro w H locs ls h hI hl
          have h := gk1 eK2097 h
          refine lv_iinc (v := z31 + 14) (lv' := [(4, .int (z31 + 14)), (0, .ref a0), (1, .ref o1), (2, .ref o9), (3, .ref o17)]) hx hb d_law_2097 hl (k := 4) rfl rfl (by decide) rfl (fun ls hl => ?_)
          refine lv_goto (tgt := 35) hx hb d_law_2100 (by decide) ?_
          refine W.widen (k := (16015 - n * 31)) (n := (905842 - n * 1745)) (show ((16015 - (n + 1) * 31) + 31) ≤ (16015 - n * 31) by omega) (show ((905842 - (n + 1) * 1745) + 1745) ≤ (905842 - n * 1745) by omega) ?_
          exact ih (by omega) _ w H locs ls h hI (lv_sub hl [1, 2, 3, 4, 0] rfl)
        rcases Decidable.em ((v35 &&& 31) = 0) with c37 | c37
        · have h := git c37 h
          refine lv_tableIn (off := 84) (tgt := 136) hx hb d_law_52 (by rw [c37]; decide) (by rw [c37]; decide) (by rw [c37]; decide) (by decide) ?_
          refine lv_aload_n hx hb d_law_136 rfl (lv_at hl 1 rfl) ?_
          obtain ⟨q40, e41, h⟩ := gb h
          obtain ⟨u38, e39⟩ := gsome h
          refine gw_callI e39 h (gw_runV (As := []) (rest := []) hx hb hml hown hT hK hZ hA hI (ci := 0) rfl e41 (m_B_body l hst D g0 o1 w u38 e39) ce_B_body wd_220 wd_222 ⟨by decide, by decide⟩ rfl rfl hl.1 rfl (lv_room (Nat.le_of_ble_eq_true rfl)) d_law_137 ⟨(show (16015 - (n + 1) * 31) + 3 ≤ 601024 by omega), (show (905842 - (n + 1) * 1745) + 69 ≤ 7293000 by omega)⟩) hI hA hexc (show (16015 - (n + 1) * 31) + 3 ≤ 601024 by omega) (show (905842 - (n + 1) * 1745) + 69 ≤ 7293000 by omega) (fun v42 w H locs h hI => ?_)
          refine W.widen (k := ((16015 - (n + 1) * 31) + 3)) (n := ((905842 - (n + 1) * 1745) + 69)) (show (16015 - (n + 1) * 31) + 3 ≤ ((16015 - (n + 1) * 31) + 3) by omega) (show (905842 - (n + 1) * 1745) + 69 ≤ ((905842 - (n + 1) * 1745) + 69) by omega) ?_
          refine lv_pop hx hb d_law_140 rfl ?_
          refine lv_aload_n hx hb d_law_141 rfl (lv_at hl 2 rfl) ?_
          obtain ⟨q45, e46, h⟩ := gb h
          obtain ⟨u43, e44⟩ := gsome h
          refine gw_callI e44 h (gw_runV (As := []) (rest := []) hx hb hml hown hT hK hZ hA hI (ci := 7) rfl e46 (m_M_body l hst D g0 o9 w u43 e44) ce_M_body wd_872 wd_874 ⟨by decide, by decide⟩ rfl rfl hl.1 rfl (lv_room (Nat.le_of_ble_eq_true rfl)) d_law_142 ⟨(show ((16015 - (n + 1) * 31) + 3) + 0 ≤ 601024 by omega), (show ((905842 - (n + 1) * 1745) + 69) + 0 ≤ 7293000 by omega)⟩) hI hA hexc (show ((16015 - (n + 1) * 31) + 3) + 0 ≤ 601024 by omega) (show ((905842 - (n + 1) * 1745) + 69) + 0 ≤ 7293000 by omega) (fun v47 w H locs h hI => ?_)
          refine lv_pop hx hb d_law_145 rfl ?_
          refine lv_goto (tgt := 2097) hx hb d_law_146 (by decide) ?_
          refine W.widen (k := ((16015 - (n + 1) * 31) + 31)) (n := ((905842 - (n + 1) * 1745) + 1745)) (show ((16015 - (n + 1) * 31) + 3) ≤ ((16015 - (n + 1) * 31) + 31) by omega) (show ((905842 - (n + 1) * 1745) + 69) ≤ ((905842 - (n + 1) * 1745) + 1745) by omega) ?_
          exact hK2097 w H locs ls h hI (lv_sub hl [0, 1, 2, 3, 4] rfl)
        have h := gie c37 h
        rcases Decidable.em ((v35 &&& 31) = 1) with c48 | c48
        · have h := git c48 h
          refine lv_tableIn (off := 97) (tgt := 149) hx hb d_law_52 (by rw [c48]; decide) (by rw [c48]; decide) (by rw [c48]; decide) (by decide) ?_
          refine lv_aload_n hx hb d_law_149 rfl (lv_at hl 1 rfl) ?_
          refine lv_aload_n hx hb d_law_150 rfl (lv_at hl 0 rfl) ?_
          refine lv_iload hx hb d_law_151 (lv_at hl 4 rfl) ?_
          refine lv_iconst (v := 1) hx hb d_law_153 (by decide) ?_
          refine lv_iadd hx hb d_law_154 ?_
          obtain ⟨v49, e50, h⟩ := gb h
          refine gw_aldI hx hb hK hI e50 d_law_155 ?_
          refine lv_aload_n hx hb d_law_156 rfl (lv_at hl 0 rfl) ?_
          refine lv_iload hx hb d_law_157 (lv_at hl 4 rfl) ?_
          refine lv_iconst (v := 2) hx hb d_law_159 (by decide) ?_
          refine lv_iadd hx hb d_law_160 ?_
          obtain ⟨v51, e52, h⟩ := gb h
          refine gw_aldI hx hb hK hI e52 d_law_161 ?_
          refine lv_i2l (v := v51.toInt64) hx hb d_law_162 rfl ?_
          refine lv_bipush (v := 32) hx hb d_law_163 (by decide) ?_
          refine lv_lshl (v := (v51.toInt64) <<< ((32 : Int32).toInt64 &&& 63)) hx hb d_law_165 rfl ?_
          refine lv_aload_n hx hb d_law_166 rfl (lv_at hl 0 rfl) ?_
          refine lv_iload hx hb d_law_167 (lv_at hl 4 rfl) ?_
          refine lv_iconst (v := 3) hx hb d_law_169 (by decide) ?_
          refine lv_iadd hx hb d_law_170 ?_
          obtain ⟨v53, e54, h⟩ := gb h
          refine gw_aldI hx hb hK hI e54 d_law_171 ?_
          refine lv_i2l (v := v53.toInt64) hx hb d_law_172 rfl ?_
          refine lv_ldc2 (v := 4294967295) hx hb hown (hT _ wd_1121 args) d_law_173 ?_
          refine lv_land hx hb d_law_176 ?_
          refine lv_lor hx hb d_law_177 ?_
          refine lv_aload_n hx hb d_law_178 rfl (lv_at hl 0 rfl) ?_
          refine lv_iload hx hb d_law_179 (lv_at hl 4 rfl) ?_
          refine lv_iconst (v := 4) hx hb d_law_181 (by decide) ?_
          refine lv_iadd hx hb d_law_182 ?_
          obtain ⟨v55, e56, h⟩ := gb h
          refine gw_aldI hx hb hK hI e56 d_law_183 ?_
          refine lv_i2l (v := v55.toInt64) hx hb d_law_184 rfl ?_
          refine lv_bipush (v := 32) hx hb d_law_185 (by decide) ?_
          refine lv_lshl (v := (v55.toInt64) <<< ((32 : Int32).toInt64 &&& 63)) hx hb d_law_187 rfl ?_
          refine lv_aload_n hx hb d_law_188 rfl (lv_at hl 0 rfl) ?_
          refine lv_iload hx hb d_law_189 (lv_at hl 4 rfl) ?_
          refine lv_iconst (v := 5) hx hb d_law_191 (by decide) ?_
          refine lv_iadd hx hb d_law_192 ?_
          obtain ⟨v57, e58, h⟩ := gb h
          refine gw_aldI hx hb hK hI e58 d_law_193 ?_
          refine lv_i2l (v := v57.toInt64) hx hb d_law_194 rfl ?_
          refine lv_ldc2 (v := 4294967295) hx hb hown (hT _ wd_1121 args) d_law_195 ?_
          refine lv_land hx hb d_law_198 ?_
          refine lv_lor hx hb d_law_199 ?_
          refine lv_aload_n hx hb d_law_200 rfl (lv_at hl 0 rfl) ?_
          refine lv_iload hx hb d_law_201 (lv_at hl 4 rfl) ?_
          refine lv_bipush (v := 6) hx hb d_law_203 (by decide) ?_
          refine lv_iadd hx hb d_law_205 ?_
          obtain ⟨v59, e60, h⟩ := gb h
          refine gw_aldI hx hb hK hI e60 d_law_206 ?_
          refine lv_i2l (v := v59.toInt64) hx hb d_law_207 rfl ?_
          refine lv_bipush (v := 32) hx hb d_law_208 (by decide) ?_
          refine lv_lshl (v := (v59.toInt64) <<< ((32 : Int32).toInt64 &&& 63)) hx hb d_law_210 rfl ?_
          refine lv_aload_n hx hb d_law_211 rfl (lv_at hl 0 rfl) ?_
          refine lv_iload hx hb d_law_212 (lv_at hl 4 rfl) ?_
          refine lv_bipush (v := 7) hx hb d_law_214 (by decide) ?_
          refine lv_iadd hx hb d_law_216 ?_
          obtain ⟨v61, e62, h⟩ := gb h
          refine gw_aldI hx hb hK hI e62 d_law_217 ?_
          refine lv_i2l (v := v61.toInt64) hx hb d_law_218 rfl ?_
          refine lv_ldc2 (v := 4294967295) hx hb hown (hT _ wd_1121 args) d_law_219 ?_
          refine lv_land hx hb d_law_222 ?_
          refine lv_lor hx hb d_law_223 ?_
          refine lv_aload_n hx hb d_law_224 rfl (lv_at hl 0 rfl) ?_
          refine lv_iload hx hb d_law_225 (lv_at hl 4 rfl) ?_
          refine lv_bipush (v := 8) hx hb d_law_227 (by decide) ?_
          refine lv_iadd hx hb d_law_229 ?_
          obtain ⟨v63, e64, h⟩ := gb h
          refine gw_aldI hx hb hK hI e64 d_law_230 ?_
          refine lv_i2l (v := v63.toInt64) hx hb d_law_231 rfl ?_
          refine lv_bipush (v := 32) hx hb d_law_232 (by decide) ?_
          refine lv_lshl (v := (v63.toInt64) <<< ((32 : Int32).toInt64 &&& 63)) hx hb d_law_234 rfl ?_
          refine lv_aload_n hx hb d_law_235 rfl (lv_at hl 0 rfl) ?_
          refine lv_iload hx hb d_law_236 (lv_at hl 4 rfl) ?_
          refine lv_bipush (v := 9) hx hb d_law_238 (by decide) ?_
          refine lv_iadd hx hb d_law_240 ?_
          obtain ⟨v65, e66, h⟩ := gb h
          refine gw_aldI hx hb hK hI e66 d_law_241 ?_
          refine lv_i2l (v := v65.toInt64) hx hb d_law_242 rfl ?_
          refine lv_ldc2 (v := 4294967295) hx hb hown (hT _ wd_1121 args) d_law_243 ?_
          refine lv_land hx hb d_law_246 ?_
          refine lv_lor hx hb d_law_247 ?_
          refine lv_aload_n hx hb d_law_248 rfl (lv_at hl 0 rfl) ?_
          refine lv_iload hx hb d_law_249 (lv_at hl 4 rfl) ?_
          refine lv_bipush (v := 10) hx hb d_law_251 (by decide) ?_
          refine lv_iadd hx hb d_law_253 ?_
          obtain ⟨v67, e68, h⟩ := gb h
          refine gw_aldI hx hb hK hI e68 d_law_254 ?_
          refine lv_i2l (v := v67.toInt64) hx hb d_law_255 rfl ?_
          refine lv_bipush (v := 32) hx hb d_law_256 (by decide) ?_
          refine lv_lshl (v := (v67.toInt64) <<< ((32 : Int32).toInt64 &&& 63)) hx hb d_law_258 rfl ?_
          refine lv_aload_n hx hb d_law_259 rfl (lv_at hl 0 rfl) ?_
          refine lv_iload hx hb d_law_260 (lv_at hl 4 rfl) ?_
          refine lv_bipush (v := 11) hx hb d_law_262 (by decide) ?_
          refine lv_iadd hx hb d_law_264 ?_
          obtain ⟨v69, e70, h⟩ := gb h
          refine gw_aldI hx hb hK hI e70 d_law_265 ?_
          refine lv_i2l (v := v69.toInt64) hx hb d_law_266 rfl ?_
          refine lv_ldc2 (v := 4294967295) hx hb hown (hT _ wd_1121 args) d_law_267 ?_
          refine lv_land hx hb d_law_270 ?_
          refine lv_lor hx hb d_law_271 ?_
          refine lv_aload_n hx hb d_law_272 rfl (lv_at hl 0 rfl) ?_
          refine lv_iload hx hb d_law_273 (lv_at hl 4 rfl) ?_
          refine lv_bipush (v := 12) hx hb d_law_275 (by decide) ?_
          refine lv_iadd hx hb d_law_277 ?_
          obtain ⟨v71, e72, h⟩ := gb h
          refine gw_aldI hx hb hK hI e72 d_law_278 ?_
          refine lv_i2l (v := v71.toInt64) hx hb d_law_279 rfl ?_
          refine lv_bipush (v := 32) hx hb d_law_280 (by decide) ?_
          refine lv_lshl (v := (v71.toInt64) <<< ((32 : Int32).toInt64 &&& 63)) hx hb d_law_282 rfl ?_
          refine lv_aload_n hx hb d_law_283 rfl (lv_at hl 0 rfl) ?_
          refine lv_iload hx hb d_law_284 (lv_at hl 4 rfl) ?_
          refine lv_bipush (v := 13) hx hb d_law_286 (by decide) ?_
          refine lv_iadd hx hb d_law_288 ?_
          obtain ⟨v73, e74, h⟩ := gb h
          refine gw_aldI hx hb hK hI e74 d_law_289 ?_
          refine lv_i2l (v := v73.toInt64) hx hb d_law_290 rfl ?_
          refine lv_ldc2 (v := 4294967295) hx hb hown (hT _ wd_1121 args) d_law_291 ?_
          refine lv_land hx hb d_law_294 ?_
          refine lv_lor hx hb d_law_295 ?_
          refine lv_aload_n hx hb d_law_296 rfl (lv_at hl 3 rfl) ?_
          obtain ⟨u75, e76⟩ := gsome h
          refine gw_callI e76 h (gw_runS (As := [.ref o1, .int v49, .long (((v51.toInt64) <<< ((32 : Int32).toInt64 &&& 63)) ||| ((v53.toInt64) &&& 4294967295)), .long (((v55.toInt64) <<< ((32 : Int32).toInt64 &&& 63)) ||| ((v57.toInt64) &&& 4294967295)), .long (((v59.toInt64) <<< ((32 : Int32).toInt64 &&& 63)) ||| ((v61.toInt64) &&& 4294967295)), .long (((v63.toInt64) <<< ((32 : Int32).toInt64 &&& 63)) ||| ((v65.toInt64) &&& 4294967295)), .long (((v67.toInt64) <<< ((32 : Int32).toInt64 &&& 63)) ||| ((v69.toInt64) &&& 4294967295)), .long (((v71.toInt64) <<< ((32 : Int32).toInt64 &&& 63)) ||| ((v73.toInt64) &&& 4294967295)), .ref o17]) (rest := []) hx hb hml hown hT hK hZ hA hI (m_W_box l hst D g0 o1 v49 (((v51.toInt64) <<< ((32 : Int32).toInt64 &&& 63)) ||| ((v53.toInt64) &&& 4294967295)) (((v55.toInt64) <<< ((32 : Int32).toInt64 &&& 63)) ||| ((v57.toInt64) &&& 4294967295)) (((v59.toInt64) <<< ((32 : Int32).toInt64 &&& 63)) ||| ((v61.toInt64) &&& 4294967295)) (((v63.toInt64) <<< ((32 : Int32).toInt64 &&& 63)) ||| ((v65.toInt64) &&& 4294967295)) (((v67.toInt64) <<< ((32 : Int32).toInt64 &&& 63)) ||| ((v69.toInt64) &&& 4294967295)) (((v71.toInt64) <<< ((32 : Int32).toInt64 &&& 63)) ||| ((v73.toInt64) &&& 4294967295)) o17 w u75 e76) ce_W_box wd_427 ⟨by decide, by decide⟩ rfl rfl hl.1 rfl (lv_room (Nat.le_of_ble_eq_true rfl)) d_law_297 ⟨(show (16015 - (n + 1) * 31) + 14 ≤ 601024 by omega), (show (905842 - (n + 1) * 1745) + 152 ≤ 7293000 by omega)⟩) hI hA hexc (show (16015 - (n + 1) * 31) + 14 ≤ 601024 by omega) (show (905842 - (n + 1) * 1745) + 152 ≤ 7293000 by omega) (fun v77 w H locs h hI => ?_)
          refine W.widen (k := ((16015 - (n + 1) * 31) + 14)) (n := ((905842 - (n + 1) * 1745) + 152)) (show (16015 - (n + 1) * 31) + 14 ≤ ((16015 - (n + 1) * 31) + 14) by omega) (show (905842 - (n + 1) * 1745) + 152 ≤ ((905842 - (n + 1) * 1745) + 152) by omega) ?_
          refine lv_istore (lv' := [(5, .int v77), (0, .ref a0), (1, .ref o1), (2, .ref o9), (3, .ref o17), (4, .int z31)]) hx hb d_law_300 hl (by decide) rfl (fun ls hl => ?_)
          refine lv_aload_n hx hb d_law_302 rfl (lv_at hl 3 rfl) ?_
          refine lv_aload_n hx hb d_law_303 rfl (lv_at hl 1 rfl) ?_
          refine lv_iload hx hb d_law_304 (lv_at hl 5 rfl) ?_
          refine lv_iconst (v := 1) hx hb d_law_306 (by decide) ?_
          refine lv_iadd hx hb d_law_307 ?_
          obtain ⟨v78, e79, h⟩ := gb h
          refine gw_aldI hx hb hK hI e79 d_law_308 ?_
          refine lv_aload_n hx hb d_law_309 rfl (lv_at hl 1 rfl) ?_
          refine lv_iload hx hb d_law_310 (lv_at hl 5 rfl) ?_
          refine lv_iconst (v := 2) hx hb d_law_312 (by decide) ?_
          refine lv_iadd hx hb d_law_313 ?_
          obtain ⟨v80, e81, h⟩ := gb h
          refine gw_aldI hx hb hK hI e81 d_law_314 ?_
          refine lv_i2l (v := v80.toInt64) hx hb d_law_315 rfl ?_
          refine lv_bipush (v := 32) hx hb d_law_316 (by decide) ?_
          refine lv_lshl (v := (v80.toInt64) <<< ((32 : Int32).toInt64 &&& 63)) hx hb d_law_318 rfl ?_
          refine lv_aload_n hx hb d_law_319 rfl (lv_at hl 1 rfl) ?_
          refine lv_iload hx hb d_law_320 (lv_at hl 5 rfl) ?_
          refine lv_iconst (v := 3) hx hb d_law_322 (by decide) ?_
          refine lv_iadd hx hb d_law_323 ?_
          obtain ⟨v82, e83, h⟩ := gb h
          refine gw_aldI hx hb hK hI e83 d_law_324 ?_
          refine lv_i2l (v := v82.toInt64) hx hb d_law_325 rfl ?_
          refine lv_ldc2 (v := 4294967295) hx hb hown (hT _ wd_1121 args) d_law_326 ?_
          refine lv_land hx hb d_law_329 ?_
          refine lv_lor hx hb d_law_330 ?_
          refine lv_aload_n hx hb d_law_331 rfl (lv_at hl 1 rfl) ?_
          refine lv_iload hx hb d_law_332 (lv_at hl 5 rfl) ?_
          refine lv_iconst (v := 4) hx hb d_law_334 (by decide) ?_
          refine lv_iadd hx hb d_law_335 ?_
          obtain ⟨v84, e85, h⟩ := gb h
          refine gw_aldI hx hb hK hI e85 d_law_336 ?_
          refine lv_i2l (v := v84.toInt64) hx hb d_law_337 rfl ?_
          refine lv_bipush (v := 32) hx hb d_law_338 (by decide) ?_
          refine lv_lshl (v := (v84.toInt64) <<< ((32 : Int32).toInt64 &&& 63)) hx hb d_law_340 rfl ?_
          refine lv_aload_n hx hb d_law_341 rfl (lv_at hl 1 rfl) ?_
          refine lv_iload hx hb d_law_342 (lv_at hl 5 rfl) ?_
          refine lv_iconst (v := 5) hx hb d_law_344 (by decide) ?_
          refine lv_iadd hx hb d_law_345 ?_
          obtain ⟨v86, e87, h⟩ := gb h
          refine gw_aldI hx hb hK hI e87 d_law_346 ?_
          refine lv_i2l (v := v86.toInt64) hx hb d_law_347 rfl ?_
          refine lv_ldc2 (v := 4294967295) hx hb hown (hT _ wd_1121 args) d_law_348 ?_
          refine lv_land hx hb d_law_351 ?_
          refine lv_lor hx hb d_law_352 ?_
          refine lv_aload_n hx hb d_law_353 rfl (lv_at hl 1 rfl) ?_
          refine lv_iload hx hb d_law_354 (lv_at hl 5 rfl) ?_
          refine lv_bipush (v := 6) hx hb d_law_356 (by decide) ?_
          refine lv_iadd hx hb d_law_358 ?_
          obtain ⟨v88, e89, h⟩ := gb h
          refine gw_aldI hx hb hK hI e89 d_law_359 ?_
          refine lv_i2l (v := v88.toInt64) hx hb d_law_360 rfl ?_
          refine lv_bipush (v := 32) hx hb d_law_361 (by decide) ?_
          refine lv_lshl (v := (v88.toInt64) <<< ((32 : Int32).toInt64 &&& 63)) hx hb d_law_363 rfl ?_
          refine lv_aload_n hx hb d_law_364 rfl (lv_at hl 1 rfl) ?_
          refine lv_iload hx hb d_law_365 (lv_at hl 5 rfl) ?_
          refine lv_bipush (v := 7) hx hb d_law_367 (by decide) ?_
          refine lv_iadd hx hb d_law_369 ?_
          obtain ⟨v90, e91, h⟩ := gb h
          refine gw_aldI hx hb hK hI e91 d_law_370 ?_
          refine lv_i2l (v := v90.toInt64) hx hb d_law_371 rfl ?_
          refine lv_ldc2 (v := 4294967295) hx hb hown (hT _ wd_1121 args) d_law_372 ?_
          refine lv_land hx hb d_law_375 ?_
          refine lv_lor hx hb d_law_376 ?_
          refine lv_aload_n hx hb d_law_377 rfl (lv_at hl 1 rfl) ?_
          refine lv_iload hx hb d_law_378 (lv_at hl 5 rfl) ?_
          refine lv_bipush (v := 8) hx hb d_law_380 (by decide) ?_
          refine lv_iadd hx hb d_law_382 ?_
          obtain ⟨v92, e93, h⟩ := gb h
          refine gw_aldI hx hb hK hI e93 d_law_383 ?_
          refine lv_i2l (v := v92.toInt64) hx hb d_law_384 rfl ?_
          refine lv_bipush (v := 32) hx hb d_law_385 (by decide) ?_
          refine lv_lshl (v := (v92.toInt64) <<< ((32 : Int32).toInt64 &&& 63)) hx hb d_law_387 rfl ?_
          refine lv_aload_n hx hb d_law_388 rfl (lv_at hl 1 rfl) ?_
          refine lv_iload hx hb d_law_389 (lv_at hl 5 rfl) ?_
          refine lv_bipush (v := 9) hx hb d_law_391 (by decide) ?_
          refine lv_iadd hx hb d_law_393 ?_
          obtain ⟨v94, e95, h⟩ := gb h
          refine gw_aldI hx hb hK hI e95 d_law_394 ?_
          refine lv_i2l (v := v94.toInt64) hx hb d_law_395 rfl ?_
          refine lv_ldc2 (v := 4294967295) hx hb hown (hT _ wd_1121 args) d_law_396 ?_
          refine lv_land hx hb d_law_399 ?_
          refine lv_lor hx hb d_law_400 ?_
          refine lv_aload_n hx hb d_law_401 rfl (lv_at hl 1 rfl) ?_
          refine lv_iload hx hb d_law_402 (lv_at hl 5 rfl) ?_
          refine lv_bipush (v := 10) hx hb d_law_404 (by decide) ?_
          refine lv_iadd hx hb d_law_406 ?_
          obtain ⟨v96, e97, h⟩ := gb h
          refine gw_aldI hx hb hK hI e97 d_law_407 ?_
          refine lv_i2l (v := v96.toInt64) hx hb d_law_408 rfl ?_
          refine lv_bipush (v := 32) hx hb d_law_409 (by decide) ?_
          refine lv_lshl (v := (v96.toInt64) <<< ((32 : Int32).toInt64 &&& 63)) hx hb d_law_411 rfl ?_
          refine lv_aload_n hx hb d_law_412 rfl (lv_at hl 1 rfl) ?_
          refine lv_iload hx hb d_law_413 (lv_at hl 5 rfl) ?_
          refine lv_bipush (v := 11) hx hb d_law_415 (by decide) ?_
          refine lv_iadd hx hb d_law_417 ?_
          obtain ⟨v98, e99, h⟩ := gb h
          refine gw_aldI hx hb hK hI e99 d_law_418 ?_
          refine lv_i2l (v := v98.toInt64) hx hb d_law_419 rfl ?_
          refine lv_ldc2 (v := 4294967295) hx hb hown (hT _ wd_1121 args) d_law_420 ?_
          refine lv_land hx hb d_law_423 ?_
          refine lv_lor hx hb d_law_424 ?_
          refine lv_aload_n hx hb d_law_425 rfl (lv_at hl 1 rfl) ?_
          refine lv_iload hx hb d_law_426 (lv_at hl 5 rfl) ?_
          refine lv_bipush (v := 12) hx hb d_law_428 (by decide) ?_
          refine lv_iadd hx hb d_law_430 ?_
          obtain ⟨v100, e101, h⟩ := gb h
          refine gw_aldI hx hb hK hI e101 d_law_431 ?_
          refine lv_i2l (v := v100.toInt64) hx hb d_law_432 rfl ?_
          refine lv_bipush (v := 32) hx hb d_law_433 (by decide) ?_
          refine lv_lshl (v := (v100.toInt64) <<< ((32 : Int32).toInt64 &&& 63)) hx hb d_law_435 rfl ?_
          refine lv_aload_n hx hb d_law_436 rfl (lv_at hl 1 rfl) ?_
          refine lv_iload hx hb d_law_437 (lv_at hl 5 rfl) ?_
          refine lv_bipush (v := 13) hx hb d_law_439 (by decide) ?_
          refine lv_iadd hx hb d_law_441 ?_
          obtain ⟨v102, e103, h⟩ := gb h
          refine gw_aldI hx hb hK hI e103 d_law_442 ?_
          refine lv_i2l (v := v102.toInt64) hx hb d_law_443 rfl ?_
          refine lv_ldc2 (v := 4294967295) hx hb hown (hT _ wd_1121 args) d_law_444 ?_
          refine lv_land hx hb d_law_447 ?_
          refine lv_lor hx hb d_law_448 ?_
          obtain ⟨q106, e107, h⟩ := gb h
          obtain ⟨u104, e105⟩ := gsome h
          refine gw_callI e105 h (gw_runV (As := [.int v78, .long (((v80.toInt64) <<< ((32 : Int32).toInt64 &&& 63)) ||| ((v82.toInt64) &&& 4294967295)), .long (((v84.toInt64) <<< ((32 : Int32).toInt64 &&& 63)) ||| ((v86.toInt64) &&& 4294967295)), .long (((v88.toInt64) <<< ((32 : Int32).toInt64 &&& 63)) ||| ((v90.toInt64) &&& 4294967295)), .long (((v92.toInt64) <<< ((32 : Int32).toInt64 &&& 63)) ||| ((v94.toInt64) &&& 4294967295)), .long (((v96.toInt64) <<< ((32 : Int32).toInt64 &&& 63)) ||| ((v98.toInt64) &&& 4294967295)), .long (((v100.toInt64) <<< ((32 : Int32).toInt64 &&& 63)) ||| ((v102.toInt64) &&& 4294967295))]) (rest := []) hx hb hml hown hT hK hZ hA hI (ci := 7) rfl e107 (m_M_box l hst D g0 o9 v78 (((v80.toInt64) <<< ((32 : Int32).toInt64 &&& 63)) ||| ((v82.toInt64) &&& 4294967295)) (((v84.toInt64) <<< ((32 : Int32).toInt64 &&& 63)) ||| ((v86.toInt64) &&& 4294967295)) (((v88.toInt64) <<< ((32 : Int32).toInt64 &&& 63)) ||| ((v90.toInt64) &&& 4294967295)) (((v92.toInt64) <<< ((32 : Int32).toInt64 &&& 63)) ||| ((v94.toInt64) &&& 4294967295)) (((v96.toInt64) <<< ((32 : Int32).toInt64 &&& 63)) ||| ((v98.toInt64) &&& 4294967295)) (((v100.toInt64) <<< ((32 : Int32).toInt64 &&& 63)) ||| ((v102.toInt64) &&& 4294967295)) w u104 e105) ce_M_box wd_876 wd_878 ⟨by decide, by decide⟩ rfl rfl hl.1 rfl (lv_room (Nat.le_of_ble_eq_true rfl)) d_law_449 ⟨(show ((16015 - (n + 1) * 31) + 14) + 0 ≤ 601024 by omega), (show ((905842 - (n + 1) * 1745) + 152) + 0 ≤ 7293000 by omega)⟩) hI hA hexc (show ((16015 - (n + 1) * 31) + 14) + 0 ≤ 601024 by omega) (show ((905842 - (n + 1) * 1745) + 152) + 0 ≤ 7293000 by omega) (fun v108 w H locs h hI => ?_)
          refine lv_istore (lv' := [(6, .int v108), (5, .int v77), (0, .ref a0), (1, .ref o1), (2, .ref o9), (3, .ref o17), (4, .int z31)]) hx hb d_law_452 hl (by decide) rfl (fun ls hl => ?_)
          refine lv_goto (tgt := 2097) hx hb d_law_454 (by decide) ?_
          refine W.widen (k := ((16015 - (n + 1) * 31) + 31)) (n := ((905842 - (n + 1) * 1745) + 1745)) (show ((16015 - (n + 1) * 31) + 14) ≤ ((16015 - (n + 1) * 31) + 31) by omega) (show ((905842 - (n + 1) * 1745) + 152) ≤ ((905842 - (n + 1) * 1745) + 1745) by omega) ?_
          exact hK2097 w H locs ls h hI (lv_sub hl [2, 3, 4, 5, 6] rfl)
        have h := gie c48 h
        rcases Decidable.em ((v35 &&& 31) = 2) with c109 | c109
        · have h := git c109 h
          refine lv_tableIn (off := 405) (tgt := 457) hx hb d_law_52 (by rw [c109]; decide) (by rw [c109]; decide) (by rw [c109]; decide) (by decide) ?_
          refine W.widen (k := 16015) (n := 905842) (show (16015 - (n + 1) * 31) ≤ 16015 by omega) (show (905842 - (n + 1) * 1745) ≤ 905842 by omega) ?_
          exact hK457 _ w H locs ls h hI (lv_sub hl [0, 1, 3, 4] rfl)
        have h := gie c109 h
        rcases Decidable.em ((v35 &&& 31) = 3) with c110 | c110
        · have h := git c110 h
          refine lv_tableIn (off := 665) (tgt := 717) hx hb d_law_52 (by rw [c110]; decide) (by rw [c110]; decide) (by rw [c110]; decide) (by decide) ?_
          refine lv_aload_n hx hb d_law_717 rfl (lv_at hl 1 rfl) ?_
          refine lv_aload_n hx hb d_law_718 rfl (lv_at hl 0 rfl) ?_
          refine lv_iload hx hb d_law_719 (lv_at hl 4 rfl) ?_
          refine lv_iconst (v := 1) hx hb d_law_721 (by decide) ?_
          refine lv_iadd hx hb d_law_722 ?_
          obtain ⟨v111, e112, h⟩ := gb h
          refine gw_aldI hx hb hK hI e112 d_law_723 ?_
          refine lv_i2l (v := v111.toInt64) hx hb d_law_724 rfl ?_
          refine lv_bipush (v := 32) hx hb d_law_725 (by decide) ?_
          refine lv_lshl (v := (v111.toInt64) <<< ((32 : Int32).toInt64 &&& 63)) hx hb d_law_727 rfl ?_
          refine lv_aload_n hx hb d_law_728 rfl (lv_at hl 0 rfl) ?_
          refine lv_iload hx hb d_law_729 (lv_at hl 4 rfl) ?_
          refine lv_iconst (v := 2) hx hb d_law_731 (by decide) ?_
          refine lv_iadd hx hb d_law_732 ?_
          obtain ⟨v113, e114, h⟩ := gb h
          refine gw_aldI hx hb hK hI e114 d_law_733 ?_
          refine lv_i2l (v := v113.toInt64) hx hb d_law_734 rfl ?_
          refine lv_ldc2 (v := 4294967295) hx hb hown (hT _ wd_1121 args) d_law_735 ?_
          refine lv_land hx hb d_law_738 ?_
          refine lv_lor hx hb d_law_739 ?_
          refine lv_aload_n hx hb d_law_740 rfl (lv_at hl 0 rfl) ?_
          refine lv_iload hx hb d_law_741 (lv_at hl 4 rfl) ?_
          refine lv_iconst (v := 3) hx hb d_law_743 (by decide) ?_
          refine lv_iadd hx hb d_law_744 ?_
          obtain ⟨v115, e116, h⟩ := gb h
          refine gw_aldI hx hb hK hI e116 d_law_745 ?_
          refine lv_i2l (v := v115.toInt64) hx hb d_law_746 rfl ?_
          refine lv_bipush (v := 32) hx hb d_law_747 (by decide) ?_
          refine lv_lshl (v := (v115.toInt64) <<< ((32 : Int32).toInt64 &&& 63)) hx hb d_law_749 rfl ?_
          refine lv_aload_n hx hb d_law_750 rfl (lv_at hl 0 rfl) ?_
          refine lv_iload hx hb d_law_751 (lv_at hl 4 rfl) ?_
          refine lv_iconst (v := 4) hx hb d_law_753 (by decide) ?_
          refine lv_iadd hx hb d_law_754 ?_
          obtain ⟨v117, e118, h⟩ := gb h
          refine gw_aldI hx hb hK hI e118 d_law_755 ?_
          refine lv_i2l (v := v117.toInt64) hx hb d_law_756 rfl ?_
          refine lv_ldc2 (v := 4294967295) hx hb hown (hT _ wd_1121 args) d_law_757 ?_
          refine lv_land hx hb d_law_760 ?_
          refine lv_lor hx hb d_law_761 ?_
          refine lv_aload_n hx hb d_law_762 rfl (lv_at hl 3 rfl) ?_
          obtain ⟨u119, e120⟩ := gsome h
          refine gw_callI e120 h (gw_runS (As := [.ref o1, .long (((v111.toInt64) <<< ((32 : Int32).toInt64 &&& 63)) ||| ((v113.toInt64) &&& 4294967295)), .long (((v115.toInt64) <<< ((32 : Int32).toInt64 &&& 63)) ||| ((v117.toInt64) &&& 4294967295)), .ref o17]) (rest := []) hx hb hml hown hT hK hZ hA hI (m_W_corner l hst D g0 o1 (((v111.toInt64) <<< ((32 : Int32).toInt64 &&& 63)) ||| ((v113.toInt64) &&& 4294967295)) (((v115.toInt64) <<< ((32 : Int32).toInt64 &&& 63)) ||| ((v117.toInt64) &&& 4294967295)) o17 w u119 e120) ce_W_corner wd_577 ⟨by decide, by decide⟩ rfl rfl hl.1 rfl (lv_room (Nat.le_of_ble_eq_true rfl)) d_law_763 ⟨(show (16015 - (n + 1) * 31) + 2 ≤ 601024 by omega), (show (905842 - (n + 1) * 1745) + 12 ≤ 7293000 by omega)⟩) hI hA hexc (show (16015 - (n + 1) * 31) + 2 ≤ 601024 by omega) (show (905842 - (n + 1) * 1745) + 12 ≤ 7293000 by omega) (fun v121 w H locs h hI => ?_)
          refine W.widen (k := ((16015 - (n + 1) * 31) + 2)) (n := ((905842 - (n + 1) * 1745) + 12)) (show (16015 - (n + 1) * 31) + 2 ≤ ((16015 - (n + 1) * 31) + 2) by omega) (show (905842 - (n + 1) * 1745) + 12 ≤ ((905842 - (n + 1) * 1745) + 12) by omega) ?_
          refine lv_istore (lv' := [(5, .int v121), (0, .ref a0), (1, .ref o1), (2, .ref o9), (3, .ref o17), (4, .int z31)]) hx hb d_law_766 hl (by decide) rfl (fun ls hl => ?_)
          refine lv_aload_n hx hb d_law_768 rfl (lv_at hl 3 rfl) ?_
          refine lv_aload_n hx hb d_law_769 rfl (lv_at hl 1 rfl) ?_
          refine lv_iload hx hb d_law_770 (lv_at hl 5 rfl) ?_
          refine lv_iconst (v := 1) hx hb d_law_772 (by decide) ?_
          refine lv_iadd hx hb d_law_773 ?_
          obtain ⟨v122, e123, h⟩ := gb h
          refine gw_aldI hx hb hK hI e123 d_law_774 ?_
          refine lv_i2l (v := v122.toInt64) hx hb d_law_775 rfl ?_
          refine lv_bipush (v := 32) hx hb d_law_776 (by decide) ?_
          refine lv_lshl (v := (v122.toInt64) <<< ((32 : Int32).toInt64 &&& 63)) hx hb d_law_778 rfl ?_
          refine lv_aload_n hx hb d_law_779 rfl (lv_at hl 1 rfl) ?_
          refine lv_iload hx hb d_law_780 (lv_at hl 5 rfl) ?_
          refine lv_iconst (v := 2) hx hb d_law_782 (by decide) ?_
          refine lv_iadd hx hb d_law_783 ?_
          obtain ⟨v124, e125, h⟩ := gb h
          refine gw_aldI hx hb hK hI e125 d_law_784 ?_
          refine lv_i2l (v := v124.toInt64) hx hb d_law_785 rfl ?_
          refine lv_ldc2 (v := 4294967295) hx hb hown (hT _ wd_1121 args) d_law_786 ?_
          refine lv_land hx hb d_law_789 ?_
          refine lv_lor hx hb d_law_790 ?_
          refine lv_aload_n hx hb d_law_791 rfl (lv_at hl 1 rfl) ?_
          refine lv_iload hx hb d_law_792 (lv_at hl 5 rfl) ?_
          refine lv_iconst (v := 3) hx hb d_law_794 (by decide) ?_
          refine lv_iadd hx hb d_law_795 ?_
          obtain ⟨v126, e127, h⟩ := gb h
          refine gw_aldI hx hb hK hI e127 d_law_796 ?_
          refine lv_i2l (v := v126.toInt64) hx hb d_law_797 rfl ?_
          refine lv_bipush (v := 32) hx hb d_law_798 (by decide) ?_
          refine lv_lshl (v := (v126.toInt64) <<< ((32 : Int32).toInt64 &&& 63)) hx hb d_law_800 rfl ?_
          refine lv_aload_n hx hb d_law_801 rfl (lv_at hl 1 rfl) ?_
          refine lv_iload hx hb d_law_802 (lv_at hl 5 rfl) ?_
          refine lv_iconst (v := 4) hx hb d_law_804 (by decide) ?_
          refine lv_iadd hx hb d_law_805 ?_
          obtain ⟨v128, e129, h⟩ := gb h
          refine gw_aldI hx hb hK hI e129 d_law_806 ?_
          refine lv_i2l (v := v128.toInt64) hx hb d_law_807 rfl ?_
          refine lv_ldc2 (v := 4294967295) hx hb hown (hT _ wd_1121 args) d_law_808 ?_
          refine lv_land hx hb d_law_811 ?_
          refine lv_lor hx hb d_law_812 ?_
          obtain ⟨q132, e133, h⟩ := gb h
          obtain ⟨u130, e131⟩ := gsome h
          refine gw_callI e131 h (gw_runV (As := [.long (((v122.toInt64) <<< ((32 : Int32).toInt64 &&& 63)) ||| ((v124.toInt64) &&& 4294967295)), .long (((v126.toInt64) <<< ((32 : Int32).toInt64 &&& 63)) ||| ((v128.toInt64) &&& 4294967295))]) (rest := []) hx hb hml hown hT hK hZ hA hI (ci := 7) rfl e133 (m_M_corner l hst D g0 o9 (((v122.toInt64) <<< ((32 : Int32).toInt64 &&& 63)) ||| ((v124.toInt64) &&& 4294967295)) (((v126.toInt64) <<< ((32 : Int32).toInt64 &&& 63)) ||| ((v128.toInt64) &&& 4294967295)) w u130 e131) ce_M_corner wd_910 wd_912 ⟨by decide, by decide⟩ rfl rfl hl.1 rfl (lv_room (Nat.le_of_ble_eq_true rfl)) d_law_813 ⟨(show ((16015 - (n + 1) * 31) + 2) + 0 ≤ 601024 by omega), (show ((905842 - (n + 1) * 1745) + 12) + 0 ≤ 7293000 by omega)⟩) hI hA hexc (show ((16015 - (n + 1) * 31) + 2) + 0 ≤ 601024 by omega) (show ((905842 - (n + 1) * 1745) + 12) + 0 ≤ 7293000 by omega) (fun v134 w H locs h hI => ?_)
          refine lv_istore (lv' := [(6, .int v134), (5, .int v121), (0, .ref a0), (1, .ref o1), (2, .ref o9), (3, .ref o17), (4, .int z31)]) hx hb d_law_816 hl (by decide) rfl (fun ls hl => ?_)
          refine lv_goto (tgt := 2097) hx hb d_law_818 (by decide) ?_
          refine W.widen (k := ((16015 - (n + 1) * 31) + 31)) (n := ((905842 - (n + 1) * 1745) + 1745)) (show ((16015 - (n + 1) * 31) + 2) ≤ ((16015 - (n + 1) * 31) + 31) by omega) (show ((905842 - (n + 1) * 1745) + 12) ≤ ((905842 - (n + 1) * 1745) + 1745) by omega) ?_
          exact hK2097 w H locs ls h hI (lv_sub hl [2, 3, 4, 5, 6] rfl)
        have h := gie c110 h
        rcases Decidable.em ((v35 &&& 31) = 4) with c135 | c135
        · have h := git c135 h
          refine lv_tableIn (off := 769) (tgt := 821) hx hb d_law_52 (by rw [c135]; decide) (by rw [c135]; decide) (by rw [c135]; decide) (by decide) ?_
          refine lv_aload_n hx hb d_law_821 rfl (lv_at hl 1 rfl) ?_
          refine lv_aload_n hx hb d_law_822 rfl (lv_at hl 0 rfl) ?_
          refine lv_iload hx hb d_law_823 (lv_at hl 4 rfl) ?_
          refine lv_iconst (v := 1) hx hb d_law_825 (by decide) ?_
          refine lv_iadd hx hb d_law_826 ?_
          obtain ⟨v136, e137, h⟩ := gb h
          refine gw_aldI hx hb hK hI e137 d_law_827 ?_
          refine lv_aload_n hx hb d_law_828 rfl (lv_at hl 0 rfl) ?_
          refine lv_iload hx hb d_law_829 (lv_at hl 4 rfl) ?_
          refine lv_iconst (v := 2) hx hb d_law_831 (by decide) ?_
          refine lv_iadd hx hb d_law_832 ?_
          obtain ⟨v138, e139, h⟩ := gb h
          refine gw_aldI hx hb hK hI e139 d_law_833 ?_
          refine lv_i2l (v := v138.toInt64) hx hb d_law_834 rfl ?_
          refine lv_bipush (v := 32) hx hb d_law_835 (by decide) ?_
          refine lv_lshl (v := (v138.toInt64) <<< ((32 : Int32).toInt64 &&& 63)) hx hb d_law_837 rfl ?_
          refine lv_aload_n hx hb d_law_838 rfl (lv_at hl 0 rfl) ?_
          refine lv_iload hx hb d_law_839 (lv_at hl 4 rfl) ?_
          refine lv_iconst (v := 3) hx hb d_law_841 (by decide) ?_
          refine lv_iadd hx hb d_law_842 ?_
          obtain ⟨v140, e141, h⟩ := gb h
          refine gw_aldI hx hb hK hI e141 d_law_843 ?_
          refine lv_i2l (v := v140.toInt64) hx hb d_law_844 rfl ?_
          refine lv_ldc2 (v := 4294967295) hx hb hown (hT _ wd_1121 args) d_law_845 ?_
          refine lv_land hx hb d_law_848 ?_
          refine lv_lor hx hb d_law_849 ?_
          refine lv_aload_n hx hb d_law_850 rfl (lv_at hl 0 rfl) ?_
          refine lv_iload hx hb d_law_851 (lv_at hl 4 rfl) ?_
          refine lv_iconst (v := 4) hx hb d_law_853 (by decide) ?_
          refine lv_iadd hx hb d_law_854 ?_
          obtain ⟨v142, e143, h⟩ := gb h
          refine gw_aldI hx hb hK hI e143 d_law_855 ?_
          refine lv_i2l (v := v142.toInt64) hx hb d_law_856 rfl ?_
          refine lv_bipush (v := 32) hx hb d_law_857 (by decide) ?_
          refine lv_lshl (v := (v142.toInt64) <<< ((32 : Int32).toInt64 &&& 63)) hx hb d_law_859 rfl ?_
          refine lv_aload_n hx hb d_law_860 rfl (lv_at hl 0 rfl) ?_
          refine lv_iload hx hb d_law_861 (lv_at hl 4 rfl) ?_
          refine lv_iconst (v := 5) hx hb d_law_863 (by decide) ?_
          refine lv_iadd hx hb d_law_864 ?_
          obtain ⟨v144, e145, h⟩ := gb h
          refine gw_aldI hx hb hK hI e145 d_law_865 ?_
          refine lv_i2l (v := v144.toInt64) hx hb d_law_866 rfl ?_
          refine lv_ldc2 (v := 4294967295) hx hb hown (hT _ wd_1121 args) d_law_867 ?_
          refine lv_land hx hb d_law_870 ?_
          refine lv_lor hx hb d_law_871 ?_
          refine lv_aload_n hx hb d_law_872 rfl (lv_at hl 3 rfl) ?_
          obtain ⟨u146, e147⟩ := gsome h
          refine gw_callI e147 h (gw_runS (As := [.ref o1, .int v136, .long (((v138.toInt64) <<< ((32 : Int32).toInt64 &&& 63)) ||| ((v140.toInt64) &&& 4294967295)), .long (((v142.toInt64) <<< ((32 : Int32).toInt64 &&& 63)) ||| ((v144.toInt64) &&& 4294967295)), .ref o17]) (rest := []) hx hb hml hown hT hK hZ hA hI (m_W_prism l hst D g0 o1 v136 (((v138.toInt64) <<< ((32 : Int32).toInt64 &&& 63)) ||| ((v140.toInt64) &&& 4294967295)) (((v142.toInt64) <<< ((32 : Int32).toInt64 &&& 63)) ||| ((v144.toInt64) &&& 4294967295)) o17 w u146 e147) ce_W_prism wd_584 ⟨by decide, by decide⟩ rfl rfl hl.1 rfl (lv_room (Nat.le_of_ble_eq_true rfl)) d_law_873 ⟨(show (16015 - (n + 1) * 31) + 8 ≤ 601024 by omega), (show (905842 - (n + 1) * 1745) + 116 ≤ 7293000 by omega)⟩) hI hA hexc (show (16015 - (n + 1) * 31) + 8 ≤ 601024 by omega) (show (905842 - (n + 1) * 1745) + 116 ≤ 7293000 by omega) (fun v148 w H locs h hI => ?_)
          refine W.widen (k := ((16015 - (n + 1) * 31) + 8)) (n := ((905842 - (n + 1) * 1745) + 116)) (show (16015 - (n + 1) * 31) + 8 ≤ ((16015 - (n + 1) * 31) + 8) by omega) (show (905842 - (n + 1) * 1745) + 116 ≤ ((905842 - (n + 1) * 1745) + 116) by omega) ?_
          refine lv_istore (lv' := [(5, .int v148), (0, .ref a0), (1, .ref o1), (2, .ref o9), (3, .ref o17), (4, .int z31)]) hx hb d_law_876 hl (by decide) rfl (fun ls hl => ?_)
          refine lv_aload_n hx hb d_law_878 rfl (lv_at hl 3 rfl) ?_
          refine lv_aload_n hx hb d_law_879 rfl (lv_at hl 1 rfl) ?_
          refine lv_iload hx hb d_law_880 (lv_at hl 5 rfl) ?_
          refine lv_iconst (v := 1) hx hb d_law_882 (by decide) ?_
          refine lv_iadd hx hb d_law_883 ?_
          obtain ⟨v149, e150, h⟩ := gb h
          refine gw_aldI hx hb hK hI e150 d_law_884 ?_
          refine lv_aload_n hx hb d_law_885 rfl (lv_at hl 1 rfl) ?_
          refine lv_iload hx hb d_law_886 (lv_at hl 5 rfl) ?_
          refine lv_iconst (v := 2) hx hb d_law_888 (by decide) ?_
          refine lv_iadd hx hb d_law_889 ?_
          obtain ⟨v151, e152, h⟩ := gb h
          refine gw_aldI hx hb hK hI e152 d_law_890 ?_
          refine lv_i2l (v := v151.toInt64) hx hb d_law_891 rfl ?_
          refine lv_bipush (v := 32) hx hb d_law_892 (by decide) ?_
          refine lv_lshl (v := (v151.toInt64) <<< ((32 : Int32).toInt64 &&& 63)) hx hb d_law_894 rfl ?_
          refine lv_aload_n hx hb d_law_895 rfl (lv_at hl 1 rfl) ?_
          refine lv_iload hx hb d_law_896 (lv_at hl 5 rfl) ?_
          refine lv_iconst (v := 3) hx hb d_law_898 (by decide) ?_
          refine lv_iadd hx hb d_law_899 ?_
          obtain ⟨v153, e154, h⟩ := gb h
          refine gw_aldI hx hb hK hI e154 d_law_900 ?_
          refine lv_i2l (v := v153.toInt64) hx hb d_law_901 rfl ?_
          refine lv_ldc2 (v := 4294967295) hx hb hown (hT _ wd_1121 args) d_law_902 ?_
          refine lv_land hx hb d_law_905 ?_
          refine lv_lor hx hb d_law_906 ?_
          refine lv_aload_n hx hb d_law_907 rfl (lv_at hl 1 rfl) ?_
          refine lv_iload hx hb d_law_908 (lv_at hl 5 rfl) ?_
          refine lv_iconst (v := 4) hx hb d_law_910 (by decide) ?_
          refine lv_iadd hx hb d_law_911 ?_
          obtain ⟨v155, e156, h⟩ := gb h
          refine gw_aldI hx hb hK hI e156 d_law_912 ?_
          refine lv_i2l (v := v155.toInt64) hx hb d_law_913 rfl ?_
          refine lv_bipush (v := 32) hx hb d_law_914 (by decide) ?_
          refine lv_lshl (v := (v155.toInt64) <<< ((32 : Int32).toInt64 &&& 63)) hx hb d_law_916 rfl ?_
          refine lv_aload_n hx hb d_law_917 rfl (lv_at hl 1 rfl) ?_
          refine lv_iload hx hb d_law_918 (lv_at hl 5 rfl) ?_
          refine lv_iconst (v := 5) hx hb d_law_920 (by decide) ?_
          refine lv_iadd hx hb d_law_921 ?_
          obtain ⟨v157, e158, h⟩ := gb h
          refine gw_aldI hx hb hK hI e158 d_law_922 ?_
          refine lv_i2l (v := v157.toInt64) hx hb d_law_923 rfl ?_
          refine lv_ldc2 (v := 4294967295) hx hb hown (hT _ wd_1121 args) d_law_924 ?_
          refine lv_land hx hb d_law_927 ?_
          refine lv_lor hx hb d_law_928 ?_
          obtain ⟨q161, e162, h⟩ := gb h
          obtain ⟨u159, e160⟩ := gsome h
          refine gw_callI e160 h (gw_runV (As := [.int v149, .long (((v151.toInt64) <<< ((32 : Int32).toInt64 &&& 63)) ||| ((v153.toInt64) &&& 4294967295)), .long (((v155.toInt64) <<< ((32 : Int32).toInt64 &&& 63)) ||| ((v157.toInt64) &&& 4294967295))]) (rest := []) hx hb hml hown hT hK hZ hA hI (ci := 7) rfl e162 (m_M_prism l hst D g0 o9 v149 (((v151.toInt64) <<< ((32 : Int32).toInt64 &&& 63)) ||| ((v153.toInt64) &&& 4294967295)) (((v155.toInt64) <<< ((32 : Int32).toInt64 &&& 63)) ||| ((v157.toInt64) &&& 4294967295)) w u159 e160) ce_M_prism wd_914 wd_916 ⟨by decide, by decide⟩ rfl rfl hl.1 rfl (lv_room (Nat.le_of_ble_eq_true rfl)) d_law_929 ⟨(show ((16015 - (n + 1) * 31) + 8) + 0 ≤ 601024 by omega), (show ((905842 - (n + 1) * 1745) + 116) + 0 ≤ 7293000 by omega)⟩) hI hA hexc (show ((16015 - (n + 1) * 31) + 8) + 0 ≤ 601024 by omega) (show ((905842 - (n + 1) * 1745) + 116) + 0 ≤ 7293000 by omega) (fun v163 w H locs h hI => ?_)
          refine lv_istore (lv' := [(6, .int v163), (5, .int v148), (0, .ref a0), (1, .ref o1), (2, .ref o9), (3, .ref o17), (4, .int z31)]) hx hb d_law_932 hl (by decide) rfl (fun ls hl => ?_)
          refine lv_goto (tgt := 2097) hx hb d_law_934 (by decide) ?_
          refine W.widen (k := ((16015 - (n + 1) * 31) + 31)) (n := ((905842 - (n + 1) * 1745) + 1745)) (show ((16015 - (n + 1) * 31) + 8) ≤ ((16015 - (n + 1) * 31) + 31) by omega) (show ((905842 - (n + 1) * 1745) + 116) ≤ ((905842 - (n + 1) * 1745) + 1745) by omega) ?_
          exact hK2097 w H locs ls h hI (lv_sub hl [2, 3, 4, 5, 6] rfl)
        have h := gie c135 h
        rcases Decidable.em ((v35 &&& 31) = 5) with c164 | c164
        · have h := git c164 h
          refine lv_tableIn (off := 885) (tgt := 937) hx hb d_law_52 (by rw [c164]; decide) (by rw [c164]; decide) (by rw [c164]; decide) (by decide) ?_
          refine W.widen (k := 16015) (n := 905842) (show (16015 - (n + 1) * 31) ≤ 16015 by omega) (show (905842 - (n + 1) * 1745) ≤ 905842 by omega) ?_
          exact hK937 _ w H locs ls h hI (lv_sub hl [0, 1, 3, 4] rfl)
        have h := gie c164 h
        rcases Decidable.em ((v35 &&& 31) = 6) with c165 | c165
        · have h := git c165 h
          refine lv_tableIn (off := 1159) (tgt := 1211) hx hb d_law_52 (by rw [c165]; decide) (by rw [c165]; decide) (by rw [c165]; decide) (by decide) ?_
          refine lv_aload_n hx hb d_law_1211 rfl (lv_at hl 1 rfl) ?_
          refine lv_aload_n hx hb d_law_1212 rfl (lv_at hl 0 rfl) ?_
          refine lv_iload hx hb d_law_1213 (lv_at hl 4 rfl) ?_
          refine lv_iconst (v := 1) hx hb d_law_1215 (by decide) ?_
          refine lv_iadd hx hb d_law_1216 ?_
          obtain ⟨v166, e167, h⟩ := gb h
          refine gw_aldI hx hb hK hI e167 d_law_1217 ?_
          refine lv_aload_n hx hb d_law_1218 rfl (lv_at hl 0 rfl) ?_
          refine lv_iload hx hb d_law_1219 (lv_at hl 4 rfl) ?_
          refine lv_iconst (v := 2) hx hb d_law_1221 (by decide) ?_
          refine lv_iadd hx hb d_law_1222 ?_
          obtain ⟨v168, e169, h⟩ := gb h
          refine gw_aldI hx hb hK hI e169 d_law_1223 ?_
          refine lv_aload_n hx hb d_law_1224 rfl (lv_at hl 3 rfl) ?_
          obtain ⟨u170, e171⟩ := gsome h
          refine gw_callI e171 h (gw_runS (As := [.ref o1, .int v166, .int v168, .ref o17]) (rest := []) hx hb hml hown hT hK hZ hA hI (m_W_join l hst D g0 o1 v166 v168 o17 w u170 e171) ce_W_join wd_622 ⟨by decide, by decide⟩ rfl rfl hl.1 rfl (lv_room (Nat.le_of_ble_eq_true rfl)) d_law_1225 ⟨(show (16015 - (n + 1) * 31) + 31 ≤ 601024 by omega), (show (905842 - (n + 1) * 1745) + 1745 ≤ 7293000 by omega)⟩) hI hA hexc (show (16015 - (n + 1) * 31) + 31 ≤ 601024 by omega) (show (905842 - (n + 1) * 1745) + 1745 ≤ 7293000 by omega) (fun v172 w H locs h hI => ?_)
          refine W.widen (k := ((16015 - (n + 1) * 31) + 31)) (n := ((905842 - (n + 1) * 1745) + 1745)) (show (16015 - (n + 1) * 31) + 31 ≤ ((16015 - (n + 1) * 31) + 31) by omega) (show (905842 - (n + 1) * 1745) + 1745 ≤ ((905842 - (n + 1) * 1745) + 1745) by omega) ?_
          refine lv_istore (lv' := [(5, .int v172), (0, .ref a0), (1, .ref o1), (2, .ref o9), (3, .ref o17), (4, .int z31)]) hx hb d_law_1228 hl (by decide) rfl (fun ls hl => ?_)
          refine lv_aload_n hx hb d_law_1230 rfl (lv_at hl 3 rfl) ?_
          refine lv_aload_n hx hb d_law_1231 rfl (lv_at hl 1 rfl) ?_
          refine lv_iload hx hb d_law_1232 (lv_at hl 5 rfl) ?_
          refine lv_iconst (v := 1) hx hb d_law_1234 (by decide) ?_
          refine lv_iadd hx hb d_law_1235 ?_
          obtain ⟨v173, e174, h⟩ := gb h
          refine gw_aldI hx hb hK hI e174 d_law_1236 ?_
          refine lv_aload_n hx hb d_law_1237 rfl (lv_at hl 1 rfl) ?_
          refine lv_iload hx hb d_law_1238 (lv_at hl 5 rfl) ?_
          refine lv_iconst (v := 2) hx hb d_law_1240 (by decide) ?_
          refine lv_iadd hx hb d_law_1241 ?_
          obtain ⟨v175, e176, h⟩ := gb h
          refine gw_aldI hx hb hK hI e176 d_law_1242 ?_
          obtain ⟨q179, e180, h⟩ := gb h
          obtain ⟨u177, e178⟩ := gsome h
          refine gw_callI e178 h (gw_runV (As := [.int v173, .int v175]) (rest := []) hx hb hml hown hT hK hZ hA hI (ci := 7) rfl e180 (m_M_join l hst D g0 o9 v173 v175 w u177 e178) ce_M_join wd_932 wd_934 ⟨by decide, by decide⟩ rfl rfl hl.1 rfl (lv_room (Nat.le_of_ble_eq_true rfl)) d_law_1243 ⟨(show ((16015 - (n + 1) * 31) + 31) + 0 ≤ 601024 by omega), (show ((905842 - (n + 1) * 1745) + 1745) + 0 ≤ 7293000 by omega)⟩) hI hA hexc (show ((16015 - (n + 1) * 31) + 31) + 0 ≤ 601024 by omega) (show ((905842 - (n + 1) * 1745) + 1745) + 0 ≤ 7293000 by omega) (fun v181 w H locs h hI => ?_)
          refine lv_istore (lv' := [(6, .int v181), (5, .int v172), (0, .ref a0), (1, .ref o1), (2, .ref o9), (3, .ref o17), (4, .int z31)]) hx hb d_law_1246 hl (by decide) rfl (fun ls hl => ?_)
          refine lv_goto (tgt := 2097) hx hb d_law_1248 (by decide) ?_
          exact hK2097 w H locs ls h hI (lv_sub hl [2, 3, 4, 5, 6] rfl)
        have h := gie c165 h
        rcases Decidable.em ((v35 &&& 31) = 7) with c182 | c182
        · have h := git c182 h
          refine lv_tableIn (off := 1199) (tgt := 1251) hx hb d_law_52 (by rw [c182]; decide) (by rw [c182]; decide) (by rw [c182]; decide) (by decide) ?_
          refine lv_aload_n hx hb d_law_1251 rfl (lv_at hl 1 rfl) ?_
          refine lv_aload_n hx hb d_law_1252 rfl (lv_at hl 0 rfl) ?_
          refine lv_iload hx hb d_law_1253 (lv_at hl 4 rfl) ?_
          refine lv_iconst (v := 1) hx hb d_law_1255 (by decide) ?_
          refine lv_iadd hx hb d_law_1256 ?_
          obtain ⟨v183, e184, h⟩ := gb h
          refine gw_aldI hx hb hK hI e184 d_law_1257 ?_
          refine lv_aload_n hx hb d_law_1258 rfl (lv_at hl 0 rfl) ?_
          refine lv_iload hx hb d_law_1259 (lv_at hl 4 rfl) ?_
          refine lv_iconst (v := 2) hx hb d_law_1261 (by decide) ?_
          refine lv_iadd hx hb d_law_1262 ?_
          obtain ⟨v185, e186, h⟩ := gb h
          refine gw_aldI hx hb hK hI e186 d_law_1263 ?_
          refine lv_i2l (v := v185.toInt64) hx hb d_law_1264 rfl ?_
          refine lv_bipush (v := 32) hx hb d_law_1265 (by decide) ?_
          refine lv_lshl (v := (v185.toInt64) <<< ((32 : Int32).toInt64 &&& 63)) hx hb d_law_1267 rfl ?_
          refine lv_aload_n hx hb d_law_1268 rfl (lv_at hl 0 rfl) ?_
          refine lv_iload hx hb d_law_1269 (lv_at hl 4 rfl) ?_
          refine lv_iconst (v := 3) hx hb d_law_1271 (by decide) ?_
          refine lv_iadd hx hb d_law_1272 ?_
          obtain ⟨v187, e188, h⟩ := gb h
          refine gw_aldI hx hb hK hI e188 d_law_1273 ?_
          refine lv_i2l (v := v187.toInt64) hx hb d_law_1274 rfl ?_
          refine lv_ldc2 (v := 4294967295) hx hb hown (hT _ wd_1121 args) d_law_1275 ?_
          refine lv_land hx hb d_law_1278 ?_
          refine lv_lor hx hb d_law_1279 ?_
          refine lv_aload_n hx hb d_law_1280 rfl (lv_at hl 0 rfl) ?_
          refine lv_iload hx hb d_law_1281 (lv_at hl 4 rfl) ?_
          refine lv_iconst (v := 4) hx hb d_law_1283 (by decide) ?_
          refine lv_iadd hx hb d_law_1284 ?_
          obtain ⟨v189, e190, h⟩ := gb h
          refine gw_aldI hx hb hK hI e190 d_law_1285 ?_
          refine lv_i2l (v := v189.toInt64) hx hb d_law_1286 rfl ?_
          refine lv_bipush (v := 32) hx hb d_law_1287 (by decide) ?_
          refine lv_lshl (v := (v189.toInt64) <<< ((32 : Int32).toInt64 &&& 63)) hx hb d_law_1289 rfl ?_
          refine lv_aload_n hx hb d_law_1290 rfl (lv_at hl 0 rfl) ?_
          refine lv_iload hx hb d_law_1291 (lv_at hl 4 rfl) ?_
          refine lv_iconst (v := 5) hx hb d_law_1293 (by decide) ?_
          refine lv_iadd hx hb d_law_1294 ?_
          obtain ⟨v191, e192, h⟩ := gb h
          refine gw_aldI hx hb hK hI e192 d_law_1295 ?_
          refine lv_i2l (v := v191.toInt64) hx hb d_law_1296 rfl ?_
          refine lv_ldc2 (v := 4294967295) hx hb hown (hT _ wd_1121 args) d_law_1297 ?_
          refine lv_land hx hb d_law_1300 ?_
          refine lv_lor hx hb d_law_1301 ?_
          refine lv_aload_n hx hb d_law_1302 rfl (lv_at hl 0 rfl) ?_
          refine lv_iload hx hb d_law_1303 (lv_at hl 4 rfl) ?_
          refine lv_bipush (v := 6) hx hb d_law_1305 (by decide) ?_
          refine lv_iadd hx hb d_law_1307 ?_
          obtain ⟨v193, e194, h⟩ := gb h
          refine gw_aldI hx hb hK hI e194 d_law_1308 ?_
          refine lv_aload_n hx hb d_law_1309 rfl (lv_at hl 0 rfl) ?_
          refine lv_iload hx hb d_law_1310 (lv_at hl 4 rfl) ?_
          refine lv_bipush (v := 7) hx hb d_law_1312 (by decide) ?_
          refine lv_iadd hx hb d_law_1314 ?_
          obtain ⟨v195, e196, h⟩ := gb h
          refine gw_aldI hx hb hK hI e196 d_law_1315 ?_
          refine lv_aload_n hx hb d_law_1316 rfl (lv_at hl 3 rfl) ?_
          obtain ⟨u197, e198⟩ := gsome h
          refine gw_callI e198 h (gw_runS (As := [.ref o1, .int v183, .long (((v185.toInt64) <<< ((32 : Int32).toInt64 &&& 63)) ||| ((v187.toInt64) &&& 4294967295)), .long (((v189.toInt64) <<< ((32 : Int32).toInt64 &&& 63)) ||| ((v191.toInt64) &&& 4294967295)), .int v193, .int v195, .ref o17]) (rest := []) hx hb hml hown hT hK hZ hA hI (m_W_place l hst D g0 o1 v183 (((v185.toInt64) <<< ((32 : Int32).toInt64 &&& 63)) ||| ((v187.toInt64) &&& 4294967295)) (((v189.toInt64) <<< ((32 : Int32).toInt64 &&& 63)) ||| ((v191.toInt64) &&& 4294967295)) v193 v195 o17 w u197 e198) ce_W_place wd_635 ⟨by decide, by decide⟩ rfl rfl hl.1 rfl (lv_room (Nat.le_of_ble_eq_true rfl)) d_law_1317 ⟨(show (16015 - (n + 1) * 31) + 7 ≤ 601024 by omega), (show (905842 - (n + 1) * 1745) + 99 ≤ 7293000 by omega)⟩) hI hA hexc (show (16015 - (n + 1) * 31) + 7 ≤ 601024 by omega) (show (905842 - (n + 1) * 1745) + 99 ≤ 7293000 by omega) (fun v199 w H locs h hI => ?_)
          refine W.widen (k := ((16015 - (n + 1) * 31) + 7)) (n := ((905842 - (n + 1) * 1745) + 99)) (show (16015 - (n + 1) * 31) + 7 ≤ ((16015 - (n + 1) * 31) + 7) by omega) (show (905842 - (n + 1) * 1745) + 99 ≤ ((905842 - (n + 1) * 1745) + 99) by omega) ?_
          refine lv_istore (lv' := [(5, .int v199), (0, .ref a0), (1, .ref o1), (2, .ref o9), (3, .ref o17), (4, .int z31)]) hx hb d_law_1320 hl (by decide) rfl (fun ls hl => ?_)
          refine lv_aload_n hx hb d_law_1322 rfl (lv_at hl 3 rfl) ?_
          refine lv_aload_n hx hb d_law_1323 rfl (lv_at hl 1 rfl) ?_
          refine lv_iload hx hb d_law_1324 (lv_at hl 5 rfl) ?_
          refine lv_iconst (v := 1) hx hb d_law_1326 (by decide) ?_
          refine lv_iadd hx hb d_law_1327 ?_
          obtain ⟨v200, e201, h⟩ := gb h
          refine gw_aldI hx hb hK hI e201 d_law_1328 ?_
          refine lv_aload_n hx hb d_law_1329 rfl (lv_at hl 1 rfl) ?_
          refine lv_iload hx hb d_law_1330 (lv_at hl 5 rfl) ?_
          refine lv_iconst (v := 2) hx hb d_law_1332 (by decide) ?_
          refine lv_iadd hx hb d_law_1333 ?_
          obtain ⟨v202, e203, h⟩ := gb h
          refine gw_aldI hx hb hK hI e203 d_law_1334 ?_
          refine lv_i2l (v := v202.toInt64) hx hb d_law_1335 rfl ?_
          refine lv_bipush (v := 32) hx hb d_law_1336 (by decide) ?_
          refine lv_lshl (v := (v202.toInt64) <<< ((32 : Int32).toInt64 &&& 63)) hx hb d_law_1338 rfl ?_
          refine lv_aload_n hx hb d_law_1339 rfl (lv_at hl 1 rfl) ?_
          refine lv_iload hx hb d_law_1340 (lv_at hl 5 rfl) ?_
          refine lv_iconst (v := 3) hx hb d_law_1342 (by decide) ?_
          refine lv_iadd hx hb d_law_1343 ?_
          obtain ⟨v204, e205, h⟩ := gb h
          refine gw_aldI hx hb hK hI e205 d_law_1344 ?_
          refine lv_i2l (v := v204.toInt64) hx hb d_law_1345 rfl ?_
          refine lv_ldc2 (v := 4294967295) hx hb hown (hT _ wd_1121 args) d_law_1346 ?_
          refine lv_land hx hb d_law_1349 ?_
          refine lv_lor hx hb d_law_1350 ?_
          refine lv_aload_n hx hb d_law_1351 rfl (lv_at hl 1 rfl) ?_
          refine lv_iload hx hb d_law_1352 (lv_at hl 5 rfl) ?_
          refine lv_iconst (v := 4) hx hb d_law_1354 (by decide) ?_
          refine lv_iadd hx hb d_law_1355 ?_
          obtain ⟨v206, e207, h⟩ := gb h
          refine gw_aldI hx hb hK hI e207 d_law_1356 ?_
          refine lv_i2l (v := v206.toInt64) hx hb d_law_1357 rfl ?_
          refine lv_bipush (v := 32) hx hb d_law_1358 (by decide) ?_
          refine lv_lshl (v := (v206.toInt64) <<< ((32 : Int32).toInt64 &&& 63)) hx hb d_law_1360 rfl ?_
          refine lv_aload_n hx hb d_law_1361 rfl (lv_at hl 1 rfl) ?_
          refine lv_iload hx hb d_law_1362 (lv_at hl 5 rfl) ?_
          refine lv_iconst (v := 5) hx hb d_law_1364 (by decide) ?_
          refine lv_iadd hx hb d_law_1365 ?_
          obtain ⟨v208, e209, h⟩ := gb h
          refine gw_aldI hx hb hK hI e209 d_law_1366 ?_
          refine lv_i2l (v := v208.toInt64) hx hb d_law_1367 rfl ?_
          refine lv_ldc2 (v := 4294967295) hx hb hown (hT _ wd_1121 args) d_law_1368 ?_
          refine lv_land hx hb d_law_1371 ?_
          refine lv_lor hx hb d_law_1372 ?_
          refine lv_aload_n hx hb d_law_1373 rfl (lv_at hl 1 rfl) ?_
          refine lv_iload hx hb d_law_1374 (lv_at hl 5 rfl) ?_
          refine lv_bipush (v := 6) hx hb d_law_1376 (by decide) ?_
          refine lv_iadd hx hb d_law_1378 ?_
          obtain ⟨v210, e211, h⟩ := gb h
          refine gw_aldI hx hb hK hI e211 d_law_1379 ?_
          refine lv_aload_n hx hb d_law_1380 rfl (lv_at hl 1 rfl) ?_
          refine lv_iload hx hb d_law_1381 (lv_at hl 5 rfl) ?_
          refine lv_bipush (v := 7) hx hb d_law_1383 (by decide) ?_
          refine lv_iadd hx hb d_law_1385 ?_
          obtain ⟨v212, e213, h⟩ := gb h
          refine gw_aldI hx hb hK hI e213 d_law_1386 ?_
          obtain ⟨q216, e217, h⟩ := gb h
          obtain ⟨u214, e215⟩ := gsome h
          refine gw_callI e215 h (gw_runV (As := [.int v200, .long (((v202.toInt64) <<< ((32 : Int32).toInt64 &&& 63)) ||| ((v204.toInt64) &&& 4294967295)), .long (((v206.toInt64) <<< ((32 : Int32).toInt64 &&& 63)) ||| ((v208.toInt64) &&& 4294967295)), .int v210, .int v212]) (rest := []) hx hb hml hown hT hK hZ hA hI (ci := 7) rfl e217 (m_M_place l hst D g0 o9 v200 (((v202.toInt64) <<< ((32 : Int32).toInt64 &&& 63)) ||| ((v204.toInt64) &&& 4294967295)) (((v206.toInt64) <<< ((32 : Int32).toInt64 &&& 63)) ||| ((v208.toInt64) &&& 4294967295)) v210 v212 w u214 e215) ce_M_place wd_940 wd_942 ⟨by decide, by decide⟩ rfl rfl hl.1 rfl (lv_room (Nat.le_of_ble_eq_true rfl)) d_law_1387 ⟨(show ((16015 - (n + 1) * 31) + 7) + 0 ≤ 601024 by omega), (show ((905842 - (n + 1) * 1745) + 99) + 0 ≤ 7293000 by omega)⟩) hI hA hexc (show ((16015 - (n + 1) * 31) + 7) + 0 ≤ 601024 by omega) (show ((905842 - (n + 1) * 1745) + 99) + 0 ≤ 7293000 by omega) (fun v218 w H locs h hI => ?_)
          refine lv_istore (lv' := [(6, .int v218), (5, .int v199), (0, .ref a0), (1, .ref o1), (2, .ref o9), (3, .ref o17), (4, .int z31)]) hx hb d_law_1390 hl (by decide) rfl (fun ls hl => ?_)
          refine lv_goto (tgt := 2097) hx hb d_law_1392 (by decide) ?_
          refine W.widen (k := ((16015 - (n + 1) * 31) + 31)) (n := ((905842 - (n + 1) * 1745) + 1745)) (show ((16015 - (n + 1) * 31) + 7) ≤ ((16015 - (n + 1) * 31) + 31) by omega) (show ((905842 - (n + 1) * 1745) + 99) ≤ ((905842 - (n + 1) * 1745) + 1745) by omega) ?_
          exact hK2097 w H locs ls h hI (lv_sub hl [2, 3, 4, 5, 6] rfl)
        have h := gie c182 h
        rcases Decidable.em ((v35 &&& 31) = 8) with c219 | c219
        · have h := git c219 h
          refine lv_tableIn (off := 1343) (tgt := 1395) hx hb d_law_52 (by rw [c219]; decide) (by rw [c219]; decide) (by rw [c219]; decide) (by decide) ?_
          refine W.widen (k := 16015) (n := 905842) (show (16015 - (n + 1) * 31) ≤ 16015 by omega) (show (905842 - (n + 1) * 1745) ≤ 905842 by omega) ?_
          exact hK1395 _ w H locs ls h hI (lv_sub hl [0, 1, 3, 4] rfl)
        have h := gie c219 h
        rcases Decidable.em ((v35 &&& 31) = 9) with c220 | c220
        · have h := git c220 h
          refine lv_tableIn (off := 1487) (tgt := 1539) hx hb d_law_52 (by rw [c220]; decide) (by rw [c220]; decide) (by rw [c220]; decide) (by decide) ?_
          refine W.widen (k := 16015) (n := 905842) (show (16015 - (n + 1) * 31) ≤ 16015 by omega) (show (905842 - (n + 1) * 1745) ≤ 905842 by omega) ?_
          exact hK1539 _ w H locs ls h hI (lv_sub hl [0, 1, 3, 4] rfl)
        have h := gie c220 h
        rcases Decidable.em ((v35 &&& 31) = 10) with c221 | c221
        · have h := git c221 h
          refine lv_tableIn (off := 1527) (tgt := 1579) hx hb d_law_52 (by rw [c221]; decide) (by rw [c221]; decide) (by rw [c221]; decide) (by decide) ?_
          refine W.widen (k := 16015) (n := 905842) (show (16015 - (n + 1) * 31) ≤ 16015 by omega) (show (905842 - (n + 1) * 1745) ≤ 905842 by omega) ?_
          exact hK1579 w H locs ls h hI (lv_sub hl [1] rfl)
        have h := gie c221 h
        rcases Decidable.em ((v35 &&& 31) = 11) with c222 | c222
        · have h := git c222 h
          refine lv_tableIn (off := 1540) (tgt := 1592) hx hb d_law_52 (by rw [c222]; decide) (by rw [c222]; decide) (by rw [c222]; decide) (by decide) ?_
          refine lv_aload_n hx hb d_law_1592 rfl (lv_at hl 1 rfl) ?_
          refine lv_aload_n hx hb d_law_1593 rfl (lv_at hl 0 rfl) ?_
          refine lv_iload hx hb d_law_1594 (lv_at hl 4 rfl) ?_
          refine lv_iconst (v := 1) hx hb d_law_1596 (by decide) ?_
          refine lv_iadd hx hb d_law_1597 ?_
          obtain ⟨v223, e224, h⟩ := gb h
          refine gw_aldI hx hb hK hI e224 d_law_1598 ?_
          refine lv_aload_n hx hb d_law_1599 rfl (lv_at hl 0 rfl) ?_
          refine lv_iload hx hb d_law_1600 (lv_at hl 4 rfl) ?_
          refine lv_iconst (v := 2) hx hb d_law_1602 (by decide) ?_
          refine lv_iadd hx hb d_law_1603 ?_
          obtain ⟨v225, e226, h⟩ := gb h
          refine gw_aldI hx hb hK hI e226 d_law_1604 ?_
          refine lv_aload_n hx hb d_law_1605 rfl (lv_at hl 3 rfl) ?_
          obtain ⟨u227, e228⟩ := gsome h
          refine gw_callI e228 h (gw_runS (As := [.ref o1, .int v223, .int v225, .ref o17]) (rest := []) hx hb hml hown hT hK hZ hA hI (m_W_pair l hst D g0 o1 v223 v225 o17 w u227 e228) ce_W_pair wd_697 ⟨by decide, by decide⟩ rfl rfl hl.1 rfl (lv_room (Nat.le_of_ble_eq_true rfl)) d_law_1606 ⟨(show (16015 - (n + 1) * 31) + 1 ≤ 601024 by omega), (show (905842 - (n + 1) * 1745) + 6 ≤ 7293000 by omega)⟩) hI hA hexc (show (16015 - (n + 1) * 31) + 1 ≤ 601024 by omega) (show (905842 - (n + 1) * 1745) + 6 ≤ 7293000 by omega) (fun v229 w H locs h hI => ?_)
          refine W.widen (k := ((16015 - (n + 1) * 31) + 1)) (n := ((905842 - (n + 1) * 1745) + 6)) (show (16015 - (n + 1) * 31) + 1 ≤ ((16015 - (n + 1) * 31) + 1) by omega) (show (905842 - (n + 1) * 1745) + 6 ≤ ((905842 - (n + 1) * 1745) + 6) by omega) ?_
          refine lv_istore (lv' := [(5, .int v229), (0, .ref a0), (1, .ref o1), (2, .ref o9), (3, .ref o17), (4, .int z31)]) hx hb d_law_1609 hl (by decide) rfl (fun ls hl => ?_)
          refine lv_aload_n hx hb d_law_1611 rfl (lv_at hl 3 rfl) ?_
          refine lv_aload_n hx hb d_law_1612 rfl (lv_at hl 1 rfl) ?_
          refine lv_iload hx hb d_law_1613 (lv_at hl 5 rfl) ?_
          refine lv_iconst (v := 1) hx hb d_law_1615 (by decide) ?_
          refine lv_iadd hx hb d_law_1616 ?_
          obtain ⟨v230, e231, h⟩ := gb h
          refine gw_aldI hx hb hK hI e231 d_law_1617 ?_
          refine lv_aload_n hx hb d_law_1618 rfl (lv_at hl 1 rfl) ?_
          refine lv_iload hx hb d_law_1619 (lv_at hl 5 rfl) ?_
          refine lv_iconst (v := 2) hx hb d_law_1621 (by decide) ?_
          refine lv_iadd hx hb d_law_1622 ?_
          obtain ⟨v232, e233, h⟩ := gb h
          refine gw_aldI hx hb hK hI e233 d_law_1623 ?_
          obtain ⟨q236, e237, h⟩ := gb h
          obtain ⟨u234, e235⟩ := gsome h
          refine gw_callI e235 h (gw_runV (As := [.int v230, .int v232]) (rest := []) hx hb hml hown hT hK hZ hA hI (ci := 7) rfl e237 (m_M_pair l hst D g0 o9 v230 v232 w u234 e235) ce_M_pair wd_1071 wd_1073 ⟨by decide, by decide⟩ rfl rfl hl.1 rfl (lv_room (Nat.le_of_ble_eq_true rfl)) d_law_1624 ⟨(show ((16015 - (n + 1) * 31) + 1) + 0 ≤ 601024 by omega), (show ((905842 - (n + 1) * 1745) + 6) + 0 ≤ 7293000 by omega)⟩) hI hA hexc (show ((16015 - (n + 1) * 31) + 1) + 0 ≤ 601024 by omega) (show ((905842 - (n + 1) * 1745) + 6) + 0 ≤ 7293000 by omega) (fun v238 w H locs h hI => ?_)
          refine lv_istore (lv' := [(6, .int v238), (5, .int v229), (0, .ref a0), (1, .ref o1), (2, .ref o9), (3, .ref o17), (4, .int z31)]) hx hb d_law_1627 hl (by decide) rfl (fun ls hl => ?_)
          refine lv_aload_n hx hb d_law_1629 rfl (lv_at hl 4 rfl) ?_
          obtain ⟨q241, e242, h⟩ := gb h
          obtain ⟨u239, e240⟩ := gsome h
          refine gw_callI e240 h (gw_runV (As := []) (rest := []) hx hb hml hown hT hK hZ hA hI (ci := 7) rfl e242 (m_M_thrown l hst D g0 o9 w u239 e240) ce_M_thrown wd_868 wd_870 ⟨by decide, by decide⟩ rfl rfl hl.1 rfl (lv_room (Nat.le_of_ble_eq_true rfl)) d_law_1630 ⟨(show ((16015 - (n + 1) * 31) + 1) + 0 ≤ 601024 by omega), (show ((905842 - (n + 1) * 1745) + 6) + 0 ≤ 7293000 by omega)⟩) hI hA hexc (show ((16015 - (n + 1) * 31) + 1) + 0 ≤ 601024 by omega) (show ((905842 - (n + 1) * 1745) + 6) + 0 ≤ 7293000 by omega) (fun v243 w H locs h hI => ?_)
          refine lv_iload hx hb d_law_1633 (lv_at hl 1 rfl) ?_
          refine lv_icmp_eq (tgt := 1640) hx hb d_law_1635 (by decide) (fun c244 => ?_) (fun c244 => ?_)
          · skip
            have h := git c244 h
            refine lv_iload hx hb d_law_1640 (lv_at hl 1 rfl) ?_
            obtain ⟨K1657, eK1657, h⟩ := gj h
            have hK1657 : ∀ (w : gW) (H : Heap) (locs : List Loc) (ls : Array Slot), K1657 w = some r → gI D s A w H locs → lv_has ls 8 [(0, .ref a0), (1, .ref o1), (2, .ref o9), (3, .ref o17), (4, .int z31)] → W p l e rm_law s m args below meth c H locs ((16015 - (n + 1) * 31) + 1) ((905842 - (n + 1) * 1745) + 6) Q (F0 m 1657 ls []) := by
              intro w H locs ls h hI hl
              have h := gk1 eK1657 h
              refine lv_goto (tgt := 2097) hx hb d_law_1657 (by decide) ?_
              refine W.widen (k := ((16015 - (n + 1) * 31) + 31)) (n := ((905842 - (n + 1) * 1745) + 1745)) (show ((16015 - (n + 1) * 31) + 1) ≤ ((16015 - (n + 1) * 31) + 31) by omega) (show ((905842 - (n + 1) * 1745) + 6) ≤ ((905842 - (n + 1) * 1745) + 1745) by omega) ?_
              exact hK2097 w H locs ls h hI (lv_sub hl [0, 1, 2, 3, 4] rfl)
            refine lv_if_ne (tgt := 1657) hx hb d_law_1642 (by decide) (fun c245 => ?_) (fun c245 => ?_)
            · skip
              have h := gie c245 h
              exact hK1657 w H locs ls h hI (lv_sub hl [2, 3, 4, 5, 6] rfl)
            · skip
              have h := git c245 h
              refine lv_aload_n hx hb d_law_1645 rfl (lv_at hl 5 rfl) ?_
              refine lv_iconst (v := 0) hx hb d_law_1646 (by decide) ?_
              obtain ⟨v246, e247, h⟩ := gb h
              refine gw_aldJ hx hb hK hI e247 d_law_1647 ?_
              refine lv_iload hx hb d_law_1648 (lv_at hl 0 rfl) ?_
              refine lv_i2l (v := v238.toInt64) hx hb d_law_1650 rfl ?_
              refine W.lcmp hx hb d_law_1651 ?_
              refine lv_if_eq (tgt := 1657) hx hb d_law_1652 (by decide) (fun c248 => ?_) (fun c248 => ?_)
              · have c248 := (lg_cmp_eq _ _).mp c248
                have h := git c248 h
                exact hK1657 w H locs ls h hI (lv_sub hl [2, 3, 4, 5, 6] rfl)
              · have c248 := mt (lg_cmp_eq _ _).mpr c248
                have h := gie c248 h
                refine W.widen (k := 16015) (n := 905842) (show ((16015 - (n + 1) * 31) + 1) ≤ 16015 by omega) (show ((905842 - (n + 1) * 1745) + 6) ≤ 905842 by omega) ?_
                exact hK1655 w H locs ls h hI (lv_sub hl [] rfl)
          · skip
            have h := gie c244 h
            refine W.widen (k := 16015) (n := 905842) (show ((16015 - (n + 1) * 31) + 1) ≤ 16015 by omega) (show ((905842 - (n + 1) * 1745) + 6) ≤ 905842 by omega) ?_
            exact hK1638 w H locs ls h hI (lv_sub hl [] rfl)
        have h := gie c222 h
        rcases Decidable.em ((v35 &&& 31) = 12) with c249 | c249
        · have h := git c249 h
          refine lv_tableIn (off := 1608) (tgt := 1660) hx hb d_law_52 (by rw [c249]; decide) (by rw [c249]; decide) (by rw [c249]; decide) (by decide) ?_
          refine W.widen (k := 16015) (n := 905842) (show (16015 - (n + 1) * 31) ≤ 16015 by omega) (show (905842 - (n + 1) * 1745) ≤ 905842 by omega) ?_
          exact hK1660 _ w H locs ls h hI (lv_sub hl [0, 1, 3, 4] rfl)
        have h := gie c249 h
        rcases Decidable.em ((v35 &&& 31) = 13) with c250 | c250
        · have h := git c250 h
          refine lv_tableIn (off := 1868) (tgt := 1920) hx hb d_law_52 (by rw [c250]; decide) (by rw [c250]; decide) (by rw [c250]; decide) (by decide) ?_
          refine W.widen (k := 16015) (n := 905842) (show (16015 - (n + 1) * 31) ≤ 16015 by omega) (show (905842 - (n + 1) * 1745) ≤ 905842 by omega) ?_
          exact hK1920 _ w H locs ls h hI (lv_sub hl [0, 1, 4] rfl)
        have h := gie c250 h
        rcases Decidable.em ((v35 &&& 31) = 14) with c251 | c251
        · have h := git c251 h
          refine lv_tableIn (off := 1893) (tgt := 1945) hx hb d_law_52 (by rw [c251]; decide) (by rw [c251]; decide) (by rw [c251]; decide) (by decide) ?_
          refine W.widen (k := 16015) (n := 905842) (show (16015 - (n + 1) * 31) ≤ 16015 by omega) (show (905842 - (n + 1) * 1745) ≤ 905842 by omega) ?_
          exact hK1945 _ w H locs ls h hI (lv_sub hl [0, 1, 3, 4] rfl)
        have h := gie c251 h
        rcases Decidable.em ((v35 &&& 31) = 15) with c252 | c252
        · have h := git c252 h
          refine lv_tableIn (off := 1933) (tgt := 1985) hx hb d_law_52 (by rw [c252]; decide) (by rw [c252]; decide) (by rw [c252]; decide) (by decide) ?_
          refine W.widen (k := 16015) (n := 905842) (show (16015 - (n + 1) * 31) ≤ 16015 by omega) (show (905842 - (n + 1) * 1745) ≤ 905842 by omega) ?_
          exact hK1985 _ w H locs ls h hI (lv_sub hl [0, 1, 3, 4] rfl)
        have h := gie c252 h
        rcases Decidable.em ((v35 &&& 31) = 16) with c253 | c253
        · have h := git c253 h
          refine lv_tableIn (off := 2017) (tgt := 2069) hx hb d_law_52 (by rw [c253]; decide) (by rw [c253]; decide) (by rw [c253]; decide) (by decide) ?_
          refine W.widen (k := 16015) (n := 905842) (show (16015 - (n + 1) * 31) ≤ 16015 by omega) (show (905842 - (n + 1) * 1745) ≤ 905842 by omega) ?_
          exact hK2069 _ w H locs ls h hI (lv_sub hl [0, 1, 3, 4] rfl)
        have h := gie c253 h
        refine lv_tableOut (tgt := 2097) hx hb d_law_52 (by have q0 := lv_neT c37 (show (0 : Int32).toInt = 0 by decide); have q1 := lv_neT c48 (show (1 : Int32).toInt = 1 by decide); have q2 := lv_neT c109 (show (2 : Int32).toInt = 2 by decide); have q3 := lv_neT c110 (show (3 : Int32).toInt = 3 by decide); have q4 := lv_neT c135 (show (4 : Int32).toInt = 4 by decide); have q5 := lv_neT c164 (show (5 : Int32).toInt = 5 by decide); have q6 := lv_neT c165 (show (6 : Int32).toInt = 6 by decide); have q7 := lv_neT c182 (show (7 : Int32).toInt = 7 by decide); have q8 := lv_neT c219 (show (8 : Int32).toInt = 8 by decide); have q9 := lv_neT c220 (show (9 : Int32).toInt = 9 by decide); have q10 := lv_neT c221 (show (10 : Int32).toInt = 10 by decide); have q11 := lv_neT c222 (show (11 : Int32).toInt = 11 by decide); have q12 := lv_neT c249 (show (12 : Int32).toInt = 12 by decide); have q13 := lv_neT c250 (show (13 : Int32).toInt = 13 by decide); have q14 := lv_neT c251 (show (14 : Int32).toInt = 14 by decide); have q15 := lv_neT c252 (show (15 : Int32).toInt = 15 by decide); have q16 := lv_neT c253 (show (16 : Int32).toInt = 16 by decide); omega) (by decide) ?_
        refine W.widen (k := ((16015 - (n + 1) * 31) + 31)) (n := ((905842 - (n + 1) * 1745) + 1745)) (show (16015 - (n + 1) * 31) ≤ ((16015 - (n + 1) * 31) + 31) by omega) (show (905842 - (n + 1) * 1745) ≤ ((905842 - (n + 1) * 1745) + 1745) by omega) ?_
        exact hK2097 w H locs ls h hI (lv_sub hl [0, 1, 2, 3, 4] rfl)
  refine W.widen (k := (16015 - 513 * 31)) (n := (905842 - 513 * 1745)) (show 112 ≤ (16015 - 513 * 31) by omega) (show 10657 ≤ (905842 - 513 * 1745) by omega) ?_
  exact hL35 513 (Nat.le_refl _) _ w H locs ls h hI (lv_sub hl [4, 3, 2, 1, 0] rfl)
