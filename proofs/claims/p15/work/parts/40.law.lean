set_option maxRecDepth 100000 in
theorem wd_72 : Jvm.Cond.classLink "BodySolidsLaw" (8 : Nat) "BodySolids" ∈ gAll := gm 72 rfl rfl
set_option maxRecDepth 100000 in
theorem wd_74 : Jvm.Cond.methodLink "BodySolidsLaw" (75 : Nat) ({ cls := "BodySolids", name := "<init>", desc := "(J)V" } : Jvm.MethodName) ∈ gAll := gm 74 rfl rfl
set_option maxRecDepth 100000 in
theorem wd_220 : Jvm.Cond.methodLink "BodySolidsLaw" (81 : Nat) ({ cls := "BodySolids", name := "body", desc := "()I" } : Jvm.MethodName) ∈ gAll := gm 220 rfl rfl
set_option maxRecDepth 100000 in
theorem wd_222 : Jvm.Cond.selects "BodySolids" ({ cls := "BodySolids", name := "body", desc := "()I" } : Jvm.MethodName) ({ cls := "BodySolids", name := "body", desc := "()I" } : Jvm.MethodName) ∈ gAll := gm 222 rfl rfl
set_option maxRecDepth 100000 in
theorem wd_410 : Jvm.Cond.methodLink "BodySolidsLaw" (133 : Nat) ({ cls := "BodySolids", name := "breaks", desc := "(I)I" } : Jvm.MethodName) ∈ gAll := gm 410 rfl rfl
set_option maxRecDepth 100000 in
theorem wd_412 : Jvm.Cond.selects "BodySolids" ({ cls := "BodySolids", name := "breaks", desc := "(I)I" } : Jvm.MethodName) ({ cls := "BodySolids", name := "breaks", desc := "(I)I" } : Jvm.MethodName) ∈ gAll := gm 412 rfl rfl
set_option maxRecDepth 100000 in
theorem wd_424 : Jvm.Cond.methodLink "BodySolidsLaw" (69 : Nat) ({ cls := "BodySolidsLaw", name := "cell", desc := "([II)I" } : Jvm.MethodName) ∈ gAll := gm 424 rfl rfl
set_option maxRecDepth 100000 in
theorem wd_427 : Jvm.Cond.methodLink "BodySolidsLaw" (88 : Nat) ({ cls := "BodySolidsLaw", name := "box", desc := "(LBodySolids;IJJJJJJ[J)I" } : Jvm.MethodName) ∈ gAll := gm 427 rfl rfl
set_option maxRecDepth 100000 in
theorem wd_577 : Jvm.Cond.methodLink "BodySolidsLaw" (96 : Nat) ({ cls := "BodySolidsLaw", name := "corner", desc := "(LBodySolids;JJ[J)I" } : Jvm.MethodName) ∈ gAll := gm 577 rfl rfl
set_option maxRecDepth 100000 in
theorem wd_584 : Jvm.Cond.methodLink "BodySolidsLaw" (100 : Nat) ({ cls := "BodySolidsLaw", name := "prism", desc := "(LBodySolids;IJJ[J)I" } : Jvm.MethodName) ∈ gAll := gm 584 rfl rfl
set_option maxRecDepth 100000 in
theorem wd_622 : Jvm.Cond.methodLink "BodySolidsLaw" (108 : Nat) ({ cls := "BodySolidsLaw", name := "join", desc := "(LBodySolids;II[J)I" } : Jvm.MethodName) ∈ gAll := gm 622 rfl rfl
set_option maxRecDepth 100000 in
theorem wd_635 : Jvm.Cond.methodLink "BodySolidsLaw" (112 : Nat) ({ cls := "BodySolidsLaw", name := "place", desc := "(LBodySolids;IJJII[J)I" } : Jvm.MethodName) ∈ gAll := gm 635 rfl rfl
set_option maxRecDepth 100000 in
theorem wd_704 : Jvm.Cond.methodLink "BodySolidsLaw" (129 : Nat) ({ cls := "BodySolidsLaw", name := "keepOut", desc := "(LBodySolids;JJJJIJ[J)I" } : Jvm.MethodName) ∈ gAll := gm 704 rfl rfl
set_option maxRecDepth 100000 in
theorem wd_779 : Jvm.Cond.classLink "BodySolidsLaw" (78 : Nat) "BodySolidsModel" ∈ gAll := gm 779 rfl rfl
set_option maxRecDepth 100000 in
theorem wd_781 : Jvm.Cond.methodLink "BodySolidsLaw" (80 : Nat) ({ cls := "BodySolidsModel", name := "<init>", desc := "(J)V" } : Jvm.MethodName) ∈ gAll := gm 781 rfl rfl
set_option maxRecDepth 100000 in
theorem wd_868 : Jvm.Cond.methodLink "BodySolidsLaw" (85 : Nat) ({ cls := "BodySolidsModel", name := "body", desc := "()I" } : Jvm.MethodName) ∈ gAll := gm 868 rfl rfl
set_option maxRecDepth 100000 in
theorem wd_870 : Jvm.Cond.selects "BodySolidsModel" ({ cls := "BodySolidsModel", name := "body", desc := "()I" } : Jvm.MethodName) ({ cls := "BodySolidsModel", name := "body", desc := "()I" } : Jvm.MethodName) ∈ gAll := gm 870 rfl rfl
set_option maxRecDepth 100000 in
theorem wd_872 : Jvm.Cond.methodLink "BodySolidsLaw" (91 : Nat) ({ cls := "BodySolidsModel", name := "box", desc := "(IJJJJJJ)Z" } : Jvm.MethodName) ∈ gAll := gm 872 rfl rfl
set_option maxRecDepth 100000 in
theorem wd_874 : Jvm.Cond.selects "BodySolidsModel" ({ cls := "BodySolidsModel", name := "box", desc := "(IJJJJJJ)Z" } : Jvm.MethodName) ({ cls := "BodySolidsModel", name := "box", desc := "(IJJJJJJ)Z" } : Jvm.MethodName) ∈ gAll := gm 874 rfl rfl
set_option maxRecDepth 100000 in
theorem wd_906 : Jvm.Cond.methodLink "BodySolidsLaw" (99 : Nat) ({ cls := "BodySolidsModel", name := "corner", desc := "(JJ)Z" } : Jvm.MethodName) ∈ gAll := gm 906 rfl rfl
set_option maxRecDepth 100000 in
theorem wd_908 : Jvm.Cond.selects "BodySolidsModel" ({ cls := "BodySolidsModel", name := "corner", desc := "(JJ)Z" } : Jvm.MethodName) ({ cls := "BodySolidsModel", name := "corner", desc := "(JJ)Z" } : Jvm.MethodName) ∈ gAll := gm 908 rfl rfl
set_option maxRecDepth 100000 in
theorem wd_910 : Jvm.Cond.methodLink "BodySolidsLaw" (103 : Nat) ({ cls := "BodySolidsModel", name := "prism", desc := "(IJJ)Z" } : Jvm.MethodName) ∈ gAll := gm 910 rfl rfl
set_option maxRecDepth 100000 in
theorem wd_912 : Jvm.Cond.selects "BodySolidsModel" ({ cls := "BodySolidsModel", name := "prism", desc := "(IJJ)Z" } : Jvm.MethodName) ({ cls := "BodySolidsModel", name := "prism", desc := "(IJJ)Z" } : Jvm.MethodName) ∈ gAll := gm 912 rfl rfl
set_option maxRecDepth 100000 in
theorem wd_928 : Jvm.Cond.methodLink "BodySolidsLaw" (111 : Nat) ({ cls := "BodySolidsModel", name := "join", desc := "(II)I" } : Jvm.MethodName) ∈ gAll := gm 928 rfl rfl
set_option maxRecDepth 100000 in
theorem wd_930 : Jvm.Cond.selects "BodySolidsModel" ({ cls := "BodySolidsModel", name := "join", desc := "(II)I" } : Jvm.MethodName) ({ cls := "BodySolidsModel", name := "join", desc := "(II)I" } : Jvm.MethodName) ∈ gAll := gm 930 rfl rfl
set_option maxRecDepth 100000 in
theorem wd_936 : Jvm.Cond.methodLink "BodySolidsLaw" (115 : Nat) ({ cls := "BodySolidsModel", name := "place", desc := "(IJJII)I" } : Jvm.MethodName) ∈ gAll := gm 936 rfl rfl
set_option maxRecDepth 100000 in
theorem wd_938 : Jvm.Cond.selects "BodySolidsModel" ({ cls := "BodySolidsModel", name := "place", desc := "(IJJII)I" } : Jvm.MethodName) ({ cls := "BodySolidsModel", name := "place", desc := "(IJJII)I" } : Jvm.MethodName) ∈ gAll := gm 938 rfl rfl
set_option maxRecDepth 100000 in
theorem wd_1071 : Jvm.Cond.methodLink "BodySolidsLaw" (132 : Nat) ({ cls := "BodySolidsModel", name := "keepOut", desc := "(JJJJIJ)Z" } : Jvm.MethodName) ∈ gAll := gm 1071 rfl rfl
set_option maxRecDepth 100000 in
theorem wd_1073 : Jvm.Cond.selects "BodySolidsModel" ({ cls := "BodySolidsModel", name := "keepOut", desc := "(JJJJIJ)Z" } : Jvm.MethodName) ({ cls := "BodySolidsModel", name := "keepOut", desc := "(JJJJIJ)Z" } : Jvm.MethodName) ∈ gAll := gm 1073 rfl rfl
set_option maxRecDepth 100000 in
theorem wd_1080 : Jvm.Cond.methodLink "BodySolidsLaw" (137 : Nat) ({ cls := "BodySolidsModel", name := "breaks", desc := "(I)I" } : Jvm.MethodName) ∈ gAll := gm 1080 rfl rfl
set_option maxRecDepth 100000 in
theorem wd_1082 : Jvm.Cond.selects "BodySolidsModel" ({ cls := "BodySolidsModel", name := "breaks", desc := "(I)I" } : Jvm.MethodName) ({ cls := "BodySolidsModel", name := "breaks", desc := "(I)I" } : Jvm.MethodName) ∈ gAll := gm 1082 rfl rfl
set_option maxRecDepth 100000 in
theorem wd_1117 : Jvm.Cond.constantLong "BodySolidsLaw" (86 : Nat) (4294967295 : Int64) ∈ gAll := gm 1117 rfl rfl
abbrev b_law : ByteArray := code
def y_law : MethodName := ⟨"BodySolidsLaw", "law", "([I)Z"⟩
theorem d_law_0 : decode b_law 0 = .ok (.new 8, 3) := by decide +kernel
theorem d_law_3 : decode b_law 3 = .ok (.dup, 1) := by decide +kernel
theorem d_law_4 : decode b_law 4 = .ok (.aload_n 0, 1) := by decide +kernel
theorem d_law_5 : decode b_law 5 = .ok (.iconst 0, 1) := by decide +kernel
theorem d_law_6 : decode b_law 6 = .ok (.invokestatic 69, 3) := by decide +kernel
theorem d_law_9 : decode b_law 9 = .ok (.i2l, 1) := by decide +kernel
theorem d_law_10 : decode b_law 10 = .ok (.invokespecial 75, 3) := by decide +kernel
theorem d_law_13 : decode b_law 13 = .ok (.astore_n 1, 1) := by decide +kernel
theorem d_law_14 : decode b_law 14 = .ok (.new 78, 3) := by decide +kernel
theorem d_law_17 : decode b_law 17 = .ok (.dup, 1) := by decide +kernel
theorem d_law_18 : decode b_law 18 = .ok (.aload_n 0, 1) := by decide +kernel
theorem d_law_19 : decode b_law 19 = .ok (.iconst 0, 1) := by decide +kernel
theorem d_law_20 : decode b_law 20 = .ok (.invokestatic 69, 3) := by decide +kernel
theorem d_law_23 : decode b_law 23 = .ok (.i2l, 1) := by decide +kernel
theorem d_law_24 : decode b_law 24 = .ok (.invokespecial 80, 3) := by decide +kernel
theorem d_law_27 : decode b_law 27 = .ok (.astore_n 2, 1) := by decide +kernel
theorem d_law_28 : decode b_law 28 = .ok (.iconst 1, 1) := by decide +kernel
theorem d_law_29 : decode b_law 29 = .ok (.newarray .long, 2) := by decide +kernel
theorem d_law_31 : decode b_law 31 = .ok (.astore_n 3, 1) := by decide +kernel
theorem d_law_32 : decode b_law 32 = .ok (.iconst 1, 1) := by decide +kernel
theorem d_law_33 : decode b_law 33 = .ok (.istore 4, 2) := by decide +kernel
theorem d_law_35 : decode b_law 35 = .ok (.iload 4, 2) := by decide +kernel
theorem d_law_37 : decode b_law 37 = .ok (.aload_n 0, 1) := by decide +kernel
theorem d_law_38 : decode b_law 38 = .ok (.arraylength, 1) := by decide +kernel
theorem d_law_39 : decode b_law 39 = .ok (.bipush 14, 2) := by decide +kernel
theorem d_law_41 : decode b_law 41 = .ok (.isub, 1) := by decide +kernel
theorem d_law_42 : decode b_law 42 = .ok (.if_icmp .gt 2033, 3) := by decide +kernel
theorem d_law_45 : decode b_law 45 = .ok (.aload_n 0, 1) := by decide +kernel
theorem d_law_46 : decode b_law 46 = .ok (.iload 4, 2) := by decide +kernel
theorem d_law_48 : decode b_law 48 = .ok (.iaload, 1) := by decide +kernel
theorem d_law_49 : decode b_law 49 = .ok (.bipush 31, 2) := by decide +kernel
theorem d_law_51 : decode b_law 51 = .ok (.iand, 1) := by decide +kernel
theorem d_law_52 : decode b_law 52 = .ok (.tableswitch 2017 0 16 #[84, 97, 405, 665, 769, 885, 1159, 1199, 1343, 1487, 1527, 1540, 1580, 1840, 1865, 1905, 1989], 84) := by decide +kernel
theorem d_law_136 : decode b_law 136 = .ok (.aload_n 1, 1) := by decide +kernel
theorem d_law_137 : decode b_law 137 = .ok (.invokevirtual 81, 3) := by decide +kernel
theorem d_law_140 : decode b_law 140 = .ok (.pop, 1) := by decide +kernel
theorem d_law_141 : decode b_law 141 = .ok (.aload_n 2, 1) := by decide +kernel
theorem d_law_142 : decode b_law 142 = .ok (.invokevirtual 85, 3) := by decide +kernel
theorem d_law_145 : decode b_law 145 = .ok (.pop, 1) := by decide +kernel
theorem d_law_146 : decode b_law 146 = .ok (.goto 1923, 3) := by decide +kernel
theorem d_law_149 : decode b_law 149 = .ok (.aload_n 1, 1) := by decide +kernel
theorem d_law_150 : decode b_law 150 = .ok (.aload_n 0, 1) := by decide +kernel
theorem d_law_151 : decode b_law 151 = .ok (.iload 4, 2) := by decide +kernel
theorem d_law_153 : decode b_law 153 = .ok (.iconst 1, 1) := by decide +kernel
theorem d_law_154 : decode b_law 154 = .ok (.iadd, 1) := by decide +kernel
theorem d_law_155 : decode b_law 155 = .ok (.iaload, 1) := by decide +kernel
theorem d_law_156 : decode b_law 156 = .ok (.aload_n 0, 1) := by decide +kernel
theorem d_law_157 : decode b_law 157 = .ok (.iload 4, 2) := by decide +kernel
theorem d_law_159 : decode b_law 159 = .ok (.iconst 2, 1) := by decide +kernel
theorem d_law_160 : decode b_law 160 = .ok (.iadd, 1) := by decide +kernel
theorem d_law_161 : decode b_law 161 = .ok (.iaload, 1) := by decide +kernel
theorem d_law_162 : decode b_law 162 = .ok (.i2l, 1) := by decide +kernel
theorem d_law_163 : decode b_law 163 = .ok (.bipush 32, 2) := by decide +kernel
theorem d_law_165 : decode b_law 165 = .ok (.lshl, 1) := by decide +kernel
theorem d_law_166 : decode b_law 166 = .ok (.aload_n 0, 1) := by decide +kernel
theorem d_law_167 : decode b_law 167 = .ok (.iload 4, 2) := by decide +kernel
theorem d_law_169 : decode b_law 169 = .ok (.iconst 3, 1) := by decide +kernel
theorem d_law_170 : decode b_law 170 = .ok (.iadd, 1) := by decide +kernel
theorem d_law_171 : decode b_law 171 = .ok (.iaload, 1) := by decide +kernel
theorem d_law_172 : decode b_law 172 = .ok (.i2l, 1) := by decide +kernel
theorem d_law_173 : decode b_law 173 = .ok (.ldc2_w 86, 3) := by decide +kernel
theorem d_law_176 : decode b_law 176 = .ok (.land, 1) := by decide +kernel
theorem d_law_177 : decode b_law 177 = .ok (.lor, 1) := by decide +kernel
theorem d_law_178 : decode b_law 178 = .ok (.aload_n 0, 1) := by decide +kernel
theorem d_law_179 : decode b_law 179 = .ok (.iload 4, 2) := by decide +kernel
theorem d_law_181 : decode b_law 181 = .ok (.iconst 4, 1) := by decide +kernel
theorem d_law_182 : decode b_law 182 = .ok (.iadd, 1) := by decide +kernel
theorem d_law_183 : decode b_law 183 = .ok (.iaload, 1) := by decide +kernel
theorem d_law_184 : decode b_law 184 = .ok (.i2l, 1) := by decide +kernel
theorem d_law_185 : decode b_law 185 = .ok (.bipush 32, 2) := by decide +kernel
theorem d_law_187 : decode b_law 187 = .ok (.lshl, 1) := by decide +kernel
theorem d_law_188 : decode b_law 188 = .ok (.aload_n 0, 1) := by decide +kernel
theorem d_law_189 : decode b_law 189 = .ok (.iload 4, 2) := by decide +kernel
theorem d_law_191 : decode b_law 191 = .ok (.iconst 5, 1) := by decide +kernel
theorem d_law_192 : decode b_law 192 = .ok (.iadd, 1) := by decide +kernel
theorem d_law_193 : decode b_law 193 = .ok (.iaload, 1) := by decide +kernel
theorem d_law_194 : decode b_law 194 = .ok (.i2l, 1) := by decide +kernel
theorem d_law_195 : decode b_law 195 = .ok (.ldc2_w 86, 3) := by decide +kernel
theorem d_law_198 : decode b_law 198 = .ok (.land, 1) := by decide +kernel
theorem d_law_199 : decode b_law 199 = .ok (.lor, 1) := by decide +kernel
theorem d_law_200 : decode b_law 200 = .ok (.aload_n 0, 1) := by decide +kernel
theorem d_law_201 : decode b_law 201 = .ok (.iload 4, 2) := by decide +kernel
theorem d_law_203 : decode b_law 203 = .ok (.bipush 6, 2) := by decide +kernel
theorem d_law_205 : decode b_law 205 = .ok (.iadd, 1) := by decide +kernel
theorem d_law_206 : decode b_law 206 = .ok (.iaload, 1) := by decide +kernel
theorem d_law_207 : decode b_law 207 = .ok (.i2l, 1) := by decide +kernel
theorem d_law_208 : decode b_law 208 = .ok (.bipush 32, 2) := by decide +kernel
theorem d_law_210 : decode b_law 210 = .ok (.lshl, 1) := by decide +kernel
theorem d_law_211 : decode b_law 211 = .ok (.aload_n 0, 1) := by decide +kernel
theorem d_law_212 : decode b_law 212 = .ok (.iload 4, 2) := by decide +kernel
theorem d_law_214 : decode b_law 214 = .ok (.bipush 7, 2) := by decide +kernel
theorem d_law_216 : decode b_law 216 = .ok (.iadd, 1) := by decide +kernel
theorem d_law_217 : decode b_law 217 = .ok (.iaload, 1) := by decide +kernel
theorem d_law_218 : decode b_law 218 = .ok (.i2l, 1) := by decide +kernel
theorem d_law_219 : decode b_law 219 = .ok (.ldc2_w 86, 3) := by decide +kernel
theorem d_law_222 : decode b_law 222 = .ok (.land, 1) := by decide +kernel
theorem d_law_223 : decode b_law 223 = .ok (.lor, 1) := by decide +kernel
theorem d_law_224 : decode b_law 224 = .ok (.aload_n 0, 1) := by decide +kernel
theorem d_law_225 : decode b_law 225 = .ok (.iload 4, 2) := by decide +kernel
theorem d_law_227 : decode b_law 227 = .ok (.bipush 8, 2) := by decide +kernel
theorem d_law_229 : decode b_law 229 = .ok (.iadd, 1) := by decide +kernel
theorem d_law_230 : decode b_law 230 = .ok (.iaload, 1) := by decide +kernel
theorem d_law_231 : decode b_law 231 = .ok (.i2l, 1) := by decide +kernel
theorem d_law_232 : decode b_law 232 = .ok (.bipush 32, 2) := by decide +kernel
theorem d_law_234 : decode b_law 234 = .ok (.lshl, 1) := by decide +kernel
theorem d_law_235 : decode b_law 235 = .ok (.aload_n 0, 1) := by decide +kernel
theorem d_law_236 : decode b_law 236 = .ok (.iload 4, 2) := by decide +kernel
theorem d_law_238 : decode b_law 238 = .ok (.bipush 9, 2) := by decide +kernel
theorem d_law_240 : decode b_law 240 = .ok (.iadd, 1) := by decide +kernel
theorem d_law_241 : decode b_law 241 = .ok (.iaload, 1) := by decide +kernel
theorem d_law_242 : decode b_law 242 = .ok (.i2l, 1) := by decide +kernel
theorem d_law_243 : decode b_law 243 = .ok (.ldc2_w 86, 3) := by decide +kernel
theorem d_law_246 : decode b_law 246 = .ok (.land, 1) := by decide +kernel
theorem d_law_247 : decode b_law 247 = .ok (.lor, 1) := by decide +kernel
theorem d_law_248 : decode b_law 248 = .ok (.aload_n 0, 1) := by decide +kernel
theorem d_law_249 : decode b_law 249 = .ok (.iload 4, 2) := by decide +kernel
theorem d_law_251 : decode b_law 251 = .ok (.bipush 10, 2) := by decide +kernel
theorem d_law_253 : decode b_law 253 = .ok (.iadd, 1) := by decide +kernel
theorem d_law_254 : decode b_law 254 = .ok (.iaload, 1) := by decide +kernel
theorem d_law_255 : decode b_law 255 = .ok (.i2l, 1) := by decide +kernel
theorem d_law_256 : decode b_law 256 = .ok (.bipush 32, 2) := by decide +kernel
theorem d_law_258 : decode b_law 258 = .ok (.lshl, 1) := by decide +kernel
theorem d_law_259 : decode b_law 259 = .ok (.aload_n 0, 1) := by decide +kernel
theorem d_law_260 : decode b_law 260 = .ok (.iload 4, 2) := by decide +kernel
theorem d_law_262 : decode b_law 262 = .ok (.bipush 11, 2) := by decide +kernel
theorem d_law_264 : decode b_law 264 = .ok (.iadd, 1) := by decide +kernel
theorem d_law_265 : decode b_law 265 = .ok (.iaload, 1) := by decide +kernel
theorem d_law_266 : decode b_law 266 = .ok (.i2l, 1) := by decide +kernel
theorem d_law_267 : decode b_law 267 = .ok (.ldc2_w 86, 3) := by decide +kernel
theorem d_law_270 : decode b_law 270 = .ok (.land, 1) := by decide +kernel
theorem d_law_271 : decode b_law 271 = .ok (.lor, 1) := by decide +kernel
theorem d_law_272 : decode b_law 272 = .ok (.aload_n 0, 1) := by decide +kernel
theorem d_law_273 : decode b_law 273 = .ok (.iload 4, 2) := by decide +kernel
theorem d_law_275 : decode b_law 275 = .ok (.bipush 12, 2) := by decide +kernel
theorem d_law_277 : decode b_law 277 = .ok (.iadd, 1) := by decide +kernel
theorem d_law_278 : decode b_law 278 = .ok (.iaload, 1) := by decide +kernel
theorem d_law_279 : decode b_law 279 = .ok (.i2l, 1) := by decide +kernel
theorem d_law_280 : decode b_law 280 = .ok (.bipush 32, 2) := by decide +kernel
theorem d_law_282 : decode b_law 282 = .ok (.lshl, 1) := by decide +kernel
theorem d_law_283 : decode b_law 283 = .ok (.aload_n 0, 1) := by decide +kernel
theorem d_law_284 : decode b_law 284 = .ok (.iload 4, 2) := by decide +kernel
theorem d_law_286 : decode b_law 286 = .ok (.bipush 13, 2) := by decide +kernel
theorem d_law_288 : decode b_law 288 = .ok (.iadd, 1) := by decide +kernel
theorem d_law_289 : decode b_law 289 = .ok (.iaload, 1) := by decide +kernel
theorem d_law_290 : decode b_law 290 = .ok (.i2l, 1) := by decide +kernel
theorem d_law_291 : decode b_law 291 = .ok (.ldc2_w 86, 3) := by decide +kernel
theorem d_law_294 : decode b_law 294 = .ok (.land, 1) := by decide +kernel
theorem d_law_295 : decode b_law 295 = .ok (.lor, 1) := by decide +kernel
theorem d_law_296 : decode b_law 296 = .ok (.aload_n 3, 1) := by decide +kernel
theorem d_law_297 : decode b_law 297 = .ok (.invokestatic 88, 3) := by decide +kernel
theorem d_law_300 : decode b_law 300 = .ok (.istore 5, 2) := by decide +kernel
theorem d_law_302 : decode b_law 302 = .ok (.aload_n 2, 1) := by decide +kernel
theorem d_law_303 : decode b_law 303 = .ok (.aload_n 0, 1) := by decide +kernel
theorem d_law_304 : decode b_law 304 = .ok (.iload 4, 2) := by decide +kernel
theorem d_law_306 : decode b_law 306 = .ok (.iconst 1, 1) := by decide +kernel
theorem d_law_307 : decode b_law 307 = .ok (.iadd, 1) := by decide +kernel
theorem d_law_308 : decode b_law 308 = .ok (.iaload, 1) := by decide +kernel
theorem d_law_309 : decode b_law 309 = .ok (.aload_n 0, 1) := by decide +kernel
theorem d_law_310 : decode b_law 310 = .ok (.iload 4, 2) := by decide +kernel
theorem d_law_312 : decode b_law 312 = .ok (.iconst 2, 1) := by decide +kernel
theorem d_law_313 : decode b_law 313 = .ok (.iadd, 1) := by decide +kernel
theorem d_law_314 : decode b_law 314 = .ok (.iaload, 1) := by decide +kernel
theorem d_law_315 : decode b_law 315 = .ok (.i2l, 1) := by decide +kernel
theorem d_law_316 : decode b_law 316 = .ok (.bipush 32, 2) := by decide +kernel
theorem d_law_318 : decode b_law 318 = .ok (.lshl, 1) := by decide +kernel
theorem d_law_319 : decode b_law 319 = .ok (.aload_n 0, 1) := by decide +kernel
theorem d_law_320 : decode b_law 320 = .ok (.iload 4, 2) := by decide +kernel
theorem d_law_322 : decode b_law 322 = .ok (.iconst 3, 1) := by decide +kernel
theorem d_law_323 : decode b_law 323 = .ok (.iadd, 1) := by decide +kernel
theorem d_law_324 : decode b_law 324 = .ok (.iaload, 1) := by decide +kernel
theorem d_law_325 : decode b_law 325 = .ok (.i2l, 1) := by decide +kernel
theorem d_law_326 : decode b_law 326 = .ok (.ldc2_w 86, 3) := by decide +kernel
theorem d_law_329 : decode b_law 329 = .ok (.land, 1) := by decide +kernel
theorem d_law_330 : decode b_law 330 = .ok (.lor, 1) := by decide +kernel
theorem d_law_331 : decode b_law 331 = .ok (.aload_n 0, 1) := by decide +kernel
theorem d_law_332 : decode b_law 332 = .ok (.iload 4, 2) := by decide +kernel
theorem d_law_334 : decode b_law 334 = .ok (.iconst 4, 1) := by decide +kernel
theorem d_law_335 : decode b_law 335 = .ok (.iadd, 1) := by decide +kernel
theorem d_law_336 : decode b_law 336 = .ok (.iaload, 1) := by decide +kernel
theorem d_law_337 : decode b_law 337 = .ok (.i2l, 1) := by decide +kernel
theorem d_law_338 : decode b_law 338 = .ok (.bipush 32, 2) := by decide +kernel
theorem d_law_340 : decode b_law 340 = .ok (.lshl, 1) := by decide +kernel
theorem d_law_341 : decode b_law 341 = .ok (.aload_n 0, 1) := by decide +kernel
theorem d_law_342 : decode b_law 342 = .ok (.iload 4, 2) := by decide +kernel
theorem d_law_344 : decode b_law 344 = .ok (.iconst 5, 1) := by decide +kernel
theorem d_law_345 : decode b_law 345 = .ok (.iadd, 1) := by decide +kernel
theorem d_law_346 : decode b_law 346 = .ok (.iaload, 1) := by decide +kernel
theorem d_law_347 : decode b_law 347 = .ok (.i2l, 1) := by decide +kernel
theorem d_law_348 : decode b_law 348 = .ok (.ldc2_w 86, 3) := by decide +kernel
theorem d_law_351 : decode b_law 351 = .ok (.land, 1) := by decide +kernel
theorem d_law_352 : decode b_law 352 = .ok (.lor, 1) := by decide +kernel
theorem d_law_353 : decode b_law 353 = .ok (.aload_n 0, 1) := by decide +kernel
theorem d_law_354 : decode b_law 354 = .ok (.iload 4, 2) := by decide +kernel
theorem d_law_356 : decode b_law 356 = .ok (.bipush 6, 2) := by decide +kernel
theorem d_law_358 : decode b_law 358 = .ok (.iadd, 1) := by decide +kernel
theorem d_law_359 : decode b_law 359 = .ok (.iaload, 1) := by decide +kernel
theorem d_law_360 : decode b_law 360 = .ok (.i2l, 1) := by decide +kernel
theorem d_law_361 : decode b_law 361 = .ok (.bipush 32, 2) := by decide +kernel
theorem d_law_363 : decode b_law 363 = .ok (.lshl, 1) := by decide +kernel
theorem d_law_364 : decode b_law 364 = .ok (.aload_n 0, 1) := by decide +kernel
theorem d_law_365 : decode b_law 365 = .ok (.iload 4, 2) := by decide +kernel
theorem d_law_367 : decode b_law 367 = .ok (.bipush 7, 2) := by decide +kernel
theorem d_law_369 : decode b_law 369 = .ok (.iadd, 1) := by decide +kernel
theorem d_law_370 : decode b_law 370 = .ok (.iaload, 1) := by decide +kernel
theorem d_law_371 : decode b_law 371 = .ok (.i2l, 1) := by decide +kernel
theorem d_law_372 : decode b_law 372 = .ok (.ldc2_w 86, 3) := by decide +kernel
theorem d_law_375 : decode b_law 375 = .ok (.land, 1) := by decide +kernel
theorem d_law_376 : decode b_law 376 = .ok (.lor, 1) := by decide +kernel
theorem d_law_377 : decode b_law 377 = .ok (.aload_n 0, 1) := by decide +kernel
theorem d_law_378 : decode b_law 378 = .ok (.iload 4, 2) := by decide +kernel
theorem d_law_380 : decode b_law 380 = .ok (.bipush 8, 2) := by decide +kernel
theorem d_law_382 : decode b_law 382 = .ok (.iadd, 1) := by decide +kernel
theorem d_law_383 : decode b_law 383 = .ok (.iaload, 1) := by decide +kernel
theorem d_law_384 : decode b_law 384 = .ok (.i2l, 1) := by decide +kernel
theorem d_law_385 : decode b_law 385 = .ok (.bipush 32, 2) := by decide +kernel
theorem d_law_387 : decode b_law 387 = .ok (.lshl, 1) := by decide +kernel
theorem d_law_388 : decode b_law 388 = .ok (.aload_n 0, 1) := by decide +kernel
theorem d_law_389 : decode b_law 389 = .ok (.iload 4, 2) := by decide +kernel
theorem d_law_391 : decode b_law 391 = .ok (.bipush 9, 2) := by decide +kernel
theorem d_law_393 : decode b_law 393 = .ok (.iadd, 1) := by decide +kernel
theorem d_law_394 : decode b_law 394 = .ok (.iaload, 1) := by decide +kernel
theorem d_law_395 : decode b_law 395 = .ok (.i2l, 1) := by decide +kernel
theorem d_law_396 : decode b_law 396 = .ok (.ldc2_w 86, 3) := by decide +kernel
theorem d_law_399 : decode b_law 399 = .ok (.land, 1) := by decide +kernel
theorem d_law_400 : decode b_law 400 = .ok (.lor, 1) := by decide +kernel
theorem d_law_401 : decode b_law 401 = .ok (.aload_n 0, 1) := by decide +kernel
theorem d_law_402 : decode b_law 402 = .ok (.iload 4, 2) := by decide +kernel
theorem d_law_404 : decode b_law 404 = .ok (.bipush 10, 2) := by decide +kernel
theorem d_law_406 : decode b_law 406 = .ok (.iadd, 1) := by decide +kernel
theorem d_law_407 : decode b_law 407 = .ok (.iaload, 1) := by decide +kernel
theorem d_law_408 : decode b_law 408 = .ok (.i2l, 1) := by decide +kernel
theorem d_law_409 : decode b_law 409 = .ok (.bipush 32, 2) := by decide +kernel
theorem d_law_411 : decode b_law 411 = .ok (.lshl, 1) := by decide +kernel
theorem d_law_412 : decode b_law 412 = .ok (.aload_n 0, 1) := by decide +kernel
theorem d_law_413 : decode b_law 413 = .ok (.iload 4, 2) := by decide +kernel
theorem d_law_415 : decode b_law 415 = .ok (.bipush 11, 2) := by decide +kernel
theorem d_law_417 : decode b_law 417 = .ok (.iadd, 1) := by decide +kernel
theorem d_law_418 : decode b_law 418 = .ok (.iaload, 1) := by decide +kernel
theorem d_law_419 : decode b_law 419 = .ok (.i2l, 1) := by decide +kernel
theorem d_law_420 : decode b_law 420 = .ok (.ldc2_w 86, 3) := by decide +kernel
theorem d_law_423 : decode b_law 423 = .ok (.land, 1) := by decide +kernel
theorem d_law_424 : decode b_law 424 = .ok (.lor, 1) := by decide +kernel
theorem d_law_425 : decode b_law 425 = .ok (.aload_n 0, 1) := by decide +kernel
theorem d_law_426 : decode b_law 426 = .ok (.iload 4, 2) := by decide +kernel
theorem d_law_428 : decode b_law 428 = .ok (.bipush 12, 2) := by decide +kernel
theorem d_law_430 : decode b_law 430 = .ok (.iadd, 1) := by decide +kernel
theorem d_law_431 : decode b_law 431 = .ok (.iaload, 1) := by decide +kernel
theorem d_law_432 : decode b_law 432 = .ok (.i2l, 1) := by decide +kernel
theorem d_law_433 : decode b_law 433 = .ok (.bipush 32, 2) := by decide +kernel
theorem d_law_435 : decode b_law 435 = .ok (.lshl, 1) := by decide +kernel
theorem d_law_436 : decode b_law 436 = .ok (.aload_n 0, 1) := by decide +kernel
theorem d_law_437 : decode b_law 437 = .ok (.iload 4, 2) := by decide +kernel
theorem d_law_439 : decode b_law 439 = .ok (.bipush 13, 2) := by decide +kernel
theorem d_law_441 : decode b_law 441 = .ok (.iadd, 1) := by decide +kernel
theorem d_law_442 : decode b_law 442 = .ok (.iaload, 1) := by decide +kernel
theorem d_law_443 : decode b_law 443 = .ok (.i2l, 1) := by decide +kernel
theorem d_law_444 : decode b_law 444 = .ok (.ldc2_w 86, 3) := by decide +kernel
theorem d_law_447 : decode b_law 447 = .ok (.land, 1) := by decide +kernel
theorem d_law_448 : decode b_law 448 = .ok (.lor, 1) := by decide +kernel
theorem d_law_449 : decode b_law 449 = .ok (.invokevirtual 91, 3) := by decide +kernel
theorem d_law_452 : decode b_law 452 = .ok (.istore 6, 2) := by decide +kernel
theorem d_law_454 : decode b_law 454 = .ok (.goto 1615, 3) := by decide +kernel
theorem d_law_457 : decode b_law 457 = .ok (.aload_n 1, 1) := by decide +kernel
theorem d_law_458 : decode b_law 458 = .ok (.aload_n 0, 1) := by decide +kernel
theorem d_law_459 : decode b_law 459 = .ok (.iload 4, 2) := by decide +kernel
theorem d_law_461 : decode b_law 461 = .ok (.iconst 1, 1) := by decide +kernel
theorem d_law_462 : decode b_law 462 = .ok (.iadd, 1) := by decide +kernel
theorem d_law_463 : decode b_law 463 = .ok (.iaload, 1) := by decide +kernel
theorem d_law_464 : decode b_law 464 = .ok (.aload_n 0, 1) := by decide +kernel
theorem d_law_465 : decode b_law 465 = .ok (.iload 4, 2) := by decide +kernel
theorem d_law_467 : decode b_law 467 = .ok (.iconst 2, 1) := by decide +kernel
theorem d_law_468 : decode b_law 468 = .ok (.iadd, 1) := by decide +kernel
theorem d_law_469 : decode b_law 469 = .ok (.iaload, 1) := by decide +kernel
theorem d_law_470 : decode b_law 470 = .ok (.i2l, 1) := by decide +kernel
theorem d_law_471 : decode b_law 471 = .ok (.bipush 32, 2) := by decide +kernel
theorem d_law_473 : decode b_law 473 = .ok (.lshl, 1) := by decide +kernel
theorem d_law_474 : decode b_law 474 = .ok (.aload_n 0, 1) := by decide +kernel
theorem d_law_475 : decode b_law 475 = .ok (.iload 4, 2) := by decide +kernel
theorem d_law_477 : decode b_law 477 = .ok (.iconst 3, 1) := by decide +kernel
theorem d_law_478 : decode b_law 478 = .ok (.iadd, 1) := by decide +kernel
theorem d_law_479 : decode b_law 479 = .ok (.iaload, 1) := by decide +kernel
theorem d_law_480 : decode b_law 480 = .ok (.i2l, 1) := by decide +kernel
theorem d_law_481 : decode b_law 481 = .ok (.ldc2_w 86, 3) := by decide +kernel
theorem d_law_484 : decode b_law 484 = .ok (.land, 1) := by decide +kernel
theorem d_law_485 : decode b_law 485 = .ok (.lor, 1) := by decide +kernel
theorem d_law_486 : decode b_law 486 = .ok (.aload_n 0, 1) := by decide +kernel
theorem d_law_487 : decode b_law 487 = .ok (.iload 4, 2) := by decide +kernel
theorem d_law_489 : decode b_law 489 = .ok (.iconst 4, 1) := by decide +kernel
theorem d_law_490 : decode b_law 490 = .ok (.iadd, 1) := by decide +kernel
theorem d_law_491 : decode b_law 491 = .ok (.iaload, 1) := by decide +kernel
theorem d_law_492 : decode b_law 492 = .ok (.i2l, 1) := by decide +kernel
theorem d_law_493 : decode b_law 493 = .ok (.bipush 32, 2) := by decide +kernel
theorem d_law_495 : decode b_law 495 = .ok (.lshl, 1) := by decide +kernel
theorem d_law_496 : decode b_law 496 = .ok (.aload_n 0, 1) := by decide +kernel
theorem d_law_497 : decode b_law 497 = .ok (.iload 4, 2) := by decide +kernel
theorem d_law_499 : decode b_law 499 = .ok (.iconst 5, 1) := by decide +kernel
theorem d_law_500 : decode b_law 500 = .ok (.iadd, 1) := by decide +kernel
theorem d_law_501 : decode b_law 501 = .ok (.iaload, 1) := by decide +kernel
theorem d_law_502 : decode b_law 502 = .ok (.i2l, 1) := by decide +kernel
theorem d_law_503 : decode b_law 503 = .ok (.ldc2_w 86, 3) := by decide +kernel
theorem d_law_506 : decode b_law 506 = .ok (.land, 1) := by decide +kernel
theorem d_law_507 : decode b_law 507 = .ok (.lor, 1) := by decide +kernel
theorem d_law_508 : decode b_law 508 = .ok (.aload_n 0, 1) := by decide +kernel
theorem d_law_509 : decode b_law 509 = .ok (.iload 4, 2) := by decide +kernel
theorem d_law_511 : decode b_law 511 = .ok (.bipush 6, 2) := by decide +kernel
theorem d_law_513 : decode b_law 513 = .ok (.iadd, 1) := by decide +kernel
theorem d_law_514 : decode b_law 514 = .ok (.iaload, 1) := by decide +kernel
theorem d_law_515 : decode b_law 515 = .ok (.i2l, 1) := by decide +kernel
theorem d_law_516 : decode b_law 516 = .ok (.bipush 32, 2) := by decide +kernel
theorem d_law_518 : decode b_law 518 = .ok (.lshl, 1) := by decide +kernel
theorem d_law_519 : decode b_law 519 = .ok (.aload_n 0, 1) := by decide +kernel
theorem d_law_520 : decode b_law 520 = .ok (.iload 4, 2) := by decide +kernel
theorem d_law_522 : decode b_law 522 = .ok (.bipush 7, 2) := by decide +kernel
theorem d_law_524 : decode b_law 524 = .ok (.iadd, 1) := by decide +kernel
theorem d_law_525 : decode b_law 525 = .ok (.iaload, 1) := by decide +kernel
theorem d_law_526 : decode b_law 526 = .ok (.i2l, 1) := by decide +kernel
theorem d_law_527 : decode b_law 527 = .ok (.ldc2_w 86, 3) := by decide +kernel
theorem d_law_530 : decode b_law 530 = .ok (.land, 1) := by decide +kernel
theorem d_law_531 : decode b_law 531 = .ok (.lor, 1) := by decide +kernel
theorem d_law_532 : decode b_law 532 = .ok (.aload_n 0, 1) := by decide +kernel
theorem d_law_533 : decode b_law 533 = .ok (.iload 4, 2) := by decide +kernel
theorem d_law_535 : decode b_law 535 = .ok (.bipush 8, 2) := by decide +kernel
theorem d_law_537 : decode b_law 537 = .ok (.iadd, 1) := by decide +kernel
theorem d_law_538 : decode b_law 538 = .ok (.iaload, 1) := by decide +kernel
theorem d_law_539 : decode b_law 539 = .ok (.i2l, 1) := by decide +kernel
theorem d_law_540 : decode b_law 540 = .ok (.bipush 32, 2) := by decide +kernel
theorem d_law_542 : decode b_law 542 = .ok (.lshl, 1) := by decide +kernel
theorem d_law_543 : decode b_law 543 = .ok (.aload_n 0, 1) := by decide +kernel
theorem d_law_544 : decode b_law 544 = .ok (.iload 4, 2) := by decide +kernel
theorem d_law_546 : decode b_law 546 = .ok (.bipush 9, 2) := by decide +kernel
theorem d_law_548 : decode b_law 548 = .ok (.iadd, 1) := by decide +kernel
theorem d_law_549 : decode b_law 549 = .ok (.iaload, 1) := by decide +kernel
theorem d_law_550 : decode b_law 550 = .ok (.i2l, 1) := by decide +kernel
theorem d_law_551 : decode b_law 551 = .ok (.ldc2_w 86, 3) := by decide +kernel
theorem d_law_554 : decode b_law 554 = .ok (.land, 1) := by decide +kernel
theorem d_law_555 : decode b_law 555 = .ok (.lor, 1) := by decide +kernel
theorem d_law_556 : decode b_law 556 = .ok (.aload_n 0, 1) := by decide +kernel
theorem d_law_557 : decode b_law 557 = .ok (.iload 4, 2) := by decide +kernel
theorem d_law_559 : decode b_law 559 = .ok (.bipush 10, 2) := by decide +kernel
theorem d_law_561 : decode b_law 561 = .ok (.iadd, 1) := by decide +kernel
theorem d_law_562 : decode b_law 562 = .ok (.iaload, 1) := by decide +kernel
theorem d_law_563 : decode b_law 563 = .ok (.i2l, 1) := by decide +kernel
theorem d_law_564 : decode b_law 564 = .ok (.bipush 32, 2) := by decide +kernel
theorem d_law_566 : decode b_law 566 = .ok (.lshl, 1) := by decide +kernel
theorem d_law_567 : decode b_law 567 = .ok (.aload_n 0, 1) := by decide +kernel
theorem d_law_568 : decode b_law 568 = .ok (.iload 4, 2) := by decide +kernel
theorem d_law_570 : decode b_law 570 = .ok (.bipush 11, 2) := by decide +kernel
theorem d_law_572 : decode b_law 572 = .ok (.iadd, 1) := by decide +kernel
theorem d_law_573 : decode b_law 573 = .ok (.iaload, 1) := by decide +kernel
theorem d_law_574 : decode b_law 574 = .ok (.i2l, 1) := by decide +kernel
theorem d_law_575 : decode b_law 575 = .ok (.ldc2_w 86, 3) := by decide +kernel
theorem d_law_578 : decode b_law 578 = .ok (.land, 1) := by decide +kernel
theorem d_law_579 : decode b_law 579 = .ok (.lor, 1) := by decide +kernel
theorem d_law_580 : decode b_law 580 = .ok (.aload_n 3, 1) := by decide +kernel
theorem d_law_581 : decode b_law 581 = .ok (.invokestatic 92, 3) := by decide +kernel
theorem d_law_717 : decode b_law 717 = .ok (.aload_n 1, 1) := by decide +kernel
theorem d_law_718 : decode b_law 718 = .ok (.aload_n 0, 1) := by decide +kernel
theorem d_law_719 : decode b_law 719 = .ok (.iload 4, 2) := by decide +kernel
theorem d_law_721 : decode b_law 721 = .ok (.iconst 1, 1) := by decide +kernel
theorem d_law_722 : decode b_law 722 = .ok (.iadd, 1) := by decide +kernel
theorem d_law_723 : decode b_law 723 = .ok (.iaload, 1) := by decide +kernel
theorem d_law_724 : decode b_law 724 = .ok (.i2l, 1) := by decide +kernel
theorem d_law_725 : decode b_law 725 = .ok (.bipush 32, 2) := by decide +kernel
theorem d_law_727 : decode b_law 727 = .ok (.lshl, 1) := by decide +kernel
theorem d_law_728 : decode b_law 728 = .ok (.aload_n 0, 1) := by decide +kernel
theorem d_law_729 : decode b_law 729 = .ok (.iload 4, 2) := by decide +kernel
theorem d_law_731 : decode b_law 731 = .ok (.iconst 2, 1) := by decide +kernel
theorem d_law_732 : decode b_law 732 = .ok (.iadd, 1) := by decide +kernel
theorem d_law_733 : decode b_law 733 = .ok (.iaload, 1) := by decide +kernel
theorem d_law_734 : decode b_law 734 = .ok (.i2l, 1) := by decide +kernel
theorem d_law_735 : decode b_law 735 = .ok (.ldc2_w 86, 3) := by decide +kernel
theorem d_law_738 : decode b_law 738 = .ok (.land, 1) := by decide +kernel
theorem d_law_739 : decode b_law 739 = .ok (.lor, 1) := by decide +kernel
theorem d_law_740 : decode b_law 740 = .ok (.aload_n 0, 1) := by decide +kernel
theorem d_law_741 : decode b_law 741 = .ok (.iload 4, 2) := by decide +kernel
theorem d_law_743 : decode b_law 743 = .ok (.iconst 3, 1) := by decide +kernel
theorem d_law_744 : decode b_law 744 = .ok (.iadd, 1) := by decide +kernel
theorem d_law_745 : decode b_law 745 = .ok (.iaload, 1) := by decide +kernel
theorem d_law_746 : decode b_law 746 = .ok (.i2l, 1) := by decide +kernel
theorem d_law_747 : decode b_law 747 = .ok (.bipush 32, 2) := by decide +kernel
theorem d_law_749 : decode b_law 749 = .ok (.lshl, 1) := by decide +kernel
theorem d_law_750 : decode b_law 750 = .ok (.aload_n 0, 1) := by decide +kernel
theorem d_law_751 : decode b_law 751 = .ok (.iload 4, 2) := by decide +kernel
theorem d_law_753 : decode b_law 753 = .ok (.iconst 4, 1) := by decide +kernel
theorem d_law_754 : decode b_law 754 = .ok (.iadd, 1) := by decide +kernel
theorem d_law_755 : decode b_law 755 = .ok (.iaload, 1) := by decide +kernel
theorem d_law_756 : decode b_law 756 = .ok (.i2l, 1) := by decide +kernel
theorem d_law_757 : decode b_law 757 = .ok (.ldc2_w 86, 3) := by decide +kernel
theorem d_law_760 : decode b_law 760 = .ok (.land, 1) := by decide +kernel
theorem d_law_761 : decode b_law 761 = .ok (.lor, 1) := by decide +kernel
theorem d_law_762 : decode b_law 762 = .ok (.aload_n 3, 1) := by decide +kernel
theorem d_law_763 : decode b_law 763 = .ok (.invokestatic 96, 3) := by decide +kernel
theorem d_law_766 : decode b_law 766 = .ok (.istore 5, 2) := by decide +kernel
theorem d_law_768 : decode b_law 768 = .ok (.aload_n 2, 1) := by decide +kernel
theorem d_law_769 : decode b_law 769 = .ok (.aload_n 0, 1) := by decide +kernel
theorem d_law_770 : decode b_law 770 = .ok (.iload 4, 2) := by decide +kernel
theorem d_law_772 : decode b_law 772 = .ok (.iconst 1, 1) := by decide +kernel
theorem d_law_773 : decode b_law 773 = .ok (.iadd, 1) := by decide +kernel
theorem d_law_774 : decode b_law 774 = .ok (.iaload, 1) := by decide +kernel
theorem d_law_775 : decode b_law 775 = .ok (.i2l, 1) := by decide +kernel
theorem d_law_776 : decode b_law 776 = .ok (.bipush 32, 2) := by decide +kernel
theorem d_law_778 : decode b_law 778 = .ok (.lshl, 1) := by decide +kernel
theorem d_law_779 : decode b_law 779 = .ok (.aload_n 0, 1) := by decide +kernel
theorem d_law_780 : decode b_law 780 = .ok (.iload 4, 2) := by decide +kernel
theorem d_law_782 : decode b_law 782 = .ok (.iconst 2, 1) := by decide +kernel
theorem d_law_783 : decode b_law 783 = .ok (.iadd, 1) := by decide +kernel
theorem d_law_784 : decode b_law 784 = .ok (.iaload, 1) := by decide +kernel
theorem d_law_785 : decode b_law 785 = .ok (.i2l, 1) := by decide +kernel
theorem d_law_786 : decode b_law 786 = .ok (.ldc2_w 86, 3) := by decide +kernel
theorem d_law_789 : decode b_law 789 = .ok (.land, 1) := by decide +kernel
theorem d_law_790 : decode b_law 790 = .ok (.lor, 1) := by decide +kernel
theorem d_law_791 : decode b_law 791 = .ok (.aload_n 0, 1) := by decide +kernel
theorem d_law_792 : decode b_law 792 = .ok (.iload 4, 2) := by decide +kernel
theorem d_law_794 : decode b_law 794 = .ok (.iconst 3, 1) := by decide +kernel
theorem d_law_795 : decode b_law 795 = .ok (.iadd, 1) := by decide +kernel
theorem d_law_796 : decode b_law 796 = .ok (.iaload, 1) := by decide +kernel
theorem d_law_797 : decode b_law 797 = .ok (.i2l, 1) := by decide +kernel
theorem d_law_798 : decode b_law 798 = .ok (.bipush 32, 2) := by decide +kernel
theorem d_law_800 : decode b_law 800 = .ok (.lshl, 1) := by decide +kernel
theorem d_law_801 : decode b_law 801 = .ok (.aload_n 0, 1) := by decide +kernel
theorem d_law_802 : decode b_law 802 = .ok (.iload 4, 2) := by decide +kernel
theorem d_law_804 : decode b_law 804 = .ok (.iconst 4, 1) := by decide +kernel
theorem d_law_805 : decode b_law 805 = .ok (.iadd, 1) := by decide +kernel
theorem d_law_806 : decode b_law 806 = .ok (.iaload, 1) := by decide +kernel
theorem d_law_807 : decode b_law 807 = .ok (.i2l, 1) := by decide +kernel
theorem d_law_808 : decode b_law 808 = .ok (.ldc2_w 86, 3) := by decide +kernel
theorem d_law_811 : decode b_law 811 = .ok (.land, 1) := by decide +kernel
theorem d_law_812 : decode b_law 812 = .ok (.lor, 1) := by decide +kernel
theorem d_law_813 : decode b_law 813 = .ok (.invokevirtual 99, 3) := by decide +kernel
theorem d_law_816 : decode b_law 816 = .ok (.istore 6, 2) := by decide +kernel
theorem d_law_818 : decode b_law 818 = .ok (.goto 1251, 3) := by decide +kernel
theorem d_law_821 : decode b_law 821 = .ok (.aload_n 1, 1) := by decide +kernel
theorem d_law_822 : decode b_law 822 = .ok (.aload_n 0, 1) := by decide +kernel
theorem d_law_823 : decode b_law 823 = .ok (.iload 4, 2) := by decide +kernel
theorem d_law_825 : decode b_law 825 = .ok (.iconst 1, 1) := by decide +kernel
theorem d_law_826 : decode b_law 826 = .ok (.iadd, 1) := by decide +kernel
theorem d_law_827 : decode b_law 827 = .ok (.iaload, 1) := by decide +kernel
theorem d_law_828 : decode b_law 828 = .ok (.aload_n 0, 1) := by decide +kernel
theorem d_law_829 : decode b_law 829 = .ok (.iload 4, 2) := by decide +kernel
theorem d_law_831 : decode b_law 831 = .ok (.iconst 2, 1) := by decide +kernel
theorem d_law_832 : decode b_law 832 = .ok (.iadd, 1) := by decide +kernel
theorem d_law_833 : decode b_law 833 = .ok (.iaload, 1) := by decide +kernel
theorem d_law_834 : decode b_law 834 = .ok (.i2l, 1) := by decide +kernel
theorem d_law_835 : decode b_law 835 = .ok (.bipush 32, 2) := by decide +kernel
theorem d_law_837 : decode b_law 837 = .ok (.lshl, 1) := by decide +kernel
theorem d_law_838 : decode b_law 838 = .ok (.aload_n 0, 1) := by decide +kernel
theorem d_law_839 : decode b_law 839 = .ok (.iload 4, 2) := by decide +kernel
theorem d_law_841 : decode b_law 841 = .ok (.iconst 3, 1) := by decide +kernel
theorem d_law_842 : decode b_law 842 = .ok (.iadd, 1) := by decide +kernel
theorem d_law_843 : decode b_law 843 = .ok (.iaload, 1) := by decide +kernel
theorem d_law_844 : decode b_law 844 = .ok (.i2l, 1) := by decide +kernel
theorem d_law_845 : decode b_law 845 = .ok (.ldc2_w 86, 3) := by decide +kernel
theorem d_law_848 : decode b_law 848 = .ok (.land, 1) := by decide +kernel
theorem d_law_849 : decode b_law 849 = .ok (.lor, 1) := by decide +kernel
theorem d_law_850 : decode b_law 850 = .ok (.aload_n 0, 1) := by decide +kernel
theorem d_law_851 : decode b_law 851 = .ok (.iload 4, 2) := by decide +kernel
theorem d_law_853 : decode b_law 853 = .ok (.iconst 4, 1) := by decide +kernel
theorem d_law_854 : decode b_law 854 = .ok (.iadd, 1) := by decide +kernel
theorem d_law_855 : decode b_law 855 = .ok (.iaload, 1) := by decide +kernel
theorem d_law_856 : decode b_law 856 = .ok (.i2l, 1) := by decide +kernel
theorem d_law_857 : decode b_law 857 = .ok (.bipush 32, 2) := by decide +kernel
theorem d_law_859 : decode b_law 859 = .ok (.lshl, 1) := by decide +kernel
theorem d_law_860 : decode b_law 860 = .ok (.aload_n 0, 1) := by decide +kernel
theorem d_law_861 : decode b_law 861 = .ok (.iload 4, 2) := by decide +kernel
theorem d_law_863 : decode b_law 863 = .ok (.iconst 5, 1) := by decide +kernel
theorem d_law_864 : decode b_law 864 = .ok (.iadd, 1) := by decide +kernel
theorem d_law_865 : decode b_law 865 = .ok (.iaload, 1) := by decide +kernel
theorem d_law_866 : decode b_law 866 = .ok (.i2l, 1) := by decide +kernel
theorem d_law_867 : decode b_law 867 = .ok (.ldc2_w 86, 3) := by decide +kernel
theorem d_law_870 : decode b_law 870 = .ok (.land, 1) := by decide +kernel
theorem d_law_871 : decode b_law 871 = .ok (.lor, 1) := by decide +kernel
theorem d_law_872 : decode b_law 872 = .ok (.aload_n 3, 1) := by decide +kernel
theorem d_law_873 : decode b_law 873 = .ok (.invokestatic 100, 3) := by decide +kernel
theorem d_law_876 : decode b_law 876 = .ok (.istore 5, 2) := by decide +kernel
theorem d_law_878 : decode b_law 878 = .ok (.aload_n 2, 1) := by decide +kernel
theorem d_law_879 : decode b_law 879 = .ok (.aload_n 0, 1) := by decide +kernel
theorem d_law_880 : decode b_law 880 = .ok (.iload 4, 2) := by decide +kernel
theorem d_law_882 : decode b_law 882 = .ok (.iconst 1, 1) := by decide +kernel
theorem d_law_883 : decode b_law 883 = .ok (.iadd, 1) := by decide +kernel
theorem d_law_884 : decode b_law 884 = .ok (.iaload, 1) := by decide +kernel
theorem d_law_885 : decode b_law 885 = .ok (.aload_n 0, 1) := by decide +kernel
theorem d_law_886 : decode b_law 886 = .ok (.iload 4, 2) := by decide +kernel
theorem d_law_888 : decode b_law 888 = .ok (.iconst 2, 1) := by decide +kernel
theorem d_law_889 : decode b_law 889 = .ok (.iadd, 1) := by decide +kernel
theorem d_law_890 : decode b_law 890 = .ok (.iaload, 1) := by decide +kernel
theorem d_law_891 : decode b_law 891 = .ok (.i2l, 1) := by decide +kernel
theorem d_law_892 : decode b_law 892 = .ok (.bipush 32, 2) := by decide +kernel
theorem d_law_894 : decode b_law 894 = .ok (.lshl, 1) := by decide +kernel
theorem d_law_895 : decode b_law 895 = .ok (.aload_n 0, 1) := by decide +kernel
theorem d_law_896 : decode b_law 896 = .ok (.iload 4, 2) := by decide +kernel
theorem d_law_898 : decode b_law 898 = .ok (.iconst 3, 1) := by decide +kernel
theorem d_law_899 : decode b_law 899 = .ok (.iadd, 1) := by decide +kernel
theorem d_law_900 : decode b_law 900 = .ok (.iaload, 1) := by decide +kernel
theorem d_law_901 : decode b_law 901 = .ok (.i2l, 1) := by decide +kernel
theorem d_law_902 : decode b_law 902 = .ok (.ldc2_w 86, 3) := by decide +kernel
theorem d_law_905 : decode b_law 905 = .ok (.land, 1) := by decide +kernel
theorem d_law_906 : decode b_law 906 = .ok (.lor, 1) := by decide +kernel
theorem d_law_907 : decode b_law 907 = .ok (.aload_n 0, 1) := by decide +kernel
theorem d_law_908 : decode b_law 908 = .ok (.iload 4, 2) := by decide +kernel
theorem d_law_910 : decode b_law 910 = .ok (.iconst 4, 1) := by decide +kernel
theorem d_law_911 : decode b_law 911 = .ok (.iadd, 1) := by decide +kernel
theorem d_law_912 : decode b_law 912 = .ok (.iaload, 1) := by decide +kernel
theorem d_law_913 : decode b_law 913 = .ok (.i2l, 1) := by decide +kernel
theorem d_law_914 : decode b_law 914 = .ok (.bipush 32, 2) := by decide +kernel
theorem d_law_916 : decode b_law 916 = .ok (.lshl, 1) := by decide +kernel
theorem d_law_917 : decode b_law 917 = .ok (.aload_n 0, 1) := by decide +kernel
theorem d_law_918 : decode b_law 918 = .ok (.iload 4, 2) := by decide +kernel
theorem d_law_920 : decode b_law 920 = .ok (.iconst 5, 1) := by decide +kernel
theorem d_law_921 : decode b_law 921 = .ok (.iadd, 1) := by decide +kernel
theorem d_law_922 : decode b_law 922 = .ok (.iaload, 1) := by decide +kernel
theorem d_law_923 : decode b_law 923 = .ok (.i2l, 1) := by decide +kernel
theorem d_law_924 : decode b_law 924 = .ok (.ldc2_w 86, 3) := by decide +kernel
theorem d_law_927 : decode b_law 927 = .ok (.land, 1) := by decide +kernel
theorem d_law_928 : decode b_law 928 = .ok (.lor, 1) := by decide +kernel
theorem d_law_929 : decode b_law 929 = .ok (.invokevirtual 103, 3) := by decide +kernel
theorem d_law_932 : decode b_law 932 = .ok (.istore 6, 2) := by decide +kernel
theorem d_law_934 : decode b_law 934 = .ok (.goto 1135, 3) := by decide +kernel
theorem d_law_937 : decode b_law 937 = .ok (.aload_n 1, 1) := by decide +kernel
theorem d_law_938 : decode b_law 938 = .ok (.aload_n 0, 1) := by decide +kernel
theorem d_law_939 : decode b_law 939 = .ok (.iload 4, 2) := by decide +kernel
theorem d_law_941 : decode b_law 941 = .ok (.iconst 1, 1) := by decide +kernel
theorem d_law_942 : decode b_law 942 = .ok (.iadd, 1) := by decide +kernel
theorem d_law_943 : decode b_law 943 = .ok (.iaload, 1) := by decide +kernel
theorem d_law_944 : decode b_law 944 = .ok (.aload_n 0, 1) := by decide +kernel
theorem d_law_945 : decode b_law 945 = .ok (.iload 4, 2) := by decide +kernel
theorem d_law_947 : decode b_law 947 = .ok (.iconst 2, 1) := by decide +kernel
theorem d_law_948 : decode b_law 948 = .ok (.iadd, 1) := by decide +kernel
theorem d_law_949 : decode b_law 949 = .ok (.iaload, 1) := by decide +kernel
theorem d_law_950 : decode b_law 950 = .ok (.i2l, 1) := by decide +kernel
theorem d_law_951 : decode b_law 951 = .ok (.bipush 32, 2) := by decide +kernel
theorem d_law_953 : decode b_law 953 = .ok (.lshl, 1) := by decide +kernel
theorem d_law_954 : decode b_law 954 = .ok (.aload_n 0, 1) := by decide +kernel
theorem d_law_955 : decode b_law 955 = .ok (.iload 4, 2) := by decide +kernel
theorem d_law_957 : decode b_law 957 = .ok (.iconst 3, 1) := by decide +kernel
theorem d_law_958 : decode b_law 958 = .ok (.iadd, 1) := by decide +kernel
theorem d_law_959 : decode b_law 959 = .ok (.iaload, 1) := by decide +kernel
theorem d_law_960 : decode b_law 960 = .ok (.i2l, 1) := by decide +kernel
theorem d_law_961 : decode b_law 961 = .ok (.ldc2_w 86, 3) := by decide +kernel
theorem d_law_964 : decode b_law 964 = .ok (.land, 1) := by decide +kernel
theorem d_law_965 : decode b_law 965 = .ok (.lor, 1) := by decide +kernel
theorem d_law_966 : decode b_law 966 = .ok (.aload_n 0, 1) := by decide +kernel
theorem d_law_967 : decode b_law 967 = .ok (.iload 4, 2) := by decide +kernel
theorem d_law_969 : decode b_law 969 = .ok (.iconst 4, 1) := by decide +kernel
theorem d_law_970 : decode b_law 970 = .ok (.iadd, 1) := by decide +kernel
theorem d_law_971 : decode b_law 971 = .ok (.iaload, 1) := by decide +kernel
theorem d_law_972 : decode b_law 972 = .ok (.i2l, 1) := by decide +kernel
theorem d_law_973 : decode b_law 973 = .ok (.bipush 32, 2) := by decide +kernel
theorem d_law_975 : decode b_law 975 = .ok (.lshl, 1) := by decide +kernel
theorem d_law_976 : decode b_law 976 = .ok (.aload_n 0, 1) := by decide +kernel
theorem d_law_977 : decode b_law 977 = .ok (.iload 4, 2) := by decide +kernel
theorem d_law_979 : decode b_law 979 = .ok (.iconst 5, 1) := by decide +kernel
theorem d_law_980 : decode b_law 980 = .ok (.iadd, 1) := by decide +kernel
theorem d_law_981 : decode b_law 981 = .ok (.iaload, 1) := by decide +kernel
theorem d_law_982 : decode b_law 982 = .ok (.i2l, 1) := by decide +kernel
theorem d_law_983 : decode b_law 983 = .ok (.ldc2_w 86, 3) := by decide +kernel
theorem d_law_986 : decode b_law 986 = .ok (.land, 1) := by decide +kernel
theorem d_law_987 : decode b_law 987 = .ok (.lor, 1) := by decide +kernel
theorem d_law_988 : decode b_law 988 = .ok (.aload_n 0, 1) := by decide +kernel
theorem d_law_989 : decode b_law 989 = .ok (.iload 4, 2) := by decide +kernel
theorem d_law_991 : decode b_law 991 = .ok (.bipush 6, 2) := by decide +kernel
theorem d_law_993 : decode b_law 993 = .ok (.iadd, 1) := by decide +kernel
theorem d_law_994 : decode b_law 994 = .ok (.iaload, 1) := by decide +kernel
theorem d_law_995 : decode b_law 995 = .ok (.i2l, 1) := by decide +kernel
theorem d_law_996 : decode b_law 996 = .ok (.bipush 32, 2) := by decide +kernel
theorem d_law_998 : decode b_law 998 = .ok (.lshl, 1) := by decide +kernel
theorem d_law_999 : decode b_law 999 = .ok (.aload_n 0, 1) := by decide +kernel
theorem d_law_1000 : decode b_law 1000 = .ok (.iload 4, 2) := by decide +kernel
theorem d_law_1002 : decode b_law 1002 = .ok (.bipush 7, 2) := by decide +kernel
theorem d_law_1004 : decode b_law 1004 = .ok (.iadd, 1) := by decide +kernel
theorem d_law_1005 : decode b_law 1005 = .ok (.iaload, 1) := by decide +kernel
theorem d_law_1006 : decode b_law 1006 = .ok (.i2l, 1) := by decide +kernel
theorem d_law_1007 : decode b_law 1007 = .ok (.ldc2_w 86, 3) := by decide +kernel
theorem d_law_1010 : decode b_law 1010 = .ok (.land, 1) := by decide +kernel
theorem d_law_1011 : decode b_law 1011 = .ok (.lor, 1) := by decide +kernel
theorem d_law_1012 : decode b_law 1012 = .ok (.aload_n 0, 1) := by decide +kernel
theorem d_law_1013 : decode b_law 1013 = .ok (.iload 4, 2) := by decide +kernel
theorem d_law_1015 : decode b_law 1015 = .ok (.bipush 8, 2) := by decide +kernel
theorem d_law_1017 : decode b_law 1017 = .ok (.iadd, 1) := by decide +kernel
theorem d_law_1018 : decode b_law 1018 = .ok (.iaload, 1) := by decide +kernel
theorem d_law_1019 : decode b_law 1019 = .ok (.i2l, 1) := by decide +kernel
theorem d_law_1020 : decode b_law 1020 = .ok (.bipush 32, 2) := by decide +kernel
theorem d_law_1022 : decode b_law 1022 = .ok (.lshl, 1) := by decide +kernel
theorem d_law_1023 : decode b_law 1023 = .ok (.aload_n 0, 1) := by decide +kernel
theorem d_law_1024 : decode b_law 1024 = .ok (.iload 4, 2) := by decide +kernel
theorem d_law_1026 : decode b_law 1026 = .ok (.bipush 9, 2) := by decide +kernel
theorem d_law_1028 : decode b_law 1028 = .ok (.iadd, 1) := by decide +kernel
theorem d_law_1029 : decode b_law 1029 = .ok (.iaload, 1) := by decide +kernel
theorem d_law_1030 : decode b_law 1030 = .ok (.i2l, 1) := by decide +kernel
theorem d_law_1031 : decode b_law 1031 = .ok (.ldc2_w 86, 3) := by decide +kernel
theorem d_law_1034 : decode b_law 1034 = .ok (.land, 1) := by decide +kernel
theorem d_law_1035 : decode b_law 1035 = .ok (.lor, 1) := by decide +kernel
theorem d_law_1036 : decode b_law 1036 = .ok (.aload_n 0, 1) := by decide +kernel
theorem d_law_1037 : decode b_law 1037 = .ok (.iload 4, 2) := by decide +kernel
theorem d_law_1039 : decode b_law 1039 = .ok (.bipush 10, 2) := by decide +kernel
theorem d_law_1041 : decode b_law 1041 = .ok (.iadd, 1) := by decide +kernel
theorem d_law_1042 : decode b_law 1042 = .ok (.iaload, 1) := by decide +kernel
theorem d_law_1043 : decode b_law 1043 = .ok (.aload_n 0, 1) := by decide +kernel
theorem d_law_1044 : decode b_law 1044 = .ok (.iload 4, 2) := by decide +kernel
theorem d_law_1046 : decode b_law 1046 = .ok (.bipush 11, 2) := by decide +kernel
theorem d_law_1048 : decode b_law 1048 = .ok (.iadd, 1) := by decide +kernel
theorem d_law_1049 : decode b_law 1049 = .ok (.iaload, 1) := by decide +kernel
theorem d_law_1050 : decode b_law 1050 = .ok (.i2l, 1) := by decide +kernel
theorem d_law_1051 : decode b_law 1051 = .ok (.bipush 32, 2) := by decide +kernel
theorem d_law_1053 : decode b_law 1053 = .ok (.lshl, 1) := by decide +kernel
theorem d_law_1054 : decode b_law 1054 = .ok (.aload_n 0, 1) := by decide +kernel
theorem d_law_1055 : decode b_law 1055 = .ok (.iload 4, 2) := by decide +kernel
theorem d_law_1057 : decode b_law 1057 = .ok (.bipush 12, 2) := by decide +kernel
theorem d_law_1059 : decode b_law 1059 = .ok (.iadd, 1) := by decide +kernel
theorem d_law_1060 : decode b_law 1060 = .ok (.iaload, 1) := by decide +kernel
theorem d_law_1061 : decode b_law 1061 = .ok (.i2l, 1) := by decide +kernel
theorem d_law_1062 : decode b_law 1062 = .ok (.ldc2_w 86, 3) := by decide +kernel
theorem d_law_1065 : decode b_law 1065 = .ok (.land, 1) := by decide +kernel
theorem d_law_1066 : decode b_law 1066 = .ok (.lor, 1) := by decide +kernel
theorem d_law_1067 : decode b_law 1067 = .ok (.aload_n 3, 1) := by decide +kernel
theorem d_law_1068 : decode b_law 1068 = .ok (.invokestatic 104, 3) := by decide +kernel
theorem d_law_1211 : decode b_law 1211 = .ok (.aload_n 1, 1) := by decide +kernel
theorem d_law_1212 : decode b_law 1212 = .ok (.aload_n 0, 1) := by decide +kernel
theorem d_law_1213 : decode b_law 1213 = .ok (.iload 4, 2) := by decide +kernel
theorem d_law_1215 : decode b_law 1215 = .ok (.iconst 1, 1) := by decide +kernel
theorem d_law_1216 : decode b_law 1216 = .ok (.iadd, 1) := by decide +kernel
theorem d_law_1217 : decode b_law 1217 = .ok (.iaload, 1) := by decide +kernel
theorem d_law_1218 : decode b_law 1218 = .ok (.aload_n 0, 1) := by decide +kernel
theorem d_law_1219 : decode b_law 1219 = .ok (.iload 4, 2) := by decide +kernel
theorem d_law_1221 : decode b_law 1221 = .ok (.iconst 2, 1) := by decide +kernel
theorem d_law_1222 : decode b_law 1222 = .ok (.iadd, 1) := by decide +kernel
theorem d_law_1223 : decode b_law 1223 = .ok (.iaload, 1) := by decide +kernel
theorem d_law_1224 : decode b_law 1224 = .ok (.aload_n 3, 1) := by decide +kernel
theorem d_law_1225 : decode b_law 1225 = .ok (.invokestatic 108, 3) := by decide +kernel
theorem d_law_1228 : decode b_law 1228 = .ok (.istore 5, 2) := by decide +kernel
theorem d_law_1230 : decode b_law 1230 = .ok (.aload_n 2, 1) := by decide +kernel
theorem d_law_1231 : decode b_law 1231 = .ok (.aload_n 0, 1) := by decide +kernel
theorem d_law_1232 : decode b_law 1232 = .ok (.iload 4, 2) := by decide +kernel
theorem d_law_1234 : decode b_law 1234 = .ok (.iconst 1, 1) := by decide +kernel
theorem d_law_1235 : decode b_law 1235 = .ok (.iadd, 1) := by decide +kernel
theorem d_law_1236 : decode b_law 1236 = .ok (.iaload, 1) := by decide +kernel
theorem d_law_1237 : decode b_law 1237 = .ok (.aload_n 0, 1) := by decide +kernel
theorem d_law_1238 : decode b_law 1238 = .ok (.iload 4, 2) := by decide +kernel
theorem d_law_1240 : decode b_law 1240 = .ok (.iconst 2, 1) := by decide +kernel
theorem d_law_1241 : decode b_law 1241 = .ok (.iadd, 1) := by decide +kernel
theorem d_law_1242 : decode b_law 1242 = .ok (.iaload, 1) := by decide +kernel
theorem d_law_1243 : decode b_law 1243 = .ok (.invokevirtual 111, 3) := by decide +kernel
theorem d_law_1246 : decode b_law 1246 = .ok (.istore 6, 2) := by decide +kernel
theorem d_law_1248 : decode b_law 1248 = .ok (.goto 821, 3) := by decide +kernel
theorem d_law_1251 : decode b_law 1251 = .ok (.aload_n 1, 1) := by decide +kernel
theorem d_law_1252 : decode b_law 1252 = .ok (.aload_n 0, 1) := by decide +kernel
theorem d_law_1253 : decode b_law 1253 = .ok (.iload 4, 2) := by decide +kernel
theorem d_law_1255 : decode b_law 1255 = .ok (.iconst 1, 1) := by decide +kernel
theorem d_law_1256 : decode b_law 1256 = .ok (.iadd, 1) := by decide +kernel
theorem d_law_1257 : decode b_law 1257 = .ok (.iaload, 1) := by decide +kernel
theorem d_law_1258 : decode b_law 1258 = .ok (.aload_n 0, 1) := by decide +kernel
theorem d_law_1259 : decode b_law 1259 = .ok (.iload 4, 2) := by decide +kernel
theorem d_law_1261 : decode b_law 1261 = .ok (.iconst 2, 1) := by decide +kernel
theorem d_law_1262 : decode b_law 1262 = .ok (.iadd, 1) := by decide +kernel
theorem d_law_1263 : decode b_law 1263 = .ok (.iaload, 1) := by decide +kernel
theorem d_law_1264 : decode b_law 1264 = .ok (.i2l, 1) := by decide +kernel
theorem d_law_1265 : decode b_law 1265 = .ok (.bipush 32, 2) := by decide +kernel
theorem d_law_1267 : decode b_law 1267 = .ok (.lshl, 1) := by decide +kernel
theorem d_law_1268 : decode b_law 1268 = .ok (.aload_n 0, 1) := by decide +kernel
theorem d_law_1269 : decode b_law 1269 = .ok (.iload 4, 2) := by decide +kernel
theorem d_law_1271 : decode b_law 1271 = .ok (.iconst 3, 1) := by decide +kernel
theorem d_law_1272 : decode b_law 1272 = .ok (.iadd, 1) := by decide +kernel
theorem d_law_1273 : decode b_law 1273 = .ok (.iaload, 1) := by decide +kernel
theorem d_law_1274 : decode b_law 1274 = .ok (.i2l, 1) := by decide +kernel
theorem d_law_1275 : decode b_law 1275 = .ok (.ldc2_w 86, 3) := by decide +kernel
theorem d_law_1278 : decode b_law 1278 = .ok (.land, 1) := by decide +kernel
theorem d_law_1279 : decode b_law 1279 = .ok (.lor, 1) := by decide +kernel
theorem d_law_1280 : decode b_law 1280 = .ok (.aload_n 0, 1) := by decide +kernel
theorem d_law_1281 : decode b_law 1281 = .ok (.iload 4, 2) := by decide +kernel
theorem d_law_1283 : decode b_law 1283 = .ok (.iconst 4, 1) := by decide +kernel
theorem d_law_1284 : decode b_law 1284 = .ok (.iadd, 1) := by decide +kernel
theorem d_law_1285 : decode b_law 1285 = .ok (.iaload, 1) := by decide +kernel
theorem d_law_1286 : decode b_law 1286 = .ok (.i2l, 1) := by decide +kernel
theorem d_law_1287 : decode b_law 1287 = .ok (.bipush 32, 2) := by decide +kernel
theorem d_law_1289 : decode b_law 1289 = .ok (.lshl, 1) := by decide +kernel
theorem d_law_1290 : decode b_law 1290 = .ok (.aload_n 0, 1) := by decide +kernel
theorem d_law_1291 : decode b_law 1291 = .ok (.iload 4, 2) := by decide +kernel
theorem d_law_1293 : decode b_law 1293 = .ok (.iconst 5, 1) := by decide +kernel
theorem d_law_1294 : decode b_law 1294 = .ok (.iadd, 1) := by decide +kernel
theorem d_law_1295 : decode b_law 1295 = .ok (.iaload, 1) := by decide +kernel
theorem d_law_1296 : decode b_law 1296 = .ok (.i2l, 1) := by decide +kernel
theorem d_law_1297 : decode b_law 1297 = .ok (.ldc2_w 86, 3) := by decide +kernel
theorem d_law_1300 : decode b_law 1300 = .ok (.land, 1) := by decide +kernel
theorem d_law_1301 : decode b_law 1301 = .ok (.lor, 1) := by decide +kernel
theorem d_law_1302 : decode b_law 1302 = .ok (.aload_n 0, 1) := by decide +kernel
theorem d_law_1303 : decode b_law 1303 = .ok (.iload 4, 2) := by decide +kernel
theorem d_law_1305 : decode b_law 1305 = .ok (.bipush 6, 2) := by decide +kernel
theorem d_law_1307 : decode b_law 1307 = .ok (.iadd, 1) := by decide +kernel
theorem d_law_1308 : decode b_law 1308 = .ok (.iaload, 1) := by decide +kernel
theorem d_law_1309 : decode b_law 1309 = .ok (.aload_n 0, 1) := by decide +kernel
theorem d_law_1310 : decode b_law 1310 = .ok (.iload 4, 2) := by decide +kernel
theorem d_law_1312 : decode b_law 1312 = .ok (.bipush 7, 2) := by decide +kernel
theorem d_law_1314 : decode b_law 1314 = .ok (.iadd, 1) := by decide +kernel
theorem d_law_1315 : decode b_law 1315 = .ok (.iaload, 1) := by decide +kernel
theorem d_law_1316 : decode b_law 1316 = .ok (.aload_n 3, 1) := by decide +kernel
theorem d_law_1317 : decode b_law 1317 = .ok (.invokestatic 112, 3) := by decide +kernel
theorem d_law_1320 : decode b_law 1320 = .ok (.istore 5, 2) := by decide +kernel
theorem d_law_1322 : decode b_law 1322 = .ok (.aload_n 2, 1) := by decide +kernel
theorem d_law_1323 : decode b_law 1323 = .ok (.aload_n 0, 1) := by decide +kernel
theorem d_law_1324 : decode b_law 1324 = .ok (.iload 4, 2) := by decide +kernel
theorem d_law_1326 : decode b_law 1326 = .ok (.iconst 1, 1) := by decide +kernel
theorem d_law_1327 : decode b_law 1327 = .ok (.iadd, 1) := by decide +kernel
theorem d_law_1328 : decode b_law 1328 = .ok (.iaload, 1) := by decide +kernel
theorem d_law_1329 : decode b_law 1329 = .ok (.aload_n 0, 1) := by decide +kernel
theorem d_law_1330 : decode b_law 1330 = .ok (.iload 4, 2) := by decide +kernel
theorem d_law_1332 : decode b_law 1332 = .ok (.iconst 2, 1) := by decide +kernel
theorem d_law_1333 : decode b_law 1333 = .ok (.iadd, 1) := by decide +kernel
theorem d_law_1334 : decode b_law 1334 = .ok (.iaload, 1) := by decide +kernel
theorem d_law_1335 : decode b_law 1335 = .ok (.i2l, 1) := by decide +kernel
theorem d_law_1336 : decode b_law 1336 = .ok (.bipush 32, 2) := by decide +kernel
theorem d_law_1338 : decode b_law 1338 = .ok (.lshl, 1) := by decide +kernel
theorem d_law_1339 : decode b_law 1339 = .ok (.aload_n 0, 1) := by decide +kernel
theorem d_law_1340 : decode b_law 1340 = .ok (.iload 4, 2) := by decide +kernel
theorem d_law_1342 : decode b_law 1342 = .ok (.iconst 3, 1) := by decide +kernel
theorem d_law_1343 : decode b_law 1343 = .ok (.iadd, 1) := by decide +kernel
theorem d_law_1344 : decode b_law 1344 = .ok (.iaload, 1) := by decide +kernel
theorem d_law_1345 : decode b_law 1345 = .ok (.i2l, 1) := by decide +kernel
theorem d_law_1346 : decode b_law 1346 = .ok (.ldc2_w 86, 3) := by decide +kernel
theorem d_law_1349 : decode b_law 1349 = .ok (.land, 1) := by decide +kernel
theorem d_law_1350 : decode b_law 1350 = .ok (.lor, 1) := by decide +kernel
theorem d_law_1351 : decode b_law 1351 = .ok (.aload_n 0, 1) := by decide +kernel
theorem d_law_1352 : decode b_law 1352 = .ok (.iload 4, 2) := by decide +kernel
theorem d_law_1354 : decode b_law 1354 = .ok (.iconst 4, 1) := by decide +kernel
theorem d_law_1355 : decode b_law 1355 = .ok (.iadd, 1) := by decide +kernel
theorem d_law_1356 : decode b_law 1356 = .ok (.iaload, 1) := by decide +kernel
theorem d_law_1357 : decode b_law 1357 = .ok (.i2l, 1) := by decide +kernel
theorem d_law_1358 : decode b_law 1358 = .ok (.bipush 32, 2) := by decide +kernel
theorem d_law_1360 : decode b_law 1360 = .ok (.lshl, 1) := by decide +kernel
theorem d_law_1361 : decode b_law 1361 = .ok (.aload_n 0, 1) := by decide +kernel
theorem d_law_1362 : decode b_law 1362 = .ok (.iload 4, 2) := by decide +kernel
theorem d_law_1364 : decode b_law 1364 = .ok (.iconst 5, 1) := by decide +kernel
theorem d_law_1365 : decode b_law 1365 = .ok (.iadd, 1) := by decide +kernel
theorem d_law_1366 : decode b_law 1366 = .ok (.iaload, 1) := by decide +kernel
theorem d_law_1367 : decode b_law 1367 = .ok (.i2l, 1) := by decide +kernel
theorem d_law_1368 : decode b_law 1368 = .ok (.ldc2_w 86, 3) := by decide +kernel
theorem d_law_1371 : decode b_law 1371 = .ok (.land, 1) := by decide +kernel
theorem d_law_1372 : decode b_law 1372 = .ok (.lor, 1) := by decide +kernel
theorem d_law_1373 : decode b_law 1373 = .ok (.aload_n 0, 1) := by decide +kernel
theorem d_law_1374 : decode b_law 1374 = .ok (.iload 4, 2) := by decide +kernel
theorem d_law_1376 : decode b_law 1376 = .ok (.bipush 6, 2) := by decide +kernel
theorem d_law_1378 : decode b_law 1378 = .ok (.iadd, 1) := by decide +kernel
theorem d_law_1379 : decode b_law 1379 = .ok (.iaload, 1) := by decide +kernel
theorem d_law_1380 : decode b_law 1380 = .ok (.aload_n 0, 1) := by decide +kernel
theorem d_law_1381 : decode b_law 1381 = .ok (.iload 4, 2) := by decide +kernel
theorem d_law_1383 : decode b_law 1383 = .ok (.bipush 7, 2) := by decide +kernel
theorem d_law_1385 : decode b_law 1385 = .ok (.iadd, 1) := by decide +kernel
theorem d_law_1386 : decode b_law 1386 = .ok (.iaload, 1) := by decide +kernel
theorem d_law_1387 : decode b_law 1387 = .ok (.invokevirtual 115, 3) := by decide +kernel
theorem d_law_1390 : decode b_law 1390 = .ok (.istore 6, 2) := by decide +kernel
theorem d_law_1392 : decode b_law 1392 = .ok (.goto 677, 3) := by decide +kernel
theorem d_law_1395 : decode b_law 1395 = .ok (.aload_n 1, 1) := by decide +kernel
theorem d_law_1396 : decode b_law 1396 = .ok (.aload_n 0, 1) := by decide +kernel
theorem d_law_1397 : decode b_law 1397 = .ok (.iload 4, 2) := by decide +kernel
theorem d_law_1399 : decode b_law 1399 = .ok (.iconst 1, 1) := by decide +kernel
theorem d_law_1400 : decode b_law 1400 = .ok (.iadd, 1) := by decide +kernel
theorem d_law_1401 : decode b_law 1401 = .ok (.iaload, 1) := by decide +kernel
theorem d_law_1402 : decode b_law 1402 = .ok (.aload_n 0, 1) := by decide +kernel
theorem d_law_1403 : decode b_law 1403 = .ok (.iload 4, 2) := by decide +kernel
theorem d_law_1405 : decode b_law 1405 = .ok (.iconst 2, 1) := by decide +kernel
theorem d_law_1406 : decode b_law 1406 = .ok (.iadd, 1) := by decide +kernel
theorem d_law_1407 : decode b_law 1407 = .ok (.iaload, 1) := by decide +kernel
theorem d_law_1408 : decode b_law 1408 = .ok (.i2l, 1) := by decide +kernel
theorem d_law_1409 : decode b_law 1409 = .ok (.bipush 32, 2) := by decide +kernel
theorem d_law_1411 : decode b_law 1411 = .ok (.lshl, 1) := by decide +kernel
theorem d_law_1412 : decode b_law 1412 = .ok (.aload_n 0, 1) := by decide +kernel
theorem d_law_1413 : decode b_law 1413 = .ok (.iload 4, 2) := by decide +kernel
theorem d_law_1415 : decode b_law 1415 = .ok (.iconst 3, 1) := by decide +kernel
theorem d_law_1416 : decode b_law 1416 = .ok (.iadd, 1) := by decide +kernel
theorem d_law_1417 : decode b_law 1417 = .ok (.iaload, 1) := by decide +kernel
theorem d_law_1418 : decode b_law 1418 = .ok (.i2l, 1) := by decide +kernel
theorem d_law_1419 : decode b_law 1419 = .ok (.ldc2_w 86, 3) := by decide +kernel
theorem d_law_1422 : decode b_law 1422 = .ok (.land, 1) := by decide +kernel
theorem d_law_1423 : decode b_law 1423 = .ok (.lor, 1) := by decide +kernel
theorem d_law_1424 : decode b_law 1424 = .ok (.aload_n 0, 1) := by decide +kernel
theorem d_law_1425 : decode b_law 1425 = .ok (.iload 4, 2) := by decide +kernel
theorem d_law_1427 : decode b_law 1427 = .ok (.iconst 4, 1) := by decide +kernel
theorem d_law_1428 : decode b_law 1428 = .ok (.iadd, 1) := by decide +kernel
theorem d_law_1429 : decode b_law 1429 = .ok (.iaload, 1) := by decide +kernel
theorem d_law_1430 : decode b_law 1430 = .ok (.i2l, 1) := by decide +kernel
theorem d_law_1431 : decode b_law 1431 = .ok (.bipush 32, 2) := by decide +kernel
theorem d_law_1433 : decode b_law 1433 = .ok (.lshl, 1) := by decide +kernel
theorem d_law_1434 : decode b_law 1434 = .ok (.aload_n 0, 1) := by decide +kernel
theorem d_law_1435 : decode b_law 1435 = .ok (.iload 4, 2) := by decide +kernel
theorem d_law_1437 : decode b_law 1437 = .ok (.iconst 5, 1) := by decide +kernel
theorem d_law_1438 : decode b_law 1438 = .ok (.iadd, 1) := by decide +kernel
theorem d_law_1439 : decode b_law 1439 = .ok (.iaload, 1) := by decide +kernel
theorem d_law_1440 : decode b_law 1440 = .ok (.i2l, 1) := by decide +kernel
theorem d_law_1441 : decode b_law 1441 = .ok (.ldc2_w 86, 3) := by decide +kernel
theorem d_law_1444 : decode b_law 1444 = .ok (.land, 1) := by decide +kernel
theorem d_law_1445 : decode b_law 1445 = .ok (.lor, 1) := by decide +kernel
theorem d_law_1446 : decode b_law 1446 = .ok (.aload_n 0, 1) := by decide +kernel
theorem d_law_1447 : decode b_law 1447 = .ok (.iload 4, 2) := by decide +kernel
theorem d_law_1449 : decode b_law 1449 = .ok (.bipush 6, 2) := by decide +kernel
theorem d_law_1451 : decode b_law 1451 = .ok (.iadd, 1) := by decide +kernel
theorem d_law_1452 : decode b_law 1452 = .ok (.iaload, 1) := by decide +kernel
theorem d_law_1453 : decode b_law 1453 = .ok (.aload_n 0, 1) := by decide +kernel
theorem d_law_1454 : decode b_law 1454 = .ok (.iload 4, 2) := by decide +kernel
theorem d_law_1456 : decode b_law 1456 = .ok (.bipush 7, 2) := by decide +kernel
theorem d_law_1458 : decode b_law 1458 = .ok (.iadd, 1) := by decide +kernel
theorem d_law_1459 : decode b_law 1459 = .ok (.iaload, 1) := by decide +kernel
theorem d_law_1460 : decode b_law 1460 = .ok (.aload_n 3, 1) := by decide +kernel
theorem d_law_1461 : decode b_law 1461 = .ok (.invokestatic 116, 3) := by decide +kernel
theorem d_law_1539 : decode b_law 1539 = .ok (.aload_n 1, 1) := by decide +kernel
theorem d_law_1540 : decode b_law 1540 = .ok (.aload_n 0, 1) := by decide +kernel
theorem d_law_1541 : decode b_law 1541 = .ok (.iload 4, 2) := by decide +kernel
theorem d_law_1543 : decode b_law 1543 = .ok (.iconst 1, 1) := by decide +kernel
theorem d_law_1544 : decode b_law 1544 = .ok (.iadd, 1) := by decide +kernel
theorem d_law_1545 : decode b_law 1545 = .ok (.iaload, 1) := by decide +kernel
theorem d_law_1546 : decode b_law 1546 = .ok (.aload_n 0, 1) := by decide +kernel
theorem d_law_1547 : decode b_law 1547 = .ok (.iload 4, 2) := by decide +kernel
theorem d_law_1549 : decode b_law 1549 = .ok (.iconst 2, 1) := by decide +kernel
theorem d_law_1550 : decode b_law 1550 = .ok (.iadd, 1) := by decide +kernel
theorem d_law_1551 : decode b_law 1551 = .ok (.iaload, 1) := by decide +kernel
theorem d_law_1552 : decode b_law 1552 = .ok (.aload_n 3, 1) := by decide +kernel
theorem d_law_1553 : decode b_law 1553 = .ok (.invokestatic 119, 3) := by decide +kernel
theorem d_law_1579 : decode b_law 1579 = .ok (.aload_n 1, 1) := by decide +kernel
theorem d_law_1580 : decode b_law 1580 = .ok (.invokevirtual 122, 3) := by decide +kernel
theorem d_law_1592 : decode b_law 1592 = .ok (.aload_n 1, 1) := by decide +kernel
theorem d_law_1593 : decode b_law 1593 = .ok (.aload_n 0, 1) := by decide +kernel
theorem d_law_1594 : decode b_law 1594 = .ok (.iload 4, 2) := by decide +kernel
theorem d_law_1596 : decode b_law 1596 = .ok (.iconst 1, 1) := by decide +kernel
theorem d_law_1597 : decode b_law 1597 = .ok (.iadd, 1) := by decide +kernel
theorem d_law_1598 : decode b_law 1598 = .ok (.iaload, 1) := by decide +kernel
theorem d_law_1599 : decode b_law 1599 = .ok (.aload_n 0, 1) := by decide +kernel
theorem d_law_1600 : decode b_law 1600 = .ok (.iload 4, 2) := by decide +kernel
theorem d_law_1602 : decode b_law 1602 = .ok (.iconst 2, 1) := by decide +kernel
theorem d_law_1603 : decode b_law 1603 = .ok (.iadd, 1) := by decide +kernel
theorem d_law_1604 : decode b_law 1604 = .ok (.iaload, 1) := by decide +kernel
theorem d_law_1605 : decode b_law 1605 = .ok (.aload_n 3, 1) := by decide +kernel
theorem d_law_1606 : decode b_law 1606 = .ok (.invokestatic 126, 3) := by decide +kernel
theorem d_law_1632 : decode b_law 1632 = .ok (.aload_n 1, 1) := by decide +kernel
theorem d_law_1633 : decode b_law 1633 = .ok (.aload_n 0, 1) := by decide +kernel
theorem d_law_1634 : decode b_law 1634 = .ok (.iload 4, 2) := by decide +kernel
theorem d_law_1636 : decode b_law 1636 = .ok (.iconst 1, 1) := by decide +kernel
theorem d_law_1637 : decode b_law 1637 = .ok (.iadd, 1) := by decide +kernel
theorem d_law_1638 : decode b_law 1638 = .ok (.iaload, 1) := by decide +kernel
theorem d_law_1639 : decode b_law 1639 = .ok (.i2l, 1) := by decide +kernel
theorem d_law_1640 : decode b_law 1640 = .ok (.bipush 32, 2) := by decide +kernel
theorem d_law_1642 : decode b_law 1642 = .ok (.lshl, 1) := by decide +kernel
theorem d_law_1643 : decode b_law 1643 = .ok (.aload_n 0, 1) := by decide +kernel
theorem d_law_1644 : decode b_law 1644 = .ok (.iload 4, 2) := by decide +kernel
theorem d_law_1646 : decode b_law 1646 = .ok (.iconst 2, 1) := by decide +kernel
theorem d_law_1647 : decode b_law 1647 = .ok (.iadd, 1) := by decide +kernel
theorem d_law_1648 : decode b_law 1648 = .ok (.iaload, 1) := by decide +kernel
theorem d_law_1649 : decode b_law 1649 = .ok (.i2l, 1) := by decide +kernel
theorem d_law_1650 : decode b_law 1650 = .ok (.ldc2_w 86, 3) := by decide +kernel
theorem d_law_1653 : decode b_law 1653 = .ok (.land, 1) := by decide +kernel
theorem d_law_1654 : decode b_law 1654 = .ok (.lor, 1) := by decide +kernel
theorem d_law_1655 : decode b_law 1655 = .ok (.aload_n 0, 1) := by decide +kernel
theorem d_law_1656 : decode b_law 1656 = .ok (.iload 4, 2) := by decide +kernel
theorem d_law_1658 : decode b_law 1658 = .ok (.iconst 3, 1) := by decide +kernel
theorem d_law_1659 : decode b_law 1659 = .ok (.iadd, 1) := by decide +kernel
theorem d_law_1660 : decode b_law 1660 = .ok (.iaload, 1) := by decide +kernel
theorem d_law_1661 : decode b_law 1661 = .ok (.i2l, 1) := by decide +kernel
theorem d_law_1662 : decode b_law 1662 = .ok (.bipush 32, 2) := by decide +kernel
theorem d_law_1664 : decode b_law 1664 = .ok (.lshl, 1) := by decide +kernel
theorem d_law_1665 : decode b_law 1665 = .ok (.aload_n 0, 1) := by decide +kernel
theorem d_law_1666 : decode b_law 1666 = .ok (.iload 4, 2) := by decide +kernel
theorem d_law_1668 : decode b_law 1668 = .ok (.iconst 4, 1) := by decide +kernel
theorem d_law_1669 : decode b_law 1669 = .ok (.iadd, 1) := by decide +kernel
theorem d_law_1670 : decode b_law 1670 = .ok (.iaload, 1) := by decide +kernel
theorem d_law_1671 : decode b_law 1671 = .ok (.i2l, 1) := by decide +kernel
theorem d_law_1672 : decode b_law 1672 = .ok (.ldc2_w 86, 3) := by decide +kernel
theorem d_law_1675 : decode b_law 1675 = .ok (.land, 1) := by decide +kernel
theorem d_law_1676 : decode b_law 1676 = .ok (.lor, 1) := by decide +kernel
theorem d_law_1677 : decode b_law 1677 = .ok (.aload_n 0, 1) := by decide +kernel
theorem d_law_1678 : decode b_law 1678 = .ok (.iload 4, 2) := by decide +kernel
theorem d_law_1680 : decode b_law 1680 = .ok (.iconst 5, 1) := by decide +kernel
theorem d_law_1681 : decode b_law 1681 = .ok (.iadd, 1) := by decide +kernel
theorem d_law_1682 : decode b_law 1682 = .ok (.iaload, 1) := by decide +kernel
theorem d_law_1683 : decode b_law 1683 = .ok (.i2l, 1) := by decide +kernel
theorem d_law_1684 : decode b_law 1684 = .ok (.bipush 32, 2) := by decide +kernel
theorem d_law_1686 : decode b_law 1686 = .ok (.lshl, 1) := by decide +kernel
theorem d_law_1687 : decode b_law 1687 = .ok (.aload_n 0, 1) := by decide +kernel
theorem d_law_1688 : decode b_law 1688 = .ok (.iload 4, 2) := by decide +kernel
theorem d_law_1690 : decode b_law 1690 = .ok (.bipush 6, 2) := by decide +kernel
theorem d_law_1692 : decode b_law 1692 = .ok (.iadd, 1) := by decide +kernel
theorem d_law_1693 : decode b_law 1693 = .ok (.iaload, 1) := by decide +kernel
theorem d_law_1694 : decode b_law 1694 = .ok (.i2l, 1) := by decide +kernel
theorem d_law_1695 : decode b_law 1695 = .ok (.ldc2_w 86, 3) := by decide +kernel
theorem d_law_1698 : decode b_law 1698 = .ok (.land, 1) := by decide +kernel
theorem d_law_1699 : decode b_law 1699 = .ok (.lor, 1) := by decide +kernel
theorem d_law_1700 : decode b_law 1700 = .ok (.aload_n 0, 1) := by decide +kernel
theorem d_law_1701 : decode b_law 1701 = .ok (.iload 4, 2) := by decide +kernel
theorem d_law_1703 : decode b_law 1703 = .ok (.bipush 7, 2) := by decide +kernel
theorem d_law_1705 : decode b_law 1705 = .ok (.iadd, 1) := by decide +kernel
theorem d_law_1706 : decode b_law 1706 = .ok (.iaload, 1) := by decide +kernel
theorem d_law_1707 : decode b_law 1707 = .ok (.i2l, 1) := by decide +kernel
theorem d_law_1708 : decode b_law 1708 = .ok (.bipush 32, 2) := by decide +kernel
theorem d_law_1710 : decode b_law 1710 = .ok (.lshl, 1) := by decide +kernel
theorem d_law_1711 : decode b_law 1711 = .ok (.aload_n 0, 1) := by decide +kernel
theorem d_law_1712 : decode b_law 1712 = .ok (.iload 4, 2) := by decide +kernel
theorem d_law_1714 : decode b_law 1714 = .ok (.bipush 8, 2) := by decide +kernel
theorem d_law_1716 : decode b_law 1716 = .ok (.iadd, 1) := by decide +kernel
theorem d_law_1717 : decode b_law 1717 = .ok (.iaload, 1) := by decide +kernel
theorem d_law_1718 : decode b_law 1718 = .ok (.i2l, 1) := by decide +kernel
theorem d_law_1719 : decode b_law 1719 = .ok (.ldc2_w 86, 3) := by decide +kernel
theorem d_law_1722 : decode b_law 1722 = .ok (.land, 1) := by decide +kernel
theorem d_law_1723 : decode b_law 1723 = .ok (.lor, 1) := by decide +kernel
theorem d_law_1724 : decode b_law 1724 = .ok (.aload_n 0, 1) := by decide +kernel
theorem d_law_1725 : decode b_law 1725 = .ok (.iload 4, 2) := by decide +kernel
theorem d_law_1727 : decode b_law 1727 = .ok (.bipush 9, 2) := by decide +kernel
theorem d_law_1729 : decode b_law 1729 = .ok (.iadd, 1) := by decide +kernel
theorem d_law_1730 : decode b_law 1730 = .ok (.iaload, 1) := by decide +kernel
theorem d_law_1731 : decode b_law 1731 = .ok (.aload_n 0, 1) := by decide +kernel
theorem d_law_1732 : decode b_law 1732 = .ok (.iload 4, 2) := by decide +kernel
theorem d_law_1734 : decode b_law 1734 = .ok (.bipush 10, 2) := by decide +kernel
theorem d_law_1736 : decode b_law 1736 = .ok (.iadd, 1) := by decide +kernel
theorem d_law_1737 : decode b_law 1737 = .ok (.iaload, 1) := by decide +kernel
theorem d_law_1738 : decode b_law 1738 = .ok (.i2l, 1) := by decide +kernel
theorem d_law_1739 : decode b_law 1739 = .ok (.bipush 32, 2) := by decide +kernel
theorem d_law_1741 : decode b_law 1741 = .ok (.lshl, 1) := by decide +kernel
theorem d_law_1742 : decode b_law 1742 = .ok (.aload_n 0, 1) := by decide +kernel
theorem d_law_1743 : decode b_law 1743 = .ok (.iload 4, 2) := by decide +kernel
theorem d_law_1745 : decode b_law 1745 = .ok (.bipush 11, 2) := by decide +kernel
theorem d_law_1747 : decode b_law 1747 = .ok (.iadd, 1) := by decide +kernel
theorem d_law_1748 : decode b_law 1748 = .ok (.iaload, 1) := by decide +kernel
theorem d_law_1749 : decode b_law 1749 = .ok (.i2l, 1) := by decide +kernel
theorem d_law_1750 : decode b_law 1750 = .ok (.ldc2_w 86, 3) := by decide +kernel
theorem d_law_1753 : decode b_law 1753 = .ok (.land, 1) := by decide +kernel
theorem d_law_1754 : decode b_law 1754 = .ok (.lor, 1) := by decide +kernel
theorem d_law_1755 : decode b_law 1755 = .ok (.aload_n 3, 1) := by decide +kernel
theorem d_law_1756 : decode b_law 1756 = .ok (.invokestatic 129, 3) := by decide +kernel
theorem d_law_1759 : decode b_law 1759 = .ok (.istore 5, 2) := by decide +kernel
theorem d_law_1761 : decode b_law 1761 = .ok (.aload_n 2, 1) := by decide +kernel
theorem d_law_1762 : decode b_law 1762 = .ok (.aload_n 0, 1) := by decide +kernel
theorem d_law_1763 : decode b_law 1763 = .ok (.iload 4, 2) := by decide +kernel
theorem d_law_1765 : decode b_law 1765 = .ok (.iconst 1, 1) := by decide +kernel
theorem d_law_1766 : decode b_law 1766 = .ok (.iadd, 1) := by decide +kernel
theorem d_law_1767 : decode b_law 1767 = .ok (.iaload, 1) := by decide +kernel
theorem d_law_1768 : decode b_law 1768 = .ok (.i2l, 1) := by decide +kernel
theorem d_law_1769 : decode b_law 1769 = .ok (.bipush 32, 2) := by decide +kernel
theorem d_law_1771 : decode b_law 1771 = .ok (.lshl, 1) := by decide +kernel
theorem d_law_1772 : decode b_law 1772 = .ok (.aload_n 0, 1) := by decide +kernel
theorem d_law_1773 : decode b_law 1773 = .ok (.iload 4, 2) := by decide +kernel
theorem d_law_1775 : decode b_law 1775 = .ok (.iconst 2, 1) := by decide +kernel
theorem d_law_1776 : decode b_law 1776 = .ok (.iadd, 1) := by decide +kernel
theorem d_law_1777 : decode b_law 1777 = .ok (.iaload, 1) := by decide +kernel
theorem d_law_1778 : decode b_law 1778 = .ok (.i2l, 1) := by decide +kernel
theorem d_law_1779 : decode b_law 1779 = .ok (.ldc2_w 86, 3) := by decide +kernel
theorem d_law_1782 : decode b_law 1782 = .ok (.land, 1) := by decide +kernel
theorem d_law_1783 : decode b_law 1783 = .ok (.lor, 1) := by decide +kernel
theorem d_law_1784 : decode b_law 1784 = .ok (.aload_n 0, 1) := by decide +kernel
theorem d_law_1785 : decode b_law 1785 = .ok (.iload 4, 2) := by decide +kernel
theorem d_law_1787 : decode b_law 1787 = .ok (.iconst 3, 1) := by decide +kernel
theorem d_law_1788 : decode b_law 1788 = .ok (.iadd, 1) := by decide +kernel
theorem d_law_1789 : decode b_law 1789 = .ok (.iaload, 1) := by decide +kernel
theorem d_law_1790 : decode b_law 1790 = .ok (.i2l, 1) := by decide +kernel
theorem d_law_1791 : decode b_law 1791 = .ok (.bipush 32, 2) := by decide +kernel
theorem d_law_1793 : decode b_law 1793 = .ok (.lshl, 1) := by decide +kernel
theorem d_law_1794 : decode b_law 1794 = .ok (.aload_n 0, 1) := by decide +kernel
theorem d_law_1795 : decode b_law 1795 = .ok (.iload 4, 2) := by decide +kernel
theorem d_law_1797 : decode b_law 1797 = .ok (.iconst 4, 1) := by decide +kernel
theorem d_law_1798 : decode b_law 1798 = .ok (.iadd, 1) := by decide +kernel
theorem d_law_1799 : decode b_law 1799 = .ok (.iaload, 1) := by decide +kernel
theorem d_law_1800 : decode b_law 1800 = .ok (.i2l, 1) := by decide +kernel
theorem d_law_1801 : decode b_law 1801 = .ok (.ldc2_w 86, 3) := by decide +kernel
theorem d_law_1804 : decode b_law 1804 = .ok (.land, 1) := by decide +kernel
theorem d_law_1805 : decode b_law 1805 = .ok (.lor, 1) := by decide +kernel
theorem d_law_1806 : decode b_law 1806 = .ok (.aload_n 0, 1) := by decide +kernel
theorem d_law_1807 : decode b_law 1807 = .ok (.iload 4, 2) := by decide +kernel
theorem d_law_1809 : decode b_law 1809 = .ok (.iconst 5, 1) := by decide +kernel
theorem d_law_1810 : decode b_law 1810 = .ok (.iadd, 1) := by decide +kernel
theorem d_law_1811 : decode b_law 1811 = .ok (.iaload, 1) := by decide +kernel
theorem d_law_1812 : decode b_law 1812 = .ok (.i2l, 1) := by decide +kernel
theorem d_law_1813 : decode b_law 1813 = .ok (.bipush 32, 2) := by decide +kernel
theorem d_law_1815 : decode b_law 1815 = .ok (.lshl, 1) := by decide +kernel
theorem d_law_1816 : decode b_law 1816 = .ok (.aload_n 0, 1) := by decide +kernel
theorem d_law_1817 : decode b_law 1817 = .ok (.iload 4, 2) := by decide +kernel
theorem d_law_1819 : decode b_law 1819 = .ok (.bipush 6, 2) := by decide +kernel
theorem d_law_1821 : decode b_law 1821 = .ok (.iadd, 1) := by decide +kernel
theorem d_law_1822 : decode b_law 1822 = .ok (.iaload, 1) := by decide +kernel
theorem d_law_1823 : decode b_law 1823 = .ok (.i2l, 1) := by decide +kernel
theorem d_law_1824 : decode b_law 1824 = .ok (.ldc2_w 86, 3) := by decide +kernel
theorem d_law_1827 : decode b_law 1827 = .ok (.land, 1) := by decide +kernel
theorem d_law_1828 : decode b_law 1828 = .ok (.lor, 1) := by decide +kernel
theorem d_law_1829 : decode b_law 1829 = .ok (.aload_n 0, 1) := by decide +kernel
theorem d_law_1830 : decode b_law 1830 = .ok (.iload 4, 2) := by decide +kernel
theorem d_law_1832 : decode b_law 1832 = .ok (.bipush 7, 2) := by decide +kernel
theorem d_law_1834 : decode b_law 1834 = .ok (.iadd, 1) := by decide +kernel
theorem d_law_1835 : decode b_law 1835 = .ok (.iaload, 1) := by decide +kernel
theorem d_law_1836 : decode b_law 1836 = .ok (.i2l, 1) := by decide +kernel
theorem d_law_1837 : decode b_law 1837 = .ok (.bipush 32, 2) := by decide +kernel
theorem d_law_1839 : decode b_law 1839 = .ok (.lshl, 1) := by decide +kernel
theorem d_law_1840 : decode b_law 1840 = .ok (.aload_n 0, 1) := by decide +kernel
theorem d_law_1841 : decode b_law 1841 = .ok (.iload 4, 2) := by decide +kernel
theorem d_law_1843 : decode b_law 1843 = .ok (.bipush 8, 2) := by decide +kernel
theorem d_law_1845 : decode b_law 1845 = .ok (.iadd, 1) := by decide +kernel
theorem d_law_1846 : decode b_law 1846 = .ok (.iaload, 1) := by decide +kernel
theorem d_law_1847 : decode b_law 1847 = .ok (.i2l, 1) := by decide +kernel
theorem d_law_1848 : decode b_law 1848 = .ok (.ldc2_w 86, 3) := by decide +kernel
theorem d_law_1851 : decode b_law 1851 = .ok (.land, 1) := by decide +kernel
theorem d_law_1852 : decode b_law 1852 = .ok (.lor, 1) := by decide +kernel
theorem d_law_1853 : decode b_law 1853 = .ok (.aload_n 0, 1) := by decide +kernel
theorem d_law_1854 : decode b_law 1854 = .ok (.iload 4, 2) := by decide +kernel
theorem d_law_1856 : decode b_law 1856 = .ok (.bipush 9, 2) := by decide +kernel
theorem d_law_1858 : decode b_law 1858 = .ok (.iadd, 1) := by decide +kernel
theorem d_law_1859 : decode b_law 1859 = .ok (.iaload, 1) := by decide +kernel
theorem d_law_1860 : decode b_law 1860 = .ok (.aload_n 0, 1) := by decide +kernel
theorem d_law_1861 : decode b_law 1861 = .ok (.iload 4, 2) := by decide +kernel
theorem d_law_1863 : decode b_law 1863 = .ok (.bipush 10, 2) := by decide +kernel
theorem d_law_1865 : decode b_law 1865 = .ok (.iadd, 1) := by decide +kernel
theorem d_law_1866 : decode b_law 1866 = .ok (.iaload, 1) := by decide +kernel
theorem d_law_1867 : decode b_law 1867 = .ok (.i2l, 1) := by decide +kernel
theorem d_law_1868 : decode b_law 1868 = .ok (.bipush 32, 2) := by decide +kernel
theorem d_law_1870 : decode b_law 1870 = .ok (.lshl, 1) := by decide +kernel
theorem d_law_1871 : decode b_law 1871 = .ok (.aload_n 0, 1) := by decide +kernel
theorem d_law_1872 : decode b_law 1872 = .ok (.iload 4, 2) := by decide +kernel
theorem d_law_1874 : decode b_law 1874 = .ok (.bipush 11, 2) := by decide +kernel
theorem d_law_1876 : decode b_law 1876 = .ok (.iadd, 1) := by decide +kernel
theorem d_law_1877 : decode b_law 1877 = .ok (.iaload, 1) := by decide +kernel
theorem d_law_1878 : decode b_law 1878 = .ok (.i2l, 1) := by decide +kernel
theorem d_law_1879 : decode b_law 1879 = .ok (.ldc2_w 86, 3) := by decide +kernel
theorem d_law_1882 : decode b_law 1882 = .ok (.land, 1) := by decide +kernel
theorem d_law_1883 : decode b_law 1883 = .ok (.lor, 1) := by decide +kernel
theorem d_law_1884 : decode b_law 1884 = .ok (.invokevirtual 132, 3) := by decide +kernel
theorem d_law_1887 : decode b_law 1887 = .ok (.istore 6, 2) := by decide +kernel
theorem d_law_1889 : decode b_law 1889 = .ok (.goto 180, 3) := by decide +kernel
theorem d_law_1892 : decode b_law 1892 = .ok (.aload_n 1, 1) := by decide +kernel
theorem d_law_1893 : decode b_law 1893 = .ok (.aload_n 0, 1) := by decide +kernel
theorem d_law_1894 : decode b_law 1894 = .ok (.iload 4, 2) := by decide +kernel
theorem d_law_1896 : decode b_law 1896 = .ok (.iconst 1, 1) := by decide +kernel
theorem d_law_1897 : decode b_law 1897 = .ok (.iadd, 1) := by decide +kernel
theorem d_law_1898 : decode b_law 1898 = .ok (.iaload, 1) := by decide +kernel
theorem d_law_1899 : decode b_law 1899 = .ok (.invokevirtual 133, 3) := by decide +kernel
theorem d_law_1902 : decode b_law 1902 = .ok (.aload_n 2, 1) := by decide +kernel
theorem d_law_1903 : decode b_law 1903 = .ok (.aload_n 0, 1) := by decide +kernel
theorem d_law_1904 : decode b_law 1904 = .ok (.iload 4, 2) := by decide +kernel
theorem d_law_1906 : decode b_law 1906 = .ok (.iconst 1, 1) := by decide +kernel
theorem d_law_1907 : decode b_law 1907 = .ok (.iadd, 1) := by decide +kernel
theorem d_law_1908 : decode b_law 1908 = .ok (.iaload, 1) := by decide +kernel
theorem d_law_1909 : decode b_law 1909 = .ok (.invokevirtual 137, 3) := by decide +kernel
theorem d_law_1912 : decode b_law 1912 = .ok (.if_icmp .eq 157, 3) := by decide +kernel
theorem d_law_1915 : decode b_law 1915 = .ok (.iconst 0, 1) := by decide +kernel
theorem d_law_1916 : decode b_law 1916 = .ok (.ireturn, 1) := by decide +kernel
theorem d_law_1917 : decode b_law 1917 = .ok (.aload_n 1, 1) := by decide +kernel
theorem d_law_1918 : decode b_law 1918 = .ok (.aload_n 0, 1) := by decide +kernel
theorem d_law_1919 : decode b_law 1919 = .ok (.iload 4, 2) := by decide +kernel
theorem d_law_1921 : decode b_law 1921 = .ok (.iconst 1, 1) := by decide +kernel
theorem d_law_1922 : decode b_law 1922 = .ok (.iadd, 1) := by decide +kernel
theorem d_law_1923 : decode b_law 1923 = .ok (.iaload, 1) := by decide +kernel
theorem d_law_1924 : decode b_law 1924 = .ok (.aload_n 0, 1) := by decide +kernel
theorem d_law_1925 : decode b_law 1925 = .ok (.iload 4, 2) := by decide +kernel
theorem d_law_1927 : decode b_law 1927 = .ok (.iconst 2, 1) := by decide +kernel
theorem d_law_1928 : decode b_law 1928 = .ok (.iadd, 1) := by decide +kernel
theorem d_law_1929 : decode b_law 1929 = .ok (.iaload, 1) := by decide +kernel
theorem d_law_1930 : decode b_law 1930 = .ok (.aload_n 3, 1) := by decide +kernel
theorem d_law_1931 : decode b_law 1931 = .ok (.invokestatic 138, 3) := by decide +kernel
theorem d_law_1957 : decode b_law 1957 = .ok (.aload_n 1, 1) := by decide +kernel
theorem d_law_1958 : decode b_law 1958 = .ok (.aload_n 0, 1) := by decide +kernel
theorem d_law_1959 : decode b_law 1959 = .ok (.iload 4, 2) := by decide +kernel
theorem d_law_1961 : decode b_law 1961 = .ok (.iconst 1, 1) := by decide +kernel
theorem d_law_1962 : decode b_law 1962 = .ok (.iadd, 1) := by decide +kernel
theorem d_law_1963 : decode b_law 1963 = .ok (.iaload, 1) := by decide +kernel
theorem d_law_1964 : decode b_law 1964 = .ok (.i2l, 1) := by decide +kernel
theorem d_law_1965 : decode b_law 1965 = .ok (.bipush 32, 2) := by decide +kernel
theorem d_law_1967 : decode b_law 1967 = .ok (.lshl, 1) := by decide +kernel
theorem d_law_1968 : decode b_law 1968 = .ok (.aload_n 0, 1) := by decide +kernel
theorem d_law_1969 : decode b_law 1969 = .ok (.iload 4, 2) := by decide +kernel
theorem d_law_1971 : decode b_law 1971 = .ok (.iconst 2, 1) := by decide +kernel
theorem d_law_1972 : decode b_law 1972 = .ok (.iadd, 1) := by decide +kernel
theorem d_law_1973 : decode b_law 1973 = .ok (.iaload, 1) := by decide +kernel
theorem d_law_1974 : decode b_law 1974 = .ok (.i2l, 1) := by decide +kernel
theorem d_law_1975 : decode b_law 1975 = .ok (.ldc2_w 86, 3) := by decide +kernel
theorem d_law_1978 : decode b_law 1978 = .ok (.land, 1) := by decide +kernel
theorem d_law_1979 : decode b_law 1979 = .ok (.lor, 1) := by decide +kernel
theorem d_law_1980 : decode b_law 1980 = .ok (.aload_n 0, 1) := by decide +kernel
theorem d_law_1981 : decode b_law 1981 = .ok (.iload 4, 2) := by decide +kernel
theorem d_law_1983 : decode b_law 1983 = .ok (.iconst 3, 1) := by decide +kernel
theorem d_law_1984 : decode b_law 1984 = .ok (.iadd, 1) := by decide +kernel
theorem d_law_1985 : decode b_law 1985 = .ok (.iaload, 1) := by decide +kernel
theorem d_law_1986 : decode b_law 1986 = .ok (.aload_n 0, 1) := by decide +kernel
theorem d_law_1987 : decode b_law 1987 = .ok (.iload 4, 2) := by decide +kernel
theorem d_law_1989 : decode b_law 1989 = .ok (.iconst 4, 1) := by decide +kernel
theorem d_law_1990 : decode b_law 1990 = .ok (.iadd, 1) := by decide +kernel
theorem d_law_1991 : decode b_law 1991 = .ok (.iaload, 1) := by decide +kernel
theorem d_law_1992 : decode b_law 1992 = .ok (.aload_n 3, 1) := by decide +kernel
theorem d_law_1993 : decode b_law 1993 = .ok (.invokestatic 141, 3) := by decide +kernel
theorem d_law_2041 : decode b_law 2041 = .ok (.aload_n 1, 1) := by decide +kernel
theorem d_law_2042 : decode b_law 2042 = .ok (.aload_n 0, 1) := by decide +kernel
theorem d_law_2043 : decode b_law 2043 = .ok (.iload 4, 2) := by decide +kernel
theorem d_law_2045 : decode b_law 2045 = .ok (.iconst 1, 1) := by decide +kernel
theorem d_law_2046 : decode b_law 2046 = .ok (.iadd, 1) := by decide +kernel
theorem d_law_2047 : decode b_law 2047 = .ok (.iaload, 1) := by decide +kernel
theorem d_law_2048 : decode b_law 2048 = .ok (.aload_n 3, 1) := by decide +kernel
theorem d_law_2049 : decode b_law 2049 = .ok (.invokestatic 145, 3) := by decide +kernel
theorem d_law_2069 : decode b_law 2069 = .ok (.iinc 4 14, 3) := by decide +kernel
theorem d_law_2072 : decode b_law 2072 = .ok (.goto (-2037), 3) := by decide +kernel
theorem d_law_2075 : decode b_law 2075 = .ok (.iconst 1, 1) := by decide +kernel
theorem d_law_2076 : decode b_law 2076 = .ok (.ireturn, 1) := by decide +kernel
abbrev rm_law : Room := room_1
set_option maxHeartbeats 4000000 in
set_option maxRecDepth 100000 in
theorem m_law {p : Program} {l : Launch} {e : Env} {s : State} {m : MethodId} {below : List Frame} {meth : Method} {c : Code} {ls : Array Slot} {args : Array Value} {A : Nat → Prop} {Q : State → Prop} (hst : l.stackTraces = false) (D : gD) (g0 : gG) (a0 : Nat) (w : gW) (r : (String ⊕ Int32) × gW) (h : f_law g0 a0 w = some r) (hx : p.tables.exec = Jvm.exec) (hb : c.code = b_law) (hml : c.maxLocals = 8) (hown : s.vm.findClass "BodySolidsLaw" = some m.cls) (hT : gT s) (hK : gK D s) (hZ : gZ A s s.heap g0) (hA : ∀ q : Nat, s.heap.size ≤ q → A q) (hret : ∀ {v : Int32}, (v = 0 ∨ v = 1) → ∀ (v9 : Int32) (w1 : gW), r = (.inr v, w1) → ∀ (pc : Nat) (ls : Array Slot) (H : Heap) (locs : List Loc), decode b_law pc = .ok (.ireturn, 1) → gI D s A w1 H locs → W p l e rm_law s m args below meth c H locs 601024 7293000 Q (F0 m pc ls [.int v])) (hexc : gEx p l e rm_law s m args below meth c Q D A r) (hI : gI D s A w s.heap []) (hl : lv_has ls 8 [(0, .ref a0)]) : W p l e rm_law s m args below meth c s.heap [] 0 0 Q (F0 m 0 ls []) := by
  obtain ⟨H, hH⟩ : ∃ H, H = s.heap := ⟨_, rfl⟩
  rw [← hH] at hI ⊢
  obtain ⟨locs, hlocs⟩ : ∃ z : List Loc, z = [] := ⟨_, rfl⟩
  rw [← hlocs] at hI ⊢
  have hl : lv_has ls 8 [(0, .ref a0)] := hl
  unfold f_law at h
  obtain ⟨o1, w, e2, h⟩ := gb2 h
  refine gw_new hx hb hT hown hK hI hA (ci := 0) rfl i_0 t_0 t_0_ok wd_72 wd_73 wd_49 (fs := [.long 0, .null, .null, .null, .null, .null, .int 0, .null, .null, .null]) df_0 e2 (show 0 + 1 ≤ 601024 by omega) (show 0 + 10 ≤ 7293000 by omega) d_law_0 (fun H hI => ?_)
  refine W.widen (k := 1) (n := 10) (show 0 + 1 ≤ 1 by omega) (show 0 + 10 ≤ 10 by omega) ?_
  refine lv_dup hx hb d_law_3 rfl ?_
  refine lv_aload_n hx hb d_law_4 rfl (lv_at hl 0 rfl) ?_
  refine lv_iconst (v := 0) hx hb d_law_5 (by decide) ?_
  obtain ⟨u3, e4⟩ := gsome h
  refine gw_callI e4 h (gw_runS (As := [.ref a0, .int 0]) (rest := [.ref o1, .ref o1]) hx hb hml hown hT hK hZ hA hI (m_W_cell l hst D g0 a0 0 w u3 e4) ce_W_cell wd_424 ⟨by decide, by decide⟩ rfl rfl hl.1 rfl (lv_room (Nat.le_of_ble_eq_true rfl)) d_law_6 ⟨(show 1 + 0 ≤ 601024 by omega), (show 10 + 0 ≤ 7293000 by omega)⟩) hI hA hexc (show 1 + 0 ≤ 601024 by omega) (show 10 + 0 ≤ 7293000 by omega) (fun v5 w H locs h hI => ?_)
  refine lv_i2l (v := v5.toInt64) hx hb d_law_9 rfl ?_
  obtain ⟨u6, e7⟩ := gsome h
  refine gw_callV e7 h (gw_runI (As := [.long (v5.toInt64)]) (rest := [.ref o1]) hx hb hml hown hT hK hZ hA hI (m_B_init l hst D g0 o1 (v5.toInt64) w u6 e7) ce_B_init wd_74 rfl ⟨by decide, by decide⟩ rfl rfl hl.1 rfl (lv_room (Nat.le_of_ble_eq_true rfl)) d_law_10 ⟨(show 1 + 88 ≤ 601024 by omega), (show 10 + 1681 ≤ 7293000 by omega)⟩) hI hA hexc (show 1 + 88 ≤ 601024 by omega) (show 10 + 1681 ≤ 7293000 by omega) (fun v8 w H locs h hI => ?_)
  refine W.widen (k := 89) (n := 1691) (show 1 + 88 ≤ 89 by omega) (show 10 + 1681 ≤ 1691 by omega) ?_
  refine lv_astore_n (lv' := [(1, .ref o1), (0, .ref a0)]) hx hb d_law_13 rfl hl (by decide) rfl (fun ls hl => ?_)
  obtain ⟨o9, w, e10, h⟩ := gb2 h
  refine gw_new hx hb hT hown hK hI hA (ci := 7) rfl i_7 t_7 t_7_ok wd_779 wd_780 wd_57 (fs := [.int 0, .long 0, .int 0, .null, .null, .null, .null, .null, .null, .int 0, .null, .null, .int 0, .null, .null, .null, .null, .null, .int 0, .null, .null, .null, .null, .null, .null, .null, .null]) df_7 e10 (show 89 + 1 ≤ 601024 by omega) (show 1691 + 27 ≤ 7293000 by omega) d_law_14 (fun H hI => ?_)
  refine W.widen (k := 90) (n := 1718) (show 89 + 1 ≤ 90 by omega) (show 1691 + 27 ≤ 1718 by omega) ?_
  refine lv_dup hx hb d_law_17 rfl ?_
  refine lv_aload_n hx hb d_law_18 rfl (lv_at hl 1 rfl) ?_
  refine lv_iconst (v := 0) hx hb d_law_19 (by decide) ?_
  obtain ⟨u11, e12⟩ := gsome h
  refine gw_callI e12 h (gw_runS (As := [.ref a0, .int 0]) (rest := [.ref o9, .ref o9]) hx hb hml hown hT hK hZ hA hI (m_W_cell l hst D g0 a0 0 w u11 e12) ce_W_cell wd_424 ⟨by decide, by decide⟩ rfl rfl hl.1 rfl (lv_room (Nat.le_of_ble_eq_true rfl)) d_law_20 ⟨(show 90 + 0 ≤ 601024 by omega), (show 1718 + 0 ≤ 7293000 by omega)⟩) hI hA hexc (show 90 + 0 ≤ 601024 by omega) (show 1718 + 0 ≤ 7293000 by omega) (fun v13 w H locs h hI => ?_)
  refine lv_i2l (v := v13.toInt64) hx hb d_law_23 rfl ?_
  obtain ⟨u14, e15⟩ := gsome h
  refine gw_callV e15 h (gw_runI (As := [.long (v13.toInt64)]) (rest := [.ref o9]) hx hb hml hown hT hK hZ hA hI (m_M_init l hst D g0 o9 (v13.toInt64) w u14 e15) ce_M_init wd_781 rfl ⟨by decide, by decide⟩ rfl rfl hl.1 rfl (lv_room (Nat.le_of_ble_eq_true rfl)) d_law_24 ⟨(show 90 + 21 ≤ 601024 by omega), (show 1718 + 8938 ≤ 7293000 by omega)⟩) hI hA hexc (show 90 + 21 ≤ 601024 by omega) (show 1718 + 8938 ≤ 7293000 by omega) (fun v16 w H locs h hI => ?_)
  refine W.widen (k := 111) (n := 10656) (show 90 + 21 ≤ 111 by omega) (show 1718 + 8938 ≤ 10656 by omega) ?_
  refine lv_astore_n (lv' := [(2, .ref o9), (1, .ref o1), (0, .ref a0)]) hx hb d_law_27 rfl hl (by decide) rfl (fun ls hl => ?_)
  refine lv_iconst (v := 1) hx hb d_law_28 (by decide) ?_
  obtain ⟨o17, w, e18, h⟩ := gb2 h
  refine gw_newa (atype := .long) (ty := .long) (M := 1) hx hb hK hI hA (hT _ wd_178 args) rfl (k := 1) rfl (fun h9 => h9) e18 (show 111 + 1 ≤ 601024 by omega) (show 10656 + 1 ≤ 7293000 by omega) (show 1 * 8 ≤ 536870912 by omega) d_law_29 (fun H hI => ?_)
  refine W.widen (k := 112) (n := 10657) (show 111 + 1 ≤ 112 by omega) (show 10656 + 1 ≤ 10657 by omega) ?_
  refine lv_astore_n (lv' := [(3, .ref o17), (2, .ref o9), (1, .ref o1), (0, .ref a0)]) hx hb d_law_31 rfl hl (by decide) rfl (fun ls hl => ?_)
  refine lv_iconst (v := 1) hx hb d_law_32 (by decide) ?_
  refine lv_istore (lv' := [(4, .int 1), (3, .ref o17), (2, .ref o9), (1, .ref o1), (0, .ref a0)]) hx hb d_law_33 hl (by decide) rfl (fun ls hl => ?_)
  obtain ⟨K2075, eK2075, h⟩ := gj h
  have hK2075 : ∀ (w : gW) (H : Heap) (locs : List Loc) (ls : Array Slot), K2075 w = some r → gI D s A w H locs → lv_has ls 8 [] → W p l e rm_law s m args below meth c H locs 16015 905842 Q (F0 m 2075 ls []) := by
    intro w H locs ls h hI hl
    have h := gk1 eK2075 h
    refine lv_iconst (v := 1) hx hb d_law_2075 (by decide) ?_
    obtain ⟨g19, h⟩ := gif h
    exact W.widen (show 16015 ≤ 601024 by omega) (show 905842 ≤ 7293000 by omega) (hret g19 0 _ (Option.some.inj h).symm _ _ _ _ d_law_2076 hI)
  obtain ⟨K457, eK457, h⟩ := gj h
  have hK457 : ∀ (x20 : Int32) (w : gW) (H : Heap) (locs : List Loc) (ls : Array Slot), K457 x20 w = some r → gI D s A w H locs → lv_has ls 8 [(0, .ref a0), (1, .ref o1), (3, .ref o17), (4, .int x20)] → W p l e rm_law s m args below meth c H locs 16015 905842 Q (F0 m 457 ls []) := by
    intro x20 w H locs ls h hI hl
    have h := gk2 eK457 h
    exact absurd h (by simp)
  obtain ⟨K937, eK937, h⟩ := gj h
  have hK937 : ∀ (x21 : Int32) (w : gW) (H : Heap) (locs : List Loc) (ls : Array Slot), K937 x21 w = some r → gI D s A w H locs → lv_has ls 8 [(0, .ref a0), (1, .ref o1), (3, .ref o17), (4, .int x21)] → W p l e rm_law s m args below meth c H locs 16015 905842 Q (F0 m 937 ls []) := by
    intro x21 w H locs ls h hI hl
    have h := gk2 eK937 h
    exact absurd h (by simp)
  obtain ⟨K1395, eK1395, h⟩ := gj h
  have hK1395 : ∀ (x22 : Int32) (w : gW) (H : Heap) (locs : List Loc) (ls : Array Slot), K1395 x22 w = some r → gI D s A w H locs → lv_has ls 8 [(0, .ref a0), (1, .ref o1), (3, .ref o17), (4, .int x22)] → W p l e rm_law s m args below meth c H locs 16015 905842 Q (F0 m 1395 ls []) := by
    intro x22 w H locs ls h hI hl
    have h := gk2 eK1395 h
    exact absurd h (by simp)
  obtain ⟨K1539, eK1539, h⟩ := gj h
  have hK1539 : ∀ (x23 : Int32) (w : gW) (H : Heap) (locs : List Loc) (ls : Array Slot), K1539 x23 w = some r → gI D s A w H locs → lv_has ls 8 [(0, .ref a0), (1, .ref o1), (3, .ref o17), (4, .int x23)] → W p l e rm_law s m args below meth c H locs 16015 905842 Q (F0 m 1539 ls []) := by
    intro x23 w H locs ls h hI hl
    have h := gk2 eK1539 h
    exact absurd h (by simp)
  obtain ⟨K1579, eK1579, h⟩ := gj h
  have hK1579 : ∀ (w : gW) (H : Heap) (locs : List Loc) (ls : Array Slot), K1579 w = some r → gI D s A w H locs → lv_has ls 8 [(1, .ref o1)] → W p l e rm_law s m args below meth c H locs 16015 905842 Q (F0 m 1579 ls []) := by
    intro w H locs ls h hI hl
    have h := gk1 eK1579 h
    exact absurd h (by simp)
  obtain ⟨K1592, eK1592, h⟩ := gj h
  have hK1592 : ∀ (x24 : Int32) (w : gW) (H : Heap) (locs : List Loc) (ls : Array Slot), K1592 x24 w = some r → gI D s A w H locs → lv_has ls 8 [(0, .ref a0), (1, .ref o1), (3, .ref o17), (4, .int x24)] → W p l e rm_law s m args below meth c H locs 16015 905842 Q (F0 m 1592 ls []) := by
    intro x24 w H locs ls h hI hl
    have h := gk2 eK1592 h
    exact absurd h (by simp)
  obtain ⟨K1915, eK1915, h⟩ := gj h
  have hK1915 : ∀ (w : gW) (H : Heap) (locs : List Loc) (ls : Array Slot), K1915 w = some r → gI D s A w H locs → lv_has ls 8 [] → W p l e rm_law s m args below meth c H locs 16015 905842 Q (F0 m 1915 ls []) := by
    intro w H locs ls h hI hl
    have h := gk1 eK1915 h
    refine lv_iconst (v := 0) hx hb d_law_1915 (by decide) ?_
    obtain ⟨g25, h⟩ := gif h
    exact W.widen (show 16015 ≤ 601024 by omega) (show 905842 ≤ 7293000 by omega) (hret g25 0 _ (Option.some.inj h).symm _ _ _ _ d_law_1916 hI)
  obtain ⟨K1917, eK1917, h⟩ := gj h
  have hK1917 : ∀ (x26 : Int32) (w : gW) (H : Heap) (locs : List Loc) (ls : Array Slot), K1917 x26 w = some r → gI D s A w H locs → lv_has ls 8 [(0, .ref a0), (1, .ref o1), (3, .ref o17), (4, .int x26)] → W p l e rm_law s m args below meth c H locs 16015 905842 Q (F0 m 1917 ls []) := by
    intro x26 w H locs ls h hI hl
    have h := gk2 eK1917 h
    exact absurd h (by simp)
  obtain ⟨K1957, eK1957, h⟩ := gj h
  have hK1957 : ∀ (x27 : Int32) (w : gW) (H : Heap) (locs : List Loc) (ls : Array Slot), K1957 x27 w = some r → gI D s A w H locs → lv_has ls 8 [(0, .ref a0), (1, .ref o1), (3, .ref o17), (4, .int x27)] → W p l e rm_law s m args below meth c H locs 16015 905842 Q (F0 m 1957 ls []) := by
    intro x27 w H locs ls h hI hl
    have h := gk2 eK1957 h
    exact absurd h (by simp)
  obtain ⟨K2041, eK2041, h⟩ := gj h
  have hK2041 : ∀ (x28 : Int32) (w : gW) (H : Heap) (locs : List Loc) (ls : Array Slot), K2041 x28 w = some r → gI D s A w H locs → lv_has ls 8 [(0, .ref a0), (1, .ref o1), (3, .ref o17), (4, .int x28)] → W p l e rm_law s m args below meth c H locs 16015 905842 Q (F0 m 2041 ls []) := by
    intro x28 w H locs ls h hI hl
    have h := gk2 eK2041 h
    exact absurd h (by simp)
  have hL35 : ∀ (n : Nat), n ≤ 513 → ∀ (z29 : Int32) (w : gW) (H : Heap) (locs : List Loc) (ls : Array Slot), f_law_L35 g0 a0 o1 o9 o17 K2075 K457 K937 K1395 K1539 K1579 K1592 K1917 K1957 K2041 K1915 n z29 w = some r → gI D s A w H locs → lv_has ls 8 [(0, .ref a0), (1, .ref o1), (2, .ref o9), (3, .ref o17), (4, .int z29)] → W p l e rm_law s m args below meth c H locs (16015 - n * 31) (905842 - n * 1745) Q (F0 m 35 ls []) := by
    intro n
    induction n with
    | zero => intro hn z29 w H locs ls h hI hl; exact absurd h (by simp [f_law_L35])
    | succ n ih =>
      intro hn z29 w H locs ls h hI hl
      rw [f_law_L35] at h
      refine lv_iload hx hb d_law_35 (lv_at hl 4 rfl) ?_
      refine lv_aload_n hx hb d_law_37 rfl (lv_at hl 0 rfl) ?_
      obtain ⟨v30, e31, h⟩ := gb h
      refine gw_alen hx hb hK hI e31 d_law_38 ?_
      refine lv_bipush (v := 14) hx hb d_law_39 (by decide) ?_
      refine lv_isub hx hb d_law_41 ?_
      refine lv_icmp_gt (tgt := 2075) hx hb d_law_42 (by decide) (fun c32 => ?_) (fun c32 => ?_)
      · skip
        have h := git c32 h
        refine W.widen (k := 16015) (n := 905842) (show (16015 - (n + 1) * 31) ≤ 16015 by omega) (show (905842 - (n + 1) * 1745) ≤ 905842 by omega) ?_
        exact hK2075 w H locs ls h hI (lv_sub hl [] rfl)
      · skip
        have h := gie c32 h
        refine lv_aload_n hx hb d_law_45 rfl (lv_at hl 0 rfl) ?_
        refine lv_iload hx hb d_law_46 (lv_at hl 4 rfl) ?_
        obtain ⟨v33, e34, h⟩ := gb h
        refine gw_aldI hx hb hK hI e34 d_law_48 ?_
        refine lv_bipush (v := 31) hx hb d_law_49 (by decide) ?_
        refine lv_iand hx hb d_law_51 ?_
        obtain ⟨K2069, eK2069, h⟩ := gj h
        have hK2069 : ∀ (w : gW) (H : Heap) (locs : List Loc) (ls : Array Slot), K2069 w = some r → gI D s A w H locs → lv_has ls 8 [(0, .ref a0), (1, .ref o1), (2, .ref o9), (3, .ref o17), (4, .int z29)] → W p l e rm_law s m args below meth c H locs ((16015 - (n + 1) * 31) + 31) ((905842 - (n + 1) * 1745) + 1745) Q (F0 m 2069 ls []) := by
          intro w H locs ls h hI hl
          have h := gk1 eK2069 h
          refine lv_iinc (v := z29 + 14) (lv' := [(4, .int (z29 + 14)), (0, .ref a0), (1, .ref o1), (2, .ref o9), (3, .ref o17)]) hx hb d_law_2069 hl (k := 4) rfl rfl (by decide) rfl (fun ls hl => ?_)
          refine lv_goto (tgt := 35) hx hb d_law_2072 (by decide) ?_
          refine W.widen (k := (16015 - n * 31)) (n := (905842 - n * 1745)) (show ((16015 - (n + 1) * 31) + 31) ≤ (16015 - n * 31) by omega) (show ((905842 - (n + 1) * 1745) + 1745) ≤ (905842 - n * 1745) by omega) ?_
          exact ih (by omega) _ w H locs ls h hI (lv_sub hl [1, 2, 3, 4, 0] rfl)
        rcases Decidable.em ((v33 &&& 31) = 0) with c35 | c35
        · have h := git c35 h
          refine lv_tableIn (off := 84) (tgt := 136) hx hb d_law_52 (by rw [c35]; decide) (by rw [c35]; decide) (by rw [c35]; decide) (by decide) ?_
          refine lv_aload_n hx hb d_law_136 rfl (lv_at hl 1 rfl) ?_
          obtain ⟨q38, e39, h⟩ := gb h
          obtain ⟨u36, e37⟩ := gsome h
          refine gw_callI e37 h (gw_runV (As := []) (rest := []) hx hb hml hown hT hK hZ hA hI (ci := 0) rfl e39 (m_B_body l hst D g0 o1 w u36 e37) ce_B_body wd_220 wd_222 ⟨by decide, by decide⟩ rfl rfl hl.1 rfl (lv_room (Nat.le_of_ble_eq_true rfl)) d_law_137 ⟨(show (16015 - (n + 1) * 31) + 3 ≤ 601024 by omega), (show (905842 - (n + 1) * 1745) + 69 ≤ 7293000 by omega)⟩) hI hA hexc (show (16015 - (n + 1) * 31) + 3 ≤ 601024 by omega) (show (905842 - (n + 1) * 1745) + 69 ≤ 7293000 by omega) (fun v40 w H locs h hI => ?_)
          refine W.widen (k := ((16015 - (n + 1) * 31) + 3)) (n := ((905842 - (n + 1) * 1745) + 69)) (show (16015 - (n + 1) * 31) + 3 ≤ ((16015 - (n + 1) * 31) + 3) by omega) (show (905842 - (n + 1) * 1745) + 69 ≤ ((905842 - (n + 1) * 1745) + 69) by omega) ?_
          refine lv_pop hx hb d_law_140 rfl ?_
          refine lv_aload_n hx hb d_law_141 rfl (lv_at hl 2 rfl) ?_
          obtain ⟨q43, e44, h⟩ := gb h
          obtain ⟨u41, e42⟩ := gsome h
          refine gw_callI e42 h (gw_runV (As := []) (rest := []) hx hb hml hown hT hK hZ hA hI (ci := 7) rfl e44 (m_M_body l hst D g0 o9 w u41 e42) ce_M_body wd_868 wd_870 ⟨by decide, by decide⟩ rfl rfl hl.1 rfl (lv_room (Nat.le_of_ble_eq_true rfl)) d_law_142 ⟨(show ((16015 - (n + 1) * 31) + 3) + 0 ≤ 601024 by omega), (show ((905842 - (n + 1) * 1745) + 69) + 0 ≤ 7293000 by omega)⟩) hI hA hexc (show ((16015 - (n + 1) * 31) + 3) + 0 ≤ 601024 by omega) (show ((905842 - (n + 1) * 1745) + 69) + 0 ≤ 7293000 by omega) (fun v45 w H locs h hI => ?_)
          refine lv_pop hx hb d_law_145 rfl ?_
          refine lv_goto (tgt := 2069) hx hb d_law_146 (by decide) ?_
          refine W.widen (k := ((16015 - (n + 1) * 31) + 31)) (n := ((905842 - (n + 1) * 1745) + 1745)) (show ((16015 - (n + 1) * 31) + 3) ≤ ((16015 - (n + 1) * 31) + 31) by omega) (show ((905842 - (n + 1) * 1745) + 69) ≤ ((905842 - (n + 1) * 1745) + 1745) by omega) ?_
          exact hK2069 w H locs ls h hI (lv_sub hl [0, 1, 2, 3, 4] rfl)
        have h := gie c35 h
        rcases Decidable.em ((v33 &&& 31) = 1) with c46 | c46
        · have h := git c46 h
          refine lv_tableIn (off := 97) (tgt := 149) hx hb d_law_52 (by rw [c46]; decide) (by rw [c46]; decide) (by rw [c46]; decide) (by decide) ?_
          refine lv_aload_n hx hb d_law_149 rfl (lv_at hl 1 rfl) ?_
          refine lv_aload_n hx hb d_law_150 rfl (lv_at hl 0 rfl) ?_
          refine lv_iload hx hb d_law_151 (lv_at hl 4 rfl) ?_
          refine lv_iconst (v := 1) hx hb d_law_153 (by decide) ?_
          refine lv_iadd hx hb d_law_154 ?_
          obtain ⟨v47, e48, h⟩ := gb h
          refine gw_aldI hx hb hK hI e48 d_law_155 ?_
          refine lv_aload_n hx hb d_law_156 rfl (lv_at hl 0 rfl) ?_
          refine lv_iload hx hb d_law_157 (lv_at hl 4 rfl) ?_
          refine lv_iconst (v := 2) hx hb d_law_159 (by decide) ?_
          refine lv_iadd hx hb d_law_160 ?_
          obtain ⟨v49, e50, h⟩ := gb h
          refine gw_aldI hx hb hK hI e50 d_law_161 ?_
          refine lv_i2l (v := v49.toInt64) hx hb d_law_162 rfl ?_
          refine lv_bipush (v := 32) hx hb d_law_163 (by decide) ?_
          refine lv_lshl (v := (v49.toInt64) <<< ((32 : Int32).toInt64 &&& 63)) hx hb d_law_165 rfl ?_
          refine lv_aload_n hx hb d_law_166 rfl (lv_at hl 0 rfl) ?_
          refine lv_iload hx hb d_law_167 (lv_at hl 4 rfl) ?_
          refine lv_iconst (v := 3) hx hb d_law_169 (by decide) ?_
          refine lv_iadd hx hb d_law_170 ?_
          obtain ⟨v51, e52, h⟩ := gb h
          refine gw_aldI hx hb hK hI e52 d_law_171 ?_
          refine lv_i2l (v := v51.toInt64) hx hb d_law_172 rfl ?_
          refine lv_ldc2 (v := 4294967295) hx hb hown (hT _ wd_1117 args) d_law_173 ?_
          refine lv_land hx hb d_law_176 ?_
          refine lv_lor hx hb d_law_177 ?_
          refine lv_aload_n hx hb d_law_178 rfl (lv_at hl 0 rfl) ?_
          refine lv_iload hx hb d_law_179 (lv_at hl 4 rfl) ?_
          refine lv_iconst (v := 4) hx hb d_law_181 (by decide) ?_
          refine lv_iadd hx hb d_law_182 ?_
          obtain ⟨v53, e54, h⟩ := gb h
          refine gw_aldI hx hb hK hI e54 d_law_183 ?_
          refine lv_i2l (v := v53.toInt64) hx hb d_law_184 rfl ?_
          refine lv_bipush (v := 32) hx hb d_law_185 (by decide) ?_
          refine lv_lshl (v := (v53.toInt64) <<< ((32 : Int32).toInt64 &&& 63)) hx hb d_law_187 rfl ?_
          refine lv_aload_n hx hb d_law_188 rfl (lv_at hl 0 rfl) ?_
          refine lv_iload hx hb d_law_189 (lv_at hl 4 rfl) ?_
          refine lv_iconst (v := 5) hx hb d_law_191 (by decide) ?_
          refine lv_iadd hx hb d_law_192 ?_
          obtain ⟨v55, e56, h⟩ := gb h
          refine gw_aldI hx hb hK hI e56 d_law_193 ?_
          refine lv_i2l (v := v55.toInt64) hx hb d_law_194 rfl ?_
          refine lv_ldc2 (v := 4294967295) hx hb hown (hT _ wd_1117 args) d_law_195 ?_
          refine lv_land hx hb d_law_198 ?_
          refine lv_lor hx hb d_law_199 ?_
          refine lv_aload_n hx hb d_law_200 rfl (lv_at hl 0 rfl) ?_
          refine lv_iload hx hb d_law_201 (lv_at hl 4 rfl) ?_
          refine lv_bipush (v := 6) hx hb d_law_203 (by decide) ?_
          refine lv_iadd hx hb d_law_205 ?_
          obtain ⟨v57, e58, h⟩ := gb h
          refine gw_aldI hx hb hK hI e58 d_law_206 ?_
          refine lv_i2l (v := v57.toInt64) hx hb d_law_207 rfl ?_
          refine lv_bipush (v := 32) hx hb d_law_208 (by decide) ?_
          refine lv_lshl (v := (v57.toInt64) <<< ((32 : Int32).toInt64 &&& 63)) hx hb d_law_210 rfl ?_
          refine lv_aload_n hx hb d_law_211 rfl (lv_at hl 0 rfl) ?_
          refine lv_iload hx hb d_law_212 (lv_at hl 4 rfl) ?_
          refine lv_bipush (v := 7) hx hb d_law_214 (by decide) ?_
          refine lv_iadd hx hb d_law_216 ?_
          obtain ⟨v59, e60, h⟩ := gb h
          refine gw_aldI hx hb hK hI e60 d_law_217 ?_
          refine lv_i2l (v := v59.toInt64) hx hb d_law_218 rfl ?_
          refine lv_ldc2 (v := 4294967295) hx hb hown (hT _ wd_1117 args) d_law_219 ?_
          refine lv_land hx hb d_law_222 ?_
          refine lv_lor hx hb d_law_223 ?_
          refine lv_aload_n hx hb d_law_224 rfl (lv_at hl 0 rfl) ?_
          refine lv_iload hx hb d_law_225 (lv_at hl 4 rfl) ?_
          refine lv_bipush (v := 8) hx hb d_law_227 (by decide) ?_
          refine lv_iadd hx hb d_law_229 ?_
          obtain ⟨v61, e62, h⟩ := gb h
          refine gw_aldI hx hb hK hI e62 d_law_230 ?_
          refine lv_i2l (v := v61.toInt64) hx hb d_law_231 rfl ?_
          refine lv_bipush (v := 32) hx hb d_law_232 (by decide) ?_
          refine lv_lshl (v := (v61.toInt64) <<< ((32 : Int32).toInt64 &&& 63)) hx hb d_law_234 rfl ?_
          refine lv_aload_n hx hb d_law_235 rfl (lv_at hl 0 rfl) ?_
          refine lv_iload hx hb d_law_236 (lv_at hl 4 rfl) ?_
          refine lv_bipush (v := 9) hx hb d_law_238 (by decide) ?_
          refine lv_iadd hx hb d_law_240 ?_
          obtain ⟨v63, e64, h⟩ := gb h
          refine gw_aldI hx hb hK hI e64 d_law_241 ?_
          refine lv_i2l (v := v63.toInt64) hx hb d_law_242 rfl ?_
          refine lv_ldc2 (v := 4294967295) hx hb hown (hT _ wd_1117 args) d_law_243 ?_
          refine lv_land hx hb d_law_246 ?_
          refine lv_lor hx hb d_law_247 ?_
          refine lv_aload_n hx hb d_law_248 rfl (lv_at hl 0 rfl) ?_
          refine lv_iload hx hb d_law_249 (lv_at hl 4 rfl) ?_
          refine lv_bipush (v := 10) hx hb d_law_251 (by decide) ?_
          refine lv_iadd hx hb d_law_253 ?_
          obtain ⟨v65, e66, h⟩ := gb h
          refine gw_aldI hx hb hK hI e66 d_law_254 ?_
          refine lv_i2l (v := v65.toInt64) hx hb d_law_255 rfl ?_
          refine lv_bipush (v := 32) hx hb d_law_256 (by decide) ?_
          refine lv_lshl (v := (v65.toInt64) <<< ((32 : Int32).toInt64 &&& 63)) hx hb d_law_258 rfl ?_
          refine lv_aload_n hx hb d_law_259 rfl (lv_at hl 0 rfl) ?_
          refine lv_iload hx hb d_law_260 (lv_at hl 4 rfl) ?_
          refine lv_bipush (v := 11) hx hb d_law_262 (by decide) ?_
          refine lv_iadd hx hb d_law_264 ?_
          obtain ⟨v67, e68, h⟩ := gb h
          refine gw_aldI hx hb hK hI e68 d_law_265 ?_
          refine lv_i2l (v := v67.toInt64) hx hb d_law_266 rfl ?_
          refine lv_ldc2 (v := 4294967295) hx hb hown (hT _ wd_1117 args) d_law_267 ?_
          refine lv_land hx hb d_law_270 ?_
          refine lv_lor hx hb d_law_271 ?_
          refine lv_aload_n hx hb d_law_272 rfl (lv_at hl 0 rfl) ?_
          refine lv_iload hx hb d_law_273 (lv_at hl 4 rfl) ?_
          refine lv_bipush (v := 12) hx hb d_law_275 (by decide) ?_
          refine lv_iadd hx hb d_law_277 ?_
          obtain ⟨v69, e70, h⟩ := gb h
          refine gw_aldI hx hb hK hI e70 d_law_278 ?_
          refine lv_i2l (v := v69.toInt64) hx hb d_law_279 rfl ?_
          refine lv_bipush (v := 32) hx hb d_law_280 (by decide) ?_
          refine lv_lshl (v := (v69.toInt64) <<< ((32 : Int32).toInt64 &&& 63)) hx hb d_law_282 rfl ?_
          refine lv_aload_n hx hb d_law_283 rfl (lv_at hl 0 rfl) ?_
          refine lv_iload hx hb d_law_284 (lv_at hl 4 rfl) ?_
          refine lv_bipush (v := 13) hx hb d_law_286 (by decide) ?_
          refine lv_iadd hx hb d_law_288 ?_
          obtain ⟨v71, e72, h⟩ := gb h
          refine gw_aldI hx hb hK hI e72 d_law_289 ?_
          refine lv_i2l (v := v71.toInt64) hx hb d_law_290 rfl ?_
          refine lv_ldc2 (v := 4294967295) hx hb hown (hT _ wd_1117 args) d_law_291 ?_
          refine lv_land hx hb d_law_294 ?_
          refine lv_lor hx hb d_law_295 ?_
          refine lv_aload_n hx hb d_law_296 rfl (lv_at hl 3 rfl) ?_
          obtain ⟨u73, e74⟩ := gsome h
          refine gw_callI e74 h (gw_runS (As := [.ref o1, .int v47, .long (((v49.toInt64) <<< ((32 : Int32).toInt64 &&& 63)) ||| ((v51.toInt64) &&& 4294967295)), .long (((v53.toInt64) <<< ((32 : Int32).toInt64 &&& 63)) ||| ((v55.toInt64) &&& 4294967295)), .long (((v57.toInt64) <<< ((32 : Int32).toInt64 &&& 63)) ||| ((v59.toInt64) &&& 4294967295)), .long (((v61.toInt64) <<< ((32 : Int32).toInt64 &&& 63)) ||| ((v63.toInt64) &&& 4294967295)), .long (((v65.toInt64) <<< ((32 : Int32).toInt64 &&& 63)) ||| ((v67.toInt64) &&& 4294967295)), .long (((v69.toInt64) <<< ((32 : Int32).toInt64 &&& 63)) ||| ((v71.toInt64) &&& 4294967295)), .ref o17]) (rest := []) hx hb hml hown hT hK hZ hA hI (m_W_box l hst D g0 o1 v47 (((v49.toInt64) <<< ((32 : Int32).toInt64 &&& 63)) ||| ((v51.toInt64) &&& 4294967295)) (((v53.toInt64) <<< ((32 : Int32).toInt64 &&& 63)) ||| ((v55.toInt64) &&& 4294967295)) (((v57.toInt64) <<< ((32 : Int32).toInt64 &&& 63)) ||| ((v59.toInt64) &&& 4294967295)) (((v61.toInt64) <<< ((32 : Int32).toInt64 &&& 63)) ||| ((v63.toInt64) &&& 4294967295)) (((v65.toInt64) <<< ((32 : Int32).toInt64 &&& 63)) ||| ((v67.toInt64) &&& 4294967295)) (((v69.toInt64) <<< ((32 : Int32).toInt64 &&& 63)) ||| ((v71.toInt64) &&& 4294967295)) o17 w u73 e74) ce_W_box wd_427 ⟨by decide, by decide⟩ rfl rfl hl.1 rfl (lv_room (Nat.le_of_ble_eq_true rfl)) d_law_297 ⟨(show (16015 - (n + 1) * 31) + 14 ≤ 601024 by omega), (show (905842 - (n + 1) * 1745) + 152 ≤ 7293000 by omega)⟩) hI hA hexc (show (16015 - (n + 1) * 31) + 14 ≤ 601024 by omega) (show (905842 - (n + 1) * 1745) + 152 ≤ 7293000 by omega) (fun v75 w H locs h hI => ?_)
          refine W.widen (k := ((16015 - (n + 1) * 31) + 14)) (n := ((905842 - (n + 1) * 1745) + 152)) (show (16015 - (n + 1) * 31) + 14 ≤ ((16015 - (n + 1) * 31) + 14) by omega) (show (905842 - (n + 1) * 1745) + 152 ≤ ((905842 - (n + 1) * 1745) + 152) by omega) ?_
          refine lv_istore (lv' := [(5, .int v75), (0, .ref a0), (1, .ref o1), (2, .ref o9), (3, .ref o17), (4, .int z29)]) hx hb d_law_300 hl (by decide) rfl (fun ls hl => ?_)
          refine lv_aload_n hx hb d_law_302 rfl (lv_at hl 3 rfl) ?_
          refine lv_aload_n hx hb d_law_303 rfl (lv_at hl 1 rfl) ?_
          refine lv_iload hx hb d_law_304 (lv_at hl 5 rfl) ?_
          refine lv_iconst (v := 1) hx hb d_law_306 (by decide) ?_
          refine lv_iadd hx hb d_law_307 ?_
          obtain ⟨v76, e77, h⟩ := gb h
          refine gw_aldI hx hb hK hI e77 d_law_308 ?_
          refine lv_aload_n hx hb d_law_309 rfl (lv_at hl 1 rfl) ?_
          refine lv_iload hx hb d_law_310 (lv_at hl 5 rfl) ?_
          refine lv_iconst (v := 2) hx hb d_law_312 (by decide) ?_
          refine lv_iadd hx hb d_law_313 ?_
          obtain ⟨v78, e79, h⟩ := gb h
          refine gw_aldI hx hb hK hI e79 d_law_314 ?_
          refine lv_i2l (v := v78.toInt64) hx hb d_law_315 rfl ?_
          refine lv_bipush (v := 32) hx hb d_law_316 (by decide) ?_
          refine lv_lshl (v := (v78.toInt64) <<< ((32 : Int32).toInt64 &&& 63)) hx hb d_law_318 rfl ?_
          refine lv_aload_n hx hb d_law_319 rfl (lv_at hl 1 rfl) ?_
          refine lv_iload hx hb d_law_320 (lv_at hl 5 rfl) ?_
          refine lv_iconst (v := 3) hx hb d_law_322 (by decide) ?_
          refine lv_iadd hx hb d_law_323 ?_
          obtain ⟨v80, e81, h⟩ := gb h
          refine gw_aldI hx hb hK hI e81 d_law_324 ?_
          refine lv_i2l (v := v80.toInt64) hx hb d_law_325 rfl ?_
          refine lv_ldc2 (v := 4294967295) hx hb hown (hT _ wd_1117 args) d_law_326 ?_
          refine lv_land hx hb d_law_329 ?_
          refine lv_lor hx hb d_law_330 ?_
          refine lv_aload_n hx hb d_law_331 rfl (lv_at hl 1 rfl) ?_
          refine lv_iload hx hb d_law_332 (lv_at hl 5 rfl) ?_
          refine lv_iconst (v := 4) hx hb d_law_334 (by decide) ?_
          refine lv_iadd hx hb d_law_335 ?_
          obtain ⟨v82, e83, h⟩ := gb h
          refine gw_aldI hx hb hK hI e83 d_law_336 ?_
          refine lv_i2l (v := v82.toInt64) hx hb d_law_337 rfl ?_
          refine lv_bipush (v := 32) hx hb d_law_338 (by decide) ?_
          refine lv_lshl (v := (v82.toInt64) <<< ((32 : Int32).toInt64 &&& 63)) hx hb d_law_340 rfl ?_
          refine lv_aload_n hx hb d_law_341 rfl (lv_at hl 1 rfl) ?_
          refine lv_iload hx hb d_law_342 (lv_at hl 5 rfl) ?_
          refine lv_iconst (v := 5) hx hb d_law_344 (by decide) ?_
          refine lv_iadd hx hb d_law_345 ?_
          obtain ⟨v84, e85, h⟩ := gb h
          refine gw_aldI hx hb hK hI e85 d_law_346 ?_
          refine lv_i2l (v := v84.toInt64) hx hb d_law_347 rfl ?_
          refine lv_ldc2 (v := 4294967295) hx hb hown (hT _ wd_1117 args) d_law_348 ?_
          refine lv_land hx hb d_law_351 ?_
          refine lv_lor hx hb d_law_352 ?_
          refine lv_aload_n hx hb d_law_353 rfl (lv_at hl 1 rfl) ?_
          refine lv_iload hx hb d_law_354 (lv_at hl 5 rfl) ?_
          refine lv_bipush (v := 6) hx hb d_law_356 (by decide) ?_
          refine lv_iadd hx hb d_law_358 ?_
          obtain ⟨v86, e87, h⟩ := gb h
          refine gw_aldI hx hb hK hI e87 d_law_359 ?_
          refine lv_i2l (v := v86.toInt64) hx hb d_law_360 rfl ?_
          refine lv_bipush (v := 32) hx hb d_law_361 (by decide) ?_
          refine lv_lshl (v := (v86.toInt64) <<< ((32 : Int32).toInt64 &&& 63)) hx hb d_law_363 rfl ?_
          refine lv_aload_n hx hb d_law_364 rfl (lv_at hl 1 rfl) ?_
          refine lv_iload hx hb d_law_365 (lv_at hl 5 rfl) ?_
          refine lv_bipush (v := 7) hx hb d_law_367 (by decide) ?_
          refine lv_iadd hx hb d_law_369 ?_
          obtain ⟨v88, e89, h⟩ := gb h
          refine gw_aldI hx hb hK hI e89 d_law_370 ?_
          refine lv_i2l (v := v88.toInt64) hx hb d_law_371 rfl ?_
          refine lv_ldc2 (v := 4294967295) hx hb hown (hT _ wd_1117 args) d_law_372 ?_
          refine lv_land hx hb d_law_375 ?_
          refine lv_lor hx hb d_law_376 ?_
          refine lv_aload_n hx hb d_law_377 rfl (lv_at hl 1 rfl) ?_
          refine lv_iload hx hb d_law_378 (lv_at hl 5 rfl) ?_
          refine lv_bipush (v := 8) hx hb d_law_380 (by decide) ?_
          refine lv_iadd hx hb d_law_382 ?_
          obtain ⟨v90, e91, h⟩ := gb h
          refine gw_aldI hx hb hK hI e91 d_law_383 ?_
          refine lv_i2l (v := v90.toInt64) hx hb d_law_384 rfl ?_
          refine lv_bipush (v := 32) hx hb d_law_385 (by decide) ?_
          refine lv_lshl (v := (v90.toInt64) <<< ((32 : Int32).toInt64 &&& 63)) hx hb d_law_387 rfl ?_
          refine lv_aload_n hx hb d_law_388 rfl (lv_at hl 1 rfl) ?_
          refine lv_iload hx hb d_law_389 (lv_at hl 5 rfl) ?_
          refine lv_bipush (v := 9) hx hb d_law_391 (by decide) ?_
          refine lv_iadd hx hb d_law_393 ?_
          obtain ⟨v92, e93, h⟩ := gb h
          refine gw_aldI hx hb hK hI e93 d_law_394 ?_
          refine lv_i2l (v := v92.toInt64) hx hb d_law_395 rfl ?_
          refine lv_ldc2 (v := 4294967295) hx hb hown (hT _ wd_1117 args) d_law_396 ?_
          refine lv_land hx hb d_law_399 ?_
          refine lv_lor hx hb d_law_400 ?_
          refine lv_aload_n hx hb d_law_401 rfl (lv_at hl 1 rfl) ?_
          refine lv_iload hx hb d_law_402 (lv_at hl 5 rfl) ?_
          refine lv_bipush (v := 10) hx hb d_law_404 (by decide) ?_
          refine lv_iadd hx hb d_law_406 ?_
          obtain ⟨v94, e95, h⟩ := gb h
          refine gw_aldI hx hb hK hI e95 d_law_407 ?_
          refine lv_i2l (v := v94.toInt64) hx hb d_law_408 rfl ?_
          refine lv_bipush (v := 32) hx hb d_law_409 (by decide) ?_
          refine lv_lshl (v := (v94.toInt64) <<< ((32 : Int32).toInt64 &&& 63)) hx hb d_law_411 rfl ?_
          refine lv_aload_n hx hb d_law_412 rfl (lv_at hl 1 rfl) ?_
          refine lv_iload hx hb d_law_413 (lv_at hl 5 rfl) ?_
          refine lv_bipush (v := 11) hx hb d_law_415 (by decide) ?_
          refine lv_iadd hx hb d_law_417 ?_
          obtain ⟨v96, e97, h⟩ := gb h
          refine gw_aldI hx hb hK hI e97 d_law_418 ?_
          refine lv_i2l (v := v96.toInt64) hx hb d_law_419 rfl ?_
          refine lv_ldc2 (v := 4294967295) hx hb hown (hT _ wd_1117 args) d_law_420 ?_
          refine lv_land hx hb d_law_423 ?_
          refine lv_lor hx hb d_law_424 ?_
          refine lv_aload_n hx hb d_law_425 rfl (lv_at hl 1 rfl) ?_
          refine lv_iload hx hb d_law_426 (lv_at hl 5 rfl) ?_
          refine lv_bipush (v := 12) hx hb d_law_428 (by decide) ?_
          refine lv_iadd hx hb d_law_430 ?_
          obtain ⟨v98, e99, h⟩ := gb h
          refine gw_aldI hx hb hK hI e99 d_law_431 ?_
          refine lv_i2l (v := v98.toInt64) hx hb d_law_432 rfl ?_
          refine lv_bipush (v := 32) hx hb d_law_433 (by decide) ?_
          refine lv_lshl (v := (v98.toInt64) <<< ((32 : Int32).toInt64 &&& 63)) hx hb d_law_435 rfl ?_
          refine lv_aload_n hx hb d_law_436 rfl (lv_at hl 1 rfl) ?_
          refine lv_iload hx hb d_law_437 (lv_at hl 5 rfl) ?_
          refine lv_bipush (v := 13) hx hb d_law_439 (by decide) ?_
          refine lv_iadd hx hb d_law_441 ?_
          obtain ⟨v100, e101, h⟩ := gb h
          refine gw_aldI hx hb hK hI e101 d_law_442 ?_
          refine lv_i2l (v := v100.toInt64) hx hb d_law_443 rfl ?_
          refine lv_ldc2 (v := 4294967295) hx hb hown (hT _ wd_1117 args) d_law_444 ?_
          refine lv_land hx hb d_law_447 ?_
          refine lv_lor hx hb d_law_448 ?_
          obtain ⟨q104, e105, h⟩ := gb h
          obtain ⟨u102, e103⟩ := gsome h
          refine gw_callI e103 h (gw_runV (As := [.int v76, .long (((v78.toInt64) <<< ((32 : Int32).toInt64 &&& 63)) ||| ((v80.toInt64) &&& 4294967295)), .long (((v82.toInt64) <<< ((32 : Int32).toInt64 &&& 63)) ||| ((v84.toInt64) &&& 4294967295)), .long (((v86.toInt64) <<< ((32 : Int32).toInt64 &&& 63)) ||| ((v88.toInt64) &&& 4294967295)), .long (((v90.toInt64) <<< ((32 : Int32).toInt64 &&& 63)) ||| ((v92.toInt64) &&& 4294967295)), .long (((v94.toInt64) <<< ((32 : Int32).toInt64 &&& 63)) ||| ((v96.toInt64) &&& 4294967295)), .long (((v98.toInt64) <<< ((32 : Int32).toInt64 &&& 63)) ||| ((v100.toInt64) &&& 4294967295))]) (rest := []) hx hb hml hown hT hK hZ hA hI (ci := 7) rfl e105 (m_M_box l hst D g0 o9 v76 (((v78.toInt64) <<< ((32 : Int32).toInt64 &&& 63)) ||| ((v80.toInt64) &&& 4294967295)) (((v82.toInt64) <<< ((32 : Int32).toInt64 &&& 63)) ||| ((v84.toInt64) &&& 4294967295)) (((v86.toInt64) <<< ((32 : Int32).toInt64 &&& 63)) ||| ((v88.toInt64) &&& 4294967295)) (((v90.toInt64) <<< ((32 : Int32).toInt64 &&& 63)) ||| ((v92.toInt64) &&& 4294967295)) (((v94.toInt64) <<< ((32 : Int32).toInt64 &&& 63)) ||| ((v96.toInt64) &&& 4294967295)) (((v98.toInt64) <<< ((32 : Int32).toInt64 &&& 63)) ||| ((v100.toInt64) &&& 4294967295)) w u102 e103) ce_M_box wd_872 wd_874 ⟨by decide, by decide⟩ rfl rfl hl.1 rfl (lv_room (Nat.le_of_ble_eq_true rfl)) d_law_449 ⟨(show ((16015 - (n + 1) * 31) + 14) + 0 ≤ 601024 by omega), (show ((905842 - (n + 1) * 1745) + 152) + 0 ≤ 7293000 by omega)⟩) hI hA hexc (show ((16015 - (n + 1) * 31) + 14) + 0 ≤ 601024 by omega) (show ((905842 - (n + 1) * 1745) + 152) + 0 ≤ 7293000 by omega) (fun v106 w H locs h hI => ?_)
          refine lv_istore (lv' := [(6, .int v106), (5, .int v75), (0, .ref a0), (1, .ref o1), (2, .ref o9), (3, .ref o17), (4, .int z29)]) hx hb d_law_452 hl (by decide) rfl (fun ls hl => ?_)
          refine lv_goto (tgt := 2069) hx hb d_law_454 (by decide) ?_
          refine W.widen (k := ((16015 - (n + 1) * 31) + 31)) (n := ((905842 - (n + 1) * 1745) + 1745)) (show ((16015 - (n + 1) * 31) + 14) ≤ ((16015 - (n + 1) * 31) + 31) by omega) (show ((905842 - (n + 1) * 1745) + 152) ≤ ((905842 - (n + 1) * 1745) + 1745) by omega) ?_
          exact hK2069 w H locs ls h hI (lv_sub hl [2, 3, 4, 5, 6] rfl)
        have h := gie c46 h
        rcases Decidable.em ((v33 &&& 31) = 2) with c107 | c107
        · have h := git c107 h
          refine lv_tableIn (off := 405) (tgt := 457) hx hb d_law_52 (by rw [c107]; decide) (by rw [c107]; decide) (by rw [c107]; decide) (by decide) ?_
          refine W.widen (k := 16015) (n := 905842) (show (16015 - (n + 1) * 31) ≤ 16015 by omega) (show (905842 - (n + 1) * 1745) ≤ 905842 by omega) ?_
          exact hK457 _ w H locs ls h hI (lv_sub hl [0, 1, 3, 4] rfl)
        have h := gie c107 h
        rcases Decidable.em ((v33 &&& 31) = 3) with c108 | c108
        · have h := git c108 h
          refine lv_tableIn (off := 665) (tgt := 717) hx hb d_law_52 (by rw [c108]; decide) (by rw [c108]; decide) (by rw [c108]; decide) (by decide) ?_
          refine lv_aload_n hx hb d_law_717 rfl (lv_at hl 1 rfl) ?_
          refine lv_aload_n hx hb d_law_718 rfl (lv_at hl 0 rfl) ?_
          refine lv_iload hx hb d_law_719 (lv_at hl 4 rfl) ?_
          refine lv_iconst (v := 1) hx hb d_law_721 (by decide) ?_
          refine lv_iadd hx hb d_law_722 ?_
          obtain ⟨v109, e110, h⟩ := gb h
          refine gw_aldI hx hb hK hI e110 d_law_723 ?_
          refine lv_i2l (v := v109.toInt64) hx hb d_law_724 rfl ?_
          refine lv_bipush (v := 32) hx hb d_law_725 (by decide) ?_
          refine lv_lshl (v := (v109.toInt64) <<< ((32 : Int32).toInt64 &&& 63)) hx hb d_law_727 rfl ?_
          refine lv_aload_n hx hb d_law_728 rfl (lv_at hl 0 rfl) ?_
          refine lv_iload hx hb d_law_729 (lv_at hl 4 rfl) ?_
          refine lv_iconst (v := 2) hx hb d_law_731 (by decide) ?_
          refine lv_iadd hx hb d_law_732 ?_
          obtain ⟨v111, e112, h⟩ := gb h
          refine gw_aldI hx hb hK hI e112 d_law_733 ?_
          refine lv_i2l (v := v111.toInt64) hx hb d_law_734 rfl ?_
          refine lv_ldc2 (v := 4294967295) hx hb hown (hT _ wd_1117 args) d_law_735 ?_
          refine lv_land hx hb d_law_738 ?_
          refine lv_lor hx hb d_law_739 ?_
          refine lv_aload_n hx hb d_law_740 rfl (lv_at hl 0 rfl) ?_
          refine lv_iload hx hb d_law_741 (lv_at hl 4 rfl) ?_
          refine lv_iconst (v := 3) hx hb d_law_743 (by decide) ?_
          refine lv_iadd hx hb d_law_744 ?_
          obtain ⟨v113, e114, h⟩ := gb h
          refine gw_aldI hx hb hK hI e114 d_law_745 ?_
          refine lv_i2l (v := v113.toInt64) hx hb d_law_746 rfl ?_
          refine lv_bipush (v := 32) hx hb d_law_747 (by decide) ?_
          refine lv_lshl (v := (v113.toInt64) <<< ((32 : Int32).toInt64 &&& 63)) hx hb d_law_749 rfl ?_
          refine lv_aload_n hx hb d_law_750 rfl (lv_at hl 0 rfl) ?_
          refine lv_iload hx hb d_law_751 (lv_at hl 4 rfl) ?_
          refine lv_iconst (v := 4) hx hb d_law_753 (by decide) ?_
          refine lv_iadd hx hb d_law_754 ?_
          obtain ⟨v115, e116, h⟩ := gb h
          refine gw_aldI hx hb hK hI e116 d_law_755 ?_
          refine lv_i2l (v := v115.toInt64) hx hb d_law_756 rfl ?_
          refine lv_ldc2 (v := 4294967295) hx hb hown (hT _ wd_1117 args) d_law_757 ?_
          refine lv_land hx hb d_law_760 ?_
          refine lv_lor hx hb d_law_761 ?_
          refine lv_aload_n hx hb d_law_762 rfl (lv_at hl 3 rfl) ?_
          obtain ⟨u117, e118⟩ := gsome h
          refine gw_callI e118 h (gw_runS (As := [.ref o1, .long (((v109.toInt64) <<< ((32 : Int32).toInt64 &&& 63)) ||| ((v111.toInt64) &&& 4294967295)), .long (((v113.toInt64) <<< ((32 : Int32).toInt64 &&& 63)) ||| ((v115.toInt64) &&& 4294967295)), .ref o17]) (rest := []) hx hb hml hown hT hK hZ hA hI (m_W_corner l hst D g0 o1 (((v109.toInt64) <<< ((32 : Int32).toInt64 &&& 63)) ||| ((v111.toInt64) &&& 4294967295)) (((v113.toInt64) <<< ((32 : Int32).toInt64 &&& 63)) ||| ((v115.toInt64) &&& 4294967295)) o17 w u117 e118) ce_W_corner wd_577 ⟨by decide, by decide⟩ rfl rfl hl.1 rfl (lv_room (Nat.le_of_ble_eq_true rfl)) d_law_763 ⟨(show (16015 - (n + 1) * 31) + 2 ≤ 601024 by omega), (show (905842 - (n + 1) * 1745) + 12 ≤ 7293000 by omega)⟩) hI hA hexc (show (16015 - (n + 1) * 31) + 2 ≤ 601024 by omega) (show (905842 - (n + 1) * 1745) + 12 ≤ 7293000 by omega) (fun v119 w H locs h hI => ?_)
          refine W.widen (k := ((16015 - (n + 1) * 31) + 2)) (n := ((905842 - (n + 1) * 1745) + 12)) (show (16015 - (n + 1) * 31) + 2 ≤ ((16015 - (n + 1) * 31) + 2) by omega) (show (905842 - (n + 1) * 1745) + 12 ≤ ((905842 - (n + 1) * 1745) + 12) by omega) ?_
          refine lv_istore (lv' := [(5, .int v119), (0, .ref a0), (1, .ref o1), (2, .ref o9), (3, .ref o17), (4, .int z29)]) hx hb d_law_766 hl (by decide) rfl (fun ls hl => ?_)
          refine lv_aload_n hx hb d_law_768 rfl (lv_at hl 3 rfl) ?_
          refine lv_aload_n hx hb d_law_769 rfl (lv_at hl 1 rfl) ?_
          refine lv_iload hx hb d_law_770 (lv_at hl 5 rfl) ?_
          refine lv_iconst (v := 1) hx hb d_law_772 (by decide) ?_
          refine lv_iadd hx hb d_law_773 ?_
          obtain ⟨v120, e121, h⟩ := gb h
          refine gw_aldI hx hb hK hI e121 d_law_774 ?_
          refine lv_i2l (v := v120.toInt64) hx hb d_law_775 rfl ?_
          refine lv_bipush (v := 32) hx hb d_law_776 (by decide) ?_
          refine lv_lshl (v := (v120.toInt64) <<< ((32 : Int32).toInt64 &&& 63)) hx hb d_law_778 rfl ?_
          refine lv_aload_n hx hb d_law_779 rfl (lv_at hl 1 rfl) ?_
          refine lv_iload hx hb d_law_780 (lv_at hl 5 rfl) ?_
          refine lv_iconst (v := 2) hx hb d_law_782 (by decide) ?_
          refine lv_iadd hx hb d_law_783 ?_
          obtain ⟨v122, e123, h⟩ := gb h
          refine gw_aldI hx hb hK hI e123 d_law_784 ?_
          refine lv_i2l (v := v122.toInt64) hx hb d_law_785 rfl ?_
          refine lv_ldc2 (v := 4294967295) hx hb hown (hT _ wd_1117 args) d_law_786 ?_
          refine lv_land hx hb d_law_789 ?_
          refine lv_lor hx hb d_law_790 ?_
          refine lv_aload_n hx hb d_law_791 rfl (lv_at hl 1 rfl) ?_
          refine lv_iload hx hb d_law_792 (lv_at hl 5 rfl) ?_
          refine lv_iconst (v := 3) hx hb d_law_794 (by decide) ?_
          refine lv_iadd hx hb d_law_795 ?_
          obtain ⟨v124, e125, h⟩ := gb h
          refine gw_aldI hx hb hK hI e125 d_law_796 ?_
          refine lv_i2l (v := v124.toInt64) hx hb d_law_797 rfl ?_
          refine lv_bipush (v := 32) hx hb d_law_798 (by decide) ?_
          refine lv_lshl (v := (v124.toInt64) <<< ((32 : Int32).toInt64 &&& 63)) hx hb d_law_800 rfl ?_
          refine lv_aload_n hx hb d_law_801 rfl (lv_at hl 1 rfl) ?_
          refine lv_iload hx hb d_law_802 (lv_at hl 5 rfl) ?_
          refine lv_iconst (v := 4) hx hb d_law_804 (by decide) ?_
          refine lv_iadd hx hb d_law_805 ?_
          obtain ⟨v126, e127, h⟩ := gb h
          refine gw_aldI hx hb hK hI e127 d_law_806 ?_
          refine lv_i2l (v := v126.toInt64) hx hb d_law_807 rfl ?_
          refine lv_ldc2 (v := 4294967295) hx hb hown (hT _ wd_1117 args) d_law_808 ?_
          refine lv_land hx hb d_law_811 ?_
          refine lv_lor hx hb d_law_812 ?_
          obtain ⟨q130, e131, h⟩ := gb h
          obtain ⟨u128, e129⟩ := gsome h
          refine gw_callI e129 h (gw_runV (As := [.long (((v120.toInt64) <<< ((32 : Int32).toInt64 &&& 63)) ||| ((v122.toInt64) &&& 4294967295)), .long (((v124.toInt64) <<< ((32 : Int32).toInt64 &&& 63)) ||| ((v126.toInt64) &&& 4294967295))]) (rest := []) hx hb hml hown hT hK hZ hA hI (ci := 7) rfl e131 (m_M_corner l hst D g0 o9 (((v120.toInt64) <<< ((32 : Int32).toInt64 &&& 63)) ||| ((v122.toInt64) &&& 4294967295)) (((v124.toInt64) <<< ((32 : Int32).toInt64 &&& 63)) ||| ((v126.toInt64) &&& 4294967295)) w u128 e129) ce_M_corner wd_906 wd_908 ⟨by decide, by decide⟩ rfl rfl hl.1 rfl (lv_room (Nat.le_of_ble_eq_true rfl)) d_law_813 ⟨(show ((16015 - (n + 1) * 31) + 2) + 0 ≤ 601024 by omega), (show ((905842 - (n + 1) * 1745) + 12) + 0 ≤ 7293000 by omega)⟩) hI hA hexc (show ((16015 - (n + 1) * 31) + 2) + 0 ≤ 601024 by omega) (show ((905842 - (n + 1) * 1745) + 12) + 0 ≤ 7293000 by omega) (fun v132 w H locs h hI => ?_)
          refine lv_istore (lv' := [(6, .int v132), (5, .int v119), (0, .ref a0), (1, .ref o1), (2, .ref o9), (3, .ref o17), (4, .int z29)]) hx hb d_law_816 hl (by decide) rfl (fun ls hl => ?_)
          refine lv_goto (tgt := 2069) hx hb d_law_818 (by decide) ?_
          refine W.widen (k := ((16015 - (n + 1) * 31) + 31)) (n := ((905842 - (n + 1) * 1745) + 1745)) (show ((16015 - (n + 1) * 31) + 2) ≤ ((16015 - (n + 1) * 31) + 31) by omega) (show ((905842 - (n + 1) * 1745) + 12) ≤ ((905842 - (n + 1) * 1745) + 1745) by omega) ?_
          exact hK2069 w H locs ls h hI (lv_sub hl [2, 3, 4, 5, 6] rfl)
        have h := gie c108 h
        rcases Decidable.em ((v33 &&& 31) = 4) with c133 | c133
        · have h := git c133 h
          refine lv_tableIn (off := 769) (tgt := 821) hx hb d_law_52 (by rw [c133]; decide) (by rw [c133]; decide) (by rw [c133]; decide) (by decide) ?_
          refine lv_aload_n hx hb d_law_821 rfl (lv_at hl 1 rfl) ?_
          refine lv_aload_n hx hb d_law_822 rfl (lv_at hl 0 rfl) ?_
          refine lv_iload hx hb d_law_823 (lv_at hl 4 rfl) ?_
          refine lv_iconst (v := 1) hx hb d_law_825 (by decide) ?_
          refine lv_iadd hx hb d_law_826 ?_
          obtain ⟨v134, e135, h⟩ := gb h
          refine gw_aldI hx hb hK hI e135 d_law_827 ?_
          refine lv_aload_n hx hb d_law_828 rfl (lv_at hl 0 rfl) ?_
          refine lv_iload hx hb d_law_829 (lv_at hl 4 rfl) ?_
          refine lv_iconst (v := 2) hx hb d_law_831 (by decide) ?_
          refine lv_iadd hx hb d_law_832 ?_
          obtain ⟨v136, e137, h⟩ := gb h
          refine gw_aldI hx hb hK hI e137 d_law_833 ?_
          refine lv_i2l (v := v136.toInt64) hx hb d_law_834 rfl ?_
          refine lv_bipush (v := 32) hx hb d_law_835 (by decide) ?_
          refine lv_lshl (v := (v136.toInt64) <<< ((32 : Int32).toInt64 &&& 63)) hx hb d_law_837 rfl ?_
          refine lv_aload_n hx hb d_law_838 rfl (lv_at hl 0 rfl) ?_
          refine lv_iload hx hb d_law_839 (lv_at hl 4 rfl) ?_
          refine lv_iconst (v := 3) hx hb d_law_841 (by decide) ?_
          refine lv_iadd hx hb d_law_842 ?_
          obtain ⟨v138, e139, h⟩ := gb h
          refine gw_aldI hx hb hK hI e139 d_law_843 ?_
          refine lv_i2l (v := v138.toInt64) hx hb d_law_844 rfl ?_
          refine lv_ldc2 (v := 4294967295) hx hb hown (hT _ wd_1117 args) d_law_845 ?_
          refine lv_land hx hb d_law_848 ?_
          refine lv_lor hx hb d_law_849 ?_
          refine lv_aload_n hx hb d_law_850 rfl (lv_at hl 0 rfl) ?_
          refine lv_iload hx hb d_law_851 (lv_at hl 4 rfl) ?_
          refine lv_iconst (v := 4) hx hb d_law_853 (by decide) ?_
          refine lv_iadd hx hb d_law_854 ?_
          obtain ⟨v140, e141, h⟩ := gb h
          refine gw_aldI hx hb hK hI e141 d_law_855 ?_
          refine lv_i2l (v := v140.toInt64) hx hb d_law_856 rfl ?_
          refine lv_bipush (v := 32) hx hb d_law_857 (by decide) ?_
          refine lv_lshl (v := (v140.toInt64) <<< ((32 : Int32).toInt64 &&& 63)) hx hb d_law_859 rfl ?_
          refine lv_aload_n hx hb d_law_860 rfl (lv_at hl 0 rfl) ?_
          refine lv_iload hx hb d_law_861 (lv_at hl 4 rfl) ?_
          refine lv_iconst (v := 5) hx hb d_law_863 (by decide) ?_
          refine lv_iadd hx hb d_law_864 ?_
          obtain ⟨v142, e143, h⟩ := gb h
          refine gw_aldI hx hb hK hI e143 d_law_865 ?_
          refine lv_i2l (v := v142.toInt64) hx hb d_law_866 rfl ?_
          refine lv_ldc2 (v := 4294967295) hx hb hown (hT _ wd_1117 args) d_law_867 ?_
          refine lv_land hx hb d_law_870 ?_
          refine lv_lor hx hb d_law_871 ?_
          refine lv_aload_n hx hb d_law_872 rfl (lv_at hl 3 rfl) ?_
          obtain ⟨u144, e145⟩ := gsome h
          refine gw_callI e145 h (gw_runS (As := [.ref o1, .int v134, .long (((v136.toInt64) <<< ((32 : Int32).toInt64 &&& 63)) ||| ((v138.toInt64) &&& 4294967295)), .long (((v140.toInt64) <<< ((32 : Int32).toInt64 &&& 63)) ||| ((v142.toInt64) &&& 4294967295)), .ref o17]) (rest := []) hx hb hml hown hT hK hZ hA hI (m_W_prism l hst D g0 o1 v134 (((v136.toInt64) <<< ((32 : Int32).toInt64 &&& 63)) ||| ((v138.toInt64) &&& 4294967295)) (((v140.toInt64) <<< ((32 : Int32).toInt64 &&& 63)) ||| ((v142.toInt64) &&& 4294967295)) o17 w u144 e145) ce_W_prism wd_584 ⟨by decide, by decide⟩ rfl rfl hl.1 rfl (lv_room (Nat.le_of_ble_eq_true rfl)) d_law_873 ⟨(show (16015 - (n + 1) * 31) + 8 ≤ 601024 by omega), (show (905842 - (n + 1) * 1745) + 116 ≤ 7293000 by omega)⟩) hI hA hexc (show (16015 - (n + 1) * 31) + 8 ≤ 601024 by omega) (show (905842 - (n + 1) * 1745) + 116 ≤ 7293000 by omega) (fun v146 w H locs h hI => ?_)
          refine W.widen (k := ((16015 - (n + 1) * 31) + 8)) (n := ((905842 - (n + 1) * 1745) + 116)) (show (16015 - (n + 1) * 31) + 8 ≤ ((16015 - (n + 1) * 31) + 8) by omega) (show (905842 - (n + 1) * 1745) + 116 ≤ ((905842 - (n + 1) * 1745) + 116) by omega) ?_
          refine lv_istore (lv' := [(5, .int v146), (0, .ref a0), (1, .ref o1), (2, .ref o9), (3, .ref o17), (4, .int z29)]) hx hb d_law_876 hl (by decide) rfl (fun ls hl => ?_)
          refine lv_aload_n hx hb d_law_878 rfl (lv_at hl 3 rfl) ?_
          refine lv_aload_n hx hb d_law_879 rfl (lv_at hl 1 rfl) ?_
          refine lv_iload hx hb d_law_880 (lv_at hl 5 rfl) ?_
          refine lv_iconst (v := 1) hx hb d_law_882 (by decide) ?_
          refine lv_iadd hx hb d_law_883 ?_
          obtain ⟨v147, e148, h⟩ := gb h
          refine gw_aldI hx hb hK hI e148 d_law_884 ?_
          refine lv_aload_n hx hb d_law_885 rfl (lv_at hl 1 rfl) ?_
          refine lv_iload hx hb d_law_886 (lv_at hl 5 rfl) ?_
          refine lv_iconst (v := 2) hx hb d_law_888 (by decide) ?_
          refine lv_iadd hx hb d_law_889 ?_
          obtain ⟨v149, e150, h⟩ := gb h
          refine gw_aldI hx hb hK hI e150 d_law_890 ?_
          refine lv_i2l (v := v149.toInt64) hx hb d_law_891 rfl ?_
          refine lv_bipush (v := 32) hx hb d_law_892 (by decide) ?_
          refine lv_lshl (v := (v149.toInt64) <<< ((32 : Int32).toInt64 &&& 63)) hx hb d_law_894 rfl ?_
          refine lv_aload_n hx hb d_law_895 rfl (lv_at hl 1 rfl) ?_
          refine lv_iload hx hb d_law_896 (lv_at hl 5 rfl) ?_
          refine lv_iconst (v := 3) hx hb d_law_898 (by decide) ?_
          refine lv_iadd hx hb d_law_899 ?_
          obtain ⟨v151, e152, h⟩ := gb h
          refine gw_aldI hx hb hK hI e152 d_law_900 ?_
          refine lv_i2l (v := v151.toInt64) hx hb d_law_901 rfl ?_
          refine lv_ldc2 (v := 4294967295) hx hb hown (hT _ wd_1117 args) d_law_902 ?_
          refine lv_land hx hb d_law_905 ?_
          refine lv_lor hx hb d_law_906 ?_
          refine lv_aload_n hx hb d_law_907 rfl (lv_at hl 1 rfl) ?_
          refine lv_iload hx hb d_law_908 (lv_at hl 5 rfl) ?_
          refine lv_iconst (v := 4) hx hb d_law_910 (by decide) ?_
          refine lv_iadd hx hb d_law_911 ?_
          obtain ⟨v153, e154, h⟩ := gb h
          refine gw_aldI hx hb hK hI e154 d_law_912 ?_
          refine lv_i2l (v := v153.toInt64) hx hb d_law_913 rfl ?_
          refine lv_bipush (v := 32) hx hb d_law_914 (by decide) ?_
          refine lv_lshl (v := (v153.toInt64) <<< ((32 : Int32).toInt64 &&& 63)) hx hb d_law_916 rfl ?_
          refine lv_aload_n hx hb d_law_917 rfl (lv_at hl 1 rfl) ?_
          refine lv_iload hx hb d_law_918 (lv_at hl 5 rfl) ?_
          refine lv_iconst (v := 5) hx hb d_law_920 (by decide) ?_
          refine lv_iadd hx hb d_law_921 ?_
          obtain ⟨v155, e156, h⟩ := gb h
          refine gw_aldI hx hb hK hI e156 d_law_922 ?_
          refine lv_i2l (v := v155.toInt64) hx hb d_law_923 rfl ?_
          refine lv_ldc2 (v := 4294967295) hx hb hown (hT _ wd_1117 args) d_law_924 ?_
          refine lv_land hx hb d_law_927 ?_
          refine lv_lor hx hb d_law_928 ?_
          obtain ⟨q159, e160, h⟩ := gb h
          obtain ⟨u157, e158⟩ := gsome h
          refine gw_callI e158 h (gw_runV (As := [.int v147, .long (((v149.toInt64) <<< ((32 : Int32).toInt64 &&& 63)) ||| ((v151.toInt64) &&& 4294967295)), .long (((v153.toInt64) <<< ((32 : Int32).toInt64 &&& 63)) ||| ((v155.toInt64) &&& 4294967295))]) (rest := []) hx hb hml hown hT hK hZ hA hI (ci := 7) rfl e160 (m_M_prism l hst D g0 o9 v147 (((v149.toInt64) <<< ((32 : Int32).toInt64 &&& 63)) ||| ((v151.toInt64) &&& 4294967295)) (((v153.toInt64) <<< ((32 : Int32).toInt64 &&& 63)) ||| ((v155.toInt64) &&& 4294967295)) w u157 e158) ce_M_prism wd_910 wd_912 ⟨by decide, by decide⟩ rfl rfl hl.1 rfl (lv_room (Nat.le_of_ble_eq_true rfl)) d_law_929 ⟨(show ((16015 - (n + 1) * 31) + 8) + 0 ≤ 601024 by omega), (show ((905842 - (n + 1) * 1745) + 116) + 0 ≤ 7293000 by omega)⟩) hI hA hexc (show ((16015 - (n + 1) * 31) + 8) + 0 ≤ 601024 by omega) (show ((905842 - (n + 1) * 1745) + 116) + 0 ≤ 7293000 by omega) (fun v161 w H locs h hI => ?_)
          refine lv_istore (lv' := [(6, .int v161), (5, .int v146), (0, .ref a0), (1, .ref o1), (2, .ref o9), (3, .ref o17), (4, .int z29)]) hx hb d_law_932 hl (by decide) rfl (fun ls hl => ?_)
          refine lv_goto (tgt := 2069) hx hb d_law_934 (by decide) ?_
          refine W.widen (k := ((16015 - (n + 1) * 31) + 31)) (n := ((905842 - (n + 1) * 1745) + 1745)) (show ((16015 - (n + 1) * 31) + 8) ≤ ((16015 - (n + 1) * 31) + 31) by omega) (show ((905842 - (n + 1) * 1745) + 116) ≤ ((905842 - (n + 1) * 1745) + 1745) by omega) ?_
          exact hK2069 w H locs ls h hI (lv_sub hl [2, 3, 4, 5, 6] rfl)
        have h := gie c133 h
        rcases Decidable.em ((v33 &&& 31) = 5) with c162 | c162
        · have h := git c162 h
          refine lv_tableIn (off := 885) (tgt := 937) hx hb d_law_52 (by rw [c162]; decide) (by rw [c162]; decide) (by rw [c162]; decide) (by decide) ?_
          refine W.widen (k := 16015) (n := 905842) (show (16015 - (n + 1) * 31) ≤ 16015 by omega) (show (905842 - (n + 1) * 1745) ≤ 905842 by omega) ?_
          exact hK937 _ w H locs ls h hI (lv_sub hl [0, 1, 3, 4] rfl)
        have h := gie c162 h
        rcases Decidable.em ((v33 &&& 31) = 6) with c163 | c163
        · have h := git c163 h
          refine lv_tableIn (off := 1159) (tgt := 1211) hx hb d_law_52 (by rw [c163]; decide) (by rw [c163]; decide) (by rw [c163]; decide) (by decide) ?_
          refine lv_aload_n hx hb d_law_1211 rfl (lv_at hl 1 rfl) ?_
          refine lv_aload_n hx hb d_law_1212 rfl (lv_at hl 0 rfl) ?_
          refine lv_iload hx hb d_law_1213 (lv_at hl 4 rfl) ?_
          refine lv_iconst (v := 1) hx hb d_law_1215 (by decide) ?_
          refine lv_iadd hx hb d_law_1216 ?_
          obtain ⟨v164, e165, h⟩ := gb h
          refine gw_aldI hx hb hK hI e165 d_law_1217 ?_
          refine lv_aload_n hx hb d_law_1218 rfl (lv_at hl 0 rfl) ?_
          refine lv_iload hx hb d_law_1219 (lv_at hl 4 rfl) ?_
          refine lv_iconst (v := 2) hx hb d_law_1221 (by decide) ?_
          refine lv_iadd hx hb d_law_1222 ?_
          obtain ⟨v166, e167, h⟩ := gb h
          refine gw_aldI hx hb hK hI e167 d_law_1223 ?_
          refine lv_aload_n hx hb d_law_1224 rfl (lv_at hl 3 rfl) ?_
          obtain ⟨u168, e169⟩ := gsome h
          refine gw_callI e169 h (gw_runS (As := [.ref o1, .int v164, .int v166, .ref o17]) (rest := []) hx hb hml hown hT hK hZ hA hI (m_W_join l hst D g0 o1 v164 v166 o17 w u168 e169) ce_W_join wd_622 ⟨by decide, by decide⟩ rfl rfl hl.1 rfl (lv_room (Nat.le_of_ble_eq_true rfl)) d_law_1225 ⟨(show (16015 - (n + 1) * 31) + 31 ≤ 601024 by omega), (show (905842 - (n + 1) * 1745) + 1745 ≤ 7293000 by omega)⟩) hI hA hexc (show (16015 - (n + 1) * 31) + 31 ≤ 601024 by omega) (show (905842 - (n + 1) * 1745) + 1745 ≤ 7293000 by omega) (fun v170 w H locs h hI => ?_)
          refine W.widen (k := ((16015 - (n + 1) * 31) + 31)) (n := ((905842 - (n + 1) * 1745) + 1745)) (show (16015 - (n + 1) * 31) + 31 ≤ ((16015 - (n + 1) * 31) + 31) by omega) (show (905842 - (n + 1) * 1745) + 1745 ≤ ((905842 - (n + 1) * 1745) + 1745) by omega) ?_
          refine lv_istore (lv' := [(5, .int v170), (0, .ref a0), (1, .ref o1), (2, .ref o9), (3, .ref o17), (4, .int z29)]) hx hb d_law_1228 hl (by decide) rfl (fun ls hl => ?_)
          refine lv_aload_n hx hb d_law_1230 rfl (lv_at hl 3 rfl) ?_
          refine lv_aload_n hx hb d_law_1231 rfl (lv_at hl 1 rfl) ?_
          refine lv_iload hx hb d_law_1232 (lv_at hl 5 rfl) ?_
          refine lv_iconst (v := 1) hx hb d_law_1234 (by decide) ?_
          refine lv_iadd hx hb d_law_1235 ?_
          obtain ⟨v171, e172, h⟩ := gb h
          refine gw_aldI hx hb hK hI e172 d_law_1236 ?_
          refine lv_aload_n hx hb d_law_1237 rfl (lv_at hl 1 rfl) ?_
          refine lv_iload hx hb d_law_1238 (lv_at hl 5 rfl) ?_
          refine lv_iconst (v := 2) hx hb d_law_1240 (by decide) ?_
          refine lv_iadd hx hb d_law_1241 ?_
          obtain ⟨v173, e174, h⟩ := gb h
          refine gw_aldI hx hb hK hI e174 d_law_1242 ?_
          obtain ⟨q177, e178, h⟩ := gb h
          obtain ⟨u175, e176⟩ := gsome h
          refine gw_callI e176 h (gw_runV (As := [.int v171, .int v173]) (rest := []) hx hb hml hown hT hK hZ hA hI (ci := 7) rfl e178 (m_M_join l hst D g0 o9 v171 v173 w u175 e176) ce_M_join wd_928 wd_930 ⟨by decide, by decide⟩ rfl rfl hl.1 rfl (lv_room (Nat.le_of_ble_eq_true rfl)) d_law_1243 ⟨(show ((16015 - (n + 1) * 31) + 31) + 0 ≤ 601024 by omega), (show ((905842 - (n + 1) * 1745) + 1745) + 0 ≤ 7293000 by omega)⟩) hI hA hexc (show ((16015 - (n + 1) * 31) + 31) + 0 ≤ 601024 by omega) (show ((905842 - (n + 1) * 1745) + 1745) + 0 ≤ 7293000 by omega) (fun v179 w H locs h hI => ?_)
          refine lv_istore (lv' := [(6, .int v179), (5, .int v170), (0, .ref a0), (1, .ref o1), (2, .ref o9), (3, .ref o17), (4, .int z29)]) hx hb d_law_1246 hl (by decide) rfl (fun ls hl => ?_)
          refine lv_goto (tgt := 2069) hx hb d_law_1248 (by decide) ?_
          exact hK2069 w H locs ls h hI (lv_sub hl [2, 3, 4, 5, 6] rfl)
        have h := gie c163 h
        rcases Decidable.em ((v33 &&& 31) = 7) with c180 | c180
        · have h := git c180 h
          refine lv_tableIn (off := 1199) (tgt := 1251) hx hb d_law_52 (by rw [c180]; decide) (by rw [c180]; decide) (by rw [c180]; decide) (by decide) ?_
          refine lv_aload_n hx hb d_law_1251 rfl (lv_at hl 1 rfl) ?_
          refine lv_aload_n hx hb d_law_1252 rfl (lv_at hl 0 rfl) ?_
          refine lv_iload hx hb d_law_1253 (lv_at hl 4 rfl) ?_
          refine lv_iconst (v := 1) hx hb d_law_1255 (by decide) ?_
          refine lv_iadd hx hb d_law_1256 ?_
          obtain ⟨v181, e182, h⟩ := gb h
          refine gw_aldI hx hb hK hI e182 d_law_1257 ?_
          refine lv_aload_n hx hb d_law_1258 rfl (lv_at hl 0 rfl) ?_
          refine lv_iload hx hb d_law_1259 (lv_at hl 4 rfl) ?_
          refine lv_iconst (v := 2) hx hb d_law_1261 (by decide) ?_
          refine lv_iadd hx hb d_law_1262 ?_
          obtain ⟨v183, e184, h⟩ := gb h
          refine gw_aldI hx hb hK hI e184 d_law_1263 ?_
          refine lv_i2l (v := v183.toInt64) hx hb d_law_1264 rfl ?_
          refine lv_bipush (v := 32) hx hb d_law_1265 (by decide) ?_
          refine lv_lshl (v := (v183.toInt64) <<< ((32 : Int32).toInt64 &&& 63)) hx hb d_law_1267 rfl ?_
          refine lv_aload_n hx hb d_law_1268 rfl (lv_at hl 0 rfl) ?_
          refine lv_iload hx hb d_law_1269 (lv_at hl 4 rfl) ?_
          refine lv_iconst (v := 3) hx hb d_law_1271 (by decide) ?_
          refine lv_iadd hx hb d_law_1272 ?_
          obtain ⟨v185, e186, h⟩ := gb h
          refine gw_aldI hx hb hK hI e186 d_law_1273 ?_
          refine lv_i2l (v := v185.toInt64) hx hb d_law_1274 rfl ?_
          refine lv_ldc2 (v := 4294967295) hx hb hown (hT _ wd_1117 args) d_law_1275 ?_
          refine lv_land hx hb d_law_1278 ?_
          refine lv_lor hx hb d_law_1279 ?_
          refine lv_aload_n hx hb d_law_1280 rfl (lv_at hl 0 rfl) ?_
          refine lv_iload hx hb d_law_1281 (lv_at hl 4 rfl) ?_
          refine lv_iconst (v := 4) hx hb d_law_1283 (by decide) ?_
          refine lv_iadd hx hb d_law_1284 ?_
          obtain ⟨v187, e188, h⟩ := gb h
          refine gw_aldI hx hb hK hI e188 d_law_1285 ?_
          refine lv_i2l (v := v187.toInt64) hx hb d_law_1286 rfl ?_
          refine lv_bipush (v := 32) hx hb d_law_1287 (by decide) ?_
          refine lv_lshl (v := (v187.toInt64) <<< ((32 : Int32).toInt64 &&& 63)) hx hb d_law_1289 rfl ?_
          refine lv_aload_n hx hb d_law_1290 rfl (lv_at hl 0 rfl) ?_
          refine lv_iload hx hb d_law_1291 (lv_at hl 4 rfl) ?_
          refine lv_iconst (v := 5) hx hb d_law_1293 (by decide) ?_
          refine lv_iadd hx hb d_law_1294 ?_
          obtain ⟨v189, e190, h⟩ := gb h
          refine gw_aldI hx hb hK hI e190 d_law_1295 ?_
          refine lv_i2l (v := v189.toInt64) hx hb d_law_1296 rfl ?_
          refine lv_ldc2 (v := 4294967295) hx hb hown (hT _ wd_1117 args) d_law_1297 ?_
          refine lv_land hx hb d_law_1300 ?_
          refine lv_lor hx hb d_law_1301 ?_
          refine lv_aload_n hx hb d_law_1302 rfl (lv_at hl 0 rfl) ?_
          refine lv_iload hx hb d_law_1303 (lv_at hl 4 rfl) ?_
          refine lv_bipush (v := 6) hx hb d_law_1305 (by decide) ?_
          refine lv_iadd hx hb d_law_1307 ?_
          obtain ⟨v191, e192, h⟩ := gb h
          refine gw_aldI hx hb hK hI e192 d_law_1308 ?_
          refine lv_aload_n hx hb d_law_1309 rfl (lv_at hl 0 rfl) ?_
          refine lv_iload hx hb d_law_1310 (lv_at hl 4 rfl) ?_
          refine lv_bipush (v := 7) hx hb d_law_1312 (by decide) ?_
          refine lv_iadd hx hb d_law_1314 ?_
          obtain ⟨v193, e194, h⟩ := gb h
          refine gw_aldI hx hb hK hI e194 d_law_1315 ?_
          refine lv_aload_n hx hb d_law_1316 rfl (lv_at hl 3 rfl) ?_
          obtain ⟨u195, e196⟩ := gsome h
          refine gw_callI e196 h (gw_runS (As := [.ref o1, .int v181, .long (((v183.toInt64) <<< ((32 : Int32).toInt64 &&& 63)) ||| ((v185.toInt64) &&& 4294967295)), .long (((v187.toInt64) <<< ((32 : Int32).toInt64 &&& 63)) ||| ((v189.toInt64) &&& 4294967295)), .int v191, .int v193, .ref o17]) (rest := []) hx hb hml hown hT hK hZ hA hI (m_W_place l hst D g0 o1 v181 (((v183.toInt64) <<< ((32 : Int32).toInt64 &&& 63)) ||| ((v185.toInt64) &&& 4294967295)) (((v187.toInt64) <<< ((32 : Int32).toInt64 &&& 63)) ||| ((v189.toInt64) &&& 4294967295)) v191 v193 o17 w u195 e196) ce_W_place wd_635 ⟨by decide, by decide⟩ rfl rfl hl.1 rfl (lv_room (Nat.le_of_ble_eq_true rfl)) d_law_1317 ⟨(show (16015 - (n + 1) * 31) + 7 ≤ 601024 by omega), (show (905842 - (n + 1) * 1745) + 99 ≤ 7293000 by omega)⟩) hI hA hexc (show (16015 - (n + 1) * 31) + 7 ≤ 601024 by omega) (show (905842 - (n + 1) * 1745) + 99 ≤ 7293000 by omega) (fun v197 w H locs h hI => ?_)
          refine W.widen (k := ((16015 - (n + 1) * 31) + 7)) (n := ((905842 - (n + 1) * 1745) + 99)) (show (16015 - (n + 1) * 31) + 7 ≤ ((16015 - (n + 1) * 31) + 7) by omega) (show (905842 - (n + 1) * 1745) + 99 ≤ ((905842 - (n + 1) * 1745) + 99) by omega) ?_
          refine lv_istore (lv' := [(5, .int v197), (0, .ref a0), (1, .ref o1), (2, .ref o9), (3, .ref o17), (4, .int z29)]) hx hb d_law_1320 hl (by decide) rfl (fun ls hl => ?_)
          refine lv_aload_n hx hb d_law_1322 rfl (lv_at hl 3 rfl) ?_
          refine lv_aload_n hx hb d_law_1323 rfl (lv_at hl 1 rfl) ?_
          refine lv_iload hx hb d_law_1324 (lv_at hl 5 rfl) ?_
          refine lv_iconst (v := 1) hx hb d_law_1326 (by decide) ?_
          refine lv_iadd hx hb d_law_1327 ?_
          obtain ⟨v198, e199, h⟩ := gb h
          refine gw_aldI hx hb hK hI e199 d_law_1328 ?_
          refine lv_aload_n hx hb d_law_1329 rfl (lv_at hl 1 rfl) ?_
          refine lv_iload hx hb d_law_1330 (lv_at hl 5 rfl) ?_
          refine lv_iconst (v := 2) hx hb d_law_1332 (by decide) ?_
          refine lv_iadd hx hb d_law_1333 ?_
          obtain ⟨v200, e201, h⟩ := gb h
          refine gw_aldI hx hb hK hI e201 d_law_1334 ?_
          refine lv_i2l (v := v200.toInt64) hx hb d_law_1335 rfl ?_
          refine lv_bipush (v := 32) hx hb d_law_1336 (by decide) ?_
          refine lv_lshl (v := (v200.toInt64) <<< ((32 : Int32).toInt64 &&& 63)) hx hb d_law_1338 rfl ?_
          refine lv_aload_n hx hb d_law_1339 rfl (lv_at hl 1 rfl) ?_
          refine lv_iload hx hb d_law_1340 (lv_at hl 5 rfl) ?_
          refine lv_iconst (v := 3) hx hb d_law_1342 (by decide) ?_
          refine lv_iadd hx hb d_law_1343 ?_
          obtain ⟨v202, e203, h⟩ := gb h
          refine gw_aldI hx hb hK hI e203 d_law_1344 ?_
          refine lv_i2l (v := v202.toInt64) hx hb d_law_1345 rfl ?_
          refine lv_ldc2 (v := 4294967295) hx hb hown (hT _ wd_1117 args) d_law_1346 ?_
          refine lv_land hx hb d_law_1349 ?_
          refine lv_lor hx hb d_law_1350 ?_
          refine lv_aload_n hx hb d_law_1351 rfl (lv_at hl 1 rfl) ?_
          refine lv_iload hx hb d_law_1352 (lv_at hl 5 rfl) ?_
          refine lv_iconst (v := 4) hx hb d_law_1354 (by decide) ?_
          refine lv_iadd hx hb d_law_1355 ?_
          obtain ⟨v204, e205, h⟩ := gb h
          refine gw_aldI hx hb hK hI e205 d_law_1356 ?_
          refine lv_i2l (v := v204.toInt64) hx hb d_law_1357 rfl ?_
          refine lv_bipush (v := 32) hx hb d_law_1358 (by decide) ?_
          refine lv_lshl (v := (v204.toInt64) <<< ((32 : Int32).toInt64 &&& 63)) hx hb d_law_1360 rfl ?_
          refine lv_aload_n hx hb d_law_1361 rfl (lv_at hl 1 rfl) ?_
          refine lv_iload hx hb d_law_1362 (lv_at hl 5 rfl) ?_
          refine lv_iconst (v := 5) hx hb d_law_1364 (by decide) ?_
          refine lv_iadd hx hb d_law_1365 ?_
          obtain ⟨v206, e207, h⟩ := gb h
          refine gw_aldI hx hb hK hI e207 d_law_1366 ?_
          refine lv_i2l (v := v206.toInt64) hx hb d_law_1367 rfl ?_
          refine lv_ldc2 (v := 4294967295) hx hb hown (hT _ wd_1117 args) d_law_1368 ?_
          refine lv_land hx hb d_law_1371 ?_
          refine lv_lor hx hb d_law_1372 ?_
          refine lv_aload_n hx hb d_law_1373 rfl (lv_at hl 1 rfl) ?_
          refine lv_iload hx hb d_law_1374 (lv_at hl 5 rfl) ?_
          refine lv_bipush (v := 6) hx hb d_law_1376 (by decide) ?_
          refine lv_iadd hx hb d_law_1378 ?_
          obtain ⟨v208, e209, h⟩ := gb h
          refine gw_aldI hx hb hK hI e209 d_law_1379 ?_
          refine lv_aload_n hx hb d_law_1380 rfl (lv_at hl 1 rfl) ?_
          refine lv_iload hx hb d_law_1381 (lv_at hl 5 rfl) ?_
          refine lv_bipush (v := 7) hx hb d_law_1383 (by decide) ?_
          refine lv_iadd hx hb d_law_1385 ?_
          obtain ⟨v210, e211, h⟩ := gb h
          refine gw_aldI hx hb hK hI e211 d_law_1386 ?_
          obtain ⟨q214, e215, h⟩ := gb h
          obtain ⟨u212, e213⟩ := gsome h
          refine gw_callI e213 h (gw_runV (As := [.int v198, .long (((v200.toInt64) <<< ((32 : Int32).toInt64 &&& 63)) ||| ((v202.toInt64) &&& 4294967295)), .long (((v204.toInt64) <<< ((32 : Int32).toInt64 &&& 63)) ||| ((v206.toInt64) &&& 4294967295)), .int v208, .int v210]) (rest := []) hx hb hml hown hT hK hZ hA hI (ci := 7) rfl e215 (m_M_place l hst D g0 o9 v198 (((v200.toInt64) <<< ((32 : Int32).toInt64 &&& 63)) ||| ((v202.toInt64) &&& 4294967295)) (((v204.toInt64) <<< ((32 : Int32).toInt64 &&& 63)) ||| ((v206.toInt64) &&& 4294967295)) v208 v210 w u212 e213) ce_M_place wd_936 wd_938 ⟨by decide, by decide⟩ rfl rfl hl.1 rfl (lv_room (Nat.le_of_ble_eq_true rfl)) d_law_1387 ⟨(show ((16015 - (n + 1) * 31) + 7) + 0 ≤ 601024 by omega), (show ((905842 - (n + 1) * 1745) + 99) + 0 ≤ 7293000 by omega)⟩) hI hA hexc (show ((16015 - (n + 1) * 31) + 7) + 0 ≤ 601024 by omega) (show ((905842 - (n + 1) * 1745) + 99) + 0 ≤ 7293000 by omega) (fun v216 w H locs h hI => ?_)
          refine lv_istore (lv' := [(6, .int v216), (5, .int v197), (0, .ref a0), (1, .ref o1), (2, .ref o9), (3, .ref o17), (4, .int z29)]) hx hb d_law_1390 hl (by decide) rfl (fun ls hl => ?_)
          refine lv_goto (tgt := 2069) hx hb d_law_1392 (by decide) ?_
          refine W.widen (k := ((16015 - (n + 1) * 31) + 31)) (n := ((905842 - (n + 1) * 1745) + 1745)) (show ((16015 - (n + 1) * 31) + 7) ≤ ((16015 - (n + 1) * 31) + 31) by omega) (show ((905842 - (n + 1) * 1745) + 99) ≤ ((905842 - (n + 1) * 1745) + 1745) by omega) ?_
          exact hK2069 w H locs ls h hI (lv_sub hl [2, 3, 4, 5, 6] rfl)
        have h := gie c180 h
        rcases Decidable.em ((v33 &&& 31) = 8) with c217 | c217
        · have h := git c217 h
          refine lv_tableIn (off := 1343) (tgt := 1395) hx hb d_law_52 (by rw [c217]; decide) (by rw [c217]; decide) (by rw [c217]; decide) (by decide) ?_
          refine W.widen (k := 16015) (n := 905842) (show (16015 - (n + 1) * 31) ≤ 16015 by omega) (show (905842 - (n + 1) * 1745) ≤ 905842 by omega) ?_
          exact hK1395 _ w H locs ls h hI (lv_sub hl [0, 1, 3, 4] rfl)
        have h := gie c217 h
        rcases Decidable.em ((v33 &&& 31) = 9) with c218 | c218
        · have h := git c218 h
          refine lv_tableIn (off := 1487) (tgt := 1539) hx hb d_law_52 (by rw [c218]; decide) (by rw [c218]; decide) (by rw [c218]; decide) (by decide) ?_
          refine W.widen (k := 16015) (n := 905842) (show (16015 - (n + 1) * 31) ≤ 16015 by omega) (show (905842 - (n + 1) * 1745) ≤ 905842 by omega) ?_
          exact hK1539 _ w H locs ls h hI (lv_sub hl [0, 1, 3, 4] rfl)
        have h := gie c218 h
        rcases Decidable.em ((v33 &&& 31) = 10) with c219 | c219
        · have h := git c219 h
          refine lv_tableIn (off := 1527) (tgt := 1579) hx hb d_law_52 (by rw [c219]; decide) (by rw [c219]; decide) (by rw [c219]; decide) (by decide) ?_
          refine W.widen (k := 16015) (n := 905842) (show (16015 - (n + 1) * 31) ≤ 16015 by omega) (show (905842 - (n + 1) * 1745) ≤ 905842 by omega) ?_
          exact hK1579 w H locs ls h hI (lv_sub hl [1] rfl)
        have h := gie c219 h
        rcases Decidable.em ((v33 &&& 31) = 11) with c220 | c220
        · have h := git c220 h
          refine lv_tableIn (off := 1540) (tgt := 1592) hx hb d_law_52 (by rw [c220]; decide) (by rw [c220]; decide) (by rw [c220]; decide) (by decide) ?_
          refine W.widen (k := 16015) (n := 905842) (show (16015 - (n + 1) * 31) ≤ 16015 by omega) (show (905842 - (n + 1) * 1745) ≤ 905842 by omega) ?_
          exact hK1592 _ w H locs ls h hI (lv_sub hl [0, 1, 3, 4] rfl)
        have h := gie c220 h
        rcases Decidable.em ((v33 &&& 31) = 12) with c221 | c221
        · have h := git c221 h
          refine lv_tableIn (off := 1580) (tgt := 1632) hx hb d_law_52 (by rw [c221]; decide) (by rw [c221]; decide) (by rw [c221]; decide) (by decide) ?_
          refine lv_aload_n hx hb d_law_1632 rfl (lv_at hl 1 rfl) ?_
          refine lv_aload_n hx hb d_law_1633 rfl (lv_at hl 0 rfl) ?_
          refine lv_iload hx hb d_law_1634 (lv_at hl 4 rfl) ?_
          refine lv_iconst (v := 1) hx hb d_law_1636 (by decide) ?_
          refine lv_iadd hx hb d_law_1637 ?_
          obtain ⟨v222, e223, h⟩ := gb h
          refine gw_aldI hx hb hK hI e223 d_law_1638 ?_
          refine lv_i2l (v := v222.toInt64) hx hb d_law_1639 rfl ?_
          refine lv_bipush (v := 32) hx hb d_law_1640 (by decide) ?_
          refine lv_lshl (v := (v222.toInt64) <<< ((32 : Int32).toInt64 &&& 63)) hx hb d_law_1642 rfl ?_
          refine lv_aload_n hx hb d_law_1643 rfl (lv_at hl 0 rfl) ?_
          refine lv_iload hx hb d_law_1644 (lv_at hl 4 rfl) ?_
          refine lv_iconst (v := 2) hx hb d_law_1646 (by decide) ?_
          refine lv_iadd hx hb d_law_1647 ?_
          obtain ⟨v224, e225, h⟩ := gb h
          refine gw_aldI hx hb hK hI e225 d_law_1648 ?_
          refine lv_i2l (v := v224.toInt64) hx hb d_law_1649 rfl ?_
          refine lv_ldc2 (v := 4294967295) hx hb hown (hT _ wd_1117 args) d_law_1650 ?_
          refine lv_land hx hb d_law_1653 ?_
          refine lv_lor hx hb d_law_1654 ?_
          refine lv_aload_n hx hb d_law_1655 rfl (lv_at hl 0 rfl) ?_
          refine lv_iload hx hb d_law_1656 (lv_at hl 4 rfl) ?_
          refine lv_iconst (v := 3) hx hb d_law_1658 (by decide) ?_
          refine lv_iadd hx hb d_law_1659 ?_
          obtain ⟨v226, e227, h⟩ := gb h
          refine gw_aldI hx hb hK hI e227 d_law_1660 ?_
          refine lv_i2l (v := v226.toInt64) hx hb d_law_1661 rfl ?_
          refine lv_bipush (v := 32) hx hb d_law_1662 (by decide) ?_
          refine lv_lshl (v := (v226.toInt64) <<< ((32 : Int32).toInt64 &&& 63)) hx hb d_law_1664 rfl ?_
          refine lv_aload_n hx hb d_law_1665 rfl (lv_at hl 0 rfl) ?_
          refine lv_iload hx hb d_law_1666 (lv_at hl 4 rfl) ?_
          refine lv_iconst (v := 4) hx hb d_law_1668 (by decide) ?_
          refine lv_iadd hx hb d_law_1669 ?_
          obtain ⟨v228, e229, h⟩ := gb h
          refine gw_aldI hx hb hK hI e229 d_law_1670 ?_
          refine lv_i2l (v := v228.toInt64) hx hb d_law_1671 rfl ?_
          refine lv_ldc2 (v := 4294967295) hx hb hown (hT _ wd_1117 args) d_law_1672 ?_
          refine lv_land hx hb d_law_1675 ?_
          refine lv_lor hx hb d_law_1676 ?_
          refine lv_aload_n hx hb d_law_1677 rfl (lv_at hl 0 rfl) ?_
          refine lv_iload hx hb d_law_1678 (lv_at hl 4 rfl) ?_
          refine lv_iconst (v := 5) hx hb d_law_1680 (by decide) ?_
          refine lv_iadd hx hb d_law_1681 ?_
          obtain ⟨v230, e231, h⟩ := gb h
          refine gw_aldI hx hb hK hI e231 d_law_1682 ?_
          refine lv_i2l (v := v230.toInt64) hx hb d_law_1683 rfl ?_
          refine lv_bipush (v := 32) hx hb d_law_1684 (by decide) ?_
          refine lv_lshl (v := (v230.toInt64) <<< ((32 : Int32).toInt64 &&& 63)) hx hb d_law_1686 rfl ?_
          refine lv_aload_n hx hb d_law_1687 rfl (lv_at hl 0 rfl) ?_
          refine lv_iload hx hb d_law_1688 (lv_at hl 4 rfl) ?_
          refine lv_bipush (v := 6) hx hb d_law_1690 (by decide) ?_
          refine lv_iadd hx hb d_law_1692 ?_
          obtain ⟨v232, e233, h⟩ := gb h
          refine gw_aldI hx hb hK hI e233 d_law_1693 ?_
          refine lv_i2l (v := v232.toInt64) hx hb d_law_1694 rfl ?_
          refine lv_ldc2 (v := 4294967295) hx hb hown (hT _ wd_1117 args) d_law_1695 ?_
          refine lv_land hx hb d_law_1698 ?_
          refine lv_lor hx hb d_law_1699 ?_
          refine lv_aload_n hx hb d_law_1700 rfl (lv_at hl 0 rfl) ?_
          refine lv_iload hx hb d_law_1701 (lv_at hl 4 rfl) ?_
          refine lv_bipush (v := 7) hx hb d_law_1703 (by decide) ?_
          refine lv_iadd hx hb d_law_1705 ?_
          obtain ⟨v234, e235, h⟩ := gb h
          refine gw_aldI hx hb hK hI e235 d_law_1706 ?_
          refine lv_i2l (v := v234.toInt64) hx hb d_law_1707 rfl ?_
          refine lv_bipush (v := 32) hx hb d_law_1708 (by decide) ?_
          refine lv_lshl (v := (v234.toInt64) <<< ((32 : Int32).toInt64 &&& 63)) hx hb d_law_1710 rfl ?_
          refine lv_aload_n hx hb d_law_1711 rfl (lv_at hl 0 rfl) ?_
          refine lv_iload hx hb d_law_1712 (lv_at hl 4 rfl) ?_
          refine lv_bipush (v := 8) hx hb d_law_1714 (by decide) ?_
          refine lv_iadd hx hb d_law_1716 ?_
          obtain ⟨v236, e237, h⟩ := gb h
          refine gw_aldI hx hb hK hI e237 d_law_1717 ?_
          refine lv_i2l (v := v236.toInt64) hx hb d_law_1718 rfl ?_
          refine lv_ldc2 (v := 4294967295) hx hb hown (hT _ wd_1117 args) d_law_1719 ?_
          refine lv_land hx hb d_law_1722 ?_
          refine lv_lor hx hb d_law_1723 ?_
          refine lv_aload_n hx hb d_law_1724 rfl (lv_at hl 0 rfl) ?_
          refine lv_iload hx hb d_law_1725 (lv_at hl 4 rfl) ?_
          refine lv_bipush (v := 9) hx hb d_law_1727 (by decide) ?_
          refine lv_iadd hx hb d_law_1729 ?_
          obtain ⟨v238, e239, h⟩ := gb h
          refine gw_aldI hx hb hK hI e239 d_law_1730 ?_
          refine lv_aload_n hx hb d_law_1731 rfl (lv_at hl 0 rfl) ?_
          refine lv_iload hx hb d_law_1732 (lv_at hl 4 rfl) ?_
          refine lv_bipush (v := 10) hx hb d_law_1734 (by decide) ?_
          refine lv_iadd hx hb d_law_1736 ?_
          obtain ⟨v240, e241, h⟩ := gb h
          refine gw_aldI hx hb hK hI e241 d_law_1737 ?_
          refine lv_i2l (v := v240.toInt64) hx hb d_law_1738 rfl ?_
          refine lv_bipush (v := 32) hx hb d_law_1739 (by decide) ?_
          refine lv_lshl (v := (v240.toInt64) <<< ((32 : Int32).toInt64 &&& 63)) hx hb d_law_1741 rfl ?_
          refine lv_aload_n hx hb d_law_1742 rfl (lv_at hl 0 rfl) ?_
          refine lv_iload hx hb d_law_1743 (lv_at hl 4 rfl) ?_
          refine lv_bipush (v := 11) hx hb d_law_1745 (by decide) ?_
          refine lv_iadd hx hb d_law_1747 ?_
          obtain ⟨v242, e243, h⟩ := gb h
          refine gw_aldI hx hb hK hI e243 d_law_1748 ?_
          refine lv_i2l (v := v242.toInt64) hx hb d_law_1749 rfl ?_
          refine lv_ldc2 (v := 4294967295) hx hb hown (hT _ wd_1117 args) d_law_1750 ?_
          refine lv_land hx hb d_law_1753 ?_
          refine lv_lor hx hb d_law_1754 ?_
          refine lv_aload_n hx hb d_law_1755 rfl (lv_at hl 3 rfl) ?_
          obtain ⟨u244, e245⟩ := gsome h
          refine gw_callI e245 h (gw_runS (As := [.ref o1, .long (((v222.toInt64) <<< ((32 : Int32).toInt64 &&& 63)) ||| ((v224.toInt64) &&& 4294967295)), .long (((v226.toInt64) <<< ((32 : Int32).toInt64 &&& 63)) ||| ((v228.toInt64) &&& 4294967295)), .long (((v230.toInt64) <<< ((32 : Int32).toInt64 &&& 63)) ||| ((v232.toInt64) &&& 4294967295)), .long (((v234.toInt64) <<< ((32 : Int32).toInt64 &&& 63)) ||| ((v236.toInt64) &&& 4294967295)), .int v238, .long (((v240.toInt64) <<< ((32 : Int32).toInt64 &&& 63)) ||| ((v242.toInt64) &&& 4294967295)), .ref o17]) (rest := []) hx hb hml hown hT hK hZ hA hI (m_W_keepOut l hst D g0 o1 (((v222.toInt64) <<< ((32 : Int32).toInt64 &&& 63)) ||| ((v224.toInt64) &&& 4294967295)) (((v226.toInt64) <<< ((32 : Int32).toInt64 &&& 63)) ||| ((v228.toInt64) &&& 4294967295)) (((v230.toInt64) <<< ((32 : Int32).toInt64 &&& 63)) ||| ((v232.toInt64) &&& 4294967295)) (((v234.toInt64) <<< ((32 : Int32).toInt64 &&& 63)) ||| ((v236.toInt64) &&& 4294967295)) v238 (((v240.toInt64) <<< ((32 : Int32).toInt64 &&& 63)) ||| ((v242.toInt64) &&& 4294967295)) o17 w u244 e245) ce_W_keepOut wd_704 ⟨by decide, by decide⟩ rfl rfl hl.1 rfl (lv_room (Nat.le_of_ble_eq_true rfl)) d_law_1756 ⟨(show (16015 - (n + 1) * 31) + 11 ≤ 601024 by omega), (show (905842 - (n + 1) * 1745) + 130 ≤ 7293000 by omega)⟩) hI hA hexc (show (16015 - (n + 1) * 31) + 11 ≤ 601024 by omega) (show (905842 - (n + 1) * 1745) + 130 ≤ 7293000 by omega) (fun v246 w H locs h hI => ?_)
          refine W.widen (k := ((16015 - (n + 1) * 31) + 11)) (n := ((905842 - (n + 1) * 1745) + 130)) (show (16015 - (n + 1) * 31) + 11 ≤ ((16015 - (n + 1) * 31) + 11) by omega) (show (905842 - (n + 1) * 1745) + 130 ≤ ((905842 - (n + 1) * 1745) + 130) by omega) ?_
          refine lv_istore (lv' := [(5, .int v246), (0, .ref a0), (1, .ref o1), (2, .ref o9), (3, .ref o17), (4, .int z29)]) hx hb d_law_1759 hl (by decide) rfl (fun ls hl => ?_)
          refine lv_aload_n hx hb d_law_1761 rfl (lv_at hl 3 rfl) ?_
          refine lv_aload_n hx hb d_law_1762 rfl (lv_at hl 1 rfl) ?_
          refine lv_iload hx hb d_law_1763 (lv_at hl 5 rfl) ?_
          refine lv_iconst (v := 1) hx hb d_law_1765 (by decide) ?_
          refine lv_iadd hx hb d_law_1766 ?_
          obtain ⟨v247, e248, h⟩ := gb h
          refine gw_aldI hx hb hK hI e248 d_law_1767 ?_
          refine lv_i2l (v := v247.toInt64) hx hb d_law_1768 rfl ?_
          refine lv_bipush (v := 32) hx hb d_law_1769 (by decide) ?_
          refine lv_lshl (v := (v247.toInt64) <<< ((32 : Int32).toInt64 &&& 63)) hx hb d_law_1771 rfl ?_
          refine lv_aload_n hx hb d_law_1772 rfl (lv_at hl 1 rfl) ?_
          refine lv_iload hx hb d_law_1773 (lv_at hl 5 rfl) ?_
          refine lv_iconst (v := 2) hx hb d_law_1775 (by decide) ?_
          refine lv_iadd hx hb d_law_1776 ?_
          obtain ⟨v249, e250, h⟩ := gb h
          refine gw_aldI hx hb hK hI e250 d_law_1777 ?_
          refine lv_i2l (v := v249.toInt64) hx hb d_law_1778 rfl ?_
          refine lv_ldc2 (v := 4294967295) hx hb hown (hT _ wd_1117 args) d_law_1779 ?_
          refine lv_land hx hb d_law_1782 ?_
          refine lv_lor hx hb d_law_1783 ?_
          refine lv_aload_n hx hb d_law_1784 rfl (lv_at hl 1 rfl) ?_
          refine lv_iload hx hb d_law_1785 (lv_at hl 5 rfl) ?_
          refine lv_iconst (v := 3) hx hb d_law_1787 (by decide) ?_
          refine lv_iadd hx hb d_law_1788 ?_
          obtain ⟨v251, e252, h⟩ := gb h
          refine gw_aldI hx hb hK hI e252 d_law_1789 ?_
          refine lv_i2l (v := v251.toInt64) hx hb d_law_1790 rfl ?_
          refine lv_bipush (v := 32) hx hb d_law_1791 (by decide) ?_
          refine lv_lshl (v := (v251.toInt64) <<< ((32 : Int32).toInt64 &&& 63)) hx hb d_law_1793 rfl ?_
          refine lv_aload_n hx hb d_law_1794 rfl (lv_at hl 1 rfl) ?_
          refine lv_iload hx hb d_law_1795 (lv_at hl 5 rfl) ?_
          refine lv_iconst (v := 4) hx hb d_law_1797 (by decide) ?_
          refine lv_iadd hx hb d_law_1798 ?_
          obtain ⟨v253, e254, h⟩ := gb h
          refine gw_aldI hx hb hK hI e254 d_law_1799 ?_
          refine lv_i2l (v := v253.toInt64) hx hb d_law_1800 rfl ?_
          refine lv_ldc2 (v := 4294967295) hx hb hown (hT _ wd_1117 args) d_law_1801 ?_
          refine lv_land hx hb d_law_1804 ?_
          refine lv_lor hx hb d_law_1805 ?_
          refine lv_aload_n hx hb d_law_1806 rfl (lv_at hl 1 rfl) ?_
          refine lv_iload hx hb d_law_1807 (lv_at hl 5 rfl) ?_
          refine lv_iconst (v := 5) hx hb d_law_1809 (by decide) ?_
          refine lv_iadd hx hb d_law_1810 ?_
          obtain ⟨v255, e256, h⟩ := gb h
          refine gw_aldI hx hb hK hI e256 d_law_1811 ?_
          refine lv_i2l (v := v255.toInt64) hx hb d_law_1812 rfl ?_
          refine lv_bipush (v := 32) hx hb d_law_1813 (by decide) ?_
          refine lv_lshl (v := (v255.toInt64) <<< ((32 : Int32).toInt64 &&& 63)) hx hb d_law_1815 rfl ?_
          refine lv_aload_n hx hb d_law_1816 rfl (lv_at hl 1 rfl) ?_
          refine lv_iload hx hb d_law_1817 (lv_at hl 5 rfl) ?_
          refine lv_bipush (v := 6) hx hb d_law_1819 (by decide) ?_
          refine lv_iadd hx hb d_law_1821 ?_
          obtain ⟨v257, e258, h⟩ := gb h
          refine gw_aldI hx hb hK hI e258 d_law_1822 ?_
          refine lv_i2l (v := v257.toInt64) hx hb d_law_1823 rfl ?_
          refine lv_ldc2 (v := 4294967295) hx hb hown (hT _ wd_1117 args) d_law_1824 ?_
          refine lv_land hx hb d_law_1827 ?_
          refine lv_lor hx hb d_law_1828 ?_
          refine lv_aload_n hx hb d_law_1829 rfl (lv_at hl 1 rfl) ?_
          refine lv_iload hx hb d_law_1830 (lv_at hl 5 rfl) ?_
          refine lv_bipush (v := 7) hx hb d_law_1832 (by decide) ?_
          refine lv_iadd hx hb d_law_1834 ?_
          obtain ⟨v259, e260, h⟩ := gb h
          refine gw_aldI hx hb hK hI e260 d_law_1835 ?_
          refine lv_i2l (v := v259.toInt64) hx hb d_law_1836 rfl ?_
          refine lv_bipush (v := 32) hx hb d_law_1837 (by decide) ?_
          refine lv_lshl (v := (v259.toInt64) <<< ((32 : Int32).toInt64 &&& 63)) hx hb d_law_1839 rfl ?_
          refine lv_aload_n hx hb d_law_1840 rfl (lv_at hl 1 rfl) ?_
          refine lv_iload hx hb d_law_1841 (lv_at hl 5 rfl) ?_
          refine lv_bipush (v := 8) hx hb d_law_1843 (by decide) ?_
          refine lv_iadd hx hb d_law_1845 ?_
          obtain ⟨v261, e262, h⟩ := gb h
          refine gw_aldI hx hb hK hI e262 d_law_1846 ?_
          refine lv_i2l (v := v261.toInt64) hx hb d_law_1847 rfl ?_
          refine lv_ldc2 (v := 4294967295) hx hb hown (hT _ wd_1117 args) d_law_1848 ?_
          refine lv_land hx hb d_law_1851 ?_
          refine lv_lor hx hb d_law_1852 ?_
          refine lv_aload_n hx hb d_law_1853 rfl (lv_at hl 1 rfl) ?_
          refine lv_iload hx hb d_law_1854 (lv_at hl 5 rfl) ?_
          refine lv_bipush (v := 9) hx hb d_law_1856 (by decide) ?_
          refine lv_iadd hx hb d_law_1858 ?_
          obtain ⟨v263, e264, h⟩ := gb h
          refine gw_aldI hx hb hK hI e264 d_law_1859 ?_
          refine lv_aload_n hx hb d_law_1860 rfl (lv_at hl 1 rfl) ?_
          refine lv_iload hx hb d_law_1861 (lv_at hl 5 rfl) ?_
          refine lv_bipush (v := 10) hx hb d_law_1863 (by decide) ?_
          refine lv_iadd hx hb d_law_1865 ?_
          obtain ⟨v265, e266, h⟩ := gb h
          refine gw_aldI hx hb hK hI e266 d_law_1866 ?_
          refine lv_i2l (v := v265.toInt64) hx hb d_law_1867 rfl ?_
          refine lv_bipush (v := 32) hx hb d_law_1868 (by decide) ?_
          refine lv_lshl (v := (v265.toInt64) <<< ((32 : Int32).toInt64 &&& 63)) hx hb d_law_1870 rfl ?_
          refine lv_aload_n hx hb d_law_1871 rfl (lv_at hl 1 rfl) ?_
          refine lv_iload hx hb d_law_1872 (lv_at hl 5 rfl) ?_
          refine lv_bipush (v := 11) hx hb d_law_1874 (by decide) ?_
          refine lv_iadd hx hb d_law_1876 ?_
          obtain ⟨v267, e268, h⟩ := gb h
          refine gw_aldI hx hb hK hI e268 d_law_1877 ?_
          refine lv_i2l (v := v267.toInt64) hx hb d_law_1878 rfl ?_
          refine lv_ldc2 (v := 4294967295) hx hb hown (hT _ wd_1117 args) d_law_1879 ?_
          refine lv_land hx hb d_law_1882 ?_
          refine lv_lor hx hb d_law_1883 ?_
          obtain ⟨q271, e272, h⟩ := gb h
          obtain ⟨u269, e270⟩ := gsome h
          refine gw_callI e270 h (gw_runV (As := [.long (((v247.toInt64) <<< ((32 : Int32).toInt64 &&& 63)) ||| ((v249.toInt64) &&& 4294967295)), .long (((v251.toInt64) <<< ((32 : Int32).toInt64 &&& 63)) ||| ((v253.toInt64) &&& 4294967295)), .long (((v255.toInt64) <<< ((32 : Int32).toInt64 &&& 63)) ||| ((v257.toInt64) &&& 4294967295)), .long (((v259.toInt64) <<< ((32 : Int32).toInt64 &&& 63)) ||| ((v261.toInt64) &&& 4294967295)), .int v263, .long (((v265.toInt64) <<< ((32 : Int32).toInt64 &&& 63)) ||| ((v267.toInt64) &&& 4294967295))]) (rest := []) hx hb hml hown hT hK hZ hA hI (ci := 7) rfl e272 (m_M_keepOut l hst D g0 o9 (((v247.toInt64) <<< ((32 : Int32).toInt64 &&& 63)) ||| ((v249.toInt64) &&& 4294967295)) (((v251.toInt64) <<< ((32 : Int32).toInt64 &&& 63)) ||| ((v253.toInt64) &&& 4294967295)) (((v255.toInt64) <<< ((32 : Int32).toInt64 &&& 63)) ||| ((v257.toInt64) &&& 4294967295)) (((v259.toInt64) <<< ((32 : Int32).toInt64 &&& 63)) ||| ((v261.toInt64) &&& 4294967295)) v263 (((v265.toInt64) <<< ((32 : Int32).toInt64 &&& 63)) ||| ((v267.toInt64) &&& 4294967295)) w u269 e270) ce_M_keepOut wd_1071 wd_1073 ⟨by decide, by decide⟩ rfl rfl hl.1 rfl (lv_room (Nat.le_of_ble_eq_true rfl)) d_law_1884 ⟨(show ((16015 - (n + 1) * 31) + 11) + 0 ≤ 601024 by omega), (show ((905842 - (n + 1) * 1745) + 130) + 0 ≤ 7293000 by omega)⟩) hI hA hexc (show ((16015 - (n + 1) * 31) + 11) + 0 ≤ 601024 by omega) (show ((905842 - (n + 1) * 1745) + 130) + 0 ≤ 7293000 by omega) (fun v273 w H locs h hI => ?_)
          refine lv_istore (lv' := [(6, .int v273), (5, .int v246), (0, .ref a0), (1, .ref o1), (2, .ref o9), (3, .ref o17), (4, .int z29)]) hx hb d_law_1887 hl (by decide) rfl (fun ls hl => ?_)
          refine lv_goto (tgt := 2069) hx hb d_law_1889 (by decide) ?_
          refine W.widen (k := ((16015 - (n + 1) * 31) + 31)) (n := ((905842 - (n + 1) * 1745) + 1745)) (show ((16015 - (n + 1) * 31) + 11) ≤ ((16015 - (n + 1) * 31) + 31) by omega) (show ((905842 - (n + 1) * 1745) + 130) ≤ ((905842 - (n + 1) * 1745) + 1745) by omega) ?_
          exact hK2069 w H locs ls h hI (lv_sub hl [2, 3, 4, 5, 6] rfl)
        have h := gie c221 h
        rcases Decidable.em ((v33 &&& 31) = 13) with c274 | c274
        · have h := git c274 h
          refine lv_tableIn (off := 1840) (tgt := 1892) hx hb d_law_52 (by rw [c274]; decide) (by rw [c274]; decide) (by rw [c274]; decide) (by decide) ?_
          refine lv_aload_n hx hb d_law_1892 rfl (lv_at hl 1 rfl) ?_
          refine lv_aload_n hx hb d_law_1893 rfl (lv_at hl 0 rfl) ?_
          refine lv_iload hx hb d_law_1894 (lv_at hl 4 rfl) ?_
          refine lv_iconst (v := 1) hx hb d_law_1896 (by decide) ?_
          refine lv_iadd hx hb d_law_1897 ?_
          obtain ⟨v275, e276, h⟩ := gb h
          refine gw_aldI hx hb hK hI e276 d_law_1898 ?_
          obtain ⟨q279, e280, h⟩ := gb h
          obtain ⟨u277, e278⟩ := gsome h
          refine gw_callI e278 h (gw_runV (As := [.int v275]) (rest := []) hx hb hml hown hT hK hZ hA hI (ci := 0) rfl e280 (m_B_breaks l hst D g0 o1 v275 w u277 e278) ce_B_breaks wd_410 wd_412 ⟨by decide, by decide⟩ rfl rfl hl.1 rfl (lv_room (Nat.le_of_ble_eq_true rfl)) d_law_1899 ⟨(show (16015 - (n + 1) * 31) + 0 ≤ 601024 by omega), (show (905842 - (n + 1) * 1745) + 0 ≤ 7293000 by omega)⟩) hI hA hexc (show (16015 - (n + 1) * 31) + 0 ≤ 601024 by omega) (show (905842 - (n + 1) * 1745) + 0 ≤ 7293000 by omega) (fun v281 w H locs h hI => ?_)
          refine lv_aload_n hx hb d_law_1902 rfl (lv_at hl 2 rfl) ?_
          refine lv_aload_n hx hb d_law_1903 rfl (lv_at hl 0 rfl) ?_
          refine lv_iload hx hb d_law_1904 (lv_at hl 4 rfl) ?_
          refine lv_iconst (v := 1) hx hb d_law_1906 (by decide) ?_
          refine lv_iadd hx hb d_law_1907 ?_
          obtain ⟨v282, e283, h⟩ := gb h
          refine gw_aldI hx hb hK hI e283 d_law_1908 ?_
          obtain ⟨q286, e287, h⟩ := gb h
          obtain ⟨u284, e285⟩ := gsome h
          refine gw_callI e285 h (gw_runV (As := [.int v282]) (rest := [.int v281]) hx hb hml hown hT hK hZ hA hI (ci := 7) rfl e287 (m_M_breaks l hst D g0 o9 v282 w u284 e285) ce_M_breaks wd_1080 wd_1082 ⟨by decide, by decide⟩ rfl rfl hl.1 rfl (lv_room (Nat.le_of_ble_eq_true rfl)) d_law_1909 ⟨(show (16015 - (n + 1) * 31) + 0 ≤ 601024 by omega), (show (905842 - (n + 1) * 1745) + 0 ≤ 7293000 by omega)⟩) hI hA hexc (show (16015 - (n + 1) * 31) + 0 ≤ 601024 by omega) (show (905842 - (n + 1) * 1745) + 0 ≤ 7293000 by omega) (fun v288 w H locs h hI => ?_)
          refine lv_icmp_eq (tgt := 2069) hx hb d_law_1912 (by decide) (fun c289 => ?_) (fun c289 => ?_)
          · skip
            have h := git c289 h
            refine W.widen (k := ((16015 - (n + 1) * 31) + 31)) (n := ((905842 - (n + 1) * 1745) + 1745)) (show (16015 - (n + 1) * 31) ≤ ((16015 - (n + 1) * 31) + 31) by omega) (show (905842 - (n + 1) * 1745) ≤ ((905842 - (n + 1) * 1745) + 1745) by omega) ?_
            exact hK2069 w H locs ls h hI (lv_sub hl [0, 1, 2, 3, 4] rfl)
          · skip
            have h := gie c289 h
            refine W.widen (k := 16015) (n := 905842) (show (16015 - (n + 1) * 31) ≤ 16015 by omega) (show (905842 - (n + 1) * 1745) ≤ 905842 by omega) ?_
            exact hK1915 w H locs ls h hI (lv_sub hl [] rfl)
        have h := gie c274 h
        rcases Decidable.em ((v33 &&& 31) = 14) with c290 | c290
        · have h := git c290 h
          refine lv_tableIn (off := 1865) (tgt := 1917) hx hb d_law_52 (by rw [c290]; decide) (by rw [c290]; decide) (by rw [c290]; decide) (by decide) ?_
          refine W.widen (k := 16015) (n := 905842) (show (16015 - (n + 1) * 31) ≤ 16015 by omega) (show (905842 - (n + 1) * 1745) ≤ 905842 by omega) ?_
          exact hK1917 _ w H locs ls h hI (lv_sub hl [0, 1, 3, 4] rfl)
        have h := gie c290 h
        rcases Decidable.em ((v33 &&& 31) = 15) with c291 | c291
        · have h := git c291 h
          refine lv_tableIn (off := 1905) (tgt := 1957) hx hb d_law_52 (by rw [c291]; decide) (by rw [c291]; decide) (by rw [c291]; decide) (by decide) ?_
          refine W.widen (k := 16015) (n := 905842) (show (16015 - (n + 1) * 31) ≤ 16015 by omega) (show (905842 - (n + 1) * 1745) ≤ 905842 by omega) ?_
          exact hK1957 _ w H locs ls h hI (lv_sub hl [0, 1, 3, 4] rfl)
        have h := gie c291 h
        rcases Decidable.em ((v33 &&& 31) = 16) with c292 | c292
        · have h := git c292 h
          refine lv_tableIn (off := 1989) (tgt := 2041) hx hb d_law_52 (by rw [c292]; decide) (by rw [c292]; decide) (by rw [c292]; decide) (by decide) ?_
          refine W.widen (k := 16015) (n := 905842) (show (16015 - (n + 1) * 31) ≤ 16015 by omega) (show (905842 - (n + 1) * 1745) ≤ 905842 by omega) ?_
          exact hK2041 _ w H locs ls h hI (lv_sub hl [0, 1, 3, 4] rfl)
        have h := gie c292 h
        refine lv_tableOut (tgt := 2069) hx hb d_law_52 (by have q0 := lv_neT c35 (show (0 : Int32).toInt = 0 by decide); have q1 := lv_neT c46 (show (1 : Int32).toInt = 1 by decide); have q2 := lv_neT c107 (show (2 : Int32).toInt = 2 by decide); have q3 := lv_neT c108 (show (3 : Int32).toInt = 3 by decide); have q4 := lv_neT c133 (show (4 : Int32).toInt = 4 by decide); have q5 := lv_neT c162 (show (5 : Int32).toInt = 5 by decide); have q6 := lv_neT c163 (show (6 : Int32).toInt = 6 by decide); have q7 := lv_neT c180 (show (7 : Int32).toInt = 7 by decide); have q8 := lv_neT c217 (show (8 : Int32).toInt = 8 by decide); have q9 := lv_neT c218 (show (9 : Int32).toInt = 9 by decide); have q10 := lv_neT c219 (show (10 : Int32).toInt = 10 by decide); have q11 := lv_neT c220 (show (11 : Int32).toInt = 11 by decide); have q12 := lv_neT c221 (show (12 : Int32).toInt = 12 by decide); have q13 := lv_neT c274 (show (13 : Int32).toInt = 13 by decide); have q14 := lv_neT c290 (show (14 : Int32).toInt = 14 by decide); have q15 := lv_neT c291 (show (15 : Int32).toInt = 15 by decide); have q16 := lv_neT c292 (show (16 : Int32).toInt = 16 by decide); omega) (by decide) ?_
        refine W.widen (k := ((16015 - (n + 1) * 31) + 31)) (n := ((905842 - (n + 1) * 1745) + 1745)) (show (16015 - (n + 1) * 31) ≤ ((16015 - (n + 1) * 31) + 31) by omega) (show (905842 - (n + 1) * 1745) ≤ ((905842 - (n + 1) * 1745) + 1745) by omega) ?_
        exact hK2069 w H locs ls h hI (lv_sub hl [0, 1, 2, 3, 4] rfl)
  refine W.widen (k := (16015 - 513 * 31)) (n := (905842 - 513 * 1745)) (show 112 ≤ (16015 - 513 * 31) by omega) (show 10657 ≤ (905842 - 513 * 1745) by omega) ?_
  exact hL35 513 (Nat.le_refl _) _ w H locs ls h hI (lv_sub hl [4, 3, 2, 1, 0] rfl)
