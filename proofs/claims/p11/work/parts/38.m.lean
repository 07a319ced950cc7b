abbrev b_M_coreAndPolygon : ByteArray := prog_9_method_42_code
def y_M_coreAndPolygon : MethodName := ⟨"BodySolidsModel", "coreAndPolygon", "(IJ)I"⟩
theorem d_M_coreAndPolygon_0 : decode b_M_coreAndPolygon 0 = .ok (.iconst 1, 1) := by decide +kernel
theorem d_M_coreAndPolygon_1 : decode b_M_coreAndPolygon 1 = .ok (.iload_n 1, 1) := by decide +kernel
theorem d_M_coreAndPolygon_2 : decode b_M_coreAndPolygon 2 = .ok (.isub, 1) := by decide +kernel
theorem d_M_coreAndPolygon_3 : decode b_M_coreAndPolygon 3 = .ok (.istore 4, 2) := by decide +kernel
theorem d_M_coreAndPolygon_5 : decode b_M_coreAndPolygon 5 = .ok (.aload_n 0, 1) := by decide +kernel
theorem d_M_coreAndPolygon_6 : decode b_M_coreAndPolygon 6 = .ok (.getfield 59, 3) := by decide +kernel
theorem d_M_coreAndPolygon_9 : decode b_M_coreAndPolygon 9 = .ok (.bipush 8, 2) := by decide +kernel
theorem d_M_coreAndPolygon_11 : decode b_M_coreAndPolygon 11 = .ok (.iload_n 1, 1) := by decide +kernel
theorem d_M_coreAndPolygon_12 : decode b_M_coreAndPolygon 12 = .ok (.imul, 1) := by decide +kernel
theorem d_M_coreAndPolygon_13 : decode b_M_coreAndPolygon 13 = .ok (.laload, 1) := by decide +kernel
theorem d_M_coreAndPolygon_14 : decode b_M_coreAndPolygon 14 = .ok (.lstore 5, 2) := by decide +kernel
theorem d_M_coreAndPolygon_16 : decode b_M_coreAndPolygon 16 = .ok (.aload_n 0, 1) := by decide +kernel
theorem d_M_coreAndPolygon_17 : decode b_M_coreAndPolygon 17 = .ok (.getfield 62, 3) := by decide +kernel
theorem d_M_coreAndPolygon_20 : decode b_M_coreAndPolygon 20 = .ok (.bipush 8, 2) := by decide +kernel
theorem d_M_coreAndPolygon_22 : decode b_M_coreAndPolygon 22 = .ok (.iload_n 1, 1) := by decide +kernel
theorem d_M_coreAndPolygon_23 : decode b_M_coreAndPolygon 23 = .ok (.imul, 1) := by decide +kernel
theorem d_M_coreAndPolygon_24 : decode b_M_coreAndPolygon 24 = .ok (.laload, 1) := by decide +kernel
theorem d_M_coreAndPolygon_25 : decode b_M_coreAndPolygon 25 = .ok (.lstore 7, 2) := by decide +kernel
theorem d_M_coreAndPolygon_27 : decode b_M_coreAndPolygon 27 = .ok (.aload_n 0, 1) := by decide +kernel
theorem d_M_coreAndPolygon_28 : decode b_M_coreAndPolygon 28 = .ok (.getfield 59, 3) := by decide +kernel
theorem d_M_coreAndPolygon_31 : decode b_M_coreAndPolygon 31 = .ok (.bipush 8, 2) := by decide +kernel
theorem d_M_coreAndPolygon_33 : decode b_M_coreAndPolygon 33 = .ok (.iload_n 1, 1) := by decide +kernel
theorem d_M_coreAndPolygon_34 : decode b_M_coreAndPolygon 34 = .ok (.imul, 1) := by decide +kernel
theorem d_M_coreAndPolygon_35 : decode b_M_coreAndPolygon 35 = .ok (.iconst 1, 1) := by decide +kernel
theorem d_M_coreAndPolygon_36 : decode b_M_coreAndPolygon 36 = .ok (.iadd, 1) := by decide +kernel
theorem d_M_coreAndPolygon_37 : decode b_M_coreAndPolygon 37 = .ok (.laload, 1) := by decide +kernel
theorem d_M_coreAndPolygon_38 : decode b_M_coreAndPolygon 38 = .ok (.lstore 9, 2) := by decide +kernel
theorem d_M_coreAndPolygon_40 : decode b_M_coreAndPolygon 40 = .ok (.aload_n 0, 1) := by decide +kernel
theorem d_M_coreAndPolygon_41 : decode b_M_coreAndPolygon 41 = .ok (.getfield 62, 3) := by decide +kernel
theorem d_M_coreAndPolygon_44 : decode b_M_coreAndPolygon 44 = .ok (.bipush 8, 2) := by decide +kernel
theorem d_M_coreAndPolygon_46 : decode b_M_coreAndPolygon 46 = .ok (.iload_n 1, 1) := by decide +kernel
theorem d_M_coreAndPolygon_47 : decode b_M_coreAndPolygon 47 = .ok (.imul, 1) := by decide +kernel
theorem d_M_coreAndPolygon_48 : decode b_M_coreAndPolygon 48 = .ok (.iconst 1, 1) := by decide +kernel
theorem d_M_coreAndPolygon_49 : decode b_M_coreAndPolygon 49 = .ok (.iadd, 1) := by decide +kernel
theorem d_M_coreAndPolygon_50 : decode b_M_coreAndPolygon 50 = .ok (.laload, 1) := by decide +kernel
theorem d_M_coreAndPolygon_51 : decode b_M_coreAndPolygon 51 = .ok (.lstore 11, 2) := by decide +kernel
theorem d_M_coreAndPolygon_53 : decode b_M_coreAndPolygon 53 = .ok (.aload_n 0, 1) := by decide +kernel
theorem d_M_coreAndPolygon_54 : decode b_M_coreAndPolygon 54 = .ok (.iload 4, 2) := by decide +kernel
theorem d_M_coreAndPolygon_56 : decode b_M_coreAndPolygon 56 = .ok (.lload 5, 2) := by decide +kernel
theorem d_M_coreAndPolygon_58 : decode b_M_coreAndPolygon 58 = .ok (.lload 7, 2) := by decide +kernel
theorem d_M_coreAndPolygon_60 : decode b_M_coreAndPolygon 60 = .ok (.lload_n 2, 1) := by decide +kernel
theorem d_M_coreAndPolygon_61 : decode b_M_coreAndPolygon 61 = .ok (.invokevirtual 208, 3) := by decide +kernel
theorem d_M_coreAndPolygon_64 : decode b_M_coreAndPolygon 64 = .ok (.istore 13, 2) := by decide +kernel
theorem d_M_coreAndPolygon_66 : decode b_M_coreAndPolygon 66 = .ok (.aload_n 0, 1) := by decide +kernel
theorem d_M_coreAndPolygon_67 : decode b_M_coreAndPolygon 67 = .ok (.iload 4, 2) := by decide +kernel
theorem d_M_coreAndPolygon_69 : decode b_M_coreAndPolygon 69 = .ok (.lload 9, 2) := by decide +kernel
theorem d_M_coreAndPolygon_71 : decode b_M_coreAndPolygon 71 = .ok (.lload 11, 2) := by decide +kernel
theorem d_M_coreAndPolygon_73 : decode b_M_coreAndPolygon 73 = .ok (.lload_n 2, 1) := by decide +kernel
theorem d_M_coreAndPolygon_74 : decode b_M_coreAndPolygon 74 = .ok (.invokevirtual 208, 3) := by decide +kernel
theorem d_M_coreAndPolygon_77 : decode b_M_coreAndPolygon 77 = .ok (.istore 14, 2) := by decide +kernel
theorem d_M_coreAndPolygon_79 : decode b_M_coreAndPolygon 79 = .ok (.iload 14, 2) := by decide +kernel
theorem d_M_coreAndPolygon_81 : decode b_M_coreAndPolygon 81 = .ok (.iload 13, 2) := by decide +kernel
theorem d_M_coreAndPolygon_83 : decode b_M_coreAndPolygon 83 = .ok (.if_icmp .le 8, 3) := by decide +kernel
theorem d_M_coreAndPolygon_86 : decode b_M_coreAndPolygon 86 = .ok (.iload 14, 2) := by decide +kernel
theorem d_M_coreAndPolygon_88 : decode b_M_coreAndPolygon 88 = .ok (.goto 5, 3) := by decide +kernel
theorem d_M_coreAndPolygon_91 : decode b_M_coreAndPolygon 91 = .ok (.iload 13, 2) := by decide +kernel
theorem d_M_coreAndPolygon_93 : decode b_M_coreAndPolygon 93 = .ok (.istore 13, 2) := by decide +kernel
theorem d_M_coreAndPolygon_95 : decode b_M_coreAndPolygon 95 = .ok (.bipush 8, 2) := by decide +kernel
theorem d_M_coreAndPolygon_97 : decode b_M_coreAndPolygon 97 = .ok (.iload 4, 2) := by decide +kernel
theorem d_M_coreAndPolygon_99 : decode b_M_coreAndPolygon 99 = .ok (.imul, 1) := by decide +kernel
theorem d_M_coreAndPolygon_100 : decode b_M_coreAndPolygon 100 = .ok (.istore 15, 2) := by decide +kernel
theorem d_M_coreAndPolygon_102 : decode b_M_coreAndPolygon 102 = .ok (.iload 15, 2) := by decide +kernel
theorem d_M_coreAndPolygon_104 : decode b_M_coreAndPolygon 104 = .ok (.bipush 8, 2) := by decide +kernel
theorem d_M_coreAndPolygon_106 : decode b_M_coreAndPolygon 106 = .ok (.iload 4, 2) := by decide +kernel
theorem d_M_coreAndPolygon_108 : decode b_M_coreAndPolygon 108 = .ok (.imul, 1) := by decide +kernel
theorem d_M_coreAndPolygon_109 : decode b_M_coreAndPolygon 109 = .ok (.aload_n 0, 1) := by decide +kernel
theorem d_M_coreAndPolygon_110 : decode b_M_coreAndPolygon 110 = .ok (.getfield 56, 3) := by decide +kernel
theorem d_M_coreAndPolygon_113 : decode b_M_coreAndPolygon 113 = .ok (.iload 4, 2) := by decide +kernel
theorem d_M_coreAndPolygon_115 : decode b_M_coreAndPolygon 115 = .ok (.iaload, 1) := by decide +kernel
theorem d_M_coreAndPolygon_116 : decode b_M_coreAndPolygon 116 = .ok (.iadd, 1) := by decide +kernel
theorem d_M_coreAndPolygon_117 : decode b_M_coreAndPolygon 117 = .ok (.if_icmp .ge 231, 3) := by decide +kernel
theorem d_M_coreAndPolygon_120 : decode b_M_coreAndPolygon 120 = .ok (.bipush 8, 2) := by decide +kernel
theorem d_M_coreAndPolygon_122 : decode b_M_coreAndPolygon 122 = .ok (.iload 4, 2) := by decide +kernel
theorem d_M_coreAndPolygon_124 : decode b_M_coreAndPolygon 124 = .ok (.imul, 1) := by decide +kernel
theorem d_M_coreAndPolygon_125 : decode b_M_coreAndPolygon 125 = .ok (.iload 15, 2) := by decide +kernel
theorem d_M_coreAndPolygon_127 : decode b_M_coreAndPolygon 127 = .ok (.bipush 8, 2) := by decide +kernel
theorem d_M_coreAndPolygon_129 : decode b_M_coreAndPolygon 129 = .ok (.iload 4, 2) := by decide +kernel
theorem d_M_coreAndPolygon_131 : decode b_M_coreAndPolygon 131 = .ok (.imul, 1) := by decide +kernel
theorem d_M_coreAndPolygon_132 : decode b_M_coreAndPolygon 132 = .ok (.isub, 1) := by decide +kernel
theorem d_M_coreAndPolygon_133 : decode b_M_coreAndPolygon 133 = .ok (.iconst 1, 1) := by decide +kernel
theorem d_M_coreAndPolygon_134 : decode b_M_coreAndPolygon 134 = .ok (.iadd, 1) := by decide +kernel
theorem d_M_coreAndPolygon_135 : decode b_M_coreAndPolygon 135 = .ok (.aload_n 0, 1) := by decide +kernel
theorem d_M_coreAndPolygon_136 : decode b_M_coreAndPolygon 136 = .ok (.getfield 56, 3) := by decide +kernel
theorem d_M_coreAndPolygon_139 : decode b_M_coreAndPolygon 139 = .ok (.iload 4, 2) := by decide +kernel
theorem d_M_coreAndPolygon_141 : decode b_M_coreAndPolygon 141 = .ok (.iaload, 1) := by decide +kernel
theorem d_M_coreAndPolygon_142 : decode b_M_coreAndPolygon 142 = .ok (.irem, 1) := by decide +kernel
theorem d_M_coreAndPolygon_143 : decode b_M_coreAndPolygon 143 = .ok (.iadd, 1) := by decide +kernel
theorem d_M_coreAndPolygon_144 : decode b_M_coreAndPolygon 144 = .ok (.istore 16, 2) := by decide +kernel
theorem d_M_coreAndPolygon_146 : decode b_M_coreAndPolygon 146 = .ok (.aload_n 0, 1) := by decide +kernel
theorem d_M_coreAndPolygon_147 : decode b_M_coreAndPolygon 147 = .ok (.getfield 59, 3) := by decide +kernel
theorem d_M_coreAndPolygon_150 : decode b_M_coreAndPolygon 150 = .ok (.iload 15, 2) := by decide +kernel
theorem d_M_coreAndPolygon_152 : decode b_M_coreAndPolygon 152 = .ok (.laload, 1) := by decide +kernel
theorem d_M_coreAndPolygon_153 : decode b_M_coreAndPolygon 153 = .ok (.aload_n 0, 1) := by decide +kernel
theorem d_M_coreAndPolygon_154 : decode b_M_coreAndPolygon 154 = .ok (.getfield 62, 3) := by decide +kernel
theorem d_M_coreAndPolygon_157 : decode b_M_coreAndPolygon 157 = .ok (.iload 15, 2) := by decide +kernel
theorem d_M_coreAndPolygon_159 : decode b_M_coreAndPolygon 159 = .ok (.laload, 1) := by decide +kernel
theorem d_M_coreAndPolygon_160 : decode b_M_coreAndPolygon 160 = .ok (.lload 5, 2) := by decide +kernel
theorem d_M_coreAndPolygon_162 : decode b_M_coreAndPolygon 162 = .ok (.lload 7, 2) := by decide +kernel
theorem d_M_coreAndPolygon_164 : decode b_M_coreAndPolygon 164 = .ok (.lload 9, 2) := by decide +kernel
theorem d_M_coreAndPolygon_166 : decode b_M_coreAndPolygon 166 = .ok (.lload 11, 2) := by decide +kernel
theorem d_M_coreAndPolygon_168 : decode b_M_coreAndPolygon 168 = .ok (.lload_n 2, 1) := by decide +kernel
theorem d_M_coreAndPolygon_169 : decode b_M_coreAndPolygon 169 = .ok (.invokestatic 202, 3) := by decide +kernel
theorem d_M_coreAndPolygon_172 : decode b_M_coreAndPolygon 172 = .ok (.istore 14, 2) := by decide +kernel
theorem d_M_coreAndPolygon_174 : decode b_M_coreAndPolygon 174 = .ok (.lload 5, 2) := by decide +kernel
theorem d_M_coreAndPolygon_176 : decode b_M_coreAndPolygon 176 = .ok (.lload 7, 2) := by decide +kernel
theorem d_M_coreAndPolygon_178 : decode b_M_coreAndPolygon 178 = .ok (.lload 9, 2) := by decide +kernel
theorem d_M_coreAndPolygon_180 : decode b_M_coreAndPolygon 180 = .ok (.lload 11, 2) := by decide +kernel
theorem d_M_coreAndPolygon_182 : decode b_M_coreAndPolygon 182 = .ok (.aload_n 0, 1) := by decide +kernel
theorem d_M_coreAndPolygon_183 : decode b_M_coreAndPolygon 183 = .ok (.getfield 59, 3) := by decide +kernel
theorem d_M_coreAndPolygon_186 : decode b_M_coreAndPolygon 186 = .ok (.iload 15, 2) := by decide +kernel
theorem d_M_coreAndPolygon_188 : decode b_M_coreAndPolygon 188 = .ok (.laload, 1) := by decide +kernel
theorem d_M_coreAndPolygon_189 : decode b_M_coreAndPolygon 189 = .ok (.aload_n 0, 1) := by decide +kernel
theorem d_M_coreAndPolygon_190 : decode b_M_coreAndPolygon 190 = .ok (.getfield 62, 3) := by decide +kernel
theorem d_M_coreAndPolygon_193 : decode b_M_coreAndPolygon 193 = .ok (.iload 15, 2) := by decide +kernel
theorem d_M_coreAndPolygon_195 : decode b_M_coreAndPolygon 195 = .ok (.laload, 1) := by decide +kernel
theorem d_M_coreAndPolygon_196 : decode b_M_coreAndPolygon 196 = .ok (.invokestatic 212, 3) := by decide +kernel
theorem d_M_coreAndPolygon_199 : decode b_M_coreAndPolygon 199 = .ok (.lload 5, 2) := by decide +kernel
theorem d_M_coreAndPolygon_201 : decode b_M_coreAndPolygon 201 = .ok (.lload 7, 2) := by decide +kernel
theorem d_M_coreAndPolygon_203 : decode b_M_coreAndPolygon 203 = .ok (.lload 9, 2) := by decide +kernel
theorem d_M_coreAndPolygon_205 : decode b_M_coreAndPolygon 205 = .ok (.lload 11, 2) := by decide +kernel
theorem d_M_coreAndPolygon_207 : decode b_M_coreAndPolygon 207 = .ok (.aload_n 0, 1) := by decide +kernel
theorem d_M_coreAndPolygon_208 : decode b_M_coreAndPolygon 208 = .ok (.getfield 59, 3) := by decide +kernel
theorem d_M_coreAndPolygon_211 : decode b_M_coreAndPolygon 211 = .ok (.iload 16, 2) := by decide +kernel
theorem d_M_coreAndPolygon_213 : decode b_M_coreAndPolygon 213 = .ok (.laload, 1) := by decide +kernel
theorem d_M_coreAndPolygon_214 : decode b_M_coreAndPolygon 214 = .ok (.aload_n 0, 1) := by decide +kernel
theorem d_M_coreAndPolygon_215 : decode b_M_coreAndPolygon 215 = .ok (.getfield 62, 3) := by decide +kernel
theorem d_M_coreAndPolygon_218 : decode b_M_coreAndPolygon 218 = .ok (.iload 16, 2) := by decide +kernel
theorem d_M_coreAndPolygon_220 : decode b_M_coreAndPolygon 220 = .ok (.laload, 1) := by decide +kernel
theorem d_M_coreAndPolygon_221 : decode b_M_coreAndPolygon 221 = .ok (.invokestatic 212, 3) := by decide +kernel
theorem d_M_coreAndPolygon_224 : decode b_M_coreAndPolygon 224 = .ok (.lmul, 1) := by decide +kernel
theorem d_M_coreAndPolygon_225 : decode b_M_coreAndPolygon 225 = .ok (.lconst 0, 1) := by decide +kernel
theorem d_M_coreAndPolygon_226 : decode b_M_coreAndPolygon 226 = .ok (.lcmp, 1) := by decide +kernel
theorem d_M_coreAndPolygon_227 : decode b_M_coreAndPolygon 227 = .ok (.ifCond .ge 83, 3) := by decide +kernel
theorem d_M_coreAndPolygon_230 : decode b_M_coreAndPolygon 230 = .ok (.aload_n 0, 1) := by decide +kernel
theorem d_M_coreAndPolygon_231 : decode b_M_coreAndPolygon 231 = .ok (.getfield 59, 3) := by decide +kernel
theorem d_M_coreAndPolygon_234 : decode b_M_coreAndPolygon 234 = .ok (.iload 15, 2) := by decide +kernel
theorem d_M_coreAndPolygon_236 : decode b_M_coreAndPolygon 236 = .ok (.laload, 1) := by decide +kernel
theorem d_M_coreAndPolygon_237 : decode b_M_coreAndPolygon 237 = .ok (.aload_n 0, 1) := by decide +kernel
theorem d_M_coreAndPolygon_238 : decode b_M_coreAndPolygon 238 = .ok (.getfield 62, 3) := by decide +kernel
theorem d_M_coreAndPolygon_241 : decode b_M_coreAndPolygon 241 = .ok (.iload 15, 2) := by decide +kernel
theorem d_M_coreAndPolygon_243 : decode b_M_coreAndPolygon 243 = .ok (.laload, 1) := by decide +kernel
theorem d_M_coreAndPolygon_244 : decode b_M_coreAndPolygon 244 = .ok (.aload_n 0, 1) := by decide +kernel
theorem d_M_coreAndPolygon_245 : decode b_M_coreAndPolygon 245 = .ok (.getfield 59, 3) := by decide +kernel
theorem d_M_coreAndPolygon_248 : decode b_M_coreAndPolygon 248 = .ok (.iload 16, 2) := by decide +kernel
theorem d_M_coreAndPolygon_250 : decode b_M_coreAndPolygon 250 = .ok (.laload, 1) := by decide +kernel
theorem d_M_coreAndPolygon_251 : decode b_M_coreAndPolygon 251 = .ok (.aload_n 0, 1) := by decide +kernel
theorem d_M_coreAndPolygon_252 : decode b_M_coreAndPolygon 252 = .ok (.getfield 62, 3) := by decide +kernel
theorem d_M_coreAndPolygon_255 : decode b_M_coreAndPolygon 255 = .ok (.iload 16, 2) := by decide +kernel
theorem d_M_coreAndPolygon_257 : decode b_M_coreAndPolygon 257 = .ok (.laload, 1) := by decide +kernel
theorem d_M_coreAndPolygon_258 : decode b_M_coreAndPolygon 258 = .ok (.lload 5, 2) := by decide +kernel
theorem d_M_coreAndPolygon_260 : decode b_M_coreAndPolygon 260 = .ok (.lload 7, 2) := by decide +kernel
theorem d_M_coreAndPolygon_262 : decode b_M_coreAndPolygon 262 = .ok (.invokestatic 212, 3) := by decide +kernel
theorem d_M_coreAndPolygon_265 : decode b_M_coreAndPolygon 265 = .ok (.aload_n 0, 1) := by decide +kernel
theorem d_M_coreAndPolygon_266 : decode b_M_coreAndPolygon 266 = .ok (.getfield 59, 3) := by decide +kernel
theorem d_M_coreAndPolygon_269 : decode b_M_coreAndPolygon 269 = .ok (.iload 15, 2) := by decide +kernel
theorem d_M_coreAndPolygon_271 : decode b_M_coreAndPolygon 271 = .ok (.laload, 1) := by decide +kernel
theorem d_M_coreAndPolygon_272 : decode b_M_coreAndPolygon 272 = .ok (.aload_n 0, 1) := by decide +kernel
theorem d_M_coreAndPolygon_273 : decode b_M_coreAndPolygon 273 = .ok (.getfield 62, 3) := by decide +kernel
theorem d_M_coreAndPolygon_276 : decode b_M_coreAndPolygon 276 = .ok (.iload 15, 2) := by decide +kernel
theorem d_M_coreAndPolygon_278 : decode b_M_coreAndPolygon 278 = .ok (.laload, 1) := by decide +kernel
theorem d_M_coreAndPolygon_279 : decode b_M_coreAndPolygon 279 = .ok (.aload_n 0, 1) := by decide +kernel
theorem d_M_coreAndPolygon_280 : decode b_M_coreAndPolygon 280 = .ok (.getfield 59, 3) := by decide +kernel
theorem d_M_coreAndPolygon_283 : decode b_M_coreAndPolygon 283 = .ok (.iload 16, 2) := by decide +kernel
theorem d_M_coreAndPolygon_285 : decode b_M_coreAndPolygon 285 = .ok (.laload, 1) := by decide +kernel
theorem d_M_coreAndPolygon_286 : decode b_M_coreAndPolygon 286 = .ok (.aload_n 0, 1) := by decide +kernel
theorem d_M_coreAndPolygon_287 : decode b_M_coreAndPolygon 287 = .ok (.getfield 62, 3) := by decide +kernel
theorem d_M_coreAndPolygon_290 : decode b_M_coreAndPolygon 290 = .ok (.iload 16, 2) := by decide +kernel
theorem d_M_coreAndPolygon_292 : decode b_M_coreAndPolygon 292 = .ok (.laload, 1) := by decide +kernel
theorem d_M_coreAndPolygon_293 : decode b_M_coreAndPolygon 293 = .ok (.lload 9, 2) := by decide +kernel
theorem d_M_coreAndPolygon_295 : decode b_M_coreAndPolygon 295 = .ok (.lload 11, 2) := by decide +kernel
theorem d_M_coreAndPolygon_297 : decode b_M_coreAndPolygon 297 = .ok (.invokestatic 212, 3) := by decide +kernel
theorem d_M_coreAndPolygon_300 : decode b_M_coreAndPolygon 300 = .ok (.lmul, 1) := by decide +kernel
theorem d_M_coreAndPolygon_301 : decode b_M_coreAndPolygon 301 = .ok (.lconst 0, 1) := by decide +kernel
theorem d_M_coreAndPolygon_302 : decode b_M_coreAndPolygon 302 = .ok (.lcmp, 1) := by decide +kernel
theorem d_M_coreAndPolygon_303 : decode b_M_coreAndPolygon 303 = .ok (.ifCond .ge 7, 3) := by decide +kernel
theorem d_M_coreAndPolygon_306 : decode b_M_coreAndPolygon 306 = .ok (.iconst 1, 1) := by decide +kernel
theorem d_M_coreAndPolygon_307 : decode b_M_coreAndPolygon 307 = .ok (.goto 4, 3) := by decide +kernel
theorem d_M_coreAndPolygon_310 : decode b_M_coreAndPolygon 310 = .ok (.iconst 0, 1) := by decide +kernel
theorem d_M_coreAndPolygon_311 : decode b_M_coreAndPolygon 311 = .ok (.istore 17, 2) := by decide +kernel
theorem d_M_coreAndPolygon_313 : decode b_M_coreAndPolygon 313 = .ok (.iload 17, 2) := by decide +kernel
theorem d_M_coreAndPolygon_315 : decode b_M_coreAndPolygon 315 = .ok (.ifCond .eq 11, 3) := by decide +kernel
theorem d_M_coreAndPolygon_318 : decode b_M_coreAndPolygon 318 = .ok (.lconst 0, 1) := by decide +kernel
theorem d_M_coreAndPolygon_319 : decode b_M_coreAndPolygon 319 = .ok (.lload_n 2, 1) := by decide +kernel
theorem d_M_coreAndPolygon_320 : decode b_M_coreAndPolygon 320 = .ok (.lsub, 1) := by decide +kernel
theorem d_M_coreAndPolygon_321 : decode b_M_coreAndPolygon 321 = .ok (.invokestatic 186, 3) := by decide +kernel
theorem d_M_coreAndPolygon_324 : decode b_M_coreAndPolygon 324 = .ok (.istore 14, 2) := by decide +kernel
theorem d_M_coreAndPolygon_326 : decode b_M_coreAndPolygon 326 = .ok (.iload 14, 2) := by decide +kernel
theorem d_M_coreAndPolygon_328 : decode b_M_coreAndPolygon 328 = .ok (.iload 13, 2) := by decide +kernel
theorem d_M_coreAndPolygon_330 : decode b_M_coreAndPolygon 330 = .ok (.if_icmp .le 8, 3) := by decide +kernel
theorem d_M_coreAndPolygon_333 : decode b_M_coreAndPolygon 333 = .ok (.iload 14, 2) := by decide +kernel
theorem d_M_coreAndPolygon_335 : decode b_M_coreAndPolygon 335 = .ok (.goto 5, 3) := by decide +kernel
theorem d_M_coreAndPolygon_338 : decode b_M_coreAndPolygon 338 = .ok (.iload 13, 2) := by decide +kernel
theorem d_M_coreAndPolygon_340 : decode b_M_coreAndPolygon 340 = .ok (.istore 13, 2) := by decide +kernel
theorem d_M_coreAndPolygon_342 : decode b_M_coreAndPolygon 342 = .ok (.iinc 15 1, 3) := by decide +kernel
theorem d_M_coreAndPolygon_345 : decode b_M_coreAndPolygon 345 = .ok (.goto (-243), 3) := by decide +kernel
theorem d_M_coreAndPolygon_348 : decode b_M_coreAndPolygon 348 = .ok (.iload 13, 2) := by decide +kernel
theorem d_M_coreAndPolygon_350 : decode b_M_coreAndPolygon 350 = .ok (.ireturn, 1) := by decide +kernel
abbrev rm_M_coreAndPolygon : Room := { frames := 3, cells := 0, slots := 0, locals := 101 }
theorem ce_M_coreAndPolygon : gCe y_M_coreAndPolygon (.code y_M_coreAndPolygon b_M_coreAndPolygon 18 (some .int)) 18 2 false := gCe.code wd_1039 wd_57 wd_1038 (by decide) (by decide +kernel)
def f_M_coreAndPolygon_L102 (g0 : gG) (c0 : Nat) (c2 : Int64) (c4 : Int32) (c5 : Int64) (c7 : Int64) (c9 : Int64) (c11 : Int64) (K348 : Int32 → gW → gX Int32) : Nat → Int32 → Int32 → gW → gX Int32
  | 0, _, _, _ => none
  | n + 1, z13, z15, w => (gfA w c0 7 21).bind fun v29 => (gaI w v29 c4).bind fun v31 => if ((8 * c4) + v31) ≤ z15 then (K348 z13 w) else ((gfA w c0 7 21).bind fun v34 => (gaI w v34 c4).bind fun v36 => gguard (¬ v36 = 0) ((gfA w c0 7 22).bind fun v39 => (gaJ w v39 z15).bind fun v41 => (gfA w c0 7 23).bind fun v43 => (gaJ w v43 z15).bind fun v45 => gbind (f_M_fromPiece g0 v41 v45 c5 c7 c9 c11 c2 w) fun v49 w => (gfA w c0 7 22).bind fun v50 => (gaJ w v50 z15).bind fun v52 => (gfA w c0 7 23).bind fun v54 => (gaJ w v54 z15).bind fun v56 => gbind (f_M_turn g0 c5 c7 c9 c11 v52 v56 w) fun v60 w => (gfA w c0 7 22).bind fun v61 => (gaJ w v61 ((8 * c4) + (((z15 - (8 * c4)) + 1) - ((z15 - (8 * c4)) + 1) / v36 * v36))).bind fun v63 => (gfA w c0 7 23).bind fun v65 => (gaJ w v65 ((8 * c4) + (((z15 - (8 * c4)) + 1) - ((z15 - (8 * c4)) + 1) / v36 * v36))).bind fun v67 => gbind (f_M_turn g0 c5 c7 c9 c11 v63 v67 w) fun v71 w => gjoin (fun K311 => gjoin (fun K310 => if 0 ≤ (v60 * v71) then (K310 w) else ((gfA w c0 7 22).bind fun v81 => (gaJ w v81 z15).bind fun v83 => (gfA w c0 7 23).bind fun v85 => (gaJ w v85 z15).bind fun v87 => (gfA w c0 7 22).bind fun v89 => (gaJ w v89 ((8 * c4) + (((z15 - (8 * c4)) + 1) - ((z15 - (8 * c4)) + 1) / v36 * v36))).bind fun v91 => (gfA w c0 7 23).bind fun v93 => (gaJ w v93 ((8 * c4) + (((z15 - (8 * c4)) + 1) - ((z15 - (8 * c4)) + 1) / v36 * v36))).bind fun v95 => gbind (f_M_turn g0 v83 v87 v91 v95 c5 c7 w) fun v99 w => (gfA w c0 7 22).bind fun v100 => (gaJ w v100 z15).bind fun v102 => (gfA w c0 7 23).bind fun v104 => (gaJ w v104 z15).bind fun v106 => (gfA w c0 7 22).bind fun v108 => (gaJ w v108 ((8 * c4) + (((z15 - (8 * c4)) + 1) - ((z15 - (8 * c4)) + 1) / v36 * v36))).bind fun v110 => (gfA w c0 7 23).bind fun v112 => (gaJ w v112 ((8 * c4) + (((z15 - (8 * c4)) + 1) - ((z15 - (8 * c4)) + 1) / v36 * v36))).bind fun v114 => gbind (f_M_turn g0 v102 v106 v110 v114 c9 c11 w) fun v118 w => if 0 ≤ (v99 * v118) then (K310 w) else (K311 1 w))) (fun (w : gW) => K311 0 w)) (fun (y72 : Int32) (w : gW) => gjoin (fun K326 => if y72 = 0 then (K326 v49 w) else (gbind (f_M_common g0 (0 - c2) w) fun v79 w => K326 v79 w)) (fun (x73 : Int32) (w : gW) => gjoin (fun K340 => if x73 ≤ z13 then (K340 z13 w) else (K340 x73 w)) (fun (y74 : Int32) (w : gW) => f_M_coreAndPolygon_L102 g0 c0 c2 c4 c5 c7 c9 c11 K348 n y74 (z15 + 1) w)))))
def f_M_coreAndPolygon (g0 : gG) (a0 : Nat) (p1 : Int32) (p2 : Int64) (w : gW) : gX Int32 := (gfA w a0 7 22).bind fun v1 => (gaJ w v1 (8 * p1)).bind fun v3 => (gfA w a0 7 23).bind fun v5 => (gaJ w v5 (8 * p1)).bind fun v7 => (gfA w a0 7 22).bind fun v9 => (gaJ w v9 ((8 * p1) + 1)).bind fun v11 => (gfA w a0 7 23).bind fun v13 => (gaJ w v13 ((8 * p1) + 1)).bind fun v15 => (gck w a0 7).bind fun _ => gbind (f_M_fromPolygon g0 a0 (1 - p1) v3 v7 p2 w) fun v21 w => (gck w a0 7).bind fun _ => gbind (f_M_fromPolygon g0 a0 (1 - p1) v11 v15 p2 w) fun v26 w => gjoin (fun K93 => if v26 ≤ v21 then (K93 v21 w) else (K93 v26 w)) (fun (y27 : Int32) (w : gW) => gjoin (fun K348 => f_M_coreAndPolygon_L102 g0 a0 p2 (1 - p1) v3 v7 v11 v15 K348 64 y27 (8 * (1 - p1)) w) (fun (x28 : Int32) (w : gW) => some (.inr x28, w)))
set_option maxHeartbeats 4000000 in
set_option maxRecDepth 100000 in
theorem m_M_coreAndPolygon (l : Launch) (hst : l.stackTraces = false) (D : gD) (g0 : gG) (a0 : Nat) (p1 : Int32) (p2 : Int64) (w : gW) (r : (String ⊕ Int32) × gW) (h : f_M_coreAndPolygon g0 a0 p1 p2 w = some r) : gMet l y_M_coreAndPolygon (.code y_M_coreAndPolygon b_M_coreAndPolygon 18 (some .int)) rm_M_coreAndPolygon D g0 [.ref a0, .int p1, .long p2] w (goI r) := by
  refine gw_ofI (by decide +kernel) (Nat.le_of_ble_eq_true rfl) ?_
  intro p e s m below meth c ls args A Q hx hb hml hown hlocks hin hnt hT hK hZ hA hret hexc hthr hI hl
  obtain ⟨H, hH⟩ : ∃ H, H = s.heap := ⟨_, rfl⟩
  rw [← hH] at hI ⊢
  obtain ⟨locs, hlocs⟩ : ∃ z : List Loc, z = [] := ⟨_, rfl⟩
  rw [← hlocs] at hI ⊢
  have hl : lv_has ls 18 [(0, .ref a0), (1, .int p1), (2, .long p2)] := hl
  unfold f_M_coreAndPolygon at h
  refine lv_iconst (v := 1) hx hb d_M_coreAndPolygon_0 (by decide) ?_
  refine lv_iload_n hx hb d_M_coreAndPolygon_1 rfl (lv_at hl 1 rfl) ?_
  refine lv_isub hx hb d_M_coreAndPolygon_2 ?_
  refine lv_istore (lv' := [(4, .int (1 - p1)), (0, .ref a0), (1, .int p1), (2, .long p2)]) hx hb d_M_coreAndPolygon_3 hl (by decide) rfl (fun ls hl => ?_)
  refine lv_aload_n hx hb d_M_coreAndPolygon_5 rfl (lv_at hl 1 rfl) ?_
  obtain ⟨v1, e2, h⟩ := gb h
  refine gw_getA hx hb hT hown hK hI (ci := 7) rfl i_7 22 (by decide) wd_808 (fun _ h9 => h9) e2 d_M_coreAndPolygon_6 ?_
  refine lv_bipush (v := 8) hx hb d_M_coreAndPolygon_9 (by decide) ?_
  refine lv_iload_n hx hb d_M_coreAndPolygon_11 rfl (lv_at hl 2 rfl) ?_
  refine lv_imul hx hb d_M_coreAndPolygon_12 ?_
  obtain ⟨v3, e4, h⟩ := gb h
  refine gw_aldJ hx hb hK hI e4 d_M_coreAndPolygon_13 ?_
  refine lv_lstore (lv' := [(5, .long v3), (4, .int (1 - p1)), (0, .ref a0), (1, .int p1), (2, .long p2)]) hx hb d_M_coreAndPolygon_14 hl (by decide) rfl (fun ls hl => ?_)
  refine lv_aload_n hx hb d_M_coreAndPolygon_16 rfl (lv_at hl 2 rfl) ?_
  obtain ⟨v5, e6, h⟩ := gb h
  refine gw_getA hx hb hT hown hK hI (ci := 7) rfl i_7 23 (by decide) wd_809 (fun _ h9 => h9) e6 d_M_coreAndPolygon_17 ?_
  refine lv_bipush (v := 8) hx hb d_M_coreAndPolygon_20 (by decide) ?_
  refine lv_iload_n hx hb d_M_coreAndPolygon_22 rfl (lv_at hl 3 rfl) ?_
  refine lv_imul hx hb d_M_coreAndPolygon_23 ?_
  obtain ⟨v7, e8, h⟩ := gb h
  refine gw_aldJ hx hb hK hI e8 d_M_coreAndPolygon_24 ?_
  refine lv_lstore (lv' := [(7, .long v7), (5, .long v3), (4, .int (1 - p1)), (0, .ref a0), (1, .int p1), (2, .long p2)]) hx hb d_M_coreAndPolygon_25 hl (by decide) rfl (fun ls hl => ?_)
  refine lv_aload_n hx hb d_M_coreAndPolygon_27 rfl (lv_at hl 3 rfl) ?_
  obtain ⟨v9, e10, h⟩ := gb h
  refine gw_getA hx hb hT hown hK hI (ci := 7) rfl i_7 22 (by decide) wd_808 (fun _ h9 => h9) e10 d_M_coreAndPolygon_28 ?_
  refine lv_bipush (v := 8) hx hb d_M_coreAndPolygon_31 (by decide) ?_
  refine lv_iload_n hx hb d_M_coreAndPolygon_33 rfl (lv_at hl 4 rfl) ?_
  refine lv_imul hx hb d_M_coreAndPolygon_34 ?_
  refine lv_iconst (v := 1) hx hb d_M_coreAndPolygon_35 (by decide) ?_
  refine lv_iadd hx hb d_M_coreAndPolygon_36 ?_
  obtain ⟨v11, e12, h⟩ := gb h
  refine gw_aldJ hx hb hK hI e12 d_M_coreAndPolygon_37 ?_
  refine lv_lstore (lv' := [(9, .long v11), (7, .long v7), (5, .long v3), (4, .int (1 - p1)), (0, .ref a0), (1, .int p1), (2, .long p2)]) hx hb d_M_coreAndPolygon_38 hl (by decide) rfl (fun ls hl => ?_)
  refine lv_aload_n hx hb d_M_coreAndPolygon_40 rfl (lv_at hl 4 rfl) ?_
  obtain ⟨v13, e14, h⟩ := gb h
  refine gw_getA hx hb hT hown hK hI (ci := 7) rfl i_7 23 (by decide) wd_809 (fun _ h9 => h9) e14 d_M_coreAndPolygon_41 ?_
  refine lv_bipush (v := 8) hx hb d_M_coreAndPolygon_44 (by decide) ?_
  refine lv_iload_n hx hb d_M_coreAndPolygon_46 rfl (lv_at hl 5 rfl) ?_
  refine lv_imul hx hb d_M_coreAndPolygon_47 ?_
  refine lv_iconst (v := 1) hx hb d_M_coreAndPolygon_48 (by decide) ?_
  refine lv_iadd hx hb d_M_coreAndPolygon_49 ?_
  obtain ⟨v15, e16, h⟩ := gb h
  refine gw_aldJ hx hb hK hI e16 d_M_coreAndPolygon_50 ?_
  refine lv_lstore (lv' := [(11, .long v15), (9, .long v11), (7, .long v7), (5, .long v3), (4, .int (1 - p1)), (0, .ref a0), (1, .int p1), (2, .long p2)]) hx hb d_M_coreAndPolygon_51 hl (by decide) rfl (fun ls hl => ?_)
  refine lv_aload_n hx hb d_M_coreAndPolygon_53 rfl (lv_at hl 5 rfl) ?_
  refine lv_iload hx hb d_M_coreAndPolygon_54 (lv_at hl 4 rfl) ?_
  refine lv_lload hx hb d_M_coreAndPolygon_56 (lv_at hl 3 rfl) ?_
  refine lv_lload hx hb d_M_coreAndPolygon_58 (lv_at hl 2 rfl) ?_
  refine lv_lload_n hx hb d_M_coreAndPolygon_60 rfl (lv_at hl 7 rfl) ?_
  obtain ⟨q19, e20, h⟩ := gb h
  obtain ⟨u17, e18⟩ := gsome h
  refine gw_callI e18 h (gw_runV (As := [.int (1 - p1), .long v3, .long v7, .long p2]) (rest := []) hx hb hml hown hT hK hZ hA hI (ci := 7) rfl e20 (m_M_fromPolygon l hst D g0 a0 (1 - p1) v3 v7 p2 w u17 e18) ce_M_fromPolygon wd_1040 wd_39 ⟨by decide, by decide⟩ rfl rfl hl.1 rfl (lv_room (Nat.le_of_ble_eq_true rfl)) d_M_coreAndPolygon_61 ⟨(show 0 + 0 ≤ 0 by omega), (show 0 + 0 ≤ 0 by omega)⟩) hI hA hexc (show 0 + 0 ≤ 0 by omega) (show 0 + 0 ≤ 0 by omega) (fun v21 w H locs h hI => ?_)
  refine lv_istore (lv' := [(13, .int v21), (11, .long v15), (9, .long v11), (7, .long v7), (5, .long v3), (4, .int (1 - p1)), (0, .ref a0), (1, .int p1), (2, .long p2)]) hx hb d_M_coreAndPolygon_64 hl (by decide) rfl (fun ls hl => ?_)
  refine lv_aload_n hx hb d_M_coreAndPolygon_66 rfl (lv_at hl 6 rfl) ?_
  refine lv_iload hx hb d_M_coreAndPolygon_67 (lv_at hl 5 rfl) ?_
  refine lv_lload hx hb d_M_coreAndPolygon_69 (lv_at hl 2 rfl) ?_
  refine lv_lload hx hb d_M_coreAndPolygon_71 (lv_at hl 1 rfl) ?_
  refine lv_lload_n hx hb d_M_coreAndPolygon_73 rfl (lv_at hl 8 rfl) ?_
  obtain ⟨q24, e25, h⟩ := gb h
  obtain ⟨u22, e23⟩ := gsome h
  refine gw_callI e23 h (gw_runV (As := [.int (1 - p1), .long v11, .long v15, .long p2]) (rest := []) hx hb hml hown hT hK hZ hA hI (ci := 7) rfl e25 (m_M_fromPolygon l hst D g0 a0 (1 - p1) v11 v15 p2 w u22 e23) ce_M_fromPolygon wd_1040 wd_39 ⟨by decide, by decide⟩ rfl rfl hl.1 rfl (lv_room (Nat.le_of_ble_eq_true rfl)) d_M_coreAndPolygon_74 ⟨(show 0 + 0 ≤ 0 by omega), (show 0 + 0 ≤ 0 by omega)⟩) hI hA hexc (show 0 + 0 ≤ 0 by omega) (show 0 + 0 ≤ 0 by omega) (fun v26 w H locs h hI => ?_)
  refine lv_istore (lv' := [(14, .int v26), (13, .int v21), (11, .long v15), (9, .long v11), (7, .long v7), (5, .long v3), (4, .int (1 - p1)), (0, .ref a0), (1, .int p1), (2, .long p2)]) hx hb d_M_coreAndPolygon_77 hl (by decide) rfl (fun ls hl => ?_)
  refine lv_iload hx hb d_M_coreAndPolygon_79 (lv_at hl 0 rfl) ?_
  refine lv_iload hx hb d_M_coreAndPolygon_81 (lv_at hl 1 rfl) ?_
  obtain ⟨K93, eK93, h⟩ := gj h
  have hK93 : ∀ (y27 : Int32) (w : gW) (H : Heap) (locs : List Loc) (ls : Array Slot), K93 y27 w = some r → gI D s A w H locs → lv_has ls 18 [(0, .ref a0), (2, .long p2), (4, .int (1 - p1)), (5, .long v3), (7, .long v7), (9, .long v11), (11, .long v15)] → W p l e rm_M_coreAndPolygon s m args below meth c H locs 0 0 Q (F0 m 93 ls [.int y27]) := by
    intro y27 w H locs ls h hI hl
    have h := gk2 eK93 h
    refine lv_istore (lv' := [(13, .int y27), (0, .ref a0), (2, .long p2), (4, .int (1 - p1)), (5, .long v3), (7, .long v7), (9, .long v11), (11, .long v15)]) hx hb d_M_coreAndPolygon_93 hl (by decide) rfl (fun ls hl => ?_)
    refine lv_bipush (v := 8) hx hb d_M_coreAndPolygon_95 (by decide) ?_
    refine lv_iload hx hb d_M_coreAndPolygon_97 (lv_at hl 3 rfl) ?_
    refine lv_imul hx hb d_M_coreAndPolygon_99 ?_
    refine lv_istore (lv' := [(15, .int (8 * (1 - p1))), (13, .int y27), (0, .ref a0), (2, .long p2), (4, .int (1 - p1)), (5, .long v3), (7, .long v7), (9, .long v11), (11, .long v15)]) hx hb d_M_coreAndPolygon_100 hl (by decide) rfl (fun ls hl => ?_)
    obtain ⟨K348, eK348, h⟩ := gj h
    have hK348 : ∀ (x28 : Int32) (w : gW) (H : Heap) (locs : List Loc) (ls : Array Slot), K348 x28 w = some r → gI D s A w H locs → lv_has ls 18 [(13, .int x28)] → W p l e rm_M_coreAndPolygon s m args below meth c H locs 0 0 Q (F0 m 348 ls []) := by
      intro x28 w H locs ls h hI hl
      have h := gk2 eK348 h
      refine lv_iload hx hb d_M_coreAndPolygon_348 (lv_at hl 0 rfl) ?_
      exact W.widen (show 0 ≤ 0 by omega) (show 0 ≤ 0 by omega) (hret _ _ (Option.some.inj h).symm _ _ _ _ d_M_coreAndPolygon_350 hI)
    have hL102 : ∀ (n : Nat), ∀ (z29 : Int32) (z30 : Int32) (w : gW) (H : Heap) (locs : List Loc) (ls : Array Slot), f_M_coreAndPolygon_L102 g0 a0 p2 (1 - p1) v3 v7 v11 v15 K348 n z29 z30 w = some r → gI D s A w H locs → lv_has ls 18 [(0, .ref a0), (2, .long p2), (4, .int (1 - p1)), (5, .long v3), (7, .long v7), (9, .long v11), (11, .long v15), (13, .int z29), (15, .int z30)] → W p l e rm_M_coreAndPolygon s m args below meth c H locs 0 0 Q (F0 m 102 ls []) := by
      intro n
      induction n with
      | zero => intro z29 z30 w H locs ls h hI hl; exact absurd h (by simp [f_M_coreAndPolygon_L102])
      | succ n ih =>
        intro z29 z30 w H locs ls h hI hl
        rw [f_M_coreAndPolygon_L102] at h
        refine lv_iload hx hb d_M_coreAndPolygon_102 (lv_at hl 8 rfl) ?_
        refine lv_bipush (v := 8) hx hb d_M_coreAndPolygon_104 (by decide) ?_
        refine lv_iload hx hb d_M_coreAndPolygon_106 (lv_at hl 2 rfl) ?_
        refine lv_imul hx hb d_M_coreAndPolygon_108 ?_
        refine lv_aload_n hx hb d_M_coreAndPolygon_109 rfl (lv_at hl 0 rfl) ?_
        obtain ⟨v31, e32, h⟩ := gb h
        refine gw_getA hx hb hT hown hK hI (ci := 7) rfl i_7 21 (by decide) wd_807 (fun _ h9 => h9) e32 d_M_coreAndPolygon_110 ?_
        refine lv_iload hx hb d_M_coreAndPolygon_113 (lv_at hl 2 rfl) ?_
        obtain ⟨v33, e34, h⟩ := gb h
        refine gw_aldI hx hb hK hI e34 d_M_coreAndPolygon_115 ?_
        refine lv_iadd hx hb d_M_coreAndPolygon_116 ?_
        refine lv_icmp_ge (tgt := 348) hx hb d_M_coreAndPolygon_117 (by decide) (fun c35 => ?_) (fun c35 => ?_)
        · skip
          have h := git c35 h
          exact hK348 _ w H locs ls h hI (lv_sub hl [7] rfl)
        · skip
          have h := gie c35 h
          refine lv_bipush (v := 8) hx hb d_M_coreAndPolygon_120 (by decide) ?_
          refine lv_iload hx hb d_M_coreAndPolygon_122 (lv_at hl 2 rfl) ?_
          refine lv_imul hx hb d_M_coreAndPolygon_124 ?_
          refine lv_iload hx hb d_M_coreAndPolygon_125 (lv_at hl 8 rfl) ?_
          refine lv_bipush (v := 8) hx hb d_M_coreAndPolygon_127 (by decide) ?_
          refine lv_iload hx hb d_M_coreAndPolygon_129 (lv_at hl 2 rfl) ?_
          refine lv_imul hx hb d_M_coreAndPolygon_131 ?_
          refine lv_isub hx hb d_M_coreAndPolygon_132 ?_
          refine lv_iconst (v := 1) hx hb d_M_coreAndPolygon_133 (by decide) ?_
          refine lv_iadd hx hb d_M_coreAndPolygon_134 ?_
          refine lv_aload_n hx hb d_M_coreAndPolygon_135 rfl (lv_at hl 0 rfl) ?_
          obtain ⟨v36, e37, h⟩ := gb h
          refine gw_getA hx hb hT hown hK hI (ci := 7) rfl i_7 21 (by decide) wd_807 (fun _ h9 => h9) e37 d_M_coreAndPolygon_136 ?_
          refine lv_iload hx hb d_M_coreAndPolygon_139 (lv_at hl 2 rfl) ?_
          obtain ⟨v38, e39, h⟩ := gb h
          refine gw_aldI hx hb hK hI e39 d_M_coreAndPolygon_141 ?_
          obtain ⟨g40, h⟩ := gif h
          refine lv_irem hx hb d_M_coreAndPolygon_142 g40 ?_
          refine lv_iadd hx hb d_M_coreAndPolygon_143 ?_
          refine lv_istore (lv' := [(16, .int ((8 * (1 - p1)) + (((z30 - (8 * (1 - p1))) + 1) - ((z30 - (8 * (1 - p1))) + 1) / v38 * v38))), (0, .ref a0), (2, .long p2), (4, .int (1 - p1)), (5, .long v3), (7, .long v7), (9, .long v11), (11, .long v15), (13, .int z29), (15, .int z30)]) hx hb d_M_coreAndPolygon_144 hl (by decide) rfl (fun ls hl => ?_)
          refine lv_aload_n hx hb d_M_coreAndPolygon_146 rfl (lv_at hl 1 rfl) ?_
          obtain ⟨v41, e42, h⟩ := gb h
          refine gw_getA hx hb hT hown hK hI (ci := 7) rfl i_7 22 (by decide) wd_808 (fun _ h9 => h9) e42 d_M_coreAndPolygon_147 ?_
          refine lv_iload hx hb d_M_coreAndPolygon_150 (lv_at hl 9 rfl) ?_
          obtain ⟨v43, e44, h⟩ := gb h
          refine gw_aldJ hx hb hK hI e44 d_M_coreAndPolygon_152 ?_
          refine lv_aload_n hx hb d_M_coreAndPolygon_153 rfl (lv_at hl 1 rfl) ?_
          obtain ⟨v45, e46, h⟩ := gb h
          refine gw_getA hx hb hT hown hK hI (ci := 7) rfl i_7 23 (by decide) wd_809 (fun _ h9 => h9) e46 d_M_coreAndPolygon_154 ?_
          refine lv_iload hx hb d_M_coreAndPolygon_157 (lv_at hl 9 rfl) ?_
          obtain ⟨v47, e48, h⟩ := gb h
          refine gw_aldJ hx hb hK hI e48 d_M_coreAndPolygon_159 ?_
          refine lv_lload hx hb d_M_coreAndPolygon_160 (lv_at hl 4 rfl) ?_
          refine lv_lload hx hb d_M_coreAndPolygon_162 (lv_at hl 5 rfl) ?_
          refine lv_lload hx hb d_M_coreAndPolygon_164 (lv_at hl 6 rfl) ?_
          refine lv_lload hx hb d_M_coreAndPolygon_166 (lv_at hl 7 rfl) ?_
          refine lv_lload_n hx hb d_M_coreAndPolygon_168 rfl (lv_at hl 2 rfl) ?_
          obtain ⟨u49, e50⟩ := gsome h
          refine gw_callI e50 h (gw_runS (As := [.long v43, .long v47, .long v3, .long v7, .long v11, .long v15, .long p2]) (rest := []) hx hb hml hown hT hK hZ hA hI (m_M_fromPiece l hst D g0 v43 v47 v3 v7 v11 v15 p2 w u49 e50) ce_M_fromPiece wd_1048 ⟨by decide, by decide⟩ rfl rfl hl.1 rfl (lv_room (Nat.le_of_ble_eq_true rfl)) d_M_coreAndPolygon_169 ⟨(show 0 + 0 ≤ 0 by omega), (show 0 + 0 ≤ 0 by omega)⟩) hI hA hexc (show 0 + 0 ≤ 0 by omega) (show 0 + 0 ≤ 0 by omega) (fun v51 w H locs h hI => ?_)
          refine lv_istore (lv' := [(14, .int v51), (16, .int ((8 * (1 - p1)) + (((z30 - (8 * (1 - p1))) + 1) - ((z30 - (8 * (1 - p1))) + 1) / v38 * v38))), (0, .ref a0), (2, .long p2), (4, .int (1 - p1)), (5, .long v3), (7, .long v7), (9, .long v11), (11, .long v15), (13, .int z29), (15, .int z30)]) hx hb d_M_coreAndPolygon_172 hl (by decide) rfl (fun ls hl => ?_)
          refine lv_lload hx hb d_M_coreAndPolygon_174 (lv_at hl 5 rfl) ?_
          refine lv_lload hx hb d_M_coreAndPolygon_176 (lv_at hl 6 rfl) ?_
          refine lv_lload hx hb d_M_coreAndPolygon_178 (lv_at hl 7 rfl) ?_
          refine lv_lload hx hb d_M_coreAndPolygon_180 (lv_at hl 8 rfl) ?_
          refine lv_aload_n hx hb d_M_coreAndPolygon_182 rfl (lv_at hl 2 rfl) ?_
          obtain ⟨v52, e53, h⟩ := gb h
          refine gw_getA hx hb hT hown hK hI (ci := 7) rfl i_7 22 (by decide) wd_808 (fun _ h9 => h9) e53 d_M_coreAndPolygon_183 ?_
          refine lv_iload hx hb d_M_coreAndPolygon_186 (lv_at hl 10 rfl) ?_
          obtain ⟨v54, e55, h⟩ := gb h
          refine gw_aldJ hx hb hK hI e55 d_M_coreAndPolygon_188 ?_
          refine lv_aload_n hx hb d_M_coreAndPolygon_189 rfl (lv_at hl 2 rfl) ?_
          obtain ⟨v56, e57, h⟩ := gb h
          refine gw_getA hx hb hT hown hK hI (ci := 7) rfl i_7 23 (by decide) wd_809 (fun _ h9 => h9) e57 d_M_coreAndPolygon_190 ?_
          refine lv_iload hx hb d_M_coreAndPolygon_193 (lv_at hl 10 rfl) ?_
          obtain ⟨v58, e59, h⟩ := gb h
          refine gw_aldJ hx hb hK hI e59 d_M_coreAndPolygon_195 ?_
          obtain ⟨u60, e61⟩ := gsome h
          refine gw_callJ e61 h (gw_runS (As := [.long v3, .long v7, .long v11, .long v15, .long v54, .long v58]) (rest := []) hx hb hml hown hT hK hZ hA hI (m_M_turn l hst D g0 v3 v7 v11 v15 v54 v58 w u60 e61) ce_M_turn wd_1051 ⟨by decide, by decide⟩ rfl rfl hl.1 rfl (lv_room (Nat.le_of_ble_eq_true rfl)) d_M_coreAndPolygon_196 ⟨(show 0 + 0 ≤ 0 by omega), (show 0 + 0 ≤ 0 by omega)⟩) hI hA hexc (show 0 + 0 ≤ 0 by omega) (show 0 + 0 ≤ 0 by omega) (fun v62 w H locs h hI => ?_)
          refine lv_lload hx hb d_M_coreAndPolygon_199 (lv_at hl 5 rfl) ?_
          refine lv_lload hx hb d_M_coreAndPolygon_201 (lv_at hl 6 rfl) ?_
          refine lv_lload hx hb d_M_coreAndPolygon_203 (lv_at hl 7 rfl) ?_
          refine lv_lload hx hb d_M_coreAndPolygon_205 (lv_at hl 8 rfl) ?_
          refine lv_aload_n hx hb d_M_coreAndPolygon_207 rfl (lv_at hl 2 rfl) ?_
          obtain ⟨v63, e64, h⟩ := gb h
          refine gw_getA hx hb hT hown hK hI (ci := 7) rfl i_7 22 (by decide) wd_808 (fun _ h9 => h9) e64 d_M_coreAndPolygon_208 ?_
          refine lv_iload hx hb d_M_coreAndPolygon_211 (lv_at hl 1 rfl) ?_
          obtain ⟨v65, e66, h⟩ := gb h
          refine gw_aldJ hx hb hK hI e66 d_M_coreAndPolygon_213 ?_
          refine lv_aload_n hx hb d_M_coreAndPolygon_214 rfl (lv_at hl 2 rfl) ?_
          obtain ⟨v67, e68, h⟩ := gb h
          refine gw_getA hx hb hT hown hK hI (ci := 7) rfl i_7 23 (by decide) wd_809 (fun _ h9 => h9) e68 d_M_coreAndPolygon_215 ?_
          refine lv_iload hx hb d_M_coreAndPolygon_218 (lv_at hl 1 rfl) ?_
          obtain ⟨v69, e70, h⟩ := gb h
          refine gw_aldJ hx hb hK hI e70 d_M_coreAndPolygon_220 ?_
          obtain ⟨u71, e72⟩ := gsome h
          refine gw_callJ e72 h (gw_runS (As := [.long v3, .long v7, .long v11, .long v15, .long v65, .long v69]) (rest := [.long v62]) hx hb hml hown hT hK hZ hA hI (m_M_turn l hst D g0 v3 v7 v11 v15 v65 v69 w u71 e72) ce_M_turn wd_1051 ⟨by decide, by decide⟩ rfl rfl hl.1 rfl (lv_room (Nat.le_of_ble_eq_true rfl)) d_M_coreAndPolygon_221 ⟨(show 0 + 0 ≤ 0 by omega), (show 0 + 0 ≤ 0 by omega)⟩) hI hA hexc (show 0 + 0 ≤ 0 by omega) (show 0 + 0 ≤ 0 by omega) (fun v73 w H locs h hI => ?_)
          refine lv_lmul hx hb d_M_coreAndPolygon_224 ?_
          refine lv_lconst (v := 0) hx hb d_M_coreAndPolygon_225 (by decide) ?_
          refine W.lcmp hx hb d_M_coreAndPolygon_226 ?_
          obtain ⟨K311, eK311, h⟩ := gj h
          have hK311 : ∀ (y74 : Int32) (w : gW) (H : Heap) (locs : List Loc) (ls : Array Slot), K311 y74 w = some r → gI D s A w H locs → lv_has ls 18 [(0, .ref a0), (2, .long p2), (4, .int (1 - p1)), (5, .long v3), (7, .long v7), (9, .long v11), (11, .long v15), (13, .int z29), (14, .int v51), (15, .int z30)] → W p l e rm_M_coreAndPolygon s m args below meth c H locs 0 0 Q (F0 m 311 ls [.int y74]) := by
            intro y74 w H locs ls h hI hl
            have h := gk2 eK311 h
            refine lv_istore (lv' := [(17, .int y74), (0, .ref a0), (2, .long p2), (4, .int (1 - p1)), (5, .long v3), (7, .long v7), (9, .long v11), (11, .long v15), (13, .int z29), (14, .int v51), (15, .int z30)]) hx hb d_M_coreAndPolygon_311 hl (by decide) rfl (fun ls hl => ?_)
            refine lv_iload hx hb d_M_coreAndPolygon_313 (lv_at hl 0 rfl) ?_
            obtain ⟨K326, eK326, h⟩ := gj h
            have hK326 : ∀ (x75 : Int32) (w : gW) (H : Heap) (locs : List Loc) (ls : Array Slot), K326 x75 w = some r → gI D s A w H locs → lv_has ls 18 [(0, .ref a0), (2, .long p2), (4, .int (1 - p1)), (5, .long v3), (7, .long v7), (9, .long v11), (11, .long v15), (13, .int z29), (14, .int x75), (15, .int z30)] → W p l e rm_M_coreAndPolygon s m args below meth c H locs 0 0 Q (F0 m 326 ls []) := by
              intro x75 w H locs ls h hI hl
              have h := gk2 eK326 h
              refine lv_iload hx hb d_M_coreAndPolygon_326 (lv_at hl 8 rfl) ?_
              refine lv_iload hx hb d_M_coreAndPolygon_328 (lv_at hl 7 rfl) ?_
              obtain ⟨K340, eK340, h⟩ := gj h
              have hK340 : ∀ (y76 : Int32) (w : gW) (H : Heap) (locs : List Loc) (ls : Array Slot), K340 y76 w = some r → gI D s A w H locs → lv_has ls 18 [(0, .ref a0), (2, .long p2), (4, .int (1 - p1)), (5, .long v3), (7, .long v7), (9, .long v11), (11, .long v15), (15, .int z30)] → W p l e rm_M_coreAndPolygon s m args below meth c H locs 0 0 Q (F0 m 340 ls [.int y76]) := by
                intro y76 w H locs ls h hI hl
                have h := gk2 eK340 h
                refine lv_istore (lv' := [(13, .int y76), (0, .ref a0), (2, .long p2), (4, .int (1 - p1)), (5, .long v3), (7, .long v7), (9, .long v11), (11, .long v15), (15, .int z30)]) hx hb d_M_coreAndPolygon_340 hl (by decide) rfl (fun ls hl => ?_)
                refine lv_iinc (v := z30 + 1) (lv' := [(15, .int (z30 + 1)), (13, .int y76), (0, .ref a0), (2, .long p2), (4, .int (1 - p1)), (5, .long v3), (7, .long v7), (9, .long v11), (11, .long v15)]) hx hb d_M_coreAndPolygon_342 hl (k := 8) rfl rfl (by decide) rfl (fun ls hl => ?_)
                refine lv_goto (tgt := 102) hx hb d_M_coreAndPolygon_345 (by decide) ?_
                exact ih _ _ w H locs ls h hI (lv_sub hl [2, 3, 4, 5, 6, 7, 8, 1, 0] rfl)
              refine lv_icmp_le (tgt := 338) hx hb d_M_coreAndPolygon_330 (by decide) (fun c77 => ?_) (fun c77 => ?_)
              · skip
                have h := git c77 h
                refine lv_iload hx hb d_M_coreAndPolygon_338 (lv_at hl 7 rfl) ?_
                exact hK340 _ w H locs ls h hI (lv_sub hl [0, 1, 2, 3, 4, 5, 6, 9] rfl)
              · skip
                have h := gie c77 h
                refine lv_iload hx hb d_M_coreAndPolygon_333 (lv_at hl 8 rfl) ?_
                refine lv_goto (tgt := 340) hx hb d_M_coreAndPolygon_335 (by decide) ?_
                exact hK340 _ w H locs ls h hI (lv_sub hl [0, 1, 2, 3, 4, 5, 6, 9] rfl)
            refine lv_if_eq (tgt := 326) hx hb d_M_coreAndPolygon_315 (by decide) (fun c78 => ?_) (fun c78 => ?_)
            · skip
              have h := git c78 h
              exact hK326 _ w H locs ls h hI (lv_sub hl [1, 2, 3, 4, 5, 6, 7, 8, 9, 10] rfl)
            · skip
              have h := gie c78 h
              refine lv_lconst (v := 0) hx hb d_M_coreAndPolygon_318 (by decide) ?_
              refine lv_lload_n hx hb d_M_coreAndPolygon_319 rfl (lv_at hl 2 rfl) ?_
              refine lv_lsub hx hb d_M_coreAndPolygon_320 ?_
              obtain ⟨u79, e80⟩ := gsome h
              refine gw_callI e80 h (gw_runS (As := [.long (0 - p2)]) (rest := []) hx hb hml hown hT hK hZ hA hI (m_M_common l hst D g0 (0 - p2) w u79 e80) ce_M_common wd_1028 ⟨by decide, by decide⟩ rfl rfl hl.1 rfl (lv_room (Nat.le_of_ble_eq_true rfl)) d_M_coreAndPolygon_321 ⟨(show 0 + 0 ≤ 0 by omega), (show 0 + 0 ≤ 0 by omega)⟩) hI hA hexc (show 0 + 0 ≤ 0 by omega) (show 0 + 0 ≤ 0 by omega) (fun v81 w H locs h hI => ?_)
              refine lv_istore (lv' := [(14, .int v81), (17, .int y74), (0, .ref a0), (2, .long p2), (4, .int (1 - p1)), (5, .long v3), (7, .long v7), (9, .long v11), (11, .long v15), (13, .int z29), (15, .int z30)]) hx hb d_M_coreAndPolygon_324 hl (by decide) rfl (fun ls hl => ?_)
              exact hK326 _ w H locs ls h hI (lv_sub hl [2, 3, 4, 5, 6, 7, 8, 9, 0, 10] rfl)
          obtain ⟨K310, eK310, h⟩ := gj h
          have hK310 : ∀ (w : gW) (H : Heap) (locs : List Loc) (ls : Array Slot), K310 w = some r → gI D s A w H locs → lv_has ls 18 [(0, .ref a0), (2, .long p2), (4, .int (1 - p1)), (5, .long v3), (7, .long v7), (9, .long v11), (11, .long v15), (13, .int z29), (14, .int v51), (15, .int z30)] → W p l e rm_M_coreAndPolygon s m args below meth c H locs 0 0 Q (F0 m 310 ls []) := by
            intro w H locs ls h hI hl
            have h := gk1 eK310 h
            refine lv_iconst (v := 0) hx hb d_M_coreAndPolygon_310 (by decide) ?_
            exact hK311 _ w H locs ls h hI (lv_sub hl [0, 1, 2, 3, 4, 5, 6, 7, 8, 9] rfl)
          refine lv_if_ge (tgt := 310) hx hb d_M_coreAndPolygon_227 (by decide) (fun c82 => ?_) (fun c82 => ?_)
          · have c82 := (lg_cmp_ge _ _).mp c82
            have h := git c82 h
            exact hK310 w H locs ls h hI (lv_sub hl [2, 3, 4, 5, 6, 7, 8, 9, 0, 10] rfl)
          · have c82 := mt (lg_cmp_ge _ _).mpr c82
            have h := gie c82 h
            refine lv_aload_n hx hb d_M_coreAndPolygon_230 rfl (lv_at hl 2 rfl) ?_
            obtain ⟨v83, e84, h⟩ := gb h
            refine gw_getA hx hb hT hown hK hI (ci := 7) rfl i_7 22 (by decide) wd_808 (fun _ h9 => h9) e84 d_M_coreAndPolygon_231 ?_
            refine lv_iload hx hb d_M_coreAndPolygon_234 (lv_at hl 10 rfl) ?_
            obtain ⟨v85, e86, h⟩ := gb h
            refine gw_aldJ hx hb hK hI e86 d_M_coreAndPolygon_236 ?_
            refine lv_aload_n hx hb d_M_coreAndPolygon_237 rfl (lv_at hl 2 rfl) ?_
            obtain ⟨v87, e88, h⟩ := gb h
            refine gw_getA hx hb hT hown hK hI (ci := 7) rfl i_7 23 (by decide) wd_809 (fun _ h9 => h9) e88 d_M_coreAndPolygon_238 ?_
            refine lv_iload hx hb d_M_coreAndPolygon_241 (lv_at hl 10 rfl) ?_
            obtain ⟨v89, e90, h⟩ := gb h
            refine gw_aldJ hx hb hK hI e90 d_M_coreAndPolygon_243 ?_
            refine lv_aload_n hx hb d_M_coreAndPolygon_244 rfl (lv_at hl 2 rfl) ?_
            obtain ⟨v91, e92, h⟩ := gb h
            refine gw_getA hx hb hT hown hK hI (ci := 7) rfl i_7 22 (by decide) wd_808 (fun _ h9 => h9) e92 d_M_coreAndPolygon_245 ?_
            refine lv_iload hx hb d_M_coreAndPolygon_248 (lv_at hl 1 rfl) ?_
            obtain ⟨v93, e94, h⟩ := gb h
            refine gw_aldJ hx hb hK hI e94 d_M_coreAndPolygon_250 ?_
            refine lv_aload_n hx hb d_M_coreAndPolygon_251 rfl (lv_at hl 2 rfl) ?_
            obtain ⟨v95, e96, h⟩ := gb h
            refine gw_getA hx hb hT hown hK hI (ci := 7) rfl i_7 23 (by decide) wd_809 (fun _ h9 => h9) e96 d_M_coreAndPolygon_252 ?_
            refine lv_iload hx hb d_M_coreAndPolygon_255 (lv_at hl 1 rfl) ?_
            obtain ⟨v97, e98, h⟩ := gb h
            refine gw_aldJ hx hb hK hI e98 d_M_coreAndPolygon_257 ?_
            refine lv_lload hx hb d_M_coreAndPolygon_258 (lv_at hl 5 rfl) ?_
            refine lv_lload hx hb d_M_coreAndPolygon_260 (lv_at hl 6 rfl) ?_
            obtain ⟨u99, e100⟩ := gsome h
            refine gw_callJ e100 h (gw_runS (As := [.long v85, .long v89, .long v93, .long v97, .long v3, .long v7]) (rest := []) hx hb hml hown hT hK hZ hA hI (m_M_turn l hst D g0 v85 v89 v93 v97 v3 v7 w u99 e100) ce_M_turn wd_1051 ⟨by decide, by decide⟩ rfl rfl hl.1 rfl (lv_room (Nat.le_of_ble_eq_true rfl)) d_M_coreAndPolygon_262 ⟨(show 0 + 0 ≤ 0 by omega), (show 0 + 0 ≤ 0 by omega)⟩) hI hA hexc (show 0 + 0 ≤ 0 by omega) (show 0 + 0 ≤ 0 by omega) (fun v101 w H locs h hI => ?_)
            refine lv_aload_n hx hb d_M_coreAndPolygon_265 rfl (lv_at hl 2 rfl) ?_
            obtain ⟨v102, e103, h⟩ := gb h
            refine gw_getA hx hb hT hown hK hI (ci := 7) rfl i_7 22 (by decide) wd_808 (fun _ h9 => h9) e103 d_M_coreAndPolygon_266 ?_
            refine lv_iload hx hb d_M_coreAndPolygon_269 (lv_at hl 10 rfl) ?_
            obtain ⟨v104, e105, h⟩ := gb h
            refine gw_aldJ hx hb hK hI e105 d_M_coreAndPolygon_271 ?_
            refine lv_aload_n hx hb d_M_coreAndPolygon_272 rfl (lv_at hl 2 rfl) ?_
            obtain ⟨v106, e107, h⟩ := gb h
            refine gw_getA hx hb hT hown hK hI (ci := 7) rfl i_7 23 (by decide) wd_809 (fun _ h9 => h9) e107 d_M_coreAndPolygon_273 ?_
            refine lv_iload hx hb d_M_coreAndPolygon_276 (lv_at hl 10 rfl) ?_
            obtain ⟨v108, e109, h⟩ := gb h
            refine gw_aldJ hx hb hK hI e109 d_M_coreAndPolygon_278 ?_
            refine lv_aload_n hx hb d_M_coreAndPolygon_279 rfl (lv_at hl 2 rfl) ?_
            obtain ⟨v110, e111, h⟩ := gb h
            refine gw_getA hx hb hT hown hK hI (ci := 7) rfl i_7 22 (by decide) wd_808 (fun _ h9 => h9) e111 d_M_coreAndPolygon_280 ?_
            refine lv_iload hx hb d_M_coreAndPolygon_283 (lv_at hl 1 rfl) ?_
            obtain ⟨v112, e113, h⟩ := gb h
            refine gw_aldJ hx hb hK hI e113 d_M_coreAndPolygon_285 ?_
            refine lv_aload_n hx hb d_M_coreAndPolygon_286 rfl (lv_at hl 2 rfl) ?_
            obtain ⟨v114, e115, h⟩ := gb h
            refine gw_getA hx hb hT hown hK hI (ci := 7) rfl i_7 23 (by decide) wd_809 (fun _ h9 => h9) e115 d_M_coreAndPolygon_287 ?_
            refine lv_iload hx hb d_M_coreAndPolygon_290 (lv_at hl 1 rfl) ?_
            obtain ⟨v116, e117, h⟩ := gb h
            refine gw_aldJ hx hb hK hI e117 d_M_coreAndPolygon_292 ?_
            refine lv_lload hx hb d_M_coreAndPolygon_293 (lv_at hl 7 rfl) ?_
            refine lv_lload hx hb d_M_coreAndPolygon_295 (lv_at hl 8 rfl) ?_
            obtain ⟨u118, e119⟩ := gsome h
            refine gw_callJ e119 h (gw_runS (As := [.long v104, .long v108, .long v112, .long v116, .long v11, .long v15]) (rest := [.long v101]) hx hb hml hown hT hK hZ hA hI (m_M_turn l hst D g0 v104 v108 v112 v116 v11 v15 w u118 e119) ce_M_turn wd_1051 ⟨by decide, by decide⟩ rfl rfl hl.1 rfl (lv_room (Nat.le_of_ble_eq_true rfl)) d_M_coreAndPolygon_297 ⟨(show 0 + 0 ≤ 0 by omega), (show 0 + 0 ≤ 0 by omega)⟩) hI hA hexc (show 0 + 0 ≤ 0 by omega) (show 0 + 0 ≤ 0 by omega) (fun v120 w H locs h hI => ?_)
            refine lv_lmul hx hb d_M_coreAndPolygon_300 ?_
            refine lv_lconst (v := 0) hx hb d_M_coreAndPolygon_301 (by decide) ?_
            refine W.lcmp hx hb d_M_coreAndPolygon_302 ?_
            refine lv_if_ge (tgt := 310) hx hb d_M_coreAndPolygon_303 (by decide) (fun c121 => ?_) (fun c121 => ?_)
            · have c121 := (lg_cmp_ge _ _).mp c121
              have h := git c121 h
              exact hK310 w H locs ls h hI (lv_sub hl [2, 3, 4, 5, 6, 7, 8, 9, 0, 10] rfl)
            · have c121 := mt (lg_cmp_ge _ _).mpr c121
              have h := gie c121 h
              refine lv_iconst (v := 1) hx hb d_M_coreAndPolygon_306 (by decide) ?_
              refine lv_goto (tgt := 311) hx hb d_M_coreAndPolygon_307 (by decide) ?_
              exact hK311 _ w H locs ls h hI (lv_sub hl [2, 3, 4, 5, 6, 7, 8, 9, 0, 10] rfl)
    exact hL102 64 _ _ w H locs ls h hI (lv_sub hl [2, 3, 4, 5, 6, 7, 8, 1, 0] rfl)
  refine lv_icmp_le (tgt := 91) hx hb d_M_coreAndPolygon_83 (by decide) (fun c122 => ?_) (fun c122 => ?_)
  · skip
    have h := git c122 h
    refine lv_iload hx hb d_M_coreAndPolygon_91 (lv_at hl 1 rfl) ?_
    exact hK93 _ w H locs ls h hI (lv_sub hl [7, 9, 6, 5, 4, 3, 2] rfl)
  · skip
    have h := gie c122 h
    refine lv_iload hx hb d_M_coreAndPolygon_86 (lv_at hl 0 rfl) ?_
    refine lv_goto (tgt := 93) hx hb d_M_coreAndPolygon_88 (by decide) ?_
    exact hK93 _ w H locs ls h hI (lv_sub hl [7, 9, 6, 5, 4, 3, 2] rfl)

abbrev b_M_along : ByteArray := prog_9_method_36_code
def y_M_along : MethodName := ⟨"BodySolidsModel", "along", "(JJ)I"⟩
theorem d_M_along_0 : decode b_M_along 0 = .ok (.lload_n 1, 1) := by decide +kernel
theorem d_M_along_1 : decode b_M_along 1 = .ok (.aload_n 0, 1) := by decide +kernel
theorem d_M_along_2 : decode b_M_along 2 = .ok (.getfield 59, 3) := by decide +kernel
theorem d_M_along_5 : decode b_M_along 5 = .ok (.iconst 0, 1) := by decide +kernel
theorem d_M_along_6 : decode b_M_along 6 = .ok (.laload, 1) := by decide +kernel
theorem d_M_along_7 : decode b_M_along 7 = .ok (.lmul, 1) := by decide +kernel
theorem d_M_along_8 : decode b_M_along 8 = .ok (.lload_n 3, 1) := by decide +kernel
theorem d_M_along_9 : decode b_M_along 9 = .ok (.aload_n 0, 1) := by decide +kernel
theorem d_M_along_10 : decode b_M_along 10 = .ok (.getfield 62, 3) := by decide +kernel
theorem d_M_along_13 : decode b_M_along 13 = .ok (.iconst 0, 1) := by decide +kernel
theorem d_M_along_14 : decode b_M_along 14 = .ok (.laload, 1) := by decide +kernel
theorem d_M_along_15 : decode b_M_along 15 = .ok (.lmul, 1) := by decide +kernel
theorem d_M_along_16 : decode b_M_along 16 = .ok (.ladd, 1) := by decide +kernel
theorem d_M_along_17 : decode b_M_along 17 = .ok (.lstore 5, 2) := by decide +kernel
theorem d_M_along_19 : decode b_M_along 19 = .ok (.lload 5, 2) := by decide +kernel
theorem d_M_along_21 : decode b_M_along 21 = .ok (.lstore 7, 2) := by decide +kernel
theorem d_M_along_23 : decode b_M_along 23 = .ok (.iconst 1, 1) := by decide +kernel
theorem d_M_along_24 : decode b_M_along 24 = .ok (.istore 9, 2) := by decide +kernel
theorem d_M_along_26 : decode b_M_along 26 = .ok (.iload 9, 2) := by decide +kernel
theorem d_M_along_28 : decode b_M_along 28 = .ok (.aload_n 0, 1) := by decide +kernel
theorem d_M_along_29 : decode b_M_along 29 = .ok (.getfield 56, 3) := by decide +kernel
theorem d_M_along_32 : decode b_M_along 32 = .ok (.iconst 0, 1) := by decide +kernel
theorem d_M_along_33 : decode b_M_along 33 = .ok (.iaload, 1) := by decide +kernel
theorem d_M_along_34 : decode b_M_along 34 = .ok (.if_icmp .ge 64, 3) := by decide +kernel
theorem d_M_along_37 : decode b_M_along 37 = .ok (.lload_n 1, 1) := by decide +kernel
theorem d_M_along_38 : decode b_M_along 38 = .ok (.aload_n 0, 1) := by decide +kernel
theorem d_M_along_39 : decode b_M_along 39 = .ok (.getfield 59, 3) := by decide +kernel
theorem d_M_along_42 : decode b_M_along 42 = .ok (.iload 9, 2) := by decide +kernel
theorem d_M_along_44 : decode b_M_along 44 = .ok (.laload, 1) := by decide +kernel
theorem d_M_along_45 : decode b_M_along 45 = .ok (.lmul, 1) := by decide +kernel
theorem d_M_along_46 : decode b_M_along 46 = .ok (.lload_n 3, 1) := by decide +kernel
theorem d_M_along_47 : decode b_M_along 47 = .ok (.aload_n 0, 1) := by decide +kernel
theorem d_M_along_48 : decode b_M_along 48 = .ok (.getfield 62, 3) := by decide +kernel
theorem d_M_along_51 : decode b_M_along 51 = .ok (.iload 9, 2) := by decide +kernel
theorem d_M_along_53 : decode b_M_along 53 = .ok (.laload, 1) := by decide +kernel
theorem d_M_along_54 : decode b_M_along 54 = .ok (.lmul, 1) := by decide +kernel
theorem d_M_along_55 : decode b_M_along 55 = .ok (.ladd, 1) := by decide +kernel
theorem d_M_along_56 : decode b_M_along 56 = .ok (.lstore 10, 2) := by decide +kernel
theorem d_M_along_58 : decode b_M_along 58 = .ok (.lload 10, 2) := by decide +kernel
theorem d_M_along_60 : decode b_M_along 60 = .ok (.lload 5, 2) := by decide +kernel
theorem d_M_along_62 : decode b_M_along 62 = .ok (.lcmp, 1) := by decide +kernel
theorem d_M_along_63 : decode b_M_along 63 = .ok (.ifCond .ge 8, 3) := by decide +kernel
theorem d_M_along_66 : decode b_M_along 66 = .ok (.lload 10, 2) := by decide +kernel
theorem d_M_along_68 : decode b_M_along 68 = .ok (.goto 5, 3) := by decide +kernel
theorem d_M_along_71 : decode b_M_along 71 = .ok (.lload 5, 2) := by decide +kernel
theorem d_M_along_73 : decode b_M_along 73 = .ok (.lstore 5, 2) := by decide +kernel
theorem d_M_along_75 : decode b_M_along 75 = .ok (.lload 10, 2) := by decide +kernel
theorem d_M_along_77 : decode b_M_along 77 = .ok (.lload 7, 2) := by decide +kernel
theorem d_M_along_79 : decode b_M_along 79 = .ok (.lcmp, 1) := by decide +kernel
theorem d_M_along_80 : decode b_M_along 80 = .ok (.ifCond .le 8, 3) := by decide +kernel
theorem d_M_along_83 : decode b_M_along 83 = .ok (.lload 10, 2) := by decide +kernel
theorem d_M_along_85 : decode b_M_along 85 = .ok (.goto 5, 3) := by decide +kernel
theorem d_M_along_88 : decode b_M_along 88 = .ok (.lload 7, 2) := by decide +kernel
theorem d_M_along_90 : decode b_M_along 90 = .ok (.lstore 7, 2) := by decide +kernel
theorem d_M_along_92 : decode b_M_along 92 = .ok (.iinc 9 1, 3) := by decide +kernel
theorem d_M_along_95 : decode b_M_along 95 = .ok (.goto (-69), 3) := by decide +kernel
theorem d_M_along_98 : decode b_M_along 98 = .ok (.lload_n 1, 1) := by decide +kernel
theorem d_M_along_99 : decode b_M_along 99 = .ok (.aload_n 0, 1) := by decide +kernel
theorem d_M_along_100 : decode b_M_along 100 = .ok (.getfield 59, 3) := by decide +kernel
theorem d_M_along_103 : decode b_M_along 103 = .ok (.bipush 8, 2) := by decide +kernel
theorem d_M_along_105 : decode b_M_along 105 = .ok (.laload, 1) := by decide +kernel
theorem d_M_along_106 : decode b_M_along 106 = .ok (.lmul, 1) := by decide +kernel
theorem d_M_along_107 : decode b_M_along 107 = .ok (.lload_n 3, 1) := by decide +kernel
theorem d_M_along_108 : decode b_M_along 108 = .ok (.aload_n 0, 1) := by decide +kernel
theorem d_M_along_109 : decode b_M_along 109 = .ok (.getfield 62, 3) := by decide +kernel
theorem d_M_along_112 : decode b_M_along 112 = .ok (.bipush 8, 2) := by decide +kernel
theorem d_M_along_114 : decode b_M_along 114 = .ok (.laload, 1) := by decide +kernel
theorem d_M_along_115 : decode b_M_along 115 = .ok (.lmul, 1) := by decide +kernel
theorem d_M_along_116 : decode b_M_along 116 = .ok (.ladd, 1) := by decide +kernel
theorem d_M_along_117 : decode b_M_along 117 = .ok (.lstore 9, 2) := by decide +kernel
theorem d_M_along_119 : decode b_M_along 119 = .ok (.lload 9, 2) := by decide +kernel
theorem d_M_along_121 : decode b_M_along 121 = .ok (.lstore 11, 2) := by decide +kernel
theorem d_M_along_123 : decode b_M_along 123 = .ok (.bipush 9, 2) := by decide +kernel
theorem d_M_along_125 : decode b_M_along 125 = .ok (.istore 13, 2) := by decide +kernel
theorem d_M_along_127 : decode b_M_along 127 = .ok (.iload 13, 2) := by decide +kernel
theorem d_M_along_129 : decode b_M_along 129 = .ok (.bipush 8, 2) := by decide +kernel
theorem d_M_along_131 : decode b_M_along 131 = .ok (.aload_n 0, 1) := by decide +kernel
theorem d_M_along_132 : decode b_M_along 132 = .ok (.getfield 56, 3) := by decide +kernel
theorem d_M_along_135 : decode b_M_along 135 = .ok (.iconst 1, 1) := by decide +kernel
theorem d_M_along_136 : decode b_M_along 136 = .ok (.iaload, 1) := by decide +kernel
theorem d_M_along_137 : decode b_M_along 137 = .ok (.iadd, 1) := by decide +kernel
theorem d_M_along_138 : decode b_M_along 138 = .ok (.if_icmp .ge 64, 3) := by decide +kernel
theorem d_M_along_141 : decode b_M_along 141 = .ok (.lload_n 1, 1) := by decide +kernel
theorem d_M_along_142 : decode b_M_along 142 = .ok (.aload_n 0, 1) := by decide +kernel
theorem d_M_along_143 : decode b_M_along 143 = .ok (.getfield 59, 3) := by decide +kernel
theorem d_M_along_146 : decode b_M_along 146 = .ok (.iload 13, 2) := by decide +kernel
theorem d_M_along_148 : decode b_M_along 148 = .ok (.laload, 1) := by decide +kernel
theorem d_M_along_149 : decode b_M_along 149 = .ok (.lmul, 1) := by decide +kernel
theorem d_M_along_150 : decode b_M_along 150 = .ok (.lload_n 3, 1) := by decide +kernel
theorem d_M_along_151 : decode b_M_along 151 = .ok (.aload_n 0, 1) := by decide +kernel
theorem d_M_along_152 : decode b_M_along 152 = .ok (.getfield 62, 3) := by decide +kernel
theorem d_M_along_155 : decode b_M_along 155 = .ok (.iload 13, 2) := by decide +kernel
theorem d_M_along_157 : decode b_M_along 157 = .ok (.laload, 1) := by decide +kernel
theorem d_M_along_158 : decode b_M_along 158 = .ok (.lmul, 1) := by decide +kernel
theorem d_M_along_159 : decode b_M_along 159 = .ok (.ladd, 1) := by decide +kernel
theorem d_M_along_160 : decode b_M_along 160 = .ok (.lstore 14, 2) := by decide +kernel
theorem d_M_along_162 : decode b_M_along 162 = .ok (.lload 14, 2) := by decide +kernel
theorem d_M_along_164 : decode b_M_along 164 = .ok (.lload 9, 2) := by decide +kernel
theorem d_M_along_166 : decode b_M_along 166 = .ok (.lcmp, 1) := by decide +kernel
theorem d_M_along_167 : decode b_M_along 167 = .ok (.ifCond .ge 8, 3) := by decide +kernel
theorem d_M_along_170 : decode b_M_along 170 = .ok (.lload 14, 2) := by decide +kernel
theorem d_M_along_172 : decode b_M_along 172 = .ok (.goto 5, 3) := by decide +kernel
theorem d_M_along_175 : decode b_M_along 175 = .ok (.lload 9, 2) := by decide +kernel
theorem d_M_along_177 : decode b_M_along 177 = .ok (.lstore 9, 2) := by decide +kernel
theorem d_M_along_179 : decode b_M_along 179 = .ok (.lload 14, 2) := by decide +kernel
theorem d_M_along_181 : decode b_M_along 181 = .ok (.lload 11, 2) := by decide +kernel
theorem d_M_along_183 : decode b_M_along 183 = .ok (.lcmp, 1) := by decide +kernel
theorem d_M_along_184 : decode b_M_along 184 = .ok (.ifCond .le 8, 3) := by decide +kernel
theorem d_M_along_187 : decode b_M_along 187 = .ok (.lload 14, 2) := by decide +kernel
theorem d_M_along_189 : decode b_M_along 189 = .ok (.goto 5, 3) := by decide +kernel
theorem d_M_along_192 : decode b_M_along 192 = .ok (.lload 11, 2) := by decide +kernel
theorem d_M_along_194 : decode b_M_along 194 = .ok (.lstore 11, 2) := by decide +kernel
theorem d_M_along_196 : decode b_M_along 196 = .ok (.iinc 13 1, 3) := by decide +kernel
theorem d_M_along_199 : decode b_M_along 199 = .ok (.goto (-72), 3) := by decide +kernel
theorem d_M_along_202 : decode b_M_along 202 = .ok (.lload 5, 2) := by decide +kernel
theorem d_M_along_204 : decode b_M_along 204 = .ok (.lload 11, 2) := by decide +kernel
theorem d_M_along_206 : decode b_M_along 206 = .ok (.lsub, 1) := by decide +kernel
theorem d_M_along_207 : decode b_M_along 207 = .ok (.invokestatic 186, 3) := by decide +kernel
theorem d_M_along_210 : decode b_M_along 210 = .ok (.istore 13, 2) := by decide +kernel
theorem d_M_along_212 : decode b_M_along 212 = .ok (.lload 9, 2) := by decide +kernel
theorem d_M_along_214 : decode b_M_along 214 = .ok (.lload 7, 2) := by decide +kernel
theorem d_M_along_216 : decode b_M_along 216 = .ok (.lsub, 1) := by decide +kernel
theorem d_M_along_217 : decode b_M_along 217 = .ok (.invokestatic 186, 3) := by decide +kernel
theorem d_M_along_220 : decode b_M_along 220 = .ok (.istore 14, 2) := by decide +kernel
theorem d_M_along_222 : decode b_M_along 222 = .ok (.iload 13, 2) := by decide +kernel
theorem d_M_along_224 : decode b_M_along 224 = .ok (.iload 14, 2) := by decide +kernel
theorem d_M_along_226 : decode b_M_along 226 = .ok (.if_icmp .ge 8, 3) := by decide +kernel
theorem d_M_along_229 : decode b_M_along 229 = .ok (.iload 13, 2) := by decide +kernel
theorem d_M_along_231 : decode b_M_along 231 = .ok (.goto 5, 3) := by decide +kernel
theorem d_M_along_234 : decode b_M_along 234 = .ok (.iload 14, 2) := by decide +kernel
theorem d_M_along_236 : decode b_M_along 236 = .ok (.ireturn, 1) := by decide +kernel
abbrev rm_M_along : Room := { frames := 1, cells := 0, slots := 0, locals := 21 }
theorem ce_M_along : gCe y_M_along (.code y_M_along b_M_along 16 (some .int)) 16 2 false := gCe.code wd_1066 wd_57 wd_1065 (by decide) (by decide +kernel)
def f_M_along_L127 (g0 : gG) (c0 : Nat) (c1 : Int64) (c3 : Int64) (c5 : Int64) (c7 : Int64) (K202 : Int64 → Int64 → gW → gX Int32) : Nat → Int64 → Int64 → Int32 → gW → gX Int32
  | 0, _, _, _, _ => none
  | n + 1, z9, z11, z13, w => (gfA w c0 7 21).bind fun v29 => (gaI w v29 1).bind fun v31 => if (8 + v31) ≤ z13 then (K202 z9 z11 w) else ((gfA w c0 7 22).bind fun v34 => (gaJ w v34 z13).bind fun v36 => (gfA w c0 7 23).bind fun v38 => (gaJ w v38 z13).bind fun v40 => gjoin (fun K177 => if z9 ≤ ((c1 * v36) + (c3 * v40)) then (K177 z9 w) else (K177 ((c1 * v36) + (c3 * v40)) w)) (fun (y42 : Int64) (w : gW) => gjoin (fun K194 => if ((c1 * v36) + (c3 * v40)) ≤ z11 then (K194 z11 w) else (K194 ((c1 * v36) + (c3 * v40)) w)) (fun (y43 : Int64) (w : gW) => f_M_along_L127 g0 c0 c1 c3 c5 c7 K202 n y42 y43 (z13 + 1) w)))
def f_M_along_L26 (g0 : gG) (c0 : Nat) (c1 : Int64) (c3 : Int64) (K98 : Int64 → Int64 → gW → gX Int32) : Nat → Int64 → Int64 → Int32 → gW → gX Int32
  | 0, _, _, _, _ => none
  | n + 1, z5, z7, z9, w => (gfA w c0 7 21).bind fun v49 => (gaI w v49 0).bind fun v51 => if v51 ≤ z9 then (K98 z5 z7 w) else ((gfA w c0 7 22).bind fun v54 => (gaJ w v54 z9).bind fun v56 => (gfA w c0 7 23).bind fun v58 => (gaJ w v58 z9).bind fun v60 => gjoin (fun K73 => if z5 ≤ ((c1 * v56) + (c3 * v60)) then (K73 z5 w) else (K73 ((c1 * v56) + (c3 * v60)) w)) (fun (y62 : Int64) (w : gW) => gjoin (fun K90 => if ((c1 * v56) + (c3 * v60)) ≤ z7 then (K90 z7 w) else (K90 ((c1 * v56) + (c3 * v60)) w)) (fun (y63 : Int64) (w : gW) => f_M_along_L26 g0 c0 c1 c3 K98 n y62 y63 (z9 + 1) w)))
def f_M_along (g0 : gG) (a0 : Nat) (p1 : Int64) (p2 : Int64) (w : gW) : gX Int32 := (gfA w a0 7 22).bind fun v1 => (gaJ w v1 0).bind fun v3 => (gfA w a0 7 23).bind fun v5 => (gaJ w v5 0).bind fun v7 => gjoin (fun K98 => f_M_along_L26 g0 a0 p1 p2 K98 64 ((p1 * v3) + (p2 * v7)) ((p1 * v3) + (p2 * v7)) 1 w) (fun (x9 : Int64) (x10 : Int64) (w : gW) => (gfA w a0 7 22).bind fun v11 => (gaJ w v11 8).bind fun v13 => (gfA w a0 7 23).bind fun v15 => (gaJ w v15 8).bind fun v17 => gjoin (fun K202 => f_M_along_L127 g0 a0 p1 p2 x9 x10 K202 64 ((p1 * v13) + (p2 * v17)) ((p1 * v13) + (p2 * v17)) 9 w) (fun (x19 : Int64) (x20 : Int64) (w : gW) => gbind (f_M_common g0 (x9 - x20) w) fun v23 w => gbind (f_M_common g0 (x19 - x10) w) fun v26 w => gjoin (fun K236 => if v26 ≤ v23 then (K236 v26 w) else (K236 v23 w)) (fun (y27 : Int32) (w : gW) => some (.inr y27, w))))
set_option maxHeartbeats 4000000 in
set_option maxRecDepth 100000 in
theorem m_M_along (l : Launch) (hst : l.stackTraces = false) (D : gD) (g0 : gG) (a0 : Nat) (p1 : Int64) (p2 : Int64) (w : gW) (r : (String ⊕ Int32) × gW) (h : f_M_along g0 a0 p1 p2 w = some r) : gMet l y_M_along (.code y_M_along b_M_along 16 (some .int)) rm_M_along D g0 [.ref a0, .long p1, .long p2] w (goI r) := by
  refine gw_ofI (by decide +kernel) (Nat.le_of_ble_eq_true rfl) ?_
  intro p e s m below meth c ls args A Q hx hb hml hown hlocks hin hnt hT hK hZ hA hret hexc hthr hI hl
  obtain ⟨H, hH⟩ : ∃ H, H = s.heap := ⟨_, rfl⟩
  rw [← hH] at hI ⊢
  obtain ⟨locs, hlocs⟩ : ∃ z : List Loc, z = [] := ⟨_, rfl⟩
  rw [← hlocs] at hI ⊢
  have hl : lv_has ls 16 [(0, .ref a0), (1, .long p1), (3, .long p2)] := hl
  unfold f_M_along at h
  refine lv_lload_n hx hb d_M_along_0 rfl (lv_at hl 1 rfl) ?_
  refine lv_aload_n hx hb d_M_along_1 rfl (lv_at hl 0 rfl) ?_
  obtain ⟨v1, e2, h⟩ := gb h
  refine gw_getA hx hb hT hown hK hI (ci := 7) rfl i_7 22 (by decide) wd_808 (fun _ h9 => h9) e2 d_M_along_2 ?_
  refine lv_iconst (v := 0) hx hb d_M_along_5 (by decide) ?_
  obtain ⟨v3, e4, h⟩ := gb h
  refine gw_aldJ hx hb hK hI e4 d_M_along_6 ?_
  refine lv_lmul hx hb d_M_along_7 ?_
  refine lv_lload_n hx hb d_M_along_8 rfl (lv_at hl 2 rfl) ?_
  refine lv_aload_n hx hb d_M_along_9 rfl (lv_at hl 0 rfl) ?_
  obtain ⟨v5, e6, h⟩ := gb h
  refine gw_getA hx hb hT hown hK hI (ci := 7) rfl i_7 23 (by decide) wd_809 (fun _ h9 => h9) e6 d_M_along_10 ?_
  refine lv_iconst (v := 0) hx hb d_M_along_13 (by decide) ?_
  obtain ⟨v7, e8, h⟩ := gb h
  refine gw_aldJ hx hb hK hI e8 d_M_along_14 ?_
  refine lv_lmul hx hb d_M_along_15 ?_
  refine lv_ladd hx hb d_M_along_16 ?_
  refine lv_lstore (lv' := [(5, .long ((p1 * v3) + (p2 * v7))), (0, .ref a0), (1, .long p1), (3, .long p2)]) hx hb d_M_along_17 hl (by decide) rfl (fun ls hl => ?_)
  refine lv_lload hx hb d_M_along_19 (lv_at hl 0 rfl) ?_
  refine lv_lstore (lv' := [(7, .long ((p1 * v3) + (p2 * v7))), (5, .long ((p1 * v3) + (p2 * v7))), (0, .ref a0), (1, .long p1), (3, .long p2)]) hx hb d_M_along_21 hl (by decide) rfl (fun ls hl => ?_)
  refine lv_iconst (v := 1) hx hb d_M_along_23 (by decide) ?_
  refine lv_istore (lv' := [(9, .int 1), (7, .long ((p1 * v3) + (p2 * v7))), (5, .long ((p1 * v3) + (p2 * v7))), (0, .ref a0), (1, .long p1), (3, .long p2)]) hx hb d_M_along_24 hl (by decide) rfl (fun ls hl => ?_)
  obtain ⟨K98, eK98, h⟩ := gj h
  have hK98 : ∀ (x9 : Int64) (x10 : Int64) (w : gW) (H : Heap) (locs : List Loc) (ls : Array Slot), K98 x9 x10 w = some r → gI D s A w H locs → lv_has ls 16 [(0, .ref a0), (1, .long p1), (3, .long p2), (5, .long x9), (7, .long x10)] → W p l e rm_M_along s m args below meth c H locs 0 0 Q (F0 m 98 ls []) := by
    intro x9 x10 w H locs ls h hI hl
    have h := gk3 eK98 h
    refine lv_lload_n hx hb d_M_along_98 rfl (lv_at hl 1 rfl) ?_
    refine lv_aload_n hx hb d_M_along_99 rfl (lv_at hl 0 rfl) ?_
    obtain ⟨v11, e12, h⟩ := gb h
    refine gw_getA hx hb hT hown hK hI (ci := 7) rfl i_7 22 (by decide) wd_808 (fun _ h9 => h9) e12 d_M_along_100 ?_
    refine lv_bipush (v := 8) hx hb d_M_along_103 (by decide) ?_
    obtain ⟨v13, e14, h⟩ := gb h
    refine gw_aldJ hx hb hK hI e14 d_M_along_105 ?_
    refine lv_lmul hx hb d_M_along_106 ?_
    refine lv_lload_n hx hb d_M_along_107 rfl (lv_at hl 2 rfl) ?_
    refine lv_aload_n hx hb d_M_along_108 rfl (lv_at hl 0 rfl) ?_
    obtain ⟨v15, e16, h⟩ := gb h
    refine gw_getA hx hb hT hown hK hI (ci := 7) rfl i_7 23 (by decide) wd_809 (fun _ h9 => h9) e16 d_M_along_109 ?_
    refine lv_bipush (v := 8) hx hb d_M_along_112 (by decide) ?_
    obtain ⟨v17, e18, h⟩ := gb h
    refine gw_aldJ hx hb hK hI e18 d_M_along_114 ?_
    refine lv_lmul hx hb d_M_along_115 ?_
    refine lv_ladd hx hb d_M_along_116 ?_
    refine lv_lstore (lv' := [(9, .long ((p1 * v13) + (p2 * v17))), (0, .ref a0), (1, .long p1), (3, .long p2), (5, .long x9), (7, .long x10)]) hx hb d_M_along_117 hl (by decide) rfl (fun ls hl => ?_)
    refine lv_lload hx hb d_M_along_119 (lv_at hl 0 rfl) ?_
    refine lv_lstore (lv' := [(11, .long ((p1 * v13) + (p2 * v17))), (9, .long ((p1 * v13) + (p2 * v17))), (0, .ref a0), (1, .long p1), (3, .long p2), (5, .long x9), (7, .long x10)]) hx hb d_M_along_121 hl (by decide) rfl (fun ls hl => ?_)
    refine lv_bipush (v := 9) hx hb d_M_along_123 (by decide) ?_
    refine lv_istore (lv' := [(13, .int 9), (11, .long ((p1 * v13) + (p2 * v17))), (9, .long ((p1 * v13) + (p2 * v17))), (0, .ref a0), (1, .long p1), (3, .long p2), (5, .long x9), (7, .long x10)]) hx hb d_M_along_125 hl (by decide) rfl (fun ls hl => ?_)
    obtain ⟨K202, eK202, h⟩ := gj h
    have hK202 : ∀ (x19 : Int64) (x20 : Int64) (w : gW) (H : Heap) (locs : List Loc) (ls : Array Slot), K202 x19 x20 w = some r → gI D s A w H locs → lv_has ls 16 [(5, .long x9), (7, .long x10), (9, .long x19), (11, .long x20)] → W p l e rm_M_along s m args below meth c H locs 0 0 Q (F0 m 202 ls []) := by
      intro x19 x20 w H locs ls h hI hl
      have h := gk3 eK202 h
      refine lv_lload hx hb d_M_along_202 (lv_at hl 0 rfl) ?_
      refine lv_lload hx hb d_M_along_204 (lv_at hl 3 rfl) ?_
      refine lv_lsub hx hb d_M_along_206 ?_
      obtain ⟨u21, e22⟩ := gsome h
      refine gw_callI e22 h (gw_runS (As := [.long (x9 - x20)]) (rest := []) hx hb hml hown hT hK hZ hA hI (m_M_common l hst D g0 (x9 - x20) w u21 e22) ce_M_common wd_1028 ⟨by decide, by decide⟩ rfl rfl hl.1 rfl (lv_room (Nat.le_of_ble_eq_true rfl)) d_M_along_207 ⟨(show 0 + 0 ≤ 0 by omega), (show 0 + 0 ≤ 0 by omega)⟩) hI hA hexc (show 0 + 0 ≤ 0 by omega) (show 0 + 0 ≤ 0 by omega) (fun v23 w H locs h hI => ?_)
      refine lv_istore (lv' := [(13, .int v23), (5, .long x9), (7, .long x10), (9, .long x19), (11, .long x20)]) hx hb d_M_along_210 hl (by decide) rfl (fun ls hl => ?_)
      refine lv_lload hx hb d_M_along_212 (lv_at hl 3 rfl) ?_
      refine lv_lload hx hb d_M_along_214 (lv_at hl 2 rfl) ?_
      refine lv_lsub hx hb d_M_along_216 ?_
      obtain ⟨u24, e25⟩ := gsome h
      refine gw_callI e25 h (gw_runS (As := [.long (x19 - x10)]) (rest := []) hx hb hml hown hT hK hZ hA hI (m_M_common l hst D g0 (x19 - x10) w u24 e25) ce_M_common wd_1028 ⟨by decide, by decide⟩ rfl rfl hl.1 rfl (lv_room (Nat.le_of_ble_eq_true rfl)) d_M_along_217 ⟨(show 0 + 0 ≤ 0 by omega), (show 0 + 0 ≤ 0 by omega)⟩) hI hA hexc (show 0 + 0 ≤ 0 by omega) (show 0 + 0 ≤ 0 by omega) (fun v26 w H locs h hI => ?_)
      refine lv_istore (lv' := [(14, .int v26), (13, .int v23), (5, .long x9), (7, .long x10), (9, .long x19), (11, .long x20)]) hx hb d_M_along_220 hl (by decide) rfl (fun ls hl => ?_)
      refine lv_iload hx hb d_M_along_222 (lv_at hl 1 rfl) ?_
      refine lv_iload hx hb d_M_along_224 (lv_at hl 0 rfl) ?_
      obtain ⟨K236, eK236, h⟩ := gj h
      have hK236 : ∀ (y27 : Int32) (w : gW) (H : Heap) (locs : List Loc) (ls : Array Slot), K236 y27 w = some r → gI D s A w H locs → lv_has ls 16 [] → W p l e rm_M_along s m args below meth c H locs 0 0 Q (F0 m 236 ls [.int y27]) := by
        intro y27 w H locs ls h hI hl
        have h := gk2 eK236 h
        exact W.widen (show 0 ≤ 0 by omega) (show 0 ≤ 0 by omega) (hret _ _ (Option.some.inj h).symm _ _ _ _ d_M_along_236 hI)
      refine lv_icmp_ge (tgt := 234) hx hb d_M_along_226 (by decide) (fun c28 => ?_) (fun c28 => ?_)
      · skip
        have h := git c28 h
        refine lv_iload hx hb d_M_along_234 (lv_at hl 0 rfl) ?_
        exact hK236 _ w H locs ls h hI (lv_sub hl [] rfl)
      · skip
        have h := gie c28 h
        refine lv_iload hx hb d_M_along_229 (lv_at hl 1 rfl) ?_
        refine lv_goto (tgt := 236) hx hb d_M_along_231 (by decide) ?_
        exact hK236 _ w H locs ls h hI (lv_sub hl [] rfl)
    have hL127 : ∀ (n : Nat), ∀ (z29 : Int64) (z30 : Int64) (z31 : Int32) (w : gW) (H : Heap) (locs : List Loc) (ls : Array Slot), f_M_along_L127 g0 a0 p1 p2 x9 x10 K202 n z29 z30 z31 w = some r → gI D s A w H locs → lv_has ls 16 [(0, .ref a0), (1, .long p1), (3, .long p2), (5, .long x9), (7, .long x10), (9, .long z29), (11, .long z30), (13, .int z31)] → W p l e rm_M_along s m args below meth c H locs 0 0 Q (F0 m 127 ls []) := by
      intro n
      induction n with
      | zero => intro z29 z30 z31 w H locs ls h hI hl; exact absurd h (by simp [f_M_along_L127])
      | succ n ih =>
        intro z29 z30 z31 w H locs ls h hI hl
        rw [f_M_along_L127] at h
        refine lv_iload hx hb d_M_along_127 (lv_at hl 7 rfl) ?_
        refine lv_bipush (v := 8) hx hb d_M_along_129 (by decide) ?_
        refine lv_aload_n hx hb d_M_along_131 rfl (lv_at hl 0 rfl) ?_
        obtain ⟨v32, e33, h⟩ := gb h
        refine gw_getA hx hb hT hown hK hI (ci := 7) rfl i_7 21 (by decide) wd_807 (fun _ h9 => h9) e33 d_M_along_132 ?_
        refine lv_iconst (v := 1) hx hb d_M_along_135 (by decide) ?_
        obtain ⟨v34, e35, h⟩ := gb h
        refine gw_aldI hx hb hK hI e35 d_M_along_136 ?_
        refine lv_iadd hx hb d_M_along_137 ?_
        refine lv_icmp_ge (tgt := 202) hx hb d_M_along_138 (by decide) (fun c36 => ?_) (fun c36 => ?_)
        · skip
          have h := git c36 h
          exact hK202 _ _ w H locs ls h hI (lv_sub hl [3, 4, 5, 6] rfl)
        · skip
          have h := gie c36 h
          refine lv_lload_n hx hb d_M_along_141 rfl (lv_at hl 1 rfl) ?_
          refine lv_aload_n hx hb d_M_along_142 rfl (lv_at hl 0 rfl) ?_
          obtain ⟨v37, e38, h⟩ := gb h
          refine gw_getA hx hb hT hown hK hI (ci := 7) rfl i_7 22 (by decide) wd_808 (fun _ h9 => h9) e38 d_M_along_143 ?_
          refine lv_iload hx hb d_M_along_146 (lv_at hl 7 rfl) ?_
          obtain ⟨v39, e40, h⟩ := gb h
          refine gw_aldJ hx hb hK hI e40 d_M_along_148 ?_
          refine lv_lmul hx hb d_M_along_149 ?_
          refine lv_lload_n hx hb d_M_along_150 rfl (lv_at hl 2 rfl) ?_
          refine lv_aload_n hx hb d_M_along_151 rfl (lv_at hl 0 rfl) ?_
          obtain ⟨v41, e42, h⟩ := gb h
          refine gw_getA hx hb hT hown hK hI (ci := 7) rfl i_7 23 (by decide) wd_809 (fun _ h9 => h9) e42 d_M_along_152 ?_
          refine lv_iload hx hb d_M_along_155 (lv_at hl 7 rfl) ?_
          obtain ⟨v43, e44, h⟩ := gb h
          refine gw_aldJ hx hb hK hI e44 d_M_along_157 ?_
          refine lv_lmul hx hb d_M_along_158 ?_
          refine lv_ladd hx hb d_M_along_159 ?_
          refine lv_lstore (lv' := [(14, .long ((p1 * v39) + (p2 * v43))), (0, .ref a0), (1, .long p1), (3, .long p2), (5, .long x9), (7, .long x10), (9, .long z29), (11, .long z30), (13, .int z31)]) hx hb d_M_along_160 hl (by decide) rfl (fun ls hl => ?_)
          refine lv_lload hx hb d_M_along_162 (lv_at hl 0 rfl) ?_
          refine lv_lload hx hb d_M_along_164 (lv_at hl 6 rfl) ?_
          refine W.lcmp hx hb d_M_along_166 ?_
          obtain ⟨K177, eK177, h⟩ := gj h
          have hK177 : ∀ (y45 : Int64) (w : gW) (H : Heap) (locs : List Loc) (ls : Array Slot), K177 y45 w = some r → gI D s A w H locs → lv_has ls 16 [(0, .ref a0), (1, .long p1), (3, .long p2), (5, .long x9), (7, .long x10), (11, .long z30), (13, .int z31), (14, .long ((p1 * v39) + (p2 * v43)))] → W p l e rm_M_along s m args below meth c H locs 0 0 Q (F0 m 177 ls [.long y45]) := by
            intro y45 w H locs ls h hI hl
            have h := gk2 eK177 h
            refine lv_lstore (lv' := [(9, .long y45), (0, .ref a0), (1, .long p1), (3, .long p2), (5, .long x9), (7, .long x10), (11, .long z30), (13, .int z31), (14, .long ((p1 * v39) + (p2 * v43)))]) hx hb d_M_along_177 hl (by decide) rfl (fun ls hl => ?_)
            refine lv_lload hx hb d_M_along_179 (lv_at hl 8 rfl) ?_
            refine lv_lload hx hb d_M_along_181 (lv_at hl 6 rfl) ?_
            refine W.lcmp hx hb d_M_along_183 ?_
            obtain ⟨K194, eK194, h⟩ := gj h
            have hK194 : ∀ (y46 : Int64) (w : gW) (H : Heap) (locs : List Loc) (ls : Array Slot), K194 y46 w = some r → gI D s A w H locs → lv_has ls 16 [(0, .ref a0), (1, .long p1), (3, .long p2), (5, .long x9), (7, .long x10), (9, .long y45), (13, .int z31)] → W p l e rm_M_along s m args below meth c H locs 0 0 Q (F0 m 194 ls [.long y46]) := by
              intro y46 w H locs ls h hI hl
              have h := gk2 eK194 h
              refine lv_lstore (lv' := [(11, .long y46), (0, .ref a0), (1, .long p1), (3, .long p2), (5, .long x9), (7, .long x10), (9, .long y45), (13, .int z31)]) hx hb d_M_along_194 hl (by decide) rfl (fun ls hl => ?_)
              refine lv_iinc (v := z31 + 1) (lv' := [(13, .int (z31 + 1)), (11, .long y46), (0, .ref a0), (1, .long p1), (3, .long p2), (5, .long x9), (7, .long x10), (9, .long y45)]) hx hb d_M_along_196 hl (k := 7) rfl rfl (by decide) rfl (fun ls hl => ?_)
              refine lv_goto (tgt := 127) hx hb d_M_along_199 (by decide) ?_
              exact ih _ _ _ w H locs ls h hI (lv_sub hl [2, 3, 4, 5, 6, 7, 1, 0] rfl)
            refine lv_if_le (tgt := 192) hx hb d_M_along_184 (by decide) (fun c47 => ?_) (fun c47 => ?_)
            · have c47 := (lg_cmp_le _ _).mp c47
              have h := git c47 h
              refine lv_lload hx hb d_M_along_192 (lv_at hl 6 rfl) ?_
              exact hK194 _ w H locs ls h hI (lv_sub hl [1, 2, 3, 4, 5, 0, 7] rfl)
            · have c47 := mt (lg_cmp_le _ _).mpr c47
              have h := gie c47 h
              refine lv_lload hx hb d_M_along_187 (lv_at hl 8 rfl) ?_
              refine lv_goto (tgt := 194) hx hb d_M_along_189 (by decide) ?_
              exact hK194 _ w H locs ls h hI (lv_sub hl [1, 2, 3, 4, 5, 0, 7] rfl)
          refine lv_if_ge (tgt := 175) hx hb d_M_along_167 (by decide) (fun c48 => ?_) (fun c48 => ?_)
          · have c48 := (lg_cmp_ge _ _).mp c48
            have h := git c48 h
            refine lv_lload hx hb d_M_along_175 (lv_at hl 6 rfl) ?_
            exact hK177 _ w H locs ls h hI (lv_sub hl [1, 2, 3, 4, 5, 7, 8, 0] rfl)
          · have c48 := mt (lg_cmp_ge _ _).mpr c48
            have h := gie c48 h
            refine lv_lload hx hb d_M_along_170 (lv_at hl 0 rfl) ?_
            refine lv_goto (tgt := 177) hx hb d_M_along_172 (by decide) ?_
            exact hK177 _ w H locs ls h hI (lv_sub hl [1, 2, 3, 4, 5, 7, 8, 0] rfl)
    exact hL127 64 _ _ _ w H locs ls h hI (lv_sub hl [3, 4, 5, 6, 7, 2, 1, 0] rfl)
  have hL26 : ∀ (n : Nat), ∀ (z49 : Int64) (z50 : Int64) (z51 : Int32) (w : gW) (H : Heap) (locs : List Loc) (ls : Array Slot), f_M_along_L26 g0 a0 p1 p2 K98 n z49 z50 z51 w = some r → gI D s A w H locs → lv_has ls 16 [(0, .ref a0), (1, .long p1), (3, .long p2), (5, .long z49), (7, .long z50), (9, .int z51)] → W p l e rm_M_along s m args below meth c H locs 0 0 Q (F0 m 26 ls []) := by
    intro n
    induction n with
    | zero => intro z49 z50 z51 w H locs ls h hI hl; exact absurd h (by simp [f_M_along_L26])
    | succ n ih =>
      intro z49 z50 z51 w H locs ls h hI hl
      rw [f_M_along_L26] at h
      refine lv_iload hx hb d_M_along_26 (lv_at hl 5 rfl) ?_
      refine lv_aload_n hx hb d_M_along_28 rfl (lv_at hl 0 rfl) ?_
      obtain ⟨v52, e53, h⟩ := gb h
      refine gw_getA hx hb hT hown hK hI (ci := 7) rfl i_7 21 (by decide) wd_807 (fun _ h9 => h9) e53 d_M_along_29 ?_
      refine lv_iconst (v := 0) hx hb d_M_along_32 (by decide) ?_
      obtain ⟨v54, e55, h⟩ := gb h
      refine gw_aldI hx hb hK hI e55 d_M_along_33 ?_
      refine lv_icmp_ge (tgt := 98) hx hb d_M_along_34 (by decide) (fun c56 => ?_) (fun c56 => ?_)
      · skip
        have h := git c56 h
        exact hK98 _ _ w H locs ls h hI (lv_sub hl [0, 1, 2, 3, 4] rfl)
      · skip
        have h := gie c56 h
        refine lv_lload_n hx hb d_M_along_37 rfl (lv_at hl 1 rfl) ?_
        refine lv_aload_n hx hb d_M_along_38 rfl (lv_at hl 0 rfl) ?_
        obtain ⟨v57, e58, h⟩ := gb h
        refine gw_getA hx hb hT hown hK hI (ci := 7) rfl i_7 22 (by decide) wd_808 (fun _ h9 => h9) e58 d_M_along_39 ?_
        refine lv_iload hx hb d_M_along_42 (lv_at hl 5 rfl) ?_
        obtain ⟨v59, e60, h⟩ := gb h
        refine gw_aldJ hx hb hK hI e60 d_M_along_44 ?_
        refine lv_lmul hx hb d_M_along_45 ?_
        refine lv_lload_n hx hb d_M_along_46 rfl (lv_at hl 2 rfl) ?_
        refine lv_aload_n hx hb d_M_along_47 rfl (lv_at hl 0 rfl) ?_
        obtain ⟨v61, e62, h⟩ := gb h
        refine gw_getA hx hb hT hown hK hI (ci := 7) rfl i_7 23 (by decide) wd_809 (fun _ h9 => h9) e62 d_M_along_48 ?_
        refine lv_iload hx hb d_M_along_51 (lv_at hl 5 rfl) ?_
        obtain ⟨v63, e64, h⟩ := gb h
        refine gw_aldJ hx hb hK hI e64 d_M_along_53 ?_
        refine lv_lmul hx hb d_M_along_54 ?_
        refine lv_ladd hx hb d_M_along_55 ?_
        refine lv_lstore (lv' := [(10, .long ((p1 * v59) + (p2 * v63))), (0, .ref a0), (1, .long p1), (3, .long p2), (5, .long z49), (7, .long z50), (9, .int z51)]) hx hb d_M_along_56 hl (by decide) rfl (fun ls hl => ?_)
        refine lv_lload hx hb d_M_along_58 (lv_at hl 0 rfl) ?_
        refine lv_lload hx hb d_M_along_60 (lv_at hl 4 rfl) ?_
        refine W.lcmp hx hb d_M_along_62 ?_
        obtain ⟨K73, eK73, h⟩ := gj h
        have hK73 : ∀ (y65 : Int64) (w : gW) (H : Heap) (locs : List Loc) (ls : Array Slot), K73 y65 w = some r → gI D s A w H locs → lv_has ls 16 [(0, .ref a0), (1, .long p1), (3, .long p2), (7, .long z50), (9, .int z51), (10, .long ((p1 * v59) + (p2 * v63)))] → W p l e rm_M_along s m args below meth c H locs 0 0 Q (F0 m 73 ls [.long y65]) := by
          intro y65 w H locs ls h hI hl
          have h := gk2 eK73 h
          refine lv_lstore (lv' := [(5, .long y65), (0, .ref a0), (1, .long p1), (3, .long p2), (7, .long z50), (9, .int z51), (10, .long ((p1 * v59) + (p2 * v63)))]) hx hb d_M_along_73 hl (by decide) rfl (fun ls hl => ?_)
          refine lv_lload hx hb d_M_along_75 (lv_at hl 6 rfl) ?_
          refine lv_lload hx hb d_M_along_77 (lv_at hl 4 rfl) ?_
          refine W.lcmp hx hb d_M_along_79 ?_
          obtain ⟨K90, eK90, h⟩ := gj h
          have hK90 : ∀ (y66 : Int64) (w : gW) (H : Heap) (locs : List Loc) (ls : Array Slot), K90 y66 w = some r → gI D s A w H locs → lv_has ls 16 [(0, .ref a0), (1, .long p1), (3, .long p2), (5, .long y65), (9, .int z51)] → W p l e rm_M_along s m args below meth c H locs 0 0 Q (F0 m 90 ls [.long y66]) := by
            intro y66 w H locs ls h hI hl
            have h := gk2 eK90 h
            refine lv_lstore (lv' := [(7, .long y66), (0, .ref a0), (1, .long p1), (3, .long p2), (5, .long y65), (9, .int z51)]) hx hb d_M_along_90 hl (by decide) rfl (fun ls hl => ?_)
            refine lv_iinc (v := z51 + 1) (lv' := [(9, .int (z51 + 1)), (7, .long y66), (0, .ref a0), (1, .long p1), (3, .long p2), (5, .long y65)]) hx hb d_M_along_92 hl (k := 5) rfl rfl (by decide) rfl (fun ls hl => ?_)
            refine lv_goto (tgt := 26) hx hb d_M_along_95 (by decide) ?_
            exact ih _ _ _ w H locs ls h hI (lv_sub hl [2, 3, 4, 5, 1, 0] rfl)
          refine lv_if_le (tgt := 88) hx hb d_M_along_80 (by decide) (fun c67 => ?_) (fun c67 => ?_)
          · have c67 := (lg_cmp_le _ _).mp c67
            have h := git c67 h
            refine lv_lload hx hb d_M_along_88 (lv_at hl 4 rfl) ?_
            exact hK90 _ w H locs ls h hI (lv_sub hl [1, 2, 3, 0, 5] rfl)
          · have c67 := mt (lg_cmp_le _ _).mpr c67
            have h := gie c67 h
            refine lv_lload hx hb d_M_along_83 (lv_at hl 6 rfl) ?_
            refine lv_goto (tgt := 90) hx hb d_M_along_85 (by decide) ?_
            exact hK90 _ w H locs ls h hI (lv_sub hl [1, 2, 3, 0, 5] rfl)
        refine lv_if_ge (tgt := 71) hx hb d_M_along_63 (by decide) (fun c68 => ?_) (fun c68 => ?_)
        · have c68 := (lg_cmp_ge _ _).mp c68
          have h := git c68 h
          refine lv_lload hx hb d_M_along_71 (lv_at hl 4 rfl) ?_
          exact hK73 _ w H locs ls h hI (lv_sub hl [1, 2, 3, 5, 6, 0] rfl)
        · have c68 := mt (lg_cmp_ge _ _).mpr c68
          have h := gie c68 h
          refine lv_lload hx hb d_M_along_66 (lv_at hl 0 rfl) ?_
          refine lv_goto (tgt := 73) hx hb d_M_along_68 (by decide) ?_
          exact hK73 _ w H locs ls h hI (lv_sub hl [1, 2, 3, 5, 6, 0] rfl)
  exact hL26 64 _ _ _ w H locs ls h hI (lv_sub hl [3, 4, 5, 2, 1, 0] rfl)

abbrev b_M_polygons : ByteArray := prog_9_method_37_code
def y_M_polygons : MethodName := ⟨"BodySolidsModel", "polygons", "()I"⟩
theorem d_M_polygons_0 : decode b_M_polygons 0 = .ok (.iconst 2, 1) := by decide +kernel
theorem d_M_polygons_1 : decode b_M_polygons 1 = .ok (.istore_n 1, 1) := by decide +kernel
theorem d_M_polygons_2 : decode b_M_polygons 2 = .ok (.iconst 0, 1) := by decide +kernel
theorem d_M_polygons_3 : decode b_M_polygons 3 = .ok (.istore_n 2, 1) := by decide +kernel
theorem d_M_polygons_4 : decode b_M_polygons 4 = .ok (.iload_n 2, 1) := by decide +kernel
theorem d_M_polygons_5 : decode b_M_polygons 5 = .ok (.iconst 2, 1) := by decide +kernel
theorem d_M_polygons_6 : decode b_M_polygons 6 = .ok (.if_icmp .ge 106, 3) := by decide +kernel
theorem d_M_polygons_9 : decode b_M_polygons 9 = .ok (.iconst 0, 1) := by decide +kernel
theorem d_M_polygons_10 : decode b_M_polygons 10 = .ok (.istore_n 3, 1) := by decide +kernel
theorem d_M_polygons_11 : decode b_M_polygons 11 = .ok (.iload_n 3, 1) := by decide +kernel
theorem d_M_polygons_12 : decode b_M_polygons 12 = .ok (.aload_n 0, 1) := by decide +kernel
theorem d_M_polygons_13 : decode b_M_polygons 13 = .ok (.getfield 56, 3) := by decide +kernel
theorem d_M_polygons_16 : decode b_M_polygons 16 = .ok (.iload_n 2, 1) := by decide +kernel
theorem d_M_polygons_17 : decode b_M_polygons 17 = .ok (.iaload, 1) := by decide +kernel
theorem d_M_polygons_18 : decode b_M_polygons 18 = .ok (.if_icmp .ge 88, 3) := by decide +kernel
theorem d_M_polygons_21 : decode b_M_polygons 21 = .ok (.iload_n 3, 1) := by decide +kernel
theorem d_M_polygons_22 : decode b_M_polygons 22 = .ok (.iconst 1, 1) := by decide +kernel
theorem d_M_polygons_23 : decode b_M_polygons 23 = .ok (.iadd, 1) := by decide +kernel
theorem d_M_polygons_24 : decode b_M_polygons 24 = .ok (.aload_n 0, 1) := by decide +kernel
theorem d_M_polygons_25 : decode b_M_polygons 25 = .ok (.getfield 56, 3) := by decide +kernel
theorem d_M_polygons_28 : decode b_M_polygons 28 = .ok (.iload_n 2, 1) := by decide +kernel
theorem d_M_polygons_29 : decode b_M_polygons 29 = .ok (.iaload, 1) := by decide +kernel
theorem d_M_polygons_30 : decode b_M_polygons 30 = .ok (.irem, 1) := by decide +kernel
theorem d_M_polygons_31 : decode b_M_polygons 31 = .ok (.istore 4, 2) := by decide +kernel
theorem d_M_polygons_33 : decode b_M_polygons 33 = .ok (.aload_n 0, 1) := by decide +kernel
theorem d_M_polygons_34 : decode b_M_polygons 34 = .ok (.aload_n 0, 1) := by decide +kernel
theorem d_M_polygons_35 : decode b_M_polygons 35 = .ok (.getfield 62, 3) := by decide +kernel
theorem d_M_polygons_38 : decode b_M_polygons 38 = .ok (.bipush 8, 2) := by decide +kernel
theorem d_M_polygons_40 : decode b_M_polygons 40 = .ok (.iload_n 2, 1) := by decide +kernel
theorem d_M_polygons_41 : decode b_M_polygons 41 = .ok (.imul, 1) := by decide +kernel
theorem d_M_polygons_42 : decode b_M_polygons 42 = .ok (.iload 4, 2) := by decide +kernel
theorem d_M_polygons_44 : decode b_M_polygons 44 = .ok (.iadd, 1) := by decide +kernel
theorem d_M_polygons_45 : decode b_M_polygons 45 = .ok (.laload, 1) := by decide +kernel
theorem d_M_polygons_46 : decode b_M_polygons 46 = .ok (.aload_n 0, 1) := by decide +kernel
theorem d_M_polygons_47 : decode b_M_polygons 47 = .ok (.getfield 62, 3) := by decide +kernel
theorem d_M_polygons_50 : decode b_M_polygons 50 = .ok (.bipush 8, 2) := by decide +kernel
theorem d_M_polygons_52 : decode b_M_polygons 52 = .ok (.iload_n 2, 1) := by decide +kernel
theorem d_M_polygons_53 : decode b_M_polygons 53 = .ok (.imul, 1) := by decide +kernel
theorem d_M_polygons_54 : decode b_M_polygons 54 = .ok (.iload_n 3, 1) := by decide +kernel
theorem d_M_polygons_55 : decode b_M_polygons 55 = .ok (.iadd, 1) := by decide +kernel
theorem d_M_polygons_56 : decode b_M_polygons 56 = .ok (.laload, 1) := by decide +kernel
theorem d_M_polygons_57 : decode b_M_polygons 57 = .ok (.lsub, 1) := by decide +kernel
theorem d_M_polygons_58 : decode b_M_polygons 58 = .ok (.aload_n 0, 1) := by decide +kernel
theorem d_M_polygons_59 : decode b_M_polygons 59 = .ok (.getfield 59, 3) := by decide +kernel
theorem d_M_polygons_62 : decode b_M_polygons 62 = .ok (.bipush 8, 2) := by decide +kernel
theorem d_M_polygons_64 : decode b_M_polygons 64 = .ok (.iload_n 2, 1) := by decide +kernel
theorem d_M_polygons_65 : decode b_M_polygons 65 = .ok (.imul, 1) := by decide +kernel
theorem d_M_polygons_66 : decode b_M_polygons 66 = .ok (.iload_n 3, 1) := by decide +kernel
theorem d_M_polygons_67 : decode b_M_polygons 67 = .ok (.iadd, 1) := by decide +kernel
theorem d_M_polygons_68 : decode b_M_polygons 68 = .ok (.laload, 1) := by decide +kernel
theorem d_M_polygons_69 : decode b_M_polygons 69 = .ok (.aload_n 0, 1) := by decide +kernel
theorem d_M_polygons_70 : decode b_M_polygons 70 = .ok (.getfield 59, 3) := by decide +kernel
theorem d_M_polygons_73 : decode b_M_polygons 73 = .ok (.bipush 8, 2) := by decide +kernel
theorem d_M_polygons_75 : decode b_M_polygons 75 = .ok (.iload_n 2, 1) := by decide +kernel
theorem d_M_polygons_76 : decode b_M_polygons 76 = .ok (.imul, 1) := by decide +kernel
theorem d_M_polygons_77 : decode b_M_polygons 77 = .ok (.iload 4, 2) := by decide +kernel
theorem d_M_polygons_79 : decode b_M_polygons 79 = .ok (.iadd, 1) := by decide +kernel
theorem d_M_polygons_80 : decode b_M_polygons 80 = .ok (.laload, 1) := by decide +kernel
theorem d_M_polygons_81 : decode b_M_polygons 81 = .ok (.lsub, 1) := by decide +kernel
theorem d_M_polygons_82 : decode b_M_polygons 82 = .ok (.invokevirtual 190, 3) := by decide +kernel
theorem d_M_polygons_85 : decode b_M_polygons 85 = .ok (.istore 5, 2) := by decide +kernel
theorem d_M_polygons_87 : decode b_M_polygons 87 = .ok (.iload 5, 2) := by decide +kernel
theorem d_M_polygons_89 : decode b_M_polygons 89 = .ok (.iload_n 1, 1) := by decide +kernel
theorem d_M_polygons_90 : decode b_M_polygons 90 = .ok (.if_icmp .ge 8, 3) := by decide +kernel
theorem d_M_polygons_93 : decode b_M_polygons 93 = .ok (.iload 5, 2) := by decide +kernel
theorem d_M_polygons_95 : decode b_M_polygons 95 = .ok (.goto 4, 3) := by decide +kernel
theorem d_M_polygons_98 : decode b_M_polygons 98 = .ok (.iload_n 1, 1) := by decide +kernel
theorem d_M_polygons_99 : decode b_M_polygons 99 = .ok (.istore_n 1, 1) := by decide +kernel
theorem d_M_polygons_100 : decode b_M_polygons 100 = .ok (.iinc 3 1, 3) := by decide +kernel
theorem d_M_polygons_103 : decode b_M_polygons 103 = .ok (.goto (-92), 3) := by decide +kernel
theorem d_M_polygons_106 : decode b_M_polygons 106 = .ok (.iinc 2 1, 3) := by decide +kernel
theorem d_M_polygons_109 : decode b_M_polygons 109 = .ok (.goto (-105), 3) := by decide +kernel
theorem d_M_polygons_112 : decode b_M_polygons 112 = .ok (.iload_n 1, 1) := by decide +kernel
theorem d_M_polygons_113 : decode b_M_polygons 113 = .ok (.ireturn, 1) := by decide +kernel
abbrev rm_M_polygons : Room := { frames := 2, cells := 0, slots := 0, locals := 56 }
theorem ce_M_polygons : gCe y_M_polygons (.code y_M_polygons b_M_polygons 6 (some .int)) 6 0 false := gCe.code wd_1062 wd_57 wd_1061 (by decide) (by decide +kernel)
def f_M_polygons_L11 (g0 : gG) (c0 : Nat) (c2 : Int32) (K106 : Int32 → gW → gX Int32) : Nat → Int32 → Int32 → gW → gX Int32
  | 0, _, _, _ => none
  | n + 1, z1, z3, w => (gfA w c0 7 21).bind fun v4 => (gaI w v4 c2).bind fun v6 => if v6 ≤ z3 then (K106 z1 w) else ((gfA w c0 7 21).bind fun v9 => (gaI w v9 c2).bind fun v11 => gguard (¬ v11 = 0) ((gfA w c0 7 23).bind fun v14 => (gaJ w v14 ((8 * c2) + ((z3 + 1) - (z3 + 1) / v11 * v11))).bind fun v16 => (gfA w c0 7 23).bind fun v18 => (gaJ w v18 ((8 * c2) + z3)).bind fun v20 => (gfA w c0 7 22).bind fun v22 => (gaJ w v22 ((8 * c2) + z3)).bind fun v24 => (gfA w c0 7 22).bind fun v26 => (gaJ w v26 ((8 * c2) + ((z3 + 1) - (z3 + 1) / v11 * v11))).bind fun v28 => (gck w c0 7).bind fun _ => gbind (f_M_along g0 c0 (v16 - v20) (v24 - v28) w) fun v34 w => gjoin (fun K99 => if z1 ≤ v34 then (K99 z1 w) else (K99 v34 w)) (fun (y35 : Int32) (w : gW) => f_M_polygons_L11 g0 c0 c2 K106 n y35 (z3 + 1) w)))
def f_M_polygons_L4 (g0 : gG) (c0 : Nat) (K112 : Int32 → gW → gX Int32) : Nat → Int32 → Int32 → gW → gX Int32
  | 0, _, _, _ => none
  | n + 1, z1, z2, w => if 2 ≤ z2 then (K112 z1 w) else (gjoin (fun K106 => f_M_polygons_L11 g0 c0 z2 K106 64 z1 0 w) (fun (x3 : Int32) (w : gW) => f_M_polygons_L4 g0 c0 K112 n x3 (z2 + 1) w))
def f_M_polygons (g0 : gG) (a0 : Nat) (w : gW) : gX Int32 := gjoin (fun K112 => f_M_polygons_L4 g0 a0 K112 64 2 0 w) (fun (x1 : Int32) (w : gW) => some (.inr x1, w))
set_option maxHeartbeats 4000000 in
set_option maxRecDepth 100000 in
theorem m_M_polygons (l : Launch) (hst : l.stackTraces = false) (D : gD) (g0 : gG) (a0 : Nat) (w : gW) (r : (String ⊕ Int32) × gW) (h : f_M_polygons g0 a0 w = some r) : gMet l y_M_polygons (.code y_M_polygons b_M_polygons 6 (some .int)) rm_M_polygons D g0 [.ref a0] w (goI r) := by
  refine gw_ofI (by decide +kernel) (Nat.le_of_ble_eq_true rfl) ?_
  intro p e s m below meth c ls args A Q hx hb hml hown hlocks hin hnt hT hK hZ hA hret hexc hthr hI hl
  obtain ⟨H, hH⟩ : ∃ H, H = s.heap := ⟨_, rfl⟩
  rw [← hH] at hI ⊢
  obtain ⟨locs, hlocs⟩ : ∃ z : List Loc, z = [] := ⟨_, rfl⟩
  rw [← hlocs] at hI ⊢
  have hl : lv_has ls 6 [(0, .ref a0)] := hl
  unfold f_M_polygons at h
  refine lv_iconst (v := 2) hx hb d_M_polygons_0 (by decide) ?_
  refine lv_istore_n (lv' := [(1, .int 2), (0, .ref a0)]) hx hb d_M_polygons_1 rfl hl (by decide) rfl (fun ls hl => ?_)
  refine lv_iconst (v := 0) hx hb d_M_polygons_2 (by decide) ?_
  refine lv_istore_n (lv' := [(2, .int 0), (1, .int 2), (0, .ref a0)]) hx hb d_M_polygons_3 rfl hl (by decide) rfl (fun ls hl => ?_)
  obtain ⟨K112, eK112, h⟩ := gj h
  have hK112 : ∀ (x1 : Int32) (w : gW) (H : Heap) (locs : List Loc) (ls : Array Slot), K112 x1 w = some r → gI D s A w H locs → lv_has ls 6 [(1, .int x1)] → W p l e rm_M_polygons s m args below meth c H locs 0 0 Q (F0 m 112 ls []) := by
    intro x1 w H locs ls h hI hl
    have h := gk2 eK112 h
    refine lv_iload_n hx hb d_M_polygons_112 rfl (lv_at hl 0 rfl) ?_
    exact W.widen (show 0 ≤ 0 by omega) (show 0 ≤ 0 by omega) (hret _ _ (Option.some.inj h).symm _ _ _ _ d_M_polygons_113 hI)
  have hL4 : ∀ (n : Nat), ∀ (z2 : Int32) (z3 : Int32) (w : gW) (H : Heap) (locs : List Loc) (ls : Array Slot), f_M_polygons_L4 g0 a0 K112 n z2 z3 w = some r → gI D s A w H locs → lv_has ls 6 [(0, .ref a0), (1, .int z2), (2, .int z3)] → W p l e rm_M_polygons s m args below meth c H locs 0 0 Q (F0 m 4 ls []) := by
    intro n
    induction n with
    | zero => intro z2 z3 w H locs ls h hI hl; exact absurd h (by simp [f_M_polygons_L4])
    | succ n ih =>
      intro z2 z3 w H locs ls h hI hl
      rw [f_M_polygons_L4] at h
      refine lv_iload_n hx hb d_M_polygons_4 rfl (lv_at hl 2 rfl) ?_
      refine lv_iconst (v := 2) hx hb d_M_polygons_5 (by decide) ?_
      refine lv_icmp_ge (tgt := 112) hx hb d_M_polygons_6 (by decide) (fun c4 => ?_) (fun c4 => ?_)
      · skip
        have h := git c4 h
        exact hK112 _ w H locs ls h hI (lv_sub hl [1] rfl)
      · skip
        have h := gie c4 h
        refine lv_iconst (v := 0) hx hb d_M_polygons_9 (by decide) ?_
        refine lv_istore_n (lv' := [(3, .int 0), (0, .ref a0), (1, .int z2), (2, .int z3)]) hx hb d_M_polygons_10 rfl hl (by decide) rfl (fun ls hl => ?_)
        obtain ⟨K106, eK106, h⟩ := gj h
        have hK106 : ∀ (x5 : Int32) (w : gW) (H : Heap) (locs : List Loc) (ls : Array Slot), K106 x5 w = some r → gI D s A w H locs → lv_has ls 6 [(0, .ref a0), (1, .int x5), (2, .int z3)] → W p l e rm_M_polygons s m args below meth c H locs 0 0 Q (F0 m 106 ls []) := by
          intro x5 w H locs ls h hI hl
          have h := gk2 eK106 h
          refine lv_iinc (v := z3 + 1) (lv' := [(2, .int (z3 + 1)), (0, .ref a0), (1, .int x5)]) hx hb d_M_polygons_106 hl (k := 2) rfl rfl (by decide) rfl (fun ls hl => ?_)
          refine lv_goto (tgt := 4) hx hb d_M_polygons_109 (by decide) ?_
          exact ih _ _ w H locs ls h hI (lv_sub hl [1, 2, 0] rfl)
        have hL11 : ∀ (n : Nat), ∀ (z6 : Int32) (z7 : Int32) (w : gW) (H : Heap) (locs : List Loc) (ls : Array Slot), f_M_polygons_L11 g0 a0 z3 K106 n z6 z7 w = some r → gI D s A w H locs → lv_has ls 6 [(0, .ref a0), (2, .int z3), (1, .int z6), (3, .int z7)] → W p l e rm_M_polygons s m args below meth c H locs 0 0 Q (F0 m 11 ls []) := by
          intro n
          induction n with
          | zero => intro z6 z7 w H locs ls h hI hl; exact absurd h (by simp [f_M_polygons_L11])
          | succ n ih =>
            intro z6 z7 w H locs ls h hI hl
            rw [f_M_polygons_L11] at h
            refine lv_iload_n hx hb d_M_polygons_11 rfl (lv_at hl 3 rfl) ?_
            refine lv_aload_n hx hb d_M_polygons_12 rfl (lv_at hl 0 rfl) ?_
            obtain ⟨v8, e9, h⟩ := gb h
            refine gw_getA hx hb hT hown hK hI (ci := 7) rfl i_7 21 (by decide) wd_807 (fun _ h9 => h9) e9 d_M_polygons_13 ?_
            refine lv_iload_n hx hb d_M_polygons_16 rfl (lv_at hl 1 rfl) ?_
            obtain ⟨v10, e11, h⟩ := gb h
            refine gw_aldI hx hb hK hI e11 d_M_polygons_17 ?_
            refine lv_icmp_ge (tgt := 106) hx hb d_M_polygons_18 (by decide) (fun c12 => ?_) (fun c12 => ?_)
            · skip
              have h := git c12 h
              exact hK106 _ w H locs ls h hI (lv_sub hl [0, 2, 1] rfl)
            · skip
              have h := gie c12 h
              refine lv_iload_n hx hb d_M_polygons_21 rfl (lv_at hl 3 rfl) ?_
              refine lv_iconst (v := 1) hx hb d_M_polygons_22 (by decide) ?_
              refine lv_iadd hx hb d_M_polygons_23 ?_
              refine lv_aload_n hx hb d_M_polygons_24 rfl (lv_at hl 0 rfl) ?_
              obtain ⟨v13, e14, h⟩ := gb h
              refine gw_getA hx hb hT hown hK hI (ci := 7) rfl i_7 21 (by decide) wd_807 (fun _ h9 => h9) e14 d_M_polygons_25 ?_
              refine lv_iload_n hx hb d_M_polygons_28 rfl (lv_at hl 1 rfl) ?_
              obtain ⟨v15, e16, h⟩ := gb h
              refine gw_aldI hx hb hK hI e16 d_M_polygons_29 ?_
              obtain ⟨g17, h⟩ := gif h
              refine lv_irem hx hb d_M_polygons_30 g17 ?_
              refine lv_istore (lv' := [(4, .int ((z7 + 1) - (z7 + 1) / v15 * v15)), (0, .ref a0), (2, .int z3), (1, .int z6), (3, .int z7)]) hx hb d_M_polygons_31 hl (by decide) rfl (fun ls hl => ?_)
              refine lv_aload_n hx hb d_M_polygons_33 rfl (lv_at hl 1 rfl) ?_
              refine lv_aload_n hx hb d_M_polygons_34 rfl (lv_at hl 1 rfl) ?_
              obtain ⟨v18, e19, h⟩ := gb h
              refine gw_getA hx hb hT hown hK hI (ci := 7) rfl i_7 23 (by decide) wd_809 (fun _ h9 => h9) e19 d_M_polygons_35 ?_
              refine lv_bipush (v := 8) hx hb d_M_polygons_38 (by decide) ?_
              refine lv_iload_n hx hb d_M_polygons_40 rfl (lv_at hl 2 rfl) ?_
              refine lv_imul hx hb d_M_polygons_41 ?_
              refine lv_iload hx hb d_M_polygons_42 (lv_at hl 0 rfl) ?_
              refine lv_iadd hx hb d_M_polygons_44 ?_
              obtain ⟨v20, e21, h⟩ := gb h
              refine gw_aldJ hx hb hK hI e21 d_M_polygons_45 ?_
              refine lv_aload_n hx hb d_M_polygons_46 rfl (lv_at hl 1 rfl) ?_
              obtain ⟨v22, e23, h⟩ := gb h
              refine gw_getA hx hb hT hown hK hI (ci := 7) rfl i_7 23 (by decide) wd_809 (fun _ h9 => h9) e23 d_M_polygons_47 ?_
              refine lv_bipush (v := 8) hx hb d_M_polygons_50 (by decide) ?_
              refine lv_iload_n hx hb d_M_polygons_52 rfl (lv_at hl 2 rfl) ?_
              refine lv_imul hx hb d_M_polygons_53 ?_
              refine lv_iload_n hx hb d_M_polygons_54 rfl (lv_at hl 4 rfl) ?_
              refine lv_iadd hx hb d_M_polygons_55 ?_
              obtain ⟨v24, e25, h⟩ := gb h
              refine gw_aldJ hx hb hK hI e25 d_M_polygons_56 ?_
              refine lv_lsub hx hb d_M_polygons_57 ?_
              refine lv_aload_n hx hb d_M_polygons_58 rfl (lv_at hl 1 rfl) ?_
              obtain ⟨v26, e27, h⟩ := gb h
              refine gw_getA hx hb hT hown hK hI (ci := 7) rfl i_7 22 (by decide) wd_808 (fun _ h9 => h9) e27 d_M_polygons_59 ?_
              refine lv_bipush (v := 8) hx hb d_M_polygons_62 (by decide) ?_
              refine lv_iload_n hx hb d_M_polygons_64 rfl (lv_at hl 2 rfl) ?_
              refine lv_imul hx hb d_M_polygons_65 ?_
              refine lv_iload_n hx hb d_M_polygons_66 rfl (lv_at hl 4 rfl) ?_
              refine lv_iadd hx hb d_M_polygons_67 ?_
              obtain ⟨v28, e29, h⟩ := gb h
              refine gw_aldJ hx hb hK hI e29 d_M_polygons_68 ?_
              refine lv_aload_n hx hb d_M_polygons_69 rfl (lv_at hl 1 rfl) ?_
              obtain ⟨v30, e31, h⟩ := gb h
              refine gw_getA hx hb hT hown hK hI (ci := 7) rfl i_7 22 (by decide) wd_808 (fun _ h9 => h9) e31 d_M_polygons_70 ?_
              refine lv_bipush (v := 8) hx hb d_M_polygons_73 (by decide) ?_
              refine lv_iload_n hx hb d_M_polygons_75 rfl (lv_at hl 2 rfl) ?_
              refine lv_imul hx hb d_M_polygons_76 ?_
              refine lv_iload hx hb d_M_polygons_77 (lv_at hl 0 rfl) ?_
              refine lv_iadd hx hb d_M_polygons_79 ?_
              obtain ⟨v32, e33, h⟩ := gb h
              refine gw_aldJ hx hb hK hI e33 d_M_polygons_80 ?_
              refine lv_lsub hx hb d_M_polygons_81 ?_
              obtain ⟨q36, e37, h⟩ := gb h
              obtain ⟨u34, e35⟩ := gsome h
              refine gw_callI e35 h (gw_runV (As := [.long (v20 - v24), .long (v28 - v32)]) (rest := []) hx hb hml hown hT hK hZ hA hI (ci := 7) rfl e37 (m_M_along l hst D g0 a0 (v20 - v24) (v28 - v32) w u34 e35) ce_M_along wd_1063 wd_43 ⟨by decide, by decide⟩ rfl rfl hl.1 rfl (lv_room (Nat.le_of_ble_eq_true rfl)) d_M_polygons_82 ⟨(show 0 + 0 ≤ 0 by omega), (show 0 + 0 ≤ 0 by omega)⟩) hI hA hexc (show 0 + 0 ≤ 0 by omega) (show 0 + 0 ≤ 0 by omega) (fun v38 w H locs h hI => ?_)
              refine lv_istore (lv' := [(5, .int v38), (4, .int ((z7 + 1) - (z7 + 1) / v15 * v15)), (0, .ref a0), (2, .int z3), (1, .int z6), (3, .int z7)]) hx hb d_M_polygons_85 hl (by decide) rfl (fun ls hl => ?_)
              refine lv_iload hx hb d_M_polygons_87 (lv_at hl 0 rfl) ?_
              refine lv_iload_n hx hb d_M_polygons_89 rfl (lv_at hl 4 rfl) ?_
              obtain ⟨K99, eK99, h⟩ := gj h
              have hK99 : ∀ (y39 : Int32) (w : gW) (H : Heap) (locs : List Loc) (ls : Array Slot), K99 y39 w = some r → gI D s A w H locs → lv_has ls 6 [(0, .ref a0), (2, .int z3), (3, .int z7)] → W p l e rm_M_polygons s m args below meth c H locs 0 0 Q (F0 m 99 ls [.int y39]) := by
                intro y39 w H locs ls h hI hl
                have h := gk2 eK99 h
                refine lv_istore_n (lv' := [(1, .int y39), (0, .ref a0), (2, .int z3), (3, .int z7)]) hx hb d_M_polygons_99 rfl hl (by decide) rfl (fun ls hl => ?_)
                refine lv_iinc (v := z7 + 1) (lv' := [(3, .int (z7 + 1)), (1, .int y39), (0, .ref a0), (2, .int z3)]) hx hb d_M_polygons_100 hl (k := 3) rfl rfl (by decide) rfl (fun ls hl => ?_)
                refine lv_goto (tgt := 11) hx hb d_M_polygons_103 (by decide) ?_
                exact ih _ _ w H locs ls h hI (lv_sub hl [2, 3, 1, 0] rfl)
              refine lv_icmp_ge (tgt := 98) hx hb d_M_polygons_90 (by decide) (fun c40 => ?_) (fun c40 => ?_)
              · skip
                have h := git c40 h
                refine lv_iload_n hx hb d_M_polygons_98 rfl (lv_at hl 4 rfl) ?_
                exact hK99 _ w H locs ls h hI (lv_sub hl [2, 3, 5] rfl)
              · skip
                have h := gie c40 h
                refine lv_iload hx hb d_M_polygons_93 (lv_at hl 0 rfl) ?_
                refine lv_goto (tgt := 99) hx hb d_M_polygons_95 (by decide) ?_
                exact hK99 _ w H locs ls h hI (lv_sub hl [2, 3, 5] rfl)
        exact hL11 64 _ _ w H locs ls h hI (lv_sub hl [1, 3, 2, 0] rfl)
  exact hL4 64 _ _ w H locs ls h hI (lv_sub hl [2, 1, 0] rfl)
