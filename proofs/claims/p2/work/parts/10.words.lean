theorem df_0 : ∀ j, j < 10 → defaultValue (t_0 j) = vp_V [.long 0, .null, .null, .null, .null, .null, .int 0, .null, .null, .null] j := by decide +kernel
theorem df_1 : ∀ j, j < 3 → defaultValue (t_1 j) = vp_V [.null, .int 0, .int 0] j := by decide +kernel
theorem df_2 : ∀ j, j < 2 → defaultValue (t_2 j) = vp_V [.null, .int 0] j := by decide +kernel
theorem df_3 : ∀ j, j < 12 → defaultValue (t_3 j) = vp_V [.int 0, .long 0, .long 0, .null, .null, .int 0, .long 0, .long 0, .long 0, .long 0, .long 0, .long 0] j := by decide +kernel
theorem df_4 : ∀ j, j < 2 → defaultValue (t_4 j) = vp_V [.null, .long 0] j := by decide +kernel
theorem df_5 : ∀ j, j < 5 → defaultValue (t_5 j) = vp_V [.null, .long 0, .long 0, .int 0, .int 0] j := by decide +kernel
theorem df_6 : ∀ j, j < 2 → defaultValue (t_6 j) = vp_V [.null, .int 0] j := by decide +kernel
theorem df_7 : ∀ j, j < 27 → defaultValue (t_7 j) = vp_V [.int 0, .long 0, .int 0, .null, .null, .null, .null, .null, .null, .int 0, .null, .null, .int 0, .null, .null, .null, .null, .null, .int 0, .null, .null, .null, .null, .null, .null, .null, .null] j := by decide +kernel
set_option maxRecDepth 100000 in
theorem wd_1 : Cond.selects "java/util/ArrayList" ⟨"java/util/ArrayList", "add", "(Ljava/lang/Object;[Ljava/lang/Object;I)V"⟩ ⟨"java/util/ArrayList", "add", "(Ljava/lang/Object;[Ljava/lang/Object;I)V"⟩ ∈ gAll := gm 1 rfl rfl
set_option maxRecDepth 100000 in
theorem wd_2 : Cond.selects "java/util/ArrayList" ⟨"java/util/ArrayList", "grow", "()[Ljava/lang/Object;"⟩ ⟨"java/util/ArrayList", "grow", "()[Ljava/lang/Object;"⟩ ∈ gAll := gm 2 rfl rfl
set_option maxRecDepth 100000 in
theorem wd_3 : Cond.selects "java/util/ArrayList" ⟨"java/util/ArrayList", "grow", "(I)[Ljava/lang/Object;"⟩ ⟨"java/util/ArrayList", "grow", "(I)[Ljava/lang/Object;"⟩ ∈ gAll := gm 3 rfl rfl
set_option maxRecDepth 100000 in
theorem wd_49 : Jvm.Cond.initialized "BodySolids" ∈ gAll := gm 49 rfl rfl
set_option maxRecDepth 100000 in
theorem wd_50 : Jvm.Cond.initialized "java/lang/Math" ∈ gAll := gm 50 rfl rfl
set_option maxRecDepth 100000 in
theorem wd_51 : Jvm.Cond.initialized "java/util/AbstractCollection" ∈ gAll := gm 51 rfl rfl
set_option maxRecDepth 100000 in
theorem wd_52 : Jvm.Cond.initialized "java/util/AbstractList" ∈ gAll := gm 52 rfl rfl
set_option maxRecDepth 100000 in
theorem wd_53 : Jvm.Cond.initialized "java/util/ArrayList" ∈ gAll := gm 53 rfl rfl
set_option maxRecDepth 100000 in
theorem wd_54 : Jvm.Cond.initialized "java/util/Arrays" ∈ gAll := gm 54 rfl rfl
set_option maxRecDepth 100000 in
theorem wd_59 : Jvm.Cond.initialized "jdk/internal/util/ArraysSupport" ∈ gAll := gm 59 rfl rfl
set_option maxRecDepth 100000 in
theorem wd_60 : Jvm.Cond.initialized "java/lang/System" ∈ gAll := gm 60 rfl rfl
set_option maxRecDepth 100000 in
theorem wd_64 : Jvm.Cond.initialized "java/lang/IndexOutOfBoundsException" ∈ gAll := gm 64 rfl rfl
set_option maxRecDepth 100000 in
theorem wd_65 : Jvm.Cond.initialized "java/util/Objects" ∈ gAll := gm 65 rfl rfl
set_option maxRecDepth 100000 in
theorem wd_66 : Jvm.Cond.initialized "jdk/internal/util/Preconditions" ∈ gAll := gm 66 rfl rfl
set_option maxRecDepth 100000 in
theorem wd_67 : Jvm.Cond.initialized "java/lang/IllegalArgumentException" ∈ gAll := gm 67 rfl rfl
set_option maxRecDepth 100000 in
theorem wd_78 : Jvm.Cond.instanceMethod ({ cls := "java/lang/Object", name := "<init>", desc := "()V" } : Jvm.MethodName) ∈ gAll := gm 78 rfl rfl
set_option maxRecDepth 100000 in
theorem wd_79 : Jvm.Cond.code ({ cls := "java/lang/Object", name := "<init>", desc := "()V" } : Jvm.MethodName) object_method_1_code (1 : Nat) (Option.none : Option Jvm.ClassFile.FieldType) ∈ gAll := gm 79 rfl rfl
set_option maxRecDepth 100000 in
theorem wd_90 : Jvm.Cond.instanceMethod ({ cls := "java/util/ArrayList", name := "<init>", desc := "()V" } : Jvm.MethodName) ∈ gAll := gm 90 rfl rfl
set_option maxRecDepth 100000 in
theorem wd_91 : Jvm.Cond.code ({ cls := "java/util/ArrayList", name := "<init>", desc := "()V" } : Jvm.MethodName) prog_24_method_2_code (1 : Nat) (Option.none : Option Jvm.ClassFile.FieldType) ∈ gAll := gm 91 rfl rfl
set_option maxRecDepth 100000 in
theorem wd_92 : Jvm.Cond.methodLink "java/util/ArrayList" (1 : Nat) ({ cls := "java/util/AbstractList", name := "<init>", desc := "()V" } : Jvm.MethodName) ∈ gAll := gm 92 rfl rfl
set_option maxRecDepth 100000 in
theorem wd_93 : Jvm.Cond.instanceMethod ({ cls := "java/util/AbstractList", name := "<init>", desc := "()V" } : Jvm.MethodName) ∈ gAll := gm 93 rfl rfl
set_option maxRecDepth 100000 in
theorem wd_94 : Jvm.Cond.code ({ cls := "java/util/AbstractList", name := "<init>", desc := "()V" } : Jvm.MethodName) prog_23_method_1_code (1 : Nat) (Option.none : Option Jvm.ClassFile.FieldType) ∈ gAll := gm 94 rfl rfl
set_option maxRecDepth 100000 in
theorem wd_95 : Jvm.Cond.methodLink "java/util/AbstractList" (1 : Nat) ({ cls := "java/util/AbstractCollection", name := "<init>", desc := "()V" } : Jvm.MethodName) ∈ gAll := gm 95 rfl rfl
set_option maxRecDepth 100000 in
theorem wd_96 : Jvm.Cond.instanceMethod ({ cls := "java/util/AbstractCollection", name := "<init>", desc := "()V" } : Jvm.MethodName) ∈ gAll := gm 96 rfl rfl
set_option maxRecDepth 100000 in
theorem wd_97 : Jvm.Cond.code ({ cls := "java/util/AbstractCollection", name := "<init>", desc := "()V" } : Jvm.MethodName) prog_22_method_1_code (1 : Nat) (Option.none : Option Jvm.ClassFile.FieldType) ∈ gAll := gm 97 rfl rfl
set_option maxRecDepth 100000 in
theorem wd_98 : Jvm.Cond.methodLink "java/util/AbstractCollection" (1 : Nat) ({ cls := "java/lang/Object", name := "<init>", desc := "()V" } : Jvm.MethodName) ∈ gAll := gm 98 rfl rfl
set_option maxRecDepth 100000 in
theorem wd_99 : Jvm.Cond.fieldLink "java/util/ArrayList" (39 : Nat) "java/util/ArrayList" "DEFAULTCAPACITY_EMPTY_ELEMENTDATA" "[Ljava/lang/Object;" ∈ gAll := gm 99 rfl rfl
set_option maxRecDepth 100000 in
theorem wd_101 : Jvm.Cond.fieldLink "java/util/ArrayList" (9 : Nat) "java/util/ArrayList" "elementData" "[Ljava/lang/Object;" ∈ gAll := gm 101 rfl rfl
set_option maxRecDepth 100000 in
theorem wd_102 : Jvm.Cond.fieldLink "java/util/ArrayList" (48 : Nat) "java/util/ArrayList" "size" "I" ∈ gAll := gm 102 rfl rfl
set_option maxRecDepth 100000 in
theorem wd_103 : Jvm.Cond.fieldLink "java/util/AbstractList" (7 : Nat) "java/util/AbstractList" "modCount" "I" ∈ gAll := gm 103 rfl rfl
set_option maxRecDepth 100000 in
theorem wd_104 : Jvm.Cond.fieldLink "java/util/ArrayList" (63 : Nat) "java/util/ArrayList" "modCount" "I" ∈ gAll := gm 104 rfl rfl
set_option maxRecDepth 100000 in
theorem wd_105 : Jvm.Cond.sameField "java/util/ArrayList" "java/util/AbstractList" "modCount" "I" ∈ gAll := gm 105 rfl rfl
set_option maxRecDepth 100000 in
theorem wd_114 : Jvm.Cond.static ({ cls := "java/util/Arrays", name := "fill", desc := "([II)V" } : Jvm.MethodName) ∈ gAll := gm 114 rfl rfl
set_option maxRecDepth 100000 in
theorem wd_115 : Jvm.Cond.code ({ cls := "java/util/Arrays", name := "fill", desc := "([II)V" } : Jvm.MethodName) prog_25_method_103_code (4 : Nat) (Option.none : Option Jvm.ClassFile.FieldType) ∈ gAll := gm 115 rfl rfl
set_option maxRecDepth 100000 in
theorem wd_225 : Jvm.Cond.instanceMethod ({ cls := "java/util/ArrayList", name := "size", desc := "()I" } : Jvm.MethodName) ∈ gAll := gm 225 rfl rfl
set_option maxRecDepth 100000 in
theorem wd_227 : Jvm.Cond.code ({ cls := "java/util/ArrayList", name := "size", desc := "()I" } : Jvm.MethodName) prog_24_method_8_code (1 : Nat) (Option.some Jvm.ClassFile.FieldType.int) ∈ gAll := gm 227 rfl rfl
set_option maxRecDepth 100000 in
theorem wd_251 : Jvm.Cond.instanceMethod ({ cls := "java/util/ArrayList", name := "add", desc := "(Ljava/lang/Object;)Z" } : Jvm.MethodName) ∈ gAll := gm 251 rfl rfl
set_option maxRecDepth 100000 in
theorem wd_253 : Jvm.Cond.code ({ cls := "java/util/ArrayList", name := "add", desc := "(Ljava/lang/Object;)Z" } : Jvm.MethodName) prog_24_method_25_code (2 : Nat) (Option.some Jvm.ClassFile.FieldType.boolean) ∈ gAll := gm 253 rfl rfl
set_option maxRecDepth 100000 in
theorem wd_254 : Jvm.Cond.methodLink "java/util/ArrayList" (131 : Nat) ({ cls := "java/util/ArrayList", name := "add", desc := "(Ljava/lang/Object;[Ljava/lang/Object;I)V" } : Jvm.MethodName) ∈ gAll := gm 254 rfl rfl
set_option maxRecDepth 100000 in
theorem wd_256 : Jvm.Cond.instanceMethod ({ cls := "java/util/ArrayList", name := "add", desc := "(Ljava/lang/Object;[Ljava/lang/Object;I)V" } : Jvm.MethodName) ∈ gAll := gm 256 rfl rfl
set_option maxRecDepth 100000 in
theorem wd_257 : Jvm.Cond.code ({ cls := "java/util/ArrayList", name := "add", desc := "(Ljava/lang/Object;[Ljava/lang/Object;I)V" } : Jvm.MethodName) prog_24_method_24_code (4 : Nat) (Option.none : Option Jvm.ClassFile.FieldType) ∈ gAll := gm 257 rfl rfl
set_option maxRecDepth 100000 in
theorem wd_258 : Jvm.Cond.methodLink "java/util/ArrayList" (129 : Nat) ({ cls := "java/util/ArrayList", name := "grow", desc := "()[Ljava/lang/Object;" } : Jvm.MethodName) ∈ gAll := gm 258 rfl rfl
set_option maxRecDepth 100000 in
theorem wd_260 : Jvm.Cond.instanceMethod ({ cls := "java/util/ArrayList", name := "grow", desc := "()[Ljava/lang/Object;" } : Jvm.MethodName) ∈ gAll := gm 260 rfl rfl
set_option maxRecDepth 100000 in
theorem wd_261 : Jvm.Cond.code ({ cls := "java/util/ArrayList", name := "grow", desc := "()[Ljava/lang/Object;" } : Jvm.MethodName) prog_24_method_7_code (1 : Nat) (Option.some (Jvm.ClassFile.FieldType.array (Jvm.ClassFile.FieldType.object "java/lang/Object"))) ∈ gAll := gm 261 rfl rfl
set_option maxRecDepth 100000 in
theorem wd_262 : Jvm.Cond.methodLink "java/util/ArrayList" (69 : Nat) ({ cls := "java/util/ArrayList", name := "grow", desc := "(I)[Ljava/lang/Object;" } : Jvm.MethodName) ∈ gAll := gm 262 rfl rfl
set_option maxRecDepth 100000 in
theorem wd_264 : Jvm.Cond.instanceMethod ({ cls := "java/util/ArrayList", name := "grow", desc := "(I)[Ljava/lang/Object;" } : Jvm.MethodName) ∈ gAll := gm 264 rfl rfl
set_option maxRecDepth 100000 in
theorem wd_265 : Jvm.Cond.code ({ cls := "java/util/ArrayList", name := "grow", desc := "(I)[Ljava/lang/Object;" } : Jvm.MethodName) prog_24_method_6_code (4 : Nat) (Option.some (Jvm.ClassFile.FieldType.array (Jvm.ClassFile.FieldType.object "java/lang/Object"))) ∈ gAll := gm 265 rfl rfl
set_option maxRecDepth 100000 in
theorem wd_266 : Jvm.Cond.methodLink "java/util/ArrayList" (73 : Nat) ({ cls := "jdk/internal/util/ArraysSupport", name := "newLength", desc := "(III)I" } : Jvm.MethodName) ∈ gAll := gm 266 rfl rfl
set_option maxRecDepth 100000 in
theorem wd_267 : Jvm.Cond.static ({ cls := "jdk/internal/util/ArraysSupport", name := "newLength", desc := "(III)I" } : Jvm.MethodName) ∈ gAll := gm 267 rfl rfl
set_option maxRecDepth 100000 in
theorem wd_268 : Jvm.Cond.code ({ cls := "jdk/internal/util/ArraysSupport", name := "newLength", desc := "(III)I" } : Jvm.MethodName) prog_31_method_27_code (4 : Nat) (Option.some Jvm.ClassFile.FieldType.int) ∈ gAll := gm 268 rfl rfl
set_option maxRecDepth 100000 in
theorem wd_269 : Jvm.Cond.methodLink "jdk/internal/util/ArraysSupport" (194 : Nat) ({ cls := "java/lang/Math", name := "max", desc := "(II)I" } : Jvm.MethodName) ∈ gAll := gm 269 rfl rfl
set_option maxRecDepth 100000 in
theorem wd_270 : Jvm.Cond.static ({ cls := "java/lang/Math", name := "max", desc := "(II)I" } : Jvm.MethodName) ∈ gAll := gm 270 rfl rfl
set_option maxRecDepth 100000 in
theorem wd_271 : Jvm.Cond.code ({ cls := "java/lang/Math", name := "max", desc := "(II)I" } : Jvm.MethodName) prog_17_method_65_code (2 : Nat) (Option.some Jvm.ClassFile.FieldType.int) ∈ gAll := gm 271 rfl rfl
set_option maxRecDepth 100000 in
theorem wd_272 : Jvm.Cond.constant "jdk/internal/util/ArraysSupport" (200 : Nat) (2147483639 : Int32) ∈ gAll := gm 272 rfl rfl
set_option maxRecDepth 100000 in
theorem wd_273 : Jvm.Cond.methodLink "jdk/internal/util/ArraysSupport" (201 : Nat) ({ cls := "jdk/internal/util/ArraysSupport", name := "hugeLength", desc := "(II)I" } : Jvm.MethodName) ∈ gAll := gm 273 rfl rfl
set_option maxRecDepth 100000 in
theorem wd_274 : Jvm.Cond.static ({ cls := "jdk/internal/util/ArraysSupport", name := "hugeLength", desc := "(II)I" } : Jvm.MethodName) ∈ gAll := gm 274 rfl rfl
set_option maxRecDepth 100000 in
theorem wd_275 : Jvm.Cond.code ({ cls := "jdk/internal/util/ArraysSupport", name := "hugeLength", desc := "(II)I" } : Jvm.MethodName) prog_31_method_28_code (3 : Nat) (Option.some Jvm.ClassFile.FieldType.int) ∈ gAll := gm 275 rfl rfl
set_option maxRecDepth 100000 in
theorem wd_276 : Jvm.Cond.methodLink "java/util/ArrayList" (66 : Nat) ({ cls := "java/util/Arrays", name := "copyOf", desc := "([Ljava/lang/Object;I)[Ljava/lang/Object;" } : Jvm.MethodName) ∈ gAll := gm 276 rfl rfl
set_option maxRecDepth 100000 in
theorem wd_277 : Jvm.Cond.static ({ cls := "java/util/Arrays", name := "copyOf", desc := "([Ljava/lang/Object;I)[Ljava/lang/Object;" } : Jvm.MethodName) ∈ gAll := gm 277 rfl rfl
set_option maxRecDepth 100000 in
theorem wd_278 : Jvm.Cond.code ({ cls := "java/util/Arrays", name := "copyOf", desc := "([Ljava/lang/Object;I)[Ljava/lang/Object;" } : Jvm.MethodName) prog_25_method_119_code (2 : Nat) (Option.some (Jvm.ClassFile.FieldType.array (Jvm.ClassFile.FieldType.object "java/lang/Object"))) ∈ gAll := gm 278 rfl rfl
set_option maxRecDepth 100000 in
theorem wd_279 : Jvm.Cond.methodLink "java/util/Arrays" (86 : Nat) ({ cls := "java/lang/Object", name := "getClass", desc := "()Ljava/lang/Class;" } : Jvm.MethodName) ∈ gAll := gm 279 rfl rfl
set_option maxRecDepth 100000 in
theorem wd_280 : Jvm.Cond.instanceMethod ({ cls := "java/lang/Object", name := "getClass", desc := "()Ljava/lang/Class;" } : Jvm.MethodName) ∈ gAll := gm 280 rfl rfl
set_option maxRecDepth 100000 in
theorem wd_293 : Jvm.Cond.native ({ cls := "java/lang/Object", name := "getClass", desc := "()Ljava/lang/Class;" } : Jvm.MethodName) ∈ gAll := gm 293 rfl rfl
set_option maxRecDepth 100000 in
theorem wd_294 : Jvm.Cond.methodLink "java/util/Arrays" (300 : Nat) ({ cls := "java/util/Arrays", name := "copyOf", desc := "([Ljava/lang/Object;ILjava/lang/Class;)[Ljava/lang/Object;" } : Jvm.MethodName) ∈ gAll := gm 294 rfl rfl
set_option maxRecDepth 100000 in
theorem wd_295 : Jvm.Cond.static ({ cls := "java/util/Arrays", name := "copyOf", desc := "([Ljava/lang/Object;ILjava/lang/Class;)[Ljava/lang/Object;" } : Jvm.MethodName) ∈ gAll := gm 295 rfl rfl
set_option maxRecDepth 100000 in
theorem wd_296 : Jvm.Cond.code ({ cls := "java/util/Arrays", name := "copyOf", desc := "([Ljava/lang/Object;ILjava/lang/Class;)[Ljava/lang/Object;" } : Jvm.MethodName) prog_25_method_120_code (4 : Nat) (Option.some (Jvm.ClassFile.FieldType.array (Jvm.ClassFile.FieldType.object "java/lang/Object"))) ∈ gAll := gm 296 rfl rfl
set_option maxRecDepth 100000 in
theorem wd_297 : Jvm.Cond.classLink "java/util/Arrays" (110 : Nat) "[Ljava/lang/Object;" ∈ gAll := gm 297 rfl rfl
set_option maxRecDepth 100000 in
theorem wd_298 : Jvm.Cond.arrayOver (Jvm.ClassFile.FieldType.object "java/lang/Object") ∈ gAll := gm 298 rfl rfl
set_option maxRecDepth 100000 in
theorem wd_299 : Jvm.Cond.classLink "java/util/Arrays" (2 : Nat) "java/lang/Object" ∈ gAll := gm 299 rfl rfl
set_option maxRecDepth 100000 in
theorem wd_300 : Jvm.Cond.methodLink "java/util/Arrays" (304 : Nat) ({ cls := "java/lang/Math", name := "min", desc := "(II)I" } : Jvm.MethodName) ∈ gAll := gm 300 rfl rfl
set_option maxRecDepth 100000 in
theorem wd_301 : Jvm.Cond.static ({ cls := "java/lang/Math", name := "min", desc := "(II)I" } : Jvm.MethodName) ∈ gAll := gm 301 rfl rfl
set_option maxRecDepth 100000 in
theorem wd_302 : Jvm.Cond.code ({ cls := "java/lang/Math", name := "min", desc := "(II)I" } : Jvm.MethodName) prog_17_method_69_code (2 : Nat) (Option.some Jvm.ClassFile.FieldType.int) ∈ gAll := gm 302 rfl rfl
set_option maxRecDepth 100000 in
theorem wd_303 : Jvm.Cond.methodLink "java/util/Arrays" (150 : Nat) ({ cls := "java/lang/System", name := "arraycopy", desc := "(Ljava/lang/Object;ILjava/lang/Object;II)V" } : Jvm.MethodName) ∈ gAll := gm 303 rfl rfl
set_option maxRecDepth 100000 in
theorem wd_304 : Jvm.Cond.static ({ cls := "java/lang/System", name := "arraycopy", desc := "(Ljava/lang/Object;ILjava/lang/Object;II)V" } : Jvm.MethodName) ∈ gAll := gm 304 rfl rfl
set_option maxRecDepth 100000 in
theorem wd_305 : Jvm.Cond.native ({ cls := "java/lang/System", name := "arraycopy", desc := "(Ljava/lang/Object;ILjava/lang/Object;II)V" } : Jvm.MethodName) ∈ gAll := gm 305 rfl rfl
set_option maxRecDepth 100000 in
theorem wd_306 : Jvm.Cond.methodLink "java/util/ArrayList" (79 : Nat) ({ cls := "java/lang/Math", name := "max", desc := "(II)I" } : Jvm.MethodName) ∈ gAll := gm 306 rfl rfl
set_option maxRecDepth 100000 in
theorem wd_307 : Jvm.Cond.classLink "java/util/ArrayList" (7 : Nat) "java/lang/Object" ∈ gAll := gm 307 rfl rfl
set_option maxRecDepth 100000 in
theorem wd_322 : Jvm.Cond.instanceMethod ({ cls := "java/util/ArrayList", name := "get", desc := "(I)Ljava/lang/Object;" } : Jvm.MethodName) ∈ gAll := gm 322 rfl rfl
set_option maxRecDepth 100000 in
theorem wd_324 : Jvm.Cond.code ({ cls := "java/util/ArrayList", name := "get", desc := "(I)Ljava/lang/Object;" } : Jvm.MethodName) prog_24_method_20_code (2 : Nat) (Option.some (Jvm.ClassFile.FieldType.object "java/lang/Object")) ∈ gAll := gm 324 rfl rfl
set_option maxRecDepth 100000 in
theorem wd_325 : Jvm.Cond.methodLink "java/util/ArrayList" (118 : Nat) ({ cls := "java/util/Objects", name := "checkIndex", desc := "(II)I" } : Jvm.MethodName) ∈ gAll := gm 325 rfl rfl
set_option maxRecDepth 100000 in
theorem wd_326 : Jvm.Cond.static ({ cls := "java/util/Objects", name := "checkIndex", desc := "(II)I" } : Jvm.MethodName) ∈ gAll := gm 326 rfl rfl
set_option maxRecDepth 100000 in
theorem wd_327 : Jvm.Cond.code ({ cls := "java/util/Objects", name := "checkIndex", desc := "(II)I" } : Jvm.MethodName) prog_28_method_17_code (2 : Nat) (Option.some Jvm.ClassFile.FieldType.int) ∈ gAll := gm 327 rfl rfl
set_option maxRecDepth 100000 in
theorem wd_328 : Jvm.Cond.methodLink "java/util/Objects" (105 : Nat) ({ cls := "jdk/internal/util/Preconditions", name := "checkIndex", desc := "(IILjava/util/function/BiFunction;)I" } : Jvm.MethodName) ∈ gAll := gm 328 rfl rfl
set_option maxRecDepth 100000 in
theorem wd_329 : Jvm.Cond.static ({ cls := "jdk/internal/util/Preconditions", name := "checkIndex", desc := "(IILjava/util/function/BiFunction;)I" } : Jvm.MethodName) ∈ gAll := gm 329 rfl rfl
set_option maxRecDepth 100000 in
theorem wd_330 : Jvm.Cond.code ({ cls := "jdk/internal/util/Preconditions", name := "checkIndex", desc := "(IILjava/util/function/BiFunction;)I" } : Jvm.MethodName) prog_32_method_11_code (3 : Nat) (Option.some Jvm.ClassFile.FieldType.int) ∈ gAll := gm 330 rfl rfl
set_option maxRecDepth 100000 in
theorem wd_331 : Jvm.Cond.methodLink "java/util/ArrayList" (123 : Nat) ({ cls := "java/util/ArrayList", name := "elementData", desc := "(I)Ljava/lang/Object;" } : Jvm.MethodName) ∈ gAll := gm 331 rfl rfl
set_option maxRecDepth 100000 in
theorem wd_332 : Jvm.Cond.instanceMethod ({ cls := "java/util/ArrayList", name := "elementData", desc := "(I)Ljava/lang/Object;" } : Jvm.MethodName) ∈ gAll := gm 332 rfl rfl
set_option maxRecDepth 100000 in
theorem wd_333 : Jvm.Cond.selects "java/util/ArrayList" ({ cls := "java/util/ArrayList", name := "elementData", desc := "(I)Ljava/lang/Object;" } : Jvm.MethodName) ({ cls := "java/util/ArrayList", name := "elementData", desc := "(I)Ljava/lang/Object;" } : Jvm.MethodName) ∈ gAll := gm 333 rfl rfl
set_option maxRecDepth 100000 in
theorem wd_334 : Jvm.Cond.code ({ cls := "java/util/ArrayList", name := "elementData", desc := "(I)Ljava/lang/Object;" } : Jvm.MethodName) prog_24_method_18_code (2 : Nat) (Option.some (Jvm.ClassFile.FieldType.object "java/lang/Object")) ∈ gAll := gm 334 rfl rfl
set_option maxRecDepth 100000 in
theorem wd_441 : Jvm.Cond.static ({ cls := "BodySolids", name := "needIndex", desc := "(II)V" } : Jvm.MethodName) ∈ gAll := gm 441 rfl rfl
set_option maxRecDepth 100000 in
theorem wd_442 : Jvm.Cond.code ({ cls := "BodySolids", name := "needIndex", desc := "(II)V" } : Jvm.MethodName) prog_1_method_19_code (2 : Nat) (Option.none : Option Jvm.ClassFile.FieldType) ∈ gAll := gm 442 rfl rfl
set_option maxRecDepth 100000 in
theorem wd_443 : Jvm.Cond.classLink "BodySolids" (247 : Nat) "java/lang/IndexOutOfBoundsException" ∈ gAll := gm 443 rfl rfl
set_option maxRecDepth 100000 in
theorem wd_517 : Jvm.Cond.static ({ cls := "BodySolids", name := "needWithin", desc := "(JJJ)V" } : Jvm.MethodName) ∈ gAll := gm 517 rfl rfl
set_option maxRecDepth 100000 in
theorem wd_518 : Jvm.Cond.code ({ cls := "BodySolids", name := "needWithin", desc := "(JJJ)V" } : Jvm.MethodName) prog_1_method_20_code (6 : Nat) (Option.none : Option Jvm.ClassFile.FieldType) ∈ gAll := gm 518 rfl rfl
set_option maxRecDepth 100000 in
theorem wd_519 : Jvm.Cond.classLink "BodySolids" (252 : Nat) "java/lang/IllegalArgumentException" ∈ gAll := gm 519 rfl rfl
set_option maxRecDepth 100000 in
theorem wd_1124 : Jvm.Cond.selects "[Ljava/lang/Object;" ({ cls := "java/lang/Object", name := "getClass", desc := "()Ljava/lang/Class;" } : Jvm.MethodName) ({ cls := "java/lang/Object", name := "getClass", desc := "()Ljava/lang/Class;" } : Jvm.MethodName) ∈ gAll := gm 1124 rfl rfl
set_option maxRecDepth 100000 in
theorem wd_1125 : Jvm.Cond.declares ({ cls := "java/lang/Object", name := "getClass", desc := "()Ljava/lang/Class;" } : Jvm.MethodName) ∈ gAll := gm 1125 rfl rfl
