theorem df_0 : ∀ j, j < 10 → defaultValue (t_0 j) = vp_V [.long 0, .null, .null, .null, .null, .null, .int 0, .null, .null, .null] j := by decide +kernel
theorem df_1 : ∀ j, j < 3 → defaultValue (t_1 j) = vp_V [.null, .int 0, .int 0] j := by decide +kernel
theorem df_2 : ∀ j, j < 2 → defaultValue (t_2 j) = vp_V [.null, .int 0] j := by decide +kernel
theorem df_3 : ∀ j, j < 12 → defaultValue (t_3 j) = vp_V [.int 0, .long 0, .long 0, .null, .null, .int 0, .long 0, .long 0, .long 0, .long 0, .long 0, .long 0] j := by decide +kernel
theorem df_4 : ∀ j, j < 2 → defaultValue (t_4 j) = vp_V [.null, .long 0] j := by decide +kernel
theorem df_5 : ∀ j, j < 5 → defaultValue (t_5 j) = vp_V [.null, .long 0, .long 0, .int 0, .int 0] j := by decide +kernel
theorem df_6 : ∀ j, j < 2 → defaultValue (t_6 j) = vp_V [.null, .int 0] j := by decide +kernel
theorem df_7 : ∀ j, j < 27 → defaultValue (t_7 j) = vp_V [.int 0, .long 0, .int 0, .null, .null, .null, .null, .null, .null, .int 0, .null, .null, .int 0, .null, .null, .null, .null, .null, .int 0, .null, .null, .null, .null, .null, .null, .null, .null] j := by decide +kernel
theorem wd_50 : Jvm.Cond.initialized "java/lang/Math" ∈ gAll := gm 50 rfl rfl
theorem wd_69 : Jvm.Cond.initialized "BodySolids$Meeting" ∈ gAll := gm 69 rfl rfl
theorem wd_85 : Jvm.Cond.static ({ cls := "java/lang/Math", name := "max", desc := "(JJ)J" } : Jvm.MethodName) ∈ gAll := gm 85 rfl rfl
theorem wd_86 : Jvm.Cond.code ({ cls := "java/lang/Math", name := "max", desc := "(JJ)J" } : Jvm.MethodName) prog_17_method_66_code (4 : Nat) (Option.some Jvm.ClassFile.FieldType.long) ∈ gAll := gm 86 rfl rfl
theorem wd_130 : Jvm.Cond.fieldLink "BodySolids$Meeting" (71 : Nat) "BodySolids$Solid" "kind" "I" ∈ gAll := gm 130 rfl rfl
theorem wd_131 : Jvm.Cond.fieldLink "BodySolids$Meeting" (9 : Nat) "BodySolids$Solid" "flat" "J" ∈ gAll := gm 131 rfl rfl
theorem wd_133 : Jvm.Cond.fieldLink "BodySolids$Meeting" (15 : Nat) "BodySolids$Solid" "round" "J" ∈ gAll := gm 133 rfl rfl
theorem wd_136 : Jvm.Cond.fieldLink "BodySolids$Meeting" (81 : Nat) "BodySolids$Solid" "xs" "[J" ∈ gAll := gm 136 rfl rfl
theorem wd_138 : Jvm.Cond.fieldLink "BodySolids$Meeting" (85 : Nat) "BodySolids$Solid" "ys" "[J" ∈ gAll := gm 138 rfl rfl
theorem wd_140 : Jvm.Cond.fieldLink "BodySolids$Meeting" (78 : Nat) "BodySolids$Solid" "corners" "I" ∈ gAll := gm 140 rfl rfl
theorem wd_141 : Jvm.Cond.fieldLink "BodySolids$Meeting" (18 : Nat) "BodySolids$Solid" "x0" "J" ∈ gAll := gm 141 rfl rfl
theorem wd_143 : Jvm.Cond.fieldLink "BodySolids$Meeting" (30 : Nat) "BodySolids$Solid" "y0" "J" ∈ gAll := gm 143 rfl rfl
theorem wd_145 : Jvm.Cond.fieldLink "BodySolids$Meeting" (36 : Nat) "BodySolids$Solid" "z0" "J" ∈ gAll := gm 145 rfl rfl
theorem wd_147 : Jvm.Cond.fieldLink "BodySolids$Meeting" (21 : Nat) "BodySolids$Solid" "x1" "J" ∈ gAll := gm 147 rfl rfl
theorem wd_149 : Jvm.Cond.fieldLink "BodySolids$Meeting" (33 : Nat) "BodySolids$Solid" "y1" "J" ∈ gAll := gm 149 rfl rfl
theorem wd_151 : Jvm.Cond.fieldLink "BodySolids$Meeting" (39 : Nat) "BodySolids$Solid" "z1" "J" ∈ gAll := gm 151 rfl rfl
theorem wd_270 : Jvm.Cond.static ({ cls := "java/lang/Math", name := "max", desc := "(II)I" } : Jvm.MethodName) ∈ gAll := gm 270 rfl rfl
theorem wd_271 : Jvm.Cond.code ({ cls := "java/lang/Math", name := "max", desc := "(II)I" } : Jvm.MethodName) prog_17_method_65_code (2 : Nat) (Option.some Jvm.ClassFile.FieldType.int) ∈ gAll := gm 271 rfl rfl
theorem wd_301 : Jvm.Cond.static ({ cls := "java/lang/Math", name := "min", desc := "(II)I" } : Jvm.MethodName) ∈ gAll := gm 301 rfl rfl
theorem wd_302 : Jvm.Cond.code ({ cls := "java/lang/Math", name := "min", desc := "(II)I" } : Jvm.MethodName) prog_17_method_69_code (2 : Nat) (Option.some Jvm.ClassFile.FieldType.int) ∈ gAll := gm 302 rfl rfl
theorem wd_374 : Jvm.Cond.static ({ cls := "BodySolids$Meeting", name := "of", desc := "(LBodySolids$Solid;LBodySolids$Solid;)I" } : Jvm.MethodName) ∈ gAll := gm 374 rfl rfl
theorem wd_375 : Jvm.Cond.code ({ cls := "BodySolids$Meeting", name := "of", desc := "(LBodySolids$Solid;LBodySolids$Solid;)I" } : Jvm.MethodName) prog_5_method_2_code (14 : Nat) (Option.some Jvm.ClassFile.FieldType.int) ∈ gAll := gm 375 rfl rfl
theorem wd_376 : Jvm.Cond.methodLink "BodySolids$Meeting" (24 : Nat) ({ cls := "BodySolids$Meeting", name := "gap", desc := "(JJJJ)J" } : Jvm.MethodName) ∈ gAll := gm 376 rfl rfl
theorem wd_377 : Jvm.Cond.static ({ cls := "BodySolids$Meeting", name := "gap", desc := "(JJJJ)J" } : Jvm.MethodName) ∈ gAll := gm 377 rfl rfl
theorem wd_378 : Jvm.Cond.code ({ cls := "BodySolids$Meeting", name := "gap", desc := "(JJJJ)J" } : Jvm.MethodName) prog_5_method_3_code (8 : Nat) (Option.some Jvm.ClassFile.FieldType.long) ∈ gAll := gm 378 rfl rfl
theorem wd_379 : Jvm.Cond.methodLink "BodySolids$Meeting" (68 : Nat) ({ cls := "java/lang/Math", name := "max", desc := "(JJ)J" } : Jvm.MethodName) ∈ gAll := gm 379 rfl rfl
theorem wd_380 : Jvm.Cond.methodLink "BodySolids$Meeting" (42 : Nat) ({ cls := "BodySolids$Meeting", name := "outlines", desc := "(LBodySolids$Solid;LBodySolids$Solid;)I" } : Jvm.MethodName) ∈ gAll := gm 380 rfl rfl
theorem wd_381 : Jvm.Cond.static ({ cls := "BodySolids$Meeting", name := "outlines", desc := "(LBodySolids$Solid;LBodySolids$Solid;)I" } : Jvm.MethodName) ∈ gAll := gm 381 rfl rfl
theorem wd_382 : Jvm.Cond.code ({ cls := "BodySolids$Meeting", name := "outlines", desc := "(LBodySolids$Solid;LBodySolids$Solid;)I" } : Jvm.MethodName) prog_5_method_6_code (7 : Nat) (Option.some Jvm.ClassFile.FieldType.int) ∈ gAll := gm 382 rfl rfl
theorem wd_383 : Jvm.Cond.methodLink "BodySolids$Meeting" (50 : Nat) ({ cls := "BodySolids$Meeting", name := "sign", desc := "(J)I" } : Jvm.MethodName) ∈ gAll := gm 383 rfl rfl
theorem wd_384 : Jvm.Cond.static ({ cls := "BodySolids$Meeting", name := "sign", desc := "(J)I" } : Jvm.MethodName) ∈ gAll := gm 384 rfl rfl
theorem wd_385 : Jvm.Cond.code ({ cls := "BodySolids$Meeting", name := "sign", desc := "(J)I" } : Jvm.MethodName) prog_5_method_4_code (2 : Nat) (Option.some Jvm.ClassFile.FieldType.int) ∈ gAll := gm 385 rfl rfl
theorem wd_386 : Jvm.Cond.methodLink "BodySolids$Meeting" (75 : Nat) ({ cls := "BodySolids$Meeting", name := "partedBySides", desc := "(LBodySolids$Solid;LBodySolids$Solid;)I" } : Jvm.MethodName) ∈ gAll := gm 386 rfl rfl
theorem wd_387 : Jvm.Cond.static ({ cls := "BodySolids$Meeting", name := "partedBySides", desc := "(LBodySolids$Solid;LBodySolids$Solid;)I" } : Jvm.MethodName) ∈ gAll := gm 387 rfl rfl
theorem wd_388 : Jvm.Cond.code ({ cls := "BodySolids$Meeting", name := "partedBySides", desc := "(LBodySolids$Solid;LBodySolids$Solid;)I" } : Jvm.MethodName) prog_5_method_7_code (13 : Nat) (Option.some Jvm.ClassFile.FieldType.int) ∈ gAll := gm 388 rfl rfl
theorem wd_389 : Jvm.Cond.methodLink "BodySolids$Meeting" (88 : Nat) ({ cls := "java/lang/Math", name := "min", desc := "(II)I" } : Jvm.MethodName) ∈ gAll := gm 389 rfl rfl
theorem wd_390 : Jvm.Cond.methodLink "BodySolids$Meeting" (54 : Nat) ({ cls := "java/lang/Math", name := "max", desc := "(II)I" } : Jvm.MethodName) ∈ gAll := gm 390 rfl rfl
theorem wd_391 : Jvm.Cond.methodLink "BodySolids$Meeting" (46 : Nat) ({ cls := "BodySolids$Meeting", name := "distance", desc := "(LBodySolids$Solid;LBodySolids$Solid;J)I" } : Jvm.MethodName) ∈ gAll := gm 391 rfl rfl
theorem wd_392 : Jvm.Cond.static ({ cls := "BodySolids$Meeting", name := "distance", desc := "(LBodySolids$Solid;LBodySolids$Solid;J)I" } : Jvm.MethodName) ∈ gAll := gm 392 rfl rfl
theorem wd_393 : Jvm.Cond.code ({ cls := "BodySolids$Meeting", name := "distance", desc := "(LBodySolids$Solid;LBodySolids$Solid;J)I" } : Jvm.MethodName) prog_5_method_8_code (8 : Nat) (Option.some Jvm.ClassFile.FieldType.int) ∈ gAll := gm 393 rfl rfl
theorem wd_394 : Jvm.Cond.methodLink "BodySolids$Meeting" (91 : Nat) ({ cls := "BodySolids$Meeting", name := "cornersDistance", desc := "(LBodySolids$Solid;LBodySolids$Solid;J)I" } : Jvm.MethodName) ∈ gAll := gm 394 rfl rfl
theorem wd_395 : Jvm.Cond.static ({ cls := "BodySolids$Meeting", name := "cornersDistance", desc := "(LBodySolids$Solid;LBodySolids$Solid;J)I" } : Jvm.MethodName) ∈ gAll := gm 395 rfl rfl
theorem wd_396 : Jvm.Cond.code ({ cls := "BodySolids$Meeting", name := "cornersDistance", desc := "(LBodySolids$Solid;LBodySolids$Solid;J)I" } : Jvm.MethodName) prog_5_method_9_code (10 : Nat) (Option.some Jvm.ClassFile.FieldType.int) ∈ gAll := gm 396 rfl rfl
theorem wd_397 : Jvm.Cond.methodLink "BodySolids$Meeting" (60 : Nat) ({ cls := "BodySolids$Meeting", name := "squareIfAbove", desc := "(J)J" } : Jvm.MethodName) ∈ gAll := gm 397 rfl rfl
theorem wd_398 : Jvm.Cond.static ({ cls := "BodySolids$Meeting", name := "squareIfAbove", desc := "(J)J" } : Jvm.MethodName) ∈ gAll := gm 398 rfl rfl
theorem wd_399 : Jvm.Cond.code ({ cls := "BodySolids$Meeting", name := "squareIfAbove", desc := "(J)J" } : Jvm.MethodName) prog_5_method_5_code (2 : Nat) (Option.some Jvm.ClassFile.FieldType.long) ∈ gAll := gm 399 rfl rfl
theorem wd_400 : Jvm.Cond.methodLink "BodySolids$Meeting" (94 : Nat) ({ cls := "BodySolids$Meeting", name := "sidesDistance", desc := "(LBodySolids$Solid;LBodySolids$Solid;J)I" } : Jvm.MethodName) ∈ gAll := gm 400 rfl rfl
theorem wd_401 : Jvm.Cond.static ({ cls := "BodySolids$Meeting", name := "sidesDistance", desc := "(LBodySolids$Solid;LBodySolids$Solid;J)I" } : Jvm.MethodName) ∈ gAll := gm 401 rfl rfl
theorem wd_402 : Jvm.Cond.code ({ cls := "BodySolids$Meeting", name := "sidesDistance", desc := "(LBodySolids$Solid;LBodySolids$Solid;J)I" } : Jvm.MethodName) prog_5_method_10_code (6 : Nat) (Option.some Jvm.ClassFile.FieldType.int) ∈ gAll := gm 402 rfl rfl
theorem wd_403 : Jvm.Cond.methodLink "BodySolids$Meeting" (97 : Nat) ({ cls := "BodySolids$Meeting", name := "sideDistance", desc := "(LBodySolids$Solid;ILBodySolids$Solid;J)I" } : Jvm.MethodName) ∈ gAll := gm 403 rfl rfl
theorem wd_404 : Jvm.Cond.static ({ cls := "BodySolids$Meeting", name := "sideDistance", desc := "(LBodySolids$Solid;ILBodySolids$Solid;J)I" } : Jvm.MethodName) ∈ gAll := gm 404 rfl rfl
theorem wd_405 : Jvm.Cond.code ({ cls := "BodySolids$Meeting", name := "sideDistance", desc := "(LBodySolids$Solid;ILBodySolids$Solid;J)I" } : Jvm.MethodName) prog_5_method_11_code (22 : Nat) (Option.some Jvm.ClassFile.FieldType.int) ∈ gAll := gm 405 rfl rfl
theorem wd_406 : Jvm.Cond.methodLink "BodySolids$Meeting" (64 : Nat) ({ cls := "BodySolids$Meeting", name := "discAndRound", desc := "(JJJ)I" } : Jvm.MethodName) ∈ gAll := gm 406 rfl rfl
theorem wd_407 : Jvm.Cond.static ({ cls := "BodySolids$Meeting", name := "discAndRound", desc := "(JJJ)I" } : Jvm.MethodName) ∈ gAll := gm 407 rfl rfl
theorem wd_408 : Jvm.Cond.code ({ cls := "BodySolids$Meeting", name := "discAndRound", desc := "(JJJ)I" } : Jvm.MethodName) prog_5_method_12_code (8 : Nat) (Option.some Jvm.ClassFile.FieldType.int) ∈ gAll := gm 408 rfl rfl
theorem wd_409 : Jvm.Cond.constantLong "BodySolids$Meeting" (101 : Nat) (4 : Int64) ∈ gAll := gm 409 rfl rfl
