theorem df_0 : ∀ j, j < 10 → defaultValue (t_0 j) = vp_V [.long 0, .null, .null, .null, .null, .null, .int 0, .null, .null, .null] j := by decide +kernel
theorem df_1 : ∀ j, j < 3 → defaultValue (t_1 j) = vp_V [.null, .int 0, .int 0] j := by decide +kernel
theorem df_2 : ∀ j, j < 2 → defaultValue (t_2 j) = vp_V [.null, .int 0] j := by decide +kernel
theorem df_3 : ∀ j, j < 12 → defaultValue (t_3 j) = vp_V [.int 0, .long 0, .long 0, .null, .null, .int 0, .long 0, .long 0, .long 0, .long 0, .long 0, .long 0] j := by decide +kernel
theorem df_4 : ∀ j, j < 2 → defaultValue (t_4 j) = vp_V [.null, .long 0] j := by decide +kernel
theorem df_5 : ∀ j, j < 5 → defaultValue (t_5 j) = vp_V [.null, .long 0, .long 0, .int 0, .int 0] j := by decide +kernel
theorem df_6 : ∀ j, j < 2 → defaultValue (t_6 j) = vp_V [.null, .int 0] j := by decide +kernel
theorem df_7 : ∀ j, j < 27 → defaultValue (t_7 j) = vp_V [.int 0, .long 0, .int 0, .null, .null, .null, .null, .null, .null, .int 0, .null, .null, .int 0, .null, .null, .null, .null, .null, .int 0, .null, .null, .null, .null, .null, .null, .null, .null] j := by decide +kernel
set_option maxRecDepth 100000 in
theorem wd_17 : Cond.selects "BodySolidsModel" ⟨"BodySolidsModel", "isBody", "(I)Z"⟩ ⟨"BodySolidsModel", "isBody", "(I)Z"⟩ ∈ gAll := gm 17 rfl rfl
set_option maxRecDepth 100000 in
theorem wd_18 : Cond.selects "BodySolidsModel" ⟨"BodySolidsModel", "fresh", "(II)I"⟩ ⟨"BodySolidsModel", "fresh", "(II)I"⟩ ∈ gAll := gm 18 rfl rfl
set_option maxRecDepth 100000 in
theorem wd_19 : Cond.selects "BodySolidsModel" ⟨"BodySolidsModel", "tell", "(IIJ)V"⟩ ⟨"BodySolidsModel", "tell", "(IIJ)V"⟩ ∈ gAll := gm 19 rfl rfl
set_option maxRecDepth 100000 in
theorem wd_20 : Cond.selects "BodySolidsModel" ⟨"BodySolidsModel", "isRound", "()Z"⟩ ⟨"BodySolidsModel", "isRound", "()Z"⟩ ∈ gAll := gm 20 rfl rfl
set_option maxRecDepth 100000 in
theorem wd_21 : Cond.selects "BodySolidsModel" ⟨"BodySolidsModel", "copy", "(II)V"⟩ ⟨"BodySolidsModel", "copy", "(II)V"⟩ ∈ gAll := gm 21 rfl rfl
set_option maxRecDepth 100000 in
theorem wd_22 : Cond.selects "BodySolidsModel" ⟨"BodySolidsModel", "set", "(IJJII)V"⟩ ⟨"BodySolidsModel", "set", "(IJJII)V"⟩ ∈ gAll := gm 22 rfl rfl
set_option maxRecDepth 100000 in
theorem wd_23 : Cond.selects "BodySolidsModel" ⟨"BodySolidsModel", "isPlaced", "(I)Z"⟩ ⟨"BodySolidsModel", "isPlaced", "(I)Z"⟩ ∈ gAll := gm 23 rfl rfl
set_option maxRecDepth 100000 in
theorem wd_24 : Cond.selects "BodySolidsModel" ⟨"BodySolidsModel", "meet", "(II)I"⟩ ⟨"BodySolidsModel", "meet", "(II)I"⟩ ∈ gAll := gm 24 rfl rfl
set_option maxRecDepth 100000 in
theorem wd_25 : Cond.selects "BodySolidsModel" ⟨"BodySolidsModel", "lay", "(III)V"⟩ ⟨"BodySolidsModel", "lay", "(III)V"⟩ ∈ gAll := gm 25 rfl rfl
set_option maxRecDepth 100000 in
theorem wd_26 : Cond.selects "BodySolidsModel" ⟨"BodySolidsModel", "of", "(II)J"⟩ ⟨"BodySolidsModel", "of", "(II)J"⟩ ∈ gAll := gm 26 rfl rfl
set_option maxRecDepth 100000 in
theorem wd_27 : Cond.selects "BodySolidsModel" ⟨"BodySolidsModel", "spot", "(IIIJJ)V"⟩ ⟨"BodySolidsModel", "spot", "(IIIJJ)V"⟩ ∈ gAll := gm 27 rfl rfl
set_option maxRecDepth 100000 in
theorem wd_28 : Cond.selects "BodySolidsModel" ⟨"BodySolidsModel", "xOf", "(IJJ)J"⟩ ⟨"BodySolidsModel", "xOf", "(IJJ)J"⟩ ∈ gAll := gm 28 rfl rfl
set_option maxRecDepth 100000 in
theorem wd_29 : Cond.selects "BodySolidsModel" ⟨"BodySolidsModel", "yOf", "(IJJ)J"⟩ ⟨"BodySolidsModel", "yOf", "(IJJ)J"⟩ ∈ gAll := gm 29 rfl rfl
set_option maxRecDepth 100000 in
theorem wd_30 : Cond.selects "BodySolidsModel" ⟨"BodySolidsModel", "point", "(IIJJ)V"⟩ ⟨"BodySolidsModel", "point", "(IIJJ)V"⟩ ∈ gAll := gm 30 rfl rfl
set_option maxRecDepth 100000 in
theorem wd_31 : Cond.selects "BodySolidsModel" ⟨"BodySolidsModel", "zOf", "(IJ)J"⟩ ⟨"BodySolidsModel", "zOf", "(IJ)J"⟩ ∈ gAll := gm 31 rfl rfl
set_option maxRecDepth 100000 in
theorem wd_32 : Cond.selects "BodySolidsModel" ⟨"BodySolidsModel", "heights", "(IJJ)V"⟩ ⟨"BodySolidsModel", "heights", "(IJJ)V"⟩ ∈ gAll := gm 32 rfl rfl
set_option maxRecDepth 100000 in
theorem wd_33 : Cond.selects "BodySolidsModel" ⟨"BodySolidsModel", "both", "()I"⟩ ⟨"BodySolidsModel", "both", "()I"⟩ ∈ gAll := gm 33 rfl rfl
set_option maxRecDepth 100000 in
theorem wd_34 : Cond.selects "BodySolidsModel" ⟨"BodySolidsModel", "tubes", "()I"⟩ ⟨"BodySolidsModel", "tubes", "()I"⟩ ∈ gAll := gm 34 rfl rfl
set_option maxRecDepth 100000 in
theorem wd_35 : Cond.selects "BodySolidsModel" ⟨"BodySolidsModel", "heightGap", "()J"⟩ ⟨"BodySolidsModel", "heightGap", "()J"⟩ ∈ gAll := gm 35 rfl rfl
set_option maxRecDepth 100000 in
theorem wd_36 : Cond.selects "BodySolidsModel" ⟨"BodySolidsModel", "coreGap", "(IZJJ)J"⟩ ⟨"BodySolidsModel", "coreGap", "(IZJJ)J"⟩ ∈ gAll := gm 36 rfl rfl
set_option maxRecDepth 100000 in
theorem wd_37 : Cond.selects "BodySolidsModel" ⟨"BodySolidsModel", "coreAndDisc", "(IJ)I"⟩ ⟨"BodySolidsModel", "coreAndDisc", "(IJ)I"⟩ ∈ gAll := gm 37 rfl rfl
set_option maxRecDepth 100000 in
theorem wd_38 : Cond.selects "BodySolidsModel" ⟨"BodySolidsModel", "coreAndPolygon", "(IJ)I"⟩ ⟨"BodySolidsModel", "coreAndPolygon", "(IJ)I"⟩ ∈ gAll := gm 38 rfl rfl
set_option maxRecDepth 100000 in
theorem wd_39 : Cond.selects "BodySolidsModel" ⟨"BodySolidsModel", "fromPolygon", "(IJJJ)I"⟩ ⟨"BodySolidsModel", "fromPolygon", "(IJJJ)I"⟩ ∈ gAll := gm 39 rfl rfl
set_option maxRecDepth 100000 in
theorem wd_40 : Cond.selects "BodySolidsModel" ⟨"BodySolidsModel", "isIn", "(IJJ)Z"⟩ ⟨"BodySolidsModel", "isIn", "(IJJ)Z"⟩ ∈ gAll := gm 40 rfl rfl
set_option maxRecDepth 100000 in
theorem wd_41 : Cond.selects "BodySolidsModel" ⟨"BodySolidsModel", "bases", "()I"⟩ ⟨"BodySolidsModel", "bases", "()I"⟩ ∈ gAll := gm 41 rfl rfl
set_option maxRecDepth 100000 in
theorem wd_42 : Cond.selects "BodySolidsModel" ⟨"BodySolidsModel", "polygons", "()I"⟩ ⟨"BodySolidsModel", "polygons", "()I"⟩ ∈ gAll := gm 42 rfl rfl
set_option maxRecDepth 100000 in
theorem wd_43 : Cond.selects "BodySolidsModel" ⟨"BodySolidsModel", "along", "(JJ)I"⟩ ⟨"BodySolidsModel", "along", "(JJ)I"⟩ ∈ gAll := gm 43 rfl rfl
set_option maxRecDepth 100000 in
theorem wd_44 : Cond.selects "BodySolidsModel" ⟨"BodySolidsModel", "doesBreak", "(I)Z"⟩ ⟨"BodySolidsModel", "doesBreak", "(I)Z"⟩ ∈ gAll := gm 44 rfl rfl
set_option maxRecDepth 100000 in
theorem wd_45 : Cond.selects "BodySolidsModel" ⟨"BodySolidsModel", "layOut", "(I)V"⟩ ⟨"BodySolidsModel", "layOut", "(I)V"⟩ ∈ gAll := gm 45 rfl rfl
set_option maxRecDepth 100000 in
theorem wd_46 : Cond.selects "BodySolidsModel" ⟨"BodySolidsModel", "edge", "(I)J"⟩ ⟨"BodySolidsModel", "edge", "(I)J"⟩ ∈ gAll := gm 46 rfl rfl
set_option maxRecDepth 100000 in
theorem wd_47 : Cond.selects "BodySolidsModel" ⟨"BodySolidsModel", "volume", "(I)J"⟩ ⟨"BodySolidsModel", "volume", "(I)J"⟩ ∈ gAll := gm 47 rfl rfl
set_option maxRecDepth 100000 in
theorem wd_50 : Jvm.Cond.initialized "java/lang/Math" ∈ gAll := gm 50 rfl rfl
set_option maxRecDepth 100000 in
theorem wd_57 : Jvm.Cond.initialized "BodySolidsModel" ∈ gAll := gm 57 rfl rfl
set_option maxRecDepth 100000 in
theorem wd_69 : Jvm.Cond.initialized "BodySolids$Meeting" ∈ gAll := gm 69 rfl rfl
set_option maxRecDepth 100000 in
theorem wd_78 : Jvm.Cond.instanceMethod ({ cls := "java/lang/Object", name := "<init>", desc := "()V" } : Jvm.MethodName) ∈ gAll := gm 78 rfl rfl
set_option maxRecDepth 100000 in
theorem wd_79 : Jvm.Cond.code ({ cls := "java/lang/Object", name := "<init>", desc := "()V" } : Jvm.MethodName) object_method_1_code (1 : Nat) (Option.none : Option Jvm.ClassFile.FieldType) ∈ gAll := gm 79 rfl rfl
set_option maxRecDepth 100000 in
theorem wd_85 : Jvm.Cond.static ({ cls := "java/lang/Math", name := "max", desc := "(JJ)J" } : Jvm.MethodName) ∈ gAll := gm 85 rfl rfl
set_option maxRecDepth 100000 in
theorem wd_86 : Jvm.Cond.code ({ cls := "java/lang/Math", name := "max", desc := "(JJ)J" } : Jvm.MethodName) prog_17_method_66_code (4 : Nat) (Option.some Jvm.ClassFile.FieldType.long) ∈ gAll := gm 86 rfl rfl
set_option maxRecDepth 100000 in
theorem wd_130 : Jvm.Cond.fieldLink "BodySolids$Meeting" (71 : Nat) "BodySolids$Solid" "kind" "I" ∈ gAll := gm 130 rfl rfl
set_option maxRecDepth 100000 in
theorem wd_131 : Jvm.Cond.fieldLink "BodySolids$Meeting" (9 : Nat) "BodySolids$Solid" "flat" "J" ∈ gAll := gm 131 rfl rfl
set_option maxRecDepth 100000 in
theorem wd_133 : Jvm.Cond.fieldLink "BodySolids$Meeting" (15 : Nat) "BodySolids$Solid" "round" "J" ∈ gAll := gm 133 rfl rfl
set_option maxRecDepth 100000 in
theorem wd_136 : Jvm.Cond.fieldLink "BodySolids$Meeting" (81 : Nat) "BodySolids$Solid" "xs" "[J" ∈ gAll := gm 136 rfl rfl
set_option maxRecDepth 100000 in
theorem wd_138 : Jvm.Cond.fieldLink "BodySolids$Meeting" (85 : Nat) "BodySolids$Solid" "ys" "[J" ∈ gAll := gm 138 rfl rfl
set_option maxRecDepth 100000 in
theorem wd_140 : Jvm.Cond.fieldLink "BodySolids$Meeting" (78 : Nat) "BodySolids$Solid" "corners" "I" ∈ gAll := gm 140 rfl rfl
set_option maxRecDepth 100000 in
theorem wd_141 : Jvm.Cond.fieldLink "BodySolids$Meeting" (18 : Nat) "BodySolids$Solid" "x0" "J" ∈ gAll := gm 141 rfl rfl
set_option maxRecDepth 100000 in
theorem wd_143 : Jvm.Cond.fieldLink "BodySolids$Meeting" (30 : Nat) "BodySolids$Solid" "y0" "J" ∈ gAll := gm 143 rfl rfl
set_option maxRecDepth 100000 in
theorem wd_145 : Jvm.Cond.fieldLink "BodySolids$Meeting" (36 : Nat) "BodySolids$Solid" "z0" "J" ∈ gAll := gm 145 rfl rfl
set_option maxRecDepth 100000 in
theorem wd_147 : Jvm.Cond.fieldLink "BodySolids$Meeting" (21 : Nat) "BodySolids$Solid" "x1" "J" ∈ gAll := gm 147 rfl rfl
set_option maxRecDepth 100000 in
theorem wd_149 : Jvm.Cond.fieldLink "BodySolids$Meeting" (33 : Nat) "BodySolids$Solid" "y1" "J" ∈ gAll := gm 149 rfl rfl
set_option maxRecDepth 100000 in
theorem wd_151 : Jvm.Cond.fieldLink "BodySolids$Meeting" (39 : Nat) "BodySolids$Solid" "z1" "J" ∈ gAll := gm 151 rfl rfl
set_option maxRecDepth 100000 in
theorem wd_178 : Jvm.Cond.arrayClass Jvm.ClassFile.FieldType.long ∈ gAll := gm 178 rfl rfl
set_option maxRecDepth 100000 in
theorem wd_179 : Jvm.Cond.arrayClass Jvm.ClassFile.FieldType.int ∈ gAll := gm 179 rfl rfl
set_option maxRecDepth 100000 in
theorem wd_270 : Jvm.Cond.static ({ cls := "java/lang/Math", name := "max", desc := "(II)I" } : Jvm.MethodName) ∈ gAll := gm 270 rfl rfl
set_option maxRecDepth 100000 in
theorem wd_271 : Jvm.Cond.code ({ cls := "java/lang/Math", name := "max", desc := "(II)I" } : Jvm.MethodName) prog_17_method_65_code (2 : Nat) (Option.some Jvm.ClassFile.FieldType.int) ∈ gAll := gm 271 rfl rfl
set_option maxRecDepth 100000 in
theorem wd_301 : Jvm.Cond.static ({ cls := "java/lang/Math", name := "min", desc := "(II)I" } : Jvm.MethodName) ∈ gAll := gm 301 rfl rfl
set_option maxRecDepth 100000 in
theorem wd_302 : Jvm.Cond.code ({ cls := "java/lang/Math", name := "min", desc := "(II)I" } : Jvm.MethodName) prog_17_method_69_code (2 : Nat) (Option.some Jvm.ClassFile.FieldType.int) ∈ gAll := gm 302 rfl rfl
set_option maxRecDepth 100000 in
theorem wd_374 : Jvm.Cond.static ({ cls := "BodySolids$Meeting", name := "of", desc := "(LBodySolids$Solid;LBodySolids$Solid;)I" } : Jvm.MethodName) ∈ gAll := gm 374 rfl rfl
set_option maxRecDepth 100000 in
theorem wd_375 : Jvm.Cond.code ({ cls := "BodySolids$Meeting", name := "of", desc := "(LBodySolids$Solid;LBodySolids$Solid;)I" } : Jvm.MethodName) prog_5_method_2_code (14 : Nat) (Option.some Jvm.ClassFile.FieldType.int) ∈ gAll := gm 375 rfl rfl
set_option maxRecDepth 100000 in
theorem wd_376 : Jvm.Cond.methodLink "BodySolids$Meeting" (24 : Nat) ({ cls := "BodySolids$Meeting", name := "gap", desc := "(JJJJ)J" } : Jvm.MethodName) ∈ gAll := gm 376 rfl rfl
set_option maxRecDepth 100000 in
theorem wd_377 : Jvm.Cond.static ({ cls := "BodySolids$Meeting", name := "gap", desc := "(JJJJ)J" } : Jvm.MethodName) ∈ gAll := gm 377 rfl rfl
set_option maxRecDepth 100000 in
theorem wd_378 : Jvm.Cond.code ({ cls := "BodySolids$Meeting", name := "gap", desc := "(JJJJ)J" } : Jvm.MethodName) prog_5_method_3_code (8 : Nat) (Option.some Jvm.ClassFile.FieldType.long) ∈ gAll := gm 378 rfl rfl
set_option maxRecDepth 100000 in
theorem wd_379 : Jvm.Cond.methodLink "BodySolids$Meeting" (68 : Nat) ({ cls := "java/lang/Math", name := "max", desc := "(JJ)J" } : Jvm.MethodName) ∈ gAll := gm 379 rfl rfl
set_option maxRecDepth 100000 in
theorem wd_380 : Jvm.Cond.methodLink "BodySolids$Meeting" (42 : Nat) ({ cls := "BodySolids$Meeting", name := "outlines", desc := "(LBodySolids$Solid;LBodySolids$Solid;)I" } : Jvm.MethodName) ∈ gAll := gm 380 rfl rfl
set_option maxRecDepth 100000 in
theorem wd_381 : Jvm.Cond.static ({ cls := "BodySolids$Meeting", name := "outlines", desc := "(LBodySolids$Solid;LBodySolids$Solid;)I" } : Jvm.MethodName) ∈ gAll := gm 381 rfl rfl
set_option maxRecDepth 100000 in
theorem wd_382 : Jvm.Cond.code ({ cls := "BodySolids$Meeting", name := "outlines", desc := "(LBodySolids$Solid;LBodySolids$Solid;)I" } : Jvm.MethodName) prog_5_method_6_code (7 : Nat) (Option.some Jvm.ClassFile.FieldType.int) ∈ gAll := gm 382 rfl rfl
set_option maxRecDepth 100000 in
theorem wd_383 : Jvm.Cond.methodLink "BodySolids$Meeting" (50 : Nat) ({ cls := "BodySolids$Meeting", name := "sign", desc := "(J)I" } : Jvm.MethodName) ∈ gAll := gm 383 rfl rfl
set_option maxRecDepth 100000 in
theorem wd_384 : Jvm.Cond.static ({ cls := "BodySolids$Meeting", name := "sign", desc := "(J)I" } : Jvm.MethodName) ∈ gAll := gm 384 rfl rfl
set_option maxRecDepth 100000 in
theorem wd_385 : Jvm.Cond.code ({ cls := "BodySolids$Meeting", name := "sign", desc := "(J)I" } : Jvm.MethodName) prog_5_method_4_code (2 : Nat) (Option.some Jvm.ClassFile.FieldType.int) ∈ gAll := gm 385 rfl rfl
set_option maxRecDepth 100000 in
theorem wd_386 : Jvm.Cond.methodLink "BodySolids$Meeting" (75 : Nat) ({ cls := "BodySolids$Meeting", name := "partedBySides", desc := "(LBodySolids$Solid;LBodySolids$Solid;)I" } : Jvm.MethodName) ∈ gAll := gm 386 rfl rfl
set_option maxRecDepth 100000 in
theorem wd_387 : Jvm.Cond.static ({ cls := "BodySolids$Meeting", name := "partedBySides", desc := "(LBodySolids$Solid;LBodySolids$Solid;)I" } : Jvm.MethodName) ∈ gAll := gm 387 rfl rfl
set_option maxRecDepth 100000 in
theorem wd_388 : Jvm.Cond.code ({ cls := "BodySolids$Meeting", name := "partedBySides", desc := "(LBodySolids$Solid;LBodySolids$Solid;)I" } : Jvm.MethodName) prog_5_method_7_code (13 : Nat) (Option.some Jvm.ClassFile.FieldType.int) ∈ gAll := gm 388 rfl rfl
set_option maxRecDepth 100000 in
theorem wd_389 : Jvm.Cond.methodLink "BodySolids$Meeting" (88 : Nat) ({ cls := "java/lang/Math", name := "min", desc := "(II)I" } : Jvm.MethodName) ∈ gAll := gm 389 rfl rfl
set_option maxRecDepth 100000 in
theorem wd_390 : Jvm.Cond.methodLink "BodySolids$Meeting" (54 : Nat) ({ cls := "java/lang/Math", name := "max", desc := "(II)I" } : Jvm.MethodName) ∈ gAll := gm 390 rfl rfl
set_option maxRecDepth 100000 in
theorem wd_391 : Jvm.Cond.methodLink "BodySolids$Meeting" (46 : Nat) ({ cls := "BodySolids$Meeting", name := "distance", desc := "(LBodySolids$Solid;LBodySolids$Solid;J)I" } : Jvm.MethodName) ∈ gAll := gm 391 rfl rfl
set_option maxRecDepth 100000 in
theorem wd_392 : Jvm.Cond.static ({ cls := "BodySolids$Meeting", name := "distance", desc := "(LBodySolids$Solid;LBodySolids$Solid;J)I" } : Jvm.MethodName) ∈ gAll := gm 392 rfl rfl
set_option maxRecDepth 100000 in
theorem wd_393 : Jvm.Cond.code ({ cls := "BodySolids$Meeting", name := "distance", desc := "(LBodySolids$Solid;LBodySolids$Solid;J)I" } : Jvm.MethodName) prog_5_method_8_code (8 : Nat) (Option.some Jvm.ClassFile.FieldType.int) ∈ gAll := gm 393 rfl rfl
set_option maxRecDepth 100000 in
theorem wd_394 : Jvm.Cond.methodLink "BodySolids$Meeting" (91 : Nat) ({ cls := "BodySolids$Meeting", name := "cornersDistance", desc := "(LBodySolids$Solid;LBodySolids$Solid;J)I" } : Jvm.MethodName) ∈ gAll := gm 394 rfl rfl
set_option maxRecDepth 100000 in
theorem wd_395 : Jvm.Cond.static ({ cls := "BodySolids$Meeting", name := "cornersDistance", desc := "(LBodySolids$Solid;LBodySolids$Solid;J)I" } : Jvm.MethodName) ∈ gAll := gm 395 rfl rfl
set_option maxRecDepth 100000 in
theorem wd_396 : Jvm.Cond.code ({ cls := "BodySolids$Meeting", name := "cornersDistance", desc := "(LBodySolids$Solid;LBodySolids$Solid;J)I" } : Jvm.MethodName) prog_5_method_9_code (10 : Nat) (Option.some Jvm.ClassFile.FieldType.int) ∈ gAll := gm 396 rfl rfl
set_option maxRecDepth 100000 in
theorem wd_397 : Jvm.Cond.methodLink "BodySolids$Meeting" (60 : Nat) ({ cls := "BodySolids$Meeting", name := "squareIfAbove", desc := "(J)J" } : Jvm.MethodName) ∈ gAll := gm 397 rfl rfl
set_option maxRecDepth 100000 in
theorem wd_398 : Jvm.Cond.static ({ cls := "BodySolids$Meeting", name := "squareIfAbove", desc := "(J)J" } : Jvm.MethodName) ∈ gAll := gm 398 rfl rfl
set_option maxRecDepth 100000 in
theorem wd_399 : Jvm.Cond.code ({ cls := "BodySolids$Meeting", name := "squareIfAbove", desc := "(J)J" } : Jvm.MethodName) prog_5_method_5_code (2 : Nat) (Option.some Jvm.ClassFile.FieldType.long) ∈ gAll := gm 399 rfl rfl
set_option maxRecDepth 100000 in
theorem wd_400 : Jvm.Cond.methodLink "BodySolids$Meeting" (94 : Nat) ({ cls := "BodySolids$Meeting", name := "sidesDistance", desc := "(LBodySolids$Solid;LBodySolids$Solid;J)I" } : Jvm.MethodName) ∈ gAll := gm 400 rfl rfl
set_option maxRecDepth 100000 in
theorem wd_401 : Jvm.Cond.static ({ cls := "BodySolids$Meeting", name := "sidesDistance", desc := "(LBodySolids$Solid;LBodySolids$Solid;J)I" } : Jvm.MethodName) ∈ gAll := gm 401 rfl rfl
set_option maxRecDepth 100000 in
theorem wd_402 : Jvm.Cond.code ({ cls := "BodySolids$Meeting", name := "sidesDistance", desc := "(LBodySolids$Solid;LBodySolids$Solid;J)I" } : Jvm.MethodName) prog_5_method_10_code (6 : Nat) (Option.some Jvm.ClassFile.FieldType.int) ∈ gAll := gm 402 rfl rfl
set_option maxRecDepth 100000 in
theorem wd_403 : Jvm.Cond.methodLink "BodySolids$Meeting" (97 : Nat) ({ cls := "BodySolids$Meeting", name := "sideDistance", desc := "(LBodySolids$Solid;ILBodySolids$Solid;J)I" } : Jvm.MethodName) ∈ gAll := gm 403 rfl rfl
set_option maxRecDepth 100000 in
theorem wd_404 : Jvm.Cond.static ({ cls := "BodySolids$Meeting", name := "sideDistance", desc := "(LBodySolids$Solid;ILBodySolids$Solid;J)I" } : Jvm.MethodName) ∈ gAll := gm 404 rfl rfl
set_option maxRecDepth 100000 in
theorem wd_405 : Jvm.Cond.code ({ cls := "BodySolids$Meeting", name := "sideDistance", desc := "(LBodySolids$Solid;ILBodySolids$Solid;J)I" } : Jvm.MethodName) prog_5_method_11_code (22 : Nat) (Option.some Jvm.ClassFile.FieldType.int) ∈ gAll := gm 405 rfl rfl
set_option maxRecDepth 100000 in
theorem wd_406 : Jvm.Cond.methodLink "BodySolids$Meeting" (64 : Nat) ({ cls := "BodySolids$Meeting", name := "discAndRound", desc := "(JJJ)I" } : Jvm.MethodName) ∈ gAll := gm 406 rfl rfl
set_option maxRecDepth 100000 in
theorem wd_407 : Jvm.Cond.static ({ cls := "BodySolids$Meeting", name := "discAndRound", desc := "(JJJ)I" } : Jvm.MethodName) ∈ gAll := gm 407 rfl rfl
set_option maxRecDepth 100000 in
theorem wd_408 : Jvm.Cond.code ({ cls := "BodySolids$Meeting", name := "discAndRound", desc := "(JJJ)I" } : Jvm.MethodName) prog_5_method_12_code (8 : Nat) (Option.some Jvm.ClassFile.FieldType.int) ∈ gAll := gm 408 rfl rfl
set_option maxRecDepth 100000 in
theorem wd_409 : Jvm.Cond.constantLong "BodySolids$Meeting" (101 : Nat) (4 : Int64) ∈ gAll := gm 409 rfl rfl
set_option maxRecDepth 100000 in
theorem wd_782 : Jvm.Cond.instanceMethod ({ cls := "BodySolidsModel", name := "<init>", desc := "(J)V" } : Jvm.MethodName) ∈ gAll := gm 782 rfl rfl
set_option maxRecDepth 100000 in
theorem wd_783 : Jvm.Cond.code ({ cls := "BodySolidsModel", name := "<init>", desc := "(J)V" } : Jvm.MethodName) prog_9_method_1_code (3 : Nat) (Option.none : Option Jvm.ClassFile.FieldType) ∈ gAll := gm 783 rfl rfl
set_option maxRecDepth 100000 in
theorem wd_784 : Jvm.Cond.methodLink "BodySolidsModel" (1 : Nat) ({ cls := "java/lang/Object", name := "<init>", desc := "()V" } : Jvm.MethodName) ∈ gAll := gm 784 rfl rfl
set_option maxRecDepth 100000 in
theorem wd_785 : Jvm.Cond.constantLong "BodySolidsModel" (74 : Nat) (1000 : Int64) ∈ gAll := gm 785 rfl rfl
set_option maxRecDepth 100000 in
theorem wd_786 : Jvm.Cond.fieldLink "BodySolidsModel" (80 : Nat) "BodySolidsModel" "thrown" "I" ∈ gAll := gm 786 rfl rfl
set_option maxRecDepth 100000 in
theorem wd_787 : Jvm.Cond.fieldLink "BodySolidsModel" (76 : Nat) "BodySolidsModel" "thickness" "J" ∈ gAll := gm 787 rfl rfl
set_option maxRecDepth 100000 in
theorem wd_788 : Jvm.Cond.fieldLink "BodySolidsModel" (92 : Nat) "BodySolidsModel" "bodies" "I" ∈ gAll := gm 788 rfl rfl
set_option maxRecDepth 100000 in
theorem wd_789 : Jvm.Cond.fieldLink "BodySolidsModel" (7 : Nat) "BodySolidsModel" "counts" "[I" ∈ gAll := gm 789 rfl rfl
set_option maxRecDepth 100000 in
theorem wd_790 : Jvm.Cond.fieldLink "BodySolidsModel" (13 : Nat) "BodySolidsModel" "kinds" "[I" ∈ gAll := gm 790 rfl rfl
set_option maxRecDepth 100000 in
theorem wd_791 : Jvm.Cond.fieldLink "BodySolidsModel" (16 : Nat) "BodySolidsModel" "numbers" "[J" ∈ gAll := gm 791 rfl rfl
set_option maxRecDepth 100000 in
theorem wd_792 : Jvm.Cond.fieldLink "BodySolidsModel" (20 : Nat) "BodySolidsModel" "cornerCounts" "[I" ∈ gAll := gm 792 rfl rfl
set_option maxRecDepth 100000 in
theorem wd_793 : Jvm.Cond.fieldLink "BodySolidsModel" (23 : Nat) "BodySolidsModel" "cornerX" "[J" ∈ gAll := gm 793 rfl rfl
set_option maxRecDepth 100000 in
theorem wd_794 : Jvm.Cond.fieldLink "BodySolidsModel" (26 : Nat) "BodySolidsModel" "cornerY" "[J" ∈ gAll := gm 794 rfl rfl
set_option maxRecDepth 100000 in
theorem wd_795 : Jvm.Cond.fieldLink "BodySolidsModel" (121 : Nat) "BodySolidsModel" "told" "I" ∈ gAll := gm 795 rfl rfl
set_option maxRecDepth 100000 in
theorem wd_796 : Jvm.Cond.fieldLink "BodySolidsModel" (29 : Nat) "BodySolidsModel" "toldX" "[J" ∈ gAll := gm 796 rfl rfl
set_option maxRecDepth 100000 in
theorem wd_797 : Jvm.Cond.fieldLink "BodySolidsModel" (32 : Nat) "BodySolidsModel" "toldY" "[J" ∈ gAll := gm 797 rfl rfl
set_option maxRecDepth 100000 in
theorem wd_798 : Jvm.Cond.fieldLink "BodySolidsModel" (95 : Nat) "BodySolidsModel" "places" "I" ∈ gAll := gm 798 rfl rfl
set_option maxRecDepth 100000 in
theorem wd_799 : Jvm.Cond.fieldLink "BodySolidsModel" (35 : Nat) "BodySolidsModel" "placed" "[I" ∈ gAll := gm 799 rfl rfl
set_option maxRecDepth 100000 in
theorem wd_800 : Jvm.Cond.fieldLink "BodySolidsModel" (38 : Nat) "BodySolidsModel" "placeX" "[J" ∈ gAll := gm 800 rfl rfl
set_option maxRecDepth 100000 in
theorem wd_801 : Jvm.Cond.fieldLink "BodySolidsModel" (41 : Nat) "BodySolidsModel" "placeY" "[J" ∈ gAll := gm 801 rfl rfl
set_option maxRecDepth 100000 in
theorem wd_802 : Jvm.Cond.fieldLink "BodySolidsModel" (44 : Nat) "BodySolidsModel" "turns" "[I" ∈ gAll := gm 802 rfl rfl
set_option maxRecDepth 100000 in
theorem wd_803 : Jvm.Cond.fieldLink "BodySolidsModel" (47 : Nat) "BodySolidsModel" "sides" "[I" ∈ gAll := gm 803 rfl rfl
set_option maxRecDepth 100000 in
theorem wd_804 : Jvm.Cond.fieldLink "BodySolidsModel" (269 : Nat) "BodySolidsModel" "outs" "I" ∈ gAll := gm 804 rfl rfl
set_option maxRecDepth 100000 in
theorem wd_805 : Jvm.Cond.fieldLink "BodySolidsModel" (50 : Nat) "BodySolidsModel" "out" "[J" ∈ gAll := gm 805 rfl rfl
set_option maxRecDepth 100000 in
theorem wd_806 : Jvm.Cond.fieldLink "BodySolidsModel" (53 : Nat) "BodySolidsModel" "kindAt" "[I" ∈ gAll := gm 806 rfl rfl
set_option maxRecDepth 100000 in
theorem wd_807 : Jvm.Cond.fieldLink "BodySolidsModel" (56 : Nat) "BodySolidsModel" "many" "[I" ∈ gAll := gm 807 rfl rfl
set_option maxRecDepth 100000 in
theorem wd_808 : Jvm.Cond.fieldLink "BodySolidsModel" (59 : Nat) "BodySolidsModel" "px" "[J" ∈ gAll := gm 808 rfl rfl
set_option maxRecDepth 100000 in
theorem wd_809 : Jvm.Cond.fieldLink "BodySolidsModel" (62 : Nat) "BodySolidsModel" "py" "[J" ∈ gAll := gm 809 rfl rfl
set_option maxRecDepth 100000 in
theorem wd_810 : Jvm.Cond.fieldLink "BodySolidsModel" (65 : Nat) "BodySolidsModel" "radius" "[J" ∈ gAll := gm 810 rfl rfl
set_option maxRecDepth 100000 in
theorem wd_811 : Jvm.Cond.fieldLink "BodySolidsModel" (68 : Nat) "BodySolidsModel" "low" "[J" ∈ gAll := gm 811 rfl rfl
set_option maxRecDepth 100000 in
theorem wd_812 : Jvm.Cond.fieldLink "BodySolidsModel" (71 : Nat) "BodySolidsModel" "high" "[J" ∈ gAll := gm 812 rfl rfl
set_option maxRecDepth 100000 in
theorem wd_869 : Jvm.Cond.instanceMethod ({ cls := "BodySolidsModel", name := "body", desc := "()I" } : Jvm.MethodName) ∈ gAll := gm 869 rfl rfl
set_option maxRecDepth 100000 in
theorem wd_871 : Jvm.Cond.code ({ cls := "BodySolidsModel", name := "body", desc := "()I" } : Jvm.MethodName) prog_9_method_7_code (1 : Nat) (Option.some Jvm.ClassFile.FieldType.int) ∈ gAll := gm 871 rfl rfl
set_option maxRecDepth 100000 in
theorem wd_873 : Jvm.Cond.instanceMethod ({ cls := "BodySolidsModel", name := "box", desc := "(IJJJJJJ)Z" } : Jvm.MethodName) ∈ gAll := gm 873 rfl rfl
set_option maxRecDepth 100000 in
theorem wd_875 : Jvm.Cond.code ({ cls := "BodySolidsModel", name := "box", desc := "(IJJJJJJ)Z" } : Jvm.MethodName) prog_9_method_13_code (16 : Nat) (Option.some Jvm.ClassFile.FieldType.boolean) ∈ gAll := gm 875 rfl rfl
set_option maxRecDepth 100000 in
theorem wd_876 : Jvm.Cond.methodLink "BodySolidsModel" (102 : Nat) ({ cls := "BodySolidsModel", name := "isPlace", desc := "(JJ)Z" } : Jvm.MethodName) ∈ gAll := gm 876 rfl rfl
set_option maxRecDepth 100000 in
theorem wd_877 : Jvm.Cond.static ({ cls := "BodySolidsModel", name := "isPlace", desc := "(JJ)Z" } : Jvm.MethodName) ∈ gAll := gm 877 rfl rfl
set_option maxRecDepth 100000 in
theorem wd_878 : Jvm.Cond.code ({ cls := "BodySolidsModel", name := "isPlace", desc := "(JJ)Z" } : Jvm.MethodName) prog_9_method_4_code (4 : Nat) (Option.some Jvm.ClassFile.FieldType.boolean) ∈ gAll := gm 878 rfl rfl
set_option maxRecDepth 100000 in
theorem wd_879 : Jvm.Cond.constantLong "BodySolidsModel" (84 : Nat) (-5000 : Int64) ∈ gAll := gm 879 rfl rfl
set_option maxRecDepth 100000 in
theorem wd_880 : Jvm.Cond.constantLong "BodySolidsModel" (86 : Nat) (5000 : Int64) ∈ gAll := gm 880 rfl rfl
set_option maxRecDepth 100000 in
theorem wd_881 : Jvm.Cond.methodLink "BodySolidsModel" (88 : Nat) ({ cls := "BodySolidsModel", name := "within", desc := "(JJJ)Z" } : Jvm.MethodName) ∈ gAll := gm 881 rfl rfl
set_option maxRecDepth 100000 in
theorem wd_882 : Jvm.Cond.static ({ cls := "BodySolidsModel", name := "within", desc := "(JJJ)Z" } : Jvm.MethodName) ∈ gAll := gm 882 rfl rfl
set_option maxRecDepth 100000 in
theorem wd_883 : Jvm.Cond.code ({ cls := "BodySolidsModel", name := "within", desc := "(JJJ)Z" } : Jvm.MethodName) prog_9_method_3_code (6 : Nat) (Option.some Jvm.ClassFile.FieldType.boolean) ∈ gAll := gm 883 rfl rfl
set_option maxRecDepth 100000 in
theorem wd_884 : Jvm.Cond.methodLink "BodySolidsModel" (98 : Nat) ({ cls := "BodySolidsModel", name := "isLong", desc := "(J)Z" } : Jvm.MethodName) ∈ gAll := gm 884 rfl rfl
set_option maxRecDepth 100000 in
theorem wd_885 : Jvm.Cond.static ({ cls := "BodySolidsModel", name := "isLong", desc := "(J)Z" } : Jvm.MethodName) ∈ gAll := gm 885 rfl rfl
set_option maxRecDepth 100000 in
theorem wd_886 : Jvm.Cond.code ({ cls := "BodySolidsModel", name := "isLong", desc := "(J)Z" } : Jvm.MethodName) prog_9_method_11_code (2 : Nat) (Option.some Jvm.ClassFile.FieldType.boolean) ∈ gAll := gm 886 rfl rfl
set_option maxRecDepth 100000 in
theorem wd_887 : Jvm.Cond.methodLink "BodySolidsModel" (106 : Nat) ({ cls := "BodySolidsModel", name := "isUpright", desc := "(JJ)Z" } : Jvm.MethodName) ∈ gAll := gm 887 rfl rfl
set_option maxRecDepth 100000 in
theorem wd_888 : Jvm.Cond.static ({ cls := "BodySolidsModel", name := "isUpright", desc := "(JJ)Z" } : Jvm.MethodName) ∈ gAll := gm 888 rfl rfl
set_option maxRecDepth 100000 in
theorem wd_889 : Jvm.Cond.code ({ cls := "BodySolidsModel", name := "isUpright", desc := "(JJ)Z" } : Jvm.MethodName) prog_9_method_12_code (4 : Nat) (Option.some Jvm.ClassFile.FieldType.boolean) ∈ gAll := gm 889 rfl rfl
set_option maxRecDepth 100000 in
theorem wd_890 : Jvm.Cond.methodLink "BodySolidsModel" (109 : Nat) ({ cls := "BodySolidsModel", name := "isBody", desc := "(I)Z" } : Jvm.MethodName) ∈ gAll := gm 890 rfl rfl
set_option maxRecDepth 100000 in
theorem wd_892 : Jvm.Cond.instanceMethod ({ cls := "BodySolidsModel", name := "isBody", desc := "(I)Z" } : Jvm.MethodName) ∈ gAll := gm 892 rfl rfl
set_option maxRecDepth 100000 in
theorem wd_893 : Jvm.Cond.code ({ cls := "BodySolidsModel", name := "isBody", desc := "(I)Z" } : Jvm.MethodName) prog_9_method_5_code (2 : Nat) (Option.some Jvm.ClassFile.FieldType.boolean) ∈ gAll := gm 893 rfl rfl
set_option maxRecDepth 100000 in
theorem wd_894 : Jvm.Cond.methodLink "BodySolidsModel" (113 : Nat) ({ cls := "BodySolidsModel", name := "fresh", desc := "(II)I" } : Jvm.MethodName) ∈ gAll := gm 894 rfl rfl
set_option maxRecDepth 100000 in
theorem wd_896 : Jvm.Cond.instanceMethod ({ cls := "BodySolidsModel", name := "fresh", desc := "(II)I" } : Jvm.MethodName) ∈ gAll := gm 896 rfl rfl
set_option maxRecDepth 100000 in
theorem wd_897 : Jvm.Cond.code ({ cls := "BodySolidsModel", name := "fresh", desc := "(II)I" } : Jvm.MethodName) prog_9_method_8_code (4 : Nat) (Option.some Jvm.ClassFile.FieldType.int) ∈ gAll := gm 897 rfl rfl
set_option maxRecDepth 100000 in
theorem wd_898 : Jvm.Cond.methodLink "BodySolidsModel" (117 : Nat) ({ cls := "BodySolidsModel", name := "tell", desc := "(IIJ)V" } : Jvm.MethodName) ∈ gAll := gm 898 rfl rfl
set_option maxRecDepth 100000 in
theorem wd_900 : Jvm.Cond.instanceMethod ({ cls := "BodySolidsModel", name := "tell", desc := "(IIJ)V" } : Jvm.MethodName) ∈ gAll := gm 900 rfl rfl
set_option maxRecDepth 100000 in
theorem wd_901 : Jvm.Cond.code ({ cls := "BodySolidsModel", name := "tell", desc := "(IIJ)V" } : Jvm.MethodName) prog_9_method_9_code (5 : Nat) (Option.none : Option Jvm.ClassFile.FieldType) ∈ gAll := gm 901 rfl rfl
set_option maxRecDepth 100000 in
theorem wd_903 : Jvm.Cond.instanceMethod ({ cls := "BodySolidsModel", name := "cylinder", desc := "(IJJJJJ)Z" } : Jvm.MethodName) ∈ gAll := gm 903 rfl rfl
set_option maxRecDepth 100000 in
theorem wd_905 : Jvm.Cond.code ({ cls := "BodySolidsModel", name := "cylinder", desc := "(IJJJJJ)Z" } : Jvm.MethodName) prog_9_method_14_code (14 : Nat) (Option.some Jvm.ClassFile.FieldType.boolean) ∈ gAll := gm 905 rfl rfl
set_option maxRecDepth 100000 in
theorem wd_907 : Jvm.Cond.instanceMethod ({ cls := "BodySolidsModel", name := "corner", desc := "(JJ)Z" } : Jvm.MethodName) ∈ gAll := gm 907 rfl rfl
set_option maxRecDepth 100000 in
theorem wd_909 : Jvm.Cond.code ({ cls := "BodySolidsModel", name := "corner", desc := "(JJ)Z" } : Jvm.MethodName) prog_9_method_15_code (5 : Nat) (Option.some Jvm.ClassFile.FieldType.boolean) ∈ gAll := gm 909 rfl rfl
set_option maxRecDepth 100000 in
theorem wd_911 : Jvm.Cond.instanceMethod ({ cls := "BodySolidsModel", name := "prism", desc := "(IJJ)Z" } : Jvm.MethodName) ∈ gAll := gm 911 rfl rfl
set_option maxRecDepth 100000 in
theorem wd_913 : Jvm.Cond.code ({ cls := "BodySolidsModel", name := "prism", desc := "(IJJ)Z" } : Jvm.MethodName) prog_9_method_18_code (10 : Nat) (Option.some Jvm.ClassFile.FieldType.boolean) ∈ gAll := gm 913 rfl rfl
set_option maxRecDepth 100000 in
theorem wd_914 : Jvm.Cond.methodLink "BodySolidsModel" (128 : Nat) ({ cls := "BodySolidsModel", name := "isRound", desc := "()Z" } : Jvm.MethodName) ∈ gAll := gm 914 rfl rfl
set_option maxRecDepth 100000 in
theorem wd_916 : Jvm.Cond.instanceMethod ({ cls := "BodySolidsModel", name := "isRound", desc := "()Z" } : Jvm.MethodName) ∈ gAll := gm 916 rfl rfl
set_option maxRecDepth 100000 in
theorem wd_917 : Jvm.Cond.code ({ cls := "BodySolidsModel", name := "isRound", desc := "()Z" } : Jvm.MethodName) prog_9_method_17_code (4 : Nat) (Option.some Jvm.ClassFile.FieldType.boolean) ∈ gAll := gm 917 rfl rfl
set_option maxRecDepth 100000 in
theorem wd_918 : Jvm.Cond.methodLink "BodySolidsModel" (124 : Nat) ({ cls := "BodySolidsModel", name := "cross", desc := "(JJJJJJ)J" } : Jvm.MethodName) ∈ gAll := gm 918 rfl rfl
set_option maxRecDepth 100000 in
theorem wd_919 : Jvm.Cond.static ({ cls := "BodySolidsModel", name := "cross", desc := "(JJJJJJ)J" } : Jvm.MethodName) ∈ gAll := gm 919 rfl rfl
set_option maxRecDepth 100000 in
theorem wd_920 : Jvm.Cond.code ({ cls := "BodySolidsModel", name := "cross", desc := "(JJJJJJ)J" } : Jvm.MethodName) prog_9_method_16_code (12 : Nat) (Option.some Jvm.ClassFile.FieldType.long) ∈ gAll := gm 920 rfl rfl
set_option maxRecDepth 100000 in
theorem wd_922 : Jvm.Cond.instanceMethod ({ cls := "BodySolidsModel", name := "tube", desc := "(IJJJJIJ)Z" } : Jvm.MethodName) ∈ gAll := gm 922 rfl rfl
set_option maxRecDepth 100000 in
theorem wd_924 : Jvm.Cond.code ({ cls := "BodySolidsModel", name := "tube", desc := "(IJJJJIJ)Z" } : Jvm.MethodName) prog_9_method_19_code (15 : Nat) (Option.some Jvm.ClassFile.FieldType.boolean) ∈ gAll := gm 924 rfl rfl
set_option maxRecDepth 100000 in
theorem wd_925 : Jvm.Cond.constantLong "BodySolidsModel" (132 : Nat) (500 : Int64) ∈ gAll := gm 925 rfl rfl
set_option maxRecDepth 100000 in
theorem wd_926 : Jvm.Cond.constantLong "BodySolidsModel" (134 : Nat) (-10000 : Int64) ∈ gAll := gm 926 rfl rfl
set_option maxRecDepth 100000 in
theorem wd_927 : Jvm.Cond.constantLong "BodySolidsModel" (136 : Nat) (10000 : Int64) ∈ gAll := gm 927 rfl rfl
set_option maxRecDepth 100000 in
theorem wd_929 : Jvm.Cond.instanceMethod ({ cls := "BodySolidsModel", name := "join", desc := "(II)I" } : Jvm.MethodName) ∈ gAll := gm 929 rfl rfl
set_option maxRecDepth 100000 in
theorem wd_931 : Jvm.Cond.code ({ cls := "BodySolidsModel", name := "join", desc := "(II)I" } : Jvm.MethodName) prog_9_method_21_code (5 : Nat) (Option.some Jvm.ClassFile.FieldType.int) ∈ gAll := gm 931 rfl rfl
set_option maxRecDepth 100000 in
theorem wd_932 : Jvm.Cond.methodLink "BodySolidsModel" (138 : Nat) ({ cls := "BodySolidsModel", name := "copy", desc := "(II)V" } : Jvm.MethodName) ∈ gAll := gm 932 rfl rfl
set_option maxRecDepth 100000 in
theorem wd_934 : Jvm.Cond.instanceMethod ({ cls := "BodySolidsModel", name := "copy", desc := "(II)V" } : Jvm.MethodName) ∈ gAll := gm 934 rfl rfl
set_option maxRecDepth 100000 in
theorem wd_935 : Jvm.Cond.code ({ cls := "BodySolidsModel", name := "copy", desc := "(II)V" } : Jvm.MethodName) prog_9_method_20_code (4 : Nat) (Option.none : Option Jvm.ClassFile.FieldType) ∈ gAll := gm 935 rfl rfl
set_option maxRecDepth 100000 in
theorem wd_937 : Jvm.Cond.instanceMethod ({ cls := "BodySolidsModel", name := "place", desc := "(IJJII)I" } : Jvm.MethodName) ∈ gAll := gm 937 rfl rfl
set_option maxRecDepth 100000 in
theorem wd_939 : Jvm.Cond.code ({ cls := "BodySolidsModel", name := "place", desc := "(IJJII)I" } : Jvm.MethodName) prog_9_method_24_code (8 : Nat) (Option.some Jvm.ClassFile.FieldType.int) ∈ gAll := gm 939 rfl rfl
set_option maxRecDepth 100000 in
theorem wd_940 : Jvm.Cond.methodLink "BodySolidsModel" (142 : Nat) ({ cls := "BodySolidsModel", name := "isSpot", desc := "(JJII)Z" } : Jvm.MethodName) ∈ gAll := gm 940 rfl rfl
set_option maxRecDepth 100000 in
theorem wd_941 : Jvm.Cond.static ({ cls := "BodySolidsModel", name := "isSpot", desc := "(JJII)Z" } : Jvm.MethodName) ∈ gAll := gm 941 rfl rfl
set_option maxRecDepth 100000 in
theorem wd_942 : Jvm.Cond.code ({ cls := "BodySolidsModel", name := "isSpot", desc := "(JJII)Z" } : Jvm.MethodName) prog_9_method_22_code (6 : Nat) (Option.some Jvm.ClassFile.FieldType.boolean) ∈ gAll := gm 942 rfl rfl
set_option maxRecDepth 100000 in
theorem wd_943 : Jvm.Cond.methodLink "BodySolidsModel" (146 : Nat) ({ cls := "BodySolidsModel", name := "set", desc := "(IJJII)V" } : Jvm.MethodName) ∈ gAll := gm 943 rfl rfl
set_option maxRecDepth 100000 in
theorem wd_945 : Jvm.Cond.instanceMethod ({ cls := "BodySolidsModel", name := "set", desc := "(IJJII)V" } : Jvm.MethodName) ∈ gAll := gm 945 rfl rfl
set_option maxRecDepth 100000 in
theorem wd_946 : Jvm.Cond.code ({ cls := "BodySolidsModel", name := "set", desc := "(IJJII)V" } : Jvm.MethodName) prog_9_method_23_code (8 : Nat) (Option.none : Option Jvm.ClassFile.FieldType) ∈ gAll := gm 946 rfl rfl
set_option maxRecDepth 100000 in
theorem wd_948 : Jvm.Cond.instanceMethod ({ cls := "BodySolidsModel", name := "move", desc := "(IJJII)Z" } : Jvm.MethodName) ∈ gAll := gm 948 rfl rfl
set_option maxRecDepth 100000 in
theorem wd_950 : Jvm.Cond.code ({ cls := "BodySolidsModel", name := "move", desc := "(IJJII)Z" } : Jvm.MethodName) prog_9_method_25_code (9 : Nat) (Option.some Jvm.ClassFile.FieldType.boolean) ∈ gAll := gm 950 rfl rfl
set_option maxRecDepth 100000 in
theorem wd_951 : Jvm.Cond.methodLink "BodySolidsModel" (150 : Nat) ({ cls := "BodySolidsModel", name := "isPlaced", desc := "(I)Z" } : Jvm.MethodName) ∈ gAll := gm 951 rfl rfl
set_option maxRecDepth 100000 in
theorem wd_953 : Jvm.Cond.instanceMethod ({ cls := "BodySolidsModel", name := "isPlaced", desc := "(I)Z" } : Jvm.MethodName) ∈ gAll := gm 953 rfl rfl
set_option maxRecDepth 100000 in
theorem wd_954 : Jvm.Cond.code ({ cls := "BodySolidsModel", name := "isPlaced", desc := "(I)Z" } : Jvm.MethodName) prog_9_method_6_code (2 : Nat) (Option.some Jvm.ClassFile.FieldType.boolean) ∈ gAll := gm 954 rfl rfl
set_option maxRecDepth 100000 in
theorem wd_956 : Jvm.Cond.instanceMethod ({ cls := "BodySolidsModel", name := "clash", desc := "(II)I" } : Jvm.MethodName) ∈ gAll := gm 956 rfl rfl
set_option maxRecDepth 100000 in
theorem wd_958 : Jvm.Cond.code ({ cls := "BodySolidsModel", name := "clash", desc := "(II)I" } : Jvm.MethodName) prog_9_method_53_code (4 : Nat) (Option.some Jvm.ClassFile.FieldType.int) ∈ gAll := gm 958 rfl rfl
set_option maxRecDepth 100000 in
theorem wd_959 : Jvm.Cond.methodLink "BodySolidsModel" (259 : Nat) ({ cls := "BodySolidsModel", name := "meet", desc := "(II)I" } : Jvm.MethodName) ∈ gAll := gm 959 rfl rfl
set_option maxRecDepth 100000 in
theorem wd_961 : Jvm.Cond.instanceMethod ({ cls := "BodySolidsModel", name := "meet", desc := "(II)I" } : Jvm.MethodName) ∈ gAll := gm 961 rfl rfl
set_option maxRecDepth 100000 in
theorem wd_962 : Jvm.Cond.code ({ cls := "BodySolidsModel", name := "meet", desc := "(II)I" } : Jvm.MethodName) prog_9_method_52_code (7 : Nat) (Option.some Jvm.ClassFile.FieldType.int) ∈ gAll := gm 962 rfl rfl
set_option maxRecDepth 100000 in
theorem wd_963 : Jvm.Cond.methodLink "BodySolidsModel" (252 : Nat) ({ cls := "BodySolidsModel", name := "lay", desc := "(III)V" } : Jvm.MethodName) ∈ gAll := gm 963 rfl rfl
set_option maxRecDepth 100000 in
theorem wd_965 : Jvm.Cond.instanceMethod ({ cls := "BodySolidsModel", name := "lay", desc := "(III)V" } : Jvm.MethodName) ∈ gAll := gm 965 rfl rfl
set_option maxRecDepth 100000 in
theorem wd_966 : Jvm.Cond.code ({ cls := "BodySolidsModel", name := "lay", desc := "(III)V" } : Jvm.MethodName) prog_9_method_32_code (12 : Nat) (Option.none : Option Jvm.ClassFile.FieldType) ∈ gAll := gm 966 rfl rfl
set_option maxRecDepth 100000 in
theorem wd_967 : Jvm.Cond.methodLink "BodySolidsModel" (164 : Nat) ({ cls := "BodySolidsModel", name := "of", desc := "(II)J" } : Jvm.MethodName) ∈ gAll := gm 967 rfl rfl
set_option maxRecDepth 100000 in
theorem wd_969 : Jvm.Cond.instanceMethod ({ cls := "BodySolidsModel", name := "of", desc := "(II)J" } : Jvm.MethodName) ∈ gAll := gm 969 rfl rfl
set_option maxRecDepth 100000 in
theorem wd_970 : Jvm.Cond.code ({ cls := "BodySolidsModel", name := "of", desc := "(II)J" } : Jvm.MethodName) prog_9_method_10_code (3 : Nat) (Option.some Jvm.ClassFile.FieldType.long) ∈ gAll := gm 970 rfl rfl
set_option maxRecDepth 100000 in
theorem wd_971 : Jvm.Cond.methodLink "BodySolidsModel" (168 : Nat) ({ cls := "BodySolidsModel", name := "spot", desc := "(IIIJJ)V" } : Jvm.MethodName) ∈ gAll := gm 971 rfl rfl
set_option maxRecDepth 100000 in
theorem wd_973 : Jvm.Cond.instanceMethod ({ cls := "BodySolidsModel", name := "spot", desc := "(IIIJJ)V" } : Jvm.MethodName) ∈ gAll := gm 973 rfl rfl
set_option maxRecDepth 100000 in
theorem wd_974 : Jvm.Cond.code ({ cls := "BodySolidsModel", name := "spot", desc := "(IIIJJ)V" } : Jvm.MethodName) prog_9_method_31_code (8 : Nat) (Option.none : Option Jvm.ClassFile.FieldType) ∈ gAll := gm 974 rfl rfl
set_option maxRecDepth 100000 in
theorem wd_975 : Jvm.Cond.methodLink "BodySolidsModel" (153 : Nat) ({ cls := "BodySolidsModel", name := "xOf", desc := "(IJJ)J" } : Jvm.MethodName) ∈ gAll := gm 975 rfl rfl
set_option maxRecDepth 100000 in
theorem wd_977 : Jvm.Cond.instanceMethod ({ cls := "BodySolidsModel", name := "xOf", desc := "(IJJ)J" } : Jvm.MethodName) ∈ gAll := gm 977 rfl rfl
set_option maxRecDepth 100000 in
theorem wd_978 : Jvm.Cond.code ({ cls := "BodySolidsModel", name := "xOf", desc := "(IJJ)J" } : Jvm.MethodName) prog_9_method_26_code (8 : Nat) (Option.some Jvm.ClassFile.FieldType.long) ∈ gAll := gm 978 rfl rfl
set_option maxRecDepth 100000 in
theorem wd_979 : Jvm.Cond.methodLink "BodySolidsModel" (157 : Nat) ({ cls := "BodySolidsModel", name := "yOf", desc := "(IJJ)J" } : Jvm.MethodName) ∈ gAll := gm 979 rfl rfl
set_option maxRecDepth 100000 in
theorem wd_981 : Jvm.Cond.instanceMethod ({ cls := "BodySolidsModel", name := "yOf", desc := "(IJJ)J" } : Jvm.MethodName) ∈ gAll := gm 981 rfl rfl
set_option maxRecDepth 100000 in
theorem wd_982 : Jvm.Cond.code ({ cls := "BodySolidsModel", name := "yOf", desc := "(IJJ)J" } : Jvm.MethodName) prog_9_method_27_code (8 : Nat) (Option.some Jvm.ClassFile.FieldType.long) ∈ gAll := gm 982 rfl rfl
set_option maxRecDepth 100000 in
theorem wd_983 : Jvm.Cond.methodLink "BodySolidsModel" (160 : Nat) ({ cls := "BodySolidsModel", name := "point", desc := "(IIJJ)V" } : Jvm.MethodName) ∈ gAll := gm 983 rfl rfl
set_option maxRecDepth 100000 in
theorem wd_985 : Jvm.Cond.instanceMethod ({ cls := "BodySolidsModel", name := "point", desc := "(IIJJ)V" } : Jvm.MethodName) ∈ gAll := gm 985 rfl rfl
set_option maxRecDepth 100000 in
theorem wd_986 : Jvm.Cond.code ({ cls := "BodySolidsModel", name := "point", desc := "(IIJJ)V" } : Jvm.MethodName) prog_9_method_30_code (7 : Nat) (Option.none : Option Jvm.ClassFile.FieldType) ∈ gAll := gm 986 rfl rfl
set_option maxRecDepth 100000 in
theorem wd_987 : Jvm.Cond.methodLink "BodySolidsModel" (172 : Nat) ({ cls := "BodySolidsModel", name := "zOf", desc := "(IJ)J" } : Jvm.MethodName) ∈ gAll := gm 987 rfl rfl
set_option maxRecDepth 100000 in
theorem wd_989 : Jvm.Cond.instanceMethod ({ cls := "BodySolidsModel", name := "zOf", desc := "(IJ)J" } : Jvm.MethodName) ∈ gAll := gm 989 rfl rfl
set_option maxRecDepth 100000 in
theorem wd_990 : Jvm.Cond.code ({ cls := "BodySolidsModel", name := "zOf", desc := "(IJ)J" } : Jvm.MethodName) prog_9_method_28_code (4 : Nat) (Option.some Jvm.ClassFile.FieldType.long) ∈ gAll := gm 990 rfl rfl
set_option maxRecDepth 100000 in
theorem wd_991 : Jvm.Cond.constantLong "BodySolidsModel" (176 : Nat) (2 : Int64) ∈ gAll := gm 991 rfl rfl
set_option maxRecDepth 100000 in
theorem wd_992 : Jvm.Cond.methodLink "BodySolidsModel" (178 : Nat) ({ cls := "BodySolidsModel", name := "heights", desc := "(IJJ)V" } : Jvm.MethodName) ∈ gAll := gm 992 rfl rfl
set_option maxRecDepth 100000 in
theorem wd_994 : Jvm.Cond.instanceMethod ({ cls := "BodySolidsModel", name := "heights", desc := "(IJJ)V" } : Jvm.MethodName) ∈ gAll := gm 994 rfl rfl
set_option maxRecDepth 100000 in
theorem wd_995 : Jvm.Cond.code ({ cls := "BodySolidsModel", name := "heights", desc := "(IJJ)V" } : Jvm.MethodName) prog_9_method_29_code (6 : Nat) (Option.none : Option Jvm.ClassFile.FieldType) ∈ gAll := gm 995 rfl rfl
set_option maxRecDepth 100000 in
theorem wd_996 : Jvm.Cond.methodLink "BodySolidsModel" (256 : Nat) ({ cls := "BodySolidsModel", name := "both", desc := "()I" } : Jvm.MethodName) ∈ gAll := gm 996 rfl rfl
set_option maxRecDepth 100000 in
theorem wd_998 : Jvm.Cond.instanceMethod ({ cls := "BodySolidsModel", name := "both", desc := "()I" } : Jvm.MethodName) ∈ gAll := gm 998 rfl rfl
set_option maxRecDepth 100000 in
theorem wd_999 : Jvm.Cond.code ({ cls := "BodySolidsModel", name := "both", desc := "()I" } : Jvm.MethodName) prog_9_method_51_code (6 : Nat) (Option.some Jvm.ClassFile.FieldType.int) ∈ gAll := gm 999 rfl rfl
set_option maxRecDepth 100000 in
theorem wd_1000 : Jvm.Cond.methodLink "BodySolidsModel" (239 : Nat) ({ cls := "BodySolidsModel", name := "tubes", desc := "()I" } : Jvm.MethodName) ∈ gAll := gm 1000 rfl rfl
set_option maxRecDepth 100000 in
theorem wd_1002 : Jvm.Cond.instanceMethod ({ cls := "BodySolidsModel", name := "tubes", desc := "()I" } : Jvm.MethodName) ∈ gAll := gm 1002 rfl rfl
set_option maxRecDepth 100000 in
theorem wd_1003 : Jvm.Cond.code ({ cls := "BodySolidsModel", name := "tubes", desc := "()I" } : Jvm.MethodName) prog_9_method_49_code (13 : Nat) (Option.some Jvm.ClassFile.FieldType.int) ∈ gAll := gm 1003 rfl rfl
set_option maxRecDepth 100000 in
theorem wd_1004 : Jvm.Cond.methodLink "BodySolidsModel" (219 : Nat) ({ cls := "BodySolidsModel", name := "lesser", desc := "(JJ)J" } : Jvm.MethodName) ∈ gAll := gm 1004 rfl rfl
set_option maxRecDepth 100000 in
theorem wd_1005 : Jvm.Cond.static ({ cls := "BodySolidsModel", name := "lesser", desc := "(JJ)J" } : Jvm.MethodName) ∈ gAll := gm 1005 rfl rfl
set_option maxRecDepth 100000 in
theorem wd_1006 : Jvm.Cond.code ({ cls := "BodySolidsModel", name := "lesser", desc := "(JJ)J" } : Jvm.MethodName) prog_9_method_44_code (4 : Nat) (Option.some Jvm.ClassFile.FieldType.long) ∈ gAll := gm 1006 rfl rfl
set_option maxRecDepth 100000 in
theorem wd_1007 : Jvm.Cond.methodLink "BodySolidsModel" (222 : Nat) ({ cls := "BodySolidsModel", name := "greater", desc := "(JJ)J" } : Jvm.MethodName) ∈ gAll := gm 1007 rfl rfl
set_option maxRecDepth 100000 in
theorem wd_1008 : Jvm.Cond.static ({ cls := "BodySolidsModel", name := "greater", desc := "(JJ)J" } : Jvm.MethodName) ∈ gAll := gm 1008 rfl rfl
set_option maxRecDepth 100000 in
theorem wd_1009 : Jvm.Cond.code ({ cls := "BodySolidsModel", name := "greater", desc := "(JJ)J" } : Jvm.MethodName) prog_9_method_45_code (4 : Nat) (Option.some Jvm.ClassFile.FieldType.long) ∈ gAll := gm 1009 rfl rfl
set_option maxRecDepth 100000 in
theorem wd_1010 : Jvm.Cond.methodLink "BodySolidsModel" (231 : Nat) ({ cls := "BodySolidsModel", name := "heightGap", desc := "()J" } : Jvm.MethodName) ∈ gAll := gm 1010 rfl rfl
set_option maxRecDepth 100000 in
theorem wd_1012 : Jvm.Cond.instanceMethod ({ cls := "BodySolidsModel", name := "heightGap", desc := "()J" } : Jvm.MethodName) ∈ gAll := gm 1012 rfl rfl
set_option maxRecDepth 100000 in
theorem wd_1013 : Jvm.Cond.code ({ cls := "BodySolidsModel", name := "heightGap", desc := "()J" } : Jvm.MethodName) prog_9_method_46_code (1 : Nat) (Option.some Jvm.ClassFile.FieldType.long) ∈ gAll := gm 1013 rfl rfl
set_option maxRecDepth 100000 in
theorem wd_1014 : Jvm.Cond.methodLink "BodySolidsModel" (215 : Nat) ({ cls := "BodySolidsModel", name := "gap", desc := "(JJJJ)J" } : Jvm.MethodName) ∈ gAll := gm 1014 rfl rfl
set_option maxRecDepth 100000 in
theorem wd_1015 : Jvm.Cond.static ({ cls := "BodySolidsModel", name := "gap", desc := "(JJJJ)J" } : Jvm.MethodName) ∈ gAll := gm 1015 rfl rfl
set_option maxRecDepth 100000 in
theorem wd_1016 : Jvm.Cond.code ({ cls := "BodySolidsModel", name := "gap", desc := "(JJJJ)J" } : Jvm.MethodName) prog_9_method_43_code (8 : Nat) (Option.some Jvm.ClassFile.FieldType.long) ∈ gAll := gm 1016 rfl rfl
set_option maxRecDepth 100000 in
theorem wd_1017 : Jvm.Cond.methodLink "BodySolidsModel" (225 : Nat) ({ cls := "BodySolidsModel", name := "coreGap", desc := "(IZJJ)J" } : Jvm.MethodName) ∈ gAll := gm 1017 rfl rfl
set_option maxRecDepth 100000 in
theorem wd_1019 : Jvm.Cond.instanceMethod ({ cls := "BodySolidsModel", name := "coreGap", desc := "(IZJJ)J" } : Jvm.MethodName) ∈ gAll := gm 1019 rfl rfl
set_option maxRecDepth 100000 in
theorem wd_1020 : Jvm.Cond.code ({ cls := "BodySolidsModel", name := "coreGap", desc := "(IZJJ)J" } : Jvm.MethodName) prog_9_method_47_code (11 : Nat) (Option.some Jvm.ClassFile.FieldType.long) ∈ gAll := gm 1020 rfl rfl
set_option maxRecDepth 100000 in
theorem wd_1021 : Jvm.Cond.methodLink "BodySolidsModel" (194 : Nat) ({ cls := "BodySolidsModel", name := "square", desc := "(JJ)J" } : Jvm.MethodName) ∈ gAll := gm 1021 rfl rfl
set_option maxRecDepth 100000 in
theorem wd_1022 : Jvm.Cond.static ({ cls := "BodySolidsModel", name := "square", desc := "(JJ)J" } : Jvm.MethodName) ∈ gAll := gm 1022 rfl rfl
set_option maxRecDepth 100000 in
theorem wd_1023 : Jvm.Cond.code ({ cls := "BodySolidsModel", name := "square", desc := "(JJ)J" } : Jvm.MethodName) prog_9_method_35_code (4 : Nat) (Option.some Jvm.ClassFile.FieldType.long) ∈ gAll := gm 1023 rfl rfl
set_option maxRecDepth 100000 in
theorem wd_1024 : Jvm.Cond.methodLink "BodySolidsModel" (186 : Nat) ({ cls := "BodySolidsModel", name := "common", desc := "(J)I" } : Jvm.MethodName) ∈ gAll := gm 1024 rfl rfl
set_option maxRecDepth 100000 in
theorem wd_1025 : Jvm.Cond.static ({ cls := "BodySolidsModel", name := "common", desc := "(J)I" } : Jvm.MethodName) ∈ gAll := gm 1025 rfl rfl
set_option maxRecDepth 100000 in
theorem wd_1026 : Jvm.Cond.code ({ cls := "BodySolidsModel", name := "common", desc := "(J)I" } : Jvm.MethodName) prog_9_method_34_code (2 : Nat) (Option.some Jvm.ClassFile.FieldType.int) ∈ gAll := gm 1026 rfl rfl
set_option maxRecDepth 100000 in
theorem wd_1027 : Jvm.Cond.methodLink "BodySolidsModel" (242 : Nat) ({ cls := "BodySolidsModel", name := "coreAndDisc", desc := "(IJ)I" } : Jvm.MethodName) ∈ gAll := gm 1027 rfl rfl
set_option maxRecDepth 100000 in
theorem wd_1029 : Jvm.Cond.instanceMethod ({ cls := "BodySolidsModel", name := "coreAndDisc", desc := "(IJ)I" } : Jvm.MethodName) ∈ gAll := gm 1029 rfl rfl
set_option maxRecDepth 100000 in
theorem wd_1030 : Jvm.Cond.code ({ cls := "BodySolidsModel", name := "coreAndDisc", desc := "(IJ)I" } : Jvm.MethodName) prog_9_method_48_code (11 : Nat) (Option.some Jvm.ClassFile.FieldType.int) ∈ gAll := gm 1030 rfl rfl
set_option maxRecDepth 100000 in
theorem wd_1031 : Jvm.Cond.constantLong "BodySolidsModel" (229 : Nat) (4 : Int64) ∈ gAll := gm 1031 rfl rfl
set_option maxRecDepth 100000 in
theorem wd_1032 : Jvm.Cond.methodLink "BodySolidsModel" (246 : Nat) ({ cls := "BodySolidsModel", name := "coreAndPolygon", desc := "(IJ)I" } : Jvm.MethodName) ∈ gAll := gm 1032 rfl rfl
set_option maxRecDepth 100000 in
theorem wd_1034 : Jvm.Cond.instanceMethod ({ cls := "BodySolidsModel", name := "coreAndPolygon", desc := "(IJ)I" } : Jvm.MethodName) ∈ gAll := gm 1034 rfl rfl
set_option maxRecDepth 100000 in
theorem wd_1035 : Jvm.Cond.code ({ cls := "BodySolidsModel", name := "coreAndPolygon", desc := "(IJ)I" } : Jvm.MethodName) prog_9_method_42_code (18 : Nat) (Option.some Jvm.ClassFile.FieldType.int) ∈ gAll := gm 1035 rfl rfl
set_option maxRecDepth 100000 in
theorem wd_1036 : Jvm.Cond.methodLink "BodySolidsModel" (208 : Nat) ({ cls := "BodySolidsModel", name := "fromPolygon", desc := "(IJJJ)I" } : Jvm.MethodName) ∈ gAll := gm 1036 rfl rfl
set_option maxRecDepth 100000 in
theorem wd_1038 : Jvm.Cond.instanceMethod ({ cls := "BodySolidsModel", name := "fromPolygon", desc := "(IJJJ)I" } : Jvm.MethodName) ∈ gAll := gm 1038 rfl rfl
set_option maxRecDepth 100000 in
theorem wd_1039 : Jvm.Cond.code ({ cls := "BodySolidsModel", name := "fromPolygon", desc := "(IJJJ)I" } : Jvm.MethodName) prog_9_method_40_code (12 : Nat) (Option.some Jvm.ClassFile.FieldType.int) ∈ gAll := gm 1039 rfl rfl
set_option maxRecDepth 100000 in
theorem wd_1040 : Jvm.Cond.methodLink "BodySolidsModel" (198 : Nat) ({ cls := "BodySolidsModel", name := "isIn", desc := "(IJJ)Z" } : Jvm.MethodName) ∈ gAll := gm 1040 rfl rfl
set_option maxRecDepth 100000 in
theorem wd_1042 : Jvm.Cond.instanceMethod ({ cls := "BodySolidsModel", name := "isIn", desc := "(IJJ)Z" } : Jvm.MethodName) ∈ gAll := gm 1042 rfl rfl
set_option maxRecDepth 100000 in
theorem wd_1043 : Jvm.Cond.code ({ cls := "BodySolidsModel", name := "isIn", desc := "(IJJ)Z" } : Jvm.MethodName) prog_9_method_38_code (12 : Nat) (Option.some Jvm.ClassFile.FieldType.boolean) ∈ gAll := gm 1043 rfl rfl
set_option maxRecDepth 100000 in
theorem wd_1044 : Jvm.Cond.methodLink "BodySolidsModel" (202 : Nat) ({ cls := "BodySolidsModel", name := "fromPiece", desc := "(JJJJJJJ)I" } : Jvm.MethodName) ∈ gAll := gm 1044 rfl rfl
set_option maxRecDepth 100000 in
theorem wd_1045 : Jvm.Cond.static ({ cls := "BodySolidsModel", name := "fromPiece", desc := "(JJJJJJJ)I" } : Jvm.MethodName) ∈ gAll := gm 1045 rfl rfl
set_option maxRecDepth 100000 in
theorem wd_1046 : Jvm.Cond.code ({ cls := "BodySolidsModel", name := "fromPiece", desc := "(JJJJJJJ)I" } : Jvm.MethodName) prog_9_method_39_code (20 : Nat) (Option.some Jvm.ClassFile.FieldType.int) ∈ gAll := gm 1046 rfl rfl
set_option maxRecDepth 100000 in
theorem wd_1047 : Jvm.Cond.methodLink "BodySolidsModel" (212 : Nat) ({ cls := "BodySolidsModel", name := "turn", desc := "(JJJJJJ)J" } : Jvm.MethodName) ∈ gAll := gm 1047 rfl rfl
set_option maxRecDepth 100000 in
theorem wd_1048 : Jvm.Cond.static ({ cls := "BodySolidsModel", name := "turn", desc := "(JJJJJJ)J" } : Jvm.MethodName) ∈ gAll := gm 1048 rfl rfl
set_option maxRecDepth 100000 in
theorem wd_1049 : Jvm.Cond.code ({ cls := "BodySolidsModel", name := "turn", desc := "(JJJJJJ)J" } : Jvm.MethodName) prog_9_method_41_code (14 : Nat) (Option.some Jvm.ClassFile.FieldType.long) ∈ gAll := gm 1049 rfl rfl
set_option maxRecDepth 100000 in
theorem wd_1050 : Jvm.Cond.constantLong "BodySolidsModel" (206 : Nat) (-1 : Int64) ∈ gAll := gm 1050 rfl rfl
set_option maxRecDepth 100000 in
theorem wd_1051 : Jvm.Cond.methodLink "BodySolidsModel" (249 : Nat) ({ cls := "BodySolidsModel", name := "bases", desc := "()I" } : Jvm.MethodName) ∈ gAll := gm 1051 rfl rfl
set_option maxRecDepth 100000 in
theorem wd_1053 : Jvm.Cond.instanceMethod ({ cls := "BodySolidsModel", name := "bases", desc := "()I" } : Jvm.MethodName) ∈ gAll := gm 1053 rfl rfl
set_option maxRecDepth 100000 in
theorem wd_1054 : Jvm.Cond.code ({ cls := "BodySolidsModel", name := "bases", desc := "()I" } : Jvm.MethodName) prog_9_method_50_code (3 : Nat) (Option.some Jvm.ClassFile.FieldType.int) ∈ gAll := gm 1054 rfl rfl
set_option maxRecDepth 100000 in
theorem wd_1055 : Jvm.Cond.methodLink "BodySolidsModel" (235 : Nat) ({ cls := "BodySolidsModel", name := "polygons", desc := "()I" } : Jvm.MethodName) ∈ gAll := gm 1055 rfl rfl
set_option maxRecDepth 100000 in
theorem wd_1057 : Jvm.Cond.instanceMethod ({ cls := "BodySolidsModel", name := "polygons", desc := "()I" } : Jvm.MethodName) ∈ gAll := gm 1057 rfl rfl
set_option maxRecDepth 100000 in
theorem wd_1058 : Jvm.Cond.code ({ cls := "BodySolidsModel", name := "polygons", desc := "()I" } : Jvm.MethodName) prog_9_method_37_code (6 : Nat) (Option.some Jvm.ClassFile.FieldType.int) ∈ gAll := gm 1058 rfl rfl
set_option maxRecDepth 100000 in
theorem wd_1059 : Jvm.Cond.methodLink "BodySolidsModel" (190 : Nat) ({ cls := "BodySolidsModel", name := "along", desc := "(JJ)I" } : Jvm.MethodName) ∈ gAll := gm 1059 rfl rfl
set_option maxRecDepth 100000 in
theorem wd_1061 : Jvm.Cond.instanceMethod ({ cls := "BodySolidsModel", name := "along", desc := "(JJ)I" } : Jvm.MethodName) ∈ gAll := gm 1061 rfl rfl
set_option maxRecDepth 100000 in
theorem wd_1062 : Jvm.Cond.code ({ cls := "BodySolidsModel", name := "along", desc := "(JJ)I" } : Jvm.MethodName) prog_9_method_36_code (16 : Nat) (Option.some Jvm.ClassFile.FieldType.int) ∈ gAll := gm 1062 rfl rfl
set_option maxRecDepth 100000 in
theorem wd_1064 : Jvm.Cond.instanceMethod ({ cls := "BodySolidsModel", name := "clashes", desc := "()I" } : Jvm.MethodName) ∈ gAll := gm 1064 rfl rfl
set_option maxRecDepth 100000 in
theorem wd_1066 : Jvm.Cond.code ({ cls := "BodySolidsModel", name := "clashes", desc := "()I" } : Jvm.MethodName) prog_9_method_54_code (4 : Nat) (Option.some Jvm.ClassFile.FieldType.int) ∈ gAll := gm 1066 rfl rfl
set_option maxRecDepth 100000 in
theorem wd_1068 : Jvm.Cond.instanceMethod ({ cls := "BodySolidsModel", name := "pair", desc := "(II)I" } : Jvm.MethodName) ∈ gAll := gm 1068 rfl rfl
set_option maxRecDepth 100000 in
theorem wd_1070 : Jvm.Cond.code ({ cls := "BodySolidsModel", name := "pair", desc := "(II)I" } : Jvm.MethodName) prog_9_method_55_code (6 : Nat) (Option.some Jvm.ClassFile.FieldType.int) ∈ gAll := gm 1070 rfl rfl
set_option maxRecDepth 100000 in
theorem wd_1072 : Jvm.Cond.instanceMethod ({ cls := "BodySolidsModel", name := "keepOut", desc := "(JJJJIJ)Z" } : Jvm.MethodName) ∈ gAll := gm 1072 rfl rfl
set_option maxRecDepth 100000 in
theorem wd_1074 : Jvm.Cond.code ({ cls := "BodySolidsModel", name := "keepOut", desc := "(JJJJIJ)Z" } : Jvm.MethodName) prog_9_method_57_code (14 : Nat) (Option.some Jvm.ClassFile.FieldType.boolean) ∈ gAll := gm 1074 rfl rfl
set_option maxRecDepth 100000 in
theorem wd_1075 : Jvm.Cond.methodLink "BodySolidsModel" (266 : Nat) ({ cls := "BodySolidsModel", name := "isWide", desc := "(J)Z" } : Jvm.MethodName) ∈ gAll := gm 1075 rfl rfl
set_option maxRecDepth 100000 in
theorem wd_1076 : Jvm.Cond.static ({ cls := "BodySolidsModel", name := "isWide", desc := "(J)Z" } : Jvm.MethodName) ∈ gAll := gm 1076 rfl rfl
set_option maxRecDepth 100000 in
theorem wd_1077 : Jvm.Cond.code ({ cls := "BodySolidsModel", name := "isWide", desc := "(J)Z" } : Jvm.MethodName) prog_9_method_56_code (2 : Nat) (Option.some Jvm.ClassFile.FieldType.boolean) ∈ gAll := gm 1077 rfl rfl
set_option maxRecDepth 100000 in
theorem wd_1078 : Jvm.Cond.constantLong "BodySolidsModel" (262 : Nat) (-20000 : Int64) ∈ gAll := gm 1078 rfl rfl
set_option maxRecDepth 100000 in
theorem wd_1079 : Jvm.Cond.constantLong "BodySolidsModel" (264 : Nat) (20000 : Int64) ∈ gAll := gm 1079 rfl rfl
set_option maxRecDepth 100000 in
theorem wd_1081 : Jvm.Cond.instanceMethod ({ cls := "BodySolidsModel", name := "breaks", desc := "(I)I" } : Jvm.MethodName) ∈ gAll := gm 1081 rfl rfl
set_option maxRecDepth 100000 in
theorem wd_1083 : Jvm.Cond.code ({ cls := "BodySolidsModel", name := "breaks", desc := "(I)I" } : Jvm.MethodName) prog_9_method_59_code (4 : Nat) (Option.some Jvm.ClassFile.FieldType.int) ∈ gAll := gm 1083 rfl rfl
set_option maxRecDepth 100000 in
theorem wd_1084 : Jvm.Cond.methodLink "BodySolidsModel" (276 : Nat) ({ cls := "BodySolidsModel", name := "doesBreak", desc := "(I)Z" } : Jvm.MethodName) ∈ gAll := gm 1084 rfl rfl
set_option maxRecDepth 100000 in
theorem wd_1086 : Jvm.Cond.instanceMethod ({ cls := "BodySolidsModel", name := "doesBreak", desc := "(I)Z" } : Jvm.MethodName) ∈ gAll := gm 1086 rfl rfl
set_option maxRecDepth 100000 in
theorem wd_1087 : Jvm.Cond.code ({ cls := "BodySolidsModel", name := "doesBreak", desc := "(I)Z" } : Jvm.MethodName) prog_9_method_58_code (4 : Nat) (Option.some Jvm.ClassFile.FieldType.boolean) ∈ gAll := gm 1087 rfl rfl
set_option maxRecDepth 100000 in
theorem wd_1088 : Jvm.Cond.methodLink "BodySolidsModel" (272 : Nat) ({ cls := "BodySolidsModel", name := "layOut", desc := "(I)V" } : Jvm.MethodName) ∈ gAll := gm 1088 rfl rfl
set_option maxRecDepth 100000 in
theorem wd_1090 : Jvm.Cond.instanceMethod ({ cls := "BodySolidsModel", name := "layOut", desc := "(I)V" } : Jvm.MethodName) ∈ gAll := gm 1090 rfl rfl
set_option maxRecDepth 100000 in
theorem wd_1091 : Jvm.Cond.code ({ cls := "BodySolidsModel", name := "layOut", desc := "(I)V" } : Jvm.MethodName) prog_9_method_33_code (3 : Nat) (Option.none : Option Jvm.ClassFile.FieldType) ∈ gAll := gm 1091 rfl rfl
set_option maxRecDepth 100000 in
theorem wd_1092 : Jvm.Cond.constantLong "BodySolidsModel" (182 : Nat) (100000 : Int64) ∈ gAll := gm 1092 rfl rfl
set_option maxRecDepth 100000 in
theorem wd_1093 : Jvm.Cond.constantLong "BodySolidsModel" (184 : Nat) (-100000 : Int64) ∈ gAll := gm 1093 rfl rfl
set_option maxRecDepth 100000 in
theorem wd_1095 : Jvm.Cond.instanceMethod ({ cls := "BodySolidsModel", name := "bound", desc := "(II)J" } : Jvm.MethodName) ∈ gAll := gm 1095 rfl rfl
set_option maxRecDepth 100000 in
theorem wd_1097 : Jvm.Cond.code ({ cls := "BodySolidsModel", name := "bound", desc := "(II)J" } : Jvm.MethodName) prog_9_method_61_code (8 : Nat) (Option.some Jvm.ClassFile.FieldType.long) ∈ gAll := gm 1097 rfl rfl
set_option maxRecDepth 100000 in
theorem wd_1098 : Jvm.Cond.methodLink "BodySolidsModel" (279 : Nat) ({ cls := "BodySolidsModel", name := "edge", desc := "(I)J" } : Jvm.MethodName) ∈ gAll := gm 1098 rfl rfl
set_option maxRecDepth 100000 in
theorem wd_1100 : Jvm.Cond.instanceMethod ({ cls := "BodySolidsModel", name := "edge", desc := "(I)J" } : Jvm.MethodName) ∈ gAll := gm 1100 rfl rfl
set_option maxRecDepth 100000 in
theorem wd_1101 : Jvm.Cond.code ({ cls := "BodySolidsModel", name := "edge", desc := "(I)J" } : Jvm.MethodName) prog_9_method_60_code (9 : Nat) (Option.some Jvm.ClassFile.FieldType.long) ∈ gAll := gm 1101 rfl rfl
set_option maxRecDepth 100000 in
theorem wd_1103 : Jvm.Cond.instanceMethod ({ cls := "BodySolidsModel", name := "section", desc := "(JII)J" } : Jvm.MethodName) ∈ gAll := gm 1103 rfl rfl
set_option maxRecDepth 100000 in
theorem wd_1105 : Jvm.Cond.code ({ cls := "BodySolidsModel", name := "section", desc := "(JII)J" } : Jvm.MethodName) prog_9_method_62_code (8 : Nat) (Option.some Jvm.ClassFile.FieldType.long) ∈ gAll := gm 1105 rfl rfl
set_option maxRecDepth 100000 in
theorem wd_1107 : Jvm.Cond.instanceMethod ({ cls := "BodySolidsModel", name := "mass", desc := "(I)J" } : Jvm.MethodName) ∈ gAll := gm 1107 rfl rfl
set_option maxRecDepth 100000 in
theorem wd_1109 : Jvm.Cond.code ({ cls := "BodySolidsModel", name := "mass", desc := "(I)J" } : Jvm.MethodName) prog_9_method_64_code (5 : Nat) (Option.some Jvm.ClassFile.FieldType.long) ∈ gAll := gm 1109 rfl rfl
set_option maxRecDepth 100000 in
theorem wd_1110 : Jvm.Cond.methodLink "BodySolidsModel" (289 : Nat) ({ cls := "BodySolidsModel", name := "volume", desc := "(I)J" } : Jvm.MethodName) ∈ gAll := gm 1110 rfl rfl
set_option maxRecDepth 100000 in
theorem wd_1112 : Jvm.Cond.instanceMethod ({ cls := "BodySolidsModel", name := "volume", desc := "(I)J" } : Jvm.MethodName) ∈ gAll := gm 1112 rfl rfl
set_option maxRecDepth 100000 in
theorem wd_1113 : Jvm.Cond.code ({ cls := "BodySolidsModel", name := "volume", desc := "(I)J" } : Jvm.MethodName) prog_9_method_63_code (10 : Nat) (Option.some Jvm.ClassFile.FieldType.long) ∈ gAll := gm 1113 rfl rfl
set_option maxRecDepth 100000 in
theorem wd_1114 : Jvm.Cond.constantLong "BodySolidsModel" (283 : Nat) (226 : Int64) ∈ gAll := gm 1114 rfl rfl
set_option maxRecDepth 100000 in
theorem wd_1115 : Jvm.Cond.constantLong "BodySolidsModel" (285 : Nat) (710 : Int64) ∈ gAll := gm 1115 rfl rfl
set_option maxRecDepth 100000 in
theorem wd_1116 : Jvm.Cond.constantLong "BodySolidsModel" (287 : Nat) (113 : Int64) ∈ gAll := gm 1116 rfl rfl
