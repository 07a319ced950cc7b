theorem df_0 : ∀ j, j < 10 → defaultValue (t_0 j) = vp_V [.long 0, .null, .null, .null, .null, .null, .int 0, .null, .null, .null] j := by decide +kernel
theorem df_1 : ∀ j, j < 3 → defaultValue (t_1 j) = vp_V [.null, .int 0, .int 0] j := by decide +kernel
theorem df_2 : ∀ j, j < 2 → defaultValue (t_2 j) = vp_V [.null, .int 0] j := by decide +kernel
theorem df_3 : ∀ j, j < 12 → defaultValue (t_3 j) = vp_V [.int 0, .long 0, .long 0, .null, .null, .int 0, .long 0, .long 0, .long 0, .long 0, .long 0, .long 0] j := by decide +kernel
theorem df_4 : ∀ j, j < 2 → defaultValue (t_4 j) = vp_V [.null, .long 0] j := by decide +kernel
theorem df_5 : ∀ j, j < 5 → defaultValue (t_5 j) = vp_V [.null, .long 0, .long 0, .int 0, .int 0] j := by decide +kernel
theorem df_6 : ∀ j, j < 2 → defaultValue (t_6 j) = vp_V [.null, .int 0] j := by decide +kernel
theorem df_7 : ∀ j, j < 27 → defaultValue (t_7 j) = vp_V [.int 0, .long 0, .int 0, .null, .null, .null, .null, .null, .null, .int 0, .null, .null, .int 0, .null, .null, .null, .null, .null, .int 0, .null, .null, .null, .null, .null, .null, .null, .null] j := by decide +kernel
theorem wd_50 : Jvm.Cond.initialized "java/lang/Math" ∈ gAll := gm 50 rfl rfl
theorem wd_69 : Jvm.Cond.initialized "BodySolids$Meeting" ∈ gAll := gm 69 rfl rfl
theorem wd_85 : Jvm.Cond.static ({ cls := "java/lang/Math", name := "max", desc := "(JJ)J" } : Jvm.MethodName) ∈ gAll := gm 85 rfl rfl
theorem wd_86 : Jvm.Cond.code ({ cls := "java/lang/Math", name := "max", desc := "(JJ)J" } : Jvm.MethodName) prog_17_method_66_code (4 : Nat) (Option.some Jvm.ClassFile.FieldType.long) ∈ gAll := gm 86 rfl rfl
theorem wd_377 : Jvm.Cond.static ({ cls := "BodySolids$Meeting", name := "gap", desc := "(JJJJ)J" } : Jvm.MethodName) ∈ gAll := gm 377 rfl rfl
theorem wd_378 : Jvm.Cond.code ({ cls := "BodySolids$Meeting", name := "gap", desc := "(JJJJ)J" } : Jvm.MethodName) prog_5_method_3_code (8 : Nat) (Option.some Jvm.ClassFile.FieldType.long) ∈ gAll := gm 378 rfl rfl
theorem wd_379 : Jvm.Cond.methodLink "BodySolids$Meeting" (68 : Nat) ({ cls := "java/lang/Math", name := "max", desc := "(JJ)J" } : Jvm.MethodName) ∈ gAll := gm 379 rfl rfl
theorem wd_384 : Jvm.Cond.static ({ cls := "BodySolids$Meeting", name := "sign", desc := "(J)I" } : Jvm.MethodName) ∈ gAll := gm 384 rfl rfl
theorem wd_385 : Jvm.Cond.code ({ cls := "BodySolids$Meeting", name := "sign", desc := "(J)I" } : Jvm.MethodName) prog_5_method_4_code (2 : Nat) (Option.some Jvm.ClassFile.FieldType.int) ∈ gAll := gm 385 rfl rfl
theorem wd_398 : Jvm.Cond.static ({ cls := "BodySolids$Meeting", name := "squareIfAbove", desc := "(J)J" } : Jvm.MethodName) ∈ gAll := gm 398 rfl rfl
theorem wd_399 : Jvm.Cond.code ({ cls := "BodySolids$Meeting", name := "squareIfAbove", desc := "(J)J" } : Jvm.MethodName) prog_5_method_5_code (2 : Nat) (Option.some Jvm.ClassFile.FieldType.long) ∈ gAll := gm 399 rfl rfl
