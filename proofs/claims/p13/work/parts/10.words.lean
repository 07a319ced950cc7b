theorem df_0 : ∀ j, j < 10 → defaultValue (t_0 j) = vp_V [.long 0, .null, .null, .null, .null, .null, .int 0, .null, .null, .null] j := by decide +kernel
theorem df_1 : ∀ j, j < 3 → defaultValue (t_1 j) = vp_V [.null, .int 0, .int 0] j := by decide +kernel
theorem df_2 : ∀ j, j < 2 → defaultValue (t_2 j) = vp_V [.null, .int 0] j := by decide +kernel
theorem df_3 : ∀ j, j < 12 → defaultValue (t_3 j) = vp_V [.int 0, .long 0, .long 0, .null, .null, .int 0, .long 0, .long 0, .long 0, .long 0, .long 0, .long 0] j := by decide +kernel
theorem df_4 : ∀ j, j < 2 → defaultValue (t_4 j) = vp_V [.null, .long 0] j := by decide +kernel
theorem df_5 : ∀ j, j < 5 → defaultValue (t_5 j) = vp_V [.null, .long 0, .long 0, .int 0, .int 0] j := by decide +kernel
theorem df_6 : ∀ j, j < 2 → defaultValue (t_6 j) = vp_V [.null, .int 0] j := by decide +kernel
theorem df_7 : ∀ j, j < 27 → defaultValue (t_7 j) = vp_V [.int 0, .long 0, .int 0, .null, .null, .null, .null, .null, .null, .int 0, .null, .null, .int 0, .null, .null, .null, .null, .null, .int 0, .null, .null, .null, .null, .null, .null, .null, .null] j := by decide +kernel
set_option maxRecDepth 100000 in
theorem wd_0 : Cond.selects "BodySolids" ⟨"BodySolids", "addBody", "(LBodySolids$Body;)I"⟩ ⟨"BodySolids", "addBody", "(LBodySolids$Body;)I"⟩ ∈ gAll := gm 0 rfl rfl
set_option maxRecDepth 100000 in
theorem wd_1 : Cond.selects "java/util/ArrayList" ⟨"java/util/ArrayList", "add", "(Ljava/lang/Object;[Ljava/lang/Object;I)V"⟩ ⟨"java/util/ArrayList", "add", "(Ljava/lang/Object;[Ljava/lang/Object;I)V"⟩ ∈ gAll := gm 1 rfl rfl
set_option maxRecDepth 100000 in
theorem wd_2 : Cond.selects "java/util/ArrayList" ⟨"java/util/ArrayList", "grow", "()[Ljava/lang/Object;"⟩ ⟨"java/util/ArrayList", "grow", "()[Ljava/lang/Object;"⟩ ∈ gAll := gm 2 rfl rfl
set_option maxRecDepth 100000 in
theorem wd_3 : Cond.selects "java/util/ArrayList" ⟨"java/util/ArrayList", "grow", "(I)[Ljava/lang/Object;"⟩ ⟨"java/util/ArrayList", "grow", "(I)[Ljava/lang/Object;"⟩ ∈ gAll := gm 3 rfl rfl
set_option maxRecDepth 100000 in
theorem wd_4 : Cond.selects "BodySolids" ⟨"BodySolids", "relation", "(II)I"⟩ ⟨"BodySolids", "relation", "(II)I"⟩ ∈ gAll := gm 4 rfl rfl
set_option maxRecDepth 100000 in
theorem wd_5 : Cond.selects "BodySolids" ⟨"BodySolids", "relationOfLayouts", "()I"⟩ ⟨"BodySolids", "relationOfLayouts", "()I"⟩ ∈ gAll := gm 5 rfl rfl
set_option maxRecDepth 100000 in
theorem wd_7 : Cond.selects "BodySolids" ⟨"BodySolids", "bodyAt", "(I)LBodySolids$Body;"⟩ ⟨"BodySolids", "bodyAt", "(I)LBodySolids$Body;"⟩ ∈ gAll := gm 7 rfl rfl
set_option maxRecDepth 100000 in
theorem wd_9 : Cond.selects "BodySolids" ⟨"BodySolids", "forgetRelationsOf", "(LBodySolids$Body;)V"⟩ ⟨"BodySolids", "forgetRelationsOf", "(LBodySolids$Body;)V"⟩ ∈ gAll := gm 9 rfl rfl
set_option maxRecDepth 100000 in
theorem wd_10 : Cond.selects "BodySolids" ⟨"BodySolids", "forgetRelationsAt", "(I)V"⟩ ⟨"BodySolids", "forgetRelationsAt", "(I)V"⟩ ∈ gAll := gm 10 rfl rfl
set_option maxRecDepth 100000 in
theorem wd_11 : Cond.selects "BodySolids" ⟨"BodySolids", "cornersMakePolygon", "()Z"⟩ ⟨"BodySolids", "cornersMakePolygon", "()Z"⟩ ∈ gAll := gm 11 rfl rfl
set_option maxRecDepth 100000 in
theorem wd_12 : Cond.selects "BodySolids" ⟨"BodySolids", "othersLieLeftOfSide", "(II)Z"⟩ ⟨"BodySolids", "othersLieLeftOfSide", "(II)Z"⟩ ∈ gAll := gm 12 rfl rfl
set_option maxRecDepth 100000 in
theorem wd_13 : Cond.selects "BodySolids" ⟨"BodySolids", "turnAt", "(III)J"⟩ ⟨"BodySolids", "turnAt", "(III)J"⟩ ∈ gAll := gm 13 rfl rfl
set_option maxRecDepth 100000 in
theorem wd_14 : Cond.selects "BodySolids" ⟨"BodySolids", "twiceAreaOfCorners", "()J"⟩ ⟨"BodySolids", "twiceAreaOfCorners", "()J"⟩ ∈ gAll := gm 14 rfl rfl
set_option maxRecDepth 100000 in
theorem wd_17 : Cond.selects "BodySolidsModel" ⟨"BodySolidsModel", "isBody", "(I)Z"⟩ ⟨"BodySolidsModel", "isBody", "(I)Z"⟩ ∈ gAll := gm 17 rfl rfl
set_option maxRecDepth 100000 in
theorem wd_18 : Cond.selects "BodySolidsModel" ⟨"BodySolidsModel", "fresh", "(II)I"⟩ ⟨"BodySolidsModel", "fresh", "(II)I"⟩ ∈ gAll := gm 18 rfl rfl
set_option maxRecDepth 100000 in
theorem wd_19 : Cond.selects "BodySolidsModel" ⟨"BodySolidsModel", "tell", "(IIJ)V"⟩ ⟨"BodySolidsModel", "tell", "(IIJ)V"⟩ ∈ gAll := gm 19 rfl rfl
set_option maxRecDepth 100000 in
theorem wd_20 : Cond.selects "BodySolidsModel" ⟨"BodySolidsModel", "isRound", "()Z"⟩ ⟨"BodySolidsModel", "isRound", "()Z"⟩ ∈ gAll := gm 20 rfl rfl
set_option maxRecDepth 100000 in
theorem wd_21 : Cond.selects "BodySolidsModel" ⟨"BodySolidsModel", "copy", "(II)V"⟩ ⟨"BodySolidsModel", "copy", "(II)V"⟩ ∈ gAll := gm 21 rfl rfl
set_option maxRecDepth 100000 in
theorem wd_22 : Cond.selects "BodySolidsModel" ⟨"BodySolidsModel", "set", "(IJJII)V"⟩ ⟨"BodySolidsModel", "set", "(IJJII)V"⟩ ∈ gAll := gm 22 rfl rfl
set_option maxRecDepth 100000 in
theorem wd_24 : Cond.selects "BodySolidsModel" ⟨"BodySolidsModel", "meet", "(II)I"⟩ ⟨"BodySolidsModel", "meet", "(II)I"⟩ ∈ gAll := gm 24 rfl rfl
set_option maxRecDepth 100000 in
theorem wd_25 : Cond.selects "BodySolidsModel" ⟨"BodySolidsModel", "lay", "(III)V"⟩ ⟨"BodySolidsModel", "lay", "(III)V"⟩ ∈ gAll := gm 25 rfl rfl
set_option maxRecDepth 100000 in
theorem wd_26 : Cond.selects "BodySolidsModel" ⟨"BodySolidsModel", "of", "(II)J"⟩ ⟨"BodySolidsModel", "of", "(II)J"⟩ ∈ gAll := gm 26 rfl rfl
set_option maxRecDepth 100000 in
theorem wd_27 : Cond.selects "BodySolidsModel" ⟨"BodySolidsModel", "spot", "(IIIJJ)V"⟩ ⟨"BodySolidsModel", "spot", "(IIIJJ)V"⟩ ∈ gAll := gm 27 rfl rfl
set_option maxRecDepth 100000 in
theorem wd_28 : Cond.selects "BodySolidsModel" ⟨"BodySolidsModel", "xOf", "(IJJ)J"⟩ ⟨"BodySolidsModel", "xOf", "(IJJ)J"⟩ ∈ gAll := gm 28 rfl rfl
set_option maxRecDepth 100000 in
theorem wd_29 : Cond.selects "BodySolidsModel" ⟨"BodySolidsModel", "yOf", "(IJJ)J"⟩ ⟨"BodySolidsModel", "yOf", "(IJJ)J"⟩ ∈ gAll := gm 29 rfl rfl
set_option maxRecDepth 100000 in
theorem wd_30 : Cond.selects "BodySolidsModel" ⟨"BodySolidsModel", "point", "(IIJJ)V"⟩ ⟨"BodySolidsModel", "point", "(IIJJ)V"⟩ ∈ gAll := gm 30 rfl rfl
set_option maxRecDepth 100000 in
theorem wd_31 : Cond.selects "BodySolidsModel" ⟨"BodySolidsModel", "zOf", "(IJ)J"⟩ ⟨"BodySolidsModel", "zOf", "(IJ)J"⟩ ∈ gAll := gm 31 rfl rfl
set_option maxRecDepth 100000 in
theorem wd_32 : Cond.selects "BodySolidsModel" ⟨"BodySolidsModel", "heights", "(IJJ)V"⟩ ⟨"BodySolidsModel", "heights", "(IJJ)V"⟩ ∈ gAll := gm 32 rfl rfl
set_option maxRecDepth 100000 in
theorem wd_33 : Cond.selects "BodySolidsModel" ⟨"BodySolidsModel", "both", "()I"⟩ ⟨"BodySolidsModel", "both", "()I"⟩ ∈ gAll := gm 33 rfl rfl
set_option maxRecDepth 100000 in
theorem wd_34 : Cond.selects "BodySolidsModel" ⟨"BodySolidsModel", "tubes", "()I"⟩ ⟨"BodySolidsModel", "tubes", "()I"⟩ ∈ gAll := gm 34 rfl rfl
set_option maxRecDepth 100000 in
theorem wd_35 : Cond.selects "BodySolidsModel" ⟨"BodySolidsModel", "heightGap", "()J"⟩ ⟨"BodySolidsModel", "heightGap", "()J"⟩ ∈ gAll := gm 35 rfl rfl
set_option maxRecDepth 100000 in
theorem wd_36 : Cond.selects "BodySolidsModel" ⟨"BodySolidsModel", "coreGap", "(IZJJ)J"⟩ ⟨"BodySolidsModel", "coreGap", "(IZJJ)J"⟩ ∈ gAll := gm 36 rfl rfl
set_option maxRecDepth 100000 in
theorem wd_37 : Cond.selects "BodySolidsModel" ⟨"BodySolidsModel", "coreAndDisc", "(IJ)I"⟩ ⟨"BodySolidsModel", "coreAndDisc", "(IJ)I"⟩ ∈ gAll := gm 37 rfl rfl
set_option maxRecDepth 100000 in
theorem wd_38 : Cond.selects "BodySolidsModel" ⟨"BodySolidsModel", "coreAndPolygon", "(IJ)I"⟩ ⟨"BodySolidsModel", "coreAndPolygon", "(IJ)I"⟩ ∈ gAll := gm 38 rfl rfl
set_option maxRecDepth 100000 in
theorem wd_39 : Cond.selects "BodySolidsModel" ⟨"BodySolidsModel", "fromPolygon", "(IJJJ)I"⟩ ⟨"BodySolidsModel", "fromPolygon", "(IJJJ)I"⟩ ∈ gAll := gm 39 rfl rfl
set_option maxRecDepth 100000 in
theorem wd_40 : Cond.selects "BodySolidsModel" ⟨"BodySolidsModel", "isIn", "(IJJ)Z"⟩ ⟨"BodySolidsModel", "isIn", "(IJJ)Z"⟩ ∈ gAll := gm 40 rfl rfl
set_option maxRecDepth 100000 in
theorem wd_41 : Cond.selects "BodySolidsModel" ⟨"BodySolidsModel", "bases", "()I"⟩ ⟨"BodySolidsModel", "bases", "()I"⟩ ∈ gAll := gm 41 rfl rfl
set_option maxRecDepth 100000 in
theorem wd_42 : Cond.selects "BodySolidsModel" ⟨"BodySolidsModel", "polygons", "()I"⟩ ⟨"BodySolidsModel", "polygons", "()I"⟩ ∈ gAll := gm 42 rfl rfl
set_option maxRecDepth 100000 in
theorem wd_43 : Cond.selects "BodySolidsModel" ⟨"BodySolidsModel", "along", "(JJ)I"⟩ ⟨"BodySolidsModel", "along", "(JJ)I"⟩ ∈ gAll := gm 43 rfl rfl
set_option maxRecDepth 100000 in
theorem wd_48 : Jvm.Cond.initialized "BodySolidsLaw" ∈ gAll := gm 48 rfl rfl
set_option maxRecDepth 100000 in
theorem wd_49 : Jvm.Cond.initialized "BodySolids" ∈ gAll := gm 49 rfl rfl
set_option maxRecDepth 100000 in
theorem wd_50 : Jvm.Cond.initialized "java/lang/Math" ∈ gAll := gm 50 rfl rfl
set_option maxRecDepth 100000 in
theorem wd_51 : Jvm.Cond.initialized "java/util/AbstractCollection" ∈ gAll := gm 51 rfl rfl
set_option maxRecDepth 100000 in
theorem wd_52 : Jvm.Cond.initialized "java/util/AbstractList" ∈ gAll := gm 52 rfl rfl
set_option maxRecDepth 100000 in
theorem wd_53 : Jvm.Cond.initialized "java/util/ArrayList" ∈ gAll := gm 53 rfl rfl
set_option maxRecDepth 100000 in
theorem wd_54 : Jvm.Cond.initialized "java/util/Arrays" ∈ gAll := gm 54 rfl rfl
set_option maxRecDepth 100000 in
theorem wd_55 : Jvm.Cond.initialized "BodySolids$Layout" ∈ gAll := gm 55 rfl rfl
set_option maxRecDepth 100000 in
theorem wd_56 : Jvm.Cond.initialized "BodySolids$Solid" ∈ gAll := gm 56 rfl rfl
set_option maxRecDepth 100000 in
theorem wd_57 : Jvm.Cond.initialized "BodySolidsModel" ∈ gAll := gm 57 rfl rfl
set_option maxRecDepth 100000 in
theorem wd_58 : Jvm.Cond.initialized "BodySolids$Body" ∈ gAll := gm 58 rfl rfl
set_option maxRecDepth 100000 in
theorem wd_59 : Jvm.Cond.initialized "jdk/internal/util/ArraysSupport" ∈ gAll := gm 59 rfl rfl
set_option maxRecDepth 100000 in
theorem wd_60 : Jvm.Cond.initialized "java/lang/System" ∈ gAll := gm 60 rfl rfl
set_option maxRecDepth 100000 in
theorem wd_64 : Jvm.Cond.initialized "java/lang/IndexOutOfBoundsException" ∈ gAll := gm 64 rfl rfl
set_option maxRecDepth 100000 in
theorem wd_65 : Jvm.Cond.initialized "java/util/Objects" ∈ gAll := gm 65 rfl rfl
set_option maxRecDepth 100000 in
theorem wd_66 : Jvm.Cond.initialized "jdk/internal/util/Preconditions" ∈ gAll := gm 66 rfl rfl
set_option maxRecDepth 100000 in
theorem wd_67 : Jvm.Cond.initialized "java/lang/IllegalArgumentException" ∈ gAll := gm 67 rfl rfl
set_option maxRecDepth 100000 in
theorem wd_68 : Jvm.Cond.initialized "BodySolids$Placement" ∈ gAll := gm 68 rfl rfl
set_option maxRecDepth 100000 in
theorem wd_69 : Jvm.Cond.initialized "BodySolids$Meeting" ∈ gAll := gm 69 rfl rfl
set_option maxRecDepth 100000 in
theorem wd_73 : Jvm.Cond.instantiable "BodySolids" (10 : Nat) ∈ gAll := gm 73 rfl rfl
set_option maxRecDepth 100000 in
theorem wd_75 : Jvm.Cond.instanceMethod ({ cls := "BodySolids", name := "<init>", desc := "(J)V" } : Jvm.MethodName) ∈ gAll := gm 75 rfl rfl
set_option maxRecDepth 100000 in
theorem wd_76 : Jvm.Cond.code ({ cls := "BodySolids", name := "<init>", desc := "(J)V" } : Jvm.MethodName) prog_1_method_1_code (3 : Nat) (Option.none : Option Jvm.ClassFile.FieldType) ∈ gAll := gm 76 rfl rfl
set_option maxRecDepth 100000 in
theorem wd_77 : Jvm.Cond.methodLink "BodySolids" (1 : Nat) ({ cls := "java/lang/Object", name := "<init>", desc := "()V" } : Jvm.MethodName) ∈ gAll := gm 77 rfl rfl
set_option maxRecDepth 100000 in
theorem wd_78 : Jvm.Cond.instanceMethod ({ cls := "java/lang/Object", name := "<init>", desc := "()V" } : Jvm.MethodName) ∈ gAll := gm 78 rfl rfl
set_option maxRecDepth 100000 in
theorem wd_79 : Jvm.Cond.code ({ cls := "java/lang/Object", name := "<init>", desc := "()V" } : Jvm.MethodName) object_method_1_code (1 : Nat) (Option.none : Option Jvm.ClassFile.FieldType) ∈ gAll := gm 79 rfl rfl
set_option maxRecDepth 100000 in
theorem wd_80 : Jvm.Cond.constantLong "BodySolids" (9 : Nat) (1000 : Int64) ∈ gAll := gm 80 rfl rfl
set_option maxRecDepth 100000 in
theorem wd_81 : Jvm.Cond.methodLink "BodySolids" (11 : Nat) ({ cls := "java/lang/Math", name := "min", desc := "(JJ)J" } : Jvm.MethodName) ∈ gAll := gm 81 rfl rfl
set_option maxRecDepth 100000 in
theorem wd_82 : Jvm.Cond.static ({ cls := "java/lang/Math", name := "min", desc := "(JJ)J" } : Jvm.MethodName) ∈ gAll := gm 82 rfl rfl
set_option maxRecDepth 100000 in
theorem wd_83 : Jvm.Cond.code ({ cls := "java/lang/Math", name := "min", desc := "(JJ)J" } : Jvm.MethodName) prog_17_method_70_code (4 : Nat) (Option.some Jvm.ClassFile.FieldType.long) ∈ gAll := gm 83 rfl rfl
set_option maxRecDepth 100000 in
theorem wd_84 : Jvm.Cond.methodLink "BodySolids" (17 : Nat) ({ cls := "java/lang/Math", name := "max", desc := "(JJ)J" } : Jvm.MethodName) ∈ gAll := gm 84 rfl rfl
set_option maxRecDepth 100000 in
theorem wd_85 : Jvm.Cond.static ({ cls := "java/lang/Math", name := "max", desc := "(JJ)J" } : Jvm.MethodName) ∈ gAll := gm 85 rfl rfl
set_option maxRecDepth 100000 in
theorem wd_86 : Jvm.Cond.code ({ cls := "java/lang/Math", name := "max", desc := "(JJ)J" } : Jvm.MethodName) prog_17_method_66_code (4 : Nat) (Option.some Jvm.ClassFile.FieldType.long) ∈ gAll := gm 86 rfl rfl
set_option maxRecDepth 100000 in
theorem wd_87 : Jvm.Cond.classLink "BodySolids" (24 : Nat) "java/util/ArrayList" ∈ gAll := gm 87 rfl rfl
set_option maxRecDepth 100000 in
theorem wd_88 : Jvm.Cond.instantiable "java/util/ArrayList" (3 : Nat) ∈ gAll := gm 88 rfl rfl
set_option maxRecDepth 100000 in
theorem wd_89 : Jvm.Cond.methodLink "BodySolids" (26 : Nat) ({ cls := "java/util/ArrayList", name := "<init>", desc := "()V" } : Jvm.MethodName) ∈ gAll := gm 89 rfl rfl
set_option maxRecDepth 100000 in
theorem wd_90 : Jvm.Cond.instanceMethod ({ cls := "java/util/ArrayList", name := "<init>", desc := "()V" } : Jvm.MethodName) ∈ gAll := gm 90 rfl rfl
set_option maxRecDepth 100000 in
theorem wd_91 : Jvm.Cond.code ({ cls := "java/util/ArrayList", name := "<init>", desc := "()V" } : Jvm.MethodName) prog_24_method_2_code (1 : Nat) (Option.none : Option Jvm.ClassFile.FieldType) ∈ gAll := gm 91 rfl rfl
set_option maxRecDepth 100000 in
theorem wd_92 : Jvm.Cond.methodLink "java/util/ArrayList" (1 : Nat) ({ cls := "java/util/AbstractList", name := "<init>", desc := "()V" } : Jvm.MethodName) ∈ gAll := gm 92 rfl rfl
set_option maxRecDepth 100000 in
theorem wd_93 : Jvm.Cond.instanceMethod ({ cls := "java/util/AbstractList", name := "<init>", desc := "()V" } : Jvm.MethodName) ∈ gAll := gm 93 rfl rfl
set_option maxRecDepth 100000 in
theorem wd_94 : Jvm.Cond.code ({ cls := "java/util/AbstractList", name := "<init>", desc := "()V" } : Jvm.MethodName) prog_23_method_1_code (1 : Nat) (Option.none : Option Jvm.ClassFile.FieldType) ∈ gAll := gm 94 rfl rfl
set_option maxRecDepth 100000 in
theorem wd_95 : Jvm.Cond.methodLink "java/util/AbstractList" (1 : Nat) ({ cls := "java/util/AbstractCollection", name := "<init>", desc := "()V" } : Jvm.MethodName) ∈ gAll := gm 95 rfl rfl
set_option maxRecDepth 100000 in
theorem wd_96 : Jvm.Cond.instanceMethod ({ cls := "java/util/AbstractCollection", name := "<init>", desc := "()V" } : Jvm.MethodName) ∈ gAll := gm 96 rfl rfl
set_option maxRecDepth 100000 in
theorem wd_97 : Jvm.Cond.code ({ cls := "java/util/AbstractCollection", name := "<init>", desc := "()V" } : Jvm.MethodName) prog_22_method_1_code (1 : Nat) (Option.none : Option Jvm.ClassFile.FieldType) ∈ gAll := gm 97 rfl rfl
set_option maxRecDepth 100000 in
theorem wd_98 : Jvm.Cond.methodLink "java/util/AbstractCollection" (1 : Nat) ({ cls := "java/lang/Object", name := "<init>", desc := "()V" } : Jvm.MethodName) ∈ gAll := gm 98 rfl rfl
set_option maxRecDepth 100000 in
theorem wd_99 : Jvm.Cond.fieldLink "java/util/ArrayList" (39 : Nat) "java/util/ArrayList" "DEFAULTCAPACITY_EMPTY_ELEMENTDATA" "[Ljava/lang/Object;" ∈ gAll := gm 99 rfl rfl
set_option maxRecDepth 100000 in
theorem wd_101 : Jvm.Cond.fieldLink "java/util/ArrayList" (9 : Nat) "java/util/ArrayList" "elementData" "[Ljava/lang/Object;" ∈ gAll := gm 101 rfl rfl
set_option maxRecDepth 100000 in
theorem wd_102 : Jvm.Cond.fieldLink "java/util/ArrayList" (48 : Nat) "java/util/ArrayList" "size" "I" ∈ gAll := gm 102 rfl rfl
set_option maxRecDepth 100000 in
theorem wd_103 : Jvm.Cond.fieldLink "java/util/AbstractList" (7 : Nat) "java/util/AbstractList" "modCount" "I" ∈ gAll := gm 103 rfl rfl
set_option maxRecDepth 100000 in
theorem wd_104 : Jvm.Cond.fieldLink "java/util/ArrayList" (63 : Nat) "java/util/ArrayList" "modCount" "I" ∈ gAll := gm 104 rfl rfl
set_option maxRecDepth 100000 in
theorem wd_105 : Jvm.Cond.sameField "java/util/ArrayList" "java/util/AbstractList" "modCount" "I" ∈ gAll := gm 105 rfl rfl
set_option maxRecDepth 100000 in
theorem wd_113 : Jvm.Cond.methodLink "BodySolids" (52 : Nat) ({ cls := "java/util/Arrays", name := "fill", desc := "([II)V" } : Jvm.MethodName) ∈ gAll := gm 113 rfl rfl
set_option maxRecDepth 100000 in
theorem wd_114 : Jvm.Cond.static ({ cls := "java/util/Arrays", name := "fill", desc := "([II)V" } : Jvm.MethodName) ∈ gAll := gm 114 rfl rfl
set_option maxRecDepth 100000 in
theorem wd_115 : Jvm.Cond.code ({ cls := "java/util/Arrays", name := "fill", desc := "([II)V" } : Jvm.MethodName) prog_25_method_103_code (4 : Nat) (Option.none : Option Jvm.ClassFile.FieldType) ∈ gAll := gm 115 rfl rfl
set_option maxRecDepth 100000 in
theorem wd_116 : Jvm.Cond.classLink "BodySolids" (58 : Nat) "BodySolids$Layout" ∈ gAll := gm 116 rfl rfl
set_option maxRecDepth 100000 in
theorem wd_117 : Jvm.Cond.instantiable "BodySolids$Layout" (2 : Nat) ∈ gAll := gm 117 rfl rfl
set_option maxRecDepth 100000 in
theorem wd_118 : Jvm.Cond.methodLink "BodySolids" (60 : Nat) ({ cls := "BodySolids$Layout", name := "<init>", desc := "()V" } : Jvm.MethodName) ∈ gAll := gm 118 rfl rfl
set_option maxRecDepth 100000 in
theorem wd_119 : Jvm.Cond.instanceMethod ({ cls := "BodySolids$Layout", name := "<init>", desc := "()V" } : Jvm.MethodName) ∈ gAll := gm 119 rfl rfl
set_option maxRecDepth 100000 in
theorem wd_120 : Jvm.Cond.code ({ cls := "BodySolids$Layout", name := "<init>", desc := "()V" } : Jvm.MethodName) prog_4_method_1_code (2 : Nat) (Option.none : Option Jvm.ClassFile.FieldType) ∈ gAll := gm 120 rfl rfl
set_option maxRecDepth 100000 in
theorem wd_121 : Jvm.Cond.methodLink "BodySolids$Layout" (3 : Nat) ({ cls := "java/lang/Object", name := "<init>", desc := "()V" } : Jvm.MethodName) ∈ gAll := gm 121 rfl rfl
set_option maxRecDepth 100000 in
theorem wd_122 : Jvm.Cond.classLink "BodySolids$Layout" (9 : Nat) "BodySolids$Solid" ∈ gAll := gm 122 rfl rfl
set_option maxRecDepth 100000 in
theorem wd_123 : Jvm.Cond.arrayOver (Jvm.ClassFile.FieldType.object "BodySolids$Solid") ∈ gAll := gm 123 rfl rfl
set_option maxRecDepth 100000 in
theorem wd_124 : Jvm.Cond.instantiable "BodySolids$Solid" (12 : Nat) ∈ gAll := gm 124 rfl rfl
set_option maxRecDepth 100000 in
theorem wd_125 : Jvm.Cond.methodLinkNest "BodySolids$Layout" (21 : Nat) ({ cls := "BodySolids$Solid", name := "<init>", desc := "()V" } : Jvm.MethodName) "BodySolids" ∈ gAll := gm 125 rfl rfl
set_option maxRecDepth 100000 in
theorem wd_126 : Jvm.Cond.instanceMethod ({ cls := "BodySolids$Solid", name := "<init>", desc := "()V" } : Jvm.MethodName) ∈ gAll := gm 126 rfl rfl
set_option maxRecDepth 100000 in
theorem wd_127 : Jvm.Cond.code ({ cls := "BodySolids$Solid", name := "<init>", desc := "()V" } : Jvm.MethodName) prog_7_method_1_code (1 : Nat) (Option.none : Option Jvm.ClassFile.FieldType) ∈ gAll := gm 127 rfl rfl
set_option maxRecDepth 100000 in
theorem wd_128 : Jvm.Cond.methodLink "BodySolids$Solid" (3 : Nat) ({ cls := "java/lang/Object", name := "<init>", desc := "()V" } : Jvm.MethodName) ∈ gAll := gm 128 rfl rfl
set_option maxRecDepth 100000 in
theorem wd_129 : Jvm.Cond.fieldLink "BodySolids$Solid" (18 : Nat) "BodySolids$Solid" "kind" "I" ∈ gAll := gm 129 rfl rfl
set_option maxRecDepth 100000 in
theorem wd_130 : Jvm.Cond.fieldLink "BodySolids$Meeting" (71 : Nat) "BodySolids$Solid" "kind" "I" ∈ gAll := gm 130 rfl rfl
set_option maxRecDepth 100000 in
theorem wd_131 : Jvm.Cond.fieldLink "BodySolids$Meeting" (9 : Nat) "BodySolids$Solid" "flat" "J" ∈ gAll := gm 131 rfl rfl
set_option maxRecDepth 100000 in
theorem wd_132 : Jvm.Cond.fieldLink "BodySolids$Solid" (22 : Nat) "BodySolids$Solid" "flat" "J" ∈ gAll := gm 132 rfl rfl
set_option maxRecDepth 100000 in
theorem wd_133 : Jvm.Cond.fieldLink "BodySolids$Meeting" (15 : Nat) "BodySolids$Solid" "round" "J" ∈ gAll := gm 133 rfl rfl
set_option maxRecDepth 100000 in
theorem wd_134 : Jvm.Cond.fieldLink "BodySolids$Solid" (26 : Nat) "BodySolids$Solid" "round" "J" ∈ gAll := gm 134 rfl rfl
set_option maxRecDepth 100000 in
theorem wd_135 : Jvm.Cond.fieldLink "BodySolids$Solid" (9 : Nat) "BodySolids$Solid" "xs" "[J" ∈ gAll := gm 135 rfl rfl
set_option maxRecDepth 100000 in
theorem wd_136 : Jvm.Cond.fieldLink "BodySolids$Meeting" (81 : Nat) "BodySolids$Solid" "xs" "[J" ∈ gAll := gm 136 rfl rfl
set_option maxRecDepth 100000 in
theorem wd_137 : Jvm.Cond.fieldLink "BodySolids$Solid" (15 : Nat) "BodySolids$Solid" "ys" "[J" ∈ gAll := gm 137 rfl rfl
set_option maxRecDepth 100000 in
theorem wd_138 : Jvm.Cond.fieldLink "BodySolids$Meeting" (85 : Nat) "BodySolids$Solid" "ys" "[J" ∈ gAll := gm 138 rfl rfl
set_option maxRecDepth 100000 in
theorem wd_139 : Jvm.Cond.fieldLink "BodySolids$Solid" (29 : Nat) "BodySolids$Solid" "corners" "I" ∈ gAll := gm 139 rfl rfl
set_option maxRecDepth 100000 in
theorem wd_140 : Jvm.Cond.fieldLink "BodySolids$Meeting" (78 : Nat) "BodySolids$Solid" "corners" "I" ∈ gAll := gm 140 rfl rfl
set_option maxRecDepth 100000 in
theorem wd_141 : Jvm.Cond.fieldLink "BodySolids$Meeting" (18 : Nat) "BodySolids$Solid" "x0" "J" ∈ gAll := gm 141 rfl rfl
set_option maxRecDepth 100000 in
theorem wd_142 : Jvm.Cond.fieldLink "BodySolids$Solid" (32 : Nat) "BodySolids$Solid" "x0" "J" ∈ gAll := gm 142 rfl rfl
set_option maxRecDepth 100000 in
theorem wd_143 : Jvm.Cond.fieldLink "BodySolids$Meeting" (30 : Nat) "BodySolids$Solid" "y0" "J" ∈ gAll := gm 143 rfl rfl
set_option maxRecDepth 100000 in
theorem wd_144 : Jvm.Cond.fieldLink "BodySolids$Solid" (41 : Nat) "BodySolids$Solid" "y0" "J" ∈ gAll := gm 144 rfl rfl
set_option maxRecDepth 100000 in
theorem wd_145 : Jvm.Cond.fieldLink "BodySolids$Meeting" (36 : Nat) "BodySolids$Solid" "z0" "J" ∈ gAll := gm 145 rfl rfl
set_option maxRecDepth 100000 in
theorem wd_146 : Jvm.Cond.fieldLink "BodySolids$Solid" (57 : Nat) "BodySolids$Solid" "z0" "J" ∈ gAll := gm 146 rfl rfl
set_option maxRecDepth 100000 in
theorem wd_147 : Jvm.Cond.fieldLink "BodySolids$Meeting" (21 : Nat) "BodySolids$Solid" "x1" "J" ∈ gAll := gm 147 rfl rfl
set_option maxRecDepth 100000 in
theorem wd_148 : Jvm.Cond.fieldLink "BodySolids$Solid" (44 : Nat) "BodySolids$Solid" "x1" "J" ∈ gAll := gm 148 rfl rfl
set_option maxRecDepth 100000 in
theorem wd_149 : Jvm.Cond.fieldLink "BodySolids$Meeting" (33 : Nat) "BodySolids$Solid" "y1" "J" ∈ gAll := gm 149 rfl rfl
set_option maxRecDepth 100000 in
theorem wd_150 : Jvm.Cond.fieldLink "BodySolids$Solid" (50 : Nat) "BodySolids$Solid" "y1" "J" ∈ gAll := gm 150 rfl rfl
set_option maxRecDepth 100000 in
theorem wd_151 : Jvm.Cond.fieldLink "BodySolids$Meeting" (39 : Nat) "BodySolids$Solid" "z1" "J" ∈ gAll := gm 151 rfl rfl
set_option maxRecDepth 100000 in
theorem wd_152 : Jvm.Cond.fieldLink "BodySolids$Solid" (60 : Nat) "BodySolids$Solid" "z1" "J" ∈ gAll := gm 152 rfl rfl
set_option maxRecDepth 100000 in
theorem wd_178 : Jvm.Cond.arrayClass Jvm.ClassFile.FieldType.long ∈ gAll := gm 178 rfl rfl
set_option maxRecDepth 100000 in
theorem wd_179 : Jvm.Cond.arrayClass Jvm.ClassFile.FieldType.int ∈ gAll := gm 179 rfl rfl
set_option maxRecDepth 100000 in
theorem wd_180 : Jvm.Cond.fieldLink "BodySolids$Layout" (11 : Nat) "BodySolids$Layout" "solids" "[LBodySolids$Solid;" ∈ gAll := gm 180 rfl rfl
set_option maxRecDepth 100000 in
theorem wd_181 : Jvm.Cond.fieldLink "BodySolids" (227 : Nat) "BodySolids$Layout" "solids" "[LBodySolids$Solid;" ∈ gAll := gm 181 rfl rfl
set_option maxRecDepth 100000 in
theorem wd_182 : Jvm.Cond.fieldLink "BodySolids$Layout" (17 : Nat) "BodySolids$Layout" "count" "I" ∈ gAll := gm 182 rfl rfl
set_option maxRecDepth 100000 in
theorem wd_183 : Jvm.Cond.fieldLink "BodySolids" (217 : Nat) "BodySolids$Layout" "count" "I" ∈ gAll := gm 183 rfl rfl
set_option maxRecDepth 100000 in
theorem wd_189 : Jvm.Cond.fieldLink "BodySolids" (20 : Nat) "BodySolids" "thickness" "J" ∈ gAll := gm 189 rfl rfl
set_option maxRecDepth 100000 in
theorem wd_190 : Jvm.Cond.fieldLink "BodySolids" (27 : Nat) "BodySolids" "bodies" "Ljava/util/ArrayList;" ∈ gAll := gm 190 rfl rfl
set_option maxRecDepth 100000 in
theorem wd_191 : Jvm.Cond.fieldLink "BodySolids" (31 : Nat) "BodySolids" "placements" "Ljava/util/ArrayList;" ∈ gAll := gm 191 rfl rfl
set_option maxRecDepth 100000 in
theorem wd_192 : Jvm.Cond.fieldLink "BodySolids" (34 : Nat) "BodySolids" "keepOuts" "Ljava/util/ArrayList;" ∈ gAll := gm 192 rfl rfl
set_option maxRecDepth 100000 in
theorem wd_193 : Jvm.Cond.fieldLink "BodySolids" (37 : Nat) "BodySolids" "cornerX" "[J" ∈ gAll := gm 193 rfl rfl
set_option maxRecDepth 100000 in
theorem wd_194 : Jvm.Cond.fieldLink "BodySolids" (41 : Nat) "BodySolids" "cornerY" "[J" ∈ gAll := gm 194 rfl rfl
set_option maxRecDepth 100000 in
theorem wd_195 : Jvm.Cond.fieldLink "BodySolids" (44 : Nat) "BodySolids" "corners" "I" ∈ gAll := gm 195 rfl rfl
set_option maxRecDepth 100000 in
theorem wd_196 : Jvm.Cond.fieldLink "BodySolids" (48 : Nat) "BodySolids" "relations" "[I" ∈ gAll := gm 196 rfl rfl
set_option maxRecDepth 100000 in
theorem wd_197 : Jvm.Cond.fieldLink "BodySolids" (61 : Nat) "BodySolids" "first" "LBodySolids$Layout;" ∈ gAll := gm 197 rfl rfl
set_option maxRecDepth 100000 in
theorem wd_198 : Jvm.Cond.fieldLink "BodySolids" (65 : Nat) "BodySolids" "second" "LBodySolids$Layout;" ∈ gAll := gm 198 rfl rfl
set_option maxRecDepth 100000 in
theorem wd_221 : Jvm.Cond.instanceMethod ({ cls := "BodySolids", name := "body", desc := "()I" } : Jvm.MethodName) ∈ gAll := gm 221 rfl rfl
set_option maxRecDepth 100000 in
theorem wd_223 : Jvm.Cond.code ({ cls := "BodySolids", name := "body", desc := "()I" } : Jvm.MethodName) prog_1_method_2_code (1 : Nat) (Option.some Jvm.ClassFile.FieldType.int) ∈ gAll := gm 223 rfl rfl
set_option maxRecDepth 100000 in
theorem wd_224 : Jvm.Cond.methodLink "BodySolids" (68 : Nat) ({ cls := "java/util/ArrayList", name := "size", desc := "()I" } : Jvm.MethodName) ∈ gAll := gm 224 rfl rfl
set_option maxRecDepth 100000 in
theorem wd_225 : Jvm.Cond.instanceMethod ({ cls := "java/util/ArrayList", name := "size", desc := "()I" } : Jvm.MethodName) ∈ gAll := gm 225 rfl rfl
set_option maxRecDepth 100000 in
theorem wd_226 : Jvm.Cond.selects "java/util/ArrayList" ({ cls := "java/util/ArrayList", name := "size", desc := "()I" } : Jvm.MethodName) ({ cls := "java/util/ArrayList", name := "size", desc := "()I" } : Jvm.MethodName) ∈ gAll := gm 226 rfl rfl
set_option maxRecDepth 100000 in
theorem wd_227 : Jvm.Cond.code ({ cls := "java/util/ArrayList", name := "size", desc := "()I" } : Jvm.MethodName) prog_24_method_8_code (1 : Nat) (Option.some Jvm.ClassFile.FieldType.int) ∈ gAll := gm 227 rfl rfl
set_option maxRecDepth 100000 in
theorem wd_228 : Jvm.Cond.classLink "BodySolids" (72 : Nat) "BodySolids$Body" ∈ gAll := gm 228 rfl rfl
set_option maxRecDepth 100000 in
theorem wd_229 : Jvm.Cond.instantiable "BodySolids$Body" (2 : Nat) ∈ gAll := gm 229 rfl rfl
set_option maxRecDepth 100000 in
theorem wd_230 : Jvm.Cond.methodLinkNest "BodySolids" (74 : Nat) ({ cls := "BodySolids$Body", name := "<init>", desc := "()V" } : Jvm.MethodName) "BodySolids" ∈ gAll := gm 230 rfl rfl
set_option maxRecDepth 100000 in
theorem wd_231 : Jvm.Cond.instanceMethod ({ cls := "BodySolids$Body", name := "<init>", desc := "()V" } : Jvm.MethodName) ∈ gAll := gm 231 rfl rfl
set_option maxRecDepth 100000 in
theorem wd_232 : Jvm.Cond.code ({ cls := "BodySolids$Body", name := "<init>", desc := "()V" } : Jvm.MethodName) prog_2_method_1_code (1 : Nat) (Option.none : Option Jvm.ClassFile.FieldType) ∈ gAll := gm 232 rfl rfl
set_option maxRecDepth 100000 in
theorem wd_233 : Jvm.Cond.methodLink "BodySolids$Body" (3 : Nat) ({ cls := "java/lang/Object", name := "<init>", desc := "()V" } : Jvm.MethodName) ∈ gAll := gm 233 rfl rfl
set_option maxRecDepth 100000 in
theorem wd_234 : Jvm.Cond.classLink "BodySolids$Body" (9 : Nat) "java/util/ArrayList" ∈ gAll := gm 234 rfl rfl
set_option maxRecDepth 100000 in
theorem wd_235 : Jvm.Cond.methodLink "BodySolids$Body" (11 : Nat) ({ cls := "java/util/ArrayList", name := "<init>", desc := "()V" } : Jvm.MethodName) ∈ gAll := gm 235 rfl rfl
set_option maxRecDepth 100000 in
theorem wd_236 : Jvm.Cond.fieldLink "BodySolids$Body" (12 : Nat) "BodySolids$Body" "solids" "Ljava/util/ArrayList;" ∈ gAll := gm 236 rfl rfl
set_option maxRecDepth 100000 in
theorem wd_237 : Jvm.Cond.fieldLink "BodySolids$Layout" (28 : Nat) "BodySolids$Body" "solids" "Ljava/util/ArrayList;" ∈ gAll := gm 237 rfl rfl
set_option maxRecDepth 100000 in
theorem wd_238 : Jvm.Cond.fieldLink "BodySolids" (154 : Nat) "BodySolids$Body" "solids" "Ljava/util/ArrayList;" ∈ gAll := gm 238 rfl rfl
set_option maxRecDepth 100000 in
theorem wd_239 : Jvm.Cond.fieldLink "BodySolids$Body" (18 : Nat) "BodySolids$Body" "weight" "J" ∈ gAll := gm 239 rfl rfl
set_option maxRecDepth 100000 in
theorem wd_246 : Jvm.Cond.methodLink "BodySolids" (75 : Nat) ({ cls := "BodySolids", name := "addBody", desc := "(LBodySolids$Body;)I" } : Jvm.MethodName) ∈ gAll := gm 246 rfl rfl
set_option maxRecDepth 100000 in
theorem wd_248 : Jvm.Cond.instanceMethod ({ cls := "BodySolids", name := "addBody", desc := "(LBodySolids$Body;)I" } : Jvm.MethodName) ∈ gAll := gm 248 rfl rfl
set_option maxRecDepth 100000 in
theorem wd_249 : Jvm.Cond.code ({ cls := "BodySolids", name := "addBody", desc := "(LBodySolids$Body;)I" } : Jvm.MethodName) prog_1_method_27_code (2 : Nat) (Option.some Jvm.ClassFile.FieldType.int) ∈ gAll := gm 249 rfl rfl
set_option maxRecDepth 100000 in
theorem wd_250 : Jvm.Cond.methodLink "BodySolids" (171 : Nat) ({ cls := "java/util/ArrayList", name := "add", desc := "(Ljava/lang/Object;)Z" } : Jvm.MethodName) ∈ gAll := gm 250 rfl rfl
set_option maxRecDepth 100000 in
theorem wd_251 : Jvm.Cond.instanceMethod ({ cls := "java/util/ArrayList", name := "add", desc := "(Ljava/lang/Object;)Z" } : Jvm.MethodName) ∈ gAll := gm 251 rfl rfl
set_option maxRecDepth 100000 in
theorem wd_252 : Jvm.Cond.selects "java/util/ArrayList" ({ cls := "java/util/ArrayList", name := "add", desc := "(Ljava/lang/Object;)Z" } : Jvm.MethodName) ({ cls := "java/util/ArrayList", name := "add", desc := "(Ljava/lang/Object;)Z" } : Jvm.MethodName) ∈ gAll := gm 252 rfl rfl
set_option maxRecDepth 100000 in
theorem wd_253 : Jvm.Cond.code ({ cls := "java/util/ArrayList", name := "add", desc := "(Ljava/lang/Object;)Z" } : Jvm.MethodName) prog_24_method_25_code (2 : Nat) (Option.some Jvm.ClassFile.FieldType.boolean) ∈ gAll := gm 253 rfl rfl
set_option maxRecDepth 100000 in
theorem wd_254 : Jvm.Cond.methodLink "java/util/ArrayList" (131 : Nat) ({ cls := "java/util/ArrayList", name := "add", desc := "(Ljava/lang/Object;[Ljava/lang/Object;I)V" } : Jvm.MethodName) ∈ gAll := gm 254 rfl rfl
set_option maxRecDepth 100000 in
theorem wd_256 : Jvm.Cond.instanceMethod ({ cls := "java/util/ArrayList", name := "add", desc := "(Ljava/lang/Object;[Ljava/lang/Object;I)V" } : Jvm.MethodName) ∈ gAll := gm 256 rfl rfl
set_option maxRecDepth 100000 in
theorem wd_257 : Jvm.Cond.code ({ cls := "java/util/ArrayList", name := "add", desc := "(Ljava/lang/Object;[Ljava/lang/Object;I)V" } : Jvm.MethodName) prog_24_method_24_code (4 : Nat) (Option.none : Option Jvm.ClassFile.FieldType) ∈ gAll := gm 257 rfl rfl
set_option maxRecDepth 100000 in
theorem wd_258 : Jvm.Cond.methodLink "java/util/ArrayList" (129 : Nat) ({ cls := "java/util/ArrayList", name := "grow", desc := "()[Ljava/lang/Object;" } : Jvm.MethodName) ∈ gAll := gm 258 rfl rfl
set_option maxRecDepth 100000 in
theorem wd_260 : Jvm.Cond.instanceMethod ({ cls := "java/util/ArrayList", name := "grow", desc := "()[Ljava/lang/Object;" } : Jvm.MethodName) ∈ gAll := gm 260 rfl rfl
set_option maxRecDepth 100000 in
theorem wd_261 : Jvm.Cond.code ({ cls := "java/util/ArrayList", name := "grow", desc := "()[Ljava/lang/Object;" } : Jvm.MethodName) prog_24_method_7_code (1 : Nat) (Option.some (Jvm.ClassFile.FieldType.array (Jvm.ClassFile.FieldType.object "java/lang/Object"))) ∈ gAll := gm 261 rfl rfl
set_option maxRecDepth 100000 in
theorem wd_262 : Jvm.Cond.methodLink "java/util/ArrayList" (69 : Nat) ({ cls := "java/util/ArrayList", name := "grow", desc := "(I)[Ljava/lang/Object;" } : Jvm.MethodName) ∈ gAll := gm 262 rfl rfl
set_option maxRecDepth 100000 in
theorem wd_264 : Jvm.Cond.instanceMethod ({ cls := "java/util/ArrayList", name := "grow", desc := "(I)[Ljava/lang/Object;" } : Jvm.MethodName) ∈ gAll := gm 264 rfl rfl
set_option maxRecDepth 100000 in
theorem wd_265 : Jvm.Cond.code ({ cls := "java/util/ArrayList", name := "grow", desc := "(I)[Ljava/lang/Object;" } : Jvm.MethodName) prog_24_method_6_code (4 : Nat) (Option.some (Jvm.ClassFile.FieldType.array (Jvm.ClassFile.FieldType.object "java/lang/Object"))) ∈ gAll := gm 265 rfl rfl
set_option maxRecDepth 100000 in
theorem wd_266 : Jvm.Cond.methodLink "java/util/ArrayList" (73 : Nat) ({ cls := "jdk/internal/util/ArraysSupport", name := "newLength", desc := "(III)I" } : Jvm.MethodName) ∈ gAll := gm 266 rfl rfl
set_option maxRecDepth 100000 in
theorem wd_267 : Jvm.Cond.static ({ cls := "jdk/internal/util/ArraysSupport", name := "newLength", desc := "(III)I" } : Jvm.MethodName) ∈ gAll := gm 267 rfl rfl
set_option maxRecDepth 100000 in
theorem wd_268 : Jvm.Cond.code ({ cls := "jdk/internal/util/ArraysSupport", name := "newLength", desc := "(III)I" } : Jvm.MethodName) prog_31_method_27_code (4 : Nat) (Option.some Jvm.ClassFile.FieldType.int) ∈ gAll := gm 268 rfl rfl
set_option maxRecDepth 100000 in
theorem wd_269 : Jvm.Cond.methodLink "jdk/internal/util/ArraysSupport" (194 : Nat) ({ cls := "java/lang/Math", name := "max", desc := "(II)I" } : Jvm.MethodName) ∈ gAll := gm 269 rfl rfl
set_option maxRecDepth 100000 in
theorem wd_270 : Jvm.Cond.static ({ cls := "java/lang/Math", name := "max", desc := "(II)I" } : Jvm.MethodName) ∈ gAll := gm 270 rfl rfl
set_option maxRecDepth 100000 in
theorem wd_271 : Jvm.Cond.code ({ cls := "java/lang/Math", name := "max", desc := "(II)I" } : Jvm.MethodName) prog_17_method_65_code (2 : Nat) (Option.some Jvm.ClassFile.FieldType.int) ∈ gAll := gm 271 rfl rfl
set_option maxRecDepth 100000 in
theorem wd_272 : Jvm.Cond.constant "jdk/internal/util/ArraysSupport" (200 : Nat) (2147483639 : Int32) ∈ gAll := gm 272 rfl rfl
set_option maxRecDepth 100000 in
theorem wd_273 : Jvm.Cond.methodLink "jdk/internal/util/ArraysSupport" (201 : Nat) ({ cls := "jdk/internal/util/ArraysSupport", name := "hugeLength", desc := "(II)I" } : Jvm.MethodName) ∈ gAll := gm 273 rfl rfl
set_option maxRecDepth 100000 in
theorem wd_274 : Jvm.Cond.static ({ cls := "jdk/internal/util/ArraysSupport", name := "hugeLength", desc := "(II)I" } : Jvm.MethodName) ∈ gAll := gm 274 rfl rfl
set_option maxRecDepth 100000 in
theorem wd_275 : Jvm.Cond.code ({ cls := "jdk/internal/util/ArraysSupport", name := "hugeLength", desc := "(II)I" } : Jvm.MethodName) prog_31_method_28_code (3 : Nat) (Option.some Jvm.ClassFile.FieldType.int) ∈ gAll := gm 275 rfl rfl
set_option maxRecDepth 100000 in
theorem wd_276 : Jvm.Cond.methodLink "java/util/ArrayList" (66 : Nat) ({ cls := "java/util/Arrays", name := "copyOf", desc := "([Ljava/lang/Object;I)[Ljava/lang/Object;" } : Jvm.MethodName) ∈ gAll := gm 276 rfl rfl
set_option maxRecDepth 100000 in
theorem wd_277 : Jvm.Cond.static ({ cls := "java/util/Arrays", name := "copyOf", desc := "([Ljava/lang/Object;I)[Ljava/lang/Object;" } : Jvm.MethodName) ∈ gAll := gm 277 rfl rfl
set_option maxRecDepth 100000 in
theorem wd_278 : Jvm.Cond.code ({ cls := "java/util/Arrays", name := "copyOf", desc := "([Ljava/lang/Object;I)[Ljava/lang/Object;" } : Jvm.MethodName) prog_25_method_119_code (2 : Nat) (Option.some (Jvm.ClassFile.FieldType.array (Jvm.ClassFile.FieldType.object "java/lang/Object"))) ∈ gAll := gm 278 rfl rfl
set_option maxRecDepth 100000 in
theorem wd_279 : Jvm.Cond.methodLink "java/util/Arrays" (86 : Nat) ({ cls := "java/lang/Object", name := "getClass", desc := "()Ljava/lang/Class;" } : Jvm.MethodName) ∈ gAll := gm 279 rfl rfl
set_option maxRecDepth 100000 in
theorem wd_280 : Jvm.Cond.instanceMethod ({ cls := "java/lang/Object", name := "getClass", desc := "()Ljava/lang/Class;" } : Jvm.MethodName) ∈ gAll := gm 280 rfl rfl
set_option maxRecDepth 100000 in
theorem wd_293 : Jvm.Cond.native ({ cls := "java/lang/Object", name := "getClass", desc := "()Ljava/lang/Class;" } : Jvm.MethodName) ∈ gAll := gm 293 rfl rfl
set_option maxRecDepth 100000 in
theorem wd_294 : Jvm.Cond.methodLink "java/util/Arrays" (300 : Nat) ({ cls := "java/util/Arrays", name := "copyOf", desc := "([Ljava/lang/Object;ILjava/lang/Class;)[Ljava/lang/Object;" } : Jvm.MethodName) ∈ gAll := gm 294 rfl rfl
set_option maxRecDepth 100000 in
theorem wd_295 : Jvm.Cond.static ({ cls := "java/util/Arrays", name := "copyOf", desc := "([Ljava/lang/Object;ILjava/lang/Class;)[Ljava/lang/Object;" } : Jvm.MethodName) ∈ gAll := gm 295 rfl rfl
set_option maxRecDepth 100000 in
theorem wd_296 : Jvm.Cond.code ({ cls := "java/util/Arrays", name := "copyOf", desc := "([Ljava/lang/Object;ILjava/lang/Class;)[Ljava/lang/Object;" } : Jvm.MethodName) prog_25_method_120_code (4 : Nat) (Option.some (Jvm.ClassFile.FieldType.array (Jvm.ClassFile.FieldType.object "java/lang/Object"))) ∈ gAll := gm 296 rfl rfl
set_option maxRecDepth 100000 in
theorem wd_297 : Jvm.Cond.classLink "java/util/Arrays" (110 : Nat) "[Ljava/lang/Object;" ∈ gAll := gm 297 rfl rfl
set_option maxRecDepth 100000 in
theorem wd_298 : Jvm.Cond.arrayOver (Jvm.ClassFile.FieldType.object "java/lang/Object") ∈ gAll := gm 298 rfl rfl
set_option maxRecDepth 100000 in
theorem wd_299 : Jvm.Cond.classLink "java/util/Arrays" (2 : Nat) "java/lang/Object" ∈ gAll := gm 299 rfl rfl
set_option maxRecDepth 100000 in
theorem wd_300 : Jvm.Cond.methodLink "java/util/Arrays" (304 : Nat) ({ cls := "java/lang/Math", name := "min", desc := "(II)I" } : Jvm.MethodName) ∈ gAll := gm 300 rfl rfl
set_option maxRecDepth 100000 in
theorem wd_301 : Jvm.Cond.static ({ cls := "java/lang/Math", name := "min", desc := "(II)I" } : Jvm.MethodName) ∈ gAll := gm 301 rfl rfl
set_option maxRecDepth 100000 in
theorem wd_302 : Jvm.Cond.code ({ cls := "java/lang/Math", name := "min", desc := "(II)I" } : Jvm.MethodName) prog_17_method_69_code (2 : Nat) (Option.some Jvm.ClassFile.FieldType.int) ∈ gAll := gm 302 rfl rfl
set_option maxRecDepth 100000 in
theorem wd_303 : Jvm.Cond.methodLink "java/util/Arrays" (150 : Nat) ({ cls := "java/lang/System", name := "arraycopy", desc := "(Ljava/lang/Object;ILjava/lang/Object;II)V" } : Jvm.MethodName) ∈ gAll := gm 303 rfl rfl
set_option maxRecDepth 100000 in
theorem wd_304 : Jvm.Cond.static ({ cls := "java/lang/System", name := "arraycopy", desc := "(Ljava/lang/Object;ILjava/lang/Object;II)V" } : Jvm.MethodName) ∈ gAll := gm 304 rfl rfl
set_option maxRecDepth 100000 in
theorem wd_305 : Jvm.Cond.native ({ cls := "java/lang/System", name := "arraycopy", desc := "(Ljava/lang/Object;ILjava/lang/Object;II)V" } : Jvm.MethodName) ∈ gAll := gm 305 rfl rfl
set_option maxRecDepth 100000 in
theorem wd_306 : Jvm.Cond.methodLink "java/util/ArrayList" (79 : Nat) ({ cls := "java/lang/Math", name := "max", desc := "(II)I" } : Jvm.MethodName) ∈ gAll := gm 306 rfl rfl
set_option maxRecDepth 100000 in
theorem wd_307 : Jvm.Cond.classLink "java/util/ArrayList" (7 : Nat) "java/lang/Object" ∈ gAll := gm 307 rfl rfl
set_option maxRecDepth 100000 in
theorem wd_312 : Jvm.Cond.methodLink "BodySolids" (186 : Nat) ({ cls := "BodySolids", name := "relation", desc := "(II)I" } : Jvm.MethodName) ∈ gAll := gm 312 rfl rfl
set_option maxRecDepth 100000 in
theorem wd_314 : Jvm.Cond.instanceMethod ({ cls := "BodySolids", name := "relation", desc := "(II)I" } : Jvm.MethodName) ∈ gAll := gm 314 rfl rfl
set_option maxRecDepth 100000 in
theorem wd_315 : Jvm.Cond.code ({ cls := "BodySolids", name := "relation", desc := "(II)I" } : Jvm.MethodName) prog_1_method_35_code (4 : Nat) (Option.some Jvm.ClassFile.FieldType.int) ∈ gAll := gm 315 rfl rfl
set_option maxRecDepth 100000 in
theorem wd_316 : Jvm.Cond.methodLink "BodySolids" (272 : Nat) ({ cls := "BodySolids", name := "relationSlot", desc := "(II)I" } : Jvm.MethodName) ∈ gAll := gm 316 rfl rfl
set_option maxRecDepth 100000 in
theorem wd_317 : Jvm.Cond.static ({ cls := "BodySolids", name := "relationSlot", desc := "(II)I" } : Jvm.MethodName) ∈ gAll := gm 317 rfl rfl
set_option maxRecDepth 100000 in
theorem wd_318 : Jvm.Cond.code ({ cls := "BodySolids", name := "relationSlot", desc := "(II)I" } : Jvm.MethodName) prog_1_method_32_code (2 : Nat) (Option.some Jvm.ClassFile.FieldType.int) ∈ gAll := gm 318 rfl rfl
set_option maxRecDepth 100000 in
theorem wd_319 : Jvm.Cond.methodLink "BodySolids" (268 : Nat) ({ cls := "java/lang/Math", name := "min", desc := "(II)I" } : Jvm.MethodName) ∈ gAll := gm 319 rfl rfl
set_option maxRecDepth 100000 in
theorem wd_320 : Jvm.Cond.methodLink "BodySolids" (270 : Nat) ({ cls := "java/lang/Math", name := "max", desc := "(II)I" } : Jvm.MethodName) ∈ gAll := gm 320 rfl rfl
set_option maxRecDepth 100000 in
theorem wd_321 : Jvm.Cond.methodLink "BodySolids" (205 : Nat) ({ cls := "java/util/ArrayList", name := "get", desc := "(I)Ljava/lang/Object;" } : Jvm.MethodName) ∈ gAll := gm 321 rfl rfl
set_option maxRecDepth 100000 in
theorem wd_322 : Jvm.Cond.instanceMethod ({ cls := "java/util/ArrayList", name := "get", desc := "(I)Ljava/lang/Object;" } : Jvm.MethodName) ∈ gAll := gm 322 rfl rfl
set_option maxRecDepth 100000 in
theorem wd_323 : Jvm.Cond.selects "java/util/ArrayList" ({ cls := "java/util/ArrayList", name := "get", desc := "(I)Ljava/lang/Object;" } : Jvm.MethodName) ({ cls := "java/util/ArrayList", name := "get", desc := "(I)Ljava/lang/Object;" } : Jvm.MethodName) ∈ gAll := gm 323 rfl rfl
set_option maxRecDepth 100000 in
theorem wd_324 : Jvm.Cond.code ({ cls := "java/util/ArrayList", name := "get", desc := "(I)Ljava/lang/Object;" } : Jvm.MethodName) prog_24_method_20_code (2 : Nat) (Option.some (Jvm.ClassFile.FieldType.object "java/lang/Object")) ∈ gAll := gm 324 rfl rfl
set_option maxRecDepth 100000 in
theorem wd_325 : Jvm.Cond.methodLink "java/util/ArrayList" (118 : Nat) ({ cls := "java/util/Objects", name := "checkIndex", desc := "(II)I" } : Jvm.MethodName) ∈ gAll := gm 325 rfl rfl
set_option maxRecDepth 100000 in
theorem wd_326 : Jvm.Cond.static ({ cls := "java/util/Objects", name := "checkIndex", desc := "(II)I" } : Jvm.MethodName) ∈ gAll := gm 326 rfl rfl
set_option maxRecDepth 100000 in
theorem wd_327 : Jvm.Cond.code ({ cls := "java/util/Objects", name := "checkIndex", desc := "(II)I" } : Jvm.MethodName) prog_28_method_17_code (2 : Nat) (Option.some Jvm.ClassFile.FieldType.int) ∈ gAll := gm 327 rfl rfl
set_option maxRecDepth 100000 in
theorem wd_328 : Jvm.Cond.methodLink "java/util/Objects" (105 : Nat) ({ cls := "jdk/internal/util/Preconditions", name := "checkIndex", desc := "(IILjava/util/function/BiFunction;)I" } : Jvm.MethodName) ∈ gAll := gm 328 rfl rfl
set_option maxRecDepth 100000 in
theorem wd_329 : Jvm.Cond.static ({ cls := "jdk/internal/util/Preconditions", name := "checkIndex", desc := "(IILjava/util/function/BiFunction;)I" } : Jvm.MethodName) ∈ gAll := gm 329 rfl rfl
set_option maxRecDepth 100000 in
theorem wd_330 : Jvm.Cond.code ({ cls := "jdk/internal/util/Preconditions", name := "checkIndex", desc := "(IILjava/util/function/BiFunction;)I" } : Jvm.MethodName) prog_32_method_11_code (3 : Nat) (Option.some Jvm.ClassFile.FieldType.int) ∈ gAll := gm 330 rfl rfl
set_option maxRecDepth 100000 in
theorem wd_331 : Jvm.Cond.methodLink "java/util/ArrayList" (123 : Nat) ({ cls := "java/util/ArrayList", name := "elementData", desc := "(I)Ljava/lang/Object;" } : Jvm.MethodName) ∈ gAll := gm 331 rfl rfl
set_option maxRecDepth 100000 in
theorem wd_332 : Jvm.Cond.instanceMethod ({ cls := "java/util/ArrayList", name := "elementData", desc := "(I)Ljava/lang/Object;" } : Jvm.MethodName) ∈ gAll := gm 332 rfl rfl
set_option maxRecDepth 100000 in
theorem wd_333 : Jvm.Cond.selects "java/util/ArrayList" ({ cls := "java/util/ArrayList", name := "elementData", desc := "(I)Ljava/lang/Object;" } : Jvm.MethodName) ({ cls := "java/util/ArrayList", name := "elementData", desc := "(I)Ljava/lang/Object;" } : Jvm.MethodName) ∈ gAll := gm 333 rfl rfl
set_option maxRecDepth 100000 in
theorem wd_334 : Jvm.Cond.code ({ cls := "java/util/ArrayList", name := "elementData", desc := "(I)Ljava/lang/Object;" } : Jvm.MethodName) prog_24_method_18_code (2 : Nat) (Option.some (Jvm.ClassFile.FieldType.object "java/lang/Object")) ∈ gAll := gm 334 rfl rfl
set_option maxRecDepth 100000 in
theorem wd_335 : Jvm.Cond.classLink "BodySolids" (164 : Nat) "BodySolids$Placement" ∈ gAll := gm 335 rfl rfl
set_option maxRecDepth 100000 in
theorem wd_336 : Jvm.Cond.methodLink "BodySolids" (213 : Nat) ({ cls := "BodySolids$Layout", name := "lay", desc := "(LBodySolids$Placement;J)V" } : Jvm.MethodName) ∈ gAll := gm 336 rfl rfl
set_option maxRecDepth 100000 in
theorem wd_337 : Jvm.Cond.instanceMethod ({ cls := "BodySolids$Layout", name := "lay", desc := "(LBodySolids$Placement;J)V" } : Jvm.MethodName) ∈ gAll := gm 337 rfl rfl
set_option maxRecDepth 100000 in
theorem wd_338 : Jvm.Cond.selects "BodySolids$Layout" ({ cls := "BodySolids$Layout", name := "lay", desc := "(LBodySolids$Placement;J)V" } : Jvm.MethodName) ({ cls := "BodySolids$Layout", name := "lay", desc := "(LBodySolids$Placement;J)V" } : Jvm.MethodName) ∈ gAll := gm 338 rfl rfl
set_option maxRecDepth 100000 in
theorem wd_339 : Jvm.Cond.code ({ cls := "BodySolids$Layout", name := "lay", desc := "(LBodySolids$Placement;J)V" } : Jvm.MethodName) prog_4_method_2_code (6 : Nat) (Option.none : Option Jvm.ClassFile.FieldType) ∈ gAll := gm 339 rfl rfl
set_option maxRecDepth 100000 in
theorem wd_340 : Jvm.Cond.methodLink "BodySolids$Layout" (33 : Nat) ({ cls := "java/util/ArrayList", name := "size", desc := "()I" } : Jvm.MethodName) ∈ gAll := gm 340 rfl rfl
set_option maxRecDepth 100000 in
theorem wd_341 : Jvm.Cond.methodLink "BodySolids$Layout" (39 : Nat) ({ cls := "java/lang/Math", name := "min", desc := "(II)I" } : Jvm.MethodName) ∈ gAll := gm 341 rfl rfl
set_option maxRecDepth 100000 in
theorem wd_342 : Jvm.Cond.methodLink "BodySolids$Layout" (45 : Nat) ({ cls := "java/util/ArrayList", name := "get", desc := "(I)Ljava/lang/Object;" } : Jvm.MethodName) ∈ gAll := gm 342 rfl rfl
set_option maxRecDepth 100000 in
theorem wd_343 : Jvm.Cond.methodLink "BodySolids$Layout" (49 : Nat) ({ cls := "BodySolids$Solid", name := "layAs", desc := "(LBodySolids$Solid;LBodySolids$Placement;J)V" } : Jvm.MethodName) ∈ gAll := gm 343 rfl rfl
set_option maxRecDepth 100000 in
theorem wd_344 : Jvm.Cond.instanceMethod ({ cls := "BodySolids$Solid", name := "layAs", desc := "(LBodySolids$Solid;LBodySolids$Placement;J)V" } : Jvm.MethodName) ∈ gAll := gm 344 rfl rfl
set_option maxRecDepth 100000 in
theorem wd_345 : Jvm.Cond.selects "BodySolids$Solid" ({ cls := "BodySolids$Solid", name := "layAs", desc := "(LBodySolids$Solid;LBodySolids$Placement;J)V" } : Jvm.MethodName) ({ cls := "BodySolids$Solid", name := "layAs", desc := "(LBodySolids$Solid;LBodySolids$Placement;J)V" } : Jvm.MethodName) ∈ gAll := gm 345 rfl rfl
set_option maxRecDepth 100000 in
theorem wd_346 : Jvm.Cond.code ({ cls := "BodySolids$Solid", name := "layAs", desc := "(LBodySolids$Solid;LBodySolids$Placement;J)V" } : Jvm.MethodName) prog_7_method_6_code (8 : Nat) (Option.none : Option Jvm.ClassFile.FieldType) ∈ gAll := gm 346 rfl rfl
set_option maxRecDepth 100000 in
theorem wd_347 : Jvm.Cond.methodLink "BodySolids$Solid" (63 : Nat) ({ cls := "BodySolids$Solid", name := "begin", desc := "(IJJ)V" } : Jvm.MethodName) ∈ gAll := gm 347 rfl rfl
set_option maxRecDepth 100000 in
theorem wd_348 : Jvm.Cond.instanceMethod ({ cls := "BodySolids$Solid", name := "begin", desc := "(IJJ)V" } : Jvm.MethodName) ∈ gAll := gm 348 rfl rfl
set_option maxRecDepth 100000 in
theorem wd_349 : Jvm.Cond.selects "BodySolids$Solid" ({ cls := "BodySolids$Solid", name := "begin", desc := "(IJJ)V" } : Jvm.MethodName) ({ cls := "BodySolids$Solid", name := "begin", desc := "(IJJ)V" } : Jvm.MethodName) ∈ gAll := gm 349 rfl rfl
set_option maxRecDepth 100000 in
theorem wd_350 : Jvm.Cond.code ({ cls := "BodySolids$Solid", name := "begin", desc := "(IJJ)V" } : Jvm.MethodName) prog_7_method_2_code (6 : Nat) (Option.none : Option Jvm.ClassFile.FieldType) ∈ gAll := gm 350 rfl rfl
set_option maxRecDepth 100000 in
theorem wd_351 : Jvm.Cond.methodLink "BodySolids$Solid" (72 : Nat) ({ cls := "BodySolids$Placement", name := "boardX", desc := "(JJ)J" } : Jvm.MethodName) ∈ gAll := gm 351 rfl rfl
set_option maxRecDepth 100000 in
theorem wd_352 : Jvm.Cond.instanceMethod ({ cls := "BodySolids$Placement", name := "boardX", desc := "(JJ)J" } : Jvm.MethodName) ∈ gAll := gm 352 rfl rfl
set_option maxRecDepth 100000 in
theorem wd_353 : Jvm.Cond.selects "BodySolids$Placement" ({ cls := "BodySolids$Placement", name := "boardX", desc := "(JJ)J" } : Jvm.MethodName) ({ cls := "BodySolids$Placement", name := "boardX", desc := "(JJ)J" } : Jvm.MethodName) ∈ gAll := gm 353 rfl rfl
set_option maxRecDepth 100000 in
theorem wd_354 : Jvm.Cond.code ({ cls := "BodySolids$Placement", name := "boardX", desc := "(JJ)J" } : Jvm.MethodName) prog_6_method_4_code (7 : Nat) (Option.some Jvm.ClassFile.FieldType.long) ∈ gAll := gm 354 rfl rfl
set_option maxRecDepth 100000 in
theorem wd_355 : Jvm.Cond.methodLink "BodySolids$Solid" (75 : Nat) ({ cls := "BodySolids$Placement", name := "boardY", desc := "(JJ)J" } : Jvm.MethodName) ∈ gAll := gm 355 rfl rfl
set_option maxRecDepth 100000 in
theorem wd_356 : Jvm.Cond.instanceMethod ({ cls := "BodySolids$Placement", name := "boardY", desc := "(JJ)J" } : Jvm.MethodName) ∈ gAll := gm 356 rfl rfl
set_option maxRecDepth 100000 in
theorem wd_357 : Jvm.Cond.selects "BodySolids$Placement" ({ cls := "BodySolids$Placement", name := "boardY", desc := "(JJ)J" } : Jvm.MethodName) ({ cls := "BodySolids$Placement", name := "boardY", desc := "(JJ)J" } : Jvm.MethodName) ∈ gAll := gm 357 rfl rfl
set_option maxRecDepth 100000 in
theorem wd_358 : Jvm.Cond.code ({ cls := "BodySolids$Placement", name := "boardY", desc := "(JJ)J" } : Jvm.MethodName) prog_6_method_5_code (7 : Nat) (Option.some Jvm.ClassFile.FieldType.long) ∈ gAll := gm 358 rfl rfl
set_option maxRecDepth 100000 in
theorem wd_359 : Jvm.Cond.methodLink "BodySolids$Solid" (53 : Nat) ({ cls := "BodySolids$Solid", name := "addCorner", desc := "(JJ)V" } : Jvm.MethodName) ∈ gAll := gm 359 rfl rfl
set_option maxRecDepth 100000 in
theorem wd_360 : Jvm.Cond.instanceMethod ({ cls := "BodySolids$Solid", name := "addCorner", desc := "(JJ)V" } : Jvm.MethodName) ∈ gAll := gm 360 rfl rfl
set_option maxRecDepth 100000 in
theorem wd_361 : Jvm.Cond.selects "BodySolids$Solid" ({ cls := "BodySolids$Solid", name := "addCorner", desc := "(JJ)V" } : Jvm.MethodName) ({ cls := "BodySolids$Solid", name := "addCorner", desc := "(JJ)V" } : Jvm.MethodName) ∈ gAll := gm 361 rfl rfl
set_option maxRecDepth 100000 in
theorem wd_362 : Jvm.Cond.code ({ cls := "BodySolids$Solid", name := "addCorner", desc := "(JJ)V" } : Jvm.MethodName) prog_7_method_3_code (5 : Nat) (Option.none : Option Jvm.ClassFile.FieldType) ∈ gAll := gm 362 rfl rfl
set_option maxRecDepth 100000 in
theorem wd_363 : Jvm.Cond.methodLink "BodySolids$Solid" (35 : Nat) ({ cls := "java/lang/Math", name := "min", desc := "(JJ)J" } : Jvm.MethodName) ∈ gAll := gm 363 rfl rfl
set_option maxRecDepth 100000 in
theorem wd_364 : Jvm.Cond.methodLink "BodySolids$Solid" (47 : Nat) ({ cls := "java/lang/Math", name := "max", desc := "(JJ)J" } : Jvm.MethodName) ∈ gAll := gm 364 rfl rfl
set_option maxRecDepth 100000 in
theorem wd_365 : Jvm.Cond.methodLink "BodySolids$Solid" (78 : Nat) ({ cls := "BodySolids$Solid", name := "setHeights", desc := "(JJ)V" } : Jvm.MethodName) ∈ gAll := gm 365 rfl rfl
set_option maxRecDepth 100000 in
theorem wd_366 : Jvm.Cond.instanceMethod ({ cls := "BodySolids$Solid", name := "setHeights", desc := "(JJ)V" } : Jvm.MethodName) ∈ gAll := gm 366 rfl rfl
set_option maxRecDepth 100000 in
theorem wd_367 : Jvm.Cond.selects "BodySolids$Solid" ({ cls := "BodySolids$Solid", name := "setHeights", desc := "(JJ)V" } : Jvm.MethodName) ({ cls := "BodySolids$Solid", name := "setHeights", desc := "(JJ)V" } : Jvm.MethodName) ∈ gAll := gm 367 rfl rfl
set_option maxRecDepth 100000 in
theorem wd_368 : Jvm.Cond.code ({ cls := "BodySolids$Solid", name := "setHeights", desc := "(JJ)V" } : Jvm.MethodName) prog_7_method_5_code (5 : Nat) (Option.none : Option Jvm.ClassFile.FieldType) ∈ gAll := gm 368 rfl rfl
set_option maxRecDepth 100000 in
theorem wd_369 : Jvm.Cond.methodLink "BodySolids" (279 : Nat) ({ cls := "BodySolids", name := "relationOfLayouts", desc := "()I" } : Jvm.MethodName) ∈ gAll := gm 369 rfl rfl
set_option maxRecDepth 100000 in
theorem wd_371 : Jvm.Cond.instanceMethod ({ cls := "BodySolids", name := "relationOfLayouts", desc := "()I" } : Jvm.MethodName) ∈ gAll := gm 371 rfl rfl
set_option maxRecDepth 100000 in
theorem wd_372 : Jvm.Cond.code ({ cls := "BodySolids", name := "relationOfLayouts", desc := "()I" } : Jvm.MethodName) prog_1_method_36_code (5 : Nat) (Option.some Jvm.ClassFile.FieldType.int) ∈ gAll := gm 372 rfl rfl
set_option maxRecDepth 100000 in
theorem wd_373 : Jvm.Cond.methodLink "BodySolids" (282 : Nat) ({ cls := "BodySolids$Meeting", name := "of", desc := "(LBodySolids$Solid;LBodySolids$Solid;)I" } : Jvm.MethodName) ∈ gAll := gm 373 rfl rfl
set_option maxRecDepth 100000 in
theorem wd_374 : Jvm.Cond.static ({ cls := "BodySolids$Meeting", name := "of", desc := "(LBodySolids$Solid;LBodySolids$Solid;)I" } : Jvm.MethodName) ∈ gAll := gm 374 rfl rfl
set_option maxRecDepth 100000 in
theorem wd_375 : Jvm.Cond.code ({ cls := "BodySolids$Meeting", name := "of", desc := "(LBodySolids$Solid;LBodySolids$Solid;)I" } : Jvm.MethodName) prog_5_method_2_code (14 : Nat) (Option.some Jvm.ClassFile.FieldType.int) ∈ gAll := gm 375 rfl rfl
set_option maxRecDepth 100000 in
theorem wd_376 : Jvm.Cond.methodLink "BodySolids$Meeting" (24 : Nat) ({ cls := "BodySolids$Meeting", name := "gap", desc := "(JJJJ)J" } : Jvm.MethodName) ∈ gAll := gm 376 rfl rfl
set_option maxRecDepth 100000 in
theorem wd_377 : Jvm.Cond.static ({ cls := "BodySolids$Meeting", name := "gap", desc := "(JJJJ)J" } : Jvm.MethodName) ∈ gAll := gm 377 rfl rfl
set_option maxRecDepth 100000 in
theorem wd_378 : Jvm.Cond.code ({ cls := "BodySolids$Meeting", name := "gap", desc := "(JJJJ)J" } : Jvm.MethodName) prog_5_method_3_code (8 : Nat) (Option.some Jvm.ClassFile.FieldType.long) ∈ gAll := gm 378 rfl rfl
set_option maxRecDepth 100000 in
theorem wd_379 : Jvm.Cond.methodLink "BodySolids$Meeting" (68 : Nat) ({ cls := "java/lang/Math", name := "max", desc := "(JJ)J" } : Jvm.MethodName) ∈ gAll := gm 379 rfl rfl
set_option maxRecDepth 100000 in
theorem wd_380 : Jvm.Cond.methodLink "BodySolids$Meeting" (42 : Nat) ({ cls := "BodySolids$Meeting", name := "outlines", desc := "(LBodySolids$Solid;LBodySolids$Solid;)I" } : Jvm.MethodName) ∈ gAll := gm 380 rfl rfl
set_option maxRecDepth 100000 in
theorem wd_381 : Jvm.Cond.static ({ cls := "BodySolids$Meeting", name := "outlines", desc := "(LBodySolids$Solid;LBodySolids$Solid;)I" } : Jvm.MethodName) ∈ gAll := gm 381 rfl rfl
set_option maxRecDepth 100000 in
theorem wd_382 : Jvm.Cond.code ({ cls := "BodySolids$Meeting", name := "outlines", desc := "(LBodySolids$Solid;LBodySolids$Solid;)I" } : Jvm.MethodName) prog_5_method_6_code (7 : Nat) (Option.some Jvm.ClassFile.FieldType.int) ∈ gAll := gm 382 rfl rfl
set_option maxRecDepth 100000 in
theorem wd_383 : Jvm.Cond.methodLink "BodySolids$Meeting" (50 : Nat) ({ cls := "BodySolids$Meeting", name := "sign", desc := "(J)I" } : Jvm.MethodName) ∈ gAll := gm 383 rfl rfl
set_option maxRecDepth 100000 in
theorem wd_384 : Jvm.Cond.static ({ cls := "BodySolids$Meeting", name := "sign", desc := "(J)I" } : Jvm.MethodName) ∈ gAll := gm 384 rfl rfl
set_option maxRecDepth 100000 in
theorem wd_385 : Jvm.Cond.code ({ cls := "BodySolids$Meeting", name := "sign", desc := "(J)I" } : Jvm.MethodName) prog_5_method_4_code (2 : Nat) (Option.some Jvm.ClassFile.FieldType.int) ∈ gAll := gm 385 rfl rfl
set_option maxRecDepth 100000 in
theorem wd_386 : Jvm.Cond.methodLink "BodySolids$Meeting" (75 : Nat) ({ cls := "BodySolids$Meeting", name := "partedBySides", desc := "(LBodySolids$Solid;LBodySolids$Solid;)I" } : Jvm.MethodName) ∈ gAll := gm 386 rfl rfl
set_option maxRecDepth 100000 in
theorem wd_387 : Jvm.Cond.static ({ cls := "BodySolids$Meeting", name := "partedBySides", desc := "(LBodySolids$Solid;LBodySolids$Solid;)I" } : Jvm.MethodName) ∈ gAll := gm 387 rfl rfl
set_option maxRecDepth 100000 in
theorem wd_388 : Jvm.Cond.code ({ cls := "BodySolids$Meeting", name := "partedBySides", desc := "(LBodySolids$Solid;LBodySolids$Solid;)I" } : Jvm.MethodName) prog_5_method_7_code (13 : Nat) (Option.some Jvm.ClassFile.FieldType.int) ∈ gAll := gm 388 rfl rfl
set_option maxRecDepth 100000 in
theorem wd_389 : Jvm.Cond.methodLink "BodySolids$Meeting" (88 : Nat) ({ cls := "java/lang/Math", name := "min", desc := "(II)I" } : Jvm.MethodName) ∈ gAll := gm 389 rfl rfl
set_option maxRecDepth 100000 in
theorem wd_390 : Jvm.Cond.methodLink "BodySolids$Meeting" (54 : Nat) ({ cls := "java/lang/Math", name := "max", desc := "(II)I" } : Jvm.MethodName) ∈ gAll := gm 390 rfl rfl
set_option maxRecDepth 100000 in
theorem wd_391 : Jvm.Cond.methodLink "BodySolids$Meeting" (46 : Nat) ({ cls := "BodySolids$Meeting", name := "distance", desc := "(LBodySolids$Solid;LBodySolids$Solid;J)I" } : Jvm.MethodName) ∈ gAll := gm 391 rfl rfl
set_option maxRecDepth 100000 in
theorem wd_392 : Jvm.Cond.static ({ cls := "BodySolids$Meeting", name := "distance", desc := "(LBodySolids$Solid;LBodySolids$Solid;J)I" } : Jvm.MethodName) ∈ gAll := gm 392 rfl rfl
set_option maxRecDepth 100000 in
theorem wd_393 : Jvm.Cond.code ({ cls := "BodySolids$Meeting", name := "distance", desc := "(LBodySolids$Solid;LBodySolids$Solid;J)I" } : Jvm.MethodName) prog_5_method_8_code (8 : Nat) (Option.some Jvm.ClassFile.FieldType.int) ∈ gAll := gm 393 rfl rfl
set_option maxRecDepth 100000 in
theorem wd_394 : Jvm.Cond.methodLink "BodySolids$Meeting" (91 : Nat) ({ cls := "BodySolids$Meeting", name := "cornersDistance", desc := "(LBodySolids$Solid;LBodySolids$Solid;J)I" } : Jvm.MethodName) ∈ gAll := gm 394 rfl rfl
set_option maxRecDepth 100000 in
theorem wd_395 : Jvm.Cond.static ({ cls := "BodySolids$Meeting", name := "cornersDistance", desc := "(LBodySolids$Solid;LBodySolids$Solid;J)I" } : Jvm.MethodName) ∈ gAll := gm 395 rfl rfl
set_option maxRecDepth 100000 in
theorem wd_396 : Jvm.Cond.code ({ cls := "BodySolids$Meeting", name := "cornersDistance", desc := "(LBodySolids$Solid;LBodySolids$Solid;J)I" } : Jvm.MethodName) prog_5_method_9_code (10 : Nat) (Option.some Jvm.ClassFile.FieldType.int) ∈ gAll := gm 396 rfl rfl
set_option maxRecDepth 100000 in
theorem wd_397 : Jvm.Cond.methodLink "BodySolids$Meeting" (60 : Nat) ({ cls := "BodySolids$Meeting", name := "squareIfAbove", desc := "(J)J" } : Jvm.MethodName) ∈ gAll := gm 397 rfl rfl
set_option maxRecDepth 100000 in
theorem wd_398 : Jvm.Cond.static ({ cls := "BodySolids$Meeting", name := "squareIfAbove", desc := "(J)J" } : Jvm.MethodName) ∈ gAll := gm 398 rfl rfl
set_option maxRecDepth 100000 in
theorem wd_399 : Jvm.Cond.code ({ cls := "BodySolids$Meeting", name := "squareIfAbove", desc := "(J)J" } : Jvm.MethodName) prog_5_method_5_code (2 : Nat) (Option.some Jvm.ClassFile.FieldType.long) ∈ gAll := gm 399 rfl rfl
set_option maxRecDepth 100000 in
theorem wd_400 : Jvm.Cond.methodLink "BodySolids$Meeting" (94 : Nat) ({ cls := "BodySolids$Meeting", name := "sidesDistance", desc := "(LBodySolids$Solid;LBodySolids$Solid;J)I" } : Jvm.MethodName) ∈ gAll := gm 400 rfl rfl
set_option maxRecDepth 100000 in
theorem wd_401 : Jvm.Cond.static ({ cls := "BodySolids$Meeting", name := "sidesDistance", desc := "(LBodySolids$Solid;LBodySolids$Solid;J)I" } : Jvm.MethodName) ∈ gAll := gm 401 rfl rfl
set_option maxRecDepth 100000 in
theorem wd_402 : Jvm.Cond.code ({ cls := "BodySolids$Meeting", name := "sidesDistance", desc := "(LBodySolids$Solid;LBodySolids$Solid;J)I" } : Jvm.MethodName) prog_5_method_10_code (6 : Nat) (Option.some Jvm.ClassFile.FieldType.int) ∈ gAll := gm 402 rfl rfl
set_option maxRecDepth 100000 in
theorem wd_403 : Jvm.Cond.methodLink "BodySolids$Meeting" (97 : Nat) ({ cls := "BodySolids$Meeting", name := "sideDistance", desc := "(LBodySolids$Solid;ILBodySolids$Solid;J)I" } : Jvm.MethodName) ∈ gAll := gm 403 rfl rfl
set_option maxRecDepth 100000 in
theorem wd_404 : Jvm.Cond.static ({ cls := "BodySolids$Meeting", name := "sideDistance", desc := "(LBodySolids$Solid;ILBodySolids$Solid;J)I" } : Jvm.MethodName) ∈ gAll := gm 404 rfl rfl
set_option maxRecDepth 100000 in
theorem wd_405 : Jvm.Cond.code ({ cls := "BodySolids$Meeting", name := "sideDistance", desc := "(LBodySolids$Solid;ILBodySolids$Solid;J)I" } : Jvm.MethodName) prog_5_method_11_code (22 : Nat) (Option.some Jvm.ClassFile.FieldType.int) ∈ gAll := gm 405 rfl rfl
set_option maxRecDepth 100000 in
theorem wd_406 : Jvm.Cond.methodLink "BodySolids$Meeting" (64 : Nat) ({ cls := "BodySolids$Meeting", name := "discAndRound", desc := "(JJJ)I" } : Jvm.MethodName) ∈ gAll := gm 406 rfl rfl
set_option maxRecDepth 100000 in
theorem wd_407 : Jvm.Cond.static ({ cls := "BodySolids$Meeting", name := "discAndRound", desc := "(JJJ)I" } : Jvm.MethodName) ∈ gAll := gm 407 rfl rfl
set_option maxRecDepth 100000 in
theorem wd_408 : Jvm.Cond.code ({ cls := "BodySolids$Meeting", name := "discAndRound", desc := "(JJJ)I" } : Jvm.MethodName) prog_5_method_12_code (8 : Nat) (Option.some Jvm.ClassFile.FieldType.int) ∈ gAll := gm 408 rfl rfl
set_option maxRecDepth 100000 in
theorem wd_409 : Jvm.Cond.constantLong "BodySolids$Meeting" (101 : Nat) (4 : Int64) ∈ gAll := gm 409 rfl rfl
set_option maxRecDepth 100000 in
theorem wd_425 : Jvm.Cond.static ({ cls := "BodySolidsLaw", name := "cell", desc := "([II)I" } : Jvm.MethodName) ∈ gAll := gm 425 rfl rfl
set_option maxRecDepth 100000 in
theorem wd_426 : Jvm.Cond.code ({ cls := "BodySolidsLaw", name := "cell", desc := "([II)I" } : Jvm.MethodName) method_2_code (2 : Nat) (Option.some Jvm.ClassFile.FieldType.int) ∈ gAll := gm 426 rfl rfl
set_option maxRecDepth 100000 in
theorem wd_428 : Jvm.Cond.static ({ cls := "BodySolidsLaw", name := "box", desc := "(LBodySolids;IJJJJJJ[J)I" } : Jvm.MethodName) ∈ gAll := gm 428 rfl rfl
set_option maxRecDepth 100000 in
theorem wd_429 : Jvm.Cond.codeWith ({ cls := "BodySolidsLaw", name := "box", desc := "(LBodySolids;IJJJJJJ[J)I" } : Jvm.MethodName) method_3_code (16 : Nat) (Option.some Jvm.ClassFile.FieldType.int) [((0 : Nat), (28 : Nat), (31 : Nat), (13 : Nat)), ((0 : Nat), (28 : Nat), (35 : Nat), (15 : Nat))] ∈ gAll := gm 429 rfl rfl
set_option maxRecDepth 100000 in
theorem wd_430 : Jvm.Cond.classLink "BodySolidsLaw" (13 : Nat) "java/lang/IndexOutOfBoundsException" ∈ gAll := gm 430 rfl rfl
set_option maxRecDepth 100000 in
theorem wd_431 : Jvm.Cond.classLink "BodySolidsLaw" (15 : Nat) "java/lang/IllegalArgumentException" ∈ gAll := gm 431 rfl rfl
set_option maxRecDepth 100000 in
theorem wd_432 : Jvm.Cond.methodLink "BodySolidsLaw" (7 : Nat) ({ cls := "BodySolids", name := "box", desc := "(IJJJJJJ)Z" } : Jvm.MethodName) ∈ gAll := gm 432 rfl rfl
set_option maxRecDepth 100000 in
theorem wd_433 : Jvm.Cond.instanceMethod ({ cls := "BodySolids", name := "box", desc := "(IJJJJJJ)Z" } : Jvm.MethodName) ∈ gAll := gm 433 rfl rfl
set_option maxRecDepth 100000 in
theorem wd_434 : Jvm.Cond.selects "BodySolids" ({ cls := "BodySolids", name := "box", desc := "(IJJJJJJ)Z" } : Jvm.MethodName) ({ cls := "BodySolids", name := "box", desc := "(IJJJJJJ)Z" } : Jvm.MethodName) ∈ gAll := gm 434 rfl rfl
set_option maxRecDepth 100000 in
theorem wd_435 : Jvm.Cond.code ({ cls := "BodySolids", name := "box", desc := "(IJJJJJJ)Z" } : Jvm.MethodName) prog_1_method_3_code (16 : Nat) (Option.some Jvm.ClassFile.FieldType.boolean) ∈ gAll := gm 435 rfl rfl
set_option maxRecDepth 100000 in
theorem wd_436 : Jvm.Cond.methodLink "BodySolids" (79 : Nat) ({ cls := "BodySolids", name := "bodyAt", desc := "(I)LBodySolids$Body;" } : Jvm.MethodName) ∈ gAll := gm 436 rfl rfl
set_option maxRecDepth 100000 in
theorem wd_438 : Jvm.Cond.instanceMethod ({ cls := "BodySolids", name := "bodyAt", desc := "(I)LBodySolids$Body;" } : Jvm.MethodName) ∈ gAll := gm 438 rfl rfl
set_option maxRecDepth 100000 in
theorem wd_439 : Jvm.Cond.code ({ cls := "BodySolids", name := "bodyAt", desc := "(I)LBodySolids$Body;" } : Jvm.MethodName) prog_1_method_25_code (2 : Nat) (Option.some (Jvm.ClassFile.FieldType.object "BodySolids$Body")) ∈ gAll := gm 439 rfl rfl
set_option maxRecDepth 100000 in
theorem wd_440 : Jvm.Cond.methodLink "BodySolids" (190 : Nat) ({ cls := "BodySolids", name := "needIndex", desc := "(II)V" } : Jvm.MethodName) ∈ gAll := gm 440 rfl rfl
set_option maxRecDepth 100000 in
theorem wd_441 : Jvm.Cond.static ({ cls := "BodySolids", name := "needIndex", desc := "(II)V" } : Jvm.MethodName) ∈ gAll := gm 441 rfl rfl
set_option maxRecDepth 100000 in
theorem wd_442 : Jvm.Cond.code ({ cls := "BodySolids", name := "needIndex", desc := "(II)V" } : Jvm.MethodName) prog_1_method_19_code (2 : Nat) (Option.none : Option Jvm.ClassFile.FieldType) ∈ gAll := gm 442 rfl rfl
set_option maxRecDepth 100000 in
theorem wd_443 : Jvm.Cond.classLink "BodySolids" (247 : Nat) "java/lang/IndexOutOfBoundsException" ∈ gAll := gm 443 rfl rfl
set_option maxRecDepth 100000 in
theorem wd_511 : Jvm.Cond.methodLink "BodySolids" (83 : Nat) ({ cls := "BodySolids", name := "needPlace", desc := "(JJ)V" } : Jvm.MethodName) ∈ gAll := gm 511 rfl rfl
set_option maxRecDepth 100000 in
theorem wd_512 : Jvm.Cond.static ({ cls := "BodySolids", name := "needPlace", desc := "(JJ)V" } : Jvm.MethodName) ∈ gAll := gm 512 rfl rfl
set_option maxRecDepth 100000 in
theorem wd_513 : Jvm.Cond.code ({ cls := "BodySolids", name := "needPlace", desc := "(JJ)V" } : Jvm.MethodName) prog_1_method_21_code (4 : Nat) (Option.none : Option Jvm.ClassFile.FieldType) ∈ gAll := gm 513 rfl rfl
set_option maxRecDepth 100000 in
theorem wd_514 : Jvm.Cond.constantLong "BodySolids" (257 : Nat) (-5000 : Int64) ∈ gAll := gm 514 rfl rfl
set_option maxRecDepth 100000 in
theorem wd_515 : Jvm.Cond.constantLong "BodySolids" (148 : Nat) (5000 : Int64) ∈ gAll := gm 515 rfl rfl
set_option maxRecDepth 100000 in
theorem wd_516 : Jvm.Cond.methodLink "BodySolids" (138 : Nat) ({ cls := "BodySolids", name := "needWithin", desc := "(JJJ)V" } : Jvm.MethodName) ∈ gAll := gm 516 rfl rfl
set_option maxRecDepth 100000 in
theorem wd_517 : Jvm.Cond.static ({ cls := "BodySolids", name := "needWithin", desc := "(JJJ)V" } : Jvm.MethodName) ∈ gAll := gm 517 rfl rfl
set_option maxRecDepth 100000 in
theorem wd_518 : Jvm.Cond.code ({ cls := "BodySolids", name := "needWithin", desc := "(JJJ)V" } : Jvm.MethodName) prog_1_method_20_code (6 : Nat) (Option.none : Option Jvm.ClassFile.FieldType) ∈ gAll := gm 518 rfl rfl
set_option maxRecDepth 100000 in
theorem wd_519 : Jvm.Cond.classLink "BodySolids" (252 : Nat) "java/lang/IllegalArgumentException" ∈ gAll := gm 519 rfl rfl
set_option maxRecDepth 100000 in
theorem wd_535 : Jvm.Cond.methodLink "BodySolids" (87 : Nat) ({ cls := "BodySolids", name := "needSize", desc := "(J)V" } : Jvm.MethodName) ∈ gAll := gm 535 rfl rfl
set_option maxRecDepth 100000 in
theorem wd_536 : Jvm.Cond.static ({ cls := "BodySolids", name := "needSize", desc := "(J)V" } : Jvm.MethodName) ∈ gAll := gm 536 rfl rfl
set_option maxRecDepth 100000 in
theorem wd_537 : Jvm.Cond.code ({ cls := "BodySolids", name := "needSize", desc := "(J)V" } : Jvm.MethodName) prog_1_method_22_code (2 : Nat) (Option.none : Option Jvm.ClassFile.FieldType) ∈ gAll := gm 537 rfl rfl
set_option maxRecDepth 100000 in
theorem wd_538 : Jvm.Cond.methodLink "BodySolids" (91 : Nat) ({ cls := "BodySolids", name := "needUpright", desc := "(JJ)V" } : Jvm.MethodName) ∈ gAll := gm 538 rfl rfl
set_option maxRecDepth 100000 in
theorem wd_539 : Jvm.Cond.static ({ cls := "BodySolids", name := "needUpright", desc := "(JJ)V" } : Jvm.MethodName) ∈ gAll := gm 539 rfl rfl
set_option maxRecDepth 100000 in
theorem wd_540 : Jvm.Cond.code ({ cls := "BodySolids", name := "needUpright", desc := "(JJ)V" } : Jvm.MethodName) prog_1_method_23_code (4 : Nat) (Option.none : Option Jvm.ClassFile.FieldType) ∈ gAll := gm 540 rfl rfl
set_option maxRecDepth 100000 in
theorem wd_541 : Jvm.Cond.methodLink "BodySolids" (94 : Nat) ({ cls := "BodySolids$Body", name := "isFull", desc := "()Z" } : Jvm.MethodName) ∈ gAll := gm 541 rfl rfl
set_option maxRecDepth 100000 in
theorem wd_542 : Jvm.Cond.instanceMethod ({ cls := "BodySolids$Body", name := "isFull", desc := "()Z" } : Jvm.MethodName) ∈ gAll := gm 542 rfl rfl
set_option maxRecDepth 100000 in
theorem wd_543 : Jvm.Cond.selects "BodySolids$Body" ({ cls := "BodySolids$Body", name := "isFull", desc := "()Z" } : Jvm.MethodName) ({ cls := "BodySolids$Body", name := "isFull", desc := "()Z" } : Jvm.MethodName) ∈ gAll := gm 543 rfl rfl
set_option maxRecDepth 100000 in
theorem wd_544 : Jvm.Cond.code ({ cls := "BodySolids$Body", name := "isFull", desc := "()Z" } : Jvm.MethodName) prog_2_method_2_code (1 : Nat) (Option.some Jvm.ClassFile.FieldType.boolean) ∈ gAll := gm 544 rfl rfl
set_option maxRecDepth 100000 in
theorem wd_545 : Jvm.Cond.methodLink "BodySolids$Body" (22 : Nat) ({ cls := "java/util/ArrayList", name := "size", desc := "()I" } : Jvm.MethodName) ∈ gAll := gm 545 rfl rfl
set_option maxRecDepth 100000 in
theorem wd_546 : Jvm.Cond.classLink "BodySolids" (98 : Nat) "BodySolids$Solid" ∈ gAll := gm 546 rfl rfl
set_option maxRecDepth 100000 in
theorem wd_547 : Jvm.Cond.methodLinkNest "BodySolids" (100 : Nat) ({ cls := "BodySolids$Solid", name := "<init>", desc := "()V" } : Jvm.MethodName) "BodySolids" ∈ gAll := gm 547 rfl rfl
set_option maxRecDepth 100000 in
theorem wd_548 : Jvm.Cond.methodLink "BodySolids" (101 : Nat) ({ cls := "BodySolids$Solid", name := "begin", desc := "(IJJ)V" } : Jvm.MethodName) ∈ gAll := gm 548 rfl rfl
set_option maxRecDepth 100000 in
theorem wd_549 : Jvm.Cond.methodLink "BodySolids" (105 : Nat) ({ cls := "BodySolids$Solid", name := "addRectangle", desc := "(JJJJ)V" } : Jvm.MethodName) ∈ gAll := gm 549 rfl rfl
set_option maxRecDepth 100000 in
theorem wd_550 : Jvm.Cond.instanceMethod ({ cls := "BodySolids$Solid", name := "addRectangle", desc := "(JJJJ)V" } : Jvm.MethodName) ∈ gAll := gm 550 rfl rfl
set_option maxRecDepth 100000 in
theorem wd_551 : Jvm.Cond.selects "BodySolids$Solid" ({ cls := "BodySolids$Solid", name := "addRectangle", desc := "(JJJJ)V" } : Jvm.MethodName) ({ cls := "BodySolids$Solid", name := "addRectangle", desc := "(JJJJ)V" } : Jvm.MethodName) ∈ gAll := gm 551 rfl rfl
set_option maxRecDepth 100000 in
theorem wd_552 : Jvm.Cond.code ({ cls := "BodySolids$Solid", name := "addRectangle", desc := "(JJJJ)V" } : Jvm.MethodName) prog_7_method_4_code (9 : Nat) (Option.none : Option Jvm.ClassFile.FieldType) ∈ gAll := gm 552 rfl rfl
set_option maxRecDepth 100000 in
theorem wd_553 : Jvm.Cond.methodLink "BodySolids" (109 : Nat) ({ cls := "BodySolids$Solid", name := "setHeights", desc := "(JJ)V" } : Jvm.MethodName) ∈ gAll := gm 553 rfl rfl
set_option maxRecDepth 100000 in
theorem wd_554 : Jvm.Cond.constantLong "BodySolids" (112 : Nat) (226 : Int64) ∈ gAll := gm 554 rfl rfl
set_option maxRecDepth 100000 in
theorem wd_555 : Jvm.Cond.methodLink "BodySolids" (114 : Nat) ({ cls := "BodySolids$Body", name := "add", desc := "(LBodySolids$Solid;J)V" } : Jvm.MethodName) ∈ gAll := gm 555 rfl rfl
set_option maxRecDepth 100000 in
theorem wd_556 : Jvm.Cond.instanceMethod ({ cls := "BodySolids$Body", name := "add", desc := "(LBodySolids$Solid;J)V" } : Jvm.MethodName) ∈ gAll := gm 556 rfl rfl
set_option maxRecDepth 100000 in
theorem wd_557 : Jvm.Cond.selects "BodySolids$Body" ({ cls := "BodySolids$Body", name := "add", desc := "(LBodySolids$Solid;J)V" } : Jvm.MethodName) ({ cls := "BodySolids$Body", name := "add", desc := "(LBodySolids$Solid;J)V" } : Jvm.MethodName) ∈ gAll := gm 557 rfl rfl
set_option maxRecDepth 100000 in
theorem wd_558 : Jvm.Cond.code ({ cls := "BodySolids$Body", name := "add", desc := "(LBodySolids$Solid;J)V" } : Jvm.MethodName) prog_2_method_3_code (4 : Nat) (Option.none : Option Jvm.ClassFile.FieldType) ∈ gAll := gm 558 rfl rfl
set_option maxRecDepth 100000 in
theorem wd_559 : Jvm.Cond.methodLink "BodySolids$Body" (26 : Nat) ({ cls := "java/util/ArrayList", name := "add", desc := "(Ljava/lang/Object;)Z" } : Jvm.MethodName) ∈ gAll := gm 559 rfl rfl
set_option maxRecDepth 100000 in
theorem wd_560 : Jvm.Cond.methodLink "BodySolids" (118 : Nat) ({ cls := "BodySolids", name := "forgetRelationsOf", desc := "(LBodySolids$Body;)V" } : Jvm.MethodName) ∈ gAll := gm 560 rfl rfl
set_option maxRecDepth 100000 in
theorem wd_562 : Jvm.Cond.instanceMethod ({ cls := "BodySolids", name := "forgetRelationsOf", desc := "(LBodySolids$Body;)V" } : Jvm.MethodName) ∈ gAll := gm 562 rfl rfl
set_option maxRecDepth 100000 in
theorem wd_563 : Jvm.Cond.code ({ cls := "BodySolids", name := "forgetRelationsOf", desc := "(LBodySolids$Body;)V" } : Jvm.MethodName) prog_1_method_34_code (3 : Nat) (Option.none : Option Jvm.ClassFile.FieldType) ∈ gAll := gm 563 rfl rfl
set_option maxRecDepth 100000 in
theorem wd_564 : Jvm.Cond.methodLink "BodySolids" (182 : Nat) ({ cls := "BodySolids", name := "forgetRelationsAt", desc := "(I)V" } : Jvm.MethodName) ∈ gAll := gm 564 rfl rfl
set_option maxRecDepth 100000 in
theorem wd_566 : Jvm.Cond.instanceMethod ({ cls := "BodySolids", name := "forgetRelationsAt", desc := "(I)V" } : Jvm.MethodName) ∈ gAll := gm 566 rfl rfl
set_option maxRecDepth 100000 in
theorem wd_567 : Jvm.Cond.code ({ cls := "BodySolids", name := "forgetRelationsAt", desc := "(I)V" } : Jvm.MethodName) prog_1_method_33_code (3 : Nat) (Option.none : Option Jvm.ClassFile.FieldType) ∈ gAll := gm 567 rfl rfl
set_option maxRecDepth 100000 in
theorem wd_575 : Jvm.Cond.methodLink "BodySolids" (122 : Nat) ({ cls := "BodySolids$Solid", name := "addCorner", desc := "(JJ)V" } : Jvm.MethodName) ∈ gAll := gm 575 rfl rfl
set_option maxRecDepth 100000 in
theorem wd_578 : Jvm.Cond.static ({ cls := "BodySolidsLaw", name := "corner", desc := "(LBodySolids;JJ[J)I" } : Jvm.MethodName) ∈ gAll := gm 578 rfl rfl
set_option maxRecDepth 100000 in
theorem wd_579 : Jvm.Cond.codeWith ({ cls := "BodySolidsLaw", name := "corner", desc := "(LBodySolids;JJ[J)I" } : Jvm.MethodName) method_5_code (7 : Nat) (Option.some Jvm.ClassFile.FieldType.int) [((0 : Nat), (18 : Nat), (21 : Nat), (15 : Nat))] ∈ gAll := gm 579 rfl rfl
set_option maxRecDepth 100000 in
theorem wd_580 : Jvm.Cond.methodLink "BodySolidsLaw" (21 : Nat) ({ cls := "BodySolids", name := "corner", desc := "(JJ)Z" } : Jvm.MethodName) ∈ gAll := gm 580 rfl rfl
set_option maxRecDepth 100000 in
theorem wd_581 : Jvm.Cond.instanceMethod ({ cls := "BodySolids", name := "corner", desc := "(JJ)Z" } : Jvm.MethodName) ∈ gAll := gm 581 rfl rfl
set_option maxRecDepth 100000 in
theorem wd_582 : Jvm.Cond.selects "BodySolids" ({ cls := "BodySolids", name := "corner", desc := "(JJ)Z" } : Jvm.MethodName) ({ cls := "BodySolids", name := "corner", desc := "(JJ)Z" } : Jvm.MethodName) ∈ gAll := gm 582 rfl rfl
set_option maxRecDepth 100000 in
theorem wd_583 : Jvm.Cond.code ({ cls := "BodySolids", name := "corner", desc := "(JJ)Z" } : Jvm.MethodName) prog_1_method_5_code (5 : Nat) (Option.some Jvm.ClassFile.FieldType.boolean) ∈ gAll := gm 583 rfl rfl
set_option maxRecDepth 100000 in
theorem wd_585 : Jvm.Cond.static ({ cls := "BodySolidsLaw", name := "prism", desc := "(LBodySolids;IJJ[J)I" } : Jvm.MethodName) ∈ gAll := gm 585 rfl rfl
set_option maxRecDepth 100000 in
theorem wd_586 : Jvm.Cond.codeWith ({ cls := "BodySolidsLaw", name := "prism", desc := "(LBodySolids;IJJ[J)I" } : Jvm.MethodName) method_6_code (8 : Nat) (Option.some Jvm.ClassFile.FieldType.int) [((0 : Nat), (20 : Nat), (23 : Nat), (13 : Nat)), ((0 : Nat), (20 : Nat), (27 : Nat), (15 : Nat))] ∈ gAll := gm 586 rfl rfl
set_option maxRecDepth 100000 in
theorem wd_587 : Jvm.Cond.methodLink "BodySolidsLaw" (25 : Nat) ({ cls := "BodySolids", name := "prism", desc := "(IJJ)Z" } : Jvm.MethodName) ∈ gAll := gm 587 rfl rfl
set_option maxRecDepth 100000 in
theorem wd_588 : Jvm.Cond.instanceMethod ({ cls := "BodySolids", name := "prism", desc := "(IJJ)Z" } : Jvm.MethodName) ∈ gAll := gm 588 rfl rfl
set_option maxRecDepth 100000 in
theorem wd_589 : Jvm.Cond.selects "BodySolids" ({ cls := "BodySolids", name := "prism", desc := "(IJJ)Z" } : Jvm.MethodName) ({ cls := "BodySolids", name := "prism", desc := "(IJJ)Z" } : Jvm.MethodName) ∈ gAll := gm 589 rfl rfl
set_option maxRecDepth 100000 in
theorem wd_590 : Jvm.Cond.code ({ cls := "BodySolids", name := "prism", desc := "(IJJ)Z" } : Jvm.MethodName) prog_1_method_6_code (9 : Nat) (Option.some Jvm.ClassFile.FieldType.boolean) ∈ gAll := gm 590 rfl rfl
set_option maxRecDepth 100000 in
theorem wd_591 : Jvm.Cond.methodLink "BodySolids" (127 : Nat) ({ cls := "BodySolids", name := "cornersMakePolygon", desc := "()Z" } : Jvm.MethodName) ∈ gAll := gm 591 rfl rfl
set_option maxRecDepth 100000 in
theorem wd_593 : Jvm.Cond.instanceMethod ({ cls := "BodySolids", name := "cornersMakePolygon", desc := "()Z" } : Jvm.MethodName) ∈ gAll := gm 593 rfl rfl
set_option maxRecDepth 100000 in
theorem wd_594 : Jvm.Cond.code ({ cls := "BodySolids", name := "cornersMakePolygon", desc := "()Z" } : Jvm.MethodName) prog_1_method_28_code (2 : Nat) (Option.some Jvm.ClassFile.FieldType.boolean) ∈ gAll := gm 594 rfl rfl
set_option maxRecDepth 100000 in
theorem wd_595 : Jvm.Cond.methodLink "BodySolids" (261 : Nat) ({ cls := "BodySolids", name := "othersLieLeftOfSide", desc := "(II)Z" } : Jvm.MethodName) ∈ gAll := gm 595 rfl rfl
set_option maxRecDepth 100000 in
theorem wd_597 : Jvm.Cond.instanceMethod ({ cls := "BodySolids", name := "othersLieLeftOfSide", desc := "(II)Z" } : Jvm.MethodName) ∈ gAll := gm 597 rfl rfl
set_option maxRecDepth 100000 in
theorem wd_598 : Jvm.Cond.code ({ cls := "BodySolids", name := "othersLieLeftOfSide", desc := "(II)Z" } : Jvm.MethodName) prog_1_method_29_code (4 : Nat) (Option.some Jvm.ClassFile.FieldType.boolean) ∈ gAll := gm 598 rfl rfl
set_option maxRecDepth 100000 in
theorem wd_599 : Jvm.Cond.methodLink "BodySolids" (265 : Nat) ({ cls := "BodySolids", name := "turnAt", desc := "(III)J" } : Jvm.MethodName) ∈ gAll := gm 599 rfl rfl
set_option maxRecDepth 100000 in
theorem wd_601 : Jvm.Cond.instanceMethod ({ cls := "BodySolids", name := "turnAt", desc := "(III)J" } : Jvm.MethodName) ∈ gAll := gm 601 rfl rfl
set_option maxRecDepth 100000 in
theorem wd_602 : Jvm.Cond.code ({ cls := "BodySolids", name := "turnAt", desc := "(III)J" } : Jvm.MethodName) prog_1_method_31_code (4 : Nat) (Option.some Jvm.ClassFile.FieldType.long) ∈ gAll := gm 602 rfl rfl
set_option maxRecDepth 100000 in
theorem wd_603 : Jvm.Cond.constantLong "BodySolids" (130 : Nat) (113 : Int64) ∈ gAll := gm 603 rfl rfl
set_option maxRecDepth 100000 in
theorem wd_604 : Jvm.Cond.methodLink "BodySolids" (132 : Nat) ({ cls := "BodySolids", name := "twiceAreaOfCorners", desc := "()J" } : Jvm.MethodName) ∈ gAll := gm 604 rfl rfl
set_option maxRecDepth 100000 in
theorem wd_606 : Jvm.Cond.instanceMethod ({ cls := "BodySolids", name := "twiceAreaOfCorners", desc := "()J" } : Jvm.MethodName) ∈ gAll := gm 606 rfl rfl
set_option maxRecDepth 100000 in
theorem wd_607 : Jvm.Cond.code ({ cls := "BodySolids", name := "twiceAreaOfCorners", desc := "()J" } : Jvm.MethodName) prog_1_method_30_code (4 : Nat) (Option.some Jvm.ClassFile.FieldType.long) ∈ gAll := gm 607 rfl rfl
set_option maxRecDepth 100000 in
theorem wd_617 : Jvm.Cond.constantLong "BodySolids" (144 : Nat) (-10000 : Int64) ∈ gAll := gm 617 rfl rfl
set_option maxRecDepth 100000 in
theorem wd_618 : Jvm.Cond.constantLong "BodySolids" (146 : Nat) (10000 : Int64) ∈ gAll := gm 618 rfl rfl
set_option maxRecDepth 100000 in
theorem wd_623 : Jvm.Cond.static ({ cls := "BodySolidsLaw", name := "join", desc := "(LBodySolids;II[J)I" } : Jvm.MethodName) ∈ gAll := gm 623 rfl rfl
set_option maxRecDepth 100000 in
theorem wd_624 : Jvm.Cond.codeWith ({ cls := "BodySolidsLaw", name := "join", desc := "(LBodySolids;II[J)I" } : Jvm.MethodName) method_8_code (5 : Nat) (Option.some Jvm.ClassFile.FieldType.int) [((0 : Nat), (10 : Nat), (13 : Nat), (13 : Nat))] ∈ gAll := gm 624 rfl rfl
set_option maxRecDepth 100000 in
theorem wd_625 : Jvm.Cond.methodLink "BodySolidsLaw" (33 : Nat) ({ cls := "BodySolids", name := "join", desc := "(II)I" } : Jvm.MethodName) ∈ gAll := gm 625 rfl rfl
set_option maxRecDepth 100000 in
theorem wd_626 : Jvm.Cond.instanceMethod ({ cls := "BodySolids", name := "join", desc := "(II)I" } : Jvm.MethodName) ∈ gAll := gm 626 rfl rfl
set_option maxRecDepth 100000 in
theorem wd_627 : Jvm.Cond.selects "BodySolids" ({ cls := "BodySolids", name := "join", desc := "(II)I" } : Jvm.MethodName) ({ cls := "BodySolids", name := "join", desc := "(II)I" } : Jvm.MethodName) ∈ gAll := gm 627 rfl rfl
set_option maxRecDepth 100000 in
theorem wd_628 : Jvm.Cond.code ({ cls := "BodySolids", name := "join", desc := "(II)I" } : Jvm.MethodName) prog_1_method_8_code (6 : Nat) (Option.some Jvm.ClassFile.FieldType.int) ∈ gAll := gm 628 rfl rfl
set_option maxRecDepth 100000 in
theorem wd_629 : Jvm.Cond.methodLink "BodySolids" (157 : Nat) ({ cls := "BodySolids$Body", name := "addAllOf", desc := "(LBodySolids$Body;)V" } : Jvm.MethodName) ∈ gAll := gm 629 rfl rfl
set_option maxRecDepth 100000 in
theorem wd_630 : Jvm.Cond.instanceMethod ({ cls := "BodySolids$Body", name := "addAllOf", desc := "(LBodySolids$Body;)V" } : Jvm.MethodName) ∈ gAll := gm 630 rfl rfl
set_option maxRecDepth 100000 in
theorem wd_631 : Jvm.Cond.selects "BodySolids$Body" ({ cls := "BodySolids$Body", name := "addAllOf", desc := "(LBodySolids$Body;)V" } : Jvm.MethodName) ({ cls := "BodySolids$Body", name := "addAllOf", desc := "(LBodySolids$Body;)V" } : Jvm.MethodName) ∈ gAll := gm 631 rfl rfl
set_option maxRecDepth 100000 in
theorem wd_632 : Jvm.Cond.code ({ cls := "BodySolids$Body", name := "addAllOf", desc := "(LBodySolids$Body;)V" } : Jvm.MethodName) prog_2_method_4_code (3 : Nat) (Option.none : Option Jvm.ClassFile.FieldType) ∈ gAll := gm 632 rfl rfl
set_option maxRecDepth 100000 in
theorem wd_633 : Jvm.Cond.methodLink "BodySolids$Body" (30 : Nat) ({ cls := "java/util/ArrayList", name := "get", desc := "(I)Ljava/lang/Object;" } : Jvm.MethodName) ∈ gAll := gm 633 rfl rfl
set_option maxRecDepth 100000 in
theorem wd_634 : Jvm.Cond.classLink "BodySolids$Body" (34 : Nat) "BodySolids$Solid" ∈ gAll := gm 634 rfl rfl
set_option maxRecDepth 100000 in
theorem wd_636 : Jvm.Cond.static ({ cls := "BodySolidsLaw", name := "place", desc := "(LBodySolids;IJJII[J)I" } : Jvm.MethodName) ∈ gAll := gm 636 rfl rfl
set_option maxRecDepth 100000 in
theorem wd_637 : Jvm.Cond.codeWith ({ cls := "BodySolidsLaw", name := "place", desc := "(LBodySolids;IJJII[J)I" } : Jvm.MethodName) method_9_code (10 : Nat) (Option.some Jvm.ClassFile.FieldType.int) [((0 : Nat), (17 : Nat), (20 : Nat), (13 : Nat)), ((0 : Nat), (17 : Nat), (24 : Nat), (15 : Nat))] ∈ gAll := gm 637 rfl rfl
set_option maxRecDepth 100000 in
theorem wd_638 : Jvm.Cond.methodLink "BodySolidsLaw" (37 : Nat) ({ cls := "BodySolids", name := "place", desc := "(IJJII)I" } : Jvm.MethodName) ∈ gAll := gm 638 rfl rfl
set_option maxRecDepth 100000 in
theorem wd_639 : Jvm.Cond.instanceMethod ({ cls := "BodySolids", name := "place", desc := "(IJJII)I" } : Jvm.MethodName) ∈ gAll := gm 639 rfl rfl
set_option maxRecDepth 100000 in
theorem wd_640 : Jvm.Cond.selects "BodySolids" ({ cls := "BodySolids", name := "place", desc := "(IJJII)I" } : Jvm.MethodName) ({ cls := "BodySolids", name := "place", desc := "(IJJII)I" } : Jvm.MethodName) ∈ gAll := gm 640 rfl rfl
set_option maxRecDepth 100000 in
theorem wd_641 : Jvm.Cond.code ({ cls := "BodySolids", name := "place", desc := "(IJJII)I" } : Jvm.MethodName) prog_1_method_9_code (11 : Nat) (Option.some Jvm.ClassFile.FieldType.int) ∈ gAll := gm 641 rfl rfl
set_option maxRecDepth 100000 in
theorem wd_642 : Jvm.Cond.methodLink "BodySolids" (160 : Nat) ({ cls := "BodySolids", name := "needPosition", desc := "(JJII)V" } : Jvm.MethodName) ∈ gAll := gm 642 rfl rfl
set_option maxRecDepth 100000 in
theorem wd_643 : Jvm.Cond.static ({ cls := "BodySolids", name := "needPosition", desc := "(JJII)V" } : Jvm.MethodName) ∈ gAll := gm 643 rfl rfl
set_option maxRecDepth 100000 in
theorem wd_644 : Jvm.Cond.code ({ cls := "BodySolids", name := "needPosition", desc := "(JJII)V" } : Jvm.MethodName) prog_1_method_24_code (6 : Nat) (Option.none : Option Jvm.ClassFile.FieldType) ∈ gAll := gm 644 rfl rfl
set_option maxRecDepth 100000 in
theorem wd_645 : Jvm.Cond.constantLong "BodySolids" (259 : Nat) (3 : Int64) ∈ gAll := gm 645 rfl rfl
set_option maxRecDepth 100000 in
theorem wd_646 : Jvm.Cond.instantiable "BodySolids$Placement" (5 : Nat) ∈ gAll := gm 646 rfl rfl
set_option maxRecDepth 100000 in
theorem wd_647 : Jvm.Cond.methodLink "BodySolids" (166 : Nat) ({ cls := "BodySolids$Placement", name := "<init>", desc := "(LBodySolids$Body;)V" } : Jvm.MethodName) ∈ gAll := gm 647 rfl rfl
set_option maxRecDepth 100000 in
theorem wd_648 : Jvm.Cond.instanceMethod ({ cls := "BodySolids$Placement", name := "<init>", desc := "(LBodySolids$Body;)V" } : Jvm.MethodName) ∈ gAll := gm 648 rfl rfl
set_option maxRecDepth 100000 in
theorem wd_649 : Jvm.Cond.code ({ cls := "BodySolids$Placement", name := "<init>", desc := "(LBodySolids$Body;)V" } : Jvm.MethodName) prog_6_method_1_code (2 : Nat) (Option.none : Option Jvm.ClassFile.FieldType) ∈ gAll := gm 649 rfl rfl
set_option maxRecDepth 100000 in
theorem wd_650 : Jvm.Cond.methodLink "BodySolids$Placement" (1 : Nat) ({ cls := "java/lang/Object", name := "<init>", desc := "()V" } : Jvm.MethodName) ∈ gAll := gm 650 rfl rfl
set_option maxRecDepth 100000 in
theorem wd_651 : Jvm.Cond.fieldLink "BodySolids$Placement" (7 : Nat) "BodySolids$Placement" "body" "LBodySolids$Body;" ∈ gAll := gm 651 rfl rfl
set_option maxRecDepth 100000 in
theorem wd_652 : Jvm.Cond.fieldLink "BodySolids$Layout" (22 : Nat) "BodySolids$Placement" "body" "LBodySolids$Body;" ∈ gAll := gm 652 rfl rfl
set_option maxRecDepth 100000 in
theorem wd_653 : Jvm.Cond.fieldLink "BodySolids" (275 : Nat) "BodySolids$Placement" "body" "LBodySolids$Body;" ∈ gAll := gm 653 rfl rfl
set_option maxRecDepth 100000 in
theorem wd_654 : Jvm.Cond.fieldLink "BodySolids$Placement" (13 : Nat) "BodySolids$Placement" "x" "J" ∈ gAll := gm 654 rfl rfl
set_option maxRecDepth 100000 in
theorem wd_655 : Jvm.Cond.fieldLink "BodySolids$Placement" (17 : Nat) "BodySolids$Placement" "y" "J" ∈ gAll := gm 655 rfl rfl
set_option maxRecDepth 100000 in
theorem wd_656 : Jvm.Cond.fieldLink "BodySolids$Placement" (20 : Nat) "BodySolids$Placement" "turn" "I" ∈ gAll := gm 656 rfl rfl
set_option maxRecDepth 100000 in
theorem wd_657 : Jvm.Cond.fieldLink "BodySolids$Placement" (24 : Nat) "BodySolids$Placement" "side" "I" ∈ gAll := gm 657 rfl rfl
set_option maxRecDepth 100000 in
theorem wd_658 : Jvm.Cond.fieldLink "BodySolids$Solid" (67 : Nat) "BodySolids$Placement" "side" "I" ∈ gAll := gm 658 rfl rfl
set_option maxRecDepth 100000 in
theorem wd_671 : Jvm.Cond.methodLink "BodySolids" (168 : Nat) ({ cls := "BodySolids$Placement", name := "goTo", desc := "(JJII)V" } : Jvm.MethodName) ∈ gAll := gm 671 rfl rfl
set_option maxRecDepth 100000 in
theorem wd_672 : Jvm.Cond.instanceMethod ({ cls := "BodySolids$Placement", name := "goTo", desc := "(JJII)V" } : Jvm.MethodName) ∈ gAll := gm 672 rfl rfl
set_option maxRecDepth 100000 in
theorem wd_673 : Jvm.Cond.selects "BodySolids$Placement" ({ cls := "BodySolids$Placement", name := "goTo", desc := "(JJII)V" } : Jvm.MethodName) ({ cls := "BodySolids$Placement", name := "goTo", desc := "(JJII)V" } : Jvm.MethodName) ∈ gAll := gm 673 rfl rfl
set_option maxRecDepth 100000 in
theorem wd_674 : Jvm.Cond.code ({ cls := "BodySolids$Placement", name := "goTo", desc := "(JJII)V" } : Jvm.MethodName) prog_6_method_3_code (7 : Nat) (Option.none : Option Jvm.ClassFile.FieldType) ∈ gAll := gm 674 rfl rfl
set_option maxRecDepth 100000 in
theorem wd_698 : Jvm.Cond.static ({ cls := "BodySolidsLaw", name := "pair", desc := "(LBodySolids;II[J)I" } : Jvm.MethodName) ∈ gAll := gm 698 rfl rfl
set_option maxRecDepth 100000 in
theorem wd_699 : Jvm.Cond.codeWith ({ cls := "BodySolidsLaw", name := "pair", desc := "(LBodySolids;II[J)I" } : Jvm.MethodName) method_12_code (5 : Nat) (Option.some Jvm.ClassFile.FieldType.int) [((0 : Nat), (10 : Nat), (13 : Nat), (13 : Nat))] ∈ gAll := gm 699 rfl rfl
set_option maxRecDepth 100000 in
theorem wd_700 : Jvm.Cond.methodLink "BodySolidsLaw" (48 : Nat) ({ cls := "BodySolids", name := "pair", desc := "(II)I" } : Jvm.MethodName) ∈ gAll := gm 700 rfl rfl
set_option maxRecDepth 100000 in
theorem wd_701 : Jvm.Cond.instanceMethod ({ cls := "BodySolids", name := "pair", desc := "(II)I" } : Jvm.MethodName) ∈ gAll := gm 701 rfl rfl
set_option maxRecDepth 100000 in
theorem wd_702 : Jvm.Cond.selects "BodySolids" ({ cls := "BodySolids", name := "pair", desc := "(II)I" } : Jvm.MethodName) ({ cls := "BodySolids", name := "pair", desc := "(II)I" } : Jvm.MethodName) ∈ gAll := gm 702 rfl rfl
set_option maxRecDepth 100000 in
theorem wd_703 : Jvm.Cond.code ({ cls := "BodySolids", name := "pair", desc := "(II)I" } : Jvm.MethodName) prog_1_method_13_code (6 : Nat) (Option.some Jvm.ClassFile.FieldType.int) ∈ gAll := gm 703 rfl rfl
set_option maxRecDepth 100000 in
theorem wd_714 : Jvm.Cond.instantiable "BodySolids$KeepOut" (2 : Nat) ∈ gAll := gm 714 rfl rfl
set_option maxRecDepth 100000 in
theorem wd_780 : Jvm.Cond.instantiable "BodySolidsModel" (27 : Nat) ∈ gAll := gm 780 rfl rfl
set_option maxRecDepth 100000 in
theorem wd_782 : Jvm.Cond.instanceMethod ({ cls := "BodySolidsModel", name := "<init>", desc := "(J)V" } : Jvm.MethodName) ∈ gAll := gm 782 rfl rfl
set_option maxRecDepth 100000 in
theorem wd_783 : Jvm.Cond.code ({ cls := "BodySolidsModel", name := "<init>", desc := "(J)V" } : Jvm.MethodName) prog_9_method_1_code (3 : Nat) (Option.none : Option Jvm.ClassFile.FieldType) ∈ gAll := gm 783 rfl rfl
set_option maxRecDepth 100000 in
theorem wd_784 : Jvm.Cond.methodLink "BodySolidsModel" (1 : Nat) ({ cls := "java/lang/Object", name := "<init>", desc := "()V" } : Jvm.MethodName) ∈ gAll := gm 784 rfl rfl
set_option maxRecDepth 100000 in
theorem wd_785 : Jvm.Cond.constantLong "BodySolidsModel" (74 : Nat) (1000 : Int64) ∈ gAll := gm 785 rfl rfl
set_option maxRecDepth 100000 in
theorem wd_786 : Jvm.Cond.fieldLink "BodySolidsModel" (80 : Nat) "BodySolidsModel" "thrown" "I" ∈ gAll := gm 786 rfl rfl
set_option maxRecDepth 100000 in
theorem wd_787 : Jvm.Cond.fieldLink "BodySolidsModel" (76 : Nat) "BodySolidsModel" "thickness" "J" ∈ gAll := gm 787 rfl rfl
set_option maxRecDepth 100000 in
theorem wd_788 : Jvm.Cond.fieldLink "BodySolidsModel" (92 : Nat) "BodySolidsModel" "bodies" "I" ∈ gAll := gm 788 rfl rfl
set_option maxRecDepth 100000 in
theorem wd_789 : Jvm.Cond.fieldLink "BodySolidsModel" (7 : Nat) "BodySolidsModel" "counts" "[I" ∈ gAll := gm 789 rfl rfl
set_option maxRecDepth 100000 in
theorem wd_790 : Jvm.Cond.fieldLink "BodySolidsModel" (13 : Nat) "BodySolidsModel" "kinds" "[I" ∈ gAll := gm 790 rfl rfl
set_option maxRecDepth 100000 in
theorem wd_791 : Jvm.Cond.fieldLink "BodySolidsModel" (16 : Nat) "BodySolidsModel" "numbers" "[J" ∈ gAll := gm 791 rfl rfl
set_option maxRecDepth 100000 in
theorem wd_792 : Jvm.Cond.fieldLink "BodySolidsModel" (20 : Nat) "BodySolidsModel" "cornerCounts" "[I" ∈ gAll := gm 792 rfl rfl
set_option maxRecDepth 100000 in
theorem wd_793 : Jvm.Cond.fieldLink "BodySolidsModel" (23 : Nat) "BodySolidsModel" "cornerX" "[J" ∈ gAll := gm 793 rfl rfl
set_option maxRecDepth 100000 in
theorem wd_794 : Jvm.Cond.fieldLink "BodySolidsModel" (26 : Nat) "BodySolidsModel" "cornerY" "[J" ∈ gAll := gm 794 rfl rfl
set_option maxRecDepth 100000 in
theorem wd_795 : Jvm.Cond.fieldLink "BodySolidsModel" (121 : Nat) "BodySolidsModel" "told" "I" ∈ gAll := gm 795 rfl rfl
set_option maxRecDepth 100000 in
theorem wd_796 : Jvm.Cond.fieldLink "BodySolidsModel" (29 : Nat) "BodySolidsModel" "toldX" "[J" ∈ gAll := gm 796 rfl rfl
set_option maxRecDepth 100000 in
theorem wd_797 : Jvm.Cond.fieldLink "BodySolidsModel" (32 : Nat) "BodySolidsModel" "toldY" "[J" ∈ gAll := gm 797 rfl rfl
set_option maxRecDepth 100000 in
theorem wd_798 : Jvm.Cond.fieldLink "BodySolidsModel" (95 : Nat) "BodySolidsModel" "places" "I" ∈ gAll := gm 798 rfl rfl
set_option maxRecDepth 100000 in
theorem wd_799 : Jvm.Cond.fieldLink "BodySolidsModel" (35 : Nat) "BodySolidsModel" "placed" "[I" ∈ gAll := gm 799 rfl rfl
set_option maxRecDepth 100000 in
theorem wd_800 : Jvm.Cond.fieldLink "BodySolidsModel" (38 : Nat) "BodySolidsModel" "placeX" "[J" ∈ gAll := gm 800 rfl rfl
set_option maxRecDepth 100000 in
theorem wd_801 : Jvm.Cond.fieldLink "BodySolidsModel" (41 : Nat) "BodySolidsModel" "placeY" "[J" ∈ gAll := gm 801 rfl rfl
set_option maxRecDepth 100000 in
theorem wd_802 : Jvm.Cond.fieldLink "BodySolidsModel" (44 : Nat) "BodySolidsModel" "turns" "[I" ∈ gAll := gm 802 rfl rfl
set_option maxRecDepth 100000 in
theorem wd_803 : Jvm.Cond.fieldLink "BodySolidsModel" (47 : Nat) "BodySolidsModel" "sides" "[I" ∈ gAll := gm 803 rfl rfl
set_option maxRecDepth 100000 in
theorem wd_805 : Jvm.Cond.fieldLink "BodySolidsModel" (50 : Nat) "BodySolidsModel" "out" "[J" ∈ gAll := gm 805 rfl rfl
set_option maxRecDepth 100000 in
theorem wd_806 : Jvm.Cond.fieldLink "BodySolidsModel" (53 : Nat) "BodySolidsModel" "kindAt" "[I" ∈ gAll := gm 806 rfl rfl
set_option maxRecDepth 100000 in
theorem wd_807 : Jvm.Cond.fieldLink "BodySolidsModel" (56 : Nat) "BodySolidsModel" "many" "[I" ∈ gAll := gm 807 rfl rfl
set_option maxRecDepth 100000 in
theorem wd_808 : Jvm.Cond.fieldLink "BodySolidsModel" (59 : Nat) "BodySolidsModel" "px" "[J" ∈ gAll := gm 808 rfl rfl
set_option maxRecDepth 100000 in
theorem wd_809 : Jvm.Cond.fieldLink "BodySolidsModel" (62 : Nat) "BodySolidsModel" "py" "[J" ∈ gAll := gm 809 rfl rfl
set_option maxRecDepth 100000 in
theorem wd_810 : Jvm.Cond.fieldLink "BodySolidsModel" (65 : Nat) "BodySolidsModel" "radius" "[J" ∈ gAll := gm 810 rfl rfl
set_option maxRecDepth 100000 in
theorem wd_811 : Jvm.Cond.fieldLink "BodySolidsModel" (68 : Nat) "BodySolidsModel" "low" "[J" ∈ gAll := gm 811 rfl rfl
set_option maxRecDepth 100000 in
theorem wd_812 : Jvm.Cond.fieldLink "BodySolidsModel" (71 : Nat) "BodySolidsModel" "high" "[J" ∈ gAll := gm 812 rfl rfl
set_option maxRecDepth 100000 in
theorem wd_869 : Jvm.Cond.instanceMethod ({ cls := "BodySolidsModel", name := "thrown", desc := "()I" } : Jvm.MethodName) ∈ gAll := gm 869 rfl rfl
set_option maxRecDepth 100000 in
theorem wd_871 : Jvm.Cond.code ({ cls := "BodySolidsModel", name := "thrown", desc := "()I" } : Jvm.MethodName) prog_9_method_2_code (1 : Nat) (Option.some Jvm.ClassFile.FieldType.int) ∈ gAll := gm 871 rfl rfl
set_option maxRecDepth 100000 in
theorem wd_873 : Jvm.Cond.instanceMethod ({ cls := "BodySolidsModel", name := "body", desc := "()I" } : Jvm.MethodName) ∈ gAll := gm 873 rfl rfl
set_option maxRecDepth 100000 in
theorem wd_875 : Jvm.Cond.code ({ cls := "BodySolidsModel", name := "body", desc := "()I" } : Jvm.MethodName) prog_9_method_7_code (1 : Nat) (Option.some Jvm.ClassFile.FieldType.int) ∈ gAll := gm 875 rfl rfl
set_option maxRecDepth 100000 in
theorem wd_877 : Jvm.Cond.instanceMethod ({ cls := "BodySolidsModel", name := "box", desc := "(IJJJJJJ)Z" } : Jvm.MethodName) ∈ gAll := gm 877 rfl rfl
set_option maxRecDepth 100000 in
theorem wd_879 : Jvm.Cond.code ({ cls := "BodySolidsModel", name := "box", desc := "(IJJJJJJ)Z" } : Jvm.MethodName) prog_9_method_13_code (16 : Nat) (Option.some Jvm.ClassFile.FieldType.boolean) ∈ gAll := gm 879 rfl rfl
set_option maxRecDepth 100000 in
theorem wd_880 : Jvm.Cond.methodLink "BodySolidsModel" (102 : Nat) ({ cls := "BodySolidsModel", name := "isPlace", desc := "(JJ)Z" } : Jvm.MethodName) ∈ gAll := gm 880 rfl rfl
set_option maxRecDepth 100000 in
theorem wd_881 : Jvm.Cond.static ({ cls := "BodySolidsModel", name := "isPlace", desc := "(JJ)Z" } : Jvm.MethodName) ∈ gAll := gm 881 rfl rfl
set_option maxRecDepth 100000 in
theorem wd_882 : Jvm.Cond.code ({ cls := "BodySolidsModel", name := "isPlace", desc := "(JJ)Z" } : Jvm.MethodName) prog_9_method_4_code (4 : Nat) (Option.some Jvm.ClassFile.FieldType.boolean) ∈ gAll := gm 882 rfl rfl
set_option maxRecDepth 100000 in
theorem wd_883 : Jvm.Cond.constantLong "BodySolidsModel" (84 : Nat) (-5000 : Int64) ∈ gAll := gm 883 rfl rfl
set_option maxRecDepth 100000 in
theorem wd_884 : Jvm.Cond.constantLong "BodySolidsModel" (86 : Nat) (5000 : Int64) ∈ gAll := gm 884 rfl rfl
set_option maxRecDepth 100000 in
theorem wd_885 : Jvm.Cond.methodLink "BodySolidsModel" (88 : Nat) ({ cls := "BodySolidsModel", name := "within", desc := "(JJJ)Z" } : Jvm.MethodName) ∈ gAll := gm 885 rfl rfl
set_option maxRecDepth 100000 in
theorem wd_886 : Jvm.Cond.static ({ cls := "BodySolidsModel", name := "within", desc := "(JJJ)Z" } : Jvm.MethodName) ∈ gAll := gm 886 rfl rfl
set_option maxRecDepth 100000 in
theorem wd_887 : Jvm.Cond.code ({ cls := "BodySolidsModel", name := "within", desc := "(JJJ)Z" } : Jvm.MethodName) prog_9_method_3_code (6 : Nat) (Option.some Jvm.ClassFile.FieldType.boolean) ∈ gAll := gm 887 rfl rfl
set_option maxRecDepth 100000 in
theorem wd_888 : Jvm.Cond.methodLink "BodySolidsModel" (98 : Nat) ({ cls := "BodySolidsModel", name := "isLong", desc := "(J)Z" } : Jvm.MethodName) ∈ gAll := gm 888 rfl rfl
set_option maxRecDepth 100000 in
theorem wd_889 : Jvm.Cond.static ({ cls := "BodySolidsModel", name := "isLong", desc := "(J)Z" } : Jvm.MethodName) ∈ gAll := gm 889 rfl rfl
set_option maxRecDepth 100000 in
theorem wd_890 : Jvm.Cond.code ({ cls := "BodySolidsModel", name := "isLong", desc := "(J)Z" } : Jvm.MethodName) prog_9_method_11_code (2 : Nat) (Option.some Jvm.ClassFile.FieldType.boolean) ∈ gAll := gm 890 rfl rfl
set_option maxRecDepth 100000 in
theorem wd_891 : Jvm.Cond.methodLink "BodySolidsModel" (106 : Nat) ({ cls := "BodySolidsModel", name := "isUpright", desc := "(JJ)Z" } : Jvm.MethodName) ∈ gAll := gm 891 rfl rfl
set_option maxRecDepth 100000 in
theorem wd_892 : Jvm.Cond.static ({ cls := "BodySolidsModel", name := "isUpright", desc := "(JJ)Z" } : Jvm.MethodName) ∈ gAll := gm 892 rfl rfl
set_option maxRecDepth 100000 in
theorem wd_893 : Jvm.Cond.code ({ cls := "BodySolidsModel", name := "isUpright", desc := "(JJ)Z" } : Jvm.MethodName) prog_9_method_12_code (4 : Nat) (Option.some Jvm.ClassFile.FieldType.boolean) ∈ gAll := gm 893 rfl rfl
set_option maxRecDepth 100000 in
theorem wd_894 : Jvm.Cond.methodLink "BodySolidsModel" (109 : Nat) ({ cls := "BodySolidsModel", name := "isBody", desc := "(I)Z" } : Jvm.MethodName) ∈ gAll := gm 894 rfl rfl
set_option maxRecDepth 100000 in
theorem wd_896 : Jvm.Cond.instanceMethod ({ cls := "BodySolidsModel", name := "isBody", desc := "(I)Z" } : Jvm.MethodName) ∈ gAll := gm 896 rfl rfl
set_option maxRecDepth 100000 in
theorem wd_897 : Jvm.Cond.code ({ cls := "BodySolidsModel", name := "isBody", desc := "(I)Z" } : Jvm.MethodName) prog_9_method_5_code (2 : Nat) (Option.some Jvm.ClassFile.FieldType.boolean) ∈ gAll := gm 897 rfl rfl
set_option maxRecDepth 100000 in
theorem wd_898 : Jvm.Cond.methodLink "BodySolidsModel" (113 : Nat) ({ cls := "BodySolidsModel", name := "fresh", desc := "(II)I" } : Jvm.MethodName) ∈ gAll := gm 898 rfl rfl
set_option maxRecDepth 100000 in
theorem wd_900 : Jvm.Cond.instanceMethod ({ cls := "BodySolidsModel", name := "fresh", desc := "(II)I" } : Jvm.MethodName) ∈ gAll := gm 900 rfl rfl
set_option maxRecDepth 100000 in
theorem wd_901 : Jvm.Cond.code ({ cls := "BodySolidsModel", name := "fresh", desc := "(II)I" } : Jvm.MethodName) prog_9_method_8_code (4 : Nat) (Option.some Jvm.ClassFile.FieldType.int) ∈ gAll := gm 901 rfl rfl
set_option maxRecDepth 100000 in
theorem wd_902 : Jvm.Cond.methodLink "BodySolidsModel" (117 : Nat) ({ cls := "BodySolidsModel", name := "tell", desc := "(IIJ)V" } : Jvm.MethodName) ∈ gAll := gm 902 rfl rfl
set_option maxRecDepth 100000 in
theorem wd_904 : Jvm.Cond.instanceMethod ({ cls := "BodySolidsModel", name := "tell", desc := "(IIJ)V" } : Jvm.MethodName) ∈ gAll := gm 904 rfl rfl
set_option maxRecDepth 100000 in
theorem wd_905 : Jvm.Cond.code ({ cls := "BodySolidsModel", name := "tell", desc := "(IIJ)V" } : Jvm.MethodName) prog_9_method_9_code (5 : Nat) (Option.none : Option Jvm.ClassFile.FieldType) ∈ gAll := gm 905 rfl rfl
set_option maxRecDepth 100000 in
theorem wd_911 : Jvm.Cond.instanceMethod ({ cls := "BodySolidsModel", name := "corner", desc := "(JJ)Z" } : Jvm.MethodName) ∈ gAll := gm 911 rfl rfl
set_option maxRecDepth 100000 in
theorem wd_913 : Jvm.Cond.code ({ cls := "BodySolidsModel", name := "corner", desc := "(JJ)Z" } : Jvm.MethodName) prog_9_method_15_code (5 : Nat) (Option.some Jvm.ClassFile.FieldType.boolean) ∈ gAll := gm 913 rfl rfl
set_option maxRecDepth 100000 in
theorem wd_915 : Jvm.Cond.instanceMethod ({ cls := "BodySolidsModel", name := "prism", desc := "(IJJ)Z" } : Jvm.MethodName) ∈ gAll := gm 915 rfl rfl
set_option maxRecDepth 100000 in
theorem wd_917 : Jvm.Cond.code ({ cls := "BodySolidsModel", name := "prism", desc := "(IJJ)Z" } : Jvm.MethodName) prog_9_method_18_code (10 : Nat) (Option.some Jvm.ClassFile.FieldType.boolean) ∈ gAll := gm 917 rfl rfl
set_option maxRecDepth 100000 in
theorem wd_918 : Jvm.Cond.methodLink "BodySolidsModel" (128 : Nat) ({ cls := "BodySolidsModel", name := "isRound", desc := "()Z" } : Jvm.MethodName) ∈ gAll := gm 918 rfl rfl
set_option maxRecDepth 100000 in
theorem wd_920 : Jvm.Cond.instanceMethod ({ cls := "BodySolidsModel", name := "isRound", desc := "()Z" } : Jvm.MethodName) ∈ gAll := gm 920 rfl rfl
set_option maxRecDepth 100000 in
theorem wd_921 : Jvm.Cond.code ({ cls := "BodySolidsModel", name := "isRound", desc := "()Z" } : Jvm.MethodName) prog_9_method_17_code (4 : Nat) (Option.some Jvm.ClassFile.FieldType.boolean) ∈ gAll := gm 921 rfl rfl
set_option maxRecDepth 100000 in
theorem wd_922 : Jvm.Cond.methodLink "BodySolidsModel" (124 : Nat) ({ cls := "BodySolidsModel", name := "cross", desc := "(JJJJJJ)J" } : Jvm.MethodName) ∈ gAll := gm 922 rfl rfl
set_option maxRecDepth 100000 in
theorem wd_923 : Jvm.Cond.static ({ cls := "BodySolidsModel", name := "cross", desc := "(JJJJJJ)J" } : Jvm.MethodName) ∈ gAll := gm 923 rfl rfl
set_option maxRecDepth 100000 in
theorem wd_924 : Jvm.Cond.code ({ cls := "BodySolidsModel", name := "cross", desc := "(JJJJJJ)J" } : Jvm.MethodName) prog_9_method_16_code (12 : Nat) (Option.some Jvm.ClassFile.FieldType.long) ∈ gAll := gm 924 rfl rfl
set_option maxRecDepth 100000 in
theorem wd_930 : Jvm.Cond.constantLong "BodySolidsModel" (134 : Nat) (-10000 : Int64) ∈ gAll := gm 930 rfl rfl
set_option maxRecDepth 100000 in
theorem wd_931 : Jvm.Cond.constantLong "BodySolidsModel" (136 : Nat) (10000 : Int64) ∈ gAll := gm 931 rfl rfl
set_option maxRecDepth 100000 in
theorem wd_933 : Jvm.Cond.instanceMethod ({ cls := "BodySolidsModel", name := "join", desc := "(II)I" } : Jvm.MethodName) ∈ gAll := gm 933 rfl rfl
set_option maxRecDepth 100000 in
theorem wd_935 : Jvm.Cond.code ({ cls := "BodySolidsModel", name := "join", desc := "(II)I" } : Jvm.MethodName) prog_9_method_21_code (5 : Nat) (Option.some Jvm.ClassFile.FieldType.int) ∈ gAll := gm 935 rfl rfl
set_option maxRecDepth 100000 in
theorem wd_936 : Jvm.Cond.methodLink "BodySolidsModel" (138 : Nat) ({ cls := "BodySolidsModel", name := "copy", desc := "(II)V" } : Jvm.MethodName) ∈ gAll := gm 936 rfl rfl
set_option maxRecDepth 100000 in
theorem wd_938 : Jvm.Cond.instanceMethod ({ cls := "BodySolidsModel", name := "copy", desc := "(II)V" } : Jvm.MethodName) ∈ gAll := gm 938 rfl rfl
set_option maxRecDepth 100000 in
theorem wd_939 : Jvm.Cond.code ({ cls := "BodySolidsModel", name := "copy", desc := "(II)V" } : Jvm.MethodName) prog_9_method_20_code (4 : Nat) (Option.none : Option Jvm.ClassFile.FieldType) ∈ gAll := gm 939 rfl rfl
set_option maxRecDepth 100000 in
theorem wd_941 : Jvm.Cond.instanceMethod ({ cls := "BodySolidsModel", name := "place", desc := "(IJJII)I" } : Jvm.MethodName) ∈ gAll := gm 941 rfl rfl
set_option maxRecDepth 100000 in
theorem wd_943 : Jvm.Cond.code ({ cls := "BodySolidsModel", name := "place", desc := "(IJJII)I" } : Jvm.MethodName) prog_9_method_24_code (8 : Nat) (Option.some Jvm.ClassFile.FieldType.int) ∈ gAll := gm 943 rfl rfl
set_option maxRecDepth 100000 in
theorem wd_944 : Jvm.Cond.methodLink "BodySolidsModel" (142 : Nat) ({ cls := "BodySolidsModel", name := "isSpot", desc := "(JJII)Z" } : Jvm.MethodName) ∈ gAll := gm 944 rfl rfl
set_option maxRecDepth 100000 in
theorem wd_945 : Jvm.Cond.static ({ cls := "BodySolidsModel", name := "isSpot", desc := "(JJII)Z" } : Jvm.MethodName) ∈ gAll := gm 945 rfl rfl
set_option maxRecDepth 100000 in
theorem wd_946 : Jvm.Cond.code ({ cls := "BodySolidsModel", name := "isSpot", desc := "(JJII)Z" } : Jvm.MethodName) prog_9_method_22_code (6 : Nat) (Option.some Jvm.ClassFile.FieldType.boolean) ∈ gAll := gm 946 rfl rfl
set_option maxRecDepth 100000 in
theorem wd_947 : Jvm.Cond.methodLink "BodySolidsModel" (146 : Nat) ({ cls := "BodySolidsModel", name := "set", desc := "(IJJII)V" } : Jvm.MethodName) ∈ gAll := gm 947 rfl rfl
set_option maxRecDepth 100000 in
theorem wd_949 : Jvm.Cond.instanceMethod ({ cls := "BodySolidsModel", name := "set", desc := "(IJJII)V" } : Jvm.MethodName) ∈ gAll := gm 949 rfl rfl
set_option maxRecDepth 100000 in
theorem wd_950 : Jvm.Cond.code ({ cls := "BodySolidsModel", name := "set", desc := "(IJJII)V" } : Jvm.MethodName) prog_9_method_23_code (8 : Nat) (Option.none : Option Jvm.ClassFile.FieldType) ∈ gAll := gm 950 rfl rfl
set_option maxRecDepth 100000 in
theorem wd_963 : Jvm.Cond.methodLink "BodySolidsModel" (259 : Nat) ({ cls := "BodySolidsModel", name := "meet", desc := "(II)I" } : Jvm.MethodName) ∈ gAll := gm 963 rfl rfl
set_option maxRecDepth 100000 in
theorem wd_965 : Jvm.Cond.instanceMethod ({ cls := "BodySolidsModel", name := "meet", desc := "(II)I" } : Jvm.MethodName) ∈ gAll := gm 965 rfl rfl
set_option maxRecDepth 100000 in
theorem wd_966 : Jvm.Cond.code ({ cls := "BodySolidsModel", name := "meet", desc := "(II)I" } : Jvm.MethodName) prog_9_method_52_code (7 : Nat) (Option.some Jvm.ClassFile.FieldType.int) ∈ gAll := gm 966 rfl rfl
set_option maxRecDepth 100000 in
theorem wd_967 : Jvm.Cond.methodLink "BodySolidsModel" (252 : Nat) ({ cls := "BodySolidsModel", name := "lay", desc := "(III)V" } : Jvm.MethodName) ∈ gAll := gm 967 rfl rfl
set_option maxRecDepth 100000 in
theorem wd_969 : Jvm.Cond.instanceMethod ({ cls := "BodySolidsModel", name := "lay", desc := "(III)V" } : Jvm.MethodName) ∈ gAll := gm 969 rfl rfl
set_option maxRecDepth 100000 in
theorem wd_970 : Jvm.Cond.code ({ cls := "BodySolidsModel", name := "lay", desc := "(III)V" } : Jvm.MethodName) prog_9_method_32_code (12 : Nat) (Option.none : Option Jvm.ClassFile.FieldType) ∈ gAll := gm 970 rfl rfl
set_option maxRecDepth 100000 in
theorem wd_971 : Jvm.Cond.methodLink "BodySolidsModel" (164 : Nat) ({ cls := "BodySolidsModel", name := "of", desc := "(II)J" } : Jvm.MethodName) ∈ gAll := gm 971 rfl rfl
set_option maxRecDepth 100000 in
theorem wd_973 : Jvm.Cond.instanceMethod ({ cls := "BodySolidsModel", name := "of", desc := "(II)J" } : Jvm.MethodName) ∈ gAll := gm 973 rfl rfl
set_option maxRecDepth 100000 in
theorem wd_974 : Jvm.Cond.code ({ cls := "BodySolidsModel", name := "of", desc := "(II)J" } : Jvm.MethodName) prog_9_method_10_code (3 : Nat) (Option.some Jvm.ClassFile.FieldType.long) ∈ gAll := gm 974 rfl rfl
set_option maxRecDepth 100000 in
theorem wd_975 : Jvm.Cond.methodLink "BodySolidsModel" (168 : Nat) ({ cls := "BodySolidsModel", name := "spot", desc := "(IIIJJ)V" } : Jvm.MethodName) ∈ gAll := gm 975 rfl rfl
set_option maxRecDepth 100000 in
theorem wd_977 : Jvm.Cond.instanceMethod ({ cls := "BodySolidsModel", name := "spot", desc := "(IIIJJ)V" } : Jvm.MethodName) ∈ gAll := gm 977 rfl rfl
set_option maxRecDepth 100000 in
theorem wd_978 : Jvm.Cond.code ({ cls := "BodySolidsModel", name := "spot", desc := "(IIIJJ)V" } : Jvm.MethodName) prog_9_method_31_code (8 : Nat) (Option.none : Option Jvm.ClassFile.FieldType) ∈ gAll := gm 978 rfl rfl
set_option maxRecDepth 100000 in
theorem wd_979 : Jvm.Cond.methodLink "BodySolidsModel" (153 : Nat) ({ cls := "BodySolidsModel", name := "xOf", desc := "(IJJ)J" } : Jvm.MethodName) ∈ gAll := gm 979 rfl rfl
set_option maxRecDepth 100000 in
theorem wd_981 : Jvm.Cond.instanceMethod ({ cls := "BodySolidsModel", name := "xOf", desc := "(IJJ)J" } : Jvm.MethodName) ∈ gAll := gm 981 rfl rfl
set_option maxRecDepth 100000 in
theorem wd_982 : Jvm.Cond.code ({ cls := "BodySolidsModel", name := "xOf", desc := "(IJJ)J" } : Jvm.MethodName) prog_9_method_26_code (8 : Nat) (Option.some Jvm.ClassFile.FieldType.long) ∈ gAll := gm 982 rfl rfl
set_option maxRecDepth 100000 in
theorem wd_983 : Jvm.Cond.methodLink "BodySolidsModel" (157 : Nat) ({ cls := "BodySolidsModel", name := "yOf", desc := "(IJJ)J" } : Jvm.MethodName) ∈ gAll := gm 983 rfl rfl
set_option maxRecDepth 100000 in
theorem wd_985 : Jvm.Cond.instanceMethod ({ cls := "BodySolidsModel", name := "yOf", desc := "(IJJ)J" } : Jvm.MethodName) ∈ gAll := gm 985 rfl rfl
set_option maxRecDepth 100000 in
theorem wd_986 : Jvm.Cond.code ({ cls := "BodySolidsModel", name := "yOf", desc := "(IJJ)J" } : Jvm.MethodName) prog_9_method_27_code (8 : Nat) (Option.some Jvm.ClassFile.FieldType.long) ∈ gAll := gm 986 rfl rfl
set_option maxRecDepth 100000 in
theorem wd_987 : Jvm.Cond.methodLink "BodySolidsModel" (160 : Nat) ({ cls := "BodySolidsModel", name := "point", desc := "(IIJJ)V" } : Jvm.MethodName) ∈ gAll := gm 987 rfl rfl
set_option maxRecDepth 100000 in
theorem wd_989 : Jvm.Cond.instanceMethod ({ cls := "BodySolidsModel", name := "point", desc := "(IIJJ)V" } : Jvm.MethodName) ∈ gAll := gm 989 rfl rfl
set_option maxRecDepth 100000 in
theorem wd_990 : Jvm.Cond.code ({ cls := "BodySolidsModel", name := "point", desc := "(IIJJ)V" } : Jvm.MethodName) prog_9_method_30_code (7 : Nat) (Option.none : Option Jvm.ClassFile.FieldType) ∈ gAll := gm 990 rfl rfl
set_option maxRecDepth 100000 in
theorem wd_991 : Jvm.Cond.methodLink "BodySolidsModel" (172 : Nat) ({ cls := "BodySolidsModel", name := "zOf", desc := "(IJ)J" } : Jvm.MethodName) ∈ gAll := gm 991 rfl rfl
set_option maxRecDepth 100000 in
theorem wd_993 : Jvm.Cond.instanceMethod ({ cls := "BodySolidsModel", name := "zOf", desc := "(IJ)J" } : Jvm.MethodName) ∈ gAll := gm 993 rfl rfl
set_option maxRecDepth 100000 in
theorem wd_994 : Jvm.Cond.code ({ cls := "BodySolidsModel", name := "zOf", desc := "(IJ)J" } : Jvm.MethodName) prog_9_method_28_code (4 : Nat) (Option.some Jvm.ClassFile.FieldType.long) ∈ gAll := gm 994 rfl rfl
set_option maxRecDepth 100000 in
theorem wd_995 : Jvm.Cond.constantLong "BodySolidsModel" (176 : Nat) (2 : Int64) ∈ gAll := gm 995 rfl rfl
set_option maxRecDepth 100000 in
theorem wd_996 : Jvm.Cond.methodLink "BodySolidsModel" (178 : Nat) ({ cls := "BodySolidsModel", name := "heights", desc := "(IJJ)V" } : Jvm.MethodName) ∈ gAll := gm 996 rfl rfl
set_option maxRecDepth 100000 in
theorem wd_998 : Jvm.Cond.instanceMethod ({ cls := "BodySolidsModel", name := "heights", desc := "(IJJ)V" } : Jvm.MethodName) ∈ gAll := gm 998 rfl rfl
set_option maxRecDepth 100000 in
theorem wd_999 : Jvm.Cond.code ({ cls := "BodySolidsModel", name := "heights", desc := "(IJJ)V" } : Jvm.MethodName) prog_9_method_29_code (6 : Nat) (Option.none : Option Jvm.ClassFile.FieldType) ∈ gAll := gm 999 rfl rfl
set_option maxRecDepth 100000 in
theorem wd_1000 : Jvm.Cond.methodLink "BodySolidsModel" (256 : Nat) ({ cls := "BodySolidsModel", name := "both", desc := "()I" } : Jvm.MethodName) ∈ gAll := gm 1000 rfl rfl
set_option maxRecDepth 100000 in
theorem wd_1002 : Jvm.Cond.instanceMethod ({ cls := "BodySolidsModel", name := "both", desc := "()I" } : Jvm.MethodName) ∈ gAll := gm 1002 rfl rfl
set_option maxRecDepth 100000 in
theorem wd_1003 : Jvm.Cond.code ({ cls := "BodySolidsModel", name := "both", desc := "()I" } : Jvm.MethodName) prog_9_method_51_code (6 : Nat) (Option.some Jvm.ClassFile.FieldType.int) ∈ gAll := gm 1003 rfl rfl
set_option maxRecDepth 100000 in
theorem wd_1004 : Jvm.Cond.methodLink "BodySolidsModel" (239 : Nat) ({ cls := "BodySolidsModel", name := "tubes", desc := "()I" } : Jvm.MethodName) ∈ gAll := gm 1004 rfl rfl
set_option maxRecDepth 100000 in
theorem wd_1006 : Jvm.Cond.instanceMethod ({ cls := "BodySolidsModel", name := "tubes", desc := "()I" } : Jvm.MethodName) ∈ gAll := gm 1006 rfl rfl
set_option maxRecDepth 100000 in
theorem wd_1007 : Jvm.Cond.code ({ cls := "BodySolidsModel", name := "tubes", desc := "()I" } : Jvm.MethodName) prog_9_method_49_code (13 : Nat) (Option.some Jvm.ClassFile.FieldType.int) ∈ gAll := gm 1007 rfl rfl
set_option maxRecDepth 100000 in
theorem wd_1008 : Jvm.Cond.methodLink "BodySolidsModel" (219 : Nat) ({ cls := "BodySolidsModel", name := "lesser", desc := "(JJ)J" } : Jvm.MethodName) ∈ gAll := gm 1008 rfl rfl
set_option maxRecDepth 100000 in
theorem wd_1009 : Jvm.Cond.static ({ cls := "BodySolidsModel", name := "lesser", desc := "(JJ)J" } : Jvm.MethodName) ∈ gAll := gm 1009 rfl rfl
set_option maxRecDepth 100000 in
theorem wd_1010 : Jvm.Cond.code ({ cls := "BodySolidsModel", name := "lesser", desc := "(JJ)J" } : Jvm.MethodName) prog_9_method_44_code (4 : Nat) (Option.some Jvm.ClassFile.FieldType.long) ∈ gAll := gm 1010 rfl rfl
set_option maxRecDepth 100000 in
theorem wd_1011 : Jvm.Cond.methodLink "BodySolidsModel" (222 : Nat) ({ cls := "BodySolidsModel", name := "greater", desc := "(JJ)J" } : Jvm.MethodName) ∈ gAll := gm 1011 rfl rfl
set_option maxRecDepth 100000 in
theorem wd_1012 : Jvm.Cond.static ({ cls := "BodySolidsModel", name := "greater", desc := "(JJ)J" } : Jvm.MethodName) ∈ gAll := gm 1012 rfl rfl
set_option maxRecDepth 100000 in
theorem wd_1013 : Jvm.Cond.code ({ cls := "BodySolidsModel", name := "greater", desc := "(JJ)J" } : Jvm.MethodName) prog_9_method_45_code (4 : Nat) (Option.some Jvm.ClassFile.FieldType.long) ∈ gAll := gm 1013 rfl rfl
set_option maxRecDepth 100000 in
theorem wd_1014 : Jvm.Cond.methodLink "BodySolidsModel" (231 : Nat) ({ cls := "BodySolidsModel", name := "heightGap", desc := "()J" } : Jvm.MethodName) ∈ gAll := gm 1014 rfl rfl
set_option maxRecDepth 100000 in
theorem wd_1016 : Jvm.Cond.instanceMethod ({ cls := "BodySolidsModel", name := "heightGap", desc := "()J" } : Jvm.MethodName) ∈ gAll := gm 1016 rfl rfl
set_option maxRecDepth 100000 in
theorem wd_1017 : Jvm.Cond.code ({ cls := "BodySolidsModel", name := "heightGap", desc := "()J" } : Jvm.MethodName) prog_9_method_46_code (1 : Nat) (Option.some Jvm.ClassFile.FieldType.long) ∈ gAll := gm 1017 rfl rfl
set_option maxRecDepth 100000 in
theorem wd_1018 : Jvm.Cond.methodLink "BodySolidsModel" (215 : Nat) ({ cls := "BodySolidsModel", name := "gap", desc := "(JJJJ)J" } : Jvm.MethodName) ∈ gAll := gm 1018 rfl rfl
set_option maxRecDepth 100000 in
theorem wd_1019 : Jvm.Cond.static ({ cls := "BodySolidsModel", name := "gap", desc := "(JJJJ)J" } : Jvm.MethodName) ∈ gAll := gm 1019 rfl rfl
set_option maxRecDepth 100000 in
theorem wd_1020 : Jvm.Cond.code ({ cls := "BodySolidsModel", name := "gap", desc := "(JJJJ)J" } : Jvm.MethodName) prog_9_method_43_code (8 : Nat) (Option.some Jvm.ClassFile.FieldType.long) ∈ gAll := gm 1020 rfl rfl
set_option maxRecDepth 100000 in
theorem wd_1021 : Jvm.Cond.methodLink "BodySolidsModel" (225 : Nat) ({ cls := "BodySolidsModel", name := "coreGap", desc := "(IZJJ)J" } : Jvm.MethodName) ∈ gAll := gm 1021 rfl rfl
set_option maxRecDepth 100000 in
theorem wd_1023 : Jvm.Cond.instanceMethod ({ cls := "BodySolidsModel", name := "coreGap", desc := "(IZJJ)J" } : Jvm.MethodName) ∈ gAll := gm 1023 rfl rfl
set_option maxRecDepth 100000 in
theorem wd_1024 : Jvm.Cond.code ({ cls := "BodySolidsModel", name := "coreGap", desc := "(IZJJ)J" } : Jvm.MethodName) prog_9_method_47_code (11 : Nat) (Option.some Jvm.ClassFile.FieldType.long) ∈ gAll := gm 1024 rfl rfl
set_option maxRecDepth 100000 in
theorem wd_1025 : Jvm.Cond.methodLink "BodySolidsModel" (194 : Nat) ({ cls := "BodySolidsModel", name := "square", desc := "(JJ)J" } : Jvm.MethodName) ∈ gAll := gm 1025 rfl rfl
set_option maxRecDepth 100000 in
theorem wd_1026 : Jvm.Cond.static ({ cls := "BodySolidsModel", name := "square", desc := "(JJ)J" } : Jvm.MethodName) ∈ gAll := gm 1026 rfl rfl
set_option maxRecDepth 100000 in
theorem wd_1027 : Jvm.Cond.code ({ cls := "BodySolidsModel", name := "square", desc := "(JJ)J" } : Jvm.MethodName) prog_9_method_35_code (4 : Nat) (Option.some Jvm.ClassFile.FieldType.long) ∈ gAll := gm 1027 rfl rfl
set_option maxRecDepth 100000 in
theorem wd_1028 : Jvm.Cond.methodLink "BodySolidsModel" (186 : Nat) ({ cls := "BodySolidsModel", name := "common", desc := "(J)I" } : Jvm.MethodName) ∈ gAll := gm 1028 rfl rfl
set_option maxRecDepth 100000 in
theorem wd_1029 : Jvm.Cond.static ({ cls := "BodySolidsModel", name := "common", desc := "(J)I" } : Jvm.MethodName) ∈ gAll := gm 1029 rfl rfl
set_option maxRecDepth 100000 in
theorem wd_1030 : Jvm.Cond.code ({ cls := "BodySolidsModel", name := "common", desc := "(J)I" } : Jvm.MethodName) prog_9_method_34_code (2 : Nat) (Option.some Jvm.ClassFile.FieldType.int) ∈ gAll := gm 1030 rfl rfl
set_option maxRecDepth 100000 in
theorem wd_1031 : Jvm.Cond.methodLink "BodySolidsModel" (242 : Nat) ({ cls := "BodySolidsModel", name := "coreAndDisc", desc := "(IJ)I" } : Jvm.MethodName) ∈ gAll := gm 1031 rfl rfl
set_option maxRecDepth 100000 in
theorem wd_1033 : Jvm.Cond.instanceMethod ({ cls := "BodySolidsModel", name := "coreAndDisc", desc := "(IJ)I" } : Jvm.MethodName) ∈ gAll := gm 1033 rfl rfl
set_option maxRecDepth 100000 in
theorem wd_1034 : Jvm.Cond.code ({ cls := "BodySolidsModel", name := "coreAndDisc", desc := "(IJ)I" } : Jvm.MethodName) prog_9_method_48_code (11 : Nat) (Option.some Jvm.ClassFile.FieldType.int) ∈ gAll := gm 1034 rfl rfl
set_option maxRecDepth 100000 in
theorem wd_1035 : Jvm.Cond.constantLong "BodySolidsModel" (229 : Nat) (4 : Int64) ∈ gAll := gm 1035 rfl rfl
set_option maxRecDepth 100000 in
theorem wd_1036 : Jvm.Cond.methodLink "BodySolidsModel" (246 : Nat) ({ cls := "BodySolidsModel", name := "coreAndPolygon", desc := "(IJ)I" } : Jvm.MethodName) ∈ gAll := gm 1036 rfl rfl
set_option maxRecDepth 100000 in
theorem wd_1038 : Jvm.Cond.instanceMethod ({ cls := "BodySolidsModel", name := "coreAndPolygon", desc := "(IJ)I" } : Jvm.MethodName) ∈ gAll := gm 1038 rfl rfl
set_option maxRecDepth 100000 in
theorem wd_1039 : Jvm.Cond.code ({ cls := "BodySolidsModel", name := "coreAndPolygon", desc := "(IJ)I" } : Jvm.MethodName) prog_9_method_42_code (18 : Nat) (Option.some Jvm.ClassFile.FieldType.int) ∈ gAll := gm 1039 rfl rfl
set_option maxRecDepth 100000 in
theorem wd_1040 : Jvm.Cond.methodLink "BodySolidsModel" (208 : Nat) ({ cls := "BodySolidsModel", name := "fromPolygon", desc := "(IJJJ)I" } : Jvm.MethodName) ∈ gAll := gm 1040 rfl rfl
set_option maxRecDepth 100000 in
theorem wd_1042 : Jvm.Cond.instanceMethod ({ cls := "BodySolidsModel", name := "fromPolygon", desc := "(IJJJ)I" } : Jvm.MethodName) ∈ gAll := gm 1042 rfl rfl
set_option maxRecDepth 100000 in
theorem wd_1043 : Jvm.Cond.code ({ cls := "BodySolidsModel", name := "fromPolygon", desc := "(IJJJ)I" } : Jvm.MethodName) prog_9_method_40_code (12 : Nat) (Option.some Jvm.ClassFile.FieldType.int) ∈ gAll := gm 1043 rfl rfl
set_option maxRecDepth 100000 in
theorem wd_1044 : Jvm.Cond.methodLink "BodySolidsModel" (198 : Nat) ({ cls := "BodySolidsModel", name := "isIn", desc := "(IJJ)Z" } : Jvm.MethodName) ∈ gAll := gm 1044 rfl rfl
set_option maxRecDepth 100000 in
theorem wd_1046 : Jvm.Cond.instanceMethod ({ cls := "BodySolidsModel", name := "isIn", desc := "(IJJ)Z" } : Jvm.MethodName) ∈ gAll := gm 1046 rfl rfl
set_option maxRecDepth 100000 in
theorem wd_1047 : Jvm.Cond.code ({ cls := "BodySolidsModel", name := "isIn", desc := "(IJJ)Z" } : Jvm.MethodName) prog_9_method_38_code (12 : Nat) (Option.some Jvm.ClassFile.FieldType.boolean) ∈ gAll := gm 1047 rfl rfl
set_option maxRecDepth 100000 in
theorem wd_1048 : Jvm.Cond.methodLink "BodySolidsModel" (202 : Nat) ({ cls := "BodySolidsModel", name := "fromPiece", desc := "(JJJJJJJ)I" } : Jvm.MethodName) ∈ gAll := gm 1048 rfl rfl
set_option maxRecDepth 100000 in
theorem wd_1049 : Jvm.Cond.static ({ cls := "BodySolidsModel", name := "fromPiece", desc := "(JJJJJJJ)I" } : Jvm.MethodName) ∈ gAll := gm 1049 rfl rfl
set_option maxRecDepth 100000 in
theorem wd_1050 : Jvm.Cond.code ({ cls := "BodySolidsModel", name := "fromPiece", desc := "(JJJJJJJ)I" } : Jvm.MethodName) prog_9_method_39_code (20 : Nat) (Option.some Jvm.ClassFile.FieldType.int) ∈ gAll := gm 1050 rfl rfl
set_option maxRecDepth 100000 in
theorem wd_1051 : Jvm.Cond.methodLink "BodySolidsModel" (212 : Nat) ({ cls := "BodySolidsModel", name := "turn", desc := "(JJJJJJ)J" } : Jvm.MethodName) ∈ gAll := gm 1051 rfl rfl
set_option maxRecDepth 100000 in
theorem wd_1052 : Jvm.Cond.static ({ cls := "BodySolidsModel", name := "turn", desc := "(JJJJJJ)J" } : Jvm.MethodName) ∈ gAll := gm 1052 rfl rfl
set_option maxRecDepth 100000 in
theorem wd_1053 : Jvm.Cond.code ({ cls := "BodySolidsModel", name := "turn", desc := "(JJJJJJ)J" } : Jvm.MethodName) prog_9_method_41_code (14 : Nat) (Option.some Jvm.ClassFile.FieldType.long) ∈ gAll := gm 1053 rfl rfl
set_option maxRecDepth 100000 in
theorem wd_1054 : Jvm.Cond.constantLong "BodySolidsModel" (206 : Nat) (-1 : Int64) ∈ gAll := gm 1054 rfl rfl
set_option maxRecDepth 100000 in
theorem wd_1055 : Jvm.Cond.methodLink "BodySolidsModel" (249 : Nat) ({ cls := "BodySolidsModel", name := "bases", desc := "()I" } : Jvm.MethodName) ∈ gAll := gm 1055 rfl rfl
set_option maxRecDepth 100000 in
theorem wd_1057 : Jvm.Cond.instanceMethod ({ cls := "BodySolidsModel", name := "bases", desc := "()I" } : Jvm.MethodName) ∈ gAll := gm 1057 rfl rfl
set_option maxRecDepth 100000 in
theorem wd_1058 : Jvm.Cond.code ({ cls := "BodySolidsModel", name := "bases", desc := "()I" } : Jvm.MethodName) prog_9_method_50_code (3 : Nat) (Option.some Jvm.ClassFile.FieldType.int) ∈ gAll := gm 1058 rfl rfl
set_option maxRecDepth 100000 in
theorem wd_1059 : Jvm.Cond.methodLink "BodySolidsModel" (235 : Nat) ({ cls := "BodySolidsModel", name := "polygons", desc := "()I" } : Jvm.MethodName) ∈ gAll := gm 1059 rfl rfl
set_option maxRecDepth 100000 in
theorem wd_1061 : Jvm.Cond.instanceMethod ({ cls := "BodySolidsModel", name := "polygons", desc := "()I" } : Jvm.MethodName) ∈ gAll := gm 1061 rfl rfl
set_option maxRecDepth 100000 in
theorem wd_1062 : Jvm.Cond.code ({ cls := "BodySolidsModel", name := "polygons", desc := "()I" } : Jvm.MethodName) prog_9_method_37_code (6 : Nat) (Option.some Jvm.ClassFile.FieldType.int) ∈ gAll := gm 1062 rfl rfl
set_option maxRecDepth 100000 in
theorem wd_1063 : Jvm.Cond.methodLink "BodySolidsModel" (190 : Nat) ({ cls := "BodySolidsModel", name := "along", desc := "(JJ)I" } : Jvm.MethodName) ∈ gAll := gm 1063 rfl rfl
set_option maxRecDepth 100000 in
theorem wd_1065 : Jvm.Cond.instanceMethod ({ cls := "BodySolidsModel", name := "along", desc := "(JJ)I" } : Jvm.MethodName) ∈ gAll := gm 1065 rfl rfl
set_option maxRecDepth 100000 in
theorem wd_1066 : Jvm.Cond.code ({ cls := "BodySolidsModel", name := "along", desc := "(JJ)I" } : Jvm.MethodName) prog_9_method_36_code (16 : Nat) (Option.some Jvm.ClassFile.FieldType.int) ∈ gAll := gm 1066 rfl rfl
set_option maxRecDepth 100000 in
theorem wd_1072 : Jvm.Cond.instanceMethod ({ cls := "BodySolidsModel", name := "pair", desc := "(II)I" } : Jvm.MethodName) ∈ gAll := gm 1072 rfl rfl
set_option maxRecDepth 100000 in
theorem wd_1074 : Jvm.Cond.code ({ cls := "BodySolidsModel", name := "pair", desc := "(II)I" } : Jvm.MethodName) prog_9_method_55_code (6 : Nat) (Option.some Jvm.ClassFile.FieldType.int) ∈ gAll := gm 1074 rfl rfl
set_option maxRecDepth 100000 in
theorem wd_1123 : Jvm.Cond.castable "BodySolids$Placement" "BodySolids$Placement" ∈ gAll := gm 1123 rfl rfl
set_option maxRecDepth 100000 in
theorem wd_1124 : Jvm.Cond.castable "BodySolids$Solid" "BodySolids$Solid" ∈ gAll := gm 1124 rfl rfl
set_option maxRecDepth 100000 in
theorem wd_1126 : Jvm.Cond.castable "BodySolids$Body" "BodySolids$Body" ∈ gAll := gm 1126 rfl rfl
set_option maxRecDepth 100000 in
theorem wd_1128 : Jvm.Cond.selects "[Ljava/lang/Object;" ({ cls := "java/lang/Object", name := "getClass", desc := "()Ljava/lang/Class;" } : Jvm.MethodName) ({ cls := "java/lang/Object", name := "getClass", desc := "()Ljava/lang/Class;" } : Jvm.MethodName) ∈ gAll := gm 1128 rfl rfl
set_option maxRecDepth 100000 in
theorem wd_1129 : Jvm.Cond.declares ({ cls := "java/lang/Object", name := "getClass", desc := "()Ljava/lang/Class;" } : Jvm.MethodName) ∈ gAll := gm 1129 rfl rfl
