theorem df_0 : ∀ j, j < 10 → defaultValue (t_0 j) = vp_V [.long 0, .null, .null, .null, .null, .null, .int 0, .null, .null, .null] j := by decide +kernel
theorem df_1 : ∀ j, j < 3 → defaultValue (t_1 j) = vp_V [.null, .int 0, .int 0] j := by decide +kernel
theorem df_2 : ∀ j, j < 2 → defaultValue (t_2 j) = vp_V [.null, .int 0] j := by decide +kernel
theorem df_3 : ∀ j, j < 12 → defaultValue (t_3 j) = vp_V [.int 0, .long 0, .long 0, .null, .null, .int 0, .long 0, .long 0, .long 0, .long 0, .long 0, .long 0] j := by decide +kernel
theorem df_4 : ∀ j, j < 2 → defaultValue (t_4 j) = vp_V [.null, .long 0] j := by decide +kernel
theorem df_5 : ∀ j, j < 5 → defaultValue (t_5 j) = vp_V [.null, .long 0, .long 0, .int 0, .int 0] j := by decide +kernel
theorem df_6 : ∀ j, j < 2 → defaultValue (t_6 j) = vp_V [.null, .int 0] j := by decide +kernel
theorem df_7 : ∀ j, j < 27 → defaultValue (t_7 j) = vp_V [.int 0, .long 0, .int 0, .null, .null, .null, .null, .null, .null, .int 0, .null, .null, .int 0, .null, .null, .null, .null, .null, .int 0, .null, .null, .null, .null, .null, .null, .null, .null] j := by decide +kernel
set_option maxRecDepth 100000 in
theorem wd_57 : Jvm.Cond.initialized "BodySolidsModel" ∈ gAll := gm 57 rfl rfl
set_option maxRecDepth 100000 in
theorem wd_78 : Jvm.Cond.instanceMethod ({ cls := "java/lang/Object", name := "<init>", desc := "()V" } : Jvm.MethodName) ∈ gAll := gm 78 rfl rfl
set_option maxRecDepth 100000 in
theorem wd_79 : Jvm.Cond.code ({ cls := "java/lang/Object", name := "<init>", desc := "()V" } : Jvm.MethodName) object_method_1_code (1 : Nat) (Option.none : Option Jvm.ClassFile.FieldType) ∈ gAll := gm 79 rfl rfl
set_option maxRecDepth 100000 in
theorem wd_178 : Jvm.Cond.arrayClass Jvm.ClassFile.FieldType.long ∈ gAll := gm 178 rfl rfl
set_option maxRecDepth 100000 in
theorem wd_179 : Jvm.Cond.arrayClass Jvm.ClassFile.FieldType.int ∈ gAll := gm 179 rfl rfl
set_option maxRecDepth 100000 in
theorem wd_782 : Jvm.Cond.instanceMethod ({ cls := "BodySolidsModel", name := "<init>", desc := "(J)V" } : Jvm.MethodName) ∈ gAll := gm 782 rfl rfl
set_option maxRecDepth 100000 in
theorem wd_783 : Jvm.Cond.code ({ cls := "BodySolidsModel", name := "<init>", desc := "(J)V" } : Jvm.MethodName) prog_9_method_1_code (3 : Nat) (Option.none : Option Jvm.ClassFile.FieldType) ∈ gAll := gm 783 rfl rfl
set_option maxRecDepth 100000 in
theorem wd_784 : Jvm.Cond.methodLink "BodySolidsModel" (1 : Nat) ({ cls := "java/lang/Object", name := "<init>", desc := "()V" } : Jvm.MethodName) ∈ gAll := gm 784 rfl rfl
set_option maxRecDepth 100000 in
theorem wd_785 : Jvm.Cond.constantLong "BodySolidsModel" (74 : Nat) (1000 : Int64) ∈ gAll := gm 785 rfl rfl
set_option maxRecDepth 100000 in
theorem wd_787 : Jvm.Cond.fieldLink "BodySolidsModel" (76 : Nat) "BodySolidsModel" "thickness" "J" ∈ gAll := gm 787 rfl rfl
set_option maxRecDepth 100000 in
theorem wd_789 : Jvm.Cond.fieldLink "BodySolidsModel" (7 : Nat) "BodySolidsModel" "counts" "[I" ∈ gAll := gm 789 rfl rfl
set_option maxRecDepth 100000 in
theorem wd_790 : Jvm.Cond.fieldLink "BodySolidsModel" (13 : Nat) "BodySolidsModel" "kinds" "[I" ∈ gAll := gm 790 rfl rfl
set_option maxRecDepth 100000 in
theorem wd_791 : Jvm.Cond.fieldLink "BodySolidsModel" (16 : Nat) "BodySolidsModel" "numbers" "[J" ∈ gAll := gm 791 rfl rfl
set_option maxRecDepth 100000 in
theorem wd_792 : Jvm.Cond.fieldLink "BodySolidsModel" (20 : Nat) "BodySolidsModel" "cornerCounts" "[I" ∈ gAll := gm 792 rfl rfl
set_option maxRecDepth 100000 in
theorem wd_793 : Jvm.Cond.fieldLink "BodySolidsModel" (23 : Nat) "BodySolidsModel" "cornerX" "[J" ∈ gAll := gm 793 rfl rfl
set_option maxRecDepth 100000 in
theorem wd_794 : Jvm.Cond.fieldLink "BodySolidsModel" (26 : Nat) "BodySolidsModel" "cornerY" "[J" ∈ gAll := gm 794 rfl rfl
set_option maxRecDepth 100000 in
theorem wd_796 : Jvm.Cond.fieldLink "BodySolidsModel" (29 : Nat) "BodySolidsModel" "toldX" "[J" ∈ gAll := gm 796 rfl rfl
set_option maxRecDepth 100000 in
theorem wd_797 : Jvm.Cond.fieldLink "BodySolidsModel" (32 : Nat) "BodySolidsModel" "toldY" "[J" ∈ gAll := gm 797 rfl rfl
set_option maxRecDepth 100000 in
theorem wd_799 : Jvm.Cond.fieldLink "BodySolidsModel" (35 : Nat) "BodySolidsModel" "placed" "[I" ∈ gAll := gm 799 rfl rfl
set_option maxRecDepth 100000 in
theorem wd_800 : Jvm.Cond.fieldLink "BodySolidsModel" (38 : Nat) "BodySolidsModel" "placeX" "[J" ∈ gAll := gm 800 rfl rfl
set_option maxRecDepth 100000 in
theorem wd_801 : Jvm.Cond.fieldLink "BodySolidsModel" (41 : Nat) "BodySolidsModel" "placeY" "[J" ∈ gAll := gm 801 rfl rfl
set_option maxRecDepth 100000 in
theorem wd_802 : Jvm.Cond.fieldLink "BodySolidsModel" (44 : Nat) "BodySolidsModel" "turns" "[I" ∈ gAll := gm 802 rfl rfl
set_option maxRecDepth 100000 in
theorem wd_803 : Jvm.Cond.fieldLink "BodySolidsModel" (47 : Nat) "BodySolidsModel" "sides" "[I" ∈ gAll := gm 803 rfl rfl
set_option maxRecDepth 100000 in
theorem wd_805 : Jvm.Cond.fieldLink "BodySolidsModel" (50 : Nat) "BodySolidsModel" "out" "[J" ∈ gAll := gm 805 rfl rfl
set_option maxRecDepth 100000 in
theorem wd_806 : Jvm.Cond.fieldLink "BodySolidsModel" (53 : Nat) "BodySolidsModel" "kindAt" "[I" ∈ gAll := gm 806 rfl rfl
set_option maxRecDepth 100000 in
theorem wd_807 : Jvm.Cond.fieldLink "BodySolidsModel" (56 : Nat) "BodySolidsModel" "many" "[I" ∈ gAll := gm 807 rfl rfl
set_option maxRecDepth 100000 in
theorem wd_808 : Jvm.Cond.fieldLink "BodySolidsModel" (59 : Nat) "BodySolidsModel" "px" "[J" ∈ gAll := gm 808 rfl rfl
set_option maxRecDepth 100000 in
theorem wd_809 : Jvm.Cond.fieldLink "BodySolidsModel" (62 : Nat) "BodySolidsModel" "py" "[J" ∈ gAll := gm 809 rfl rfl
set_option maxRecDepth 100000 in
theorem wd_810 : Jvm.Cond.fieldLink "BodySolidsModel" (65 : Nat) "BodySolidsModel" "radius" "[J" ∈ gAll := gm 810 rfl rfl
set_option maxRecDepth 100000 in
theorem wd_811 : Jvm.Cond.fieldLink "BodySolidsModel" (68 : Nat) "BodySolidsModel" "low" "[J" ∈ gAll := gm 811 rfl rfl
set_option maxRecDepth 100000 in
theorem wd_812 : Jvm.Cond.fieldLink "BodySolidsModel" (71 : Nat) "BodySolidsModel" "high" "[J" ∈ gAll := gm 812 rfl rfl
