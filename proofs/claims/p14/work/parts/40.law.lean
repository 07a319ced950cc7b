set_option maxRecDepth 100000 in
theorem wd_72 : Jvm.Cond.classLink "BodySolidsLaw" (8 : Nat) "BodySolids" ∈ gAll := gm 72 rfl rfl
set_option maxRecDepth 100000 in
theorem wd_73 : Jvm.Cond.instantiable "BodySolids" (10 : Nat) ∈ gAll := gm 73 rfl rfl
set_option maxRecDepth 100000 in
theorem wd_74 : Jvm.Cond.methodLink "BodySolidsLaw" (75 : Nat) ({ cls := "BodySolids", name := "<init>", desc := "(J)V" } : Jvm.MethodName) ∈ gAll := gm 74 rfl rfl
set_option maxRecDepth 100000 in
theorem wd_220 : Jvm.Cond.methodLink "BodySolidsLaw" (81 : Nat) ({ cls := "BodySolids", name := "body", desc := "()I" } : Jvm.MethodName) ∈ gAll := gm 220 rfl rfl
set_option maxRecDepth 100000 in
theorem wd_222 : Jvm.Cond.selects "BodySolids" ({ cls := "BodySolids", name := "body", desc := "()I" } : Jvm.MethodName) ({ cls := "BodySolids", name := "body", desc := "()I" } : Jvm.MethodName) ∈ gAll := gm 222 rfl rfl
set_option maxRecDepth 100000 in
theorem wd_308 : Jvm.Cond.methodLink "BodySolidsLaw" (122 : Nat) ({ cls := "BodySolids", name := "clashes", desc := "()I" } : Jvm.MethodName) ∈ gAll := gm 308 rfl rfl
set_option maxRecDepth 100000 in
theorem wd_310 : Jvm.Cond.selects "BodySolids" ({ cls := "BodySolids", name := "clashes", desc := "()I" } : Jvm.MethodName) ({ cls := "BodySolids", name := "clashes", desc := "()I" } : Jvm.MethodName) ∈ gAll := gm 310 rfl rfl
set_option maxRecDepth 100000 in
theorem wd_410 : Jvm.Cond.methodLink "BodySolidsLaw" (136 : Nat) ({ cls := "BodySolids", name := "breaks", desc := "(I)I" } : Jvm.MethodName) ∈ gAll := gm 410 rfl rfl
set_option maxRecDepth 100000 in
theorem wd_412 : Jvm.Cond.selects "BodySolids" ({ cls := "BodySolids", name := "breaks", desc := "(I)I" } : Jvm.MethodName) ({ cls := "BodySolids", name := "breaks", desc := "(I)I" } : Jvm.MethodName) ∈ gAll := gm 412 rfl rfl
set_option maxRecDepth 100000 in
theorem wd_424 : Jvm.Cond.methodLink "BodySolidsLaw" (69 : Nat) ({ cls := "BodySolidsLaw", name := "cell", desc := "([II)I" } : Jvm.MethodName) ∈ gAll := gm 424 rfl rfl
set_option maxRecDepth 100000 in
theorem wd_427 : Jvm.Cond.methodLink "BodySolidsLaw" (88 : Nat) ({ cls := "BodySolidsLaw", name := "box", desc := "(LBodySolids;IJJJJJJ[J)I" } : Jvm.MethodName) ∈ gAll := gm 427 rfl rfl
set_option maxRecDepth 100000 in
theorem wd_568 : Jvm.Cond.methodLink "BodySolidsLaw" (92 : Nat) ({ cls := "BodySolidsLaw", name := "cylinder", desc := "(LBodySolids;IJJJJJ[J)I" } : Jvm.MethodName) ∈ gAll := gm 568 rfl rfl
set_option maxRecDepth 100000 in
theorem wd_577 : Jvm.Cond.methodLink "BodySolidsLaw" (96 : Nat) ({ cls := "BodySolidsLaw", name := "corner", desc := "(LBodySolids;JJ[J)I" } : Jvm.MethodName) ∈ gAll := gm 577 rfl rfl
set_option maxRecDepth 100000 in
theorem wd_584 : Jvm.Cond.methodLink "BodySolidsLaw" (100 : Nat) ({ cls := "BodySolidsLaw", name := "prism", desc := "(LBodySolids;IJJ[J)I" } : Jvm.MethodName) ∈ gAll := gm 584 rfl rfl
set_option maxRecDepth 100000 in
theorem wd_608 : Jvm.Cond.methodLink "BodySolidsLaw" (104 : Nat) ({ cls := "BodySolidsLaw", name := "tube", desc := "(LBodySolids;IJJJJIJ[J)I" } : Jvm.MethodName) ∈ gAll := gm 608 rfl rfl
set_option maxRecDepth 100000 in
theorem wd_622 : Jvm.Cond.methodLink "BodySolidsLaw" (108 : Nat) ({ cls := "BodySolidsLaw", name := "join", desc := "(LBodySolids;II[J)I" } : Jvm.MethodName) ∈ gAll := gm 622 rfl rfl
set_option maxRecDepth 100000 in
theorem wd_635 : Jvm.Cond.methodLink "BodySolidsLaw" (112 : Nat) ({ cls := "BodySolidsLaw", name := "place", desc := "(LBodySolids;IJJII[J)I" } : Jvm.MethodName) ∈ gAll := gm 635 rfl rfl
set_option maxRecDepth 100000 in
theorem wd_675 : Jvm.Cond.methodLink "BodySolidsLaw" (116 : Nat) ({ cls := "BodySolidsLaw", name := "move", desc := "(LBodySolids;IJJII[J)I" } : Jvm.MethodName) ∈ gAll := gm 675 rfl rfl
set_option maxRecDepth 100000 in
theorem wd_690 : Jvm.Cond.methodLink "BodySolidsLaw" (119 : Nat) ({ cls := "BodySolidsLaw", name := "clash", desc := "(LBodySolids;II[J)I" } : Jvm.MethodName) ∈ gAll := gm 690 rfl rfl
set_option maxRecDepth 100000 in
theorem wd_697 : Jvm.Cond.methodLink "BodySolidsLaw" (126 : Nat) ({ cls := "BodySolidsLaw", name := "pair", desc := "(LBodySolids;II[J)I" } : Jvm.MethodName) ∈ gAll := gm 697 rfl rfl
set_option maxRecDepth 100000 in
theorem wd_704 : Jvm.Cond.methodLink "BodySolidsLaw" (129 : Nat) ({ cls := "BodySolidsLaw", name := "keepOut", desc := "(LBodySolids;JJJJIJ[J)I" } : Jvm.MethodName) ∈ gAll := gm 704 rfl rfl
set_option maxRecDepth 100000 in
theorem wd_728 : Jvm.Cond.methodLink "BodySolidsLaw" (141 : Nat) ({ cls := "BodySolidsLaw", name := "bound", desc := "(LBodySolids;II[J)I" } : Jvm.MethodName) ∈ gAll := gm 728 rfl rfl
set_option maxRecDepth 100000 in
theorem wd_756 : Jvm.Cond.methodLink "BodySolidsLaw" (144 : Nat) ({ cls := "BodySolidsLaw", name := "section", desc := "(LBodySolids;JII[J)I" } : Jvm.MethodName) ∈ gAll := gm 756 rfl rfl
set_option maxRecDepth 100000 in
theorem wd_772 : Jvm.Cond.methodLink "BodySolidsLaw" (148 : Nat) ({ cls := "BodySolidsLaw", name := "mass", desc := "(LBodySolids;I[J)I" } : Jvm.MethodName) ∈ gAll := gm 772 rfl rfl
set_option maxRecDepth 100000 in
theorem wd_779 : Jvm.Cond.classLink "BodySolidsLaw" (78 : Nat) "BodySolidsModel" ∈ gAll := gm 779 rfl rfl
set_option maxRecDepth 100000 in
theorem wd_780 : Jvm.Cond.instantiable "BodySolidsModel" (27 : Nat) ∈ gAll := gm 780 rfl rfl
set_option maxRecDepth 100000 in
theorem wd_781 : Jvm.Cond.methodLink "BodySolidsLaw" (80 : Nat) ({ cls := "BodySolidsModel", name := "<init>", desc := "(J)V" } : Jvm.MethodName) ∈ gAll := gm 781 rfl rfl
set_option maxRecDepth 100000 in
theorem wd_868 : Jvm.Cond.methodLink "BodySolidsLaw" (133 : Nat) ({ cls := "BodySolidsModel", name := "thrown", desc := "()I" } : Jvm.MethodName) ∈ gAll := gm 868 rfl rfl
set_option maxRecDepth 100000 in
theorem wd_870 : Jvm.Cond.selects "BodySolidsModel" ({ cls := "BodySolidsModel", name := "thrown", desc := "()I" } : Jvm.MethodName) ({ cls := "BodySolidsModel", name := "thrown", desc := "()I" } : Jvm.MethodName) ∈ gAll := gm 870 rfl rfl
set_option maxRecDepth 100000 in
theorem wd_872 : Jvm.Cond.methodLink "BodySolidsLaw" (85 : Nat) ({ cls := "BodySolidsModel", name := "body", desc := "()I" } : Jvm.MethodName) ∈ gAll := gm 872 rfl rfl
set_option maxRecDepth 100000 in
theorem wd_874 : Jvm.Cond.selects "BodySolidsModel" ({ cls := "BodySolidsModel", name := "body", desc := "()I" } : Jvm.MethodName) ({ cls := "BodySolidsModel", name := "body", desc := "()I" } : Jvm.MethodName) ∈ gAll := gm 874 rfl rfl
set_option maxRecDepth 100000 in
theorem wd_876 : Jvm.Cond.methodLink "BodySolidsLaw" (91 : Nat) ({ cls := "BodySolidsModel", name := "box", desc := "(IJJJJJJ)Z" } : Jvm.MethodName) ∈ gAll := gm 876 rfl rfl
set_option maxRecDepth 100000 in
theorem wd_878 : Jvm.Cond.selects "BodySolidsModel" ({ cls := "BodySolidsModel", name := "box", desc := "(IJJJJJJ)Z" } : Jvm.MethodName) ({ cls := "BodySolidsModel", name := "box", desc := "(IJJJJJJ)Z" } : Jvm.MethodName) ∈ gAll := gm 878 rfl rfl
set_option maxRecDepth 100000 in
theorem wd_906 : Jvm.Cond.methodLink "BodySolidsLaw" (95 : Nat) ({ cls := "BodySolidsModel", name := "cylinder", desc := "(IJJJJJ)Z" } : Jvm.MethodName) ∈ gAll := gm 906 rfl rfl
set_option maxRecDepth 100000 in
theorem wd_908 : Jvm.Cond.selects "BodySolidsModel" ({ cls := "BodySolidsModel", name := "cylinder", desc := "(IJJJJJ)Z" } : Jvm.MethodName) ({ cls := "BodySolidsModel", name := "cylinder", desc := "(IJJJJJ)Z" } : Jvm.MethodName) ∈ gAll := gm 908 rfl rfl
set_option maxRecDepth 100000 in
theorem wd_910 : Jvm.Cond.methodLink "BodySolidsLaw" (99 : Nat) ({ cls := "BodySolidsModel", name := "corner", desc := "(JJ)Z" } : Jvm.MethodName) ∈ gAll := gm 910 rfl rfl
set_option maxRecDepth 100000 in
theorem wd_912 : Jvm.Cond.selects "BodySolidsModel" ({ cls := "BodySolidsModel", name := "corner", desc := "(JJ)Z" } : Jvm.MethodName) ({ cls := "BodySolidsModel", name := "corner", desc := "(JJ)Z" } : Jvm.MethodName) ∈ gAll := gm 912 rfl rfl
set_option maxRecDepth 100000 in
theorem wd_914 : Jvm.Cond.methodLink "BodySolidsLaw" (103 : Nat) ({ cls := "BodySolidsModel", name := "prism", desc := "(IJJ)Z" } : Jvm.MethodName) ∈ gAll := gm 914 rfl rfl
set_option maxRecDepth 100000 in
theorem wd_916 : Jvm.Cond.selects "BodySolidsModel" ({ cls := "BodySolidsModel", name := "prism", desc := "(IJJ)Z" } : Jvm.MethodName) ({ cls := "BodySolidsModel", name := "prism", desc := "(IJJ)Z" } : Jvm.MethodName) ∈ gAll := gm 916 rfl rfl
set_option maxRecDepth 100000 in
theorem wd_925 : Jvm.Cond.methodLink "BodySolidsLaw" (107 : Nat) ({ cls := "BodySolidsModel", name := "tube", desc := "(IJJJJIJ)Z" } : Jvm.MethodName) ∈ gAll := gm 925 rfl rfl
set_option maxRecDepth 100000 in
theorem wd_927 : Jvm.Cond.selects "BodySolidsModel" ({ cls := "BodySolidsModel", name := "tube", desc := "(IJJJJIJ)Z" } : Jvm.MethodName) ({ cls := "BodySolidsModel", name := "tube", desc := "(IJJJJIJ)Z" } : Jvm.MethodName) ∈ gAll := gm 927 rfl rfl
set_option maxRecDepth 100000 in
theorem wd_932 : Jvm.Cond.methodLink "BodySolidsLaw" (111 : Nat) ({ cls := "BodySolidsModel", name := "join", desc := "(II)I" } : Jvm.MethodName) ∈ gAll := gm 932 rfl rfl
set_option maxRecDepth 100000 in
theorem wd_934 : Jvm.Cond.selects "BodySolidsModel" ({ cls := "BodySolidsModel", name := "join", desc := "(II)I" } : Jvm.MethodName) ({ cls := "BodySolidsModel", name := "join", desc := "(II)I" } : Jvm.MethodName) ∈ gAll := gm 934 rfl rfl
set_option maxRecDepth 100000 in
theorem wd_940 : Jvm.Cond.methodLink "BodySolidsLaw" (115 : Nat) ({ cls := "BodySolidsModel", name := "place", desc := "(IJJII)I" } : Jvm.MethodName) ∈ gAll := gm 940 rfl rfl
set_option maxRecDepth 100000 in
theorem wd_942 : Jvm.Cond.selects "BodySolidsModel" ({ cls := "BodySolidsModel", name := "place", desc := "(IJJII)I" } : Jvm.MethodName) ({ cls := "BodySolidsModel", name := "place", desc := "(IJJII)I" } : Jvm.MethodName) ∈ gAll := gm 942 rfl rfl
set_option maxRecDepth 100000 in
theorem wd_951 : Jvm.Cond.methodLink "BodySolidsLaw" (118 : Nat) ({ cls := "BodySolidsModel", name := "move", desc := "(IJJII)Z" } : Jvm.MethodName) ∈ gAll := gm 951 rfl rfl
set_option maxRecDepth 100000 in
theorem wd_953 : Jvm.Cond.selects "BodySolidsModel" ({ cls := "BodySolidsModel", name := "move", desc := "(IJJII)Z" } : Jvm.MethodName) ({ cls := "BodySolidsModel", name := "move", desc := "(IJJII)Z" } : Jvm.MethodName) ∈ gAll := gm 953 rfl rfl
set_option maxRecDepth 100000 in
theorem wd_959 : Jvm.Cond.methodLink "BodySolidsLaw" (121 : Nat) ({ cls := "BodySolidsModel", name := "clash", desc := "(II)I" } : Jvm.MethodName) ∈ gAll := gm 959 rfl rfl
set_option maxRecDepth 100000 in
theorem wd_961 : Jvm.Cond.selects "BodySolidsModel" ({ cls := "BodySolidsModel", name := "clash", desc := "(II)I" } : Jvm.MethodName) ({ cls := "BodySolidsModel", name := "clash", desc := "(II)I" } : Jvm.MethodName) ∈ gAll := gm 961 rfl rfl
set_option maxRecDepth 100000 in
theorem wd_1067 : Jvm.Cond.methodLink "BodySolidsLaw" (125 : Nat) ({ cls := "BodySolidsModel", name := "clashes", desc := "()I" } : Jvm.MethodName) ∈ gAll := gm 1067 rfl rfl
set_option maxRecDepth 100000 in
theorem wd_1069 : Jvm.Cond.selects "BodySolidsModel" ({ cls := "BodySolidsModel", name := "clashes", desc := "()I" } : Jvm.MethodName) ({ cls := "BodySolidsModel", name := "clashes", desc := "()I" } : Jvm.MethodName) ∈ gAll := gm 1069 rfl rfl
set_option maxRecDepth 100000 in
theorem wd_1071 : Jvm.Cond.methodLink "BodySolidsLaw" (128 : Nat) ({ cls := "BodySolidsModel", name := "pair", desc := "(II)I" } : Jvm.MethodName) ∈ gAll := gm 1071 rfl rfl
set_option maxRecDepth 100000 in
theorem wd_1073 : Jvm.Cond.selects "BodySolidsModel" ({ cls := "BodySolidsModel", name := "pair", desc := "(II)I" } : Jvm.MethodName) ({ cls := "BodySolidsModel", name := "pair", desc := "(II)I" } : Jvm.MethodName) ∈ gAll := gm 1073 rfl rfl
set_option maxRecDepth 100000 in
theorem wd_1075 : Jvm.Cond.methodLink "BodySolidsLaw" (132 : Nat) ({ cls := "BodySolidsModel", name := "keepOut", desc := "(JJJJIJ)Z" } : Jvm.MethodName) ∈ gAll := gm 1075 rfl rfl
set_option maxRecDepth 100000 in
theorem wd_1077 : Jvm.Cond.selects "BodySolidsModel" ({ cls := "BodySolidsModel", name := "keepOut", desc := "(JJJJIJ)Z" } : Jvm.MethodName) ({ cls := "BodySolidsModel", name := "keepOut", desc := "(JJJJIJ)Z" } : Jvm.MethodName) ∈ gAll := gm 1077 rfl rfl
set_option maxRecDepth 100000 in
theorem wd_1084 : Jvm.Cond.methodLink "BodySolidsLaw" (140 : Nat) ({ cls := "BodySolidsModel", name := "breaks", desc := "(I)I" } : Jvm.MethodName) ∈ gAll := gm 1084 rfl rfl
set_option maxRecDepth 100000 in
theorem wd_1086 : Jvm.Cond.selects "BodySolidsModel" ({ cls := "BodySolidsModel", name := "breaks", desc := "(I)I" } : Jvm.MethodName) ({ cls := "BodySolidsModel", name := "breaks", desc := "(I)I" } : Jvm.MethodName) ∈ gAll := gm 1086 rfl rfl
set_option maxRecDepth 100000 in
theorem wd_1098 : Jvm.Cond.methodLink "BodySolidsLaw" (143 : Nat) ({ cls := "BodySolidsModel", name := "bound", desc := "(II)J" } : Jvm.MethodName) ∈ gAll := gm 1098 rfl rfl
set_option maxRecDepth 100000 in
theorem wd_1100 : Jvm.Cond.selects "BodySolidsModel" ({ cls := "BodySolidsModel", name := "bound", desc := "(II)J" } : Jvm.MethodName) ({ cls := "BodySolidsModel", name := "bound", desc := "(II)J" } : Jvm.MethodName) ∈ gAll := gm 1100 rfl rfl
set_option maxRecDepth 100000 in
theorem wd_1106 : Jvm.Cond.methodLink "BodySolidsLaw" (147 : Nat) ({ cls := "BodySolidsModel", name := "section", desc := "(JII)J" } : Jvm.MethodName) ∈ gAll := gm 1106 rfl rfl
set_option maxRecDepth 100000 in
theorem wd_1108 : Jvm.Cond.selects "BodySolidsModel" ({ cls := "BodySolidsModel", name := "section", desc := "(JII)J" } : Jvm.MethodName) ({ cls := "BodySolidsModel", name := "section", desc := "(JII)J" } : Jvm.MethodName) ∈ gAll := gm 1108 rfl rfl
set_option maxRecDepth 100000 in
theorem wd_1110 : Jvm.Cond.methodLink "BodySolidsLaw" (151 : Nat) ({ cls := "BodySolidsModel", name := "mass", desc := "(I)J" } : Jvm.MethodName) ∈ gAll := gm 1110 rfl rfl
set_option maxRecDepth 100000 in
theorem wd_1112 : Jvm.Cond.selects "BodySolidsModel" ({ cls := "BodySolidsModel", name := "mass", desc := "(I)J" } : Jvm.MethodName) ({ cls := "BodySolidsModel", name := "mass", desc := "(I)J" } : Jvm.MethodName) ∈ gAll := gm 1112 rfl rfl
set_option maxRecDepth 100000 in
theorem wd_1121 : Jvm.Cond.constantLong "BodySolidsLaw" (86 : Nat) (4294967295 : Int64) ∈ gAll := gm 1121 rfl rfl
abbrev b_law : ByteArray := code
def y_law : MethodName := ⟨"BodySolidsLaw", "law", "([I)Z"⟩
theorem d_law_0 : decode b_law 0 = .ok (.new 8, 3) := by decide +kernel
theorem d_law_3 : decode b_law 3 = .ok (.dup, 1) := by decide +kernel
theorem d_law_4 : decode b_law 4 = .ok (.aload_n 0, 1) := by decide +kernel
theorem d_law_5 : decode b_law 5 = .ok (.iconst 0, 1) := by decide +kernel
theorem d_law_6 : decode b_law 6 = .ok (.invokestatic 69, 3) := by decide +kernel
theorem d_law_9 : decode b_law 9 = .ok (.i2l, 1) := by decide +kernel
theorem d_law_10 : decode b_law 10 = .ok (.invokespecial 75, 3) := by decide +kernel
theorem d_law_13 : decode b_law 13 = .ok (.astore_n 1, 1) := by decide +kernel
theorem d_law_14 : decode b_law 14 = .ok (.new 78, 3) := by decide +kernel
theorem d_law_17 : decode b_law 17 = .ok (.dup, 1) := by decide +kernel
theorem d_law_18 : decode b_law 18 = .ok (.aload_n 0, 1) := by decide +kernel
theorem d_law_19 : decode b_law 19 = .ok (.iconst 0, 1) := by decide +kernel
theorem d_law_20 : decode b_law 20 = .ok (.invokestatic 69, 3) := by decide +kernel
theorem d_law_23 : decode b_law 23 = .ok (.i2l, 1) := by decide +kernel
theorem d_law_24 : decode b_law 24 = .ok (.invokespecial 80, 3) := by decide +kernel
theorem d_law_27 : decode b_law 27 = .ok (.astore_n 2, 1) := by decide +kernel
theorem d_law_28 : decode b_law 28 = .ok (.iconst 1, 1) := by decide +kernel
theorem d_law_29 : decode b_law 29 = .ok (.newarray .long, 2) := by decide +kernel
theorem d_law_31 : decode b_law 31 = .ok (.astore_n 3, 1) := by decide +kernel
theorem d_law_32 : decode b_law 32 = .ok (.iconst 1, 1) := by decide +kernel
theorem d_law_33 : decode b_law 33 = .ok (.istore 4, 2) := by decide +kernel
theorem d_law_35 : decode b_law 35 = .ok (.iload 4, 2) := by decide +kernel
theorem d_law_37 : decode b_law 37 = .ok (.aload_n 0, 1) := by decide +kernel
theorem d_law_38 : decode b_law 38 = .ok (.arraylength, 1) := by decide +kernel
theorem d_law_39 : decode b_law 39 = .ok (.bipush 14, 2) := by decide +kernel
theorem d_law_41 : decode b_law 41 = .ok (.isub, 1) := by decide +kernel
theorem d_law_42 : decode b_law 42 = .ok (.if_icmp .gt 2068, 3) := by decide +kernel
theorem d_law_45 : decode b_law 45 = .ok (.aload_n 0, 1) := by decide +kernel
theorem d_law_46 : decode b_law 46 = .ok (.iload 4, 2) := by decide +kernel
theorem d_law_48 : decode b_law 48 = .ok (.iaload, 1) := by decide +kernel
theorem d_law_49 : decode b_law 49 = .ok (.bipush 31, 2) := by decide +kernel
theorem d_law_51 : decode b_law 51 = .ok (.iand, 1) := by decide +kernel
theorem d_law_52 : decode b_law 52 = .ok (.tableswitch 2052 0 16 #[84, 97, 405, 665, 769, 885, 1159, 1199, 1343, 1487, 1527, 1540, 1580, 1875, 1900, 1940, 2024], 84) := by decide +kernel
theorem d_law_136 : decode b_law 136 = .ok (.aload_n 1, 1) := by decide +kernel
theorem d_law_137 : decode b_law 137 = .ok (.invokevirtual 81, 3) := by decide +kernel
theorem d_law_140 : decode b_law 140 = .ok (.pop, 1) := by decide +kernel
theorem d_law_141 : decode b_law 141 = .ok (.aload_n 2, 1) := by decide +kernel
theorem d_law_142 : decode b_law 142 = .ok (.invokevirtual 85, 3) := by decide +kernel
theorem d_law_145 : decode b_law 145 = .ok (.pop, 1) := by decide +kernel
theorem d_law_146 : decode b_law 146 = .ok (.goto 1958, 3) := by decide +kernel
theorem d_law_149 : decode b_law 149 = .ok (.aload_n 1, 1) := by decide +kernel
theorem d_law_150 : decode b_law 150 = .ok (.aload_n 0, 1) := by decide +kernel
theorem d_law_151 : decode b_law 151 = .ok (.iload 4, 2) := by decide +kernel
theorem d_law_153 : decode b_law 153 = .ok (.iconst 1, 1) := by decide +kernel
theorem d_law_154 : decode b_law 154 = .ok (.iadd, 1) := by decide +kernel
theorem d_law_155 : decode b_law 155 = .ok (.iaload, 1) := by decide +kernel
theorem d_law_156 : decode b_law 156 = .ok (.aload_n 0, 1) := by decide +kernel
theorem d_law_157 : decode b_law 157 = .ok (.iload 4, 2) := by decide +kernel
theorem d_law_159 : decode b_law 159 = .ok (.iconst 2, 1) := by decide +kernel
theorem d_law_160 : decode b_law 160 = .ok (.iadd, 1) := by decide +kernel
theorem d_law_161 : decode b_law 161 = .ok (.iaload, 1) := by decide +kernel
theorem d_law_162 : decode b_law 162 = .ok (.i2l, 1) := by decide +kernel
theorem d_law_163 : decode b_law 163 = .ok (.bipush 32, 2) := by decide +kernel
theorem d_law_165 : decode b_law 165 = .ok (.lshl, 1) := by decide +kernel
theorem d_law_166 : decode b_law 166 = .ok (.aload_n 0, 1) := by decide +kernel
theorem d_law_167 : decode b_law 167 = .ok (.iload 4, 2) := by decide +kernel
theorem d_law_169 : decode b_law 169 = .ok (.iconst 3, 1) := by decide +kernel
theorem d_law_170 : decode b_law 170 = .ok (.iadd, 1) := by decide +kernel
theorem d_law_171 : decode b_law 171 = .ok (.iaload, 1) := by decide +kernel
theorem d_law_172 : decode b_law 172 = .ok (.i2l, 1) := by decide +kernel
theorem d_law_173 : decode b_law 173 = .ok (.ldc2_w 86, 3) := by decide +kernel
theorem d_law_176 : decode b_law 176 = .ok (.land, 1) := by decide +kernel
theorem d_law_177 : decode b_law 177 = .ok (.lor, 1) := by decide +kernel
theorem d_law_178 : decode b_law 178 = .ok (.aload_n 0, 1) := by decide +kernel
theorem d_law_179 : decode b_law 179 = .ok (.iload 4, 2) := by decide +kernel
theorem d_law_181 : decode b_law 181 = .ok (.iconst 4, 1) := by decide +kernel
theorem d_law_182 : decode b_law 182 = .ok (.iadd, 1) := by decide +kernel
theorem d_law_183 : decode b_law 183 = .ok (.iaload, 1) := by decide +kernel
theorem d_law_184 : decode b_law 184 = .ok (.i2l, 1) := by decide +kernel
theorem d_law_185 : decode b_law 185 = .ok (.bipush 32, 2) := by decide +kernel
theorem d_law_187 : decode b_law 187 = .ok (.lshl, 1) := by decide +kernel
theorem d_law_188 : decode b_law 188 = .ok (.aload_n 0, 1) := by decide +kernel
theorem d_law_189 : decode b_law 189 = .ok (.iload 4, 2) := by decide +kernel
theorem d_law_191 : decode b_law 191 = .ok (.iconst 5, 1) := by decide +kernel
theorem d_law_192 : decode b_law 192 = .ok (.iadd, 1) := by decide +kernel
theorem d_law_193 : decode b_law 193 = .ok (.iaload, 1) := by decide +kernel
theorem d_law_194 : decode b_law 194 = .ok (.i2l, 1) := by decide +kernel
theorem d_law_195 : decode b_law 195 = .ok (.ldc2_w 86, 3) := by decide +kernel
theorem d_law_198 : decode b_law 198 = .ok (.land, 1) := by decide +kernel
theorem d_law_199 : decode b_law 199 = .ok (.lor, 1) := by decide +kernel
theorem d_law_200 : decode b_law 200 = .ok (.aload_n 0, 1) := by decide +kernel
theorem d_law_201 : decode b_law 201 = .ok (.iload 4, 2) := by decide +kernel
theorem d_law_203 : decode b_law 203 = .ok (.bipush 6, 2) := by decide +kernel
theorem d_law_205 : decode b_law 205 = .ok (.iadd, 1) := by decide +kernel
theorem d_law_206 : decode b_law 206 = .ok (.iaload, 1) := by decide +kernel
theorem d_law_207 : decode b_law 207 = .ok (.i2l, 1) := by decide +kernel
theorem d_law_208 : decode b_law 208 = .ok (.bipush 32, 2) := by decide +kernel
theorem d_law_210 : decode b_law 210 = .ok (.lshl, 1) := by decide +kernel
theorem d_law_211 : decode b_law 211 = .ok (.aload_n 0, 1) := by decide +kernel
theorem d_law_212 : decode b_law 212 = .ok (.iload 4, 2) := by decide +kernel
theorem d_law_214 : decode b_law 214 = .ok (.bipush 7, 2) := by decide +kernel
theorem d_law_216 : decode b_law 216 = .ok (.iadd, 1) := by decide +kernel
theorem d_law_217 : decode b_law 217 = .ok (.iaload, 1) := by decide +kernel
theorem d_law_218 : decode b_law 218 = .ok (.i2l, 1) := by decide +kernel
theorem d_law_219 : decode b_law 219 = .ok (.ldc2_w 86, 3) := by decide +kernel
theorem d_law_222 : decode b_law 222 = .ok (.land, 1) := by decide +kernel
theorem d_law_223 : decode b_law 223 = .ok (.lor, 1) := by decide +kernel
theorem d_law_224 : decode b_law 224 = .ok (.aload_n 0, 1) := by decide +kernel
theorem d_law_225 : decode b_law 225 = .ok (.iload 4, 2) := by decide +kernel
theorem d_law_227 : decode b_law 227 = .ok (.bipush 8, 2) := by decide +kernel
theorem d_law_229 : decode b_law 229 = .ok (.iadd, 1) := by decide +kernel
theorem d_law_230 : decode b_law 230 = .ok (.iaload, 1) := by decide +kernel
theorem d_law_231 : decode b_law 231 = .ok (.i2l, 1) := by decide +kernel
theorem d_law_232 : decode b_law 232 = .ok (.bipush 32, 2) := by decide +kernel
theorem d_law_234 : decode b_law 234 = .ok (.lshl, 1) := by decide +kernel
theorem d_law_235 : decode b_law 235 = .ok (.aload_n 0, 1) := by decide +kernel
theorem d_law_236 : decode b_law 236 = .ok (.iload 4, 2) := by decide +kernel
theorem d_law_238 : decode b_law 238 = .ok (.bipush 9, 2) := by decide +kernel
theorem d_law_240 : decode b_law 240 = .ok (.iadd, 1) := by decide +kernel
theorem d_law_241 : decode b_law 241 = .ok (.iaload, 1) := by decide +kernel
theorem d_law_242 : decode b_law 242 = .ok (.i2l, 1) := by decide +kernel
theorem d_law_243 : decode b_law 243 = .ok (.ldc2_w 86, 3) := by decide +kernel
theorem d_law_246 : decode b_law 246 = .ok (.land, 1) := by decide +kernel
theorem d_law_247 : decode b_law 247 = .ok (.lor, 1) := by decide +kernel
theorem d_law_248 : decode b_law 248 = .ok (.aload_n 0, 1) := by decide +kernel
theorem d_law_249 : decode b_law 249 = .ok (.iload 4, 2) := by decide +kernel
theorem d_law_251 : decode b_law 251 = .ok (.bipush 10, 2) := by decide +kernel
theorem d_law_253 : decode b_law 253 = .ok (.iadd, 1) := by decide +kernel
theorem d_law_254 : decode b_law 254 = .ok (.iaload, 1) := by decide +kernel
theorem d_law_255 : decode b_law 255 = .ok (.i2l, 1) := by decide +kernel
theorem d_law_256 : decode b_law 256 = .ok (.bipush 32, 2) := by decide +kernel
theorem d_law_258 : decode b_law 258 = .ok (.lshl, 1) := by decide +kernel
theorem d_law_259 : decode b_law 259 = .ok (.aload_n 0, 1) := by decide +kernel
theorem d_law_260 : decode b_law 260 = .ok (.iload 4, 2) := by decide +kernel
theorem d_law_262 : decode b_law 262 = .ok (.bipush 11, 2) := by decide +kernel
theorem d_law_264 : decode b_law 264 = .ok (.iadd, 1) := by decide +kernel
theorem d_law_265 : decode b_law 265 = .ok (.iaload, 1) := by decide +kernel
theorem d_law_266 : decode b_law 266 = .ok (.i2l, 1) := by decide +kernel
theorem d_law_267 : decode b_law 267 = .ok (.ldc2_w 86, 3) := by decide +kernel
theorem d_law_270 : decode b_law 270 = .ok (.land, 1) := by decide +kernel
theorem d_law_271 : decode b_law 271 = .ok (.lor, 1) := by decide +kernel
theorem d_law_272 : decode b_law 272 = .ok (.aload_n 0, 1) := by decide +kernel
theorem d_law_273 : decode b_law 273 = .ok (.iload 4, 2) := by decide +kernel
theorem d_law_275 : decode b_law 275 = .ok (.bipush 12, 2) := by decide +kernel
theorem d_law_277 : decode b_law 277 = .ok (.iadd, 1) := by decide +kernel
theorem d_law_278 : decode b_law 278 = .ok (.iaload, 1) := by decide +kernel
theorem d_law_279 : decode b_law 279 = .ok (.i2l, 1) := by decide +kernel
theorem d_law_280 : decode b_law 280 = .ok (.bipush 32, 2) := by decide +kernel
theorem d_law_282 : decode b_law 282 = .ok (.lshl, 1) := by decide +kernel
theorem d_law_283 : decode b_law 283 = .ok (.aload_n 0, 1) := by decide +kernel
theorem d_law_284 : decode b_law 284 = .ok (.iload 4, 2) := by decide +kernel
theorem d_law_286 : decode b_law 286 = .ok (.bipush 13, 2) := by decide +kernel
theorem d_law_288 : decode b_law 288 = .ok (.iadd, 1) := by decide +kernel
theorem d_law_289 : decode b_law 289 = .ok (.iaload, 1) := by decide +kernel
theorem d_law_290 : decode b_law 290 = .ok (.i2l, 1) := by decide +kernel
theorem d_law_291 : decode b_law 291 = .ok (.ldc2_w 86, 3) := by decide +kernel
theorem d_law_294 : decode b_law 294 = .ok (.land, 1) := by decide +kernel
theorem d_law_295 : decode b_law 295 = .ok (.lor, 1) := by decide +kernel
theorem d_law_296 : decode b_law 296 = .ok (.aload_n 3, 1) := by decide +kernel
theorem d_law_297 : decode b_law 297 = .ok (.invokestatic 88, 3) := by decide +kernel
theorem d_law_300 : decode b_law 300 = .ok (.istore 5, 2) := by decide +kernel
theorem d_law_302 : decode b_law 302 = .ok (.aload_n 2, 1) := by decide +kernel
theorem d_law_303 : decode b_law 303 = .ok (.aload_n 0, 1) := by decide +kernel
theorem d_law_304 : decode b_law 304 = .ok (.iload 4, 2) := by decide +kernel
theorem d_law_306 : decode b_law 306 = .ok (.iconst 1, 1) := by decide +kernel
theorem d_law_307 : decode b_law 307 = .ok (.iadd, 1) := by decide +kernel
theorem d_law_308 : decode b_law 308 = .ok (.iaload, 1) := by decide +kernel
theorem d_law_309 : decode b_law 309 = .ok (.aload_n 0, 1) := by decide +kernel
theorem d_law_310 : decode b_law 310 = .ok (.iload 4, 2) := by decide +kernel
theorem d_law_312 : decode b_law 312 = .ok (.iconst 2, 1) := by decide +kernel
theorem d_law_313 : decode b_law 313 = .ok (.iadd, 1) := by decide +kernel
theorem d_law_314 : decode b_law 314 = .ok (.iaload, 1) := by decide +kernel
theorem d_law_315 : decode b_law 315 = .ok (.i2l, 1) := by decide +kernel
theorem d_law_316 : decode b_law 316 = .ok (.bipush 32, 2) := by decide +kernel
theorem d_law_318 : decode b_law 318 = .ok (.lshl, 1) := by decide +kernel
theorem d_law_319 : decode b_law 319 = .ok (.aload_n 0, 1) := by decide +kernel
theorem d_law_320 : decode b_law 320 = .ok (.iload 4, 2) := by decide +kernel
theorem d_law_322 : decode b_law 322 = .ok (.iconst 3, 1) := by decide +kernel
theorem d_law_323 : decode b_law 323 = .ok (.iadd, 1) := by decide +kernel
theorem d_law_324 : decode b_law 324 = .ok (.iaload, 1) := by decide +kernel
theorem d_law_325 : decode b_law 325 = .ok (.i2l, 1) := by decide +kernel
theorem d_law_326 : decode b_law 326 = .ok (.ldc2_w 86, 3) := by decide +kernel
theorem d_law_329 : decode b_law 329 = .ok (.land, 1) := by decide +kernel
theorem d_law_330 : decode b_law 330 = .ok (.lor, 1) := by decide +kernel
theorem d_law_331 : decode b_law 331 = .ok (.aload_n 0, 1) := by decide +kernel
theorem d_law_332 : decode b_law 332 = .ok (.iload 4, 2) := by decide +kernel
theorem d_law_334 : decode b_law 334 = .ok (.iconst 4, 1) := by decide +kernel
theorem d_law_335 : decode b_law 335 = .ok (.iadd, 1) := by decide +kernel
theorem d_law_336 : decode b_law 336 = .ok (.iaload, 1) := by decide +kernel
theorem d_law_337 : decode b_law 337 = .ok (.i2l, 1) := by decide +kernel
theorem d_law_338 : decode b_law 338 = .ok (.bipush 32, 2) := by decide +kernel
theorem d_law_340 : decode b_law 340 = .ok (.lshl, 1) := by decide +kernel
theorem d_law_341 : decode b_law 341 = .ok (.aload_n 0, 1) := by decide +kernel
theorem d_law_342 : decode b_law 342 = .ok (.iload 4, 2) := by decide +kernel
theorem d_law_344 : decode b_law 344 = .ok (.iconst 5, 1) := by decide +kernel
theorem d_law_345 : decode b_law 345 = .ok (.iadd, 1) := by decide +kernel
theorem d_law_346 : decode b_law 346 = .ok (.iaload, 1) := by decide +kernel
theorem d_law_347 : decode b_law 347 = .ok (.i2l, 1) := by decide +kernel
theorem d_law_348 : decode b_law 348 = .ok (.ldc2_w 86, 3) := by decide +kernel
theorem d_law_351 : decode b_law 351 = .ok (.land, 1) := by decide +kernel
theorem d_law_352 : decode b_law 352 = .ok (.lor, 1) := by decide +kernel
theorem d_law_353 : decode b_law 353 = .ok (.aload_n 0, 1) := by decide +kernel
theorem d_law_354 : decode b_law 354 = .ok (.iload 4, 2) := by decide +kernel
theorem d_law_356 : decode b_law 356 = .ok (.bipush 6, 2) := by decide +kernel
theorem d_law_358 : decode b_law 358 = .ok (.iadd, 1) := by decide +kernel
theorem d_law_359 : decode b_law 359 = .ok (.iaload, 1) := by decide +kernel
theorem d_law_360 : decode b_law 360 = .ok (.i2l, 1) := by decide +kernel
theorem d_law_361 : decode b_law 361 = .ok (.bipush 32, 2) := by decide +kernel
theorem d_law_363 : decode b_law 363 = .ok (.lshl, 1) := by decide +kernel
theorem d_law_364 : decode b_law 364 = .ok (.aload_n 0, 1) := by decide +kernel
theorem d_law_365 : decode b_law 365 = .ok (.iload 4, 2) := by decide +kernel
theorem d_law_367 : decode b_law 367 = .ok (.bipush 7, 2) := by decide +kernel
theorem d_law_369 : decode b_law 369 = .ok (.iadd, 1) := by decide +kernel
theorem d_law_370 : decode b_law 370 = .ok (.iaload, 1) := by decide +kernel
theorem d_law_371 : decode b_law 371 = .ok (.i2l, 1) := by decide +kernel
theorem d_law_372 : decode b_law 372 = .ok (.ldc2_w 86, 3) := by decide +kernel
theorem d_law_375 : decode b_law 375 = .ok (.land, 1) := by decide +kernel
theorem d_law_376 : decode b_law 376 = .ok (.lor, 1) := by decide +kernel
theorem d_law_377 : decode b_law 377 = .ok (.aload_n 0, 1) := by decide +kernel
theorem d_law_378 : decode b_law 378 = .ok (.iload 4, 2) := by decide +kernel
theorem d_law_380 : decode b_law 380 = .ok (.bipush 8, 2) := by decide +kernel
theorem d_law_382 : decode b_law 382 = .ok (.iadd, 1) := by decide +kernel
theorem d_law_383 : decode b_law 383 = .ok (.iaload, 1) := by decide +kernel
theorem d_law_384 : decode b_law 384 = .ok (.i2l, 1) := by decide +kernel
theorem d_law_385 : decode b_law 385 = .ok (.bipush 32, 2) := by decide +kernel
theorem d_law_387 : decode b_law 387 = .ok (.lshl, 1) := by decide +kernel
theorem d_law_388 : decode b_law 388 = .ok (.aload_n 0, 1) := by decide +kernel
theorem d_law_389 : decode b_law 389 = .ok (.iload 4, 2) := by decide +kernel
theorem d_law_391 : decode b_law 391 = .ok (.bipush 9, 2) := by decide +kernel
theorem d_law_393 : decode b_law 393 = .ok (.iadd, 1) := by decide +kernel
theorem d_law_394 : decode b_law 394 = .ok (.iaload, 1) := by decide +kernel
theorem d_law_395 : decode b_law 395 = .ok (.i2l, 1) := by decide +kernel
theorem d_law_396 : decode b_law 396 = .ok (.ldc2_w 86, 3) := by decide +kernel
theorem d_law_399 : decode b_law 399 = .ok (.land, 1) := by decide +kernel
theorem d_law_400 : decode b_law 400 = .ok (.lor, 1) := by decide +kernel
theorem d_law_401 : decode b_law 401 = .ok (.aload_n 0, 1) := by decide +kernel
theorem d_law_402 : decode b_law 402 = .ok (.iload 4, 2) := by decide +kernel
theorem d_law_404 : decode b_law 404 = .ok (.bipush 10, 2) := by decide +kernel
theorem d_law_406 : decode b_law 406 = .ok (.iadd, 1) := by decide +kernel
theorem d_law_407 : decode b_law 407 = .ok (.iaload, 1) := by decide +kernel
theorem d_law_408 : decode b_law 408 = .ok (.i2l, 1) := by decide +kernel
theorem d_law_409 : decode b_law 409 = .ok (.bipush 32, 2) := by decide +kernel
theorem d_law_411 : decode b_law 411 = .ok (.lshl, 1) := by decide +kernel
theorem d_law_412 : decode b_law 412 = .ok (.aload_n 0, 1) := by decide +kernel
theorem d_law_413 : decode b_law 413 = .ok (.iload 4, 2) := by decide +kernel
theorem d_law_415 : decode b_law 415 = .ok (.bipush 11, 2) := by decide +kernel
theorem d_law_417 : decode b_law 417 = .ok (.iadd, 1) := by decide +kernel
theorem d_law_418 : decode b_law 418 = .ok (.iaload, 1) := by decide +kernel
theorem d_law_419 : decode b_law 419 = .ok (.i2l, 1) := by decide +kernel
theorem d_law_420 : decode b_law 420 = .ok (.ldc2_w 86, 3) := by decide +kernel
theorem d_law_423 : decode b_law 423 = .ok (.land, 1) := by decide +kernel
theorem d_law_424 : decode b_law 424 = .ok (.lor, 1) := by decide +kernel
theorem d_law_425 : decode b_law 425 = .ok (.aload_n 0, 1) := by decide +kernel
theorem d_law_426 : decode b_law 426 = .ok (.iload 4, 2) := by decide +kernel
theorem d_law_428 : decode b_law 428 = .ok (.bipush 12, 2) := by decide +kernel
theorem d_law_430 : decode b_law 430 = .ok (.iadd, 1) := by decide +kernel
theorem d_law_431 : decode b_law 431 = .ok (.iaload, 1) := by decide +kernel
theorem d_law_432 : decode b_law 432 = .ok (.i2l, 1) := by decide +kernel
theorem d_law_433 : decode b_law 433 = .ok (.bipush 32, 2) := by decide +kernel
theorem d_law_435 : decode b_law 435 = .ok (.lshl, 1) := by decide +kernel
theorem d_law_436 : decode b_law 436 = .ok (.aload_n 0, 1) := by decide +kernel
theorem d_law_437 : decode b_law 437 = .ok (.iload 4, 2) := by decide +kernel
theorem d_law_439 : decode b_law 439 = .ok (.bipush 13, 2) := by decide +kernel
theorem d_law_441 : decode b_law 441 = .ok (.iadd, 1) := by decide +kernel
theorem d_law_442 : decode b_law 442 = .ok (.iaload, 1) := by decide +kernel
theorem d_law_443 : decode b_law 443 = .ok (.i2l, 1) := by decide +kernel
theorem d_law_444 : decode b_law 444 = .ok (.ldc2_w 86, 3) := by decide +kernel
theorem d_law_447 : decode b_law 447 = .ok (.land, 1) := by decide +kernel
theorem d_law_448 : decode b_law 448 = .ok (.lor, 1) := by decide +kernel
theorem d_law_449 : decode b_law 449 = .ok (.invokevirtual 91, 3) := by decide +kernel
theorem d_law_452 : decode b_law 452 = .ok (.istore 6, 2) := by decide +kernel
theorem d_law_454 : decode b_law 454 = .ok (.goto 1650, 3) := by decide +kernel
theorem d_law_457 : decode b_law 457 = .ok (.aload_n 1, 1) := by decide +kernel
theorem d_law_458 : decode b_law 458 = .ok (.aload_n 0, 1) := by decide +kernel
theorem d_law_459 : decode b_law 459 = .ok (.iload 4, 2) := by decide +kernel
theorem d_law_461 : decode b_law 461 = .ok (.iconst 1, 1) := by decide +kernel
theorem d_law_462 : decode b_law 462 = .ok (.iadd, 1) := by decide +kernel
theorem d_law_463 : decode b_law 463 = .ok (.iaload, 1) := by decide +kernel
theorem d_law_464 : decode b_law 464 = .ok (.aload_n 0, 1) := by decide +kernel
theorem d_law_465 : decode b_law 465 = .ok (.iload 4, 2) := by decide +kernel
theorem d_law_467 : decode b_law 467 = .ok (.iconst 2, 1) := by decide +kernel
theorem d_law_468 : decode b_law 468 = .ok (.iadd, 1) := by decide +kernel
theorem d_law_469 : decode b_law 469 = .ok (.iaload, 1) := by decide +kernel
theorem d_law_470 : decode b_law 470 = .ok (.i2l, 1) := by decide +kernel
theorem d_law_471 : decode b_law 471 = .ok (.bipush 32, 2) := by decide +kernel
theorem d_law_473 : decode b_law 473 = .ok (.lshl, 1) := by decide +kernel
theorem d_law_474 : decode b_law 474 = .ok (.aload_n 0, 1) := by decide +kernel
theorem d_law_475 : decode b_law 475 = .ok (.iload 4, 2) := by decide +kernel
theorem d_law_477 : decode b_law 477 = .ok (.iconst 3, 1) := by decide +kernel
theorem d_law_478 : decode b_law 478 = .ok (.iadd, 1) := by decide +kernel
theorem d_law_479 : decode b_law 479 = .ok (.iaload, 1) := by decide +kernel
theorem d_law_480 : decode b_law 480 = .ok (.i2l, 1) := by decide +kernel
theorem d_law_481 : decode b_law 481 = .ok (.ldc2_w 86, 3) := by decide +kernel
theorem d_law_484 : decode b_law 484 = .ok (.land, 1) := by decide +kernel
theorem d_law_485 : decode b_law 485 = .ok (.lor, 1) := by decide +kernel
theorem d_law_486 : decode b_law 486 = .ok (.aload_n 0, 1) := by decide +kernel
theorem d_law_487 : decode b_law 487 = .ok (.iload 4, 2) := by decide +kernel
theorem d_law_489 : decode b_law 489 = .ok (.iconst 4, 1) := by decide +kernel
theorem d_law_490 : decode b_law 490 = .ok (.iadd, 1) := by decide +kernel
theorem d_law_491 : decode b_law 491 = .ok (.iaload, 1) := by decide +kernel
theorem d_law_492 : decode b_law 492 = .ok (.i2l, 1) := by decide +kernel
theorem d_law_493 : decode b_law 493 = .ok (.bipush 32, 2) := by decide +kernel
theorem d_law_495 : decode b_law 495 = .ok (.lshl, 1) := by decide +kernel
theorem d_law_496 : decode b_law 496 = .ok (.aload_n 0, 1) := by decide +kernel
theorem d_law_497 : decode b_law 497 = .ok (.iload 4, 2) := by decide +kernel
theorem d_law_499 : decode b_law 499 = .ok (.iconst 5, 1) := by decide +kernel
theorem d_law_500 : decode b_law 500 = .ok (.iadd, 1) := by decide +kernel
theorem d_law_501 : decode b_law 501 = .ok (.iaload, 1) := by decide +kernel
theorem d_law_502 : decode b_law 502 = .ok (.i2l, 1) := by decide +kernel
theorem d_law_503 : decode b_law 503 = .ok (.ldc2_w 86, 3) := by decide +kernel
theorem d_law_506 : decode b_law 506 = .ok (.land, 1) := by decide +kernel
theorem d_law_507 : decode b_law 507 = .ok (.lor, 1) := by decide +kernel
theorem d_law_508 : decode b_law 508 = .ok (.aload_n 0, 1) := by decide +kernel
theorem d_law_509 : decode b_law 509 = .ok (.iload 4, 2) := by decide +kernel
theorem d_law_511 : decode b_law 511 = .ok (.bipush 6, 2) := by decide +kernel
theorem d_law_513 : decode b_law 513 = .ok (.iadd, 1) := by decide +kernel
theorem d_law_514 : decode b_law 514 = .ok (.iaload, 1) := by decide +kernel
theorem d_law_515 : decode b_law 515 = .ok (.i2l, 1) := by decide +kernel
theorem d_law_516 : decode b_law 516 = .ok (.bipush 32, 2) := by decide +kernel
theorem d_law_518 : decode b_law 518 = .ok (.lshl, 1) := by decide +kernel
theorem d_law_519 : decode b_law 519 = .ok (.aload_n 0, 1) := by decide +kernel
theorem d_law_520 : decode b_law 520 = .ok (.iload 4, 2) := by decide +kernel
theorem d_law_522 : decode b_law 522 = .ok (.bipush 7, 2) := by decide +kernel
theorem d_law_524 : decode b_law 524 = .ok (.iadd, 1) := by decide +kernel
theorem d_law_525 : decode b_law 525 = .ok (.iaload, 1) := by decide +kernel
theorem d_law_526 : decode b_law 526 = .ok (.i2l, 1) := by decide +kernel
theorem d_law_527 : decode b_law 527 = .ok (.ldc2_w 86, 3) := by decide +kernel
theorem d_law_530 : decode b_law 530 = .ok (.land, 1) := by decide +kernel
theorem d_law_531 : decode b_law 531 = .ok (.lor, 1) := by decide +kernel
theorem d_law_532 : decode b_law 532 = .ok (.aload_n 0, 1) := by decide +kernel
theorem d_law_533 : decode b_law 533 = .ok (.iload 4, 2) := by decide +kernel
theorem d_law_535 : decode b_law 535 = .ok (.bipush 8, 2) := by decide +kernel
theorem d_law_537 : decode b_law 537 = .ok (.iadd, 1) := by decide +kernel
theorem d_law_538 : decode b_law 538 = .ok (.iaload, 1) := by decide +kernel
theorem d_law_539 : decode b_law 539 = .ok (.i2l, 1) := by decide +kernel
theorem d_law_540 : decode b_law 540 = .ok (.bipush 32, 2) := by decide +kernel
theorem d_law_542 : decode b_law 542 = .ok (.lshl, 1) := by decide +kernel
theorem d_law_543 : decode b_law 543 = .ok (.aload_n 0, 1) := by decide +kernel
theorem d_law_544 : decode b_law 544 = .ok (.iload 4, 2) := by decide +kernel
theorem d_law_546 : decode b_law 546 = .ok (.bipush 9, 2) := by decide +kernel
theorem d_law_548 : decode b_law 548 = .ok (.iadd, 1) := by decide +kernel
theorem d_law_549 : decode b_law 549 = .ok (.iaload, 1) := by decide +kernel
theorem d_law_550 : decode b_law 550 = .ok (.i2l, 1) := by decide +kernel
theorem d_law_551 : decode b_law 551 = .ok (.ldc2_w 86, 3) := by decide +kernel
theorem d_law_554 : decode b_law 554 = .ok (.land, 1) := by decide +kernel
theorem d_law_555 : decode b_law 555 = .ok (.lor, 1) := by decide +kernel
theorem d_law_556 : decode b_law 556 = .ok (.aload_n 0, 1) := by decide +kernel
theorem d_law_557 : decode b_law 557 = .ok (.iload 4, 2) := by decide +kernel
theorem d_law_559 : decode b_law 559 = .ok (.bipush 10, 2) := by decide +kernel
theorem d_law_561 : decode b_law 561 = .ok (.iadd, 1) := by decide +kernel
theorem d_law_562 : decode b_law 562 = .ok (.iaload, 1) := by decide +kernel
theorem d_law_563 : decode b_law 563 = .ok (.i2l, 1) := by decide +kernel
theorem d_law_564 : decode b_law 564 = .ok (.bipush 32, 2) := by decide +kernel
theorem d_law_566 : decode b_law 566 = .ok (.lshl, 1) := by decide +kernel
theorem d_law_567 : decode b_law 567 = .ok (.aload_n 0, 1) := by decide +kernel
theorem d_law_568 : decode b_law 568 = .ok (.iload 4, 2) := by decide +kernel
theorem d_law_570 : decode b_law 570 = .ok (.bipush 11, 2) := by decide +kernel
theorem d_law_572 : decode b_law 572 = .ok (.iadd, 1) := by decide +kernel
theorem d_law_573 : decode b_law 573 = .ok (.iaload, 1) := by decide +kernel
theorem d_law_574 : decode b_law 574 = .ok (.i2l, 1) := by decide +kernel
theorem d_law_575 : decode b_law 575 = .ok (.ldc2_w 86, 3) := by decide +kernel
theorem d_law_578 : decode b_law 578 = .ok (.land, 1) := by decide +kernel
theorem d_law_579 : decode b_law 579 = .ok (.lor, 1) := by decide +kernel
theorem d_law_580 : decode b_law 580 = .ok (.aload_n 3, 1) := by decide +kernel
theorem d_law_581 : decode b_law 581 = .ok (.invokestatic 92, 3) := by decide +kernel
theorem d_law_584 : decode b_law 584 = .ok (.istore 5, 2) := by decide +kernel
theorem d_law_586 : decode b_law 586 = .ok (.aload_n 2, 1) := by decide +kernel
theorem d_law_587 : decode b_law 587 = .ok (.aload_n 0, 1) := by decide +kernel
theorem d_law_588 : decode b_law 588 = .ok (.iload 4, 2) := by decide +kernel
theorem d_law_590 : decode b_law 590 = .ok (.iconst 1, 1) := by decide +kernel
theorem d_law_591 : decode b_law 591 = .ok (.iadd, 1) := by decide +kernel
theorem d_law_592 : decode b_law 592 = .ok (.iaload, 1) := by decide +kernel
theorem d_law_593 : decode b_law 593 = .ok (.aload_n 0, 1) := by decide +kernel
theorem d_law_594 : decode b_law 594 = .ok (.iload 4, 2) := by decide +kernel
theorem d_law_596 : decode b_law 596 = .ok (.iconst 2, 1) := by decide +kernel
theorem d_law_597 : decode b_law 597 = .ok (.iadd, 1) := by decide +kernel
theorem d_law_598 : decode b_law 598 = .ok (.iaload, 1) := by decide +kernel
theorem d_law_599 : decode b_law 599 = .ok (.i2l, 1) := by decide +kernel
theorem d_law_600 : decode b_law 600 = .ok (.bipush 32, 2) := by decide +kernel
theorem d_law_602 : decode b_law 602 = .ok (.lshl, 1) := by decide +kernel
theorem d_law_603 : decode b_law 603 = .ok (.aload_n 0, 1) := by decide +kernel
theorem d_law_604 : decode b_law 604 = .ok (.iload 4, 2) := by decide +kernel
theorem d_law_606 : decode b_law 606 = .ok (.iconst 3, 1) := by decide +kernel
theorem d_law_607 : decode b_law 607 = .ok (.iadd, 1) := by decide +kernel
theorem d_law_608 : decode b_law 608 = .ok (.iaload, 1) := by decide +kernel
theorem d_law_609 : decode b_law 609 = .ok (.i2l, 1) := by decide +kernel
theorem d_law_610 : decode b_law 610 = .ok (.ldc2_w 86, 3) := by decide +kernel
theorem d_law_613 : decode b_law 613 = .ok (.land, 1) := by decide +kernel
theorem d_law_614 : decode b_law 614 = .ok (.lor, 1) := by decide +kernel
theorem d_law_615 : decode b_law 615 = .ok (.aload_n 0, 1) := by decide +kernel
theorem d_law_616 : decode b_law 616 = .ok (.iload 4, 2) := by decide +kernel
theorem d_law_618 : decode b_law 618 = .ok (.iconst 4, 1) := by decide +kernel
theorem d_law_619 : decode b_law 619 = .ok (.iadd, 1) := by decide +kernel
theorem d_law_620 : decode b_law 620 = .ok (.iaload, 1) := by decide +kernel
theorem d_law_621 : decode b_law 621 = .ok (.i2l, 1) := by decide +kernel
theorem d_law_622 : decode b_law 622 = .ok (.bipush 32, 2) := by decide +kernel
theorem d_law_624 : decode b_law 624 = .ok (.lshl, 1) := by decide +kernel
theorem d_law_625 : decode b_law 625 = .ok (.aload_n 0, 1) := by decide +kernel
theorem d_law_626 : decode b_law 626 = .ok (.iload 4, 2) := by decide +kernel
theorem d_law_628 : decode b_law 628 = .ok (.iconst 5, 1) := by decide +kernel
theorem d_law_629 : decode b_law 629 = .ok (.iadd, 1) := by decide +kernel
theorem d_law_630 : decode b_law 630 = .ok (.iaload, 1) := by decide +kernel
theorem d_law_631 : decode b_law 631 = .ok (.i2l, 1) := by decide +kernel
theorem d_law_632 : decode b_law 632 = .ok (.ldc2_w 86, 3) := by decide +kernel
theorem d_law_635 : decode b_law 635 = .ok (.land, 1) := by decide +kernel
theorem d_law_636 : decode b_law 636 = .ok (.lor, 1) := by decide +kernel
theorem d_law_637 : decode b_law 637 = .ok (.aload_n 0, 1) := by decide +kernel
theorem d_law_638 : decode b_law 638 = .ok (.iload 4, 2) := by decide +kernel
theorem d_law_640 : decode b_law 640 = .ok (.bipush 6, 2) := by decide +kernel
theorem d_law_642 : decode b_law 642 = .ok (.iadd, 1) := by decide +kernel
theorem d_law_643 : decode b_law 643 = .ok (.iaload, 1) := by decide +kernel
theorem d_law_644 : decode b_law 644 = .ok (.i2l, 1) := by decide +kernel
theorem d_law_645 : decode b_law 645 = .ok (.bipush 32, 2) := by decide +kernel
theorem d_law_647 : decode b_law 647 = .ok (.lshl, 1) := by decide +kernel
theorem d_law_648 : decode b_law 648 = .ok (.aload_n 0, 1) := by decide +kernel
theorem d_law_649 : decode b_law 649 = .ok (.iload 4, 2) := by decide +kernel
theorem d_law_651 : decode b_law 651 = .ok (.bipush 7, 2) := by decide +kernel
theorem d_law_653 : decode b_law 653 = .ok (.iadd, 1) := by decide +kernel
theorem d_law_654 : decode b_law 654 = .ok (.iaload, 1) := by decide +kernel
theorem d_law_655 : decode b_law 655 = .ok (.i2l, 1) := by decide +kernel
theorem d_law_656 : decode b_law 656 = .ok (.ldc2_w 86, 3) := by decide +kernel
theorem d_law_659 : decode b_law 659 = .ok (.land, 1) := by decide +kernel
theorem d_law_660 : decode b_law 660 = .ok (.lor, 1) := by decide +kernel
theorem d_law_661 : decode b_law 661 = .ok (.aload_n 0, 1) := by decide +kernel
theorem d_law_662 : decode b_law 662 = .ok (.iload 4, 2) := by decide +kernel
theorem d_law_664 : decode b_law 664 = .ok (.bipush 8, 2) := by decide +kernel
theorem d_law_666 : decode b_law 666 = .ok (.iadd, 1) := by decide +kernel
theorem d_law_667 : decode b_law 667 = .ok (.iaload, 1) := by decide +kernel
theorem d_law_668 : decode b_law 668 = .ok (.i2l, 1) := by decide +kernel
theorem d_law_669 : decode b_law 669 = .ok (.bipush 32, 2) := by decide +kernel
theorem d_law_671 : decode b_law 671 = .ok (.lshl, 1) := by decide +kernel
theorem d_law_672 : decode b_law 672 = .ok (.aload_n 0, 1) := by decide +kernel
theorem d_law_673 : decode b_law 673 = .ok (.iload 4, 2) := by decide +kernel
theorem d_law_675 : decode b_law 675 = .ok (.bipush 9, 2) := by decide +kernel
theorem d_law_677 : decode b_law 677 = .ok (.iadd, 1) := by decide +kernel
theorem d_law_678 : decode b_law 678 = .ok (.iaload, 1) := by decide +kernel
theorem d_law_679 : decode b_law 679 = .ok (.i2l, 1) := by decide +kernel
theorem d_law_680 : decode b_law 680 = .ok (.ldc2_w 86, 3) := by decide +kernel
theorem d_law_683 : decode b_law 683 = .ok (.land, 1) := by decide +kernel
theorem d_law_684 : decode b_law 684 = .ok (.lor, 1) := by decide +kernel
theorem d_law_685 : decode b_law 685 = .ok (.aload_n 0, 1) := by decide +kernel
theorem d_law_686 : decode b_law 686 = .ok (.iload 4, 2) := by decide +kernel
theorem d_law_688 : decode b_law 688 = .ok (.bipush 10, 2) := by decide +kernel
theorem d_law_690 : decode b_law 690 = .ok (.iadd, 1) := by decide +kernel
theorem d_law_691 : decode b_law 691 = .ok (.iaload, 1) := by decide +kernel
theorem d_law_692 : decode b_law 692 = .ok (.i2l, 1) := by decide +kernel
theorem d_law_693 : decode b_law 693 = .ok (.bipush 32, 2) := by decide +kernel
theorem d_law_695 : decode b_law 695 = .ok (.lshl, 1) := by decide +kernel
theorem d_law_696 : decode b_law 696 = .ok (.aload_n 0, 1) := by decide +kernel
theorem d_law_697 : decode b_law 697 = .ok (.iload 4, 2) := by decide +kernel
theorem d_law_699 : decode b_law 699 = .ok (.bipush 11, 2) := by decide +kernel
theorem d_law_701 : decode b_law 701 = .ok (.iadd, 1) := by decide +kernel
theorem d_law_702 : decode b_law 702 = .ok (.iaload, 1) := by decide +kernel
theorem d_law_703 : decode b_law 703 = .ok (.i2l, 1) := by decide +kernel
theorem d_law_704 : decode b_law 704 = .ok (.ldc2_w 86, 3) := by decide +kernel
theorem d_law_707 : decode b_law 707 = .ok (.land, 1) := by decide +kernel
theorem d_law_708 : decode b_law 708 = .ok (.lor, 1) := by decide +kernel
theorem d_law_709 : decode b_law 709 = .ok (.invokevirtual 95, 3) := by decide +kernel
theorem d_law_712 : decode b_law 712 = .ok (.istore 6, 2) := by decide +kernel
theorem d_law_714 : decode b_law 714 = .ok (.goto 1390, 3) := by decide +kernel
theorem d_law_717 : decode b_law 717 = .ok (.aload_n 1, 1) := by decide +kernel
theorem d_law_718 : decode b_law 718 = .ok (.aload_n 0, 1) := by decide +kernel
theorem d_law_719 : decode b_law 719 = .ok (.iload 4, 2) := by decide +kernel
theorem d_law_721 : decode b_law 721 = .ok (.iconst 1, 1) := by decide +kernel
theorem d_law_722 : decode b_law 722 = .ok (.iadd, 1) := by decide +kernel
theorem d_law_723 : decode b_law 723 = .ok (.iaload, 1) := by decide +kernel
theorem d_law_724 : decode b_law 724 = .ok (.i2l, 1) := by decide +kernel
theorem d_law_725 : decode b_law 725 = .ok (.bipush 32, 2) := by decide +kernel
theorem d_law_727 : decode b_law 727 = .ok (.lshl, 1) := by decide +kernel
theorem d_law_728 : decode b_law 728 = .ok (.aload_n 0, 1) := by decide +kernel
theorem d_law_729 : decode b_law 729 = .ok (.iload 4, 2) := by decide +kernel
theorem d_law_731 : decode b_law 731 = .ok (.iconst 2, 1) := by decide +kernel
theorem d_law_732 : decode b_law 732 = .ok (.iadd, 1) := by decide +kernel
theorem d_law_733 : decode b_law 733 = .ok (.iaload, 1) := by decide +kernel
theorem d_law_734 : decode b_law 734 = .ok (.i2l, 1) := by decide +kernel
theorem d_law_735 : decode b_law 735 = .ok (.ldc2_w 86, 3) := by decide +kernel
theorem d_law_738 : decode b_law 738 = .ok (.land, 1) := by decide +kernel
theorem d_law_739 : decode b_law 739 = .ok (.lor, 1) := by decide +kernel
theorem d_law_740 : decode b_law 740 = .ok (.aload_n 0, 1) := by decide +kernel
theorem d_law_741 : decode b_law 741 = .ok (.iload 4, 2) := by decide +kernel
theorem d_law_743 : decode b_law 743 = .ok (.iconst 3, 1) := by decide +kernel
theorem d_law_744 : decode b_law 744 = .ok (.iadd, 1) := by decide +kernel
theorem d_law_745 : decode b_law 745 = .ok (.iaload, 1) := by decide +kernel
theorem d_law_746 : decode b_law 746 = .ok (.i2l, 1) := by decide +kernel
theorem d_law_747 : decode b_law 747 = .ok (.bipush 32, 2) := by decide +kernel
theorem d_law_749 : decode b_law 749 = .ok (.lshl, 1) := by decide +kernel
theorem d_law_750 : decode b_law 750 = .ok (.aload_n 0, 1) := by decide +kernel
theorem d_law_751 : decode b_law 751 = .ok (.iload 4, 2) := by decide +kernel
theorem d_law_753 : decode b_law 753 = .ok (.iconst 4, 1) := by decide +kernel
theorem d_law_754 : decode b_law 754 = .ok (.iadd, 1) := by decide +kernel
theorem d_law_755 : decode b_law 755 = .ok (.iaload, 1) := by decide +kernel
theorem d_law_756 : decode b_law 756 = .ok (.i2l, 1) := by decide +kernel
theorem d_law_757 : decode b_law 757 = .ok (.ldc2_w 86, 3) := by decide +kernel
theorem d_law_760 : decode b_law 760 = .ok (.land, 1) := by decide +kernel
theorem d_law_761 : decode b_law 761 = .ok (.lor, 1) := by decide +kernel
theorem d_law_762 : decode b_law 762 = .ok (.aload_n 3, 1) := by decide +kernel
theorem d_law_763 : decode b_law 763 = .ok (.invokestatic 96, 3) := by decide +kernel
theorem d_law_766 : decode b_law 766 = .ok (.istore 5, 2) := by decide +kernel
theorem d_law_768 : decode b_law 768 = .ok (.aload_n 2, 1) := by decide +kernel
theorem d_law_769 : decode b_law 769 = .ok (.aload_n 0, 1) := by decide +kernel
theorem d_law_770 : decode b_law 770 = .ok (.iload 4, 2) := by decide +kernel
theorem d_law_772 : decode b_law 772 = .ok (.iconst 1, 1) := by decide +kernel
theorem d_law_773 : decode b_law 773 = .ok (.iadd, 1) := by decide +kernel
theorem d_law_774 : decode b_law 774 = .ok (.iaload, 1) := by decide +kernel
theorem d_law_775 : decode b_law 775 = .ok (.i2l, 1) := by decide +kernel
theorem d_law_776 : decode b_law 776 = .ok (.bipush 32, 2) := by decide +kernel
theorem d_law_778 : decode b_law 778 = .ok (.lshl, 1) := by decide +kernel
theorem d_law_779 : decode b_law 779 = .ok (.aload_n 0, 1) := by decide +kernel
theorem d_law_780 : decode b_law 780 = .ok (.iload 4, 2) := by decide +kernel
theorem d_law_782 : decode b_law 782 = .ok (.iconst 2, 1) := by decide +kernel
theorem d_law_783 : decode b_law 783 = .ok (.iadd, 1) := by decide +kernel
theorem d_law_784 : decode b_law 784 = .ok (.iaload, 1) := by decide +kernel
theorem d_law_785 : decode b_law 785 = .ok (.i2l, 1) := by decide +kernel
theorem d_law_786 : decode b_law 786 = .ok (.ldc2_w 86, 3) := by decide +kernel
theorem d_law_789 : decode b_law 789 = .ok (.land, 1) := by decide +kernel
theorem d_law_790 : decode b_law 790 = .ok (.lor, 1) := by decide +kernel
theorem d_law_791 : decode b_law 791 = .ok (.aload_n 0, 1) := by decide +kernel
theorem d_law_792 : decode b_law 792 = .ok (.iload 4, 2) := by decide +kernel
theorem d_law_794 : decode b_law 794 = .ok (.iconst 3, 1) := by decide +kernel
theorem d_law_795 : decode b_law 795 = .ok (.iadd, 1) := by decide +kernel
theorem d_law_796 : decode b_law 796 = .ok (.iaload, 1) := by decide +kernel
theorem d_law_797 : decode b_law 797 = .ok (.i2l, 1) := by decide +kernel
theorem d_law_798 : decode b_law 798 = .ok (.bipush 32, 2) := by decide +kernel
theorem d_law_800 : decode b_law 800 = .ok (.lshl, 1) := by decide +kernel
theorem d_law_801 : decode b_law 801 = .ok (.aload_n 0, 1) := by decide +kernel
theorem d_law_802 : decode b_law 802 = .ok (.iload 4, 2) := by decide +kernel
theorem d_law_804 : decode b_law 804 = .ok (.iconst 4, 1) := by decide +kernel
theorem d_law_805 : decode b_law 805 = .ok (.iadd, 1) := by decide +kernel
theorem d_law_806 : decode b_law 806 = .ok (.iaload, 1) := by decide +kernel
theorem d_law_807 : decode b_law 807 = .ok (.i2l, 1) := by decide +kernel
theorem d_law_808 : decode b_law 808 = .ok (.ldc2_w 86, 3) := by decide +kernel
theorem d_law_811 : decode b_law 811 = .ok (.land, 1) := by decide +kernel
theorem d_law_812 : decode b_law 812 = .ok (.lor, 1) := by decide +kernel
theorem d_law_813 : decode b_law 813 = .ok (.invokevirtual 99, 3) := by decide +kernel
theorem d_law_816 : decode b_law 816 = .ok (.istore 6, 2) := by decide +kernel
theorem d_law_818 : decode b_law 818 = .ok (.goto 1286, 3) := by decide +kernel
theorem d_law_821 : decode b_law 821 = .ok (.aload_n 1, 1) := by decide +kernel
theorem d_law_822 : decode b_law 822 = .ok (.aload_n 0, 1) := by decide +kernel
theorem d_law_823 : decode b_law 823 = .ok (.iload 4, 2) := by decide +kernel
theorem d_law_825 : decode b_law 825 = .ok (.iconst 1, 1) := by decide +kernel
theorem d_law_826 : decode b_law 826 = .ok (.iadd, 1) := by decide +kernel
theorem d_law_827 : decode b_law 827 = .ok (.iaload, 1) := by decide +kernel
theorem d_law_828 : decode b_law 828 = .ok (.aload_n 0, 1) := by decide +kernel
theorem d_law_829 : decode b_law 829 = .ok (.iload 4, 2) := by decide +kernel
theorem d_law_831 : decode b_law 831 = .ok (.iconst 2, 1) := by decide +kernel
theorem d_law_832 : decode b_law 832 = .ok (.iadd, 1) := by decide +kernel
theorem d_law_833 : decode b_law 833 = .ok (.iaload, 1) := by decide +kernel
theorem d_law_834 : decode b_law 834 = .ok (.i2l, 1) := by decide +kernel
theorem d_law_835 : decode b_law 835 = .ok (.bipush 32, 2) := by decide +kernel
theorem d_law_837 : decode b_law 837 = .ok (.lshl, 1) := by decide +kernel
theorem d_law_838 : decode b_law 838 = .ok (.aload_n 0, 1) := by decide +kernel
theorem d_law_839 : decode b_law 839 = .ok (.iload 4, 2) := by decide +kernel
theorem d_law_841 : decode b_law 841 = .ok (.iconst 3, 1) := by decide +kernel
theorem d_law_842 : decode b_law 842 = .ok (.iadd, 1) := by decide +kernel
theorem d_law_843 : decode b_law 843 = .ok (.iaload, 1) := by decide +kernel
theorem d_law_844 : decode b_law 844 = .ok (.i2l, 1) := by decide +kernel
theorem d_law_845 : decode b_law 845 = .ok (.ldc2_w 86, 3) := by decide +kernel
theorem d_law_848 : decode b_law 848 = .ok (.land, 1) := by decide +kernel
theorem d_law_849 : decode b_law 849 = .ok (.lor, 1) := by decide +kernel
theorem d_law_850 : decode b_law 850 = .ok (.aload_n 0, 1) := by decide +kernel
theorem d_law_851 : decode b_law 851 = .ok (.iload 4, 2) := by decide +kernel
theorem d_law_853 : decode b_law 853 = .ok (.iconst 4, 1) := by decide +kernel
theorem d_law_854 : decode b_law 854 = .ok (.iadd, 1) := by decide +kernel
theorem d_law_855 : decode b_law 855 = .ok (.iaload, 1) := by decide +kernel
theorem d_law_856 : decode b_law 856 = .ok (.i2l, 1) := by decide +kernel
theorem d_law_857 : decode b_law 857 = .ok (.bipush 32, 2) := by decide +kernel
theorem d_law_859 : decode b_law 859 = .ok (.lshl, 1) := by decide +kernel
theorem d_law_860 : decode b_law 860 = .ok (.aload_n 0, 1) := by decide +kernel
theorem d_law_861 : decode b_law 861 = .ok (.iload 4, 2) := by decide +kernel
theorem d_law_863 : decode b_law 863 = .ok (.iconst 5, 1) := by decide +kernel
theorem d_law_864 : decode b_law 864 = .ok (.iadd, 1) := by decide +kernel
theorem d_law_865 : decode b_law 865 = .ok (.iaload, 1) := by decide +kernel
theorem d_law_866 : decode b_law 866 = .ok (.i2l, 1) := by decide +kernel
theorem d_law_867 : decode b_law 867 = .ok (.ldc2_w 86, 3) := by decide +kernel
theorem d_law_870 : decode b_law 870 = .ok (.land, 1) := by decide +kernel
theorem d_law_871 : decode b_law 871 = .ok (.lor, 1) := by decide +kernel
theorem d_law_872 : decode b_law 872 = .ok (.aload_n 3, 1) := by decide +kernel
theorem d_law_873 : decode b_law 873 = .ok (.invokestatic 100, 3) := by decide +kernel
theorem d_law_876 : decode b_law 876 = .ok (.istore 5, 2) := by decide +kernel
theorem d_law_878 : decode b_law 878 = .ok (.aload_n 2, 1) := by decide +kernel
theorem d_law_879 : decode b_law 879 = .ok (.aload_n 0, 1) := by decide +kernel
theorem d_law_880 : decode b_law 880 = .ok (.iload 4, 2) := by decide +kernel
theorem d_law_882 : decode b_law 882 = .ok (.iconst 1, 1) := by decide +kernel
theorem d_law_883 : decode b_law 883 = .ok (.iadd, 1) := by decide +kernel
theorem d_law_884 : decode b_law 884 = .ok (.iaload, 1) := by decide +kernel
theorem d_law_885 : decode b_law 885 = .ok (.aload_n 0, 1) := by decide +kernel
theorem d_law_886 : decode b_law 886 = .ok (.iload 4, 2) := by decide +kernel
theorem d_law_888 : decode b_law 888 = .ok (.iconst 2, 1) := by decide +kernel
theorem d_law_889 : decode b_law 889 = .ok (.iadd, 1) := by decide +kernel
theorem d_law_890 : decode b_law 890 = .ok (.iaload, 1) := by decide +kernel
theorem d_law_891 : decode b_law 891 = .ok (.i2l, 1) := by decide +kernel
theorem d_law_892 : decode b_law 892 = .ok (.bipush 32, 2) := by decide +kernel
theorem d_law_894 : decode b_law 894 = .ok (.lshl, 1) := by decide +kernel
theorem d_law_895 : decode b_law 895 = .ok (.aload_n 0, 1) := by decide +kernel
theorem d_law_896 : decode b_law 896 = .ok (.iload 4, 2) := by decide +kernel
theorem d_law_898 : decode b_law 898 = .ok (.iconst 3, 1) := by decide +kernel
theorem d_law_899 : decode b_law 899 = .ok (.iadd, 1) := by decide +kernel
theorem d_law_900 : decode b_law 900 = .ok (.iaload, 1) := by decide +kernel
theorem d_law_901 : decode b_law 901 = .ok (.i2l, 1) := by decide +kernel
theorem d_law_902 : decode b_law 902 = .ok (.ldc2_w 86, 3) := by decide +kernel
theorem d_law_905 : decode b_law 905 = .ok (.land, 1) := by decide +kernel
theorem d_law_906 : decode b_law 906 = .ok (.lor, 1) := by decide +kernel
theorem d_law_907 : decode b_law 907 = .ok (.aload_n 0, 1) := by decide +kernel
theorem d_law_908 : decode b_law 908 = .ok (.iload 4, 2) := by decide +kernel
theorem d_law_910 : decode b_law 910 = .ok (.iconst 4, 1) := by decide +kernel
theorem d_law_911 : decode b_law 911 = .ok (.iadd, 1) := by decide +kernel
theorem d_law_912 : decode b_law 912 = .ok (.iaload, 1) := by decide +kernel
theorem d_law_913 : decode b_law 913 = .ok (.i2l, 1) := by decide +kernel
theorem d_law_914 : decode b_law 914 = .ok (.bipush 32, 2) := by decide +kernel
theorem d_law_916 : decode b_law 916 = .ok (.lshl, 1) := by decide +kernel
theorem d_law_917 : decode b_law 917 = .ok (.aload_n 0, 1) := by decide +kernel
theorem d_law_918 : decode b_law 918 = .ok (.iload 4, 2) := by decide +kernel
theorem d_law_920 : decode b_law 920 = .ok (.iconst 5, 1) := by decide +kernel
theorem d_law_921 : decode b_law 921 = .ok (.iadd, 1) := by decide +kernel
theorem d_law_922 : decode b_law 922 = .ok (.iaload, 1) := by decide +kernel
theorem d_law_923 : decode b_law 923 = .ok (.i2l, 1) := by decide +kernel
theorem d_law_924 : decode b_law 924 = .ok (.ldc2_w 86, 3) := by decide +kernel
theorem d_law_927 : decode b_law 927 = .ok (.land, 1) := by decide +kernel
theorem d_law_928 : decode b_law 928 = .ok (.lor, 1) := by decide +kernel
theorem d_law_929 : decode b_law 929 = .ok (.invokevirtual 103, 3) := by decide +kernel
theorem d_law_932 : decode b_law 932 = .ok (.istore 6, 2) := by decide +kernel
theorem d_law_934 : decode b_law 934 = .ok (.goto 1170, 3) := by decide +kernel
theorem d_law_937 : decode b_law 937 = .ok (.aload_n 1, 1) := by decide +kernel
theorem d_law_938 : decode b_law 938 = .ok (.aload_n 0, 1) := by decide +kernel
theorem d_law_939 : decode b_law 939 = .ok (.iload 4, 2) := by decide +kernel
theorem d_law_941 : decode b_law 941 = .ok (.iconst 1, 1) := by decide +kernel
theorem d_law_942 : decode b_law 942 = .ok (.iadd, 1) := by decide +kernel
theorem d_law_943 : decode b_law 943 = .ok (.iaload, 1) := by decide +kernel
theorem d_law_944 : decode b_law 944 = .ok (.aload_n 0, 1) := by decide +kernel
theorem d_law_945 : decode b_law 945 = .ok (.iload 4, 2) := by decide +kernel
theorem d_law_947 : decode b_law 947 = .ok (.iconst 2, 1) := by decide +kernel
theorem d_law_948 : decode b_law 948 = .ok (.iadd, 1) := by decide +kernel
theorem d_law_949 : decode b_law 949 = .ok (.iaload, 1) := by decide +kernel
theorem d_law_950 : decode b_law 950 = .ok (.i2l, 1) := by decide +kernel
theorem d_law_951 : decode b_law 951 = .ok (.bipush 32, 2) := by decide +kernel
theorem d_law_953 : decode b_law 953 = .ok (.lshl, 1) := by decide +kernel
theorem d_law_954 : decode b_law 954 = .ok (.aload_n 0, 1) := by decide +kernel
theorem d_law_955 : decode b_law 955 = .ok (.iload 4, 2) := by decide +kernel
theorem d_law_957 : decode b_law 957 = .ok (.iconst 3, 1) := by decide +kernel
theorem d_law_958 : decode b_law 958 = .ok (.iadd, 1) := by decide +kernel
theorem d_law_959 : decode b_law 959 = .ok (.iaload, 1) := by decide +kernel
theorem d_law_960 : decode b_law 960 = .ok (.i2l, 1) := by decide +kernel
theorem d_law_961 : decode b_law 961 = .ok (.ldc2_w 86, 3) := by decide +kernel
theorem d_law_964 : decode b_law 964 = .ok (.land, 1) := by decide +kernel
theorem d_law_965 : decode b_law 965 = .ok (.lor, 1) := by decide +kernel
theorem d_law_966 : decode b_law 966 = .ok (.aload_n 0, 1) := by decide +kernel
theorem d_law_967 : decode b_law 967 = .ok (.iload 4, 2) := by decide +kernel
theorem d_law_969 : decode b_law 969 = .ok (.iconst 4, 1) := by decide +kernel
theorem d_law_970 : decode b_law 970 = .ok (.iadd, 1) := by decide +kernel
theorem d_law_971 : decode b_law 971 = .ok (.iaload, 1) := by decide +kernel
theorem d_law_972 : decode b_law 972 = .ok (.i2l, 1) := by decide +kernel
theorem d_law_973 : decode b_law 973 = .ok (.bipush 32, 2) := by decide +kernel
theorem d_law_975 : decode b_law 975 = .ok (.lshl, 1) := by decide +kernel
theorem d_law_976 : decode b_law 976 = .ok (.aload_n 0, 1) := by decide +kernel
theorem d_law_977 : decode b_law 977 = .ok (.iload 4, 2) := by decide +kernel
theorem d_law_979 : decode b_law 979 = .ok (.iconst 5, 1) := by decide +kernel
theorem d_law_980 : decode b_law 980 = .ok (.iadd, 1) := by decide +kernel
theorem d_law_981 : decode b_law 981 = .ok (.iaload, 1) := by decide +kernel
theorem d_law_982 : decode b_law 982 = .ok (.i2l, 1) := by decide +kernel
theorem d_law_983 : decode b_law 983 = .ok (.ldc2_w 86, 3) := by decide +kernel
theorem d_law_986 : decode b_law 986 = .ok (.land, 1) := by decide +kernel
theorem d_law_987 : decode b_law 987 = .ok (.lor, 1) := by decide +kernel
theorem d_law_988 : decode b_law 988 = .ok (.aload_n 0, 1) := by decide +kernel
theorem d_law_989 : decode b_law 989 = .ok (.iload 4, 2) := by decide +kernel
theorem d_law_991 : decode b_law 991 = .ok (.bipush 6, 2) := by decide +kernel
theorem d_law_993 : decode b_law 993 = .ok (.iadd, 1) := by decide +kernel
theorem d_law_994 : decode b_law 994 = .ok (.iaload, 1) := by decide +kernel
theorem d_law_995 : decode b_law 995 = .ok (.i2l, 1) := by decide +kernel
theorem d_law_996 : decode b_law 996 = .ok (.bipush 32, 2) := by decide +kernel
theorem d_law_998 : decode b_law 998 = .ok (.lshl, 1) := by decide +kernel
theorem d_law_999 : decode b_law 999 = .ok (.aload_n 0, 1) := by decide +kernel
theorem d_law_1000 : decode b_law 1000 = .ok (.iload 4, 2) := by decide +kernel
theorem d_law_1002 : decode b_law 1002 = .ok (.bipush 7, 2) := by decide +kernel
theorem d_law_1004 : decode b_law 1004 = .ok (.iadd, 1) := by decide +kernel
theorem d_law_1005 : decode b_law 1005 = .ok (.iaload, 1) := by decide +kernel
theorem d_law_1006 : decode b_law 1006 = .ok (.i2l, 1) := by decide +kernel
theorem d_law_1007 : decode b_law 1007 = .ok (.ldc2_w 86, 3) := by decide +kernel
theorem d_law_1010 : decode b_law 1010 = .ok (.land, 1) := by decide +kernel
theorem d_law_1011 : decode b_law 1011 = .ok (.lor, 1) := by decide +kernel
theorem d_law_1012 : decode b_law 1012 = .ok (.aload_n 0, 1) := by decide +kernel
theorem d_law_1013 : decode b_law 1013 = .ok (.iload 4, 2) := by decide +kernel
theorem d_law_1015 : decode b_law 1015 = .ok (.bipush 8, 2) := by decide +kernel
theorem d_law_1017 : decode b_law 1017 = .ok (.iadd, 1) := by decide +kernel
theorem d_law_1018 : decode b_law 1018 = .ok (.iaload, 1) := by decide +kernel
theorem d_law_1019 : decode b_law 1019 = .ok (.i2l, 1) := by decide +kernel
theorem d_law_1020 : decode b_law 1020 = .ok (.bipush 32, 2) := by decide +kernel
theorem d_law_1022 : decode b_law 1022 = .ok (.lshl, 1) := by decide +kernel
theorem d_law_1023 : decode b_law 1023 = .ok (.aload_n 0, 1) := by decide +kernel
theorem d_law_1024 : decode b_law 1024 = .ok (.iload 4, 2) := by decide +kernel
theorem d_law_1026 : decode b_law 1026 = .ok (.bipush 9, 2) := by decide +kernel
theorem d_law_1028 : decode b_law 1028 = .ok (.iadd, 1) := by decide +kernel
theorem d_law_1029 : decode b_law 1029 = .ok (.iaload, 1) := by decide +kernel
theorem d_law_1030 : decode b_law 1030 = .ok (.i2l, 1) := by decide +kernel
theorem d_law_1031 : decode b_law 1031 = .ok (.ldc2_w 86, 3) := by decide +kernel
theorem d_law_1034 : decode b_law 1034 = .ok (.land, 1) := by decide +kernel
theorem d_law_1035 : decode b_law 1035 = .ok (.lor, 1) := by decide +kernel
theorem d_law_1036 : decode b_law 1036 = .ok (.aload_n 0, 1) := by decide +kernel
theorem d_law_1037 : decode b_law 1037 = .ok (.iload 4, 2) := by decide +kernel
theorem d_law_1039 : decode b_law 1039 = .ok (.bipush 10, 2) := by decide +kernel
theorem d_law_1041 : decode b_law 1041 = .ok (.iadd, 1) := by decide +kernel
theorem d_law_1042 : decode b_law 1042 = .ok (.iaload, 1) := by decide +kernel
theorem d_law_1043 : decode b_law 1043 = .ok (.aload_n 0, 1) := by decide +kernel
theorem d_law_1044 : decode b_law 1044 = .ok (.iload 4, 2) := by decide +kernel
theorem d_law_1046 : decode b_law 1046 = .ok (.bipush 11, 2) := by decide +kernel
theorem d_law_1048 : decode b_law 1048 = .ok (.iadd, 1) := by decide +kernel
theorem d_law_1049 : decode b_law 1049 = .ok (.iaload, 1) := by decide +kernel
theorem d_law_1050 : decode b_law 1050 = .ok (.i2l, 1) := by decide +kernel
theorem d_law_1051 : decode b_law 1051 = .ok (.bipush 32, 2) := by decide +kernel
theorem d_law_1053 : decode b_law 1053 = .ok (.lshl, 1) := by decide +kernel
theorem d_law_1054 : decode b_law 1054 = .ok (.aload_n 0, 1) := by decide +kernel
theorem d_law_1055 : decode b_law 1055 = .ok (.iload 4, 2) := by decide +kernel
theorem d_law_1057 : decode b_law 1057 = .ok (.bipush 12, 2) := by decide +kernel
theorem d_law_1059 : decode b_law 1059 = .ok (.iadd, 1) := by decide +kernel
theorem d_law_1060 : decode b_law 1060 = .ok (.iaload, 1) := by decide +kernel
theorem d_law_1061 : decode b_law 1061 = .ok (.i2l, 1) := by decide +kernel
theorem d_law_1062 : decode b_law 1062 = .ok (.ldc2_w 86, 3) := by decide +kernel
theorem d_law_1065 : decode b_law 1065 = .ok (.land, 1) := by decide +kernel
theorem d_law_1066 : decode b_law 1066 = .ok (.lor, 1) := by decide +kernel
theorem d_law_1067 : decode b_law 1067 = .ok (.aload_n 3, 1) := by decide +kernel
theorem d_law_1068 : decode b_law 1068 = .ok (.invokestatic 104, 3) := by decide +kernel
theorem d_law_1071 : decode b_law 1071 = .ok (.istore 5, 2) := by decide +kernel
theorem d_law_1073 : decode b_law 1073 = .ok (.aload_n 2, 1) := by decide +kernel
theorem d_law_1074 : decode b_law 1074 = .ok (.aload_n 0, 1) := by decide +kernel
theorem d_law_1075 : decode b_law 1075 = .ok (.iload 4, 2) := by decide +kernel
theorem d_law_1077 : decode b_law 1077 = .ok (.iconst 1, 1) := by decide +kernel
theorem d_law_1078 : decode b_law 1078 = .ok (.iadd, 1) := by decide +kernel
theorem d_law_1079 : decode b_law 1079 = .ok (.iaload, 1) := by decide +kernel
theorem d_law_1080 : decode b_law 1080 = .ok (.aload_n 0, 1) := by decide +kernel
theorem d_law_1081 : decode b_law 1081 = .ok (.iload 4, 2) := by decide +kernel
theorem d_law_1083 : decode b_law 1083 = .ok (.iconst 2, 1) := by decide +kernel
theorem d_law_1084 : decode b_law 1084 = .ok (.iadd, 1) := by decide +kernel
theorem d_law_1085 : decode b_law 1085 = .ok (.iaload, 1) := by decide +kernel
theorem d_law_1086 : decode b_law 1086 = .ok (.i2l, 1) := by decide +kernel
theorem d_law_1087 : decode b_law 1087 = .ok (.bipush 32, 2) := by decide +kernel
theorem d_law_1089 : decode b_law 1089 = .ok (.lshl, 1) := by decide +kernel
theorem d_law_1090 : decode b_law 1090 = .ok (.aload_n 0, 1) := by decide +kernel
theorem d_law_1091 : decode b_law 1091 = .ok (.iload 4, 2) := by decide +kernel
theorem d_law_1093 : decode b_law 1093 = .ok (.iconst 3, 1) := by decide +kernel
theorem d_law_1094 : decode b_law 1094 = .ok (.iadd, 1) := by decide +kernel
theorem d_law_1095 : decode b_law 1095 = .ok (.iaload, 1) := by decide +kernel
theorem d_law_1096 : decode b_law 1096 = .ok (.i2l, 1) := by decide +kernel
theorem d_law_1097 : decode b_law 1097 = .ok (.ldc2_w 86, 3) := by decide +kernel
theorem d_law_1100 : decode b_law 1100 = .ok (.land, 1) := by decide +kernel
theorem d_law_1101 : decode b_law 1101 = .ok (.lor, 1) := by decide +kernel
theorem d_law_1102 : decode b_law 1102 = .ok (.aload_n 0, 1) := by decide +kernel
theorem d_law_1103 : decode b_law 1103 = .ok (.iload 4, 2) := by decide +kernel
theorem d_law_1105 : decode b_law 1105 = .ok (.iconst 4, 1) := by decide +kernel
theorem d_law_1106 : decode b_law 1106 = .ok (.iadd, 1) := by decide +kernel
theorem d_law_1107 : decode b_law 1107 = .ok (.iaload, 1) := by decide +kernel
theorem d_law_1108 : decode b_law 1108 = .ok (.i2l, 1) := by decide +kernel
theorem d_law_1109 : decode b_law 1109 = .ok (.bipush 32, 2) := by decide +kernel
theorem d_law_1111 : decode b_law 1111 = .ok (.lshl, 1) := by decide +kernel
theorem d_law_1112 : decode b_law 1112 = .ok (.aload_n 0, 1) := by decide +kernel
theorem d_law_1113 : decode b_law 1113 = .ok (.iload 4, 2) := by decide +kernel
theorem d_law_1115 : decode b_law 1115 = .ok (.iconst 5, 1) := by decide +kernel
theorem d_law_1116 : decode b_law 1116 = .ok (.iadd, 1) := by decide +kernel
theorem d_law_1117 : decode b_law 1117 = .ok (.iaload, 1) := by decide +kernel
theorem d_law_1118 : decode b_law 1118 = .ok (.i2l, 1) := by decide +kernel
theorem d_law_1119 : decode b_law 1119 = .ok (.ldc2_w 86, 3) := by decide +kernel
theorem d_law_1122 : decode b_law 1122 = .ok (.land, 1) := by decide +kernel
theorem d_law_1123 : decode b_law 1123 = .ok (.lor, 1) := by decide +kernel
theorem d_law_1124 : decode b_law 1124 = .ok (.aload_n 0, 1) := by decide +kernel
theorem d_law_1125 : decode b_law 1125 = .ok (.iload 4, 2) := by decide +kernel
theorem d_law_1127 : decode b_law 1127 = .ok (.bipush 6, 2) := by decide +kernel
theorem d_law_1129 : decode b_law 1129 = .ok (.iadd, 1) := by decide +kernel
theorem d_law_1130 : decode b_law 1130 = .ok (.iaload, 1) := by decide +kernel
theorem d_law_1131 : decode b_law 1131 = .ok (.i2l, 1) := by decide +kernel
theorem d_law_1132 : decode b_law 1132 = .ok (.bipush 32, 2) := by decide +kernel
theorem d_law_1134 : decode b_law 1134 = .ok (.lshl, 1) := by decide +kernel
theorem d_law_1135 : decode b_law 1135 = .ok (.aload_n 0, 1) := by decide +kernel
theorem d_law_1136 : decode b_law 1136 = .ok (.iload 4, 2) := by decide +kernel
theorem d_law_1138 : decode b_law 1138 = .ok (.bipush 7, 2) := by decide +kernel
theorem d_law_1140 : decode b_law 1140 = .ok (.iadd, 1) := by decide +kernel
theorem d_law_1141 : decode b_law 1141 = .ok (.iaload, 1) := by decide +kernel
theorem d_law_1142 : decode b_law 1142 = .ok (.i2l, 1) := by decide +kernel
theorem d_law_1143 : decode b_law 1143 = .ok (.ldc2_w 86, 3) := by decide +kernel
theorem d_law_1146 : decode b_law 1146 = .ok (.land, 1) := by decide +kernel
theorem d_law_1147 : decode b_law 1147 = .ok (.lor, 1) := by decide +kernel
theorem d_law_1148 : decode b_law 1148 = .ok (.aload_n 0, 1) := by decide +kernel
theorem d_law_1149 : decode b_law 1149 = .ok (.iload 4, 2) := by decide +kernel
theorem d_law_1151 : decode b_law 1151 = .ok (.bipush 8, 2) := by decide +kernel
theorem d_law_1153 : decode b_law 1153 = .ok (.iadd, 1) := by decide +kernel
theorem d_law_1154 : decode b_law 1154 = .ok (.iaload, 1) := by decide +kernel
theorem d_law_1155 : decode b_law 1155 = .ok (.i2l, 1) := by decide +kernel
theorem d_law_1156 : decode b_law 1156 = .ok (.bipush 32, 2) := by decide +kernel
theorem d_law_1158 : decode b_law 1158 = .ok (.lshl, 1) := by decide +kernel
theorem d_law_1159 : decode b_law 1159 = .ok (.aload_n 0, 1) := by decide +kernel
theorem d_law_1160 : decode b_law 1160 = .ok (.iload 4, 2) := by decide +kernel
theorem d_law_1162 : decode b_law 1162 = .ok (.bipush 9, 2) := by decide +kernel
theorem d_law_1164 : decode b_law 1164 = .ok (.iadd, 1) := by decide +kernel
theorem d_law_1165 : decode b_law 1165 = .ok (.iaload, 1) := by decide +kernel
theorem d_law_1166 : decode b_law 1166 = .ok (.i2l, 1) := by decide +kernel
theorem d_law_1167 : decode b_law 1167 = .ok (.ldc2_w 86, 3) := by decide +kernel
theorem d_law_1170 : decode b_law 1170 = .ok (.land, 1) := by decide +kernel
theorem d_law_1171 : decode b_law 1171 = .ok (.lor, 1) := by decide +kernel
theorem d_law_1172 : decode b_law 1172 = .ok (.aload_n 0, 1) := by decide +kernel
theorem d_law_1173 : decode b_law 1173 = .ok (.iload 4, 2) := by decide +kernel
theorem d_law_1175 : decode b_law 1175 = .ok (.bipush 10, 2) := by decide +kernel
theorem d_law_1177 : decode b_law 1177 = .ok (.iadd, 1) := by decide +kernel
theorem d_law_1178 : decode b_law 1178 = .ok (.iaload, 1) := by decide +kernel
theorem d_law_1179 : decode b_law 1179 = .ok (.aload_n 0, 1) := by decide +kernel
theorem d_law_1180 : decode b_law 1180 = .ok (.iload 4, 2) := by decide +kernel
theorem d_law_1182 : decode b_law 1182 = .ok (.bipush 11, 2) := by decide +kernel
theorem d_law_1184 : decode b_law 1184 = .ok (.iadd, 1) := by decide +kernel
theorem d_law_1185 : decode b_law 1185 = .ok (.iaload, 1) := by decide +kernel
theorem d_law_1186 : decode b_law 1186 = .ok (.i2l, 1) := by decide +kernel
theorem d_law_1187 : decode b_law 1187 = .ok (.bipush 32, 2) := by decide +kernel
theorem d_law_1189 : decode b_law 1189 = .ok (.lshl, 1) := by decide +kernel
theorem d_law_1190 : decode b_law 1190 = .ok (.aload_n 0, 1) := by decide +kernel
theorem d_law_1191 : decode b_law 1191 = .ok (.iload 4, 2) := by decide +kernel
theorem d_law_1193 : decode b_law 1193 = .ok (.bipush 12, 2) := by decide +kernel
theorem d_law_1195 : decode b_law 1195 = .ok (.iadd, 1) := by decide +kernel
theorem d_law_1196 : decode b_law 1196 = .ok (.iaload, 1) := by decide +kernel
theorem d_law_1197 : decode b_law 1197 = .ok (.i2l, 1) := by decide +kernel
theorem d_law_1198 : decode b_law 1198 = .ok (.ldc2_w 86, 3) := by decide +kernel
theorem d_law_1201 : decode b_law 1201 = .ok (.land, 1) := by decide +kernel
theorem d_law_1202 : decode b_law 1202 = .ok (.lor, 1) := by decide +kernel
theorem d_law_1203 : decode b_law 1203 = .ok (.invokevirtual 107, 3) := by decide +kernel
theorem d_law_1206 : decode b_law 1206 = .ok (.istore 6, 2) := by decide +kernel
theorem d_law_1208 : decode b_law 1208 = .ok (.goto 896, 3) := by decide +kernel
theorem d_law_1211 : decode b_law 1211 = .ok (.aload_n 1, 1) := by decide +kernel
theorem d_law_1212 : decode b_law 1212 = .ok (.aload_n 0, 1) := by decide +kernel
theorem d_law_1213 : decode b_law 1213 = .ok (.iload 4, 2) := by decide +kernel
theorem d_law_1215 : decode b_law 1215 = .ok (.iconst 1, 1) := by decide +kernel
theorem d_law_1216 : decode b_law 1216 = .ok (.iadd, 1) := by decide +kernel
theorem d_law_1217 : decode b_law 1217 = .ok (.iaload, 1) := by decide +kernel
theorem d_law_1218 : decode b_law 1218 = .ok (.aload_n 0, 1) := by decide +kernel
theorem d_law_1219 : decode b_law 1219 = .ok (.iload 4, 2) := by decide +kernel
theorem d_law_1221 : decode b_law 1221 = .ok (.iconst 2, 1) := by decide +kernel
theorem d_law_1222 : decode b_law 1222 = .ok (.iadd, 1) := by decide +kernel
theorem d_law_1223 : decode b_law 1223 = .ok (.iaload, 1) := by decide +kernel
theorem d_law_1224 : decode b_law 1224 = .ok (.aload_n 3, 1) := by decide +kernel
theorem d_law_1225 : decode b_law 1225 = .ok (.invokestatic 108, 3) := by decide +kernel
theorem d_law_1228 : decode b_law 1228 = .ok (.istore 5, 2) := by decide +kernel
theorem d_law_1230 : decode b_law 1230 = .ok (.aload_n 2, 1) := by decide +kernel
theorem d_law_1231 : decode b_law 1231 = .ok (.aload_n 0, 1) := by decide +kernel
theorem d_law_1232 : decode b_law 1232 = .ok (.iload 4, 2) := by decide +kernel
theorem d_law_1234 : decode b_law 1234 = .ok (.iconst 1, 1) := by decide +kernel
theorem d_law_1235 : decode b_law 1235 = .ok (.iadd, 1) := by decide +kernel
theorem d_law_1236 : decode b_law 1236 = .ok (.iaload, 1) := by decide +kernel
theorem d_law_1237 : decode b_law 1237 = .ok (.aload_n 0, 1) := by decide +kernel
theorem d_law_1238 : decode b_law 1238 = .ok (.iload 4, 2) := by decide +kernel
theorem d_law_1240 : decode b_law 1240 = .ok (.iconst 2, 1) := by decide +kernel
theorem d_law_1241 : decode b_law 1241 = .ok (.iadd, 1) := by decide +kernel
theorem d_law_1242 : decode b_law 1242 = .ok (.iaload, 1) := by decide +kernel
theorem d_law_1243 : decode b_law 1243 = .ok (.invokevirtual 111, 3) := by decide +kernel
theorem d_law_1246 : decode b_law 1246 = .ok (.istore 6, 2) := by decide +kernel
theorem d_law_1248 : decode b_law 1248 = .ok (.goto 856, 3) := by decide +kernel
theorem d_law_1251 : decode b_law 1251 = .ok (.aload_n 1, 1) := by decide +kernel
theorem d_law_1252 : decode b_law 1252 = .ok (.aload_n 0, 1) := by decide +kernel
theorem d_law_1253 : decode b_law 1253 = .ok (.iload 4, 2) := by decide +kernel
theorem d_law_1255 : decode b_law 1255 = .ok (.iconst 1, 1) := by decide +kernel
theorem d_law_1256 : decode b_law 1256 = .ok (.iadd, 1) := by decide +kernel
theorem d_law_1257 : decode b_law 1257 = .ok (.iaload, 1) := by decide +kernel
theorem d_law_1258 : decode b_law 1258 = .ok (.aload_n 0, 1) := by decide +kernel
theorem d_law_1259 : decode b_law 1259 = .ok (.iload 4, 2) := by decide +kernel
theorem d_law_1261 : decode b_law 1261 = .ok (.iconst 2, 1) := by decide +kernel
theorem d_law_1262 : decode b_law 1262 = .ok (.iadd, 1) := by decide +kernel
theorem d_law_1263 : decode b_law 1263 = .ok (.iaload, 1) := by decide +kernel
theorem d_law_1264 : decode b_law 1264 = .ok (.i2l, 1) := by decide +kernel
theorem d_law_1265 : decode b_law 1265 = .ok (.bipush 32, 2) := by decide +kernel
theorem d_law_1267 : decode b_law 1267 = .ok (.lshl, 1) := by decide +kernel
theorem d_law_1268 : decode b_law 1268 = .ok (.aload_n 0, 1) := by decide +kernel
theorem d_law_1269 : decode b_law 1269 = .ok (.iload 4, 2) := by decide +kernel
theorem d_law_1271 : decode b_law 1271 = .ok (.iconst 3, 1) := by decide +kernel
theorem d_law_1272 : decode b_law 1272 = .ok (.iadd, 1) := by decide +kernel
theorem d_law_1273 : decode b_law 1273 = .ok (.iaload, 1) := by decide +kernel
theorem d_law_1274 : decode b_law 1274 = .ok (.i2l, 1) := by decide +kernel
theorem d_law_1275 : decode b_law 1275 = .ok (.ldc2_w 86, 3) := by decide +kernel
theorem d_law_1278 : decode b_law 1278 = .ok (.land, 1) := by decide +kernel
theorem d_law_1279 : decode b_law 1279 = .ok (.lor, 1) := by decide +kernel
theorem d_law_1280 : decode b_law 1280 = .ok (.aload_n 0, 1) := by decide +kernel
theorem d_law_1281 : decode b_law 1281 = .ok (.iload 4, 2) := by decide +kernel
theorem d_law_1283 : decode b_law 1283 = .ok (.iconst 4, 1) := by decide +kernel
theorem d_law_1284 : decode b_law 1284 = .ok (.iadd, 1) := by decide +kernel
theorem d_law_1285 : decode b_law 1285 = .ok (.iaload, 1) := by decide +kernel
theorem d_law_1286 : decode b_law 1286 = .ok (.i2l, 1) := by decide +kernel
theorem d_law_1287 : decode b_law 1287 = .ok (.bipush 32, 2) := by decide +kernel
theorem d_law_1289 : decode b_law 1289 = .ok (.lshl, 1) := by decide +kernel
theorem d_law_1290 : decode b_law 1290 = .ok (.aload_n 0, 1) := by decide +kernel
theorem d_law_1291 : decode b_law 1291 = .ok (.iload 4, 2) := by decide +kernel
theorem d_law_1293 : decode b_law 1293 = .ok (.iconst 5, 1) := by decide +kernel
theorem d_law_1294 : decode b_law 1294 = .ok (.iadd, 1) := by decide +kernel
theorem d_law_1295 : decode b_law 1295 = .ok (.iaload, 1) := by decide +kernel
theorem d_law_1296 : decode b_law 1296 = .ok (.i2l, 1) := by decide +kernel
theorem d_law_1297 : decode b_law 1297 = .ok (.ldc2_w 86, 3) := by decide +kernel
theorem d_law_1300 : decode b_law 1300 = .ok (.land, 1) := by decide +kernel
theorem d_law_1301 : decode b_law 1301 = .ok (.lor, 1) := by decide +kernel
theorem d_law_1302 : decode b_law 1302 = .ok (.aload_n 0, 1) := by decide +kernel
theorem d_law_1303 : decode b_law 1303 = .ok (.iload 4, 2) := by decide +kernel
theorem d_law_1305 : decode b_law 1305 = .ok (.bipush 6, 2) := by decide +kernel
theorem d_law_1307 : decode b_law 1307 = .ok (.iadd, 1) := by decide +kernel
theorem d_law_1308 : decode b_law 1308 = .ok (.iaload, 1) := by decide +kernel
theorem d_law_1309 : decode b_law 1309 = .ok (.aload_n 0, 1) := by decide +kernel
theorem d_law_1310 : decode b_law 1310 = .ok (.iload 4, 2) := by decide +kernel
theorem d_law_1312 : decode b_law 1312 = .ok (.bipush 7, 2) := by decide +kernel
theorem d_law_1314 : decode b_law 1314 = .ok (.iadd, 1) := by decide +kernel
theorem d_law_1315 : decode b_law 1315 = .ok (.iaload, 1) := by decide +kernel
theorem d_law_1316 : decode b_law 1316 = .ok (.aload_n 3, 1) := by decide +kernel
theorem d_law_1317 : decode b_law 1317 = .ok (.invokestatic 112, 3) := by decide +kernel
theorem d_law_1320 : decode b_law 1320 = .ok (.istore 5, 2) := by decide +kernel
theorem d_law_1322 : decode b_law 1322 = .ok (.aload_n 2, 1) := by decide +kernel
theorem d_law_1323 : decode b_law 1323 = .ok (.aload_n 0, 1) := by decide +kernel
theorem d_law_1324 : decode b_law 1324 = .ok (.iload 4, 2) := by decide +kernel
theorem d_law_1326 : decode b_law 1326 = .ok (.iconst 1, 1) := by decide +kernel
theorem d_law_1327 : decode b_law 1327 = .ok (.iadd, 1) := by decide +kernel
theorem d_law_1328 : decode b_law 1328 = .ok (.iaload, 1) := by decide +kernel
theorem d_law_1329 : decode b_law 1329 = .ok (.aload_n 0, 1) := by decide +kernel
theorem d_law_1330 : decode b_law 1330 = .ok (.iload 4, 2) := by decide +kernel
theorem d_law_1332 : decode b_law 1332 = .ok (.iconst 2, 1) := by decide +kernel
theorem d_law_1333 : decode b_law 1333 = .ok (.iadd, 1) := by decide +kernel
theorem d_law_1334 : decode b_law 1334 = .ok (.iaload, 1) := by decide +kernel
theorem d_law_1335 : decode b_law 1335 = .ok (.i2l, 1) := by decide +kernel
theorem d_law_1336 : decode b_law 1336 = .ok (.bipush 32, 2) := by decide +kernel
theorem d_law_1338 : decode b_law 1338 = .ok (.lshl, 1) := by decide +kernel
theorem d_law_1339 : decode b_law 1339 = .ok (.aload_n 0, 1) := by decide +kernel
theorem d_law_1340 : decode b_law 1340 = .ok (.iload 4, 2) := by decide +kernel
theorem d_law_1342 : decode b_law 1342 = .ok (.iconst 3, 1) := by decide +kernel
theorem d_law_1343 : decode b_law 1343 = .ok (.iadd, 1) := by decide +kernel
theorem d_law_1344 : decode b_law 1344 = .ok (.iaload, 1) := by decide +kernel
theorem d_law_1345 : decode b_law 1345 = .ok (.i2l, 1) := by decide +kernel
theorem d_law_1346 : decode b_law 1346 = .ok (.ldc2_w 86, 3) := by decide +kernel
theorem d_law_1349 : decode b_law 1349 = .ok (.land, 1) := by decide +kernel
theorem d_law_1350 : decode b_law 1350 = .ok (.lor, 1) := by decide +kernel
theorem d_law_1351 : decode b_law 1351 = .ok (.aload_n 0, 1) := by decide +kernel
theorem d_law_1352 : decode b_law 1352 = .ok (.iload 4, 2) := by decide +kernel
theorem d_law_1354 : decode b_law 1354 = .ok (.iconst 4, 1) := by decide +kernel
theorem d_law_1355 : decode b_law 1355 = .ok (.iadd, 1) := by decide +kernel
theorem d_law_1356 : decode b_law 1356 = .ok (.iaload, 1) := by decide +kernel
theorem d_law_1357 : decode b_law 1357 = .ok (.i2l, 1) := by decide +kernel
theorem d_law_1358 : decode b_law 1358 = .ok (.bipush 32, 2) := by decide +kernel
theorem d_law_1360 : decode b_law 1360 = .ok (.lshl, 1) := by decide +kernel
theorem d_law_1361 : decode b_law 1361 = .ok (.aload_n 0, 1) := by decide +kernel
theorem d_law_1362 : decode b_law 1362 = .ok (.iload 4, 2) := by decide +kernel
theorem d_law_1364 : decode b_law 1364 = .ok (.iconst 5, 1) := by decide +kernel
theorem d_law_1365 : decode b_law 1365 = .ok (.iadd, 1) := by decide +kernel
theorem d_law_1366 : decode b_law 1366 = .ok (.iaload, 1) := by decide +kernel
theorem d_law_1367 : decode b_law 1367 = .ok (.i2l, 1) := by decide +kernel
theorem d_law_1368 : decode b_law 1368 = .ok (.ldc2_w 86, 3) := by decide +kernel
theorem d_law_1371 : decode b_law 1371 = .ok (.land, 1) := by decide +kernel
theorem d_law_1372 : decode b_law 1372 = .ok (.lor, 1) := by decide +kernel
theorem d_law_1373 : decode b_law 1373 = .ok (.aload_n 0, 1) := by decide +kernel
theorem d_law_1374 : decode b_law 1374 = .ok (.iload 4, 2) := by decide +kernel
theorem d_law_1376 : decode b_law 1376 = .ok (.bipush 6, 2) := by decide +kernel
theorem d_law_1378 : decode b_law 1378 = .ok (.iadd, 1) := by decide +kernel
theorem d_law_1379 : decode b_law 1379 = .ok (.iaload, 1) := by decide +kernel
theorem d_law_1380 : decode b_law 1380 = .ok (.aload_n 0, 1) := by decide +kernel
theorem d_law_1381 : decode b_law 1381 = .ok (.iload 4, 2) := by decide +kernel
theorem d_law_1383 : decode b_law 1383 = .ok (.bipush 7, 2) := by decide +kernel
theorem d_law_1385 : decode b_law 1385 = .ok (.iadd, 1) := by decide +kernel
theorem d_law_1386 : decode b_law 1386 = .ok (.iaload, 1) := by decide +kernel
theorem d_law_1387 : decode b_law 1387 = .ok (.invokevirtual 115, 3) := by decide +kernel
theorem d_law_1390 : decode b_law 1390 = .ok (.istore 6, 2) := by decide +kernel
theorem d_law_1392 : decode b_law 1392 = .ok (.goto 712, 3) := by decide +kernel
theorem d_law_1395 : decode b_law 1395 = .ok (.aload_n 1, 1) := by decide +kernel
theorem d_law_1396 : decode b_law 1396 = .ok (.aload_n 0, 1) := by decide +kernel
theorem d_law_1397 : decode b_law 1397 = .ok (.iload 4, 2) := by decide +kernel
theorem d_law_1399 : decode b_law 1399 = .ok (.iconst 1, 1) := by decide +kernel
theorem d_law_1400 : decode b_law 1400 = .ok (.iadd, 1) := by decide +kernel
theorem d_law_1401 : decode b_law 1401 = .ok (.iaload, 1) := by decide +kernel
theorem d_law_1402 : decode b_law 1402 = .ok (.aload_n 0, 1) := by decide +kernel
theorem d_law_1403 : decode b_law 1403 = .ok (.iload 4, 2) := by decide +kernel
theorem d_law_1405 : decode b_law 1405 = .ok (.iconst 2, 1) := by decide +kernel
theorem d_law_1406 : decode b_law 1406 = .ok (.iadd, 1) := by decide +kernel
theorem d_law_1407 : decode b_law 1407 = .ok (.iaload, 1) := by decide +kernel
theorem d_law_1408 : decode b_law 1408 = .ok (.i2l, 1) := by decide +kernel
theorem d_law_1409 : decode b_law 1409 = .ok (.bipush 32, 2) := by decide +kernel
theorem d_law_1411 : decode b_law 1411 = .ok (.lshl, 1) := by decide +kernel
theorem d_law_1412 : decode b_law 1412 = .ok (.aload_n 0, 1) := by decide +kernel
theorem d_law_1413 : decode b_law 1413 = .ok (.iload 4, 2) := by decide +kernel
theorem d_law_1415 : decode b_law 1415 = .ok (.iconst 3, 1) := by decide +kernel
theorem d_law_1416 : decode b_law 1416 = .ok (.iadd, 1) := by decide +kernel
theorem d_law_1417 : decode b_law 1417 = .ok (.iaload, 1) := by decide +kernel
theorem d_law_1418 : decode b_law 1418 = .ok (.i2l, 1) := by decide +kernel
theorem d_law_1419 : decode b_law 1419 = .ok (.ldc2_w 86, 3) := by decide +kernel
theorem d_law_1422 : decode b_law 1422 = .ok (.land, 1) := by decide +kernel
theorem d_law_1423 : decode b_law 1423 = .ok (.lor, 1) := by decide +kernel
theorem d_law_1424 : decode b_law 1424 = .ok (.aload_n 0, 1) := by decide +kernel
theorem d_law_1425 : decode b_law 1425 = .ok (.iload 4, 2) := by decide +kernel
theorem d_law_1427 : decode b_law 1427 = .ok (.iconst 4, 1) := by decide +kernel
theorem d_law_1428 : decode b_law 1428 = .ok (.iadd, 1) := by decide +kernel
theorem d_law_1429 : decode b_law 1429 = .ok (.iaload, 1) := by decide +kernel
theorem d_law_1430 : decode b_law 1430 = .ok (.i2l, 1) := by decide +kernel
theorem d_law_1431 : decode b_law 1431 = .ok (.bipush 32, 2) := by decide +kernel
theorem d_law_1433 : decode b_law 1433 = .ok (.lshl, 1) := by decide +kernel
theorem d_law_1434 : decode b_law 1434 = .ok (.aload_n 0, 1) := by decide +kernel
theorem d_law_1435 : decode b_law 1435 = .ok (.iload 4, 2) := by decide +kernel
theorem d_law_1437 : decode b_law 1437 = .ok (.iconst 5, 1) := by decide +kernel
theorem d_law_1438 : decode b_law 1438 = .ok (.iadd, 1) := by decide +kernel
theorem d_law_1439 : decode b_law 1439 = .ok (.iaload, 1) := by decide +kernel
theorem d_law_1440 : decode b_law 1440 = .ok (.i2l, 1) := by decide +kernel
theorem d_law_1441 : decode b_law 1441 = .ok (.ldc2_w 86, 3) := by decide +kernel
theorem d_law_1444 : decode b_law 1444 = .ok (.land, 1) := by decide +kernel
theorem d_law_1445 : decode b_law 1445 = .ok (.lor, 1) := by decide +kernel
theorem d_law_1446 : decode b_law 1446 = .ok (.aload_n 0, 1) := by decide +kernel
theorem d_law_1447 : decode b_law 1447 = .ok (.iload 4, 2) := by decide +kernel
theorem d_law_1449 : decode b_law 1449 = .ok (.bipush 6, 2) := by decide +kernel
theorem d_law_1451 : decode b_law 1451 = .ok (.iadd, 1) := by decide +kernel
theorem d_law_1452 : decode b_law 1452 = .ok (.iaload, 1) := by decide +kernel
theorem d_law_1453 : decode b_law 1453 = .ok (.aload_n 0, 1) := by decide +kernel
theorem d_law_1454 : decode b_law 1454 = .ok (.iload 4, 2) := by decide +kernel
theorem d_law_1456 : decode b_law 1456 = .ok (.bipush 7, 2) := by decide +kernel
theorem d_law_1458 : decode b_law 1458 = .ok (.iadd, 1) := by decide +kernel
theorem d_law_1459 : decode b_law 1459 = .ok (.iaload, 1) := by decide +kernel
theorem d_law_1460 : decode b_law 1460 = .ok (.aload_n 3, 1) := by decide +kernel
theorem d_law_1461 : decode b_law 1461 = .ok (.invokestatic 116, 3) := by decide +kernel
theorem d_law_1464 : decode b_law 1464 = .ok (.istore 5, 2) := by decide +kernel
theorem d_law_1466 : decode b_law 1466 = .ok (.aload_n 2, 1) := by decide +kernel
theorem d_law_1467 : decode b_law 1467 = .ok (.aload_n 0, 1) := by decide +kernel
theorem d_law_1468 : decode b_law 1468 = .ok (.iload 4, 2) := by decide +kernel
theorem d_law_1470 : decode b_law 1470 = .ok (.iconst 1, 1) := by decide +kernel
theorem d_law_1471 : decode b_law 1471 = .ok (.iadd, 1) := by decide +kernel
theorem d_law_1472 : decode b_law 1472 = .ok (.iaload, 1) := by decide +kernel
theorem d_law_1473 : decode b_law 1473 = .ok (.aload_n 0, 1) := by decide +kernel
theorem d_law_1474 : decode b_law 1474 = .ok (.iload 4, 2) := by decide +kernel
theorem d_law_1476 : decode b_law 1476 = .ok (.iconst 2, 1) := by decide +kernel
theorem d_law_1477 : decode b_law 1477 = .ok (.iadd, 1) := by decide +kernel
theorem d_law_1478 : decode b_law 1478 = .ok (.iaload, 1) := by decide +kernel
theorem d_law_1479 : decode b_law 1479 = .ok (.i2l, 1) := by decide +kernel
theorem d_law_1480 : decode b_law 1480 = .ok (.bipush 32, 2) := by decide +kernel
theorem d_law_1482 : decode b_law 1482 = .ok (.lshl, 1) := by decide +kernel
theorem d_law_1483 : decode b_law 1483 = .ok (.aload_n 0, 1) := by decide +kernel
theorem d_law_1484 : decode b_law 1484 = .ok (.iload 4, 2) := by decide +kernel
theorem d_law_1486 : decode b_law 1486 = .ok (.iconst 3, 1) := by decide +kernel
theorem d_law_1487 : decode b_law 1487 = .ok (.iadd, 1) := by decide +kernel
theorem d_law_1488 : decode b_law 1488 = .ok (.iaload, 1) := by decide +kernel
theorem d_law_1489 : decode b_law 1489 = .ok (.i2l, 1) := by decide +kernel
theorem d_law_1490 : decode b_law 1490 = .ok (.ldc2_w 86, 3) := by decide +kernel
theorem d_law_1493 : decode b_law 1493 = .ok (.land, 1) := by decide +kernel
theorem d_law_1494 : decode b_law 1494 = .ok (.lor, 1) := by decide +kernel
theorem d_law_1495 : decode b_law 1495 = .ok (.aload_n 0, 1) := by decide +kernel
theorem d_law_1496 : decode b_law 1496 = .ok (.iload 4, 2) := by decide +kernel
theorem d_law_1498 : decode b_law 1498 = .ok (.iconst 4, 1) := by decide +kernel
theorem d_law_1499 : decode b_law 1499 = .ok (.iadd, 1) := by decide +kernel
theorem d_law_1500 : decode b_law 1500 = .ok (.iaload, 1) := by decide +kernel
theorem d_law_1501 : decode b_law 1501 = .ok (.i2l, 1) := by decide +kernel
theorem d_law_1502 : decode b_law 1502 = .ok (.bipush 32, 2) := by decide +kernel
theorem d_law_1504 : decode b_law 1504 = .ok (.lshl, 1) := by decide +kernel
theorem d_law_1505 : decode b_law 1505 = .ok (.aload_n 0, 1) := by decide +kernel
theorem d_law_1506 : decode b_law 1506 = .ok (.iload 4, 2) := by decide +kernel
theorem d_law_1508 : decode b_law 1508 = .ok (.iconst 5, 1) := by decide +kernel
theorem d_law_1509 : decode b_law 1509 = .ok (.iadd, 1) := by decide +kernel
theorem d_law_1510 : decode b_law 1510 = .ok (.iaload, 1) := by decide +kernel
theorem d_law_1511 : decode b_law 1511 = .ok (.i2l, 1) := by decide +kernel
theorem d_law_1512 : decode b_law 1512 = .ok (.ldc2_w 86, 3) := by decide +kernel
theorem d_law_1515 : decode b_law 1515 = .ok (.land, 1) := by decide +kernel
theorem d_law_1516 : decode b_law 1516 = .ok (.lor, 1) := by decide +kernel
theorem d_law_1517 : decode b_law 1517 = .ok (.aload_n 0, 1) := by decide +kernel
theorem d_law_1518 : decode b_law 1518 = .ok (.iload 4, 2) := by decide +kernel
theorem d_law_1520 : decode b_law 1520 = .ok (.bipush 6, 2) := by decide +kernel
theorem d_law_1522 : decode b_law 1522 = .ok (.iadd, 1) := by decide +kernel
theorem d_law_1523 : decode b_law 1523 = .ok (.iaload, 1) := by decide +kernel
theorem d_law_1524 : decode b_law 1524 = .ok (.aload_n 0, 1) := by decide +kernel
theorem d_law_1525 : decode b_law 1525 = .ok (.iload 4, 2) := by decide +kernel
theorem d_law_1527 : decode b_law 1527 = .ok (.bipush 7, 2) := by decide +kernel
theorem d_law_1529 : decode b_law 1529 = .ok (.iadd, 1) := by decide +kernel
theorem d_law_1530 : decode b_law 1530 = .ok (.iaload, 1) := by decide +kernel
theorem d_law_1531 : decode b_law 1531 = .ok (.invokevirtual 118, 3) := by decide +kernel
theorem d_law_1534 : decode b_law 1534 = .ok (.istore 6, 2) := by decide +kernel
theorem d_law_1536 : decode b_law 1536 = .ok (.goto 568, 3) := by decide +kernel
theorem d_law_1539 : decode b_law 1539 = .ok (.aload_n 1, 1) := by decide +kernel
theorem d_law_1540 : decode b_law 1540 = .ok (.aload_n 0, 1) := by decide +kernel
theorem d_law_1541 : decode b_law 1541 = .ok (.iload 4, 2) := by decide +kernel
theorem d_law_1543 : decode b_law 1543 = .ok (.iconst 1, 1) := by decide +kernel
theorem d_law_1544 : decode b_law 1544 = .ok (.iadd, 1) := by decide +kernel
theorem d_law_1545 : decode b_law 1545 = .ok (.iaload, 1) := by decide +kernel
theorem d_law_1546 : decode b_law 1546 = .ok (.aload_n 0, 1) := by decide +kernel
theorem d_law_1547 : decode b_law 1547 = .ok (.iload 4, 2) := by decide +kernel
theorem d_law_1549 : decode b_law 1549 = .ok (.iconst 2, 1) := by decide +kernel
theorem d_law_1550 : decode b_law 1550 = .ok (.iadd, 1) := by decide +kernel
theorem d_law_1551 : decode b_law 1551 = .ok (.iaload, 1) := by decide +kernel
theorem d_law_1552 : decode b_law 1552 = .ok (.aload_n 3, 1) := by decide +kernel
theorem d_law_1553 : decode b_law 1553 = .ok (.invokestatic 119, 3) := by decide +kernel
theorem d_law_1556 : decode b_law 1556 = .ok (.istore 5, 2) := by decide +kernel
theorem d_law_1558 : decode b_law 1558 = .ok (.aload_n 2, 1) := by decide +kernel
theorem d_law_1559 : decode b_law 1559 = .ok (.aload_n 0, 1) := by decide +kernel
theorem d_law_1560 : decode b_law 1560 = .ok (.iload 4, 2) := by decide +kernel
theorem d_law_1562 : decode b_law 1562 = .ok (.iconst 1, 1) := by decide +kernel
theorem d_law_1563 : decode b_law 1563 = .ok (.iadd, 1) := by decide +kernel
theorem d_law_1564 : decode b_law 1564 = .ok (.iaload, 1) := by decide +kernel
theorem d_law_1565 : decode b_law 1565 = .ok (.aload_n 0, 1) := by decide +kernel
theorem d_law_1566 : decode b_law 1566 = .ok (.iload 4, 2) := by decide +kernel
theorem d_law_1568 : decode b_law 1568 = .ok (.iconst 2, 1) := by decide +kernel
theorem d_law_1569 : decode b_law 1569 = .ok (.iadd, 1) := by decide +kernel
theorem d_law_1570 : decode b_law 1570 = .ok (.iaload, 1) := by decide +kernel
theorem d_law_1571 : decode b_law 1571 = .ok (.invokevirtual 121, 3) := by decide +kernel
theorem d_law_1574 : decode b_law 1574 = .ok (.istore 6, 2) := by decide +kernel
theorem d_law_1576 : decode b_law 1576 = .ok (.goto 528, 3) := by decide +kernel
theorem d_law_1579 : decode b_law 1579 = .ok (.aload_n 1, 1) := by decide +kernel
theorem d_law_1580 : decode b_law 1580 = .ok (.invokevirtual 122, 3) := by decide +kernel
theorem d_law_1583 : decode b_law 1583 = .ok (.pop, 1) := by decide +kernel
theorem d_law_1584 : decode b_law 1584 = .ok (.aload_n 2, 1) := by decide +kernel
theorem d_law_1585 : decode b_law 1585 = .ok (.invokevirtual 125, 3) := by decide +kernel
theorem d_law_1588 : decode b_law 1588 = .ok (.pop, 1) := by decide +kernel
theorem d_law_1589 : decode b_law 1589 = .ok (.goto 515, 3) := by decide +kernel
theorem d_law_1592 : decode b_law 1592 = .ok (.aload_n 1, 1) := by decide +kernel
theorem d_law_1593 : decode b_law 1593 = .ok (.aload_n 0, 1) := by decide +kernel
theorem d_law_1594 : decode b_law 1594 = .ok (.iload 4, 2) := by decide +kernel
theorem d_law_1596 : decode b_law 1596 = .ok (.iconst 1, 1) := by decide +kernel
theorem d_law_1597 : decode b_law 1597 = .ok (.iadd, 1) := by decide +kernel
theorem d_law_1598 : decode b_law 1598 = .ok (.iaload, 1) := by decide +kernel
theorem d_law_1599 : decode b_law 1599 = .ok (.aload_n 0, 1) := by decide +kernel
theorem d_law_1600 : decode b_law 1600 = .ok (.iload 4, 2) := by decide +kernel
theorem d_law_1602 : decode b_law 1602 = .ok (.iconst 2, 1) := by decide +kernel
theorem d_law_1603 : decode b_law 1603 = .ok (.iadd, 1) := by decide +kernel
theorem d_law_1604 : decode b_law 1604 = .ok (.iaload, 1) := by decide +kernel
theorem d_law_1605 : decode b_law 1605 = .ok (.aload_n 3, 1) := by decide +kernel
theorem d_law_1606 : decode b_law 1606 = .ok (.invokestatic 126, 3) := by decide +kernel
theorem d_law_1609 : decode b_law 1609 = .ok (.istore 5, 2) := by decide +kernel
theorem d_law_1611 : decode b_law 1611 = .ok (.aload_n 2, 1) := by decide +kernel
theorem d_law_1612 : decode b_law 1612 = .ok (.aload_n 0, 1) := by decide +kernel
theorem d_law_1613 : decode b_law 1613 = .ok (.iload 4, 2) := by decide +kernel
theorem d_law_1615 : decode b_law 1615 = .ok (.iconst 1, 1) := by decide +kernel
theorem d_law_1616 : decode b_law 1616 = .ok (.iadd, 1) := by decide +kernel
theorem d_law_1617 : decode b_law 1617 = .ok (.iaload, 1) := by decide +kernel
theorem d_law_1618 : decode b_law 1618 = .ok (.aload_n 0, 1) := by decide +kernel
theorem d_law_1619 : decode b_law 1619 = .ok (.iload 4, 2) := by decide +kernel
theorem d_law_1621 : decode b_law 1621 = .ok (.iconst 2, 1) := by decide +kernel
theorem d_law_1622 : decode b_law 1622 = .ok (.iadd, 1) := by decide +kernel
theorem d_law_1623 : decode b_law 1623 = .ok (.iaload, 1) := by decide +kernel
theorem d_law_1624 : decode b_law 1624 = .ok (.invokevirtual 128, 3) := by decide +kernel
theorem d_law_1627 : decode b_law 1627 = .ok (.istore 6, 2) := by decide +kernel
theorem d_law_1629 : decode b_law 1629 = .ok (.goto 475, 3) := by decide +kernel
theorem d_law_1632 : decode b_law 1632 = .ok (.aload_n 1, 1) := by decide +kernel
theorem d_law_1633 : decode b_law 1633 = .ok (.aload_n 0, 1) := by decide +kernel
theorem d_law_1634 : decode b_law 1634 = .ok (.iload 4, 2) := by decide +kernel
theorem d_law_1636 : decode b_law 1636 = .ok (.iconst 1, 1) := by decide +kernel
theorem d_law_1637 : decode b_law 1637 = .ok (.iadd, 1) := by decide +kernel
theorem d_law_1638 : decode b_law 1638 = .ok (.iaload, 1) := by decide +kernel
theorem d_law_1639 : decode b_law 1639 = .ok (.i2l, 1) := by decide +kernel
theorem d_law_1640 : decode b_law 1640 = .ok (.bipush 32, 2) := by decide +kernel
theorem d_law_1642 : decode b_law 1642 = .ok (.lshl, 1) := by decide +kernel
theorem d_law_1643 : decode b_law 1643 = .ok (.aload_n 0, 1) := by decide +kernel
theorem d_law_1644 : decode b_law 1644 = .ok (.iload 4, 2) := by decide +kernel
theorem d_law_1646 : decode b_law 1646 = .ok (.iconst 2, 1) := by decide +kernel
theorem d_law_1647 : decode b_law 1647 = .ok (.iadd, 1) := by decide +kernel
theorem d_law_1648 : decode b_law 1648 = .ok (.iaload, 1) := by decide +kernel
theorem d_law_1649 : decode b_law 1649 = .ok (.i2l, 1) := by decide +kernel
theorem d_law_1650 : decode b_law 1650 = .ok (.ldc2_w 86, 3) := by decide +kernel
theorem d_law_1653 : decode b_law 1653 = .ok (.land, 1) := by decide +kernel
theorem d_law_1654 : decode b_law 1654 = .ok (.lor, 1) := by decide +kernel
theorem d_law_1655 : decode b_law 1655 = .ok (.aload_n 0, 1) := by decide +kernel
theorem d_law_1656 : decode b_law 1656 = .ok (.iload 4, 2) := by decide +kernel
theorem d_law_1658 : decode b_law 1658 = .ok (.iconst 3, 1) := by decide +kernel
theorem d_law_1659 : decode b_law 1659 = .ok (.iadd, 1) := by decide +kernel
theorem d_law_1660 : decode b_law 1660 = .ok (.iaload, 1) := by decide +kernel
theorem d_law_1661 : decode b_law 1661 = .ok (.i2l, 1) := by decide +kernel
theorem d_law_1662 : decode b_law 1662 = .ok (.bipush 32, 2) := by decide +kernel
theorem d_law_1664 : decode b_law 1664 = .ok (.lshl, 1) := by decide +kernel
theorem d_law_1665 : decode b_law 1665 = .ok (.aload_n 0, 1) := by decide +kernel
theorem d_law_1666 : decode b_law 1666 = .ok (.iload 4, 2) := by decide +kernel
theorem d_law_1668 : decode b_law 1668 = .ok (.iconst 4, 1) := by decide +kernel
theorem d_law_1669 : decode b_law 1669 = .ok (.iadd, 1) := by decide +kernel
theorem d_law_1670 : decode b_law 1670 = .ok (.iaload, 1) := by decide +kernel
theorem d_law_1671 : decode b_law 1671 = .ok (.i2l, 1) := by decide +kernel
theorem d_law_1672 : decode b_law 1672 = .ok (.ldc2_w 86, 3) := by decide +kernel
theorem d_law_1675 : decode b_law 1675 = .ok (.land, 1) := by decide +kernel
theorem d_law_1676 : decode b_law 1676 = .ok (.lor, 1) := by decide +kernel
theorem d_law_1677 : decode b_law 1677 = .ok (.aload_n 0, 1) := by decide +kernel
theorem d_law_1678 : decode b_law 1678 = .ok (.iload 4, 2) := by decide +kernel
theorem d_law_1680 : decode b_law 1680 = .ok (.iconst 5, 1) := by decide +kernel
theorem d_law_1681 : decode b_law 1681 = .ok (.iadd, 1) := by decide +kernel
theorem d_law_1682 : decode b_law 1682 = .ok (.iaload, 1) := by decide +kernel
theorem d_law_1683 : decode b_law 1683 = .ok (.i2l, 1) := by decide +kernel
theorem d_law_1684 : decode b_law 1684 = .ok (.bipush 32, 2) := by decide +kernel
theorem d_law_1686 : decode b_law 1686 = .ok (.lshl, 1) := by decide +kernel
theorem d_law_1687 : decode b_law 1687 = .ok (.aload_n 0, 1) := by decide +kernel
theorem d_law_1688 : decode b_law 1688 = .ok (.iload 4, 2) := by decide +kernel
theorem d_law_1690 : decode b_law 1690 = .ok (.bipush 6, 2) := by decide +kernel
theorem d_law_1692 : decode b_law 1692 = .ok (.iadd, 1) := by decide +kernel
theorem d_law_1693 : decode b_law 1693 = .ok (.iaload, 1) := by decide +kernel
theorem d_law_1694 : decode b_law 1694 = .ok (.i2l, 1) := by decide +kernel
theorem d_law_1695 : decode b_law 1695 = .ok (.ldc2_w 86, 3) := by decide +kernel
theorem d_law_1698 : decode b_law 1698 = .ok (.land, 1) := by decide +kernel
theorem d_law_1699 : decode b_law 1699 = .ok (.lor, 1) := by decide +kernel
theorem d_law_1700 : decode b_law 1700 = .ok (.aload_n 0, 1) := by decide +kernel
theorem d_law_1701 : decode b_law 1701 = .ok (.iload 4, 2) := by decide +kernel
theorem d_law_1703 : decode b_law 1703 = .ok (.bipush 7, 2) := by decide +kernel
theorem d_law_1705 : decode b_law 1705 = .ok (.iadd, 1) := by decide +kernel
theorem d_law_1706 : decode b_law 1706 = .ok (.iaload, 1) := by decide +kernel
theorem d_law_1707 : decode b_law 1707 = .ok (.i2l, 1) := by decide +kernel
theorem d_law_1708 : decode b_law 1708 = .ok (.bipush 32, 2) := by decide +kernel
theorem d_law_1710 : decode b_law 1710 = .ok (.lshl, 1) := by decide +kernel
theorem d_law_1711 : decode b_law 1711 = .ok (.aload_n 0, 1) := by decide +kernel
theorem d_law_1712 : decode b_law 1712 = .ok (.iload 4, 2) := by decide +kernel
theorem d_law_1714 : decode b_law 1714 = .ok (.bipush 8, 2) := by decide +kernel
theorem d_law_1716 : decode b_law 1716 = .ok (.iadd, 1) := by decide +kernel
theorem d_law_1717 : decode b_law 1717 = .ok (.iaload, 1) := by decide +kernel
theorem d_law_1718 : decode b_law 1718 = .ok (.i2l, 1) := by decide +kernel
theorem d_law_1719 : decode b_law 1719 = .ok (.ldc2_w 86, 3) := by decide +kernel
theorem d_law_1722 : decode b_law 1722 = .ok (.land, 1) := by decide +kernel
theorem d_law_1723 : decode b_law 1723 = .ok (.lor, 1) := by decide +kernel
theorem d_law_1724 : decode b_law 1724 = .ok (.aload_n 0, 1) := by decide +kernel
theorem d_law_1725 : decode b_law 1725 = .ok (.iload 4, 2) := by decide +kernel
theorem d_law_1727 : decode b_law 1727 = .ok (.bipush 9, 2) := by decide +kernel
theorem d_law_1729 : decode b_law 1729 = .ok (.iadd, 1) := by decide +kernel
theorem d_law_1730 : decode b_law 1730 = .ok (.iaload, 1) := by decide +kernel
theorem d_law_1731 : decode b_law 1731 = .ok (.aload_n 0, 1) := by decide +kernel
theorem d_law_1732 : decode b_law 1732 = .ok (.iload 4, 2) := by decide +kernel
theorem d_law_1734 : decode b_law 1734 = .ok (.bipush 10, 2) := by decide +kernel
theorem d_law_1736 : decode b_law 1736 = .ok (.iadd, 1) := by decide +kernel
theorem d_law_1737 : decode b_law 1737 = .ok (.iaload, 1) := by decide +kernel
theorem d_law_1738 : decode b_law 1738 = .ok (.i2l, 1) := by decide +kernel
theorem d_law_1739 : decode b_law 1739 = .ok (.bipush 32, 2) := by decide +kernel
theorem d_law_1741 : decode b_law 1741 = .ok (.lshl, 1) := by decide +kernel
theorem d_law_1742 : decode b_law 1742 = .ok (.aload_n 0, 1) := by decide +kernel
theorem d_law_1743 : decode b_law 1743 = .ok (.iload 4, 2) := by decide +kernel
theorem d_law_1745 : decode b_law 1745 = .ok (.bipush 11, 2) := by decide +kernel
theorem d_law_1747 : decode b_law 1747 = .ok (.iadd, 1) := by decide +kernel
theorem d_law_1748 : decode b_law 1748 = .ok (.iaload, 1) := by decide +kernel
theorem d_law_1749 : decode b_law 1749 = .ok (.i2l, 1) := by decide +kernel
theorem d_law_1750 : decode b_law 1750 = .ok (.ldc2_w 86, 3) := by decide +kernel
theorem d_law_1753 : decode b_law 1753 = .ok (.land, 1) := by decide +kernel
theorem d_law_1754 : decode b_law 1754 = .ok (.lor, 1) := by decide +kernel
theorem d_law_1755 : decode b_law 1755 = .ok (.aload_n 3, 1) := by decide +kernel
theorem d_law_1756 : decode b_law 1756 = .ok (.invokestatic 129, 3) := by decide +kernel
theorem d_law_1759 : decode b_law 1759 = .ok (.istore 5, 2) := by decide +kernel
theorem d_law_1761 : decode b_law 1761 = .ok (.aload_n 2, 1) := by decide +kernel
theorem d_law_1762 : decode b_law 1762 = .ok (.aload_n 0, 1) := by decide +kernel
theorem d_law_1763 : decode b_law 1763 = .ok (.iload 4, 2) := by decide +kernel
theorem d_law_1765 : decode b_law 1765 = .ok (.iconst 1, 1) := by decide +kernel
theorem d_law_1766 : decode b_law 1766 = .ok (.iadd, 1) := by decide +kernel
theorem d_law_1767 : decode b_law 1767 = .ok (.iaload, 1) := by decide +kernel
theorem d_law_1768 : decode b_law 1768 = .ok (.i2l, 1) := by decide +kernel
theorem d_law_1769 : decode b_law 1769 = .ok (.bipush 32, 2) := by decide +kernel
theorem d_law_1771 : decode b_law 1771 = .ok (.lshl, 1) := by decide +kernel
theorem d_law_1772 : decode b_law 1772 = .ok (.aload_n 0, 1) := by decide +kernel
theorem d_law_1773 : decode b_law 1773 = .ok (.iload 4, 2) := by decide +kernel
theorem d_law_1775 : decode b_law 1775 = .ok (.iconst 2, 1) := by decide +kernel
theorem d_law_1776 : decode b_law 1776 = .ok (.iadd, 1) := by decide +kernel
theorem d_law_1777 : decode b_law 1777 = .ok (.iaload, 1) := by decide +kernel
theorem d_law_1778 : decode b_law 1778 = .ok (.i2l, 1) := by decide +kernel
theorem d_law_1779 : decode b_law 1779 = .ok (.ldc2_w 86, 3) := by decide +kernel
theorem d_law_1782 : decode b_law 1782 = .ok (.land, 1) := by decide +kernel
theorem d_law_1783 : decode b_law 1783 = .ok (.lor, 1) := by decide +kernel
theorem d_law_1784 : decode b_law 1784 = .ok (.aload_n 0, 1) := by decide +kernel
theorem d_law_1785 : decode b_law 1785 = .ok (.iload 4, 2) := by decide +kernel
theorem d_law_1787 : decode b_law 1787 = .ok (.iconst 3, 1) := by decide +kernel
theorem d_law_1788 : decode b_law 1788 = .ok (.iadd, 1) := by decide +kernel
theorem d_law_1789 : decode b_law 1789 = .ok (.iaload, 1) := by decide +kernel
theorem d_law_1790 : decode b_law 1790 = .ok (.i2l, 1) := by decide +kernel
theorem d_law_1791 : decode b_law 1791 = .ok (.bipush 32, 2) := by decide +kernel
theorem d_law_1793 : decode b_law 1793 = .ok (.lshl, 1) := by decide +kernel
theorem d_law_1794 : decode b_law 1794 = .ok (.aload_n 0, 1) := by decide +kernel
theorem d_law_1795 : decode b_law 1795 = .ok (.iload 4, 2) := by decide +kernel
theorem d_law_1797 : decode b_law 1797 = .ok (.iconst 4, 1) := by decide +kernel
theorem d_law_1798 : decode b_law 1798 = .ok (.iadd, 1) := by decide +kernel
theorem d_law_1799 : decode b_law 1799 = .ok (.iaload, 1) := by decide +kernel
theorem d_law_1800 : decode b_law 1800 = .ok (.i2l, 1) := by decide +kernel
theorem d_law_1801 : decode b_law 1801 = .ok (.ldc2_w 86, 3) := by decide +kernel
theorem d_law_1804 : decode b_law 1804 = .ok (.land, 1) := by decide +kernel
theorem d_law_1805 : decode b_law 1805 = .ok (.lor, 1) := by decide +kernel
theorem d_law_1806 : decode b_law 1806 = .ok (.aload_n 0, 1) := by decide +kernel
theorem d_law_1807 : decode b_law 1807 = .ok (.iload 4, 2) := by decide +kernel
theorem d_law_1809 : decode b_law 1809 = .ok (.iconst 5, 1) := by decide +kernel
theorem d_law_1810 : decode b_law 1810 = .ok (.iadd, 1) := by decide +kernel
theorem d_law_1811 : decode b_law 1811 = .ok (.iaload, 1) := by decide +kernel
theorem d_law_1812 : decode b_law 1812 = .ok (.i2l, 1) := by decide +kernel
theorem d_law_1813 : decode b_law 1813 = .ok (.bipush 32, 2) := by decide +kernel
theorem d_law_1815 : decode b_law 1815 = .ok (.lshl, 1) := by decide +kernel
theorem d_law_1816 : decode b_law 1816 = .ok (.aload_n 0, 1) := by decide +kernel
theorem d_law_1817 : decode b_law 1817 = .ok (.iload 4, 2) := by decide +kernel
theorem d_law_1819 : decode b_law 1819 = .ok (.bipush 6, 2) := by decide +kernel
theorem d_law_1821 : decode b_law 1821 = .ok (.iadd, 1) := by decide +kernel
theorem d_law_1822 : decode b_law 1822 = .ok (.iaload, 1) := by decide +kernel
theorem d_law_1823 : decode b_law 1823 = .ok (.i2l, 1) := by decide +kernel
theorem d_law_1824 : decode b_law 1824 = .ok (.ldc2_w 86, 3) := by decide +kernel
theorem d_law_1827 : decode b_law 1827 = .ok (.land, 1) := by decide +kernel
theorem d_law_1828 : decode b_law 1828 = .ok (.lor, 1) := by decide +kernel
theorem d_law_1829 : decode b_law 1829 = .ok (.aload_n 0, 1) := by decide +kernel
theorem d_law_1830 : decode b_law 1830 = .ok (.iload 4, 2) := by decide +kernel
theorem d_law_1832 : decode b_law 1832 = .ok (.bipush 7, 2) := by decide +kernel
theorem d_law_1834 : decode b_law 1834 = .ok (.iadd, 1) := by decide +kernel
theorem d_law_1835 : decode b_law 1835 = .ok (.iaload, 1) := by decide +kernel
theorem d_law_1836 : decode b_law 1836 = .ok (.i2l, 1) := by decide +kernel
theorem d_law_1837 : decode b_law 1837 = .ok (.bipush 32, 2) := by decide +kernel
theorem d_law_1839 : decode b_law 1839 = .ok (.lshl, 1) := by decide +kernel
theorem d_law_1840 : decode b_law 1840 = .ok (.aload_n 0, 1) := by decide +kernel
theorem d_law_1841 : decode b_law 1841 = .ok (.iload 4, 2) := by decide +kernel
theorem d_law_1843 : decode b_law 1843 = .ok (.bipush 8, 2) := by decide +kernel
theorem d_law_1845 : decode b_law 1845 = .ok (.iadd, 1) := by decide +kernel
theorem d_law_1846 : decode b_law 1846 = .ok (.iaload, 1) := by decide +kernel
theorem d_law_1847 : decode b_law 1847 = .ok (.i2l, 1) := by decide +kernel
theorem d_law_1848 : decode b_law 1848 = .ok (.ldc2_w 86, 3) := by decide +kernel
theorem d_law_1851 : decode b_law 1851 = .ok (.land, 1) := by decide +kernel
theorem d_law_1852 : decode b_law 1852 = .ok (.lor, 1) := by decide +kernel
theorem d_law_1853 : decode b_law 1853 = .ok (.aload_n 0, 1) := by decide +kernel
theorem d_law_1854 : decode b_law 1854 = .ok (.iload 4, 2) := by decide +kernel
theorem d_law_1856 : decode b_law 1856 = .ok (.bipush 9, 2) := by decide +kernel
theorem d_law_1858 : decode b_law 1858 = .ok (.iadd, 1) := by decide +kernel
theorem d_law_1859 : decode b_law 1859 = .ok (.iaload, 1) := by decide +kernel
theorem d_law_1860 : decode b_law 1860 = .ok (.aload_n 0, 1) := by decide +kernel
theorem d_law_1861 : decode b_law 1861 = .ok (.iload 4, 2) := by decide +kernel
theorem d_law_1863 : decode b_law 1863 = .ok (.bipush 10, 2) := by decide +kernel
theorem d_law_1865 : decode b_law 1865 = .ok (.iadd, 1) := by decide +kernel
theorem d_law_1866 : decode b_law 1866 = .ok (.iaload, 1) := by decide +kernel
theorem d_law_1867 : decode b_law 1867 = .ok (.i2l, 1) := by decide +kernel
theorem d_law_1868 : decode b_law 1868 = .ok (.bipush 32, 2) := by decide +kernel
theorem d_law_1870 : decode b_law 1870 = .ok (.lshl, 1) := by decide +kernel
theorem d_law_1871 : decode b_law 1871 = .ok (.aload_n 0, 1) := by decide +kernel
theorem d_law_1872 : decode b_law 1872 = .ok (.iload 4, 2) := by decide +kernel
theorem d_law_1874 : decode b_law 1874 = .ok (.bipush 11, 2) := by decide +kernel
theorem d_law_1876 : decode b_law 1876 = .ok (.iadd, 1) := by decide +kernel
theorem d_law_1877 : decode b_law 1877 = .ok (.iaload, 1) := by decide +kernel
theorem d_law_1878 : decode b_law 1878 = .ok (.i2l, 1) := by decide +kernel
theorem d_law_1879 : decode b_law 1879 = .ok (.ldc2_w 86, 3) := by decide +kernel
theorem d_law_1882 : decode b_law 1882 = .ok (.land, 1) := by decide +kernel
theorem d_law_1883 : decode b_law 1883 = .ok (.lor, 1) := by decide +kernel
theorem d_law_1884 : decode b_law 1884 = .ok (.invokevirtual 132, 3) := by decide +kernel
theorem d_law_1887 : decode b_law 1887 = .ok (.istore 6, 2) := by decide +kernel
theorem d_law_1889 : decode b_law 1889 = .ok (.aload_n 2, 1) := by decide +kernel
theorem d_law_1890 : decode b_law 1890 = .ok (.invokevirtual 133, 3) := by decide +kernel
theorem d_law_1893 : decode b_law 1893 = .ok (.iload 5, 2) := by decide +kernel
theorem d_law_1895 : decode b_law 1895 = .ok (.if_icmp .eq 5, 3) := by decide +kernel
theorem d_law_1898 : decode b_law 1898 = .ok (.iconst 0, 1) := by decide +kernel
theorem d_law_1899 : decode b_law 1899 = .ok (.ireturn, 1) := by decide +kernel
theorem d_law_1900 : decode b_law 1900 = .ok (.iload 5, 2) := by decide +kernel
theorem d_law_1902 : decode b_law 1902 = .ok (.ifCond .ne 22, 3) := by decide +kernel
theorem d_law_1905 : decode b_law 1905 = .ok (.aload_n 3, 1) := by decide +kernel
theorem d_law_1906 : decode b_law 1906 = .ok (.iconst 0, 1) := by decide +kernel
theorem d_law_1907 : decode b_law 1907 = .ok (.laload, 1) := by decide +kernel
theorem d_law_1908 : decode b_law 1908 = .ok (.iload 6, 2) := by decide +kernel
theorem d_law_1910 : decode b_law 1910 = .ok (.ifCond .eq 7, 3) := by decide +kernel
theorem d_law_1913 : decode b_law 1913 = .ok (.lconst 1, 1) := by decide +kernel
theorem d_law_1914 : decode b_law 1914 = .ok (.goto 4, 3) := by decide +kernel
theorem d_law_1917 : decode b_law 1917 = .ok (.lconst 0, 1) := by decide +kernel
theorem d_law_1918 : decode b_law 1918 = .ok (.lcmp, 1) := by decide +kernel
theorem d_law_1919 : decode b_law 1919 = .ok (.ifCond .eq 5, 3) := by decide +kernel
theorem d_law_1922 : decode b_law 1922 = .ok (.iconst 0, 1) := by decide +kernel
theorem d_law_1923 : decode b_law 1923 = .ok (.ireturn, 1) := by decide +kernel
theorem d_law_1924 : decode b_law 1924 = .ok (.goto 180, 3) := by decide +kernel
theorem d_law_1927 : decode b_law 1927 = .ok (.aload_n 1, 1) := by decide +kernel
theorem d_law_1928 : decode b_law 1928 = .ok (.aload_n 0, 1) := by decide +kernel
theorem d_law_1929 : decode b_law 1929 = .ok (.iload 4, 2) := by decide +kernel
theorem d_law_1931 : decode b_law 1931 = .ok (.iconst 1, 1) := by decide +kernel
theorem d_law_1932 : decode b_law 1932 = .ok (.iadd, 1) := by decide +kernel
theorem d_law_1933 : decode b_law 1933 = .ok (.iaload, 1) := by decide +kernel
theorem d_law_1934 : decode b_law 1934 = .ok (.invokevirtual 136, 3) := by decide +kernel
theorem d_law_1937 : decode b_law 1937 = .ok (.pop, 1) := by decide +kernel
theorem d_law_1938 : decode b_law 1938 = .ok (.aload_n 2, 1) := by decide +kernel
theorem d_law_1939 : decode b_law 1939 = .ok (.aload_n 0, 1) := by decide +kernel
theorem d_law_1940 : decode b_law 1940 = .ok (.iload 4, 2) := by decide +kernel
theorem d_law_1942 : decode b_law 1942 = .ok (.iconst 1, 1) := by decide +kernel
theorem d_law_1943 : decode b_law 1943 = .ok (.iadd, 1) := by decide +kernel
theorem d_law_1944 : decode b_law 1944 = .ok (.iaload, 1) := by decide +kernel
theorem d_law_1945 : decode b_law 1945 = .ok (.invokevirtual 140, 3) := by decide +kernel
theorem d_law_1948 : decode b_law 1948 = .ok (.pop, 1) := by decide +kernel
theorem d_law_1949 : decode b_law 1949 = .ok (.goto 155, 3) := by decide +kernel
theorem d_law_1952 : decode b_law 1952 = .ok (.aload_n 1, 1) := by decide +kernel
theorem d_law_1953 : decode b_law 1953 = .ok (.aload_n 0, 1) := by decide +kernel
theorem d_law_1954 : decode b_law 1954 = .ok (.iload 4, 2) := by decide +kernel
theorem d_law_1956 : decode b_law 1956 = .ok (.iconst 1, 1) := by decide +kernel
theorem d_law_1957 : decode b_law 1957 = .ok (.iadd, 1) := by decide +kernel
theorem d_law_1958 : decode b_law 1958 = .ok (.iaload, 1) := by decide +kernel
theorem d_law_1959 : decode b_law 1959 = .ok (.aload_n 0, 1) := by decide +kernel
theorem d_law_1960 : decode b_law 1960 = .ok (.iload 4, 2) := by decide +kernel
theorem d_law_1962 : decode b_law 1962 = .ok (.iconst 2, 1) := by decide +kernel
theorem d_law_1963 : decode b_law 1963 = .ok (.iadd, 1) := by decide +kernel
theorem d_law_1964 : decode b_law 1964 = .ok (.iaload, 1) := by decide +kernel
theorem d_law_1965 : decode b_law 1965 = .ok (.aload_n 3, 1) := by decide +kernel
theorem d_law_1966 : decode b_law 1966 = .ok (.invokestatic 141, 3) := by decide +kernel
theorem d_law_1969 : decode b_law 1969 = .ok (.istore 5, 2) := by decide +kernel
theorem d_law_1971 : decode b_law 1971 = .ok (.aload_n 2, 1) := by decide +kernel
theorem d_law_1972 : decode b_law 1972 = .ok (.aload_n 0, 1) := by decide +kernel
theorem d_law_1973 : decode b_law 1973 = .ok (.iload 4, 2) := by decide +kernel
theorem d_law_1975 : decode b_law 1975 = .ok (.iconst 1, 1) := by decide +kernel
theorem d_law_1976 : decode b_law 1976 = .ok (.iadd, 1) := by decide +kernel
theorem d_law_1977 : decode b_law 1977 = .ok (.iaload, 1) := by decide +kernel
theorem d_law_1978 : decode b_law 1978 = .ok (.aload_n 0, 1) := by decide +kernel
theorem d_law_1979 : decode b_law 1979 = .ok (.iload 4, 2) := by decide +kernel
theorem d_law_1981 : decode b_law 1981 = .ok (.iconst 2, 1) := by decide +kernel
theorem d_law_1982 : decode b_law 1982 = .ok (.iadd, 1) := by decide +kernel
theorem d_law_1983 : decode b_law 1983 = .ok (.iaload, 1) := by decide +kernel
theorem d_law_1984 : decode b_law 1984 = .ok (.invokevirtual 143, 3) := by decide +kernel
theorem d_law_1987 : decode b_law 1987 = .ok (.lstore 6, 2) := by decide +kernel
theorem d_law_1989 : decode b_law 1989 = .ok (.goto 115, 3) := by decide +kernel
theorem d_law_1992 : decode b_law 1992 = .ok (.aload_n 1, 1) := by decide +kernel
theorem d_law_1993 : decode b_law 1993 = .ok (.aload_n 0, 1) := by decide +kernel
theorem d_law_1994 : decode b_law 1994 = .ok (.iload 4, 2) := by decide +kernel
theorem d_law_1996 : decode b_law 1996 = .ok (.iconst 1, 1) := by decide +kernel
theorem d_law_1997 : decode b_law 1997 = .ok (.iadd, 1) := by decide +kernel
theorem d_law_1998 : decode b_law 1998 = .ok (.iaload, 1) := by decide +kernel
theorem d_law_1999 : decode b_law 1999 = .ok (.i2l, 1) := by decide +kernel
theorem d_law_2000 : decode b_law 2000 = .ok (.bipush 32, 2) := by decide +kernel
theorem d_law_2002 : decode b_law 2002 = .ok (.lshl, 1) := by decide +kernel
theorem d_law_2003 : decode b_law 2003 = .ok (.aload_n 0, 1) := by decide +kernel
theorem d_law_2004 : decode b_law 2004 = .ok (.iload 4, 2) := by decide +kernel
theorem d_law_2006 : decode b_law 2006 = .ok (.iconst 2, 1) := by decide +kernel
theorem d_law_2007 : decode b_law 2007 = .ok (.iadd, 1) := by decide +kernel
theorem d_law_2008 : decode b_law 2008 = .ok (.iaload, 1) := by decide +kernel
theorem d_law_2009 : decode b_law 2009 = .ok (.i2l, 1) := by decide +kernel
theorem d_law_2010 : decode b_law 2010 = .ok (.ldc2_w 86, 3) := by decide +kernel
theorem d_law_2013 : decode b_law 2013 = .ok (.land, 1) := by decide +kernel
theorem d_law_2014 : decode b_law 2014 = .ok (.lor, 1) := by decide +kernel
theorem d_law_2015 : decode b_law 2015 = .ok (.aload_n 0, 1) := by decide +kernel
theorem d_law_2016 : decode b_law 2016 = .ok (.iload 4, 2) := by decide +kernel
theorem d_law_2018 : decode b_law 2018 = .ok (.iconst 3, 1) := by decide +kernel
theorem d_law_2019 : decode b_law 2019 = .ok (.iadd, 1) := by decide +kernel
theorem d_law_2020 : decode b_law 2020 = .ok (.iaload, 1) := by decide +kernel
theorem d_law_2021 : decode b_law 2021 = .ok (.aload_n 0, 1) := by decide +kernel
theorem d_law_2022 : decode b_law 2022 = .ok (.iload 4, 2) := by decide +kernel
theorem d_law_2024 : decode b_law 2024 = .ok (.iconst 4, 1) := by decide +kernel
theorem d_law_2025 : decode b_law 2025 = .ok (.iadd, 1) := by decide +kernel
theorem d_law_2026 : decode b_law 2026 = .ok (.iaload, 1) := by decide +kernel
theorem d_law_2027 : decode b_law 2027 = .ok (.aload_n 3, 1) := by decide +kernel
theorem d_law_2028 : decode b_law 2028 = .ok (.invokestatic 144, 3) := by decide +kernel
theorem d_law_2031 : decode b_law 2031 = .ok (.istore 5, 2) := by decide +kernel
theorem d_law_2033 : decode b_law 2033 = .ok (.aload_n 2, 1) := by decide +kernel
theorem d_law_2034 : decode b_law 2034 = .ok (.aload_n 0, 1) := by decide +kernel
theorem d_law_2035 : decode b_law 2035 = .ok (.iload 4, 2) := by decide +kernel
theorem d_law_2037 : decode b_law 2037 = .ok (.iconst 1, 1) := by decide +kernel
theorem d_law_2038 : decode b_law 2038 = .ok (.iadd, 1) := by decide +kernel
theorem d_law_2039 : decode b_law 2039 = .ok (.iaload, 1) := by decide +kernel
theorem d_law_2040 : decode b_law 2040 = .ok (.i2l, 1) := by decide +kernel
theorem d_law_2041 : decode b_law 2041 = .ok (.bipush 32, 2) := by decide +kernel
theorem d_law_2043 : decode b_law 2043 = .ok (.lshl, 1) := by decide +kernel
theorem d_law_2044 : decode b_law 2044 = .ok (.aload_n 0, 1) := by decide +kernel
theorem d_law_2045 : decode b_law 2045 = .ok (.iload 4, 2) := by decide +kernel
theorem d_law_2047 : decode b_law 2047 = .ok (.iconst 2, 1) := by decide +kernel
theorem d_law_2048 : decode b_law 2048 = .ok (.iadd, 1) := by decide +kernel
theorem d_law_2049 : decode b_law 2049 = .ok (.iaload, 1) := by decide +kernel
theorem d_law_2050 : decode b_law 2050 = .ok (.i2l, 1) := by decide +kernel
theorem d_law_2051 : decode b_law 2051 = .ok (.ldc2_w 86, 3) := by decide +kernel
theorem d_law_2054 : decode b_law 2054 = .ok (.land, 1) := by decide +kernel
theorem d_law_2055 : decode b_law 2055 = .ok (.lor, 1) := by decide +kernel
theorem d_law_2056 : decode b_law 2056 = .ok (.aload_n 0, 1) := by decide +kernel
theorem d_law_2057 : decode b_law 2057 = .ok (.iload 4, 2) := by decide +kernel
theorem d_law_2059 : decode b_law 2059 = .ok (.iconst 3, 1) := by decide +kernel
theorem d_law_2060 : decode b_law 2060 = .ok (.iadd, 1) := by decide +kernel
theorem d_law_2061 : decode b_law 2061 = .ok (.iaload, 1) := by decide +kernel
theorem d_law_2062 : decode b_law 2062 = .ok (.aload_n 0, 1) := by decide +kernel
theorem d_law_2063 : decode b_law 2063 = .ok (.iload 4, 2) := by decide +kernel
theorem d_law_2065 : decode b_law 2065 = .ok (.iconst 4, 1) := by decide +kernel
theorem d_law_2066 : decode b_law 2066 = .ok (.iadd, 1) := by decide +kernel
theorem d_law_2067 : decode b_law 2067 = .ok (.iaload, 1) := by decide +kernel
theorem d_law_2068 : decode b_law 2068 = .ok (.invokevirtual 147, 3) := by decide +kernel
theorem d_law_2071 : decode b_law 2071 = .ok (.lstore 6, 2) := by decide +kernel
theorem d_law_2073 : decode b_law 2073 = .ok (.goto 31, 3) := by decide +kernel
theorem d_law_2076 : decode b_law 2076 = .ok (.aload_n 1, 1) := by decide +kernel
theorem d_law_2077 : decode b_law 2077 = .ok (.aload_n 0, 1) := by decide +kernel
theorem d_law_2078 : decode b_law 2078 = .ok (.iload 4, 2) := by decide +kernel
theorem d_law_2080 : decode b_law 2080 = .ok (.iconst 1, 1) := by decide +kernel
theorem d_law_2081 : decode b_law 2081 = .ok (.iadd, 1) := by decide +kernel
theorem d_law_2082 : decode b_law 2082 = .ok (.iaload, 1) := by decide +kernel
theorem d_law_2083 : decode b_law 2083 = .ok (.aload_n 3, 1) := by decide +kernel
theorem d_law_2084 : decode b_law 2084 = .ok (.invokestatic 148, 3) := by decide +kernel
theorem d_law_2087 : decode b_law 2087 = .ok (.istore 5, 2) := by decide +kernel
theorem d_law_2089 : decode b_law 2089 = .ok (.aload_n 2, 1) := by decide +kernel
theorem d_law_2090 : decode b_law 2090 = .ok (.aload_n 0, 1) := by decide +kernel
theorem d_law_2091 : decode b_law 2091 = .ok (.iload 4, 2) := by decide +kernel
theorem d_law_2093 : decode b_law 2093 = .ok (.iconst 1, 1) := by decide +kernel
theorem d_law_2094 : decode b_law 2094 = .ok (.iadd, 1) := by decide +kernel
theorem d_law_2095 : decode b_law 2095 = .ok (.iaload, 1) := by decide +kernel
theorem d_law_2096 : decode b_law 2096 = .ok (.invokevirtual 151, 3) := by decide +kernel
theorem d_law_2099 : decode b_law 2099 = .ok (.lstore 6, 2) := by decide +kernel
theorem d_law_2101 : decode b_law 2101 = .ok (.goto 3, 3) := by decide +kernel
theorem d_law_2104 : decode b_law 2104 = .ok (.iinc 4 14, 3) := by decide +kernel
theorem d_law_2107 : decode b_law 2107 = .ok (.goto (-2072), 3) := by decide +kernel
theorem d_law_2110 : decode b_law 2110 = .ok (.iconst 1, 1) := by decide +kernel
theorem d_law_2111 : decode b_law 2111 = .ok (.ireturn, 1) := by decide +kernel
abbrev rm_law : Room := room_1
set_option maxHeartbeats 4000000 in
set_option maxRecDepth 100000 in
theorem m_law {p : Program} {l : Launch} {e : Env} {s : State} {m : MethodId} {below : List Frame} {meth : Method} {c : Code} {ls : Array Slot} {args : Array Value} {A : Nat → Prop} {Q : State → Prop} (hst : l.stackTraces = false) (D : gD) (g0 : gG) (a0 : Nat) (w : gW) (r : (String ⊕ Int32) × gW) (h : f_law g0 a0 w = some r) (hx : p.tables.exec = Jvm.exec) (hb : c.code = b_law) (hml : c.maxLocals = 8) (hown : s.vm.findClass "BodySolidsLaw" = some m.cls) (hT : gT s) (hK : gK D s) (hZ : gZ A s s.heap g0) (hA : ∀ q : Nat, s.heap.size ≤ q → A q) (hret : ∀ {v : Int32}, (v = 0 ∨ v = 1) → ∀ (v9 : Int32) (w1 : gW), r = (.inr v, w1) → ∀ (pc : Nat) (ls : Array Slot) (H : Heap) (locs : List Loc), decode b_law pc = .ok (.ireturn, 1) → gI D s A w1 H locs → W p l e rm_law s m args below meth c H locs 601024 7293000 Q (F0 m pc ls [.int v])) (hexc : gEx p l e rm_law s m args below meth c Q D A r) (hI : gI D s A w s.heap []) (hl : lv_has ls 8 [(0, .ref a0)]) : W p l e rm_law s m args below meth c s.heap [] 0 0 Q (F0 m 0 ls []) := by
  obtain ⟨H, hH⟩ : ∃ H, H = s.heap := ⟨_, rfl⟩
  rw [← hH] at hI ⊢
  obtain ⟨locs, hlocs⟩ : ∃ z : List Loc, z = [] := ⟨_, rfl⟩
  rw [← hlocs] at hI ⊢
  have hl : lv_has ls 8 [(0, .ref a0)] := hl
  unfold f_law at h
  obtain ⟨o1, w, e2, h⟩ := gb2 h
  refine gw_new hx hb hT hown hK hI hA (ci := 0) rfl i_0 t_0 t_0_ok wd_72 wd_73 wd_49 (fs := [.long 0, .null, .null, .null, .null, .null, .int 0, .null, .null, .null]) df_0 e2 (show 0 + 1 ≤ 601024 by omega) (show 0 + 10 ≤ 7293000 by omega) d_law_0 (fun H hI => ?_)
  refine W.widen (k := 1) (n := 10) (show 0 + 1 ≤ 1 by omega) (show 0 + 10 ≤ 10 by omega) ?_
  refine lv_dup hx hb d_law_3 rfl ?_
  refine lv_aload_n hx hb d_law_4 rfl (lv_at hl 0 rfl) ?_
  refine lv_iconst (v := 0) hx hb d_law_5 (by decide) ?_
  obtain ⟨u3, e4⟩ := gsome h
  refine gw_callI e4 h (gw_runS (As := [.ref a0, .int 0]) (rest := [.ref o1, .ref o1]) hx hb hml hown hT hK hZ hA hI (m_W_cell l hst D g0 a0 0 w u3 e4) ce_W_cell wd_424 ⟨by decide, by decide⟩ rfl rfl hl.1 rfl (lv_room (Nat.le_of_ble_eq_true rfl)) d_law_6 ⟨(show 1 + 0 ≤ 601024 by omega), (show 10 + 0 ≤ 7293000 by omega)⟩) hI hA hexc (show 1 + 0 ≤ 601024 by omega) (show 10 + 0 ≤ 7293000 by omega) (fun v5 w H locs h hI => ?_)
  refine lv_i2l (v := v5.toInt64) hx hb d_law_9 rfl ?_
  obtain ⟨u6, e7⟩ := gsome h
  refine gw_callV e7 h (gw_runI (As := [.long (v5.toInt64)]) (rest := [.ref o1]) hx hb hml hown hT hK hZ hA hI (m_B_init l hst D g0 o1 (v5.toInt64) w u6 e7) ce_B_init wd_74 rfl ⟨by decide, by decide⟩ rfl rfl hl.1 rfl (lv_room (Nat.le_of_ble_eq_true rfl)) d_law_10 ⟨(show 1 + 88 ≤ 601024 by omega), (show 10 + 1681 ≤ 7293000 by omega)⟩) hI hA hexc (show 1 + 88 ≤ 601024 by omega) (show 10 + 1681 ≤ 7293000 by omega) (fun v8 w H locs h hI => ?_)
  refine W.widen (k := 89) (n := 1691) (show 1 + 88 ≤ 89 by omega) (show 10 + 1681 ≤ 1691 by omega) ?_
  refine lv_astore_n (lv' := [(1, .ref o1), (0, .ref a0)]) hx hb d_law_13 rfl hl (by decide) rfl (fun ls hl => ?_)
  obtain ⟨o9, w, e10, h⟩ := gb2 h
  refine gw_new hx hb hT hown hK hI hA (ci := 7) rfl i_7 t_7 t_7_ok wd_779 wd_780 wd_57 (fs := [.int 0, .long 0, .int 0, .null, .null, .null, .null, .null, .null, .int 0, .null, .null, .int 0, .null, .null, .null, .null, .null, .int 0, .null, .null, .null, .null, .null, .null, .null, .null]) df_7 e10 (show 89 + 1 ≤ 601024 by omega) (show 1691 + 27 ≤ 7293000 by omega) d_law_14 (fun H hI => ?_)
  refine W.widen (k := 90) (n := 1718) (show 89 + 1 ≤ 90 by omega) (show 1691 + 27 ≤ 1718 by omega) ?_
  refine lv_dup hx hb d_law_17 rfl ?_
  refine lv_aload_n hx hb d_law_18 rfl (lv_at hl 1 rfl) ?_
  refine lv_iconst (v := 0) hx hb d_law_19 (by decide) ?_
  obtain ⟨u11, e12⟩ := gsome h
  refine gw_callI e12 h (gw_runS (As := [.ref a0, .int 0]) (rest := [.ref o9, .ref o9]) hx hb hml hown hT hK hZ hA hI (m_W_cell l hst D g0 a0 0 w u11 e12) ce_W_cell wd_424 ⟨by decide, by decide⟩ rfl rfl hl.1 rfl (lv_room (Nat.le_of_ble_eq_true rfl)) d_law_20 ⟨(show 90 + 0 ≤ 601024 by omega), (show 1718 + 0 ≤ 7293000 by omega)⟩) hI hA hexc (show 90 + 0 ≤ 601024 by omega) (show 1718 + 0 ≤ 7293000 by omega) (fun v13 w H locs h hI => ?_)
  refine lv_i2l (v := v13.toInt64) hx hb d_law_23 rfl ?_
  obtain ⟨u14, e15⟩ := gsome h
  refine gw_callV e15 h (gw_runI (As := [.long (v13.toInt64)]) (rest := [.ref o9]) hx hb hml hown hT hK hZ hA hI (m_M_init l hst D g0 o9 (v13.toInt64) w u14 e15) ce_M_init wd_781 rfl ⟨by decide, by decide⟩ rfl rfl hl.1 rfl (lv_room (Nat.le_of_ble_eq_true rfl)) d_law_24 ⟨(show 90 + 21 ≤ 601024 by omega), (show 1718 + 8938 ≤ 7293000 by omega)⟩) hI hA hexc (show 90 + 21 ≤ 601024 by omega) (show 1718 + 8938 ≤ 7293000 by omega) (fun v16 w H locs h hI => ?_)
  refine W.widen (k := 111) (n := 10656) (show 90 + 21 ≤ 111 by omega) (show 1718 + 8938 ≤ 10656 by omega) ?_
  refine lv_astore_n (lv' := [(2, .ref o9), (1, .ref o1), (0, .ref a0)]) hx hb d_law_27 rfl hl (by decide) rfl (fun ls hl => ?_)
  refine lv_iconst (v := 1) hx hb d_law_28 (by decide) ?_
  obtain ⟨o17, w, e18, h⟩ := gb2 h
  refine gw_newa (atype := .long) (ty := .long) (M := 1) hx hb hK hI hA (hT _ wd_178 args) rfl (k := 1) rfl (fun h9 => h9) e18 (show 111 + 1 ≤ 601024 by omega) (show 10656 + 1 ≤ 7293000 by omega) (show 1 * 8 ≤ 536870912 by omega) d_law_29 (fun H hI => ?_)
  refine W.widen (k := 112) (n := 10657) (show 111 + 1 ≤ 112 by omega) (show 10656 + 1 ≤ 10657 by omega) ?_
  refine lv_astore_n (lv' := [(3, .ref o17), (2, .ref o9), (1, .ref o1), (0, .ref a0)]) hx hb d_law_31 rfl hl (by decide) rfl (fun ls hl => ?_)
  refine lv_iconst (v := 1) hx hb d_law_32 (by decide) ?_
  refine lv_istore (lv' := [(4, .int 1), (3, .ref o17), (2, .ref o9), (1, .ref o1), (0, .ref a0)]) hx hb d_law_33 hl (by decide) rfl (fun ls hl => ?_)
  obtain ⟨K2110, eK2110, h⟩ := gj h
  have hK2110 : ∀ (w : gW) (H : Heap) (locs : List Loc) (ls : Array Slot), K2110 w = some r → gI D s A w H locs → lv_has ls 8 [] → W p l e rm_law s m args below meth c H locs 16015 905842 Q (F0 m 2110 ls []) := by
    intro w H locs ls h hI hl
    have h := gk1 eK2110 h
    refine lv_iconst (v := 1) hx hb d_law_2110 (by decide) ?_
    obtain ⟨g19, h⟩ := gif h
    exact W.widen (show 16015 ≤ 601024 by omega) (show 905842 ≤ 7293000 by omega) (hret g19 0 _ (Option.some.inj h).symm _ _ _ _ d_law_2111 hI)
  obtain ⟨K1922, eK1922, h⟩ := gj h
  have hK1922 : ∀ (w : gW) (H : Heap) (locs : List Loc) (ls : Array Slot), K1922 w = some r → gI D s A w H locs → lv_has ls 8 [] → W p l e rm_law s m args below meth c H locs 16015 905842 Q (F0 m 1922 ls []) := by
    intro w H locs ls h hI hl
    have h := gk1 eK1922 h
    refine lv_iconst (v := 0) hx hb d_law_1922 (by decide) ?_
    obtain ⟨g20, h⟩ := gif h
    exact W.widen (show 16015 ≤ 601024 by omega) (show 905842 ≤ 7293000 by omega) (hret g20 0 _ (Option.some.inj h).symm _ _ _ _ d_law_1923 hI)
  obtain ⟨K1898, eK1898, h⟩ := gj h
  have hK1898 : ∀ (w : gW) (H : Heap) (locs : List Loc) (ls : Array Slot), K1898 w = some r → gI D s A w H locs → lv_has ls 8 [] → W p l e rm_law s m args below meth c H locs 16015 905842 Q (F0 m 1898 ls []) := by
    intro w H locs ls h hI hl
    have h := gk1 eK1898 h
    refine lv_iconst (v := 0) hx hb d_law_1898 (by decide) ?_
    obtain ⟨g21, h⟩ := gif h
    exact W.widen (show 16015 ≤ 601024 by omega) (show 905842 ≤ 7293000 by omega) (hret g21 0 _ (Option.some.inj h).symm _ _ _ _ d_law_1899 hI)
  have hL35 : ∀ (n : Nat), n ≤ 513 → ∀ (z22 : Int32) (w : gW) (H : Heap) (locs : List Loc) (ls : Array Slot), f_law_L35 g0 a0 o1 o9 o17 K2110 K1898 K1922 n z22 w = some r → gI D s A w H locs → lv_has ls 8 [(0, .ref a0), (1, .ref o1), (2, .ref o9), (3, .ref o17), (4, .int z22)] → W p l e rm_law s m args below meth c H locs (16015 - n * 31) (905842 - n * 1745) Q (F0 m 35 ls []) := by
    intro n
    induction n with
    | zero => intro hn z22 w H locs ls h hI hl; exact absurd h (by simp [f_law_L35])
    | succ n ih =>
      intro hn z22 w H locs ls h hI hl
      rw [f_law_L35] at h
      refine lv_iload hx hb d_law_35 (lv_at hl 4 rfl) ?_
      refine lv_aload_n hx hb d_law_37 rfl (lv_at hl 0 rfl) ?_
      obtain ⟨v23, e24, h⟩ := gb h
      refine gw_alen hx hb hK hI e24 d_law_38 ?_
      refine lv_bipush (v := 14) hx hb d_law_39 (by decide) ?_
      refine lv_isub hx hb d_law_41 ?_
      refine lv_icmp_gt (tgt := 2110) hx hb d_law_42 (by decide) (fun c25 => ?_) (fun c25 => ?_)
      · skip
        have h := git c25 h
        refine W.widen (k := 16015) (n := 905842) (show (16015 - (n + 1) * 31) ≤ 16015 by omega) (show (905842 - (n + 1) * 1745) ≤ 905842 by omega) ?_
        exact hK2110 w H locs ls h hI (lv_sub hl [] rfl)
      · skip
        have h := gie c25 h
        refine lv_aload_n hx hb d_law_45 rfl (lv_at hl 0 rfl) ?_
        refine lv_iload hx hb d_law_46 (lv_at hl 4 rfl) ?_
        obtain ⟨v26, e27, h⟩ := gb h
        refine gw_aldI hx hb hK hI e27 d_law_48 ?_
        refine lv_bipush (v := 31) hx hb d_law_49 (by decide) ?_
        refine lv_iand hx hb d_law_51 ?_
        obtain ⟨K2104, eK2104, h⟩ := gj h
        have hK2104 : ∀ (w : gW) (H : Heap) (locs : List Loc) (ls : Array Slot), K2104 w = some r → gI D s A w H locs → lv_has ls 8 [(0, .ref a0), (1, .ref o1), (2, .ref o9), (3, .ref o17), (4, .int z22)] → W p l e rm_law s m args below meth c H locs ((16015 - (n + 1) * 31) + 31) ((905842 - (n + 1) * 1745) + 1745) Q (F0 m 2104 ls []) := by
          intro w H locs ls h hI hl
          have h := gk1 eK2104 h
          refine lv_iinc (v := z22 + 14) (lv' := [(4, .int (z22 + 14)), (0, .ref a0), (1, .ref o1), (2, .ref o9), (3, .ref o17)]) hx hb d_law_2104 hl (k := 4) rfl rfl (by decide) rfl (fun ls hl => ?_)
          refine lv_goto (tgt := 35) hx hb d_law_2107 (by decide) ?_
          refine W.widen (k := (16015 - n * 31)) (n := (905842 - n * 1745)) (show ((16015 - (n + 1) * 31) + 31) ≤ (16015 - n * 31) by omega) (show ((905842 - (n + 1) * 1745) + 1745) ≤ (905842 - n * 1745) by omega) ?_
          exact ih (by omega) _ w H locs ls h hI (lv_sub hl [1, 2, 3, 4, 0] rfl)
        rcases Decidable.em ((v26 &&& 31) = 0) with c28 | c28
        · have h := git c28 h
          refine lv_tableIn (off := 84) (tgt := 136) hx hb d_law_52 (by rw [c28]; decide) (by rw [c28]; decide) (by rw [c28]; decide) (by decide) ?_
          refine lv_aload_n hx hb d_law_136 rfl (lv_at hl 1 rfl) ?_
          obtain ⟨q31, e32, h⟩ := gb h
          obtain ⟨u29, e30⟩ := gsome h
          refine gw_callI e30 h (gw_runV (As := []) (rest := []) hx hb hml hown hT hK hZ hA hI (ci := 0) rfl e32 (m_B_body l hst D g0 o1 w u29 e30) ce_B_body wd_220 wd_222 ⟨by decide, by decide⟩ rfl rfl hl.1 rfl (lv_room (Nat.le_of_ble_eq_true rfl)) d_law_137 ⟨(show (16015 - (n + 1) * 31) + 3 ≤ 601024 by omega), (show (905842 - (n + 1) * 1745) + 69 ≤ 7293000 by omega)⟩) hI hA hexc (show (16015 - (n + 1) * 31) + 3 ≤ 601024 by omega) (show (905842 - (n + 1) * 1745) + 69 ≤ 7293000 by omega) (fun v33 w H locs h hI => ?_)
          refine W.widen (k := ((16015 - (n + 1) * 31) + 3)) (n := ((905842 - (n + 1) * 1745) + 69)) (show (16015 - (n + 1) * 31) + 3 ≤ ((16015 - (n + 1) * 31) + 3) by omega) (show (905842 - (n + 1) * 1745) + 69 ≤ ((905842 - (n + 1) * 1745) + 69) by omega) ?_
          refine lv_pop hx hb d_law_140 rfl ?_
          refine lv_aload_n hx hb d_law_141 rfl (lv_at hl 2 rfl) ?_
          obtain ⟨q36, e37, h⟩ := gb h
          obtain ⟨u34, e35⟩ := gsome h
          refine gw_callI e35 h (gw_runV (As := []) (rest := []) hx hb hml hown hT hK hZ hA hI (ci := 7) rfl e37 (m_M_body l hst D g0 o9 w u34 e35) ce_M_body wd_872 wd_874 ⟨by decide, by decide⟩ rfl rfl hl.1 rfl (lv_room (Nat.le_of_ble_eq_true rfl)) d_law_142 ⟨(show ((16015 - (n + 1) * 31) + 3) + 0 ≤ 601024 by omega), (show ((905842 - (n + 1) * 1745) + 69) + 0 ≤ 7293000 by omega)⟩) hI hA hexc (show ((16015 - (n + 1) * 31) + 3) + 0 ≤ 601024 by omega) (show ((905842 - (n + 1) * 1745) + 69) + 0 ≤ 7293000 by omega) (fun v38 w H locs h hI => ?_)
          refine lv_pop hx hb d_law_145 rfl ?_
          refine lv_goto (tgt := 2104) hx hb d_law_146 (by decide) ?_
          refine W.widen (k := ((16015 - (n + 1) * 31) + 31)) (n := ((905842 - (n + 1) * 1745) + 1745)) (show ((16015 - (n + 1) * 31) + 3) ≤ ((16015 - (n + 1) * 31) + 31) by omega) (show ((905842 - (n + 1) * 1745) + 69) ≤ ((905842 - (n + 1) * 1745) + 1745) by omega) ?_
          exact hK2104 w H locs ls h hI (lv_sub hl [0, 1, 2, 3, 4] rfl)
        have h := gie c28 h
        rcases Decidable.em ((v26 &&& 31) = 1) with c39 | c39
        · have h := git c39 h
          refine lv_tableIn (off := 97) (tgt := 149) hx hb d_law_52 (by rw [c39]; decide) (by rw [c39]; decide) (by rw [c39]; decide) (by decide) ?_
          refine lv_aload_n hx hb d_law_149 rfl (lv_at hl 1 rfl) ?_
          refine lv_aload_n hx hb d_law_150 rfl (lv_at hl 0 rfl) ?_
          refine lv_iload hx hb d_law_151 (lv_at hl 4 rfl) ?_
          refine lv_iconst (v := 1) hx hb d_law_153 (by decide) ?_
          refine lv_iadd hx hb d_law_154 ?_
          obtain ⟨v40, e41, h⟩ := gb h
          refine gw_aldI hx hb hK hI e41 d_law_155 ?_
          refine lv_aload_n hx hb d_law_156 rfl (lv_at hl 0 rfl) ?_
          refine lv_iload hx hb d_law_157 (lv_at hl 4 rfl) ?_
          refine lv_iconst (v := 2) hx hb d_law_159 (by decide) ?_
          refine lv_iadd hx hb d_law_160 ?_
          obtain ⟨v42, e43, h⟩ := gb h
          refine gw_aldI hx hb hK hI e43 d_law_161 ?_
          refine lv_i2l (v := v42.toInt64) hx hb d_law_162 rfl ?_
          refine lv_bipush (v := 32) hx hb d_law_163 (by decide) ?_
          refine lv_lshl (v := (v42.toInt64) <<< ((32 : Int32).toInt64 &&& 63)) hx hb d_law_165 rfl ?_
          refine lv_aload_n hx hb d_law_166 rfl (lv_at hl 0 rfl) ?_
          refine lv_iload hx hb d_law_167 (lv_at hl 4 rfl) ?_
          refine lv_iconst (v := 3) hx hb d_law_169 (by decide) ?_
          refine lv_iadd hx hb d_law_170 ?_
          obtain ⟨v44, e45, h⟩ := gb h
          refine gw_aldI hx hb hK hI e45 d_law_171 ?_
          refine lv_i2l (v := v44.toInt64) hx hb d_law_172 rfl ?_
          refine lv_ldc2 (v := 4294967295) hx hb hown (hT _ wd_1121 args) d_law_173 ?_
          refine lv_land hx hb d_law_176 ?_
          refine lv_lor hx hb d_law_177 ?_
          refine lv_aload_n hx hb d_law_178 rfl (lv_at hl 0 rfl) ?_
          refine lv_iload hx hb d_law_179 (lv_at hl 4 rfl) ?_
          refine lv_iconst (v := 4) hx hb d_law_181 (by decide) ?_
          refine lv_iadd hx hb d_law_182 ?_
          obtain ⟨v46, e47, h⟩ := gb h
          refine gw_aldI hx hb hK hI e47 d_law_183 ?_
          refine lv_i2l (v := v46.toInt64) hx hb d_law_184 rfl ?_
          refine lv_bipush (v := 32) hx hb d_law_185 (by decide) ?_
          refine lv_lshl (v := (v46.toInt64) <<< ((32 : Int32).toInt64 &&& 63)) hx hb d_law_187 rfl ?_
          refine lv_aload_n hx hb d_law_188 rfl (lv_at hl 0 rfl) ?_
          refine lv_iload hx hb d_law_189 (lv_at hl 4 rfl) ?_
          refine lv_iconst (v := 5) hx hb d_law_191 (by decide) ?_
          refine lv_iadd hx hb d_law_192 ?_
          obtain ⟨v48, e49, h⟩ := gb h
          refine gw_aldI hx hb hK hI e49 d_law_193 ?_
          refine lv_i2l (v := v48.toInt64) hx hb d_law_194 rfl ?_
          refine lv_ldc2 (v := 4294967295) hx hb hown (hT _ wd_1121 args) d_law_195 ?_
          refine lv_land hx hb d_law_198 ?_
          refine lv_lor hx hb d_law_199 ?_
          refine lv_aload_n hx hb d_law_200 rfl (lv_at hl 0 rfl) ?_
          refine lv_iload hx hb d_law_201 (lv_at hl 4 rfl) ?_
          refine lv_bipush (v := 6) hx hb d_law_203 (by decide) ?_
          refine lv_iadd hx hb d_law_205 ?_
          obtain ⟨v50, e51, h⟩ := gb h
          refine gw_aldI hx hb hK hI e51 d_law_206 ?_
          refine lv_i2l (v := v50.toInt64) hx hb d_law_207 rfl ?_
          refine lv_bipush (v := 32) hx hb d_law_208 (by decide) ?_
          refine lv_lshl (v := (v50.toInt64) <<< ((32 : Int32).toInt64 &&& 63)) hx hb d_law_210 rfl ?_
          refine lv_aload_n hx hb d_law_211 rfl (lv_at hl 0 rfl) ?_
          refine lv_iload hx hb d_law_212 (lv_at hl 4 rfl) ?_
          refine lv_bipush (v := 7) hx hb d_law_214 (by decide) ?_
          refine lv_iadd hx hb d_law_216 ?_
          obtain ⟨v52, e53, h⟩ := gb h
          refine gw_aldI hx hb hK hI e53 d_law_217 ?_
          refine lv_i2l (v := v52.toInt64) hx hb d_law_218 rfl ?_
          refine lv_ldc2 (v := 4294967295) hx hb hown (hT _ wd_1121 args) d_law_219 ?_
          refine lv_land hx hb d_law_222 ?_
          refine lv_lor hx hb d_law_223 ?_
          refine lv_aload_n hx hb d_law_224 rfl (lv_at hl 0 rfl) ?_
          refine lv_iload hx hb d_law_225 (lv_at hl 4 rfl) ?_
          refine lv_bipush (v := 8) hx hb d_law_227 (by decide) ?_
          refine lv_iadd hx hb d_law_229 ?_
          obtain ⟨v54, e55, h⟩ := gb h
          refine gw_aldI hx hb hK hI e55 d_law_230 ?_
          refine lv_i2l (v := v54.toInt64) hx hb d_law_231 rfl ?_
          refine lv_bipush (v := 32) hx hb d_law_232 (by decide) ?_
          refine lv_lshl (v := (v54.toInt64) <<< ((32 : Int32).toInt64 &&& 63)) hx hb d_law_234 rfl ?_
          refine lv_aload_n hx hb d_law_235 rfl (lv_at hl 0 rfl) ?_
          refine lv_iload hx hb d_law_236 (lv_at hl 4 rfl) ?_
          refine lv_bipush (v := 9) hx hb d_law_238 (by decide) ?_
          refine lv_iadd hx hb d_law_240 ?_
          obtain ⟨v56, e57, h⟩ := gb h
          refine gw_aldI hx hb hK hI e57 d_law_241 ?_
          refine lv_i2l (v := v56.toInt64) hx hb d_law_242 rfl ?_
          refine lv_ldc2 (v := 4294967295) hx hb hown (hT _ wd_1121 args) d_law_243 ?_
          refine lv_land hx hb d_law_246 ?_
          refine lv_lor hx hb d_law_247 ?_
          refine lv_aload_n hx hb d_law_248 rfl (lv_at hl 0 rfl) ?_
          refine lv_iload hx hb d_law_249 (lv_at hl 4 rfl) ?_
          refine lv_bipush (v := 10) hx hb d_law_251 (by decide) ?_
          refine lv_iadd hx hb d_law_253 ?_
          obtain ⟨v58, e59, h⟩ := gb h
          refine gw_aldI hx hb hK hI e59 d_law_254 ?_
          refine lv_i2l (v := v58.toInt64) hx hb d_law_255 rfl ?_
          refine lv_bipush (v := 32) hx hb d_law_256 (by decide) ?_
          refine lv_lshl (v := (v58.toInt64) <<< ((32 : Int32).toInt64 &&& 63)) hx hb d_law_258 rfl ?_
          refine lv_aload_n hx hb d_law_259 rfl (lv_at hl 0 rfl) ?_
          refine lv_iload hx hb d_law_260 (lv_at hl 4 rfl) ?_
          refine lv_bipush (v := 11) hx hb d_law_262 (by decide) ?_
          refine lv_iadd hx hb d_law_264 ?_
          obtain ⟨v60, e61, h⟩ := gb h
          refine gw_aldI hx hb hK hI e61 d_law_265 ?_
          refine lv_i2l (v := v60.toInt64) hx hb d_law_266 rfl ?_
          refine lv_ldc2 (v := 4294967295) hx hb hown (hT _ wd_1121 args) d_law_267 ?_
          refine lv_land hx hb d_law_270 ?_
          refine lv_lor hx hb d_law_271 ?_
          refine lv_aload_n hx hb d_law_272 rfl (lv_at hl 0 rfl) ?_
          refine lv_iload hx hb d_law_273 (lv_at hl 4 rfl) ?_
          refine lv_bipush (v := 12) hx hb d_law_275 (by decide) ?_
          refine lv_iadd hx hb d_law_277 ?_
          obtain ⟨v62, e63, h⟩ := gb h
          refine gw_aldI hx hb hK hI e63 d_law_278 ?_
          refine lv_i2l (v := v62.toInt64) hx hb d_law_279 rfl ?_
          refine lv_bipush (v := 32) hx hb d_law_280 (by decide) ?_
          refine lv_lshl (v := (v62.toInt64) <<< ((32 : Int32).toInt64 &&& 63)) hx hb d_law_282 rfl ?_
          refine lv_aload_n hx hb d_law_283 rfl (lv_at hl 0 rfl) ?_
          refine lv_iload hx hb d_law_284 (lv_at hl 4 rfl) ?_
          refine lv_bipush (v := 13) hx hb d_law_286 (by decide) ?_
          refine lv_iadd hx hb d_law_288 ?_
          obtain ⟨v64, e65, h⟩ := gb h
          refine gw_aldI hx hb hK hI e65 d_law_289 ?_
          refine lv_i2l (v := v64.toInt64) hx hb d_law_290 rfl ?_
          refine lv_ldc2 (v := 4294967295) hx hb hown (hT _ wd_1121 args) d_law_291 ?_
          refine lv_land hx hb d_law_294 ?_
          refine lv_lor hx hb d_law_295 ?_
          refine lv_aload_n hx hb d_law_296 rfl (lv_at hl 3 rfl) ?_
          obtain ⟨u66, e67⟩ := gsome h
          refine gw_callI e67 h (gw_runS (As := [.ref o1, .int v40, .long (((v42.toInt64) <<< ((32 : Int32).toInt64 &&& 63)) ||| ((v44.toInt64) &&& 4294967295)), .long (((v46.toInt64) <<< ((32 : Int32).toInt64 &&& 63)) ||| ((v48.toInt64) &&& 4294967295)), .long (((v50.toInt64) <<< ((32 : Int32).toInt64 &&& 63)) ||| ((v52.toInt64) &&& 4294967295)), .long (((v54.toInt64) <<< ((32 : Int32).toInt64 &&& 63)) ||| ((v56.toInt64) &&& 4294967295)), .long (((v58.toInt64) <<< ((32 : Int32).toInt64 &&& 63)) ||| ((v60.toInt64) &&& 4294967295)), .long (((v62.toInt64) <<< ((32 : Int32).toInt64 &&& 63)) ||| ((v64.toInt64) &&& 4294967295)), .ref o17]) (rest := []) hx hb hml hown hT hK hZ hA hI (m_W_box l hst D g0 o1 v40 (((v42.toInt64) <<< ((32 : Int32).toInt64 &&& 63)) ||| ((v44.toInt64) &&& 4294967295)) (((v46.toInt64) <<< ((32 : Int32).toInt64 &&& 63)) ||| ((v48.toInt64) &&& 4294967295)) (((v50.toInt64) <<< ((32 : Int32).toInt64 &&& 63)) ||| ((v52.toInt64) &&& 4294967295)) (((v54.toInt64) <<< ((32 : Int32).toInt64 &&& 63)) ||| ((v56.toInt64) &&& 4294967295)) (((v58.toInt64) <<< ((32 : Int32).toInt64 &&& 63)) ||| ((v60.toInt64) &&& 4294967295)) (((v62.toInt64) <<< ((32 : Int32).toInt64 &&& 63)) ||| ((v64.toInt64) &&& 4294967295)) o17 w u66 e67) ce_W_box wd_427 ⟨by decide, by decide⟩ rfl rfl hl.1 rfl (lv_room (Nat.le_of_ble_eq_true rfl)) d_law_297 ⟨(show (16015 - (n + 1) * 31) + 14 ≤ 601024 by omega), (show (905842 - (n + 1) * 1745) + 152 ≤ 7293000 by omega)⟩) hI hA hexc (show (16015 - (n + 1) * 31) + 14 ≤ 601024 by omega) (show (905842 - (n + 1) * 1745) + 152 ≤ 7293000 by omega) (fun v68 w H locs h hI => ?_)
          refine W.widen (k := ((16015 - (n + 1) * 31) + 14)) (n := ((905842 - (n + 1) * 1745) + 152)) (show (16015 - (n + 1) * 31) + 14 ≤ ((16015 - (n + 1) * 31) + 14) by omega) (show (905842 - (n + 1) * 1745) + 152 ≤ ((905842 - (n + 1) * 1745) + 152) by omega) ?_
          refine lv_istore (lv' := [(5, .int v68), (0, .ref a0), (1, .ref o1), (2, .ref o9), (3, .ref o17), (4, .int z22)]) hx hb d_law_300 hl (by decide) rfl (fun ls hl => ?_)
          refine lv_aload_n hx hb d_law_302 rfl (lv_at hl 3 rfl) ?_
          refine lv_aload_n hx hb d_law_303 rfl (lv_at hl 1 rfl) ?_
          refine lv_iload hx hb d_law_304 (lv_at hl 5 rfl) ?_
          refine lv_iconst (v := 1) hx hb d_law_306 (by decide) ?_
          refine lv_iadd hx hb d_law_307 ?_
          obtain ⟨v69, e70, h⟩ := gb h
          refine gw_aldI hx hb hK hI e70 d_law_308 ?_
          refine lv_aload_n hx hb d_law_309 rfl (lv_at hl 1 rfl) ?_
          refine lv_iload hx hb d_law_310 (lv_at hl 5 rfl) ?_
          refine lv_iconst (v := 2) hx hb d_law_312 (by decide) ?_
          refine lv_iadd hx hb d_law_313 ?_
          obtain ⟨v71, e72, h⟩ := gb h
          refine gw_aldI hx hb hK hI e72 d_law_314 ?_
          refine lv_i2l (v := v71.toInt64) hx hb d_law_315 rfl ?_
          refine lv_bipush (v := 32) hx hb d_law_316 (by decide) ?_
          refine lv_lshl (v := (v71.toInt64) <<< ((32 : Int32).toInt64 &&& 63)) hx hb d_law_318 rfl ?_
          refine lv_aload_n hx hb d_law_319 rfl (lv_at hl 1 rfl) ?_
          refine lv_iload hx hb d_law_320 (lv_at hl 5 rfl) ?_
          refine lv_iconst (v := 3) hx hb d_law_322 (by decide) ?_
          refine lv_iadd hx hb d_law_323 ?_
          obtain ⟨v73, e74, h⟩ := gb h
          refine gw_aldI hx hb hK hI e74 d_law_324 ?_
          refine lv_i2l (v := v73.toInt64) hx hb d_law_325 rfl ?_
          refine lv_ldc2 (v := 4294967295) hx hb hown (hT _ wd_1121 args) d_law_326 ?_
          refine lv_land hx hb d_law_329 ?_
          refine lv_lor hx hb d_law_330 ?_
          refine lv_aload_n hx hb d_law_331 rfl (lv_at hl 1 rfl) ?_
          refine lv_iload hx hb d_law_332 (lv_at hl 5 rfl) ?_
          refine lv_iconst (v := 4) hx hb d_law_334 (by decide) ?_
          refine lv_iadd hx hb d_law_335 ?_
          obtain ⟨v75, e76, h⟩ := gb h
          refine gw_aldI hx hb hK hI e76 d_law_336 ?_
          refine lv_i2l (v := v75.toInt64) hx hb d_law_337 rfl ?_
          refine lv_bipush (v := 32) hx hb d_law_338 (by decide) ?_
          refine lv_lshl (v := (v75.toInt64) <<< ((32 : Int32).toInt64 &&& 63)) hx hb d_law_340 rfl ?_
          refine lv_aload_n hx hb d_law_341 rfl (lv_at hl 1 rfl) ?_
          refine lv_iload hx hb d_law_342 (lv_at hl 5 rfl) ?_
          refine lv_iconst (v := 5) hx hb d_law_344 (by decide) ?_
          refine lv_iadd hx hb d_law_345 ?_
          obtain ⟨v77, e78, h⟩ := gb h
          refine gw_aldI hx hb hK hI e78 d_law_346 ?_
          refine lv_i2l (v := v77.toInt64) hx hb d_law_347 rfl ?_
          refine lv_ldc2 (v := 4294967295) hx hb hown (hT _ wd_1121 args) d_law_348 ?_
          refine lv_land hx hb d_law_351 ?_
          refine lv_lor hx hb d_law_352 ?_
          refine lv_aload_n hx hb d_law_353 rfl (lv_at hl 1 rfl) ?_
          refine lv_iload hx hb d_law_354 (lv_at hl 5 rfl) ?_
          refine lv_bipush (v := 6) hx hb d_law_356 (by decide) ?_
          refine lv_iadd hx hb d_law_358 ?_
          obtain ⟨v79, e80, h⟩ := gb h
          refine gw_aldI hx hb hK hI e80 d_law_359 ?_
          refine lv_i2l (v := v79.toInt64) hx hb d_law_360 rfl ?_
          refine lv_bipush (v := 32) hx hb d_law_361 (by decide) ?_
          refine lv_lshl (v := (v79.toInt64) <<< ((32 : Int32).toInt64 &&& 63)) hx hb d_law_363 rfl ?_
          refine lv_aload_n hx hb d_law_364 rfl (lv_at hl 1 rfl) ?_
          refine lv_iload hx hb d_law_365 (lv_at hl 5 rfl) ?_
          refine lv_bipush (v := 7) hx hb d_law_367 (by decide) ?_
          refine lv_iadd hx hb d_law_369 ?_
          obtain ⟨v81, e82, h⟩ := gb h
          refine gw_aldI hx hb hK hI e82 d_law_370 ?_
          refine lv_i2l (v := v81.toInt64) hx hb d_law_371 rfl ?_
          refine lv_ldc2 (v := 4294967295) hx hb hown (hT _ wd_1121 args) d_law_372 ?_
          refine lv_land hx hb d_law_375 ?_
          refine lv_lor hx hb d_law_376 ?_
          refine lv_aload_n hx hb d_law_377 rfl (lv_at hl 1 rfl) ?_
          refine lv_iload hx hb d_law_378 (lv_at hl 5 rfl) ?_
          refine lv_bipush (v := 8) hx hb d_law_380 (by decide) ?_
          refine lv_iadd hx hb d_law_382 ?_
          obtain ⟨v83, e84, h⟩ := gb h
          refine gw_aldI hx hb hK hI e84 d_law_383 ?_
          refine lv_i2l (v := v83.toInt64) hx hb d_law_384 rfl ?_
          refine lv_bipush (v := 32) hx hb d_law_385 (by decide) ?_
          refine lv_lshl (v := (v83.toInt64) <<< ((32 : Int32).toInt64 &&& 63)) hx hb d_law_387 rfl ?_
          refine lv_aload_n hx hb d_law_388 rfl (lv_at hl 1 rfl) ?_
          refine lv_iload hx hb d_law_389 (lv_at hl 5 rfl) ?_
          refine lv_bipush (v := 9) hx hb d_law_391 (by decide) ?_
          refine lv_iadd hx hb d_law_393 ?_
          obtain ⟨v85, e86, h⟩ := gb h
          refine gw_aldI hx hb hK hI e86 d_law_394 ?_
          refine lv_i2l (v := v85.toInt64) hx hb d_law_395 rfl ?_
          refine lv_ldc2 (v := 4294967295) hx hb hown (hT _ wd_1121 args) d_law_396 ?_
          refine lv_land hx hb d_law_399 ?_
          refine lv_lor hx hb d_law_400 ?_
          refine lv_aload_n hx hb d_law_401 rfl (lv_at hl 1 rfl) ?_
          refine lv_iload hx hb d_law_402 (lv_at hl 5 rfl) ?_
          refine lv_bipush (v := 10) hx hb d_law_404 (by decide) ?_
          refine lv_iadd hx hb d_law_406 ?_
          obtain ⟨v87, e88, h⟩ := gb h
          refine gw_aldI hx hb hK hI e88 d_law_407 ?_
          refine lv_i2l (v := v87.toInt64) hx hb d_law_408 rfl ?_
          refine lv_bipush (v := 32) hx hb d_law_409 (by decide) ?_
          refine lv_lshl (v := (v87.toInt64) <<< ((32 : Int32).toInt64 &&& 63)) hx hb d_law_411 rfl ?_
          refine lv_aload_n hx hb d_law_412 rfl (lv_at hl 1 rfl) ?_
          refine lv_iload hx hb d_law_413 (lv_at hl 5 rfl) ?_
          refine lv_bipush (v := 11) hx hb d_law_415 (by decide) ?_
          refine lv_iadd hx hb d_law_417 ?_
          obtain ⟨v89, e90, h⟩ := gb h
          refine gw_aldI hx hb hK hI e90 d_law_418 ?_
          refine lv_i2l (v := v89.toInt64) hx hb d_law_419 rfl ?_
          refine lv_ldc2 (v := 4294967295) hx hb hown (hT _ wd_1121 args) d_law_420 ?_
          refine lv_land hx hb d_law_423 ?_
          refine lv_lor hx hb d_law_424 ?_
          refine lv_aload_n hx hb d_law_425 rfl (lv_at hl 1 rfl) ?_
          refine lv_iload hx hb d_law_426 (lv_at hl 5 rfl) ?_
          refine lv_bipush (v := 12) hx hb d_law_428 (by decide) ?_
          refine lv_iadd hx hb d_law_430 ?_
          obtain ⟨v91, e92, h⟩ := gb h
          refine gw_aldI hx hb hK hI e92 d_law_431 ?_
          refine lv_i2l (v := v91.toInt64) hx hb d_law_432 rfl ?_
          refine lv_bipush (v := 32) hx hb d_law_433 (by decide) ?_
          refine lv_lshl (v := (v91.toInt64) <<< ((32 : Int32).toInt64 &&& 63)) hx hb d_law_435 rfl ?_
          refine lv_aload_n hx hb d_law_436 rfl (lv_at hl 1 rfl) ?_
          refine lv_iload hx hb d_law_437 (lv_at hl 5 rfl) ?_
          refine lv_bipush (v := 13) hx hb d_law_439 (by decide) ?_
          refine lv_iadd hx hb d_law_441 ?_
          obtain ⟨v93, e94, h⟩ := gb h
          refine gw_aldI hx hb hK hI e94 d_law_442 ?_
          refine lv_i2l (v := v93.toInt64) hx hb d_law_443 rfl ?_
          refine lv_ldc2 (v := 4294967295) hx hb hown (hT _ wd_1121 args) d_law_444 ?_
          refine lv_land hx hb d_law_447 ?_
          refine lv_lor hx hb d_law_448 ?_
          obtain ⟨q97, e98, h⟩ := gb h
          obtain ⟨u95, e96⟩ := gsome h
          refine gw_callI e96 h (gw_runV (As := [.int v69, .long (((v71.toInt64) <<< ((32 : Int32).toInt64 &&& 63)) ||| ((v73.toInt64) &&& 4294967295)), .long (((v75.toInt64) <<< ((32 : Int32).toInt64 &&& 63)) ||| ((v77.toInt64) &&& 4294967295)), .long (((v79.toInt64) <<< ((32 : Int32).toInt64 &&& 63)) ||| ((v81.toInt64) &&& 4294967295)), .long (((v83.toInt64) <<< ((32 : Int32).toInt64 &&& 63)) ||| ((v85.toInt64) &&& 4294967295)), .long (((v87.toInt64) <<< ((32 : Int32).toInt64 &&& 63)) ||| ((v89.toInt64) &&& 4294967295)), .long (((v91.toInt64) <<< ((32 : Int32).toInt64 &&& 63)) ||| ((v93.toInt64) &&& 4294967295))]) (rest := []) hx hb hml hown hT hK hZ hA hI (ci := 7) rfl e98 (m_M_box l hst D g0 o9 v69 (((v71.toInt64) <<< ((32 : Int32).toInt64 &&& 63)) ||| ((v73.toInt64) &&& 4294967295)) (((v75.toInt64) <<< ((32 : Int32).toInt64 &&& 63)) ||| ((v77.toInt64) &&& 4294967295)) (((v79.toInt64) <<< ((32 : Int32).toInt64 &&& 63)) ||| ((v81.toInt64) &&& 4294967295)) (((v83.toInt64) <<< ((32 : Int32).toInt64 &&& 63)) ||| ((v85.toInt64) &&& 4294967295)) (((v87.toInt64) <<< ((32 : Int32).toInt64 &&& 63)) ||| ((v89.toInt64) &&& 4294967295)) (((v91.toInt64) <<< ((32 : Int32).toInt64 &&& 63)) ||| ((v93.toInt64) &&& 4294967295)) w u95 e96) ce_M_box wd_876 wd_878 ⟨by decide, by decide⟩ rfl rfl hl.1 rfl (lv_room (Nat.le_of_ble_eq_true rfl)) d_law_449 ⟨(show ((16015 - (n + 1) * 31) + 14) + 0 ≤ 601024 by omega), (show ((905842 - (n + 1) * 1745) + 152) + 0 ≤ 7293000 by omega)⟩) hI hA hexc (show ((16015 - (n + 1) * 31) + 14) + 0 ≤ 601024 by omega) (show ((905842 - (n + 1) * 1745) + 152) + 0 ≤ 7293000 by omega) (fun v99 w H locs h hI => ?_)
          refine lv_istore (lv' := [(6, .int v99), (5, .int v68), (0, .ref a0), (1, .ref o1), (2, .ref o9), (3, .ref o17), (4, .int z22)]) hx hb d_law_452 hl (by decide) rfl (fun ls hl => ?_)
          refine lv_goto (tgt := 2104) hx hb d_law_454 (by decide) ?_
          refine W.widen (k := ((16015 - (n + 1) * 31) + 31)) (n := ((905842 - (n + 1) * 1745) + 1745)) (show ((16015 - (n + 1) * 31) + 14) ≤ ((16015 - (n + 1) * 31) + 31) by omega) (show ((905842 - (n + 1) * 1745) + 152) ≤ ((905842 - (n + 1) * 1745) + 1745) by omega) ?_
          exact hK2104 w H locs ls h hI (lv_sub hl [2, 3, 4, 5, 6] rfl)
        have h := gie c39 h
        rcases Decidable.em ((v26 &&& 31) = 2) with c100 | c100
        · have h := git c100 h
          refine lv_tableIn (off := 405) (tgt := 457) hx hb d_law_52 (by rw [c100]; decide) (by rw [c100]; decide) (by rw [c100]; decide) (by decide) ?_
          refine lv_aload_n hx hb d_law_457 rfl (lv_at hl 1 rfl) ?_
          refine lv_aload_n hx hb d_law_458 rfl (lv_at hl 0 rfl) ?_
          refine lv_iload hx hb d_law_459 (lv_at hl 4 rfl) ?_
          refine lv_iconst (v := 1) hx hb d_law_461 (by decide) ?_
          refine lv_iadd hx hb d_law_462 ?_
          obtain ⟨v101, e102, h⟩ := gb h
          refine gw_aldI hx hb hK hI e102 d_law_463 ?_
          refine lv_aload_n hx hb d_law_464 rfl (lv_at hl 0 rfl) ?_
          refine lv_iload hx hb d_law_465 (lv_at hl 4 rfl) ?_
          refine lv_iconst (v := 2) hx hb d_law_467 (by decide) ?_
          refine lv_iadd hx hb d_law_468 ?_
          obtain ⟨v103, e104, h⟩ := gb h
          refine gw_aldI hx hb hK hI e104 d_law_469 ?_
          refine lv_i2l (v := v103.toInt64) hx hb d_law_470 rfl ?_
          refine lv_bipush (v := 32) hx hb d_law_471 (by decide) ?_
          refine lv_lshl (v := (v103.toInt64) <<< ((32 : Int32).toInt64 &&& 63)) hx hb d_law_473 rfl ?_
          refine lv_aload_n hx hb d_law_474 rfl (lv_at hl 0 rfl) ?_
          refine lv_iload hx hb d_law_475 (lv_at hl 4 rfl) ?_
          refine lv_iconst (v := 3) hx hb d_law_477 (by decide) ?_
          refine lv_iadd hx hb d_law_478 ?_
          obtain ⟨v105, e106, h⟩ := gb h
          refine gw_aldI hx hb hK hI e106 d_law_479 ?_
          refine lv_i2l (v := v105.toInt64) hx hb d_law_480 rfl ?_
          refine lv_ldc2 (v := 4294967295) hx hb hown (hT _ wd_1121 args) d_law_481 ?_
          refine lv_land hx hb d_law_484 ?_
          refine lv_lor hx hb d_law_485 ?_
          refine lv_aload_n hx hb d_law_486 rfl (lv_at hl 0 rfl) ?_
          refine lv_iload hx hb d_law_487 (lv_at hl 4 rfl) ?_
          refine lv_iconst (v := 4) hx hb d_law_489 (by decide) ?_
          refine lv_iadd hx hb d_law_490 ?_
          obtain ⟨v107, e108, h⟩ := gb h
          refine gw_aldI hx hb hK hI e108 d_law_491 ?_
          refine lv_i2l (v := v107.toInt64) hx hb d_law_492 rfl ?_
          refine lv_bipush (v := 32) hx hb d_law_493 (by decide) ?_
          refine lv_lshl (v := (v107.toInt64) <<< ((32 : Int32).toInt64 &&& 63)) hx hb d_law_495 rfl ?_
          refine lv_aload_n hx hb d_law_496 rfl (lv_at hl 0 rfl) ?_
          refine lv_iload hx hb d_law_497 (lv_at hl 4 rfl) ?_
          refine lv_iconst (v := 5) hx hb d_law_499 (by decide) ?_
          refine lv_iadd hx hb d_law_500 ?_
          obtain ⟨v109, e110, h⟩ := gb h
          refine gw_aldI hx hb hK hI e110 d_law_501 ?_
          refine lv_i2l (v := v109.toInt64) hx hb d_law_502 rfl ?_
          refine lv_ldc2 (v := 4294967295) hx hb hown (hT _ wd_1121 args) d_law_503 ?_
          refine lv_land hx hb d_law_506 ?_
          refine lv_lor hx hb d_law_507 ?_
          refine lv_aload_n hx hb d_law_508 rfl (lv_at hl 0 rfl) ?_
          refine lv_iload hx hb d_law_509 (lv_at hl 4 rfl) ?_
          refine lv_bipush (v := 6) hx hb d_law_511 (by decide) ?_
          refine lv_iadd hx hb d_law_513 ?_
          obtain ⟨v111, e112, h⟩ := gb h
          refine gw_aldI hx hb hK hI e112 d_law_514 ?_
          refine lv_i2l (v := v111.toInt64) hx hb d_law_515 rfl ?_
          refine lv_bipush (v := 32) hx hb d_law_516 (by decide) ?_
          refine lv_lshl (v := (v111.toInt64) <<< ((32 : Int32).toInt64 &&& 63)) hx hb d_law_518 rfl ?_
          refine lv_aload_n hx hb d_law_519 rfl (lv_at hl 0 rfl) ?_
          refine lv_iload hx hb d_law_520 (lv_at hl 4 rfl) ?_
          refine lv_bipush (v := 7) hx hb d_law_522 (by decide) ?_
          refine lv_iadd hx hb d_law_524 ?_
          obtain ⟨v113, e114, h⟩ := gb h
          refine gw_aldI hx hb hK hI e114 d_law_525 ?_
          refine lv_i2l (v := v113.toInt64) hx hb d_law_526 rfl ?_
          refine lv_ldc2 (v := 4294967295) hx hb hown (hT _ wd_1121 args) d_law_527 ?_
          refine lv_land hx hb d_law_530 ?_
          refine lv_lor hx hb d_law_531 ?_
          refine lv_aload_n hx hb d_law_532 rfl (lv_at hl 0 rfl) ?_
          refine lv_iload hx hb d_law_533 (lv_at hl 4 rfl) ?_
          refine lv_bipush (v := 8) hx hb d_law_535 (by decide) ?_
          refine lv_iadd hx hb d_law_537 ?_
          obtain ⟨v115, e116, h⟩ := gb h
          refine gw_aldI hx hb hK hI e116 d_law_538 ?_
          refine lv_i2l (v := v115.toInt64) hx hb d_law_539 rfl ?_
          refine lv_bipush (v := 32) hx hb d_law_540 (by decide) ?_
          refine lv_lshl (v := (v115.toInt64) <<< ((32 : Int32).toInt64 &&& 63)) hx hb d_law_542 rfl ?_
          refine lv_aload_n hx hb d_law_543 rfl (lv_at hl 0 rfl) ?_
          refine lv_iload hx hb d_law_544 (lv_at hl 4 rfl) ?_
          refine lv_bipush (v := 9) hx hb d_law_546 (by decide) ?_
          refine lv_iadd hx hb d_law_548 ?_
          obtain ⟨v117, e118, h⟩ := gb h
          refine gw_aldI hx hb hK hI e118 d_law_549 ?_
          refine lv_i2l (v := v117.toInt64) hx hb d_law_550 rfl ?_
          refine lv_ldc2 (v := 4294967295) hx hb hown (hT _ wd_1121 args) d_law_551 ?_
          refine lv_land hx hb d_law_554 ?_
          refine lv_lor hx hb d_law_555 ?_
          refine lv_aload_n hx hb d_law_556 rfl (lv_at hl 0 rfl) ?_
          refine lv_iload hx hb d_law_557 (lv_at hl 4 rfl) ?_
          refine lv_bipush (v := 10) hx hb d_law_559 (by decide) ?_
          refine lv_iadd hx hb d_law_561 ?_
          obtain ⟨v119, e120, h⟩ := gb h
          refine gw_aldI hx hb hK hI e120 d_law_562 ?_
          refine lv_i2l (v := v119.toInt64) hx hb d_law_563 rfl ?_
          refine lv_bipush (v := 32) hx hb d_law_564 (by decide) ?_
          refine lv_lshl (v := (v119.toInt64) <<< ((32 : Int32).toInt64 &&& 63)) hx hb d_law_566 rfl ?_
          refine lv_aload_n hx hb d_law_567 rfl (lv_at hl 0 rfl) ?_
          refine lv_iload hx hb d_law_568 (lv_at hl 4 rfl) ?_
          refine lv_bipush (v := 11) hx hb d_law_570 (by decide) ?_
          refine lv_iadd hx hb d_law_572 ?_
          obtain ⟨v121, e122, h⟩ := gb h
          refine gw_aldI hx hb hK hI e122 d_law_573 ?_
          refine lv_i2l (v := v121.toInt64) hx hb d_law_574 rfl ?_
          refine lv_ldc2 (v := 4294967295) hx hb hown (hT _ wd_1121 args) d_law_575 ?_
          refine lv_land hx hb d_law_578 ?_
          refine lv_lor hx hb d_law_579 ?_
          refine lv_aload_n hx hb d_law_580 rfl (lv_at hl 3 rfl) ?_
          obtain ⟨u123, e124⟩ := gsome h
          refine gw_callI e124 h (gw_runS (As := [.ref o1, .int v101, .long (((v103.toInt64) <<< ((32 : Int32).toInt64 &&& 63)) ||| ((v105.toInt64) &&& 4294967295)), .long (((v107.toInt64) <<< ((32 : Int32).toInt64 &&& 63)) ||| ((v109.toInt64) &&& 4294967295)), .long (((v111.toInt64) <<< ((32 : Int32).toInt64 &&& 63)) ||| ((v113.toInt64) &&& 4294967295)), .long (((v115.toInt64) <<< ((32 : Int32).toInt64 &&& 63)) ||| ((v117.toInt64) &&& 4294967295)), .long (((v119.toInt64) <<< ((32 : Int32).toInt64 &&& 63)) ||| ((v121.toInt64) &&& 4294967295)), .ref o17]) (rest := []) hx hb hml hown hT hK hZ hA hI (m_W_cylinder l hst D g0 o1 v101 (((v103.toInt64) <<< ((32 : Int32).toInt64 &&& 63)) ||| ((v105.toInt64) &&& 4294967295)) (((v107.toInt64) <<< ((32 : Int32).toInt64 &&& 63)) ||| ((v109.toInt64) &&& 4294967295)) (((v111.toInt64) <<< ((32 : Int32).toInt64 &&& 63)) ||| ((v113.toInt64) &&& 4294967295)) (((v115.toInt64) <<< ((32 : Int32).toInt64 &&& 63)) ||| ((v117.toInt64) &&& 4294967295)) (((v119.toInt64) <<< ((32 : Int32).toInt64 &&& 63)) ||| ((v121.toInt64) &&& 4294967295)) o17 w u123 e124) ce_W_cylinder wd_568 ⟨by decide, by decide⟩ rfl rfl hl.1 rfl (lv_room (Nat.le_of_ble_eq_true rfl)) d_law_581 ⟨(show (16015 - (n + 1) * 31) + 11 ≤ 601024 by omega), (show (905842 - (n + 1) * 1745) + 134 ≤ 7293000 by omega)⟩) hI hA hexc (show (16015 - (n + 1) * 31) + 11 ≤ 601024 by omega) (show (905842 - (n + 1) * 1745) + 134 ≤ 7293000 by omega) (fun v125 w H locs h hI => ?_)
          refine W.widen (k := ((16015 - (n + 1) * 31) + 11)) (n := ((905842 - (n + 1) * 1745) + 134)) (show (16015 - (n + 1) * 31) + 11 ≤ ((16015 - (n + 1) * 31) + 11) by omega) (show (905842 - (n + 1) * 1745) + 134 ≤ ((905842 - (n + 1) * 1745) + 134) by omega) ?_
          refine lv_istore (lv' := [(5, .int v125), (0, .ref a0), (1, .ref o1), (2, .ref o9), (3, .ref o17), (4, .int z22)]) hx hb d_law_584 hl (by decide) rfl (fun ls hl => ?_)
          refine lv_aload_n hx hb d_law_586 rfl (lv_at hl 3 rfl) ?_
          refine lv_aload_n hx hb d_law_587 rfl (lv_at hl 1 rfl) ?_
          refine lv_iload hx hb d_law_588 (lv_at hl 5 rfl) ?_
          refine lv_iconst (v := 1) hx hb d_law_590 (by decide) ?_
          refine lv_iadd hx hb d_law_591 ?_
          obtain ⟨v126, e127, h⟩ := gb h
          refine gw_aldI hx hb hK hI e127 d_law_592 ?_
          refine lv_aload_n hx hb d_law_593 rfl (lv_at hl 1 rfl) ?_
          refine lv_iload hx hb d_law_594 (lv_at hl 5 rfl) ?_
          refine lv_iconst (v := 2) hx hb d_law_596 (by decide) ?_
          refine lv_iadd hx hb d_law_597 ?_
          obtain ⟨v128, e129, h⟩ := gb h
          refine gw_aldI hx hb hK hI e129 d_law_598 ?_
          refine lv_i2l (v := v128.toInt64) hx hb d_law_599 rfl ?_
          refine lv_bipush (v := 32) hx hb d_law_600 (by decide) ?_
          refine lv_lshl (v := (v128.toInt64) <<< ((32 : Int32).toInt64 &&& 63)) hx hb d_law_602 rfl ?_
          refine lv_aload_n hx hb d_law_603 rfl (lv_at hl 1 rfl) ?_
          refine lv_iload hx hb d_law_604 (lv_at hl 5 rfl) ?_
          refine lv_iconst (v := 3) hx hb d_law_606 (by decide) ?_
          refine lv_iadd hx hb d_law_607 ?_
          obtain ⟨v130, e131, h⟩ := gb h
          refine gw_aldI hx hb hK hI e131 d_law_608 ?_
          refine lv_i2l (v := v130.toInt64) hx hb d_law_609 rfl ?_
          refine lv_ldc2 (v := 4294967295) hx hb hown (hT _ wd_1121 args) d_law_610 ?_
          refine lv_land hx hb d_law_613 ?_
          refine lv_lor hx hb d_law_614 ?_
          refine lv_aload_n hx hb d_law_615 rfl (lv_at hl 1 rfl) ?_
          refine lv_iload hx hb d_law_616 (lv_at hl 5 rfl) ?_
          refine lv_iconst (v := 4) hx hb d_law_618 (by decide) ?_
          refine lv_iadd hx hb d_law_619 ?_
          obtain ⟨v132, e133, h⟩ := gb h
          refine gw_aldI hx hb hK hI e133 d_law_620 ?_
          refine lv_i2l (v := v132.toInt64) hx hb d_law_621 rfl ?_
          refine lv_bipush (v := 32) hx hb d_law_622 (by decide) ?_
          refine lv_lshl (v := (v132.toInt64) <<< ((32 : Int32).toInt64 &&& 63)) hx hb d_law_624 rfl ?_
          refine lv_aload_n hx hb d_law_625 rfl (lv_at hl 1 rfl) ?_
          refine lv_iload hx hb d_law_626 (lv_at hl 5 rfl) ?_
          refine lv_iconst (v := 5) hx hb d_law_628 (by decide) ?_
          refine lv_iadd hx hb d_law_629 ?_
          obtain ⟨v134, e135, h⟩ := gb h
          refine gw_aldI hx hb hK hI e135 d_law_630 ?_
          refine lv_i2l (v := v134.toInt64) hx hb d_law_631 rfl ?_
          refine lv_ldc2 (v := 4294967295) hx hb hown (hT _ wd_1121 args) d_law_632 ?_
          refine lv_land hx hb d_law_635 ?_
          refine lv_lor hx hb d_law_636 ?_
          refine lv_aload_n hx hb d_law_637 rfl (lv_at hl 1 rfl) ?_
          refine lv_iload hx hb d_law_638 (lv_at hl 5 rfl) ?_
          refine lv_bipush (v := 6) hx hb d_law_640 (by decide) ?_
          refine lv_iadd hx hb d_law_642 ?_
          obtain ⟨v136, e137, h⟩ := gb h
          refine gw_aldI hx hb hK hI e137 d_law_643 ?_
          refine lv_i2l (v := v136.toInt64) hx hb d_law_644 rfl ?_
          refine lv_bipush (v := 32) hx hb d_law_645 (by decide) ?_
          refine lv_lshl (v := (v136.toInt64) <<< ((32 : Int32).toInt64 &&& 63)) hx hb d_law_647 rfl ?_
          refine lv_aload_n hx hb d_law_648 rfl (lv_at hl 1 rfl) ?_
          refine lv_iload hx hb d_law_649 (lv_at hl 5 rfl) ?_
          refine lv_bipush (v := 7) hx hb d_law_651 (by decide) ?_
          refine lv_iadd hx hb d_law_653 ?_
          obtain ⟨v138, e139, h⟩ := gb h
          refine gw_aldI hx hb hK hI e139 d_law_654 ?_
          refine lv_i2l (v := v138.toInt64) hx hb d_law_655 rfl ?_
          refine lv_ldc2 (v := 4294967295) hx hb hown (hT _ wd_1121 args) d_law_656 ?_
          refine lv_land hx hb d_law_659 ?_
          refine lv_lor hx hb d_law_660 ?_
          refine lv_aload_n hx hb d_law_661 rfl (lv_at hl 1 rfl) ?_
          refine lv_iload hx hb d_law_662 (lv_at hl 5 rfl) ?_
          refine lv_bipush (v := 8) hx hb d_law_664 (by decide) ?_
          refine lv_iadd hx hb d_law_666 ?_
          obtain ⟨v140, e141, h⟩ := gb h
          refine gw_aldI hx hb hK hI e141 d_law_667 ?_
          refine lv_i2l (v := v140.toInt64) hx hb d_law_668 rfl ?_
          refine lv_bipush (v := 32) hx hb d_law_669 (by decide) ?_
          refine lv_lshl (v := (v140.toInt64) <<< ((32 : Int32).toInt64 &&& 63)) hx hb d_law_671 rfl ?_
          refine lv_aload_n hx hb d_law_672 rfl (lv_at hl 1 rfl) ?_
          refine lv_iload hx hb d_law_673 (lv_at hl 5 rfl) ?_
          refine lv_bipush (v := 9) hx hb d_law_675 (by decide) ?_
          refine lv_iadd hx hb d_law_677 ?_
          obtain ⟨v142, e143, h⟩ := gb h
          refine gw_aldI hx hb hK hI e143 d_law_678 ?_
          refine lv_i2l (v := v142.toInt64) hx hb d_law_679 rfl ?_
          refine lv_ldc2 (v := 4294967295) hx hb hown (hT _ wd_1121 args) d_law_680 ?_
          refine lv_land hx hb d_law_683 ?_
          refine lv_lor hx hb d_law_684 ?_
          refine lv_aload_n hx hb d_law_685 rfl (lv_at hl 1 rfl) ?_
          refine lv_iload hx hb d_law_686 (lv_at hl 5 rfl) ?_
          refine lv_bipush (v := 10) hx hb d_law_688 (by decide) ?_
          refine lv_iadd hx hb d_law_690 ?_
          obtain ⟨v144, e145, h⟩ := gb h
          refine gw_aldI hx hb hK hI e145 d_law_691 ?_
          refine lv_i2l (v := v144.toInt64) hx hb d_law_692 rfl ?_
          refine lv_bipush (v := 32) hx hb d_law_693 (by decide) ?_
          refine lv_lshl (v := (v144.toInt64) <<< ((32 : Int32).toInt64 &&& 63)) hx hb d_law_695 rfl ?_
          refine lv_aload_n hx hb d_law_696 rfl (lv_at hl 1 rfl) ?_
          refine lv_iload hx hb d_law_697 (lv_at hl 5 rfl) ?_
          refine lv_bipush (v := 11) hx hb d_law_699 (by decide) ?_
          refine lv_iadd hx hb d_law_701 ?_
          obtain ⟨v146, e147, h⟩ := gb h
          refine gw_aldI hx hb hK hI e147 d_law_702 ?_
          refine lv_i2l (v := v146.toInt64) hx hb d_law_703 rfl ?_
          refine lv_ldc2 (v := 4294967295) hx hb hown (hT _ wd_1121 args) d_law_704 ?_
          refine lv_land hx hb d_law_707 ?_
          refine lv_lor hx hb d_law_708 ?_
          obtain ⟨q150, e151, h⟩ := gb h
          obtain ⟨u148, e149⟩ := gsome h
          refine gw_callI e149 h (gw_runV (As := [.int v126, .long (((v128.toInt64) <<< ((32 : Int32).toInt64 &&& 63)) ||| ((v130.toInt64) &&& 4294967295)), .long (((v132.toInt64) <<< ((32 : Int32).toInt64 &&& 63)) ||| ((v134.toInt64) &&& 4294967295)), .long (((v136.toInt64) <<< ((32 : Int32).toInt64 &&& 63)) ||| ((v138.toInt64) &&& 4294967295)), .long (((v140.toInt64) <<< ((32 : Int32).toInt64 &&& 63)) ||| ((v142.toInt64) &&& 4294967295)), .long (((v144.toInt64) <<< ((32 : Int32).toInt64 &&& 63)) ||| ((v146.toInt64) &&& 4294967295))]) (rest := []) hx hb hml hown hT hK hZ hA hI (ci := 7) rfl e151 (m_M_cylinder l hst D g0 o9 v126 (((v128.toInt64) <<< ((32 : Int32).toInt64 &&& 63)) ||| ((v130.toInt64) &&& 4294967295)) (((v132.toInt64) <<< ((32 : Int32).toInt64 &&& 63)) ||| ((v134.toInt64) &&& 4294967295)) (((v136.toInt64) <<< ((32 : Int32).toInt64 &&& 63)) ||| ((v138.toInt64) &&& 4294967295)) (((v140.toInt64) <<< ((32 : Int32).toInt64 &&& 63)) ||| ((v142.toInt64) &&& 4294967295)) (((v144.toInt64) <<< ((32 : Int32).toInt64 &&& 63)) ||| ((v146.toInt64) &&& 4294967295)) w u148 e149) ce_M_cylinder wd_906 wd_908 ⟨by decide, by decide⟩ rfl rfl hl.1 rfl (lv_room (Nat.le_of_ble_eq_true rfl)) d_law_709 ⟨(show ((16015 - (n + 1) * 31) + 11) + 0 ≤ 601024 by omega), (show ((905842 - (n + 1) * 1745) + 134) + 0 ≤ 7293000 by omega)⟩) hI hA hexc (show ((16015 - (n + 1) * 31) + 11) + 0 ≤ 601024 by omega) (show ((905842 - (n + 1) * 1745) + 134) + 0 ≤ 7293000 by omega) (fun v152 w H locs h hI => ?_)
          refine lv_istore (lv' := [(6, .int v152), (5, .int v125), (0, .ref a0), (1, .ref o1), (2, .ref o9), (3, .ref o17), (4, .int z22)]) hx hb d_law_712 hl (by decide) rfl (fun ls hl => ?_)
          refine lv_goto (tgt := 2104) hx hb d_law_714 (by decide) ?_
          refine W.widen (k := ((16015 - (n + 1) * 31) + 31)) (n := ((905842 - (n + 1) * 1745) + 1745)) (show ((16015 - (n + 1) * 31) + 11) ≤ ((16015 - (n + 1) * 31) + 31) by omega) (show ((905842 - (n + 1) * 1745) + 134) ≤ ((905842 - (n + 1) * 1745) + 1745) by omega) ?_
          exact hK2104 w H locs ls h hI (lv_sub hl [2, 3, 4, 5, 6] rfl)
        have h := gie c100 h
        rcases Decidable.em ((v26 &&& 31) = 3) with c153 | c153
        · have h := git c153 h
          refine lv_tableIn (off := 665) (tgt := 717) hx hb d_law_52 (by rw [c153]; decide) (by rw [c153]; decide) (by rw [c153]; decide) (by decide) ?_
          refine lv_aload_n hx hb d_law_717 rfl (lv_at hl 1 rfl) ?_
          refine lv_aload_n hx hb d_law_718 rfl (lv_at hl 0 rfl) ?_
          refine lv_iload hx hb d_law_719 (lv_at hl 4 rfl) ?_
          refine lv_iconst (v := 1) hx hb d_law_721 (by decide) ?_
          refine lv_iadd hx hb d_law_722 ?_
          obtain ⟨v154, e155, h⟩ := gb h
          refine gw_aldI hx hb hK hI e155 d_law_723 ?_
          refine lv_i2l (v := v154.toInt64) hx hb d_law_724 rfl ?_
          refine lv_bipush (v := 32) hx hb d_law_725 (by decide) ?_
          refine lv_lshl (v := (v154.toInt64) <<< ((32 : Int32).toInt64 &&& 63)) hx hb d_law_727 rfl ?_
          refine lv_aload_n hx hb d_law_728 rfl (lv_at hl 0 rfl) ?_
          refine lv_iload hx hb d_law_729 (lv_at hl 4 rfl) ?_
          refine lv_iconst (v := 2) hx hb d_law_731 (by decide) ?_
          refine lv_iadd hx hb d_law_732 ?_
          obtain ⟨v156, e157, h⟩ := gb h
          refine gw_aldI hx hb hK hI e157 d_law_733 ?_
          refine lv_i2l (v := v156.toInt64) hx hb d_law_734 rfl ?_
          refine lv_ldc2 (v := 4294967295) hx hb hown (hT _ wd_1121 args) d_law_735 ?_
          refine lv_land hx hb d_law_738 ?_
          refine lv_lor hx hb d_law_739 ?_
          refine lv_aload_n hx hb d_law_740 rfl (lv_at hl 0 rfl) ?_
          refine lv_iload hx hb d_law_741 (lv_at hl 4 rfl) ?_
          refine lv_iconst (v := 3) hx hb d_law_743 (by decide) ?_
          refine lv_iadd hx hb d_law_744 ?_
          obtain ⟨v158, e159, h⟩ := gb h
          refine gw_aldI hx hb hK hI e159 d_law_745 ?_
          refine lv_i2l (v := v158.toInt64) hx hb d_law_746 rfl ?_
          refine lv_bipush (v := 32) hx hb d_law_747 (by decide) ?_
          refine lv_lshl (v := (v158.toInt64) <<< ((32 : Int32).toInt64 &&& 63)) hx hb d_law_749 rfl ?_
          refine lv_aload_n hx hb d_law_750 rfl (lv_at hl 0 rfl) ?_
          refine lv_iload hx hb d_law_751 (lv_at hl 4 rfl) ?_
          refine lv_iconst (v := 4) hx hb d_law_753 (by decide) ?_
          refine lv_iadd hx hb d_law_754 ?_
          obtain ⟨v160, e161, h⟩ := gb h
          refine gw_aldI hx hb hK hI e161 d_law_755 ?_
          refine lv_i2l (v := v160.toInt64) hx hb d_law_756 rfl ?_
          refine lv_ldc2 (v := 4294967295) hx hb hown (hT _ wd_1121 args) d_law_757 ?_
          refine lv_land hx hb d_law_760 ?_
          refine lv_lor hx hb d_law_761 ?_
          refine lv_aload_n hx hb d_law_762 rfl (lv_at hl 3 rfl) ?_
          obtain ⟨u162, e163⟩ := gsome h
          refine gw_callI e163 h (gw_runS (As := [.ref o1, .long (((v154.toInt64) <<< ((32 : Int32).toInt64 &&& 63)) ||| ((v156.toInt64) &&& 4294967295)), .long (((v158.toInt64) <<< ((32 : Int32).toInt64 &&& 63)) ||| ((v160.toInt64) &&& 4294967295)), .ref o17]) (rest := []) hx hb hml hown hT hK hZ hA hI (m_W_corner l hst D g0 o1 (((v154.toInt64) <<< ((32 : Int32).toInt64 &&& 63)) ||| ((v156.toInt64) &&& 4294967295)) (((v158.toInt64) <<< ((32 : Int32).toInt64 &&& 63)) ||| ((v160.toInt64) &&& 4294967295)) o17 w u162 e163) ce_W_corner wd_577 ⟨by decide, by decide⟩ rfl rfl hl.1 rfl (lv_room (Nat.le_of_ble_eq_true rfl)) d_law_763 ⟨(show (16015 - (n + 1) * 31) + 2 ≤ 601024 by omega), (show (905842 - (n + 1) * 1745) + 12 ≤ 7293000 by omega)⟩) hI hA hexc (show (16015 - (n + 1) * 31) + 2 ≤ 601024 by omega) (show (905842 - (n + 1) * 1745) + 12 ≤ 7293000 by omega) (fun v164 w H locs h hI => ?_)
          refine W.widen (k := ((16015 - (n + 1) * 31) + 2)) (n := ((905842 - (n + 1) * 1745) + 12)) (show (16015 - (n + 1) * 31) + 2 ≤ ((16015 - (n + 1) * 31) + 2) by omega) (show (905842 - (n + 1) * 1745) + 12 ≤ ((905842 - (n + 1) * 1745) + 12) by omega) ?_
          refine lv_istore (lv' := [(5, .int v164), (0, .ref a0), (1, .ref o1), (2, .ref o9), (3, .ref o17), (4, .int z22)]) hx hb d_law_766 hl (by decide) rfl (fun ls hl => ?_)
          refine lv_aload_n hx hb d_law_768 rfl (lv_at hl 3 rfl) ?_
          refine lv_aload_n hx hb d_law_769 rfl (lv_at hl 1 rfl) ?_
          refine lv_iload hx hb d_law_770 (lv_at hl 5 rfl) ?_
          refine lv_iconst (v := 1) hx hb d_law_772 (by decide) ?_
          refine lv_iadd hx hb d_law_773 ?_
          obtain ⟨v165, e166, h⟩ := gb h
          refine gw_aldI hx hb hK hI e166 d_law_774 ?_
          refine lv_i2l (v := v165.toInt64) hx hb d_law_775 rfl ?_
          refine lv_bipush (v := 32) hx hb d_law_776 (by decide) ?_
          refine lv_lshl (v := (v165.toInt64) <<< ((32 : Int32).toInt64 &&& 63)) hx hb d_law_778 rfl ?_
          refine lv_aload_n hx hb d_law_779 rfl (lv_at hl 1 rfl) ?_
          refine lv_iload hx hb d_law_780 (lv_at hl 5 rfl) ?_
          refine lv_iconst (v := 2) hx hb d_law_782 (by decide) ?_
          refine lv_iadd hx hb d_law_783 ?_
          obtain ⟨v167, e168, h⟩ := gb h
          refine gw_aldI hx hb hK hI e168 d_law_784 ?_
          refine lv_i2l (v := v167.toInt64) hx hb d_law_785 rfl ?_
          refine lv_ldc2 (v := 4294967295) hx hb hown (hT _ wd_1121 args) d_law_786 ?_
          refine lv_land hx hb d_law_789 ?_
          refine lv_lor hx hb d_law_790 ?_
          refine lv_aload_n hx hb d_law_791 rfl (lv_at hl 1 rfl) ?_
          refine lv_iload hx hb d_law_792 (lv_at hl 5 rfl) ?_
          refine lv_iconst (v := 3) hx hb d_law_794 (by decide) ?_
          refine lv_iadd hx hb d_law_795 ?_
          obtain ⟨v169, e170, h⟩ := gb h
          refine gw_aldI hx hb hK hI e170 d_law_796 ?_
          refine lv_i2l (v := v169.toInt64) hx hb d_law_797 rfl ?_
          refine lv_bipush (v := 32) hx hb d_law_798 (by decide) ?_
          refine lv_lshl (v := (v169.toInt64) <<< ((32 : Int32).toInt64 &&& 63)) hx hb d_law_800 rfl ?_
          refine lv_aload_n hx hb d_law_801 rfl (lv_at hl 1 rfl) ?_
          refine lv_iload hx hb d_law_802 (lv_at hl 5 rfl) ?_
          refine lv_iconst (v := 4) hx hb d_law_804 (by decide) ?_
          refine lv_iadd hx hb d_law_805 ?_
          obtain ⟨v171, e172, h⟩ := gb h
          refine gw_aldI hx hb hK hI e172 d_law_806 ?_
          refine lv_i2l (v := v171.toInt64) hx hb d_law_807 rfl ?_
          refine lv_ldc2 (v := 4294967295) hx hb hown (hT _ wd_1121 args) d_law_808 ?_
          refine lv_land hx hb d_law_811 ?_
          refine lv_lor hx hb d_law_812 ?_
          obtain ⟨q175, e176, h⟩ := gb h
          obtain ⟨u173, e174⟩ := gsome h
          refine gw_callI e174 h (gw_runV (As := [.long (((v165.toInt64) <<< ((32 : Int32).toInt64 &&& 63)) ||| ((v167.toInt64) &&& 4294967295)), .long (((v169.toInt64) <<< ((32 : Int32).toInt64 &&& 63)) ||| ((v171.toInt64) &&& 4294967295))]) (rest := []) hx hb hml hown hT hK hZ hA hI (ci := 7) rfl e176 (m_M_corner l hst D g0 o9 (((v165.toInt64) <<< ((32 : Int32).toInt64 &&& 63)) ||| ((v167.toInt64) &&& 4294967295)) (((v169.toInt64) <<< ((32 : Int32).toInt64 &&& 63)) ||| ((v171.toInt64) &&& 4294967295)) w u173 e174) ce_M_corner wd_910 wd_912 ⟨by decide, by decide⟩ rfl rfl hl.1 rfl (lv_room (Nat.le_of_ble_eq_true rfl)) d_law_813 ⟨(show ((16015 - (n + 1) * 31) + 2) + 0 ≤ 601024 by omega), (show ((905842 - (n + 1) * 1745) + 12) + 0 ≤ 7293000 by omega)⟩) hI hA hexc (show ((16015 - (n + 1) * 31) + 2) + 0 ≤ 601024 by omega) (show ((905842 - (n + 1) * 1745) + 12) + 0 ≤ 7293000 by omega) (fun v177 w H locs h hI => ?_)
          refine lv_istore (lv' := [(6, .int v177), (5, .int v164), (0, .ref a0), (1, .ref o1), (2, .ref o9), (3, .ref o17), (4, .int z22)]) hx hb d_law_816 hl (by decide) rfl (fun ls hl => ?_)
          refine lv_goto (tgt := 2104) hx hb d_law_818 (by decide) ?_
          refine W.widen (k := ((16015 - (n + 1) * 31) + 31)) (n := ((905842 - (n + 1) * 1745) + 1745)) (show ((16015 - (n + 1) * 31) + 2) ≤ ((16015 - (n + 1) * 31) + 31) by omega) (show ((905842 - (n + 1) * 1745) + 12) ≤ ((905842 - (n + 1) * 1745) + 1745) by omega) ?_
          exact hK2104 w H locs ls h hI (lv_sub hl [2, 3, 4, 5, 6] rfl)
        have h := gie c153 h
        rcases Decidable.em ((v26 &&& 31) = 4) with c178 | c178
        · have h := git c178 h
          refine lv_tableIn (off := 769) (tgt := 821) hx hb d_law_52 (by rw [c178]; decide) (by rw [c178]; decide) (by rw [c178]; decide) (by decide) ?_
          refine lv_aload_n hx hb d_law_821 rfl (lv_at hl 1 rfl) ?_
          refine lv_aload_n hx hb d_law_822 rfl (lv_at hl 0 rfl) ?_
          refine lv_iload hx hb d_law_823 (lv_at hl 4 rfl) ?_
          refine lv_iconst (v := 1) hx hb d_law_825 (by decide) ?_
          refine lv_iadd hx hb d_law_826 ?_
          obtain ⟨v179, e180, h⟩ := gb h
          refine gw_aldI hx hb hK hI e180 d_law_827 ?_
          refine lv_aload_n hx hb d_law_828 rfl (lv_at hl 0 rfl) ?_
          refine lv_iload hx hb d_law_829 (lv_at hl 4 rfl) ?_
          refine lv_iconst (v := 2) hx hb d_law_831 (by decide) ?_
          refine lv_iadd hx hb d_law_832 ?_
          obtain ⟨v181, e182, h⟩ := gb h
          refine gw_aldI hx hb hK hI e182 d_law_833 ?_
          refine lv_i2l (v := v181.toInt64) hx hb d_law_834 rfl ?_
          refine lv_bipush (v := 32) hx hb d_law_835 (by decide) ?_
          refine lv_lshl (v := (v181.toInt64) <<< ((32 : Int32).toInt64 &&& 63)) hx hb d_law_837 rfl ?_
          refine lv_aload_n hx hb d_law_838 rfl (lv_at hl 0 rfl) ?_
          refine lv_iload hx hb d_law_839 (lv_at hl 4 rfl) ?_
          refine lv_iconst (v := 3) hx hb d_law_841 (by decide) ?_
          refine lv_iadd hx hb d_law_842 ?_
          obtain ⟨v183, e184, h⟩ := gb h
          refine gw_aldI hx hb hK hI e184 d_law_843 ?_
          refine lv_i2l (v := v183.toInt64) hx hb d_law_844 rfl ?_
          refine lv_ldc2 (v := 4294967295) hx hb hown (hT _ wd_1121 args) d_law_845 ?_
          refine lv_land hx hb d_law_848 ?_
          refine lv_lor hx hb d_law_849 ?_
          refine lv_aload_n hx hb d_law_850 rfl (lv_at hl 0 rfl) ?_
          refine lv_iload hx hb d_law_851 (lv_at hl 4 rfl) ?_
          refine lv_iconst (v := 4) hx hb d_law_853 (by decide) ?_
          refine lv_iadd hx hb d_law_854 ?_
          obtain ⟨v185, e186, h⟩ := gb h
          refine gw_aldI hx hb hK hI e186 d_law_855 ?_
          refine lv_i2l (v := v185.toInt64) hx hb d_law_856 rfl ?_
          refine lv_bipush (v := 32) hx hb d_law_857 (by decide) ?_
          refine lv_lshl (v := (v185.toInt64) <<< ((32 : Int32).toInt64 &&& 63)) hx hb d_law_859 rfl ?_
          refine lv_aload_n hx hb d_law_860 rfl (lv_at hl 0 rfl) ?_
          refine lv_iload hx hb d_law_861 (lv_at hl 4 rfl) ?_
          refine lv_iconst (v := 5) hx hb d_law_863 (by decide) ?_
          refine lv_iadd hx hb d_law_864 ?_
          obtain ⟨v187, e188, h⟩ := gb h
          refine gw_aldI hx hb hK hI e188 d_law_865 ?_
          refine lv_i2l (v := v187.toInt64) hx hb d_law_866 rfl ?_
          refine lv_ldc2 (v := 4294967295) hx hb hown (hT _ wd_1121 args) d_law_867 ?_
          refine lv_land hx hb d_law_870 ?_
          refine lv_lor hx hb d_law_871 ?_
          refine lv_aload_n hx hb d_law_872 rfl (lv_at hl 3 rfl) ?_
          obtain ⟨u189, e190⟩ := gsome h
          refine gw_callI e190 h (gw_runS (As := [.ref o1, .int v179, .long (((v181.toInt64) <<< ((32 : Int32).toInt64 &&& 63)) ||| ((v183.toInt64) &&& 4294967295)), .long (((v185.toInt64) <<< ((32 : Int32).toInt64 &&& 63)) ||| ((v187.toInt64) &&& 4294967295)), .ref o17]) (rest := []) hx hb hml hown hT hK hZ hA hI (m_W_prism l hst D g0 o1 v179 (((v181.toInt64) <<< ((32 : Int32).toInt64 &&& 63)) ||| ((v183.toInt64) &&& 4294967295)) (((v185.toInt64) <<< ((32 : Int32).toInt64 &&& 63)) ||| ((v187.toInt64) &&& 4294967295)) o17 w u189 e190) ce_W_prism wd_584 ⟨by decide, by decide⟩ rfl rfl hl.1 rfl (lv_room (Nat.le_of_ble_eq_true rfl)) d_law_873 ⟨(show (16015 - (n + 1) * 31) + 8 ≤ 601024 by omega), (show (905842 - (n + 1) * 1745) + 116 ≤ 7293000 by omega)⟩) hI hA hexc (show (16015 - (n + 1) * 31) + 8 ≤ 601024 by omega) (show (905842 - (n + 1) * 1745) + 116 ≤ 7293000 by omega) (fun v191 w H locs h hI => ?_)
          refine W.widen (k := ((16015 - (n + 1) * 31) + 8)) (n := ((905842 - (n + 1) * 1745) + 116)) (show (16015 - (n + 1) * 31) + 8 ≤ ((16015 - (n + 1) * 31) + 8) by omega) (show (905842 - (n + 1) * 1745) + 116 ≤ ((905842 - (n + 1) * 1745) + 116) by omega) ?_
          refine lv_istore (lv' := [(5, .int v191), (0, .ref a0), (1, .ref o1), (2, .ref o9), (3, .ref o17), (4, .int z22)]) hx hb d_law_876 hl (by decide) rfl (fun ls hl => ?_)
          refine lv_aload_n hx hb d_law_878 rfl (lv_at hl 3 rfl) ?_
          refine lv_aload_n hx hb d_law_879 rfl (lv_at hl 1 rfl) ?_
          refine lv_iload hx hb d_law_880 (lv_at hl 5 rfl) ?_
          refine lv_iconst (v := 1) hx hb d_law_882 (by decide) ?_
          refine lv_iadd hx hb d_law_883 ?_
          obtain ⟨v192, e193, h⟩ := gb h
          refine gw_aldI hx hb hK hI e193 d_law_884 ?_
          refine lv_aload_n hx hb d_law_885 rfl (lv_at hl 1 rfl) ?_
          refine lv_iload hx hb d_law_886 (lv_at hl 5 rfl) ?_
          refine lv_iconst (v := 2) hx hb d_law_888 (by decide) ?_
          refine lv_iadd hx hb d_law_889 ?_
          obtain ⟨v194, e195, h⟩ := gb h
          refine gw_aldI hx hb hK hI e195 d_law_890 ?_
          refine lv_i2l (v := v194.toInt64) hx hb d_law_891 rfl ?_
          refine lv_bipush (v := 32) hx hb d_law_892 (by decide) ?_
          refine lv_lshl (v := (v194.toInt64) <<< ((32 : Int32).toInt64 &&& 63)) hx hb d_law_894 rfl ?_
          refine lv_aload_n hx hb d_law_895 rfl (lv_at hl 1 rfl) ?_
          refine lv_iload hx hb d_law_896 (lv_at hl 5 rfl) ?_
          refine lv_iconst (v := 3) hx hb d_law_898 (by decide) ?_
          refine lv_iadd hx hb d_law_899 ?_
          obtain ⟨v196, e197, h⟩ := gb h
          refine gw_aldI hx hb hK hI e197 d_law_900 ?_
          refine lv_i2l (v := v196.toInt64) hx hb d_law_901 rfl ?_
          refine lv_ldc2 (v := 4294967295) hx hb hown (hT _ wd_1121 args) d_law_902 ?_
          refine lv_land hx hb d_law_905 ?_
          refine lv_lor hx hb d_law_906 ?_
          refine lv_aload_n hx hb d_law_907 rfl (lv_at hl 1 rfl) ?_
          refine lv_iload hx hb d_law_908 (lv_at hl 5 rfl) ?_
          refine lv_iconst (v := 4) hx hb d_law_910 (by decide) ?_
          refine lv_iadd hx hb d_law_911 ?_
          obtain ⟨v198, e199, h⟩ := gb h
          refine gw_aldI hx hb hK hI e199 d_law_912 ?_
          refine lv_i2l (v := v198.toInt64) hx hb d_law_913 rfl ?_
          refine lv_bipush (v := 32) hx hb d_law_914 (by decide) ?_
          refine lv_lshl (v := (v198.toInt64) <<< ((32 : Int32).toInt64 &&& 63)) hx hb d_law_916 rfl ?_
          refine lv_aload_n hx hb d_law_917 rfl (lv_at hl 1 rfl) ?_
          refine lv_iload hx hb d_law_918 (lv_at hl 5 rfl) ?_
          refine lv_iconst (v := 5) hx hb d_law_920 (by decide) ?_
          refine lv_iadd hx hb d_law_921 ?_
          obtain ⟨v200, e201, h⟩ := gb h
          refine gw_aldI hx hb hK hI e201 d_law_922 ?_
          refine lv_i2l (v := v200.toInt64) hx hb d_law_923 rfl ?_
          refine lv_ldc2 (v := 4294967295) hx hb hown (hT _ wd_1121 args) d_law_924 ?_
          refine lv_land hx hb d_law_927 ?_
          refine lv_lor hx hb d_law_928 ?_
          obtain ⟨q204, e205, h⟩ := gb h
          obtain ⟨u202, e203⟩ := gsome h
          refine gw_callI e203 h (gw_runV (As := [.int v192, .long (((v194.toInt64) <<< ((32 : Int32).toInt64 &&& 63)) ||| ((v196.toInt64) &&& 4294967295)), .long (((v198.toInt64) <<< ((32 : Int32).toInt64 &&& 63)) ||| ((v200.toInt64) &&& 4294967295))]) (rest := []) hx hb hml hown hT hK hZ hA hI (ci := 7) rfl e205 (m_M_prism l hst D g0 o9 v192 (((v194.toInt64) <<< ((32 : Int32).toInt64 &&& 63)) ||| ((v196.toInt64) &&& 4294967295)) (((v198.toInt64) <<< ((32 : Int32).toInt64 &&& 63)) ||| ((v200.toInt64) &&& 4294967295)) w u202 e203) ce_M_prism wd_914 wd_916 ⟨by decide, by decide⟩ rfl rfl hl.1 rfl (lv_room (Nat.le_of_ble_eq_true rfl)) d_law_929 ⟨(show ((16015 - (n + 1) * 31) + 8) + 0 ≤ 601024 by omega), (show ((905842 - (n + 1) * 1745) + 116) + 0 ≤ 7293000 by omega)⟩) hI hA hexc (show ((16015 - (n + 1) * 31) + 8) + 0 ≤ 601024 by omega) (show ((905842 - (n + 1) * 1745) + 116) + 0 ≤ 7293000 by omega) (fun v206 w H locs h hI => ?_)
          refine lv_istore (lv' := [(6, .int v206), (5, .int v191), (0, .ref a0), (1, .ref o1), (2, .ref o9), (3, .ref o17), (4, .int z22)]) hx hb d_law_932 hl (by decide) rfl (fun ls hl => ?_)
          refine lv_goto (tgt := 2104) hx hb d_law_934 (by decide) ?_
          refine W.widen (k := ((16015 - (n + 1) * 31) + 31)) (n := ((905842 - (n + 1) * 1745) + 1745)) (show ((16015 - (n + 1) * 31) + 8) ≤ ((16015 - (n + 1) * 31) + 31) by omega) (show ((905842 - (n + 1) * 1745) + 116) ≤ ((905842 - (n + 1) * 1745) + 1745) by omega) ?_
          exact hK2104 w H locs ls h hI (lv_sub hl [2, 3, 4, 5, 6] rfl)
        have h := gie c178 h
        rcases Decidable.em ((v26 &&& 31) = 5) with c207 | c207
        · have h := git c207 h
          refine lv_tableIn (off := 885) (tgt := 937) hx hb d_law_52 (by rw [c207]; decide) (by rw [c207]; decide) (by rw [c207]; decide) (by decide) ?_
          refine lv_aload_n hx hb d_law_937 rfl (lv_at hl 1 rfl) ?_
          refine lv_aload_n hx hb d_law_938 rfl (lv_at hl 0 rfl) ?_
          refine lv_iload hx hb d_law_939 (lv_at hl 4 rfl) ?_
          refine lv_iconst (v := 1) hx hb d_law_941 (by decide) ?_
          refine lv_iadd hx hb d_law_942 ?_
          obtain ⟨v208, e209, h⟩ := gb h
          refine gw_aldI hx hb hK hI e209 d_law_943 ?_
          refine lv_aload_n hx hb d_law_944 rfl (lv_at hl 0 rfl) ?_
          refine lv_iload hx hb d_law_945 (lv_at hl 4 rfl) ?_
          refine lv_iconst (v := 2) hx hb d_law_947 (by decide) ?_
          refine lv_iadd hx hb d_law_948 ?_
          obtain ⟨v210, e211, h⟩ := gb h
          refine gw_aldI hx hb hK hI e211 d_law_949 ?_
          refine lv_i2l (v := v210.toInt64) hx hb d_law_950 rfl ?_
          refine lv_bipush (v := 32) hx hb d_law_951 (by decide) ?_
          refine lv_lshl (v := (v210.toInt64) <<< ((32 : Int32).toInt64 &&& 63)) hx hb d_law_953 rfl ?_
          refine lv_aload_n hx hb d_law_954 rfl (lv_at hl 0 rfl) ?_
          refine lv_iload hx hb d_law_955 (lv_at hl 4 rfl) ?_
          refine lv_iconst (v := 3) hx hb d_law_957 (by decide) ?_
          refine lv_iadd hx hb d_law_958 ?_
          obtain ⟨v212, e213, h⟩ := gb h
          refine gw_aldI hx hb hK hI e213 d_law_959 ?_
          refine lv_i2l (v := v212.toInt64) hx hb d_law_960 rfl ?_
          refine lv_ldc2 (v := 4294967295) hx hb hown (hT _ wd_1121 args) d_law_961 ?_
          refine lv_land hx hb d_law_964 ?_
          refine lv_lor hx hb d_law_965 ?_
          refine lv_aload_n hx hb d_law_966 rfl (lv_at hl 0 rfl) ?_
          refine lv_iload hx hb d_law_967 (lv_at hl 4 rfl) ?_
          refine lv_iconst (v := 4) hx hb d_law_969 (by decide) ?_
          refine lv_iadd hx hb d_law_970 ?_
          obtain ⟨v214, e215, h⟩ := gb h
          refine gw_aldI hx hb hK hI e215 d_law_971 ?_
          refine lv_i2l (v := v214.toInt64) hx hb d_law_972 rfl ?_
          refine lv_bipush (v := 32) hx hb d_law_973 (by decide) ?_
          refine lv_lshl (v := (v214.toInt64) <<< ((32 : Int32).toInt64 &&& 63)) hx hb d_law_975 rfl ?_
          refine lv_aload_n hx hb d_law_976 rfl (lv_at hl 0 rfl) ?_
          refine lv_iload hx hb d_law_977 (lv_at hl 4 rfl) ?_
          refine lv_iconst (v := 5) hx hb d_law_979 (by decide) ?_
          refine lv_iadd hx hb d_law_980 ?_
          obtain ⟨v216, e217, h⟩ := gb h
          refine gw_aldI hx hb hK hI e217 d_law_981 ?_
          refine lv_i2l (v := v216.toInt64) hx hb d_law_982 rfl ?_
          refine lv_ldc2 (v := 4294967295) hx hb hown (hT _ wd_1121 args) d_law_983 ?_
          refine lv_land hx hb d_law_986 ?_
          refine lv_lor hx hb d_law_987 ?_
          refine lv_aload_n hx hb d_law_988 rfl (lv_at hl 0 rfl) ?_
          refine lv_iload hx hb d_law_989 (lv_at hl 4 rfl) ?_
          refine lv_bipush (v := 6) hx hb d_law_991 (by decide) ?_
          refine lv_iadd hx hb d_law_993 ?_
          obtain ⟨v218, e219, h⟩ := gb h
          refine gw_aldI hx hb hK hI e219 d_law_994 ?_
          refine lv_i2l (v := v218.toInt64) hx hb d_law_995 rfl ?_
          refine lv_bipush (v := 32) hx hb d_law_996 (by decide) ?_
          refine lv_lshl (v := (v218.toInt64) <<< ((32 : Int32).toInt64 &&& 63)) hx hb d_law_998 rfl ?_
          refine lv_aload_n hx hb d_law_999 rfl (lv_at hl 0 rfl) ?_
          refine lv_iload hx hb d_law_1000 (lv_at hl 4 rfl) ?_
          refine lv_bipush (v := 7) hx hb d_law_1002 (by decide) ?_
          refine lv_iadd hx hb d_law_1004 ?_
          obtain ⟨v220, e221, h⟩ := gb h
          refine gw_aldI hx hb hK hI e221 d_law_1005 ?_
          refine lv_i2l (v := v220.toInt64) hx hb d_law_1006 rfl ?_
          refine lv_ldc2 (v := 4294967295) hx hb hown (hT _ wd_1121 args) d_law_1007 ?_
          refine lv_land hx hb d_law_1010 ?_
          refine lv_lor hx hb d_law_1011 ?_
          refine lv_aload_n hx hb d_law_1012 rfl (lv_at hl 0 rfl) ?_
          refine lv_iload hx hb d_law_1013 (lv_at hl 4 rfl) ?_
          refine lv_bipush (v := 8) hx hb d_law_1015 (by decide) ?_
          refine lv_iadd hx hb d_law_1017 ?_
          obtain ⟨v222, e223, h⟩ := gb h
          refine gw_aldI hx hb hK hI e223 d_law_1018 ?_
          refine lv_i2l (v := v222.toInt64) hx hb d_law_1019 rfl ?_
          refine lv_bipush (v := 32) hx hb d_law_1020 (by decide) ?_
          refine lv_lshl (v := (v222.toInt64) <<< ((32 : Int32).toInt64 &&& 63)) hx hb d_law_1022 rfl ?_
          refine lv_aload_n hx hb d_law_1023 rfl (lv_at hl 0 rfl) ?_
          refine lv_iload hx hb d_law_1024 (lv_at hl 4 rfl) ?_
          refine lv_bipush (v := 9) hx hb d_law_1026 (by decide) ?_
          refine lv_iadd hx hb d_law_1028 ?_
          obtain ⟨v224, e225, h⟩ := gb h
          refine gw_aldI hx hb hK hI e225 d_law_1029 ?_
          refine lv_i2l (v := v224.toInt64) hx hb d_law_1030 rfl ?_
          refine lv_ldc2 (v := 4294967295) hx hb hown (hT _ wd_1121 args) d_law_1031 ?_
          refine lv_land hx hb d_law_1034 ?_
          refine lv_lor hx hb d_law_1035 ?_
          refine lv_aload_n hx hb d_law_1036 rfl (lv_at hl 0 rfl) ?_
          refine lv_iload hx hb d_law_1037 (lv_at hl 4 rfl) ?_
          refine lv_bipush (v := 10) hx hb d_law_1039 (by decide) ?_
          refine lv_iadd hx hb d_law_1041 ?_
          obtain ⟨v226, e227, h⟩ := gb h
          refine gw_aldI hx hb hK hI e227 d_law_1042 ?_
          refine lv_aload_n hx hb d_law_1043 rfl (lv_at hl 0 rfl) ?_
          refine lv_iload hx hb d_law_1044 (lv_at hl 4 rfl) ?_
          refine lv_bipush (v := 11) hx hb d_law_1046 (by decide) ?_
          refine lv_iadd hx hb d_law_1048 ?_
          obtain ⟨v228, e229, h⟩ := gb h
          refine gw_aldI hx hb hK hI e229 d_law_1049 ?_
          refine lv_i2l (v := v228.toInt64) hx hb d_law_1050 rfl ?_
          refine lv_bipush (v := 32) hx hb d_law_1051 (by decide) ?_
          refine lv_lshl (v := (v228.toInt64) <<< ((32 : Int32).toInt64 &&& 63)) hx hb d_law_1053 rfl ?_
          refine lv_aload_n hx hb d_law_1054 rfl (lv_at hl 0 rfl) ?_
          refine lv_iload hx hb d_law_1055 (lv_at hl 4 rfl) ?_
          refine lv_bipush (v := 12) hx hb d_law_1057 (by decide) ?_
          refine lv_iadd hx hb d_law_1059 ?_
          obtain ⟨v230, e231, h⟩ := gb h
          refine gw_aldI hx hb hK hI e231 d_law_1060 ?_
          refine lv_i2l (v := v230.toInt64) hx hb d_law_1061 rfl ?_
          refine lv_ldc2 (v := 4294967295) hx hb hown (hT _ wd_1121 args) d_law_1062 ?_
          refine lv_land hx hb d_law_1065 ?_
          refine lv_lor hx hb d_law_1066 ?_
          refine lv_aload_n hx hb d_law_1067 rfl (lv_at hl 3 rfl) ?_
          obtain ⟨u232, e233⟩ := gsome h
          refine gw_callI e233 h (gw_runS (As := [.ref o1, .int v208, .long (((v210.toInt64) <<< ((32 : Int32).toInt64 &&& 63)) ||| ((v212.toInt64) &&& 4294967295)), .long (((v214.toInt64) <<< ((32 : Int32).toInt64 &&& 63)) ||| ((v216.toInt64) &&& 4294967295)), .long (((v218.toInt64) <<< ((32 : Int32).toInt64 &&& 63)) ||| ((v220.toInt64) &&& 4294967295)), .long (((v222.toInt64) <<< ((32 : Int32).toInt64 &&& 63)) ||| ((v224.toInt64) &&& 4294967295)), .int v226, .long (((v228.toInt64) <<< ((32 : Int32).toInt64 &&& 63)) ||| ((v230.toInt64) &&& 4294967295)), .ref o17]) (rest := []) hx hb hml hown hT hK hZ hA hI (m_W_tube l hst D g0 o1 v208 (((v210.toInt64) <<< ((32 : Int32).toInt64 &&& 63)) ||| ((v212.toInt64) &&& 4294967295)) (((v214.toInt64) <<< ((32 : Int32).toInt64 &&& 63)) ||| ((v216.toInt64) &&& 4294967295)) (((v218.toInt64) <<< ((32 : Int32).toInt64 &&& 63)) ||| ((v220.toInt64) &&& 4294967295)) (((v222.toInt64) <<< ((32 : Int32).toInt64 &&& 63)) ||| ((v224.toInt64) &&& 4294967295)) v226 (((v228.toInt64) <<< ((32 : Int32).toInt64 &&& 63)) ||| ((v230.toInt64) &&& 4294967295)) o17 w u232 e233) ce_W_tube wd_608 ⟨by decide, by decide⟩ rfl rfl hl.1 rfl (lv_room (Nat.le_of_ble_eq_true rfl)) d_law_1068 ⟨(show (16015 - (n + 1) * 31) + 14 ≤ 601024 by omega), (show (905842 - (n + 1) * 1745) + 152 ≤ 7293000 by omega)⟩) hI hA hexc (show (16015 - (n + 1) * 31) + 14 ≤ 601024 by omega) (show (905842 - (n + 1) * 1745) + 152 ≤ 7293000 by omega) (fun v234 w H locs h hI => ?_)
          refine W.widen (k := ((16015 - (n + 1) * 31) + 14)) (n := ((905842 - (n + 1) * 1745) + 152)) (show (16015 - (n + 1) * 31) + 14 ≤ ((16015 - (n + 1) * 31) + 14) by omega) (show (905842 - (n + 1) * 1745) + 152 ≤ ((905842 - (n + 1) * 1745) + 152) by omega) ?_
          refine lv_istore (lv' := [(5, .int v234), (0, .ref a0), (1, .ref o1), (2, .ref o9), (3, .ref o17), (4, .int z22)]) hx hb d_law_1071 hl (by decide) rfl (fun ls hl => ?_)
          refine lv_aload_n hx hb d_law_1073 rfl (lv_at hl 3 rfl) ?_
          refine lv_aload_n hx hb d_law_1074 rfl (lv_at hl 1 rfl) ?_
          refine lv_iload hx hb d_law_1075 (lv_at hl 5 rfl) ?_
          refine lv_iconst (v := 1) hx hb d_law_1077 (by decide) ?_
          refine lv_iadd hx hb d_law_1078 ?_
          obtain ⟨v235, e236, h⟩ := gb h
          refine gw_aldI hx hb hK hI e236 d_law_1079 ?_
          refine lv_aload_n hx hb d_law_1080 rfl (lv_at hl 1 rfl) ?_
          refine lv_iload hx hb d_law_1081 (lv_at hl 5 rfl) ?_
          refine lv_iconst (v := 2) hx hb d_law_1083 (by decide) ?_
          refine lv_iadd hx hb d_law_1084 ?_
          obtain ⟨v237, e238, h⟩ := gb h
          refine gw_aldI hx hb hK hI e238 d_law_1085 ?_
          refine lv_i2l (v := v237.toInt64) hx hb d_law_1086 rfl ?_
          refine lv_bipush (v := 32) hx hb d_law_1087 (by decide) ?_
          refine lv_lshl (v := (v237.toInt64) <<< ((32 : Int32).toInt64 &&& 63)) hx hb d_law_1089 rfl ?_
          refine lv_aload_n hx hb d_law_1090 rfl (lv_at hl 1 rfl) ?_
          refine lv_iload hx hb d_law_1091 (lv_at hl 5 rfl) ?_
          refine lv_iconst (v := 3) hx hb d_law_1093 (by decide) ?_
          refine lv_iadd hx hb d_law_1094 ?_
          obtain ⟨v239, e240, h⟩ := gb h
          refine gw_aldI hx hb hK hI e240 d_law_1095 ?_
          refine lv_i2l (v := v239.toInt64) hx hb d_law_1096 rfl ?_
          refine lv_ldc2 (v := 4294967295) hx hb hown (hT _ wd_1121 args) d_law_1097 ?_
          refine lv_land hx hb d_law_1100 ?_
          refine lv_lor hx hb d_law_1101 ?_
          refine lv_aload_n hx hb d_law_1102 rfl (lv_at hl 1 rfl) ?_
          refine lv_iload hx hb d_law_1103 (lv_at hl 5 rfl) ?_
          refine lv_iconst (v := 4) hx hb d_law_1105 (by decide) ?_
          refine lv_iadd hx hb d_law_1106 ?_
          obtain ⟨v241, e242, h⟩ := gb h
          refine gw_aldI hx hb hK hI e242 d_law_1107 ?_
          refine lv_i2l (v := v241.toInt64) hx hb d_law_1108 rfl ?_
          refine lv_bipush (v := 32) hx hb d_law_1109 (by decide) ?_
          refine lv_lshl (v := (v241.toInt64) <<< ((32 : Int32).toInt64 &&& 63)) hx hb d_law_1111 rfl ?_
          refine lv_aload_n hx hb d_law_1112 rfl (lv_at hl 1 rfl) ?_
          refine lv_iload hx hb d_law_1113 (lv_at hl 5 rfl) ?_
          refine lv_iconst (v := 5) hx hb d_law_1115 (by decide) ?_
          refine lv_iadd hx hb d_law_1116 ?_
          obtain ⟨v243, e244, h⟩ := gb h
          refine gw_aldI hx hb hK hI e244 d_law_1117 ?_
          refine lv_i2l (v := v243.toInt64) hx hb d_law_1118 rfl ?_
          refine lv_ldc2 (v := 4294967295) hx hb hown (hT _ wd_1121 args) d_law_1119 ?_
          refine lv_land hx hb d_law_1122 ?_
          refine lv_lor hx hb d_law_1123 ?_
          refine lv_aload_n hx hb d_law_1124 rfl (lv_at hl 1 rfl) ?_
          refine lv_iload hx hb d_law_1125 (lv_at hl 5 rfl) ?_
          refine lv_bipush (v := 6) hx hb d_law_1127 (by decide) ?_
          refine lv_iadd hx hb d_law_1129 ?_
          obtain ⟨v245, e246, h⟩ := gb h
          refine gw_aldI hx hb hK hI e246 d_law_1130 ?_
          refine lv_i2l (v := v245.toInt64) hx hb d_law_1131 rfl ?_
          refine lv_bipush (v := 32) hx hb d_law_1132 (by decide) ?_
          refine lv_lshl (v := (v245.toInt64) <<< ((32 : Int32).toInt64 &&& 63)) hx hb d_law_1134 rfl ?_
          refine lv_aload_n hx hb d_law_1135 rfl (lv_at hl 1 rfl) ?_
          refine lv_iload hx hb d_law_1136 (lv_at hl 5 rfl) ?_
          refine lv_bipush (v := 7) hx hb d_law_1138 (by decide) ?_
          refine lv_iadd hx hb d_law_1140 ?_
          obtain ⟨v247, e248, h⟩ := gb h
          refine gw_aldI hx hb hK hI e248 d_law_1141 ?_
          refine lv_i2l (v := v247.toInt64) hx hb d_law_1142 rfl ?_
          refine lv_ldc2 (v := 4294967295) hx hb hown (hT _ wd_1121 args) d_law_1143 ?_
          refine lv_land hx hb d_law_1146 ?_
          refine lv_lor hx hb d_law_1147 ?_
          refine lv_aload_n hx hb d_law_1148 rfl (lv_at hl 1 rfl) ?_
          refine lv_iload hx hb d_law_1149 (lv_at hl 5 rfl) ?_
          refine lv_bipush (v := 8) hx hb d_law_1151 (by decide) ?_
          refine lv_iadd hx hb d_law_1153 ?_
          obtain ⟨v249, e250, h⟩ := gb h
          refine gw_aldI hx hb hK hI e250 d_law_1154 ?_
          refine lv_i2l (v := v249.toInt64) hx hb d_law_1155 rfl ?_
          refine lv_bipush (v := 32) hx hb d_law_1156 (by decide) ?_
          refine lv_lshl (v := (v249.toInt64) <<< ((32 : Int32).toInt64 &&& 63)) hx hb d_law_1158 rfl ?_
          refine lv_aload_n hx hb d_law_1159 rfl (lv_at hl 1 rfl) ?_
          refine lv_iload hx hb d_law_1160 (lv_at hl 5 rfl) ?_
          refine lv_bipush (v := 9) hx hb d_law_1162 (by decide) ?_
          refine lv_iadd hx hb d_law_1164 ?_
          obtain ⟨v251, e252, h⟩ := gb h
          refine gw_aldI hx hb hK hI e252 d_law_1165 ?_
          refine lv_i2l (v := v251.toInt64) hx hb d_law_1166 rfl ?_
          refine lv_ldc2 (v := 4294967295) hx hb hown (hT _ wd_1121 args) d_law_1167 ?_
          refine lv_land hx hb d_law_1170 ?_
          refine lv_lor hx hb d_law_1171 ?_
          refine lv_aload_n hx hb d_law_1172 rfl (lv_at hl 1 rfl) ?_
          refine lv_iload hx hb d_law_1173 (lv_at hl 5 rfl) ?_
          refine lv_bipush (v := 10) hx hb d_law_1175 (by decide) ?_
          refine lv_iadd hx hb d_law_1177 ?_
          obtain ⟨v253, e254, h⟩ := gb h
          refine gw_aldI hx hb hK hI e254 d_law_1178 ?_
          refine lv_aload_n hx hb d_law_1179 rfl (lv_at hl 1 rfl) ?_
          refine lv_iload hx hb d_law_1180 (lv_at hl 5 rfl) ?_
          refine lv_bipush (v := 11) hx hb d_law_1182 (by decide) ?_
          refine lv_iadd hx hb d_law_1184 ?_
          obtain ⟨v255, e256, h⟩ := gb h
          refine gw_aldI hx hb hK hI e256 d_law_1185 ?_
          refine lv_i2l (v := v255.toInt64) hx hb d_law_1186 rfl ?_
          refine lv_bipush (v := 32) hx hb d_law_1187 (by decide) ?_
          refine lv_lshl (v := (v255.toInt64) <<< ((32 : Int32).toInt64 &&& 63)) hx hb d_law_1189 rfl ?_
          refine lv_aload_n hx hb d_law_1190 rfl (lv_at hl 1 rfl) ?_
          refine lv_iload hx hb d_law_1191 (lv_at hl 5 rfl) ?_
          refine lv_bipush (v := 12) hx hb d_law_1193 (by decide) ?_
          refine lv_iadd hx hb d_law_1195 ?_
          obtain ⟨v257, e258, h⟩ := gb h
          refine gw_aldI hx hb hK hI e258 d_law_1196 ?_
          refine lv_i2l (v := v257.toInt64) hx hb d_law_1197 rfl ?_
          refine lv_ldc2 (v := 4294967295) hx hb hown (hT _ wd_1121 args) d_law_1198 ?_
          refine lv_land hx hb d_law_1201 ?_
          refine lv_lor hx hb d_law_1202 ?_
          obtain ⟨q261, e262, h⟩ := gb h
          obtain ⟨u259, e260⟩ := gsome h
          refine gw_callI e260 h (gw_runV (As := [.int v235, .long (((v237.toInt64) <<< ((32 : Int32).toInt64 &&& 63)) ||| ((v239.toInt64) &&& 4294967295)), .long (((v241.toInt64) <<< ((32 : Int32).toInt64 &&& 63)) ||| ((v243.toInt64) &&& 4294967295)), .long (((v245.toInt64) <<< ((32 : Int32).toInt64 &&& 63)) ||| ((v247.toInt64) &&& 4294967295)), .long (((v249.toInt64) <<< ((32 : Int32).toInt64 &&& 63)) ||| ((v251.toInt64) &&& 4294967295)), .int v253, .long (((v255.toInt64) <<< ((32 : Int32).toInt64 &&& 63)) ||| ((v257.toInt64) &&& 4294967295))]) (rest := []) hx hb hml hown hT hK hZ hA hI (ci := 7) rfl e262 (m_M_tube l hst D g0 o9 v235 (((v237.toInt64) <<< ((32 : Int32).toInt64 &&& 63)) ||| ((v239.toInt64) &&& 4294967295)) (((v241.toInt64) <<< ((32 : Int32).toInt64 &&& 63)) ||| ((v243.toInt64) &&& 4294967295)) (((v245.toInt64) <<< ((32 : Int32).toInt64 &&& 63)) ||| ((v247.toInt64) &&& 4294967295)) (((v249.toInt64) <<< ((32 : Int32).toInt64 &&& 63)) ||| ((v251.toInt64) &&& 4294967295)) v253 (((v255.toInt64) <<< ((32 : Int32).toInt64 &&& 63)) ||| ((v257.toInt64) &&& 4294967295)) w u259 e260) ce_M_tube wd_925 wd_927 ⟨by decide, by decide⟩ rfl rfl hl.1 rfl (lv_room (Nat.le_of_ble_eq_true rfl)) d_law_1203 ⟨(show ((16015 - (n + 1) * 31) + 14) + 0 ≤ 601024 by omega), (show ((905842 - (n + 1) * 1745) + 152) + 0 ≤ 7293000 by omega)⟩) hI hA hexc (show ((16015 - (n + 1) * 31) + 14) + 0 ≤ 601024 by omega) (show ((905842 - (n + 1) * 1745) + 152) + 0 ≤ 7293000 by omega) (fun v263 w H locs h hI => ?_)
          refine lv_istore (lv' := [(6, .int v263), (5, .int v234), (0, .ref a0), (1, .ref o1), (2, .ref o9), (3, .ref o17), (4, .int z22)]) hx hb d_law_1206 hl (by decide) rfl (fun ls hl => ?_)
          refine lv_goto (tgt := 2104) hx hb d_law_1208 (by decide) ?_
          refine W.widen (k := ((16015 - (n + 1) * 31) + 31)) (n := ((905842 - (n + 1) * 1745) + 1745)) (show ((16015 - (n + 1) * 31) + 14) ≤ ((16015 - (n + 1) * 31) + 31) by omega) (show ((905842 - (n + 1) * 1745) + 152) ≤ ((905842 - (n + 1) * 1745) + 1745) by omega) ?_
          exact hK2104 w H locs ls h hI (lv_sub hl [2, 3, 4, 5, 6] rfl)
        have h := gie c207 h
        rcases Decidable.em ((v26 &&& 31) = 6) with c264 | c264
        · have h := git c264 h
          refine lv_tableIn (off := 1159) (tgt := 1211) hx hb d_law_52 (by rw [c264]; decide) (by rw [c264]; decide) (by rw [c264]; decide) (by decide) ?_
          refine lv_aload_n hx hb d_law_1211 rfl (lv_at hl 1 rfl) ?_
          refine lv_aload_n hx hb d_law_1212 rfl (lv_at hl 0 rfl) ?_
          refine lv_iload hx hb d_law_1213 (lv_at hl 4 rfl) ?_
          refine lv_iconst (v := 1) hx hb d_law_1215 (by decide) ?_
          refine lv_iadd hx hb d_law_1216 ?_
          obtain ⟨v265, e266, h⟩ := gb h
          refine gw_aldI hx hb hK hI e266 d_law_1217 ?_
          refine lv_aload_n hx hb d_law_1218 rfl (lv_at hl 0 rfl) ?_
          refine lv_iload hx hb d_law_1219 (lv_at hl 4 rfl) ?_
          refine lv_iconst (v := 2) hx hb d_law_1221 (by decide) ?_
          refine lv_iadd hx hb d_law_1222 ?_
          obtain ⟨v267, e268, h⟩ := gb h
          refine gw_aldI hx hb hK hI e268 d_law_1223 ?_
          refine lv_aload_n hx hb d_law_1224 rfl (lv_at hl 3 rfl) ?_
          obtain ⟨u269, e270⟩ := gsome h
          refine gw_callI e270 h (gw_runS (As := [.ref o1, .int v265, .int v267, .ref o17]) (rest := []) hx hb hml hown hT hK hZ hA hI (m_W_join l hst D g0 o1 v265 v267 o17 w u269 e270) ce_W_join wd_622 ⟨by decide, by decide⟩ rfl rfl hl.1 rfl (lv_room (Nat.le_of_ble_eq_true rfl)) d_law_1225 ⟨(show (16015 - (n + 1) * 31) + 31 ≤ 601024 by omega), (show (905842 - (n + 1) * 1745) + 1745 ≤ 7293000 by omega)⟩) hI hA hexc (show (16015 - (n + 1) * 31) + 31 ≤ 601024 by omega) (show (905842 - (n + 1) * 1745) + 1745 ≤ 7293000 by omega) (fun v271 w H locs h hI => ?_)
          refine W.widen (k := ((16015 - (n + 1) * 31) + 31)) (n := ((905842 - (n + 1) * 1745) + 1745)) (show (16015 - (n + 1) * 31) + 31 ≤ ((16015 - (n + 1) * 31) + 31) by omega) (show (905842 - (n + 1) * 1745) + 1745 ≤ ((905842 - (n + 1) * 1745) + 1745) by omega) ?_
          refine lv_istore (lv' := [(5, .int v271), (0, .ref a0), (1, .ref o1), (2, .ref o9), (3, .ref o17), (4, .int z22)]) hx hb d_law_1228 hl (by decide) rfl (fun ls hl => ?_)
          refine lv_aload_n hx hb d_law_1230 rfl (lv_at hl 3 rfl) ?_
          refine lv_aload_n hx hb d_law_1231 rfl (lv_at hl 1 rfl) ?_
          refine lv_iload hx hb d_law_1232 (lv_at hl 5 rfl) ?_
          refine lv_iconst (v := 1) hx hb d_law_1234 (by decide) ?_
          refine lv_iadd hx hb d_law_1235 ?_
          obtain ⟨v272, e273, h⟩ := gb h
          refine gw_aldI hx hb hK hI e273 d_law_1236 ?_
          refine lv_aload_n hx hb d_law_1237 rfl (lv_at hl 1 rfl) ?_
          refine lv_iload hx hb d_law_1238 (lv_at hl 5 rfl) ?_
          refine lv_iconst (v := 2) hx hb d_law_1240 (by decide) ?_
          refine lv_iadd hx hb d_law_1241 ?_
          obtain ⟨v274, e275, h⟩ := gb h
          refine gw_aldI hx hb hK hI e275 d_law_1242 ?_
          obtain ⟨q278, e279, h⟩ := gb h
          obtain ⟨u276, e277⟩ := gsome h
          refine gw_callI e277 h (gw_runV (As := [.int v272, .int v274]) (rest := []) hx hb hml hown hT hK hZ hA hI (ci := 7) rfl e279 (m_M_join l hst D g0 o9 v272 v274 w u276 e277) ce_M_join wd_932 wd_934 ⟨by decide, by decide⟩ rfl rfl hl.1 rfl (lv_room (Nat.le_of_ble_eq_true rfl)) d_law_1243 ⟨(show ((16015 - (n + 1) * 31) + 31) + 0 ≤ 601024 by omega), (show ((905842 - (n + 1) * 1745) + 1745) + 0 ≤ 7293000 by omega)⟩) hI hA hexc (show ((16015 - (n + 1) * 31) + 31) + 0 ≤ 601024 by omega) (show ((905842 - (n + 1) * 1745) + 1745) + 0 ≤ 7293000 by omega) (fun v280 w H locs h hI => ?_)
          refine lv_istore (lv' := [(6, .int v280), (5, .int v271), (0, .ref a0), (1, .ref o1), (2, .ref o9), (3, .ref o17), (4, .int z22)]) hx hb d_law_1246 hl (by decide) rfl (fun ls hl => ?_)
          refine lv_goto (tgt := 2104) hx hb d_law_1248 (by decide) ?_
          exact hK2104 w H locs ls h hI (lv_sub hl [2, 3, 4, 5, 6] rfl)
        have h := gie c264 h
        rcases Decidable.em ((v26 &&& 31) = 7) with c281 | c281
        · have h := git c281 h
          refine lv_tableIn (off := 1199) (tgt := 1251) hx hb d_law_52 (by rw [c281]; decide) (by rw [c281]; decide) (by rw [c281]; decide) (by decide) ?_
          refine lv_aload_n hx hb d_law_1251 rfl (lv_at hl 1 rfl) ?_
          refine lv_aload_n hx hb d_law_1252 rfl (lv_at hl 0 rfl) ?_
          refine lv_iload hx hb d_law_1253 (lv_at hl 4 rfl) ?_
          refine lv_iconst (v := 1) hx hb d_law_1255 (by decide) ?_
          refine lv_iadd hx hb d_law_1256 ?_
          obtain ⟨v282, e283, h⟩ := gb h
          refine gw_aldI hx hb hK hI e283 d_law_1257 ?_
          refine lv_aload_n hx hb d_law_1258 rfl (lv_at hl 0 rfl) ?_
          refine lv_iload hx hb d_law_1259 (lv_at hl 4 rfl) ?_
          refine lv_iconst (v := 2) hx hb d_law_1261 (by decide) ?_
          refine lv_iadd hx hb d_law_1262 ?_
          obtain ⟨v284, e285, h⟩ := gb h
          refine gw_aldI hx hb hK hI e285 d_law_1263 ?_
          refine lv_i2l (v := v284.toInt64) hx hb d_law_1264 rfl ?_
          refine lv_bipush (v := 32) hx hb d_law_1265 (by decide) ?_
          refine lv_lshl (v := (v284.toInt64) <<< ((32 : Int32).toInt64 &&& 63)) hx hb d_law_1267 rfl ?_
          refine lv_aload_n hx hb d_law_1268 rfl (lv_at hl 0 rfl) ?_
          refine lv_iload hx hb d_law_1269 (lv_at hl 4 rfl) ?_
          refine lv_iconst (v := 3) hx hb d_law_1271 (by decide) ?_
          refine lv_iadd hx hb d_law_1272 ?_
          obtain ⟨v286, e287, h⟩ := gb h
          refine gw_aldI hx hb hK hI e287 d_law_1273 ?_
          refine lv_i2l (v := v286.toInt64) hx hb d_law_1274 rfl ?_
          refine lv_ldc2 (v := 4294967295) hx hb hown (hT _ wd_1121 args) d_law_1275 ?_
          refine lv_land hx hb d_law_1278 ?_
          refine lv_lor hx hb d_law_1279 ?_
          refine lv_aload_n hx hb d_law_1280 rfl (lv_at hl 0 rfl) ?_
          refine lv_iload hx hb d_law_1281 (lv_at hl 4 rfl) ?_
          refine lv_iconst (v := 4) hx hb d_law_1283 (by decide) ?_
          refine lv_iadd hx hb d_law_1284 ?_
          obtain ⟨v288, e289, h⟩ := gb h
          refine gw_aldI hx hb hK hI e289 d_law_1285 ?_
          refine lv_i2l (v := v288.toInt64) hx hb d_law_1286 rfl ?_
          refine lv_bipush (v := 32) hx hb d_law_1287 (by decide) ?_
          refine lv_lshl (v := (v288.toInt64) <<< ((32 : Int32).toInt64 &&& 63)) hx hb d_law_1289 rfl ?_
          refine lv_aload_n hx hb d_law_1290 rfl (lv_at hl 0 rfl) ?_
          refine lv_iload hx hb d_law_1291 (lv_at hl 4 rfl) ?_
          refine lv_iconst (v := 5) hx hb d_law_1293 (by decide) ?_
          refine lv_iadd hx hb d_law_1294 ?_
          obtain ⟨v290, e291, h⟩ := gb h
          refine gw_aldI hx hb hK hI e291 d_law_1295 ?_
          refine lv_i2l (v := v290.toInt64) hx hb d_law_1296 rfl ?_
          refine lv_ldc2 (v := 4294967295) hx hb hown (hT _ wd_1121 args) d_law_1297 ?_
          refine lv_land hx hb d_law_1300 ?_
          refine lv_lor hx hb d_law_1301 ?_
          refine lv_aload_n hx hb d_law_1302 rfl (lv_at hl 0 rfl) ?_
          refine lv_iload hx hb d_law_1303 (lv_at hl 4 rfl) ?_
          refine lv_bipush (v := 6) hx hb d_law_1305 (by decide) ?_
          refine lv_iadd hx hb d_law_1307 ?_
          obtain ⟨v292, e293, h⟩ := gb h
          refine gw_aldI hx hb hK hI e293 d_law_1308 ?_
          refine lv_aload_n hx hb d_law_1309 rfl (lv_at hl 0 rfl) ?_
          refine lv_iload hx hb d_law_1310 (lv_at hl 4 rfl) ?_
          refine lv_bipush (v := 7) hx hb d_law_1312 (by decide) ?_
          refine lv_iadd hx hb d_law_1314 ?_
          obtain ⟨v294, e295, h⟩ := gb h
          refine gw_aldI hx hb hK hI e295 d_law_1315 ?_
          refine lv_aload_n hx hb d_law_1316 rfl (lv_at hl 3 rfl) ?_
          obtain ⟨u296, e297⟩ := gsome h
          refine gw_callI e297 h (gw_runS (As := [.ref o1, .int v282, .long (((v284.toInt64) <<< ((32 : Int32).toInt64 &&& 63)) ||| ((v286.toInt64) &&& 4294967295)), .long (((v288.toInt64) <<< ((32 : Int32).toInt64 &&& 63)) ||| ((v290.toInt64) &&& 4294967295)), .int v292, .int v294, .ref o17]) (rest := []) hx hb hml hown hT hK hZ hA hI (m_W_place l hst D g0 o1 v282 (((v284.toInt64) <<< ((32 : Int32).toInt64 &&& 63)) ||| ((v286.toInt64) &&& 4294967295)) (((v288.toInt64) <<< ((32 : Int32).toInt64 &&& 63)) ||| ((v290.toInt64) &&& 4294967295)) v292 v294 o17 w u296 e297) ce_W_place wd_635 ⟨by decide, by decide⟩ rfl rfl hl.1 rfl (lv_room (Nat.le_of_ble_eq_true rfl)) d_law_1317 ⟨(show (16015 - (n + 1) * 31) + 7 ≤ 601024 by omega), (show (905842 - (n + 1) * 1745) + 99 ≤ 7293000 by omega)⟩) hI hA hexc (show (16015 - (n + 1) * 31) + 7 ≤ 601024 by omega) (show (905842 - (n + 1) * 1745) + 99 ≤ 7293000 by omega) (fun v298 w H locs h hI => ?_)
          refine W.widen (k := ((16015 - (n + 1) * 31) + 7)) (n := ((905842 - (n + 1) * 1745) + 99)) (show (16015 - (n + 1) * 31) + 7 ≤ ((16015 - (n + 1) * 31) + 7) by omega) (show (905842 - (n + 1) * 1745) + 99 ≤ ((905842 - (n + 1) * 1745) + 99) by omega) ?_
          refine lv_istore (lv' := [(5, .int v298), (0, .ref a0), (1, .ref o1), (2, .ref o9), (3, .ref o17), (4, .int z22)]) hx hb d_law_1320 hl (by decide) rfl (fun ls hl => ?_)
          refine lv_aload_n hx hb d_law_1322 rfl (lv_at hl 3 rfl) ?_
          refine lv_aload_n hx hb d_law_1323 rfl (lv_at hl 1 rfl) ?_
          refine lv_iload hx hb d_law_1324 (lv_at hl 5 rfl) ?_
          refine lv_iconst (v := 1) hx hb d_law_1326 (by decide) ?_
          refine lv_iadd hx hb d_law_1327 ?_
          obtain ⟨v299, e300, h⟩ := gb h
          refine gw_aldI hx hb hK hI e300 d_law_1328 ?_
          refine lv_aload_n hx hb d_law_1329 rfl (lv_at hl 1 rfl) ?_
          refine lv_iload hx hb d_law_1330 (lv_at hl 5 rfl) ?_
          refine lv_iconst (v := 2) hx hb d_law_1332 (by decide) ?_
          refine lv_iadd hx hb d_law_1333 ?_
          obtain ⟨v301, e302, h⟩ := gb h
          refine gw_aldI hx hb hK hI e302 d_law_1334 ?_
          refine lv_i2l (v := v301.toInt64) hx hb d_law_1335 rfl ?_
          refine lv_bipush (v := 32) hx hb d_law_1336 (by decide) ?_
          refine lv_lshl (v := (v301.toInt64) <<< ((32 : Int32).toInt64 &&& 63)) hx hb d_law_1338 rfl ?_
          refine lv_aload_n hx hb d_law_1339 rfl (lv_at hl 1 rfl) ?_
          refine lv_iload hx hb d_law_1340 (lv_at hl 5 rfl) ?_
          refine lv_iconst (v := 3) hx hb d_law_1342 (by decide) ?_
          refine lv_iadd hx hb d_law_1343 ?_
          obtain ⟨v303, e304, h⟩ := gb h
          refine gw_aldI hx hb hK hI e304 d_law_1344 ?_
          refine lv_i2l (v := v303.toInt64) hx hb d_law_1345 rfl ?_
          refine lv_ldc2 (v := 4294967295) hx hb hown (hT _ wd_1121 args) d_law_1346 ?_
          refine lv_land hx hb d_law_1349 ?_
          refine lv_lor hx hb d_law_1350 ?_
          refine lv_aload_n hx hb d_law_1351 rfl (lv_at hl 1 rfl) ?_
          refine lv_iload hx hb d_law_1352 (lv_at hl 5 rfl) ?_
          refine lv_iconst (v := 4) hx hb d_law_1354 (by decide) ?_
          refine lv_iadd hx hb d_law_1355 ?_
          obtain ⟨v305, e306, h⟩ := gb h
          refine gw_aldI hx hb hK hI e306 d_law_1356 ?_
          refine lv_i2l (v := v305.toInt64) hx hb d_law_1357 rfl ?_
          refine lv_bipush (v := 32) hx hb d_law_1358 (by decide) ?_
          refine lv_lshl (v := (v305.toInt64) <<< ((32 : Int32).toInt64 &&& 63)) hx hb d_law_1360 rfl ?_
          refine lv_aload_n hx hb d_law_1361 rfl (lv_at hl 1 rfl) ?_
          refine lv_iload hx hb d_law_1362 (lv_at hl 5 rfl) ?_
          refine lv_iconst (v := 5) hx hb d_law_1364 (by decide) ?_
          refine lv_iadd hx hb d_law_1365 ?_
          obtain ⟨v307, e308, h⟩ := gb h
          refine gw_aldI hx hb hK hI e308 d_law_1366 ?_
          refine lv_i2l (v := v307.toInt64) hx hb d_law_1367 rfl ?_
          refine lv_ldc2 (v := 4294967295) hx hb hown (hT _ wd_1121 args) d_law_1368 ?_
          refine lv_land hx hb d_law_1371 ?_
          refine lv_lor hx hb d_law_1372 ?_
          refine lv_aload_n hx hb d_law_1373 rfl (lv_at hl 1 rfl) ?_
          refine lv_iload hx hb d_law_1374 (lv_at hl 5 rfl) ?_
          refine lv_bipush (v := 6) hx hb d_law_1376 (by decide) ?_
          refine lv_iadd hx hb d_law_1378 ?_
          obtain ⟨v309, e310, h⟩ := gb h
          refine gw_aldI hx hb hK hI e310 d_law_1379 ?_
          refine lv_aload_n hx hb d_law_1380 rfl (lv_at hl 1 rfl) ?_
          refine lv_iload hx hb d_law_1381 (lv_at hl 5 rfl) ?_
          refine lv_bipush (v := 7) hx hb d_law_1383 (by decide) ?_
          refine lv_iadd hx hb d_law_1385 ?_
          obtain ⟨v311, e312, h⟩ := gb h
          refine gw_aldI hx hb hK hI e312 d_law_1386 ?_
          obtain ⟨q315, e316, h⟩ := gb h
          obtain ⟨u313, e314⟩ := gsome h
          refine gw_callI e314 h (gw_runV (As := [.int v299, .long (((v301.toInt64) <<< ((32 : Int32).toInt64 &&& 63)) ||| ((v303.toInt64) &&& 4294967295)), .long (((v305.toInt64) <<< ((32 : Int32).toInt64 &&& 63)) ||| ((v307.toInt64) &&& 4294967295)), .int v309, .int v311]) (rest := []) hx hb hml hown hT hK hZ hA hI (ci := 7) rfl e316 (m_M_place l hst D g0 o9 v299 (((v301.toInt64) <<< ((32 : Int32).toInt64 &&& 63)) ||| ((v303.toInt64) &&& 4294967295)) (((v305.toInt64) <<< ((32 : Int32).toInt64 &&& 63)) ||| ((v307.toInt64) &&& 4294967295)) v309 v311 w u313 e314) ce_M_place wd_940 wd_942 ⟨by decide, by decide⟩ rfl rfl hl.1 rfl (lv_room (Nat.le_of_ble_eq_true rfl)) d_law_1387 ⟨(show ((16015 - (n + 1) * 31) + 7) + 0 ≤ 601024 by omega), (show ((905842 - (n + 1) * 1745) + 99) + 0 ≤ 7293000 by omega)⟩) hI hA hexc (show ((16015 - (n + 1) * 31) + 7) + 0 ≤ 601024 by omega) (show ((905842 - (n + 1) * 1745) + 99) + 0 ≤ 7293000 by omega) (fun v317 w H locs h hI => ?_)
          refine lv_istore (lv' := [(6, .int v317), (5, .int v298), (0, .ref a0), (1, .ref o1), (2, .ref o9), (3, .ref o17), (4, .int z22)]) hx hb d_law_1390 hl (by decide) rfl (fun ls hl => ?_)
          refine lv_goto (tgt := 2104) hx hb d_law_1392 (by decide) ?_
          refine W.widen (k := ((16015 - (n + 1) * 31) + 31)) (n := ((905842 - (n + 1) * 1745) + 1745)) (show ((16015 - (n + 1) * 31) + 7) ≤ ((16015 - (n + 1) * 31) + 31) by omega) (show ((905842 - (n + 1) * 1745) + 99) ≤ ((905842 - (n + 1) * 1745) + 1745) by omega) ?_
          exact hK2104 w H locs ls h hI (lv_sub hl [2, 3, 4, 5, 6] rfl)
        have h := gie c281 h
        rcases Decidable.em ((v26 &&& 31) = 8) with c318 | c318
        · have h := git c318 h
          refine lv_tableIn (off := 1343) (tgt := 1395) hx hb d_law_52 (by rw [c318]; decide) (by rw [c318]; decide) (by rw [c318]; decide) (by decide) ?_
          refine lv_aload_n hx hb d_law_1395 rfl (lv_at hl 1 rfl) ?_
          refine lv_aload_n hx hb d_law_1396 rfl (lv_at hl 0 rfl) ?_
          refine lv_iload hx hb d_law_1397 (lv_at hl 4 rfl) ?_
          refine lv_iconst (v := 1) hx hb d_law_1399 (by decide) ?_
          refine lv_iadd hx hb d_law_1400 ?_
          obtain ⟨v319, e320, h⟩ := gb h
          refine gw_aldI hx hb hK hI e320 d_law_1401 ?_
          refine lv_aload_n hx hb d_law_1402 rfl (lv_at hl 0 rfl) ?_
          refine lv_iload hx hb d_law_1403 (lv_at hl 4 rfl) ?_
          refine lv_iconst (v := 2) hx hb d_law_1405 (by decide) ?_
          refine lv_iadd hx hb d_law_1406 ?_
          obtain ⟨v321, e322, h⟩ := gb h
          refine gw_aldI hx hb hK hI e322 d_law_1407 ?_
          refine lv_i2l (v := v321.toInt64) hx hb d_law_1408 rfl ?_
          refine lv_bipush (v := 32) hx hb d_law_1409 (by decide) ?_
          refine lv_lshl (v := (v321.toInt64) <<< ((32 : Int32).toInt64 &&& 63)) hx hb d_law_1411 rfl ?_
          refine lv_aload_n hx hb d_law_1412 rfl (lv_at hl 0 rfl) ?_
          refine lv_iload hx hb d_law_1413 (lv_at hl 4 rfl) ?_
          refine lv_iconst (v := 3) hx hb d_law_1415 (by decide) ?_
          refine lv_iadd hx hb d_law_1416 ?_
          obtain ⟨v323, e324, h⟩ := gb h
          refine gw_aldI hx hb hK hI e324 d_law_1417 ?_
          refine lv_i2l (v := v323.toInt64) hx hb d_law_1418 rfl ?_
          refine lv_ldc2 (v := 4294967295) hx hb hown (hT _ wd_1121 args) d_law_1419 ?_
          refine lv_land hx hb d_law_1422 ?_
          refine lv_lor hx hb d_law_1423 ?_
          refine lv_aload_n hx hb d_law_1424 rfl (lv_at hl 0 rfl) ?_
          refine lv_iload hx hb d_law_1425 (lv_at hl 4 rfl) ?_
          refine lv_iconst (v := 4) hx hb d_law_1427 (by decide) ?_
          refine lv_iadd hx hb d_law_1428 ?_
          obtain ⟨v325, e326, h⟩ := gb h
          refine gw_aldI hx hb hK hI e326 d_law_1429 ?_
          refine lv_i2l (v := v325.toInt64) hx hb d_law_1430 rfl ?_
          refine lv_bipush (v := 32) hx hb d_law_1431 (by decide) ?_
          refine lv_lshl (v := (v325.toInt64) <<< ((32 : Int32).toInt64 &&& 63)) hx hb d_law_1433 rfl ?_
          refine lv_aload_n hx hb d_law_1434 rfl (lv_at hl 0 rfl) ?_
          refine lv_iload hx hb d_law_1435 (lv_at hl 4 rfl) ?_
          refine lv_iconst (v := 5) hx hb d_law_1437 (by decide) ?_
          refine lv_iadd hx hb d_law_1438 ?_
          obtain ⟨v327, e328, h⟩ := gb h
          refine gw_aldI hx hb hK hI e328 d_law_1439 ?_
          refine lv_i2l (v := v327.toInt64) hx hb d_law_1440 rfl ?_
          refine lv_ldc2 (v := 4294967295) hx hb hown (hT _ wd_1121 args) d_law_1441 ?_
          refine lv_land hx hb d_law_1444 ?_
          refine lv_lor hx hb d_law_1445 ?_
          refine lv_aload_n hx hb d_law_1446 rfl (lv_at hl 0 rfl) ?_
          refine lv_iload hx hb d_law_1447 (lv_at hl 4 rfl) ?_
          refine lv_bipush (v := 6) hx hb d_law_1449 (by decide) ?_
          refine lv_iadd hx hb d_law_1451 ?_
          obtain ⟨v329, e330, h⟩ := gb h
          refine gw_aldI hx hb hK hI e330 d_law_1452 ?_
          refine lv_aload_n hx hb d_law_1453 rfl (lv_at hl 0 rfl) ?_
          refine lv_iload hx hb d_law_1454 (lv_at hl 4 rfl) ?_
          refine lv_bipush (v := 7) hx hb d_law_1456 (by decide) ?_
          refine lv_iadd hx hb d_law_1458 ?_
          obtain ⟨v331, e332, h⟩ := gb h
          refine gw_aldI hx hb hK hI e332 d_law_1459 ?_
          refine lv_aload_n hx hb d_law_1460 rfl (lv_at hl 3 rfl) ?_
          obtain ⟨u333, e334⟩ := gsome h
          refine gw_callI e334 h (gw_runS (As := [.ref o1, .int v319, .long (((v321.toInt64) <<< ((32 : Int32).toInt64 &&& 63)) ||| ((v323.toInt64) &&& 4294967295)), .long (((v325.toInt64) <<< ((32 : Int32).toInt64 &&& 63)) ||| ((v327.toInt64) &&& 4294967295)), .int v329, .int v331, .ref o17]) (rest := []) hx hb hml hown hT hK hZ hA hI (m_W_move l hst D g0 o1 v319 (((v321.toInt64) <<< ((32 : Int32).toInt64 &&& 63)) ||| ((v323.toInt64) &&& 4294967295)) (((v325.toInt64) <<< ((32 : Int32).toInt64 &&& 63)) ||| ((v327.toInt64) &&& 4294967295)) v329 v331 o17 w u333 e334) ce_W_move wd_675 ⟨by decide, by decide⟩ rfl rfl hl.1 rfl (lv_room (Nat.le_of_ble_eq_true rfl)) d_law_1461 ⟨(show (16015 - (n + 1) * 31) + 5 ≤ 601024 by omega), (show (905842 - (n + 1) * 1745) + 30 ≤ 7293000 by omega)⟩) hI hA hexc (show (16015 - (n + 1) * 31) + 5 ≤ 601024 by omega) (show (905842 - (n + 1) * 1745) + 30 ≤ 7293000 by omega) (fun v335 w H locs h hI => ?_)
          refine W.widen (k := ((16015 - (n + 1) * 31) + 5)) (n := ((905842 - (n + 1) * 1745) + 30)) (show (16015 - (n + 1) * 31) + 5 ≤ ((16015 - (n + 1) * 31) + 5) by omega) (show (905842 - (n + 1) * 1745) + 30 ≤ ((905842 - (n + 1) * 1745) + 30) by omega) ?_
          refine lv_istore (lv' := [(5, .int v335), (0, .ref a0), (1, .ref o1), (2, .ref o9), (3, .ref o17), (4, .int z22)]) hx hb d_law_1464 hl (by decide) rfl (fun ls hl => ?_)
          refine lv_aload_n hx hb d_law_1466 rfl (lv_at hl 3 rfl) ?_
          refine lv_aload_n hx hb d_law_1467 rfl (lv_at hl 1 rfl) ?_
          refine lv_iload hx hb d_law_1468 (lv_at hl 5 rfl) ?_
          refine lv_iconst (v := 1) hx hb d_law_1470 (by decide) ?_
          refine lv_iadd hx hb d_law_1471 ?_
          obtain ⟨v336, e337, h⟩ := gb h
          refine gw_aldI hx hb hK hI e337 d_law_1472 ?_
          refine lv_aload_n hx hb d_law_1473 rfl (lv_at hl 1 rfl) ?_
          refine lv_iload hx hb d_law_1474 (lv_at hl 5 rfl) ?_
          refine lv_iconst (v := 2) hx hb d_law_1476 (by decide) ?_
          refine lv_iadd hx hb d_law_1477 ?_
          obtain ⟨v338, e339, h⟩ := gb h
          refine gw_aldI hx hb hK hI e339 d_law_1478 ?_
          refine lv_i2l (v := v338.toInt64) hx hb d_law_1479 rfl ?_
          refine lv_bipush (v := 32) hx hb d_law_1480 (by decide) ?_
          refine lv_lshl (v := (v338.toInt64) <<< ((32 : Int32).toInt64 &&& 63)) hx hb d_law_1482 rfl ?_
          refine lv_aload_n hx hb d_law_1483 rfl (lv_at hl 1 rfl) ?_
          refine lv_iload hx hb d_law_1484 (lv_at hl 5 rfl) ?_
          refine lv_iconst (v := 3) hx hb d_law_1486 (by decide) ?_
          refine lv_iadd hx hb d_law_1487 ?_
          obtain ⟨v340, e341, h⟩ := gb h
          refine gw_aldI hx hb hK hI e341 d_law_1488 ?_
          refine lv_i2l (v := v340.toInt64) hx hb d_law_1489 rfl ?_
          refine lv_ldc2 (v := 4294967295) hx hb hown (hT _ wd_1121 args) d_law_1490 ?_
          refine lv_land hx hb d_law_1493 ?_
          refine lv_lor hx hb d_law_1494 ?_
          refine lv_aload_n hx hb d_law_1495 rfl (lv_at hl 1 rfl) ?_
          refine lv_iload hx hb d_law_1496 (lv_at hl 5 rfl) ?_
          refine lv_iconst (v := 4) hx hb d_law_1498 (by decide) ?_
          refine lv_iadd hx hb d_law_1499 ?_
          obtain ⟨v342, e343, h⟩ := gb h
          refine gw_aldI hx hb hK hI e343 d_law_1500 ?_
          refine lv_i2l (v := v342.toInt64) hx hb d_law_1501 rfl ?_
          refine lv_bipush (v := 32) hx hb d_law_1502 (by decide) ?_
          refine lv_lshl (v := (v342.toInt64) <<< ((32 : Int32).toInt64 &&& 63)) hx hb d_law_1504 rfl ?_
          refine lv_aload_n hx hb d_law_1505 rfl (lv_at hl 1 rfl) ?_
          refine lv_iload hx hb d_law_1506 (lv_at hl 5 rfl) ?_
          refine lv_iconst (v := 5) hx hb d_law_1508 (by decide) ?_
          refine lv_iadd hx hb d_law_1509 ?_
          obtain ⟨v344, e345, h⟩ := gb h
          refine gw_aldI hx hb hK hI e345 d_law_1510 ?_
          refine lv_i2l (v := v344.toInt64) hx hb d_law_1511 rfl ?_
          refine lv_ldc2 (v := 4294967295) hx hb hown (hT _ wd_1121 args) d_law_1512 ?_
          refine lv_land hx hb d_law_1515 ?_
          refine lv_lor hx hb d_law_1516 ?_
          refine lv_aload_n hx hb d_law_1517 rfl (lv_at hl 1 rfl) ?_
          refine lv_iload hx hb d_law_1518 (lv_at hl 5 rfl) ?_
          refine lv_bipush (v := 6) hx hb d_law_1520 (by decide) ?_
          refine lv_iadd hx hb d_law_1522 ?_
          obtain ⟨v346, e347, h⟩ := gb h
          refine gw_aldI hx hb hK hI e347 d_law_1523 ?_
          refine lv_aload_n hx hb d_law_1524 rfl (lv_at hl 1 rfl) ?_
          refine lv_iload hx hb d_law_1525 (lv_at hl 5 rfl) ?_
          refine lv_bipush (v := 7) hx hb d_law_1527 (by decide) ?_
          refine lv_iadd hx hb d_law_1529 ?_
          obtain ⟨v348, e349, h⟩ := gb h
          refine gw_aldI hx hb hK hI e349 d_law_1530 ?_
          obtain ⟨q352, e353, h⟩ := gb h
          obtain ⟨u350, e351⟩ := gsome h
          refine gw_callI e351 h (gw_runV (As := [.int v336, .long (((v338.toInt64) <<< ((32 : Int32).toInt64 &&& 63)) ||| ((v340.toInt64) &&& 4294967295)), .long (((v342.toInt64) <<< ((32 : Int32).toInt64 &&& 63)) ||| ((v344.toInt64) &&& 4294967295)), .int v346, .int v348]) (rest := []) hx hb hml hown hT hK hZ hA hI (ci := 7) rfl e353 (m_M_move l hst D g0 o9 v336 (((v338.toInt64) <<< ((32 : Int32).toInt64 &&& 63)) ||| ((v340.toInt64) &&& 4294967295)) (((v342.toInt64) <<< ((32 : Int32).toInt64 &&& 63)) ||| ((v344.toInt64) &&& 4294967295)) v346 v348 w u350 e351) ce_M_move wd_951 wd_953 ⟨by decide, by decide⟩ rfl rfl hl.1 rfl (lv_room (Nat.le_of_ble_eq_true rfl)) d_law_1531 ⟨(show ((16015 - (n + 1) * 31) + 5) + 0 ≤ 601024 by omega), (show ((905842 - (n + 1) * 1745) + 30) + 0 ≤ 7293000 by omega)⟩) hI hA hexc (show ((16015 - (n + 1) * 31) + 5) + 0 ≤ 601024 by omega) (show ((905842 - (n + 1) * 1745) + 30) + 0 ≤ 7293000 by omega) (fun v354 w H locs h hI => ?_)
          refine lv_istore (lv' := [(6, .int v354), (5, .int v335), (0, .ref a0), (1, .ref o1), (2, .ref o9), (3, .ref o17), (4, .int z22)]) hx hb d_law_1534 hl (by decide) rfl (fun ls hl => ?_)
          refine lv_goto (tgt := 2104) hx hb d_law_1536 (by decide) ?_
          refine W.widen (k := ((16015 - (n + 1) * 31) + 31)) (n := ((905842 - (n + 1) * 1745) + 1745)) (show ((16015 - (n + 1) * 31) + 5) ≤ ((16015 - (n + 1) * 31) + 31) by omega) (show ((905842 - (n + 1) * 1745) + 30) ≤ ((905842 - (n + 1) * 1745) + 1745) by omega) ?_
          exact hK2104 w H locs ls h hI (lv_sub hl [2, 3, 4, 5, 6] rfl)
        have h := gie c318 h
        rcases Decidable.em ((v26 &&& 31) = 9) with c355 | c355
        · have h := git c355 h
          refine lv_tableIn (off := 1487) (tgt := 1539) hx hb d_law_52 (by rw [c355]; decide) (by rw [c355]; decide) (by rw [c355]; decide) (by decide) ?_
          refine lv_aload_n hx hb d_law_1539 rfl (lv_at hl 1 rfl) ?_
          refine lv_aload_n hx hb d_law_1540 rfl (lv_at hl 0 rfl) ?_
          refine lv_iload hx hb d_law_1541 (lv_at hl 4 rfl) ?_
          refine lv_iconst (v := 1) hx hb d_law_1543 (by decide) ?_
          refine lv_iadd hx hb d_law_1544 ?_
          obtain ⟨v356, e357, h⟩ := gb h
          refine gw_aldI hx hb hK hI e357 d_law_1545 ?_
          refine lv_aload_n hx hb d_law_1546 rfl (lv_at hl 0 rfl) ?_
          refine lv_iload hx hb d_law_1547 (lv_at hl 4 rfl) ?_
          refine lv_iconst (v := 2) hx hb d_law_1549 (by decide) ?_
          refine lv_iadd hx hb d_law_1550 ?_
          obtain ⟨v358, e359, h⟩ := gb h
          refine gw_aldI hx hb hK hI e359 d_law_1551 ?_
          refine lv_aload_n hx hb d_law_1552 rfl (lv_at hl 3 rfl) ?_
          obtain ⟨u360, e361⟩ := gsome h
          refine gw_callI e361 h (gw_runS (As := [.ref o1, .int v356, .int v358, .ref o17]) (rest := []) hx hb hml hown hT hK hZ hA hI (m_W_clash l hst D g0 o1 v356 v358 o17 w u360 e361) ce_W_clash wd_690 ⟨by decide, by decide⟩ rfl rfl hl.1 rfl (lv_room (Nat.le_of_ble_eq_true rfl)) d_law_1553 ⟨(show (16015 - (n + 1) * 31) + 2 ≤ 601024 by omega), (show (905842 - (n + 1) * 1745) + 12 ≤ 7293000 by omega)⟩) hI hA hexc (show (16015 - (n + 1) * 31) + 2 ≤ 601024 by omega) (show (905842 - (n + 1) * 1745) + 12 ≤ 7293000 by omega) (fun v362 w H locs h hI => ?_)
          refine W.widen (k := ((16015 - (n + 1) * 31) + 2)) (n := ((905842 - (n + 1) * 1745) + 12)) (show (16015 - (n + 1) * 31) + 2 ≤ ((16015 - (n + 1) * 31) + 2) by omega) (show (905842 - (n + 1) * 1745) + 12 ≤ ((905842 - (n + 1) * 1745) + 12) by omega) ?_
          refine lv_istore (lv' := [(5, .int v362), (0, .ref a0), (1, .ref o1), (2, .ref o9), (3, .ref o17), (4, .int z22)]) hx hb d_law_1556 hl (by decide) rfl (fun ls hl => ?_)
          refine lv_aload_n hx hb d_law_1558 rfl (lv_at hl 3 rfl) ?_
          refine lv_aload_n hx hb d_law_1559 rfl (lv_at hl 1 rfl) ?_
          refine lv_iload hx hb d_law_1560 (lv_at hl 5 rfl) ?_
          refine lv_iconst (v := 1) hx hb d_law_1562 (by decide) ?_
          refine lv_iadd hx hb d_law_1563 ?_
          obtain ⟨v363, e364, h⟩ := gb h
          refine gw_aldI hx hb hK hI e364 d_law_1564 ?_
          refine lv_aload_n hx hb d_law_1565 rfl (lv_at hl 1 rfl) ?_
          refine lv_iload hx hb d_law_1566 (lv_at hl 5 rfl) ?_
          refine lv_iconst (v := 2) hx hb d_law_1568 (by decide) ?_
          refine lv_iadd hx hb d_law_1569 ?_
          obtain ⟨v365, e366, h⟩ := gb h
          refine gw_aldI hx hb hK hI e366 d_law_1570 ?_
          obtain ⟨q369, e370, h⟩ := gb h
          obtain ⟨u367, e368⟩ := gsome h
          refine gw_callI e368 h (gw_runV (As := [.int v363, .int v365]) (rest := []) hx hb hml hown hT hK hZ hA hI (ci := 7) rfl e370 (m_M_clash l hst D g0 o9 v363 v365 w u367 e368) ce_M_clash wd_959 wd_961 ⟨by decide, by decide⟩ rfl rfl hl.1 rfl (lv_room (Nat.le_of_ble_eq_true rfl)) d_law_1571 ⟨(show ((16015 - (n + 1) * 31) + 2) + 0 ≤ 601024 by omega), (show ((905842 - (n + 1) * 1745) + 12) + 0 ≤ 7293000 by omega)⟩) hI hA hexc (show ((16015 - (n + 1) * 31) + 2) + 0 ≤ 601024 by omega) (show ((905842 - (n + 1) * 1745) + 12) + 0 ≤ 7293000 by omega) (fun v371 w H locs h hI => ?_)
          refine lv_istore (lv' := [(6, .int v371), (5, .int v362), (0, .ref a0), (1, .ref o1), (2, .ref o9), (3, .ref o17), (4, .int z22)]) hx hb d_law_1574 hl (by decide) rfl (fun ls hl => ?_)
          refine lv_goto (tgt := 2104) hx hb d_law_1576 (by decide) ?_
          refine W.widen (k := ((16015 - (n + 1) * 31) + 31)) (n := ((905842 - (n + 1) * 1745) + 1745)) (show ((16015 - (n + 1) * 31) + 2) ≤ ((16015 - (n + 1) * 31) + 31) by omega) (show ((905842 - (n + 1) * 1745) + 12) ≤ ((905842 - (n + 1) * 1745) + 1745) by omega) ?_
          exact hK2104 w H locs ls h hI (lv_sub hl [2, 3, 4, 5, 6] rfl)
        have h := gie c355 h
        rcases Decidable.em ((v26 &&& 31) = 10) with c372 | c372
        · have h := git c372 h
          refine lv_tableIn (off := 1527) (tgt := 1579) hx hb d_law_52 (by rw [c372]; decide) (by rw [c372]; decide) (by rw [c372]; decide) (by decide) ?_
          refine lv_aload_n hx hb d_law_1579 rfl (lv_at hl 1 rfl) ?_
          obtain ⟨q375, e376, h⟩ := gb h
          obtain ⟨u373, e374⟩ := gsome h
          refine gw_callI e374 h (gw_runV (As := []) (rest := []) hx hb hml hown hT hK hZ hA hI (ci := 0) rfl e376 (m_B_clashes l hst D g0 o1 w u373 e374) ce_B_clashes wd_308 wd_310 ⟨by decide, by decide⟩ rfl rfl hl.1 rfl (lv_room (Nat.le_of_ble_eq_true rfl)) d_law_1580 ⟨(show (16015 - (n + 1) * 31) + 0 ≤ 601024 by omega), (show (905842 - (n + 1) * 1745) + 0 ≤ 7293000 by omega)⟩) hI hA hexc (show (16015 - (n + 1) * 31) + 0 ≤ 601024 by omega) (show (905842 - (n + 1) * 1745) + 0 ≤ 7293000 by omega) (fun v377 w H locs h hI => ?_)
          refine lv_pop hx hb d_law_1583 rfl ?_
          refine lv_aload_n hx hb d_law_1584 rfl (lv_at hl 2 rfl) ?_
          obtain ⟨q380, e381, h⟩ := gb h
          obtain ⟨u378, e379⟩ := gsome h
          refine gw_callI e379 h (gw_runV (As := []) (rest := []) hx hb hml hown hT hK hZ hA hI (ci := 7) rfl e381 (m_M_clashes l hst D g0 o9 w u378 e379) ce_M_clashes wd_1067 wd_1069 ⟨by decide, by decide⟩ rfl rfl hl.1 rfl (lv_room (Nat.le_of_ble_eq_true rfl)) d_law_1585 ⟨(show (16015 - (n + 1) * 31) + 0 ≤ 601024 by omega), (show (905842 - (n + 1) * 1745) + 0 ≤ 7293000 by omega)⟩) hI hA hexc (show (16015 - (n + 1) * 31) + 0 ≤ 601024 by omega) (show (905842 - (n + 1) * 1745) + 0 ≤ 7293000 by omega) (fun v382 w H locs h hI => ?_)
          refine lv_pop hx hb d_law_1588 rfl ?_
          refine lv_goto (tgt := 2104) hx hb d_law_1589 (by decide) ?_
          refine W.widen (k := ((16015 - (n + 1) * 31) + 31)) (n := ((905842 - (n + 1) * 1745) + 1745)) (show (16015 - (n + 1) * 31) ≤ ((16015 - (n + 1) * 31) + 31) by omega) (show (905842 - (n + 1) * 1745) ≤ ((905842 - (n + 1) * 1745) + 1745) by omega) ?_
          exact hK2104 w H locs ls h hI (lv_sub hl [0, 1, 2, 3, 4] rfl)
        have h := gie c372 h
        rcases Decidable.em ((v26 &&& 31) = 11) with c383 | c383
        · have h := git c383 h
          refine lv_tableIn (off := 1540) (tgt := 1592) hx hb d_law_52 (by rw [c383]; decide) (by rw [c383]; decide) (by rw [c383]; decide) (by decide) ?_
          refine lv_aload_n hx hb d_law_1592 rfl (lv_at hl 1 rfl) ?_
          refine lv_aload_n hx hb d_law_1593 rfl (lv_at hl 0 rfl) ?_
          refine lv_iload hx hb d_law_1594 (lv_at hl 4 rfl) ?_
          refine lv_iconst (v := 1) hx hb d_law_1596 (by decide) ?_
          refine lv_iadd hx hb d_law_1597 ?_
          obtain ⟨v384, e385, h⟩ := gb h
          refine gw_aldI hx hb hK hI e385 d_law_1598 ?_
          refine lv_aload_n hx hb d_law_1599 rfl (lv_at hl 0 rfl) ?_
          refine lv_iload hx hb d_law_1600 (lv_at hl 4 rfl) ?_
          refine lv_iconst (v := 2) hx hb d_law_1602 (by decide) ?_
          refine lv_iadd hx hb d_law_1603 ?_
          obtain ⟨v386, e387, h⟩ := gb h
          refine gw_aldI hx hb hK hI e387 d_law_1604 ?_
          refine lv_aload_n hx hb d_law_1605 rfl (lv_at hl 3 rfl) ?_
          obtain ⟨u388, e389⟩ := gsome h
          refine gw_callI e389 h (gw_runS (As := [.ref o1, .int v384, .int v386, .ref o17]) (rest := []) hx hb hml hown hT hK hZ hA hI (m_W_pair l hst D g0 o1 v384 v386 o17 w u388 e389) ce_W_pair wd_697 ⟨by decide, by decide⟩ rfl rfl hl.1 rfl (lv_room (Nat.le_of_ble_eq_true rfl)) d_law_1606 ⟨(show (16015 - (n + 1) * 31) + 1 ≤ 601024 by omega), (show (905842 - (n + 1) * 1745) + 6 ≤ 7293000 by omega)⟩) hI hA hexc (show (16015 - (n + 1) * 31) + 1 ≤ 601024 by omega) (show (905842 - (n + 1) * 1745) + 6 ≤ 7293000 by omega) (fun v390 w H locs h hI => ?_)
          refine W.widen (k := ((16015 - (n + 1) * 31) + 1)) (n := ((905842 - (n + 1) * 1745) + 6)) (show (16015 - (n + 1) * 31) + 1 ≤ ((16015 - (n + 1) * 31) + 1) by omega) (show (905842 - (n + 1) * 1745) + 6 ≤ ((905842 - (n + 1) * 1745) + 6) by omega) ?_
          refine lv_istore (lv' := [(5, .int v390), (0, .ref a0), (1, .ref o1), (2, .ref o9), (3, .ref o17), (4, .int z22)]) hx hb d_law_1609 hl (by decide) rfl (fun ls hl => ?_)
          refine lv_aload_n hx hb d_law_1611 rfl (lv_at hl 3 rfl) ?_
          refine lv_aload_n hx hb d_law_1612 rfl (lv_at hl 1 rfl) ?_
          refine lv_iload hx hb d_law_1613 (lv_at hl 5 rfl) ?_
          refine lv_iconst (v := 1) hx hb d_law_1615 (by decide) ?_
          refine lv_iadd hx hb d_law_1616 ?_
          obtain ⟨v391, e392, h⟩ := gb h
          refine gw_aldI hx hb hK hI e392 d_law_1617 ?_
          refine lv_aload_n hx hb d_law_1618 rfl (lv_at hl 1 rfl) ?_
          refine lv_iload hx hb d_law_1619 (lv_at hl 5 rfl) ?_
          refine lv_iconst (v := 2) hx hb d_law_1621 (by decide) ?_
          refine lv_iadd hx hb d_law_1622 ?_
          obtain ⟨v393, e394, h⟩ := gb h
          refine gw_aldI hx hb hK hI e394 d_law_1623 ?_
          obtain ⟨q397, e398, h⟩ := gb h
          obtain ⟨u395, e396⟩ := gsome h
          refine gw_callI e396 h (gw_runV (As := [.int v391, .int v393]) (rest := []) hx hb hml hown hT hK hZ hA hI (ci := 7) rfl e398 (m_M_pair l hst D g0 o9 v391 v393 w u395 e396) ce_M_pair wd_1071 wd_1073 ⟨by decide, by decide⟩ rfl rfl hl.1 rfl (lv_room (Nat.le_of_ble_eq_true rfl)) d_law_1624 ⟨(show ((16015 - (n + 1) * 31) + 1) + 0 ≤ 601024 by omega), (show ((905842 - (n + 1) * 1745) + 6) + 0 ≤ 7293000 by omega)⟩) hI hA hexc (show ((16015 - (n + 1) * 31) + 1) + 0 ≤ 601024 by omega) (show ((905842 - (n + 1) * 1745) + 6) + 0 ≤ 7293000 by omega) (fun v399 w H locs h hI => ?_)
          refine lv_istore (lv' := [(6, .int v399), (5, .int v390), (0, .ref a0), (1, .ref o1), (2, .ref o9), (3, .ref o17), (4, .int z22)]) hx hb d_law_1627 hl (by decide) rfl (fun ls hl => ?_)
          refine lv_goto (tgt := 2104) hx hb d_law_1629 (by decide) ?_
          refine W.widen (k := ((16015 - (n + 1) * 31) + 31)) (n := ((905842 - (n + 1) * 1745) + 1745)) (show ((16015 - (n + 1) * 31) + 1) ≤ ((16015 - (n + 1) * 31) + 31) by omega) (show ((905842 - (n + 1) * 1745) + 6) ≤ ((905842 - (n + 1) * 1745) + 1745) by omega) ?_
          exact hK2104 w H locs ls h hI (lv_sub hl [2, 3, 4, 5, 6] rfl)
        have h := gie c383 h
        rcases Decidable.em ((v26 &&& 31) = 12) with c400 | c400
        · have h := git c400 h
          refine lv_tableIn (off := 1580) (tgt := 1632) hx hb d_law_52 (by rw [c400]; decide) (by rw [c400]; decide) (by rw [c400]; decide) (by decide) ?_
          refine lv_aload_n hx hb d_law_1632 rfl (lv_at hl 1 rfl) ?_
          refine lv_aload_n hx hb d_law_1633 rfl (lv_at hl 0 rfl) ?_
          refine lv_iload hx hb d_law_1634 (lv_at hl 4 rfl) ?_
          refine lv_iconst (v := 1) hx hb d_law_1636 (by decide) ?_
          refine lv_iadd hx hb d_law_1637 ?_
          obtain ⟨v401, e402, h⟩ := gb h
          refine gw_aldI hx hb hK hI e402 d_law_1638 ?_
          refine lv_i2l (v := v401.toInt64) hx hb d_law_1639 rfl ?_
          refine lv_bipush (v := 32) hx hb d_law_1640 (by decide) ?_
          refine lv_lshl (v := (v401.toInt64) <<< ((32 : Int32).toInt64 &&& 63)) hx hb d_law_1642 rfl ?_
          refine lv_aload_n hx hb d_law_1643 rfl (lv_at hl 0 rfl) ?_
          refine lv_iload hx hb d_law_1644 (lv_at hl 4 rfl) ?_
          refine lv_iconst (v := 2) hx hb d_law_1646 (by decide) ?_
          refine lv_iadd hx hb d_law_1647 ?_
          obtain ⟨v403, e404, h⟩ := gb h
          refine gw_aldI hx hb hK hI e404 d_law_1648 ?_
          refine lv_i2l (v := v403.toInt64) hx hb d_law_1649 rfl ?_
          refine lv_ldc2 (v := 4294967295) hx hb hown (hT _ wd_1121 args) d_law_1650 ?_
          refine lv_land hx hb d_law_1653 ?_
          refine lv_lor hx hb d_law_1654 ?_
          refine lv_aload_n hx hb d_law_1655 rfl (lv_at hl 0 rfl) ?_
          refine lv_iload hx hb d_law_1656 (lv_at hl 4 rfl) ?_
          refine lv_iconst (v := 3) hx hb d_law_1658 (by decide) ?_
          refine lv_iadd hx hb d_law_1659 ?_
          obtain ⟨v405, e406, h⟩ := gb h
          refine gw_aldI hx hb hK hI e406 d_law_1660 ?_
          refine lv_i2l (v := v405.toInt64) hx hb d_law_1661 rfl ?_
          refine lv_bipush (v := 32) hx hb d_law_1662 (by decide) ?_
          refine lv_lshl (v := (v405.toInt64) <<< ((32 : Int32).toInt64 &&& 63)) hx hb d_law_1664 rfl ?_
          refine lv_aload_n hx hb d_law_1665 rfl (lv_at hl 0 rfl) ?_
          refine lv_iload hx hb d_law_1666 (lv_at hl 4 rfl) ?_
          refine lv_iconst (v := 4) hx hb d_law_1668 (by decide) ?_
          refine lv_iadd hx hb d_law_1669 ?_
          obtain ⟨v407, e408, h⟩ := gb h
          refine gw_aldI hx hb hK hI e408 d_law_1670 ?_
          refine lv_i2l (v := v407.toInt64) hx hb d_law_1671 rfl ?_
          refine lv_ldc2 (v := 4294967295) hx hb hown (hT _ wd_1121 args) d_law_1672 ?_
          refine lv_land hx hb d_law_1675 ?_
          refine lv_lor hx hb d_law_1676 ?_
          refine lv_aload_n hx hb d_law_1677 rfl (lv_at hl 0 rfl) ?_
          refine lv_iload hx hb d_law_1678 (lv_at hl 4 rfl) ?_
          refine lv_iconst (v := 5) hx hb d_law_1680 (by decide) ?_
          refine lv_iadd hx hb d_law_1681 ?_
          obtain ⟨v409, e410, h⟩ := gb h
          refine gw_aldI hx hb hK hI e410 d_law_1682 ?_
          refine lv_i2l (v := v409.toInt64) hx hb d_law_1683 rfl ?_
          refine lv_bipush (v := 32) hx hb d_law_1684 (by decide) ?_
          refine lv_lshl (v := (v409.toInt64) <<< ((32 : Int32).toInt64 &&& 63)) hx hb d_law_1686 rfl ?_
          refine lv_aload_n hx hb d_law_1687 rfl (lv_at hl 0 rfl) ?_
          refine lv_iload hx hb d_law_1688 (lv_at hl 4 rfl) ?_
          refine lv_bipush (v := 6) hx hb d_law_1690 (by decide) ?_
          refine lv_iadd hx hb d_law_1692 ?_
          obtain ⟨v411, e412, h⟩ := gb h
          refine gw_aldI hx hb hK hI e412 d_law_1693 ?_
          refine lv_i2l (v := v411.toInt64) hx hb d_law_1694 rfl ?_
          refine lv_ldc2 (v := 4294967295) hx hb hown (hT _ wd_1121 args) d_law_1695 ?_
          refine lv_land hx hb d_law_1698 ?_
          refine lv_lor hx hb d_law_1699 ?_
          refine lv_aload_n hx hb d_law_1700 rfl (lv_at hl 0 rfl) ?_
          refine lv_iload hx hb d_law_1701 (lv_at hl 4 rfl) ?_
          refine lv_bipush (v := 7) hx hb d_law_1703 (by decide) ?_
          refine lv_iadd hx hb d_law_1705 ?_
          obtain ⟨v413, e414, h⟩ := gb h
          refine gw_aldI hx hb hK hI e414 d_law_1706 ?_
          refine lv_i2l (v := v413.toInt64) hx hb d_law_1707 rfl ?_
          refine lv_bipush (v := 32) hx hb d_law_1708 (by decide) ?_
          refine lv_lshl (v := (v413.toInt64) <<< ((32 : Int32).toInt64 &&& 63)) hx hb d_law_1710 rfl ?_
          refine lv_aload_n hx hb d_law_1711 rfl (lv_at hl 0 rfl) ?_
          refine lv_iload hx hb d_law_1712 (lv_at hl 4 rfl) ?_
          refine lv_bipush (v := 8) hx hb d_law_1714 (by decide) ?_
          refine lv_iadd hx hb d_law_1716 ?_
          obtain ⟨v415, e416, h⟩ := gb h
          refine gw_aldI hx hb hK hI e416 d_law_1717 ?_
          refine lv_i2l (v := v415.toInt64) hx hb d_law_1718 rfl ?_
          refine lv_ldc2 (v := 4294967295) hx hb hown (hT _ wd_1121 args) d_law_1719 ?_
          refine lv_land hx hb d_law_1722 ?_
          refine lv_lor hx hb d_law_1723 ?_
          refine lv_aload_n hx hb d_law_1724 rfl (lv_at hl 0 rfl) ?_
          refine lv_iload hx hb d_law_1725 (lv_at hl 4 rfl) ?_
          refine lv_bipush (v := 9) hx hb d_law_1727 (by decide) ?_
          refine lv_iadd hx hb d_law_1729 ?_
          obtain ⟨v417, e418, h⟩ := gb h
          refine gw_aldI hx hb hK hI e418 d_law_1730 ?_
          refine lv_aload_n hx hb d_law_1731 rfl (lv_at hl 0 rfl) ?_
          refine lv_iload hx hb d_law_1732 (lv_at hl 4 rfl) ?_
          refine lv_bipush (v := 10) hx hb d_law_1734 (by decide) ?_
          refine lv_iadd hx hb d_law_1736 ?_
          obtain ⟨v419, e420, h⟩ := gb h
          refine gw_aldI hx hb hK hI e420 d_law_1737 ?_
          refine lv_i2l (v := v419.toInt64) hx hb d_law_1738 rfl ?_
          refine lv_bipush (v := 32) hx hb d_law_1739 (by decide) ?_
          refine lv_lshl (v := (v419.toInt64) <<< ((32 : Int32).toInt64 &&& 63)) hx hb d_law_1741 rfl ?_
          refine lv_aload_n hx hb d_law_1742 rfl (lv_at hl 0 rfl) ?_
          refine lv_iload hx hb d_law_1743 (lv_at hl 4 rfl) ?_
          refine lv_bipush (v := 11) hx hb d_law_1745 (by decide) ?_
          refine lv_iadd hx hb d_law_1747 ?_
          obtain ⟨v421, e422, h⟩ := gb h
          refine gw_aldI hx hb hK hI e422 d_law_1748 ?_
          refine lv_i2l (v := v421.toInt64) hx hb d_law_1749 rfl ?_
          refine lv_ldc2 (v := 4294967295) hx hb hown (hT _ wd_1121 args) d_law_1750 ?_
          refine lv_land hx hb d_law_1753 ?_
          refine lv_lor hx hb d_law_1754 ?_
          refine lv_aload_n hx hb d_law_1755 rfl (lv_at hl 3 rfl) ?_
          obtain ⟨u423, e424⟩ := gsome h
          refine gw_callI e424 h (gw_runS (As := [.ref o1, .long (((v401.toInt64) <<< ((32 : Int32).toInt64 &&& 63)) ||| ((v403.toInt64) &&& 4294967295)), .long (((v405.toInt64) <<< ((32 : Int32).toInt64 &&& 63)) ||| ((v407.toInt64) &&& 4294967295)), .long (((v409.toInt64) <<< ((32 : Int32).toInt64 &&& 63)) ||| ((v411.toInt64) &&& 4294967295)), .long (((v413.toInt64) <<< ((32 : Int32).toInt64 &&& 63)) ||| ((v415.toInt64) &&& 4294967295)), .int v417, .long (((v419.toInt64) <<< ((32 : Int32).toInt64 &&& 63)) ||| ((v421.toInt64) &&& 4294967295)), .ref o17]) (rest := []) hx hb hml hown hT hK hZ hA hI (m_W_keepOut l hst D g0 o1 (((v401.toInt64) <<< ((32 : Int32).toInt64 &&& 63)) ||| ((v403.toInt64) &&& 4294967295)) (((v405.toInt64) <<< ((32 : Int32).toInt64 &&& 63)) ||| ((v407.toInt64) &&& 4294967295)) (((v409.toInt64) <<< ((32 : Int32).toInt64 &&& 63)) ||| ((v411.toInt64) &&& 4294967295)) (((v413.toInt64) <<< ((32 : Int32).toInt64 &&& 63)) ||| ((v415.toInt64) &&& 4294967295)) v417 (((v419.toInt64) <<< ((32 : Int32).toInt64 &&& 63)) ||| ((v421.toInt64) &&& 4294967295)) o17 w u423 e424) ce_W_keepOut wd_704 ⟨by decide, by decide⟩ rfl rfl hl.1 rfl (lv_room (Nat.le_of_ble_eq_true rfl)) d_law_1756 ⟨(show (16015 - (n + 1) * 31) + 11 ≤ 601024 by omega), (show (905842 - (n + 1) * 1745) + 130 ≤ 7293000 by omega)⟩) hI hA hexc (show (16015 - (n + 1) * 31) + 11 ≤ 601024 by omega) (show (905842 - (n + 1) * 1745) + 130 ≤ 7293000 by omega) (fun v425 w H locs h hI => ?_)
          refine W.widen (k := ((16015 - (n + 1) * 31) + 11)) (n := ((905842 - (n + 1) * 1745) + 130)) (show (16015 - (n + 1) * 31) + 11 ≤ ((16015 - (n + 1) * 31) + 11) by omega) (show (905842 - (n + 1) * 1745) + 130 ≤ ((905842 - (n + 1) * 1745) + 130) by omega) ?_
          refine lv_istore (lv' := [(5, .int v425), (0, .ref a0), (1, .ref o1), (2, .ref o9), (3, .ref o17), (4, .int z22)]) hx hb d_law_1759 hl (by decide) rfl (fun ls hl => ?_)
          refine lv_aload_n hx hb d_law_1761 rfl (lv_at hl 3 rfl) ?_
          refine lv_aload_n hx hb d_law_1762 rfl (lv_at hl 1 rfl) ?_
          refine lv_iload hx hb d_law_1763 (lv_at hl 5 rfl) ?_
          refine lv_iconst (v := 1) hx hb d_law_1765 (by decide) ?_
          refine lv_iadd hx hb d_law_1766 ?_
          obtain ⟨v426, e427, h⟩ := gb h
          refine gw_aldI hx hb hK hI e427 d_law_1767 ?_
          refine lv_i2l (v := v426.toInt64) hx hb d_law_1768 rfl ?_
          refine lv_bipush (v := 32) hx hb d_law_1769 (by decide) ?_
          refine lv_lshl (v := (v426.toInt64) <<< ((32 : Int32).toInt64 &&& 63)) hx hb d_law_1771 rfl ?_
          refine lv_aload_n hx hb d_law_1772 rfl (lv_at hl 1 rfl) ?_
          refine lv_iload hx hb d_law_1773 (lv_at hl 5 rfl) ?_
          refine lv_iconst (v := 2) hx hb d_law_1775 (by decide) ?_
          refine lv_iadd hx hb d_law_1776 ?_
          obtain ⟨v428, e429, h⟩ := gb h
          refine gw_aldI hx hb hK hI e429 d_law_1777 ?_
          refine lv_i2l (v := v428.toInt64) hx hb d_law_1778 rfl ?_
          refine lv_ldc2 (v := 4294967295) hx hb hown (hT _ wd_1121 args) d_law_1779 ?_
          refine lv_land hx hb d_law_1782 ?_
          refine lv_lor hx hb d_law_1783 ?_
          refine lv_aload_n hx hb d_law_1784 rfl (lv_at hl 1 rfl) ?_
          refine lv_iload hx hb d_law_1785 (lv_at hl 5 rfl) ?_
          refine lv_iconst (v := 3) hx hb d_law_1787 (by decide) ?_
          refine lv_iadd hx hb d_law_1788 ?_
          obtain ⟨v430, e431, h⟩ := gb h
          refine gw_aldI hx hb hK hI e431 d_law_1789 ?_
          refine lv_i2l (v := v430.toInt64) hx hb d_law_1790 rfl ?_
          refine lv_bipush (v := 32) hx hb d_law_1791 (by decide) ?_
          refine lv_lshl (v := (v430.toInt64) <<< ((32 : Int32).toInt64 &&& 63)) hx hb d_law_1793 rfl ?_
          refine lv_aload_n hx hb d_law_1794 rfl (lv_at hl 1 rfl) ?_
          refine lv_iload hx hb d_law_1795 (lv_at hl 5 rfl) ?_
          refine lv_iconst (v := 4) hx hb d_law_1797 (by decide) ?_
          refine lv_iadd hx hb d_law_1798 ?_
          obtain ⟨v432, e433, h⟩ := gb h
          refine gw_aldI hx hb hK hI e433 d_law_1799 ?_
          refine lv_i2l (v := v432.toInt64) hx hb d_law_1800 rfl ?_
          refine lv_ldc2 (v := 4294967295) hx hb hown (hT _ wd_1121 args) d_law_1801 ?_
          refine lv_land hx hb d_law_1804 ?_
          refine lv_lor hx hb d_law_1805 ?_
          refine lv_aload_n hx hb d_law_1806 rfl (lv_at hl 1 rfl) ?_
          refine lv_iload hx hb d_law_1807 (lv_at hl 5 rfl) ?_
          refine lv_iconst (v := 5) hx hb d_law_1809 (by decide) ?_
          refine lv_iadd hx hb d_law_1810 ?_
          obtain ⟨v434, e435, h⟩ := gb h
          refine gw_aldI hx hb hK hI e435 d_law_1811 ?_
          refine lv_i2l (v := v434.toInt64) hx hb d_law_1812 rfl ?_
          refine lv_bipush (v := 32) hx hb d_law_1813 (by decide) ?_
          refine lv_lshl (v := (v434.toInt64) <<< ((32 : Int32).toInt64 &&& 63)) hx hb d_law_1815 rfl ?_
          refine lv_aload_n hx hb d_law_1816 rfl (lv_at hl 1 rfl) ?_
          refine lv_iload hx hb d_law_1817 (lv_at hl 5 rfl) ?_
          refine lv_bipush (v := 6) hx hb d_law_1819 (by decide) ?_
          refine lv_iadd hx hb d_law_1821 ?_
          obtain ⟨v436, e437, h⟩ := gb h
          refine gw_aldI hx hb hK hI e437 d_law_1822 ?_
          refine lv_i2l (v := v436.toInt64) hx hb d_law_1823 rfl ?_
          refine lv_ldc2 (v := 4294967295) hx hb hown (hT _ wd_1121 args) d_law_1824 ?_
          refine lv_land hx hb d_law_1827 ?_
          refine lv_lor hx hb d_law_1828 ?_
          refine lv_aload_n hx hb d_law_1829 rfl (lv_at hl 1 rfl) ?_
          refine lv_iload hx hb d_law_1830 (lv_at hl 5 rfl) ?_
          refine lv_bipush (v := 7) hx hb d_law_1832 (by decide) ?_
          refine lv_iadd hx hb d_law_1834 ?_
          obtain ⟨v438, e439, h⟩ := gb h
          refine gw_aldI hx hb hK hI e439 d_law_1835 ?_
          refine lv_i2l (v := v438.toInt64) hx hb d_law_1836 rfl ?_
          refine lv_bipush (v := 32) hx hb d_law_1837 (by decide) ?_
          refine lv_lshl (v := (v438.toInt64) <<< ((32 : Int32).toInt64 &&& 63)) hx hb d_law_1839 rfl ?_
          refine lv_aload_n hx hb d_law_1840 rfl (lv_at hl 1 rfl) ?_
          refine lv_iload hx hb d_law_1841 (lv_at hl 5 rfl) ?_
          refine lv_bipush (v := 8) hx hb d_law_1843 (by decide) ?_
          refine lv_iadd hx hb d_law_1845 ?_
          obtain ⟨v440, e441, h⟩ := gb h
          refine gw_aldI hx hb hK hI e441 d_law_1846 ?_
          refine lv_i2l (v := v440.toInt64) hx hb d_law_1847 rfl ?_
          refine lv_ldc2 (v := 4294967295) hx hb hown (hT _ wd_1121 args) d_law_1848 ?_
          refine lv_land hx hb d_law_1851 ?_
          refine lv_lor hx hb d_law_1852 ?_
          refine lv_aload_n hx hb d_law_1853 rfl (lv_at hl 1 rfl) ?_
          refine lv_iload hx hb d_law_1854 (lv_at hl 5 rfl) ?_
          refine lv_bipush (v := 9) hx hb d_law_1856 (by decide) ?_
          refine lv_iadd hx hb d_law_1858 ?_
          obtain ⟨v442, e443, h⟩ := gb h
          refine gw_aldI hx hb hK hI e443 d_law_1859 ?_
          refine lv_aload_n hx hb d_law_1860 rfl (lv_at hl 1 rfl) ?_
          refine lv_iload hx hb d_law_1861 (lv_at hl 5 rfl) ?_
          refine lv_bipush (v := 10) hx hb d_law_1863 (by decide) ?_
          refine lv_iadd hx hb d_law_1865 ?_
          obtain ⟨v444, e445, h⟩ := gb h
          refine gw_aldI hx hb hK hI e445 d_law_1866 ?_
          refine lv_i2l (v := v444.toInt64) hx hb d_law_1867 rfl ?_
          refine lv_bipush (v := 32) hx hb d_law_1868 (by decide) ?_
          refine lv_lshl (v := (v444.toInt64) <<< ((32 : Int32).toInt64 &&& 63)) hx hb d_law_1870 rfl ?_
          refine lv_aload_n hx hb d_law_1871 rfl (lv_at hl 1 rfl) ?_
          refine lv_iload hx hb d_law_1872 (lv_at hl 5 rfl) ?_
          refine lv_bipush (v := 11) hx hb d_law_1874 (by decide) ?_
          refine lv_iadd hx hb d_law_1876 ?_
          obtain ⟨v446, e447, h⟩ := gb h
          refine gw_aldI hx hb hK hI e447 d_law_1877 ?_
          refine lv_i2l (v := v446.toInt64) hx hb d_law_1878 rfl ?_
          refine lv_ldc2 (v := 4294967295) hx hb hown (hT _ wd_1121 args) d_law_1879 ?_
          refine lv_land hx hb d_law_1882 ?_
          refine lv_lor hx hb d_law_1883 ?_
          obtain ⟨q450, e451, h⟩ := gb h
          obtain ⟨u448, e449⟩ := gsome h
          refine gw_callI e449 h (gw_runV (As := [.long (((v426.toInt64) <<< ((32 : Int32).toInt64 &&& 63)) ||| ((v428.toInt64) &&& 4294967295)), .long (((v430.toInt64) <<< ((32 : Int32).toInt64 &&& 63)) ||| ((v432.toInt64) &&& 4294967295)), .long (((v434.toInt64) <<< ((32 : Int32).toInt64 &&& 63)) ||| ((v436.toInt64) &&& 4294967295)), .long (((v438.toInt64) <<< ((32 : Int32).toInt64 &&& 63)) ||| ((v440.toInt64) &&& 4294967295)), .int v442, .long (((v444.toInt64) <<< ((32 : Int32).toInt64 &&& 63)) ||| ((v446.toInt64) &&& 4294967295))]) (rest := []) hx hb hml hown hT hK hZ hA hI (ci := 7) rfl e451 (m_M_keepOut l hst D g0 o9 (((v426.toInt64) <<< ((32 : Int32).toInt64 &&& 63)) ||| ((v428.toInt64) &&& 4294967295)) (((v430.toInt64) <<< ((32 : Int32).toInt64 &&& 63)) ||| ((v432.toInt64) &&& 4294967295)) (((v434.toInt64) <<< ((32 : Int32).toInt64 &&& 63)) ||| ((v436.toInt64) &&& 4294967295)) (((v438.toInt64) <<< ((32 : Int32).toInt64 &&& 63)) ||| ((v440.toInt64) &&& 4294967295)) v442 (((v444.toInt64) <<< ((32 : Int32).toInt64 &&& 63)) ||| ((v446.toInt64) &&& 4294967295)) w u448 e449) ce_M_keepOut wd_1075 wd_1077 ⟨by decide, by decide⟩ rfl rfl hl.1 rfl (lv_room (Nat.le_of_ble_eq_true rfl)) d_law_1884 ⟨(show ((16015 - (n + 1) * 31) + 11) + 0 ≤ 601024 by omega), (show ((905842 - (n + 1) * 1745) + 130) + 0 ≤ 7293000 by omega)⟩) hI hA hexc (show ((16015 - (n + 1) * 31) + 11) + 0 ≤ 601024 by omega) (show ((905842 - (n + 1) * 1745) + 130) + 0 ≤ 7293000 by omega) (fun v452 w H locs h hI => ?_)
          refine lv_istore (lv' := [(6, .int v452), (5, .int v425), (0, .ref a0), (1, .ref o1), (2, .ref o9), (3, .ref o17), (4, .int z22)]) hx hb d_law_1887 hl (by decide) rfl (fun ls hl => ?_)
          refine lv_aload_n hx hb d_law_1889 rfl (lv_at hl 4 rfl) ?_
          obtain ⟨q455, e456, h⟩ := gb h
          obtain ⟨u453, e454⟩ := gsome h
          refine gw_callI e454 h (gw_runV (As := []) (rest := []) hx hb hml hown hT hK hZ hA hI (ci := 7) rfl e456 (m_M_thrown l hst D g0 o9 w u453 e454) ce_M_thrown wd_868 wd_870 ⟨by decide, by decide⟩ rfl rfl hl.1 rfl (lv_room (Nat.le_of_ble_eq_true rfl)) d_law_1890 ⟨(show ((16015 - (n + 1) * 31) + 11) + 0 ≤ 601024 by omega), (show ((905842 - (n + 1) * 1745) + 130) + 0 ≤ 7293000 by omega)⟩) hI hA hexc (show ((16015 - (n + 1) * 31) + 11) + 0 ≤ 601024 by omega) (show ((905842 - (n + 1) * 1745) + 130) + 0 ≤ 7293000 by omega) (fun v457 w H locs h hI => ?_)
          refine lv_iload hx hb d_law_1893 (lv_at hl 1 rfl) ?_
          refine lv_icmp_eq (tgt := 1900) hx hb d_law_1895 (by decide) (fun c458 => ?_) (fun c458 => ?_)
          · skip
            have h := git c458 h
            refine lv_iload hx hb d_law_1900 (lv_at hl 1 rfl) ?_
            obtain ⟨K1924, eK1924, h⟩ := gj h
            have hK1924 : ∀ (w : gW) (H : Heap) (locs : List Loc) (ls : Array Slot), K1924 w = some r → gI D s A w H locs → lv_has ls 8 [(0, .ref a0), (1, .ref o1), (2, .ref o9), (3, .ref o17), (4, .int z22)] → W p l e rm_law s m args below meth c H locs ((16015 - (n + 1) * 31) + 11) ((905842 - (n + 1) * 1745) + 130) Q (F0 m 1924 ls []) := by
              intro w H locs ls h hI hl
              have h := gk1 eK1924 h
              refine lv_goto (tgt := 2104) hx hb d_law_1924 (by decide) ?_
              refine W.widen (k := ((16015 - (n + 1) * 31) + 31)) (n := ((905842 - (n + 1) * 1745) + 1745)) (show ((16015 - (n + 1) * 31) + 11) ≤ ((16015 - (n + 1) * 31) + 31) by omega) (show ((905842 - (n + 1) * 1745) + 130) ≤ ((905842 - (n + 1) * 1745) + 1745) by omega) ?_
              exact hK2104 w H locs ls h hI (lv_sub hl [0, 1, 2, 3, 4] rfl)
            refine lv_if_ne (tgt := 1924) hx hb d_law_1902 (by decide) (fun c459 => ?_) (fun c459 => ?_)
            · skip
              have h := gie c459 h
              exact hK1924 w H locs ls h hI (lv_sub hl [2, 3, 4, 5, 6] rfl)
            · skip
              have h := git c459 h
              refine lv_aload_n hx hb d_law_1905 rfl (lv_at hl 5 rfl) ?_
              refine lv_iconst (v := 0) hx hb d_law_1906 (by decide) ?_
              obtain ⟨v460, e461, h⟩ := gb h
              refine gw_aldJ hx hb hK hI e461 d_law_1907 ?_
              refine lv_iload hx hb d_law_1908 (lv_at hl 0 rfl) ?_
              obtain ⟨K1918, eK1918, h⟩ := gj h
              have hK1918 : ∀ (y462 : Int64) (w : gW) (H : Heap) (locs : List Loc) (ls : Array Slot), K1918 y462 w = some r → gI D s A w H locs → lv_has ls 8 [(0, .ref a0), (1, .ref o1), (2, .ref o9), (3, .ref o17), (4, .int z22)] → W p l e rm_law s m args below meth c H locs ((16015 - (n + 1) * 31) + 11) ((905842 - (n + 1) * 1745) + 130) Q (F0 m 1918 ls [.long y462, .long v460]) := by
                intro y462 w H locs ls h hI hl
                have h := gk2 eK1918 h
                refine W.lcmp hx hb d_law_1918 ?_
                refine lv_if_eq (tgt := 1924) hx hb d_law_1919 (by decide) (fun c463 => ?_) (fun c463 => ?_)
                · have c463 := (lg_cmp_eq _ _).mp c463
                  have h := git c463 h
                  exact hK1924 w H locs ls h hI (lv_sub hl [0, 1, 2, 3, 4] rfl)
                · have c463 := mt (lg_cmp_eq _ _).mpr c463
                  have h := gie c463 h
                  refine W.widen (k := 16015) (n := 905842) (show ((16015 - (n + 1) * 31) + 11) ≤ 16015 by omega) (show ((905842 - (n + 1) * 1745) + 130) ≤ 905842 by omega) ?_
                  exact hK1922 w H locs ls h hI (lv_sub hl [] rfl)
              refine lv_if_eq (tgt := 1917) hx hb d_law_1910 (by decide) (fun c464 => ?_) (fun c464 => ?_)
              · skip
                have h := git c464 h
                refine lv_lconst (v := 0) hx hb d_law_1917 (by decide) ?_
                exact hK1918 _ w H locs ls h hI (lv_sub hl [2, 3, 4, 5, 6] rfl)
              · skip
                have h := gie c464 h
                refine lv_lconst (v := 1) hx hb d_law_1913 (by decide) ?_
                refine lv_goto (tgt := 1918) hx hb d_law_1914 (by decide) ?_
                exact hK1918 _ w H locs ls h hI (lv_sub hl [2, 3, 4, 5, 6] rfl)
          · skip
            have h := gie c458 h
            refine W.widen (k := 16015) (n := 905842) (show ((16015 - (n + 1) * 31) + 11) ≤ 16015 by omega) (show ((905842 - (n + 1) * 1745) + 130) ≤ 905842 by omega) ?_
            exact hK1898 w H locs ls h hI (lv_sub hl [] rfl)
        have h := gie c400 h
        rcases Decidable.em ((v26 &&& 31) = 13) with c465 | c465
        · have h := git c465 h
          refine lv_tableIn (off := 1875) (tgt := 1927) hx hb d_law_52 (by rw [c465]; decide) (by rw [c465]; decide) (by rw [c465]; decide) (by decide) ?_
          refine lv_aload_n hx hb d_law_1927 rfl (lv_at hl 1 rfl) ?_
          refine lv_aload_n hx hb d_law_1928 rfl (lv_at hl 0 rfl) ?_
          refine lv_iload hx hb d_law_1929 (lv_at hl 4 rfl) ?_
          refine lv_iconst (v := 1) hx hb d_law_1931 (by decide) ?_
          refine lv_iadd hx hb d_law_1932 ?_
          obtain ⟨v466, e467, h⟩ := gb h
          refine gw_aldI hx hb hK hI e467 d_law_1933 ?_
          obtain ⟨q470, e471, h⟩ := gb h
          obtain ⟨u468, e469⟩ := gsome h
          refine gw_callI e469 h (gw_runV (As := [.int v466]) (rest := []) hx hb hml hown hT hK hZ hA hI (ci := 0) rfl e471 (m_B_breaks l hst D g0 o1 v466 w u468 e469) ce_B_breaks wd_410 wd_412 ⟨by decide, by decide⟩ rfl rfl hl.1 rfl (lv_room (Nat.le_of_ble_eq_true rfl)) d_law_1934 ⟨(show (16015 - (n + 1) * 31) + 0 ≤ 601024 by omega), (show (905842 - (n + 1) * 1745) + 0 ≤ 7293000 by omega)⟩) hI hA hexc (show (16015 - (n + 1) * 31) + 0 ≤ 601024 by omega) (show (905842 - (n + 1) * 1745) + 0 ≤ 7293000 by omega) (fun v472 w H locs h hI => ?_)
          refine lv_pop hx hb d_law_1937 rfl ?_
          refine lv_aload_n hx hb d_law_1938 rfl (lv_at hl 2 rfl) ?_
          refine lv_aload_n hx hb d_law_1939 rfl (lv_at hl 0 rfl) ?_
          refine lv_iload hx hb d_law_1940 (lv_at hl 4 rfl) ?_
          refine lv_iconst (v := 1) hx hb d_law_1942 (by decide) ?_
          refine lv_iadd hx hb d_law_1943 ?_
          obtain ⟨v473, e474, h⟩ := gb h
          refine gw_aldI hx hb hK hI e474 d_law_1944 ?_
          obtain ⟨q477, e478, h⟩ := gb h
          obtain ⟨u475, e476⟩ := gsome h
          refine gw_callI e476 h (gw_runV (As := [.int v473]) (rest := []) hx hb hml hown hT hK hZ hA hI (ci := 7) rfl e478 (m_M_breaks l hst D g0 o9 v473 w u475 e476) ce_M_breaks wd_1084 wd_1086 ⟨by decide, by decide⟩ rfl rfl hl.1 rfl (lv_room (Nat.le_of_ble_eq_true rfl)) d_law_1945 ⟨(show (16015 - (n + 1) * 31) + 0 ≤ 601024 by omega), (show (905842 - (n + 1) * 1745) + 0 ≤ 7293000 by omega)⟩) hI hA hexc (show (16015 - (n + 1) * 31) + 0 ≤ 601024 by omega) (show (905842 - (n + 1) * 1745) + 0 ≤ 7293000 by omega) (fun v479 w H locs h hI => ?_)
          refine lv_pop hx hb d_law_1948 rfl ?_
          refine lv_goto (tgt := 2104) hx hb d_law_1949 (by decide) ?_
          refine W.widen (k := ((16015 - (n + 1) * 31) + 31)) (n := ((905842 - (n + 1) * 1745) + 1745)) (show (16015 - (n + 1) * 31) ≤ ((16015 - (n + 1) * 31) + 31) by omega) (show (905842 - (n + 1) * 1745) ≤ ((905842 - (n + 1) * 1745) + 1745) by omega) ?_
          exact hK2104 w H locs ls h hI (lv_sub hl [0, 1, 2, 3, 4] rfl)
        have h := gie c465 h
        rcases Decidable.em ((v26 &&& 31) = 14) with c480 | c480
        · have h := git c480 h
          refine lv_tableIn (off := 1900) (tgt := 1952) hx hb d_law_52 (by rw [c480]; decide) (by rw [c480]; decide) (by rw [c480]; decide) (by decide) ?_
          refine lv_aload_n hx hb d_law_1952 rfl (lv_at hl 1 rfl) ?_
          refine lv_aload_n hx hb d_law_1953 rfl (lv_at hl 0 rfl) ?_
          refine lv_iload hx hb d_law_1954 (lv_at hl 4 rfl) ?_
          refine lv_iconst (v := 1) hx hb d_law_1956 (by decide) ?_
          refine lv_iadd hx hb d_law_1957 ?_
          obtain ⟨v481, e482, h⟩ := gb h
          refine gw_aldI hx hb hK hI e482 d_law_1958 ?_
          refine lv_aload_n hx hb d_law_1959 rfl (lv_at hl 0 rfl) ?_
          refine lv_iload hx hb d_law_1960 (lv_at hl 4 rfl) ?_
          refine lv_iconst (v := 2) hx hb d_law_1962 (by decide) ?_
          refine lv_iadd hx hb d_law_1963 ?_
          obtain ⟨v483, e484, h⟩ := gb h
          refine gw_aldI hx hb hK hI e484 d_law_1964 ?_
          refine lv_aload_n hx hb d_law_1965 rfl (lv_at hl 3 rfl) ?_
          obtain ⟨u485, e486⟩ := gsome h
          refine gw_callI e486 h (gw_runS (As := [.ref o1, .int v481, .int v483, .ref o17]) (rest := []) hx hb hml hown hT hK hZ hA hI (m_W_bound l hst D g0 o1 v481 v483 o17 w u485 e486) ce_W_bound wd_728 ⟨by decide, by decide⟩ rfl rfl hl.1 rfl (lv_room (Nat.le_of_ble_eq_true rfl)) d_law_1966 ⟨(show (16015 - (n + 1) * 31) + 3 ≤ 601024 by omega), (show (905842 - (n + 1) * 1745) + 18 ≤ 7293000 by omega)⟩) hI hA hexc (show (16015 - (n + 1) * 31) + 3 ≤ 601024 by omega) (show (905842 - (n + 1) * 1745) + 18 ≤ 7293000 by omega) (fun v487 w H locs h hI => ?_)
          refine W.widen (k := ((16015 - (n + 1) * 31) + 3)) (n := ((905842 - (n + 1) * 1745) + 18)) (show (16015 - (n + 1) * 31) + 3 ≤ ((16015 - (n + 1) * 31) + 3) by omega) (show (905842 - (n + 1) * 1745) + 18 ≤ ((905842 - (n + 1) * 1745) + 18) by omega) ?_
          refine lv_istore (lv' := [(5, .int v487), (0, .ref a0), (1, .ref o1), (2, .ref o9), (3, .ref o17), (4, .int z22)]) hx hb d_law_1969 hl (by decide) rfl (fun ls hl => ?_)
          refine lv_aload_n hx hb d_law_1971 rfl (lv_at hl 3 rfl) ?_
          refine lv_aload_n hx hb d_law_1972 rfl (lv_at hl 1 rfl) ?_
          refine lv_iload hx hb d_law_1973 (lv_at hl 5 rfl) ?_
          refine lv_iconst (v := 1) hx hb d_law_1975 (by decide) ?_
          refine lv_iadd hx hb d_law_1976 ?_
          obtain ⟨v488, e489, h⟩ := gb h
          refine gw_aldI hx hb hK hI e489 d_law_1977 ?_
          refine lv_aload_n hx hb d_law_1978 rfl (lv_at hl 1 rfl) ?_
          refine lv_iload hx hb d_law_1979 (lv_at hl 5 rfl) ?_
          refine lv_iconst (v := 2) hx hb d_law_1981 (by decide) ?_
          refine lv_iadd hx hb d_law_1982 ?_
          obtain ⟨v490, e491, h⟩ := gb h
          refine gw_aldI hx hb hK hI e491 d_law_1983 ?_
          obtain ⟨q494, e495, h⟩ := gb h
          obtain ⟨u492, e493⟩ := gsome h
          refine gw_callJ e493 h (gw_runV (As := [.int v488, .int v490]) (rest := []) hx hb hml hown hT hK hZ hA hI (ci := 7) rfl e495 (m_M_bound l hst D g0 o9 v488 v490 w u492 e493) ce_M_bound wd_1098 wd_1100 ⟨by decide, by decide⟩ rfl rfl hl.1 rfl (lv_room (Nat.le_of_ble_eq_true rfl)) d_law_1984 ⟨(show ((16015 - (n + 1) * 31) + 3) + 0 ≤ 601024 by omega), (show ((905842 - (n + 1) * 1745) + 18) + 0 ≤ 7293000 by omega)⟩) hI hA hexc (show ((16015 - (n + 1) * 31) + 3) + 0 ≤ 601024 by omega) (show ((905842 - (n + 1) * 1745) + 18) + 0 ≤ 7293000 by omega) (fun v496 w H locs h hI => ?_)
          refine lv_lstore (lv' := [(6, .long v496), (5, .int v487), (0, .ref a0), (1, .ref o1), (2, .ref o9), (3, .ref o17), (4, .int z22)]) hx hb d_law_1987 hl (by decide) rfl (fun ls hl => ?_)
          refine lv_goto (tgt := 2104) hx hb d_law_1989 (by decide) ?_
          refine W.widen (k := ((16015 - (n + 1) * 31) + 31)) (n := ((905842 - (n + 1) * 1745) + 1745)) (show ((16015 - (n + 1) * 31) + 3) ≤ ((16015 - (n + 1) * 31) + 31) by omega) (show ((905842 - (n + 1) * 1745) + 18) ≤ ((905842 - (n + 1) * 1745) + 1745) by omega) ?_
          exact hK2104 w H locs ls h hI (lv_sub hl [2, 3, 4, 5, 6] rfl)
        have h := gie c480 h
        rcases Decidable.em ((v26 &&& 31) = 15) with c497 | c497
        · have h := git c497 h
          refine lv_tableIn (off := 1940) (tgt := 1992) hx hb d_law_52 (by rw [c497]; decide) (by rw [c497]; decide) (by rw [c497]; decide) (by decide) ?_
          refine lv_aload_n hx hb d_law_1992 rfl (lv_at hl 1 rfl) ?_
          refine lv_aload_n hx hb d_law_1993 rfl (lv_at hl 0 rfl) ?_
          refine lv_iload hx hb d_law_1994 (lv_at hl 4 rfl) ?_
          refine lv_iconst (v := 1) hx hb d_law_1996 (by decide) ?_
          refine lv_iadd hx hb d_law_1997 ?_
          obtain ⟨v498, e499, h⟩ := gb h
          refine gw_aldI hx hb hK hI e499 d_law_1998 ?_
          refine lv_i2l (v := v498.toInt64) hx hb d_law_1999 rfl ?_
          refine lv_bipush (v := 32) hx hb d_law_2000 (by decide) ?_
          refine lv_lshl (v := (v498.toInt64) <<< ((32 : Int32).toInt64 &&& 63)) hx hb d_law_2002 rfl ?_
          refine lv_aload_n hx hb d_law_2003 rfl (lv_at hl 0 rfl) ?_
          refine lv_iload hx hb d_law_2004 (lv_at hl 4 rfl) ?_
          refine lv_iconst (v := 2) hx hb d_law_2006 (by decide) ?_
          refine lv_iadd hx hb d_law_2007 ?_
          obtain ⟨v500, e501, h⟩ := gb h
          refine gw_aldI hx hb hK hI e501 d_law_2008 ?_
          refine lv_i2l (v := v500.toInt64) hx hb d_law_2009 rfl ?_
          refine lv_ldc2 (v := 4294967295) hx hb hown (hT _ wd_1121 args) d_law_2010 ?_
          refine lv_land hx hb d_law_2013 ?_
          refine lv_lor hx hb d_law_2014 ?_
          refine lv_aload_n hx hb d_law_2015 rfl (lv_at hl 0 rfl) ?_
          refine lv_iload hx hb d_law_2016 (lv_at hl 4 rfl) ?_
          refine lv_iconst (v := 3) hx hb d_law_2018 (by decide) ?_
          refine lv_iadd hx hb d_law_2019 ?_
          obtain ⟨v502, e503, h⟩ := gb h
          refine gw_aldI hx hb hK hI e503 d_law_2020 ?_
          refine lv_aload_n hx hb d_law_2021 rfl (lv_at hl 0 rfl) ?_
          refine lv_iload hx hb d_law_2022 (lv_at hl 4 rfl) ?_
          refine lv_iconst (v := 4) hx hb d_law_2024 (by decide) ?_
          refine lv_iadd hx hb d_law_2025 ?_
          obtain ⟨v504, e505, h⟩ := gb h
          refine gw_aldI hx hb hK hI e505 d_law_2026 ?_
          refine lv_aload_n hx hb d_law_2027 rfl (lv_at hl 3 rfl) ?_
          obtain ⟨u506, e507⟩ := gsome h
          refine gw_callI e507 h (gw_runS (As := [.ref o1, .long (((v498.toInt64) <<< ((32 : Int32).toInt64 &&& 63)) ||| ((v500.toInt64) &&& 4294967295)), .int v502, .int v504, .ref o17]) (rest := []) hx hb hml hown hT hK hZ hA hI (m_W_section l hst D g0 o1 (((v498.toInt64) <<< ((32 : Int32).toInt64 &&& 63)) ||| ((v500.toInt64) &&& 4294967295)) v502 v504 o17 w u506 e507) ce_W_section wd_756 ⟨by decide, by decide⟩ rfl rfl hl.1 rfl (lv_room (Nat.le_of_ble_eq_true rfl)) d_law_2028 ⟨(show (16015 - (n + 1) * 31) + 1 ≤ 601024 by omega), (show (905842 - (n + 1) * 1745) + 6 ≤ 7293000 by omega)⟩) hI hA hexc (show (16015 - (n + 1) * 31) + 1 ≤ 601024 by omega) (show (905842 - (n + 1) * 1745) + 6 ≤ 7293000 by omega) (fun v508 w H locs h hI => ?_)
          refine W.widen (k := ((16015 - (n + 1) * 31) + 1)) (n := ((905842 - (n + 1) * 1745) + 6)) (show (16015 - (n + 1) * 31) + 1 ≤ ((16015 - (n + 1) * 31) + 1) by omega) (show (905842 - (n + 1) * 1745) + 6 ≤ ((905842 - (n + 1) * 1745) + 6) by omega) ?_
          refine lv_istore (lv' := [(5, .int v508), (0, .ref a0), (1, .ref o1), (2, .ref o9), (3, .ref o17), (4, .int z22)]) hx hb d_law_2031 hl (by decide) rfl (fun ls hl => ?_)
          refine lv_aload_n hx hb d_law_2033 rfl (lv_at hl 3 rfl) ?_
          refine lv_aload_n hx hb d_law_2034 rfl (lv_at hl 1 rfl) ?_
          refine lv_iload hx hb d_law_2035 (lv_at hl 5 rfl) ?_
          refine lv_iconst (v := 1) hx hb d_law_2037 (by decide) ?_
          refine lv_iadd hx hb d_law_2038 ?_
          obtain ⟨v509, e510, h⟩ := gb h
          refine gw_aldI hx hb hK hI e510 d_law_2039 ?_
          refine lv_i2l (v := v509.toInt64) hx hb d_law_2040 rfl ?_
          refine lv_bipush (v := 32) hx hb d_law_2041 (by decide) ?_
          refine lv_lshl (v := (v509.toInt64) <<< ((32 : Int32).toInt64 &&& 63)) hx hb d_law_2043 rfl ?_
          refine lv_aload_n hx hb d_law_2044 rfl (lv_at hl 1 rfl) ?_
          refine lv_iload hx hb d_law_2045 (lv_at hl 5 rfl) ?_
          refine lv_iconst (v := 2) hx hb d_law_2047 (by decide) ?_
          refine lv_iadd hx hb d_law_2048 ?_
          obtain ⟨v511, e512, h⟩ := gb h
          refine gw_aldI hx hb hK hI e512 d_law_2049 ?_
          refine lv_i2l (v := v511.toInt64) hx hb d_law_2050 rfl ?_
          refine lv_ldc2 (v := 4294967295) hx hb hown (hT _ wd_1121 args) d_law_2051 ?_
          refine lv_land hx hb d_law_2054 ?_
          refine lv_lor hx hb d_law_2055 ?_
          refine lv_aload_n hx hb d_law_2056 rfl (lv_at hl 1 rfl) ?_
          refine lv_iload hx hb d_law_2057 (lv_at hl 5 rfl) ?_
          refine lv_iconst (v := 3) hx hb d_law_2059 (by decide) ?_
          refine lv_iadd hx hb d_law_2060 ?_
          obtain ⟨v513, e514, h⟩ := gb h
          refine gw_aldI hx hb hK hI e514 d_law_2061 ?_
          refine lv_aload_n hx hb d_law_2062 rfl (lv_at hl 1 rfl) ?_
          refine lv_iload hx hb d_law_2063 (lv_at hl 5 rfl) ?_
          refine lv_iconst (v := 4) hx hb d_law_2065 (by decide) ?_
          refine lv_iadd hx hb d_law_2066 ?_
          obtain ⟨v515, e516, h⟩ := gb h
          refine gw_aldI hx hb hK hI e516 d_law_2067 ?_
          obtain ⟨q519, e520, h⟩ := gb h
          obtain ⟨u517, e518⟩ := gsome h
          refine gw_callJ e518 h (gw_runV (As := [.long (((v509.toInt64) <<< ((32 : Int32).toInt64 &&& 63)) ||| ((v511.toInt64) &&& 4294967295)), .int v513, .int v515]) (rest := []) hx hb hml hown hT hK hZ hA hI (ci := 7) rfl e520 (m_M_section l hst D g0 o9 (((v509.toInt64) <<< ((32 : Int32).toInt64 &&& 63)) ||| ((v511.toInt64) &&& 4294967295)) v513 v515 w u517 e518) ce_M_section wd_1106 wd_1108 ⟨by decide, by decide⟩ rfl rfl hl.1 rfl (lv_room (Nat.le_of_ble_eq_true rfl)) d_law_2068 ⟨(show ((16015 - (n + 1) * 31) + 1) + 0 ≤ 601024 by omega), (show ((905842 - (n + 1) * 1745) + 6) + 0 ≤ 7293000 by omega)⟩) hI hA hexc (show ((16015 - (n + 1) * 31) + 1) + 0 ≤ 601024 by omega) (show ((905842 - (n + 1) * 1745) + 6) + 0 ≤ 7293000 by omega) (fun v521 w H locs h hI => ?_)
          refine lv_lstore (lv' := [(6, .long v521), (5, .int v508), (0, .ref a0), (1, .ref o1), (2, .ref o9), (3, .ref o17), (4, .int z22)]) hx hb d_law_2071 hl (by decide) rfl (fun ls hl => ?_)
          refine lv_goto (tgt := 2104) hx hb d_law_2073 (by decide) ?_
          refine W.widen (k := ((16015 - (n + 1) * 31) + 31)) (n := ((905842 - (n + 1) * 1745) + 1745)) (show ((16015 - (n + 1) * 31) + 1) ≤ ((16015 - (n + 1) * 31) + 31) by omega) (show ((905842 - (n + 1) * 1745) + 6) ≤ ((905842 - (n + 1) * 1745) + 1745) by omega) ?_
          exact hK2104 w H locs ls h hI (lv_sub hl [2, 3, 4, 5, 6] rfl)
        have h := gie c497 h
        rcases Decidable.em ((v26 &&& 31) = 16) with c522 | c522
        · have h := git c522 h
          refine lv_tableIn (off := 2024) (tgt := 2076) hx hb d_law_52 (by rw [c522]; decide) (by rw [c522]; decide) (by rw [c522]; decide) (by decide) ?_
          refine lv_aload_n hx hb d_law_2076 rfl (lv_at hl 1 rfl) ?_
          refine lv_aload_n hx hb d_law_2077 rfl (lv_at hl 0 rfl) ?_
          refine lv_iload hx hb d_law_2078 (lv_at hl 4 rfl) ?_
          refine lv_iconst (v := 1) hx hb d_law_2080 (by decide) ?_
          refine lv_iadd hx hb d_law_2081 ?_
          obtain ⟨v523, e524, h⟩ := gb h
          refine gw_aldI hx hb hK hI e524 d_law_2082 ?_
          refine lv_aload_n hx hb d_law_2083 rfl (lv_at hl 3 rfl) ?_
          obtain ⟨u525, e526⟩ := gsome h
          refine gw_callI e526 h (gw_runS (As := [.ref o1, .int v523, .ref o17]) (rest := []) hx hb hml hown hT hK hZ hA hI (m_W_mass l hst D g0 o1 v523 o17 w u525 e526) ce_W_mass wd_772 ⟨by decide, by decide⟩ rfl rfl hl.1 rfl (lv_room (Nat.le_of_ble_eq_true rfl)) d_law_2084 ⟨(show (16015 - (n + 1) * 31) + 1 ≤ 601024 by omega), (show (905842 - (n + 1) * 1745) + 6 ≤ 7293000 by omega)⟩) hI hA hexc (show (16015 - (n + 1) * 31) + 1 ≤ 601024 by omega) (show (905842 - (n + 1) * 1745) + 6 ≤ 7293000 by omega) (fun v527 w H locs h hI => ?_)
          refine W.widen (k := ((16015 - (n + 1) * 31) + 1)) (n := ((905842 - (n + 1) * 1745) + 6)) (show (16015 - (n + 1) * 31) + 1 ≤ ((16015 - (n + 1) * 31) + 1) by omega) (show (905842 - (n + 1) * 1745) + 6 ≤ ((905842 - (n + 1) * 1745) + 6) by omega) ?_
          refine lv_istore (lv' := [(5, .int v527), (0, .ref a0), (1, .ref o1), (2, .ref o9), (3, .ref o17), (4, .int z22)]) hx hb d_law_2087 hl (by decide) rfl (fun ls hl => ?_)
          refine lv_aload_n hx hb d_law_2089 rfl (lv_at hl 3 rfl) ?_
          refine lv_aload_n hx hb d_law_2090 rfl (lv_at hl 1 rfl) ?_
          refine lv_iload hx hb d_law_2091 (lv_at hl 5 rfl) ?_
          refine lv_iconst (v := 1) hx hb d_law_2093 (by decide) ?_
          refine lv_iadd hx hb d_law_2094 ?_
          obtain ⟨v528, e529, h⟩ := gb h
          refine gw_aldI hx hb hK hI e529 d_law_2095 ?_
          obtain ⟨q532, e533, h⟩ := gb h
          obtain ⟨u530, e531⟩ := gsome h
          refine gw_callJ e531 h (gw_runV (As := [.int v528]) (rest := []) hx hb hml hown hT hK hZ hA hI (ci := 7) rfl e533 (m_M_mass l hst D g0 o9 v528 w u530 e531) ce_M_mass wd_1110 wd_1112 ⟨by decide, by decide⟩ rfl rfl hl.1 rfl (lv_room (Nat.le_of_ble_eq_true rfl)) d_law_2096 ⟨(show ((16015 - (n + 1) * 31) + 1) + 0 ≤ 601024 by omega), (show ((905842 - (n + 1) * 1745) + 6) + 0 ≤ 7293000 by omega)⟩) hI hA hexc (show ((16015 - (n + 1) * 31) + 1) + 0 ≤ 601024 by omega) (show ((905842 - (n + 1) * 1745) + 6) + 0 ≤ 7293000 by omega) (fun v534 w H locs h hI => ?_)
          refine lv_lstore (lv' := [(6, .long v534), (5, .int v527), (0, .ref a0), (1, .ref o1), (2, .ref o9), (3, .ref o17), (4, .int z22)]) hx hb d_law_2099 hl (by decide) rfl (fun ls hl => ?_)
          refine lv_goto (tgt := 2104) hx hb d_law_2101 (by decide) ?_
          refine W.widen (k := ((16015 - (n + 1) * 31) + 31)) (n := ((905842 - (n + 1) * 1745) + 1745)) (show ((16015 - (n + 1) * 31) + 1) ≤ ((16015 - (n + 1) * 31) + 31) by omega) (show ((905842 - (n + 1) * 1745) + 6) ≤ ((905842 - (n + 1) * 1745) + 1745) by omega) ?_
          exact hK2104 w H locs ls h hI (lv_sub hl [2, 3, 4, 5, 6] rfl)
        have h := gie c522 h
        refine lv_tableOut (tgt := 2104) hx hb d_law_52 (by have q0 := lv_neT c28 (show (0 : Int32).toInt = 0 by decide); have q1 := lv_neT c39 (show (1 : Int32).toInt = 1 by decide); have q2 := lv_neT c100 (show (2 : Int32).toInt = 2 by decide); have q3 := lv_neT c153 (show (3 : Int32).toInt = 3 by decide); have q4 := lv_neT c178 (show (4 : Int32).toInt = 4 by decide); have q5 := lv_neT c207 (show (5 : Int32).toInt = 5 by decide); have q6 := lv_neT c264 (show (6 : Int32).toInt = 6 by decide); have q7 := lv_neT c281 (show (7 : Int32).toInt = 7 by decide); have q8 := lv_neT c318 (show (8 : Int32).toInt = 8 by decide); have q9 := lv_neT c355 (show (9 : Int32).toInt = 9 by decide); have q10 := lv_neT c372 (show (10 : Int32).toInt = 10 by decide); have q11 := lv_neT c383 (show (11 : Int32).toInt = 11 by decide); have q12 := lv_neT c400 (show (12 : Int32).toInt = 12 by decide); have q13 := lv_neT c465 (show (13 : Int32).toInt = 13 by decide); have q14 := lv_neT c480 (show (14 : Int32).toInt = 14 by decide); have q15 := lv_neT c497 (show (15 : Int32).toInt = 15 by decide); have q16 := lv_neT c522 (show (16 : Int32).toInt = 16 by decide); omega) (by decide) ?_
        refine W.widen (k := ((16015 - (n + 1) * 31) + 31)) (n := ((905842 - (n + 1) * 1745) + 1745)) (show (16015 - (n + 1) * 31) ≤ ((16015 - (n + 1) * 31) + 31) by omega) (show (905842 - (n + 1) * 1745) ≤ ((905842 - (n + 1) * 1745) + 1745) by omega) ?_
        exact hK2104 w H locs ls h hI (lv_sub hl [0, 1, 2, 3, 4] rfl)
  refine W.widen (k := (16015 - 513 * 31)) (n := (905842 - 513 * 1745)) (show 112 ≤ (16015 - 513 * 31) by omega) (show 10657 ≤ (905842 - 513 * 1745) by omega) ?_
  exact hL35 513 (Nat.le_refl _) _ w H locs ls h hI (lv_sub hl [4, 3, 2, 1, 0] rfl)
