set_option maxRecDepth 100000 in
theorem wd_72 : Jvm.Cond.classLink "BodySolidsLaw" (8 : Nat) "BodySolids" ∈ gAll := gm 72 rfl rfl
set_option maxRecDepth 100000 in
theorem wd_73 : Jvm.Cond.instantiable "BodySolids" (10 : Nat) ∈ gAll := gm 73 rfl rfl
set_option maxRecDepth 100000 in
theorem wd_74 : Jvm.Cond.methodLink "BodySolidsLaw" (75 : Nat) ({ cls := "BodySolids", name := "<init>", desc := "(J)V" } : Jvm.MethodName) ∈ gAll := gm 74 rfl rfl
set_option maxRecDepth 100000 in
theorem wd_220 : Jvm.Cond.methodLink "BodySolidsLaw" (81 : Nat) ({ cls := "BodySolids", name := "body", desc := "()I" } : Jvm.MethodName) ∈ gAll := gm 220 rfl rfl
set_option maxRecDepth 100000 in
theorem wd_222 : Jvm.Cond.selects "BodySolids" ({ cls := "BodySolids", name := "body", desc := "()I" } : Jvm.MethodName) ({ cls := "BodySolids", name := "body", desc := "()I" } : Jvm.MethodName) ∈ gAll := gm 222 rfl rfl
set_option maxRecDepth 100000 in
theorem wd_308 : Jvm.Cond.methodLink "BodySolidsLaw" (125 : Nat) ({ cls := "BodySolids", name := "clashes", desc := "()I" } : Jvm.MethodName) ∈ gAll := gm 308 rfl rfl
set_option maxRecDepth 100000 in
theorem wd_310 : Jvm.Cond.selects "BodySolids" ({ cls := "BodySolids", name := "clashes", desc := "()I" } : Jvm.MethodName) ({ cls := "BodySolids", name := "clashes", desc := "()I" } : Jvm.MethodName) ∈ gAll := gm 310 rfl rfl
set_option maxRecDepth 100000 in
theorem wd_410 : Jvm.Cond.methodLink "BodySolidsLaw" (136 : Nat) ({ cls := "BodySolids", name := "breaks", desc := "(I)I" } : Jvm.MethodName) ∈ gAll := gm 410 rfl rfl
set_option maxRecDepth 100000 in
theorem wd_412 : Jvm.Cond.selects "BodySolids" ({ cls := "BodySolids", name := "breaks", desc := "(I)I" } : Jvm.MethodName) ({ cls := "BodySolids", name := "breaks", desc := "(I)I" } : Jvm.MethodName) ∈ gAll := gm 412 rfl rfl
set_option maxRecDepth 100000 in
theorem wd_424 : Jvm.Cond.methodLink "BodySolidsLaw" (69 : Nat) ({ cls := "BodySolidsLaw", name := "cell", desc := "([II)I" } : Jvm.MethodName) ∈ gAll := gm 424 rfl rfl
set_option maxRecDepth 100000 in
theorem wd_427 : Jvm.Cond.methodLink "BodySolidsLaw" (88 : Nat) ({ cls := "BodySolidsLaw", name := "box", desc := "(LBodySolids;IJJJJJJ[J)I" } : Jvm.MethodName) ∈ gAll := gm 427 rfl rfl
set_option maxRecDepth 100000 in
theorem wd_568 : Jvm.Cond.methodLink "BodySolidsLaw" (95 : Nat) ({ cls := "BodySolidsLaw", name := "cylinder", desc := "(LBodySolids;IJJJJJ[J)I" } : Jvm.MethodName) ∈ gAll := gm 568 rfl rfl
set_option maxRecDepth 100000 in
theorem wd_577 : Jvm.Cond.methodLink "BodySolidsLaw" (99 : Nat) ({ cls := "BodySolidsLaw", name := "corner", desc := "(LBodySolids;JJ[J)I" } : Jvm.MethodName) ∈ gAll := gm 577 rfl rfl
set_option maxRecDepth 100000 in
theorem wd_584 : Jvm.Cond.methodLink "BodySolidsLaw" (103 : Nat) ({ cls := "BodySolidsLaw", name := "prism", desc := "(LBodySolids;IJJ[J)I" } : Jvm.MethodName) ∈ gAll := gm 584 rfl rfl
set_option maxRecDepth 100000 in
theorem wd_608 : Jvm.Cond.methodLink "BodySolidsLaw" (107 : Nat) ({ cls := "BodySolidsLaw", name := "tube", desc := "(LBodySolids;IJJJJIJ[J)I" } : Jvm.MethodName) ∈ gAll := gm 608 rfl rfl
set_option maxRecDepth 100000 in
theorem wd_622 : Jvm.Cond.methodLink "BodySolidsLaw" (111 : Nat) ({ cls := "BodySolidsLaw", name := "join", desc := "(LBodySolids;II[J)I" } : Jvm.MethodName) ∈ gAll := gm 622 rfl rfl
set_option maxRecDepth 100000 in
theorem wd_635 : Jvm.Cond.methodLink "BodySolidsLaw" (115 : Nat) ({ cls := "BodySolidsLaw", name := "place", desc := "(LBodySolids;IJJII[J)I" } : Jvm.MethodName) ∈ gAll := gm 635 rfl rfl
set_option maxRecDepth 100000 in
theorem wd_675 : Jvm.Cond.methodLink "BodySolidsLaw" (119 : Nat) ({ cls := "BodySolidsLaw", name := "move", desc := "(LBodySolids;IJJII[J)I" } : Jvm.MethodName) ∈ gAll := gm 675 rfl rfl
set_option maxRecDepth 100000 in
theorem wd_690 : Jvm.Cond.methodLink "BodySolidsLaw" (122 : Nat) ({ cls := "BodySolidsLaw", name := "clash", desc := "(LBodySolids;II[J)I" } : Jvm.MethodName) ∈ gAll := gm 690 rfl rfl
set_option maxRecDepth 100000 in
theorem wd_697 : Jvm.Cond.methodLink "BodySolidsLaw" (129 : Nat) ({ cls := "BodySolidsLaw", name := "pair", desc := "(LBodySolids;II[J)I" } : Jvm.MethodName) ∈ gAll := gm 697 rfl rfl
set_option maxRecDepth 100000 in
theorem wd_704 : Jvm.Cond.methodLink "BodySolidsLaw" (132 : Nat) ({ cls := "BodySolidsLaw", name := "keepOut", desc := "(LBodySolids;JJJJIJ[J)I" } : Jvm.MethodName) ∈ gAll := gm 704 rfl rfl
set_option maxRecDepth 100000 in
theorem wd_728 : Jvm.Cond.methodLink "BodySolidsLaw" (141 : Nat) ({ cls := "BodySolidsLaw", name := "bound", desc := "(LBodySolids;II[J)I" } : Jvm.MethodName) ∈ gAll := gm 728 rfl rfl
set_option maxRecDepth 100000 in
theorem wd_756 : Jvm.Cond.methodLink "BodySolidsLaw" (144 : Nat) ({ cls := "BodySolidsLaw", name := "section", desc := "(LBodySolids;JII[J)I" } : Jvm.MethodName) ∈ gAll := gm 756 rfl rfl
set_option maxRecDepth 100000 in
theorem wd_772 : Jvm.Cond.methodLink "BodySolidsLaw" (148 : Nat) ({ cls := "BodySolidsLaw", name := "mass", desc := "(LBodySolids;I[J)I" } : Jvm.MethodName) ∈ gAll := gm 772 rfl rfl
set_option maxRecDepth 100000 in
theorem wd_779 : Jvm.Cond.classLink "BodySolidsLaw" (78 : Nat) "BodySolidsModel" ∈ gAll := gm 779 rfl rfl
set_option maxRecDepth 100000 in
theorem wd_780 : Jvm.Cond.instantiable "BodySolidsModel" (27 : Nat) ∈ gAll := gm 780 rfl rfl
set_option maxRecDepth 100000 in
theorem wd_781 : Jvm.Cond.methodLink "BodySolidsLaw" (80 : Nat) ({ cls := "BodySolidsModel", name := "<init>", desc := "(J)V" } : Jvm.MethodName) ∈ gAll := gm 781 rfl rfl
set_option maxRecDepth 100000 in
theorem wd_868 : Jvm.Cond.methodLink "BodySolidsLaw" (92 : Nat) ({ cls := "BodySolidsModel", name := "thrown", desc := "()I" } : Jvm.MethodName) ∈ gAll := gm 868 rfl rfl
set_option maxRecDepth 100000 in
theorem wd_870 : Jvm.Cond.selects "BodySolidsModel" ({ cls := "BodySolidsModel", name := "thrown", desc := "()I" } : Jvm.MethodName) ({ cls := "BodySolidsModel", name := "thrown", desc := "()I" } : Jvm.MethodName) ∈ gAll := gm 870 rfl rfl
set_option maxRecDepth 100000 in
theorem wd_872 : Jvm.Cond.methodLink "BodySolidsLaw" (85 : Nat) ({ cls := "BodySolidsModel", name := "body", desc := "()I" } : Jvm.MethodName) ∈ gAll := gm 872 rfl rfl
set_option maxRecDepth 100000 in
theorem wd_874 : Jvm.Cond.selects "BodySolidsModel" ({ cls := "BodySolidsModel", name := "body", desc := "()I" } : Jvm.MethodName) ({ cls := "BodySolidsModel", name := "body", desc := "()I" } : Jvm.MethodName) ∈ gAll := gm 874 rfl rfl
set_option maxRecDepth 100000 in
theorem wd_876 : Jvm.Cond.methodLink "BodySolidsLaw" (91 : Nat) ({ cls := "BodySolidsModel", name := "box", desc := "(IJJJJJJ)Z" } : Jvm.MethodName) ∈ gAll := gm 876 rfl rfl
set_option maxRecDepth 100000 in
theorem wd_878 : Jvm.Cond.selects "BodySolidsModel" ({ cls := "BodySolidsModel", name := "box", desc := "(IJJJJJJ)Z" } : Jvm.MethodName) ({ cls := "BodySolidsModel", name := "box", desc := "(IJJJJJJ)Z" } : Jvm.MethodName) ∈ gAll := gm 878 rfl rfl
set_option maxRecDepth 100000 in
theorem wd_906 : Jvm.Cond.methodLink "BodySolidsLaw" (98 : Nat) ({ cls := "BodySolidsModel", name := "cylinder", desc := "(IJJJJJ)Z" } : Jvm.MethodName) ∈ gAll := gm 906 rfl rfl
set_option maxRecDepth 100000 in
theorem wd_908 : Jvm.Cond.selects "BodySolidsModel" ({ cls := "BodySolidsModel", name := "cylinder", desc := "(IJJJJJ)Z" } : Jvm.MethodName) ({ cls := "BodySolidsModel", name := "cylinder", desc := "(IJJJJJ)Z" } : Jvm.MethodName) ∈ gAll := gm 908 rfl rfl
set_option maxRecDepth 100000 in
theorem wd_910 : Jvm.Cond.methodLink "BodySolidsLaw" (102 : Nat) ({ cls := "BodySolidsModel", name := "corner", desc := "(JJ)Z" } : Jvm.MethodName) ∈ gAll := gm 910 rfl rfl
set_option maxRecDepth 100000 in
theorem wd_912 : Jvm.Cond.selects "BodySolidsModel" ({ cls := "BodySolidsModel", name := "corner", desc := "(JJ)Z" } : Jvm.MethodName) ({ cls := "BodySolidsModel", name := "corner", desc := "(JJ)Z" } : Jvm.MethodName) ∈ gAll := gm 912 rfl rfl
set_option maxRecDepth 100000 in
theorem wd_914 : Jvm.Cond.methodLink "BodySolidsLaw" (106 : Nat) ({ cls := "BodySolidsModel", name := "prism", desc := "(IJJ)Z" } : Jvm.MethodName) ∈ gAll := gm 914 rfl rfl
set_option maxRecDepth 100000 in
theorem wd_916 : Jvm.Cond.selects "BodySolidsModel" ({ cls := "BodySolidsModel", name := "prism", desc := "(IJJ)Z" } : Jvm.MethodName) ({ cls := "BodySolidsModel", name := "prism", desc := "(IJJ)Z" } : Jvm.MethodName) ∈ gAll := gm 916 rfl rfl
set_option maxRecDepth 100000 in
theorem wd_925 : Jvm.Cond.methodLink "BodySolidsLaw" (110 : Nat) ({ cls := "BodySolidsModel", name := "tube", desc := "(IJJJJIJ)Z" } : Jvm.MethodName) ∈ gAll := gm 925 rfl rfl
set_option maxRecDepth 100000 in
theorem wd_927 : Jvm.Cond.selects "BodySolidsModel" ({ cls := "BodySolidsModel", name := "tube", desc := "(IJJJJIJ)Z" } : Jvm.MethodName) ({ cls := "BodySolidsModel", name := "tube", desc := "(IJJJJIJ)Z" } : Jvm.MethodName) ∈ gAll := gm 927 rfl rfl
set_option maxRecDepth 100000 in
theorem wd_932 : Jvm.Cond.methodLink "BodySolidsLaw" (114 : Nat) ({ cls := "BodySolidsModel", name := "join", desc := "(II)I" } : Jvm.MethodName) ∈ gAll := gm 932 rfl rfl
set_option maxRecDepth 100000 in
theorem wd_934 : Jvm.Cond.selects "BodySolidsModel" ({ cls := "BodySolidsModel", name := "join", desc := "(II)I" } : Jvm.MethodName) ({ cls := "BodySolidsModel", name := "join", desc := "(II)I" } : Jvm.MethodName) ∈ gAll := gm 934 rfl rfl
set_option maxRecDepth 100000 in
theorem wd_940 : Jvm.Cond.methodLink "BodySolidsLaw" (118 : Nat) ({ cls := "BodySolidsModel", name := "place", desc := "(IJJII)I" } : Jvm.MethodName) ∈ gAll := gm 940 rfl rfl
set_option maxRecDepth 100000 in
theorem wd_942 : Jvm.Cond.selects "BodySolidsModel" ({ cls := "BodySolidsModel", name := "place", desc := "(IJJII)I" } : Jvm.MethodName) ({ cls := "BodySolidsModel", name := "place", desc := "(IJJII)I" } : Jvm.MethodName) ∈ gAll := gm 942 rfl rfl
set_option maxRecDepth 100000 in
theorem wd_951 : Jvm.Cond.methodLink "BodySolidsLaw" (121 : Nat) ({ cls := "BodySolidsModel", name := "move", desc := "(IJJII)Z" } : Jvm.MethodName) ∈ gAll := gm 951 rfl rfl
set_option maxRecDepth 100000 in
theorem wd_953 : Jvm.Cond.selects "BodySolidsModel" ({ cls := "BodySolidsModel", name := "move", desc := "(IJJII)Z" } : Jvm.MethodName) ({ cls := "BodySolidsModel", name := "move", desc := "(IJJII)Z" } : Jvm.MethodName) ∈ gAll := gm 953 rfl rfl
set_option maxRecDepth 100000 in
theorem wd_959 : Jvm.Cond.methodLink "BodySolidsLaw" (124 : Nat) ({ cls := "BodySolidsModel", name := "clash", desc := "(II)I" } : Jvm.MethodName) ∈ gAll := gm 959 rfl rfl
set_option maxRecDepth 100000 in
theorem wd_961 : Jvm.Cond.selects "BodySolidsModel" ({ cls := "BodySolidsModel", name := "clash", desc := "(II)I" } : Jvm.MethodName) ({ cls := "BodySolidsModel", name := "clash", desc := "(II)I" } : Jvm.MethodName) ∈ gAll := gm 961 rfl rfl
set_option maxRecDepth 100000 in
theorem wd_1067 : Jvm.Cond.methodLink "BodySolidsLaw" (128 : Nat) ({ cls := "BodySolidsModel", name := "clashes", desc := "()I" } : Jvm.MethodName) ∈ gAll := gm 1067 rfl rfl
set_option maxRecDepth 100000 in
theorem wd_1069 : Jvm.Cond.selects "BodySolidsModel" ({ cls := "BodySolidsModel", name := "clashes", desc := "()I" } : Jvm.MethodName) ({ cls := "BodySolidsModel", name := "clashes", desc := "()I" } : Jvm.MethodName) ∈ gAll := gm 1069 rfl rfl
set_option maxRecDepth 100000 in
theorem wd_1071 : Jvm.Cond.methodLink "BodySolidsLaw" (131 : Nat) ({ cls := "BodySolidsModel", name := "pair", desc := "(II)I" } : Jvm.MethodName) ∈ gAll := gm 1071 rfl rfl
set_option maxRecDepth 100000 in
theorem wd_1073 : Jvm.Cond.selects "BodySolidsModel" ({ cls := "BodySolidsModel", name := "pair", desc := "(II)I" } : Jvm.MethodName) ({ cls := "BodySolidsModel", name := "pair", desc := "(II)I" } : Jvm.MethodName) ∈ gAll := gm 1073 rfl rfl
set_option maxRecDepth 100000 in
theorem wd_1075 : Jvm.Cond.methodLink "BodySolidsLaw" (135 : Nat) ({ cls := "BodySolidsModel", name := "keepOut", desc := "(JJJJIJ)Z" } : Jvm.MethodName) ∈ gAll := gm 1075 rfl rfl
set_option maxRecDepth 100000 in
theorem wd_1077 : Jvm.Cond.selects "BodySolidsModel" ({ cls := "BodySolidsModel", name := "keepOut", desc := "(JJJJIJ)Z" } : Jvm.MethodName) ({ cls := "BodySolidsModel", name := "keepOut", desc := "(JJJJIJ)Z" } : Jvm.MethodName) ∈ gAll := gm 1077 rfl rfl
set_option maxRecDepth 100000 in
theorem wd_1084 : Jvm.Cond.methodLink "BodySolidsLaw" (140 : Nat) ({ cls := "BodySolidsModel", name := "breaks", desc := "(I)I" } : Jvm.MethodName) ∈ gAll := gm 1084 rfl rfl
set_option maxRecDepth 100000 in
theorem wd_1086 : Jvm.Cond.selects "BodySolidsModel" ({ cls := "BodySolidsModel", name := "breaks", desc := "(I)I" } : Jvm.MethodName) ({ cls := "BodySolidsModel", name := "breaks", desc := "(I)I" } : Jvm.MethodName) ∈ gAll := gm 1086 rfl rfl
set_option maxRecDepth 100000 in
theorem wd_1098 : Jvm.Cond.methodLink "BodySolidsLaw" (143 : Nat) ({ cls := "BodySolidsModel", name := "bound", desc := "(II)J" } : Jvm.MethodName) ∈ gAll := gm 1098 rfl rfl
set_option maxRecDepth 100000 in
theorem wd_1100 : Jvm.Cond.selects "BodySolidsModel" ({ cls := "BodySolidsModel", name := "bound", desc := "(II)J" } : Jvm.MethodName) ({ cls := "BodySolidsModel", name := "bound", desc := "(II)J" } : Jvm.MethodName) ∈ gAll := gm 1100 rfl rfl
set_option maxRecDepth 100000 in
theorem wd_1106 : Jvm.Cond.methodLink "BodySolidsLaw" (147 : Nat) ({ cls := "BodySolidsModel", name := "section", desc := "(JII)J" } : Jvm.MethodName) ∈ gAll := gm 1106 rfl rfl
set_option maxRecDepth 100000 in
theorem wd_1108 : Jvm.Cond.selects "BodySolidsModel" ({ cls := "BodySolidsModel", name := "section", desc := "(JII)J" } : Jvm.MethodName) ({ cls := "BodySolidsModel", name := "section", desc := "(JII)J" } : Jvm.MethodName) ∈ gAll := gm 1108 rfl rfl
set_option maxRecDepth 100000 in
theorem wd_1110 : Jvm.Cond.methodLink "BodySolidsLaw" (151 : Nat) ({ cls := "BodySolidsModel", name := "mass", desc := "(I)J" } : Jvm.MethodName) ∈ gAll := gm 1110 rfl rfl
set_option maxRecDepth 100000 in
theorem wd_1112 : Jvm.Cond.selects "BodySolidsModel" ({ cls := "BodySolidsModel", name := "mass", desc := "(I)J" } : Jvm.MethodName) ({ cls := "BodySolidsModel", name := "mass", desc := "(I)J" } : Jvm.MethodName) ∈ gAll := gm 1112 rfl rfl
set_option maxRecDepth 100000 in
theorem wd_1121 : Jvm.Cond.constantLong "BodySolidsLaw" (86 : Nat) (4294967295 : Int64) ∈ gAll := gm 1121 rfl rfl
abbrev b_law : ByteArray := code
def y_law : MethodName := ⟨"BodySolidsLaw", "law", "([I)Z"⟩
theorem d_law_0 : decode b_law 0 = .ok (.new 8, 3) := by decide +kernel
theorem d_law_3 : decode b_law 3 = .ok (.dup, 1) := by decide +kernel
theorem d_law_4 : decode b_law 4 = .ok (.aload_n 0, 1) := by decide +kernel
theorem d_law_5 : decode b_law 5 = .ok (.iconst 0, 1) := by decide +kernel
theorem d_law_6 : decode b_law 6 = .ok (.invokestatic 69, 3) := by decide +kernel
theorem d_law_9 : decode b_law 9 = .ok (.i2l, 1) := by decide +kernel
theorem d_law_10 : decode b_law 10 = .ok (.invokespecial 75, 3) := by decide +kernel
theorem d_law_13 : decode b_law 13 = .ok (.astore_n 1, 1) := by decide +kernel
theorem d_law_14 : decode b_law 14 = .ok (.new 78, 3) := by decide +kernel
theorem d_law_17 : decode b_law 17 = .ok (.dup, 1) := by decide +kernel
theorem d_law_18 : decode b_law 18 = .ok (.aload_n 0, 1) := by decide +kernel
theorem d_law_19 : decode b_law 19 = .ok (.iconst 0, 1) := by decide +kernel
theorem d_law_20 : decode b_law 20 = .ok (.invokestatic 69, 3) := by decide +kernel
theorem d_law_23 : decode b_law 23 = .ok (.i2l, 1) := by decide +kernel
theorem d_law_24 : decode b_law 24 = .ok (.invokespecial 80, 3) := by decide +kernel
theorem d_law_27 : decode b_law 27 = .ok (.astore_n 2, 1) := by decide +kernel
theorem d_law_28 : decode b_law 28 = .ok (.iconst 1, 1) := by decide +kernel
theorem d_law_29 : decode b_law 29 = .ok (.newarray .long, 2) := by decide +kernel
theorem d_law_31 : decode b_law 31 = .ok (.astore_n 3, 1) := by decide +kernel
theorem d_law_32 : decode b_law 32 = .ok (.iconst 1, 1) := by decide +kernel
theorem d_law_33 : decode b_law 33 = .ok (.istore 4, 2) := by decide +kernel
theorem d_law_35 : decode b_law 35 = .ok (.iload 4, 2) := by decide +kernel
theorem d_law_37 : decode b_law 37 = .ok (.aload_n 0, 1) := by decide +kernel
theorem d_law_38 : decode b_law 38 = .ok (.arraylength, 1) := by decide +kernel
theorem d_law_39 : decode b_law 39 = .ok (.bipush 14, 2) := by decide +kernel
theorem d_law_41 : decode b_law 41 = .ok (.isub, 1) := by decide +kernel
theorem d_law_42 : decode b_law 42 = .ok (.if_icmp .gt 2471, 3) := by decide +kernel
theorem d_law_45 : decode b_law 45 = .ok (.aload_n 0, 1) := by decide +kernel
theorem d_law_46 : decode b_law 46 = .ok (.iload 4, 2) := by decide +kernel
theorem d_law_48 : decode b_law 48 = .ok (.iaload, 1) := by decide +kernel
theorem d_law_49 : decode b_law 49 = .ok (.bipush 31, 2) := by decide +kernel
theorem d_law_51 : decode b_law 51 = .ok (.iand, 1) := by decide +kernel
theorem d_law_52 : decode b_law 52 = .ok (.tableswitch 2455 0 16 #[84, 97, 440, 735, 874, 1025, 1334, 1402, 1574, 1753, 1821, 1834, 1902, 2197, 2222, 2289, 2400], 84) := by decide +kernel
theorem d_law_136 : decode b_law 136 = .ok (.aload_n 1, 1) := by decide +kernel
theorem d_law_137 : decode b_law 137 = .ok (.invokevirtual 81, 3) := by decide +kernel
theorem d_law_140 : decode b_law 140 = .ok (.aload_n 2, 1) := by decide +kernel
theorem d_law_141 : decode b_law 141 = .ok (.invokevirtual 85, 3) := by decide +kernel
theorem d_law_144 : decode b_law 144 = .ok (.if_icmp .eq 2363, 3) := by decide +kernel
theorem d_law_147 : decode b_law 147 = .ok (.iconst 0, 1) := by decide +kernel
theorem d_law_148 : decode b_law 148 = .ok (.ireturn, 1) := by decide +kernel
theorem d_law_149 : decode b_law 149 = .ok (.aload_n 1, 1) := by decide +kernel
theorem d_law_150 : decode b_law 150 = .ok (.aload_n 0, 1) := by decide +kernel
theorem d_law_151 : decode b_law 151 = .ok (.iload 4, 2) := by decide +kernel
theorem d_law_153 : decode b_law 153 = .ok (.iconst 1, 1) := by decide +kernel
theorem d_law_154 : decode b_law 154 = .ok (.iadd, 1) := by decide +kernel
theorem d_law_155 : decode b_law 155 = .ok (.iaload, 1) := by decide +kernel
theorem d_law_156 : decode b_law 156 = .ok (.aload_n 0, 1) := by decide +kernel
theorem d_law_157 : decode b_law 157 = .ok (.iload 4, 2) := by decide +kernel
theorem d_law_159 : decode b_law 159 = .ok (.iconst 2, 1) := by decide +kernel
theorem d_law_160 : decode b_law 160 = .ok (.iadd, 1) := by decide +kernel
theorem d_law_161 : decode b_law 161 = .ok (.iaload, 1) := by decide +kernel
theorem d_law_162 : decode b_law 162 = .ok (.i2l, 1) := by decide +kernel
theorem d_law_163 : decode b_law 163 = .ok (.bipush 32, 2) := by decide +kernel
theorem d_law_165 : decode b_law 165 = .ok (.lshl, 1) := by decide +kernel
theorem d_law_166 : decode b_law 166 = .ok (.aload_n 0, 1) := by decide +kernel
theorem d_law_167 : decode b_law 167 = .ok (.iload 4, 2) := by decide +kernel
theorem d_law_169 : decode b_law 169 = .ok (.iconst 3, 1) := by decide +kernel
theorem d_law_170 : decode b_law 170 = .ok (.iadd, 1) := by decide +kernel
theorem d_law_171 : decode b_law 171 = .ok (.iaload, 1) := by decide +kernel
theorem d_law_172 : decode b_law 172 = .ok (.i2l, 1) := by decide +kernel
theorem d_law_173 : decode b_law 173 = .ok (.ldc2_w 86, 3) := by decide +kernel
theorem d_law_176 : decode b_law 176 = .ok (.land, 1) := by decide +kernel
theorem d_law_177 : decode b_law 177 = .ok (.lor, 1) := by decide +kernel
theorem d_law_178 : decode b_law 178 = .ok (.aload_n 0, 1) := by decide +kernel
theorem d_law_179 : decode b_law 179 = .ok (.iload 4, 2) := by decide +kernel
theorem d_law_181 : decode b_law 181 = .ok (.iconst 4, 1) := by decide +kernel
theorem d_law_182 : decode b_law 182 = .ok (.iadd, 1) := by decide +kernel
theorem d_law_183 : decode b_law 183 = .ok (.iaload, 1) := by decide +kernel
theorem d_law_184 : decode b_law 184 = .ok (.i2l, 1) := by decide +kernel
theorem d_law_185 : decode b_law 185 = .ok (.bipush 32, 2) := by decide +kernel
theorem d_law_187 : decode b_law 187 = .ok (.lshl, 1) := by decide +kernel
theorem d_law_188 : decode b_law 188 = .ok (.aload_n 0, 1) := by decide +kernel
theorem d_law_189 : decode b_law 189 = .ok (.iload 4, 2) := by decide +kernel
theorem d_law_191 : decode b_law 191 = .ok (.iconst 5, 1) := by decide +kernel
theorem d_law_192 : decode b_law 192 = .ok (.iadd, 1) := by decide +kernel
theorem d_law_193 : decode b_law 193 = .ok (.iaload, 1) := by decide +kernel
theorem d_law_194 : decode b_law 194 = .ok (.i2l, 1) := by decide +kernel
theorem d_law_195 : decode b_law 195 = .ok (.ldc2_w 86, 3) := by decide +kernel
theorem d_law_198 : decode b_law 198 = .ok (.land, 1) := by decide +kernel
theorem d_law_199 : decode b_law 199 = .ok (.lor, 1) := by decide +kernel
theorem d_law_200 : decode b_law 200 = .ok (.aload_n 0, 1) := by decide +kernel
theorem d_law_201 : decode b_law 201 = .ok (.iload 4, 2) := by decide +kernel
theorem d_law_203 : decode b_law 203 = .ok (.bipush 6, 2) := by decide +kernel
theorem d_law_205 : decode b_law 205 = .ok (.iadd, 1) := by decide +kernel
theorem d_law_206 : decode b_law 206 = .ok (.iaload, 1) := by decide +kernel
theorem d_law_207 : decode b_law 207 = .ok (.i2l, 1) := by decide +kernel
theorem d_law_208 : decode b_law 208 = .ok (.bipush 32, 2) := by decide +kernel
theorem d_law_210 : decode b_law 210 = .ok (.lshl, 1) := by decide +kernel
theorem d_law_211 : decode b_law 211 = .ok (.aload_n 0, 1) := by decide +kernel
theorem d_law_212 : decode b_law 212 = .ok (.iload 4, 2) := by decide +kernel
theorem d_law_214 : decode b_law 214 = .ok (.bipush 7, 2) := by decide +kernel
theorem d_law_216 : decode b_law 216 = .ok (.iadd, 1) := by decide +kernel
theorem d_law_217 : decode b_law 217 = .ok (.iaload, 1) := by decide +kernel
theorem d_law_218 : decode b_law 218 = .ok (.i2l, 1) := by decide +kernel
theorem d_law_219 : decode b_law 219 = .ok (.ldc2_w 86, 3) := by decide +kernel
theorem d_law_222 : decode b_law 222 = .ok (.land, 1) := by decide +kernel
theorem d_law_223 : decode b_law 223 = .ok (.lor, 1) := by decide +kernel
theorem d_law_224 : decode b_law 224 = .ok (.aload_n 0, 1) := by decide +kernel
theorem d_law_225 : decode b_law 225 = .ok (.iload 4, 2) := by decide +kernel
theorem d_law_227 : decode b_law 227 = .ok (.bipush 8, 2) := by decide +kernel
theorem d_law_229 : decode b_law 229 = .ok (.iadd, 1) := by decide +kernel
theorem d_law_230 : decode b_law 230 = .ok (.iaload, 1) := by decide +kernel
theorem d_law_231 : decode b_law 231 = .ok (.i2l, 1) := by decide +kernel
theorem d_law_232 : decode b_law 232 = .ok (.bipush 32, 2) := by decide +kernel
theorem d_law_234 : decode b_law 234 = .ok (.lshl, 1) := by decide +kernel
theorem d_law_235 : decode b_law 235 = .ok (.aload_n 0, 1) := by decide +kernel
theorem d_law_236 : decode b_law 236 = .ok (.iload 4, 2) := by decide +kernel
theorem d_law_238 : decode b_law 238 = .ok (.bipush 9, 2) := by decide +kernel
theorem d_law_240 : decode b_law 240 = .ok (.iadd, 1) := by decide +kernel
theorem d_law_241 : decode b_law 241 = .ok (.iaload, 1) := by decide +kernel
theorem d_law_242 : decode b_law 242 = .ok (.i2l, 1) := by decide +kernel
theorem d_law_243 : decode b_law 243 = .ok (.ldc2_w 86, 3) := by decide +kernel
theorem d_law_246 : decode b_law 246 = .ok (.land, 1) := by decide +kernel
theorem d_law_247 : decode b_law 247 = .ok (.lor, 1) := by decide +kernel
theorem d_law_248 : decode b_law 248 = .ok (.aload_n 0, 1) := by decide +kernel
theorem d_law_249 : decode b_law 249 = .ok (.iload 4, 2) := by decide +kernel
theorem d_law_251 : decode b_law 251 = .ok (.bipush 10, 2) := by decide +kernel
theorem d_law_253 : decode b_law 253 = .ok (.iadd, 1) := by decide +kernel
theorem d_law_254 : decode b_law 254 = .ok (.iaload, 1) := by decide +kernel
theorem d_law_255 : decode b_law 255 = .ok (.i2l, 1) := by decide +kernel
theorem d_law_256 : decode b_law 256 = .ok (.bipush 32, 2) := by decide +kernel
theorem d_law_258 : decode b_law 258 = .ok (.lshl, 1) := by decide +kernel
theorem d_law_259 : decode b_law 259 = .ok (.aload_n 0, 1) := by decide +kernel
theorem d_law_260 : decode b_law 260 = .ok (.iload 4, 2) := by decide +kernel
theorem d_law_262 : decode b_law 262 = .ok (.bipush 11, 2) := by decide +kernel
theorem d_law_264 : decode b_law 264 = .ok (.iadd, 1) := by decide +kernel
theorem d_law_265 : decode b_law 265 = .ok (.iaload, 1) := by decide +kernel
theorem d_law_266 : decode b_law 266 = .ok (.i2l, 1) := by decide +kernel
theorem d_law_267 : decode b_law 267 = .ok (.ldc2_w 86, 3) := by decide +kernel
theorem d_law_270 : decode b_law 270 = .ok (.land, 1) := by decide +kernel
theorem d_law_271 : decode b_law 271 = .ok (.lor, 1) := by decide +kernel
theorem d_law_272 : decode b_law 272 = .ok (.aload_n 0, 1) := by decide +kernel
theorem d_law_273 : decode b_law 273 = .ok (.iload 4, 2) := by decide +kernel
theorem d_law_275 : decode b_law 275 = .ok (.bipush 12, 2) := by decide +kernel
theorem d_law_277 : decode b_law 277 = .ok (.iadd, 1) := by decide +kernel
theorem d_law_278 : decode b_law 278 = .ok (.iaload, 1) := by decide +kernel
theorem d_law_279 : decode b_law 279 = .ok (.i2l, 1) := by decide +kernel
theorem d_law_280 : decode b_law 280 = .ok (.bipush 32, 2) := by decide +kernel
theorem d_law_282 : decode b_law 282 = .ok (.lshl, 1) := by decide +kernel
theorem d_law_283 : decode b_law 283 = .ok (.aload_n 0, 1) := by decide +kernel
theorem d_law_284 : decode b_law 284 = .ok (.iload 4, 2) := by decide +kernel
theorem d_law_286 : decode b_law 286 = .ok (.bipush 13, 2) := by decide +kernel
theorem d_law_288 : decode b_law 288 = .ok (.iadd, 1) := by decide +kernel
theorem d_law_289 : decode b_law 289 = .ok (.iaload, 1) := by decide +kernel
theorem d_law_290 : decode b_law 290 = .ok (.i2l, 1) := by decide +kernel
theorem d_law_291 : decode b_law 291 = .ok (.ldc2_w 86, 3) := by decide +kernel
theorem d_law_294 : decode b_law 294 = .ok (.land, 1) := by decide +kernel
theorem d_law_295 : decode b_law 295 = .ok (.lor, 1) := by decide +kernel
theorem d_law_296 : decode b_law 296 = .ok (.aload_n 3, 1) := by decide +kernel
theorem d_law_297 : decode b_law 297 = .ok (.invokestatic 88, 3) := by decide +kernel
theorem d_law_300 : decode b_law 300 = .ok (.istore 5, 2) := by decide +kernel
theorem d_law_302 : decode b_law 302 = .ok (.aload_n 2, 1) := by decide +kernel
theorem d_law_303 : decode b_law 303 = .ok (.aload_n 0, 1) := by decide +kernel
theorem d_law_304 : decode b_law 304 = .ok (.iload 4, 2) := by decide +kernel
theorem d_law_306 : decode b_law 306 = .ok (.iconst 1, 1) := by decide +kernel
theorem d_law_307 : decode b_law 307 = .ok (.iadd, 1) := by decide +kernel
theorem d_law_308 : decode b_law 308 = .ok (.iaload, 1) := by decide +kernel
theorem d_law_309 : decode b_law 309 = .ok (.aload_n 0, 1) := by decide +kernel
theorem d_law_310 : decode b_law 310 = .ok (.iload 4, 2) := by decide +kernel
theorem d_law_312 : decode b_law 312 = .ok (.iconst 2, 1) := by decide +kernel
theorem d_law_313 : decode b_law 313 = .ok (.iadd, 1) := by decide +kernel
theorem d_law_314 : decode b_law 314 = .ok (.iaload, 1) := by decide +kernel
theorem d_law_315 : decode b_law 315 = .ok (.i2l, 1) := by decide +kernel
theorem d_law_316 : decode b_law 316 = .ok (.bipush 32, 2) := by decide +kernel
theorem d_law_318 : decode b_law 318 = .ok (.lshl, 1) := by decide +kernel
theorem d_law_319 : decode b_law 319 = .ok (.aload_n 0, 1) := by decide +kernel
theorem d_law_320 : decode b_law 320 = .ok (.iload 4, 2) := by decide +kernel
theorem d_law_322 : decode b_law 322 = .ok (.iconst 3, 1) := by decide +kernel
theorem d_law_323 : decode b_law 323 = .ok (.iadd, 1) := by decide +kernel
theorem d_law_324 : decode b_law 324 = .ok (.iaload, 1) := by decide +kernel
theorem d_law_325 : decode b_law 325 = .ok (.i2l, 1) := by decide +kernel
theorem d_law_326 : decode b_law 326 = .ok (.ldc2_w 86, 3) := by decide +kernel
theorem d_law_329 : decode b_law 329 = .ok (.land, 1) := by decide +kernel
theorem d_law_330 : decode b_law 330 = .ok (.lor, 1) := by decide +kernel
theorem d_law_331 : decode b_law 331 = .ok (.aload_n 0, 1) := by decide +kernel
theorem d_law_332 : decode b_law 332 = .ok (.iload 4, 2) := by decide +kernel
theorem d_law_334 : decode b_law 334 = .ok (.iconst 4, 1) := by decide +kernel
theorem d_law_335 : decode b_law 335 = .ok (.iadd, 1) := by decide +kernel
theorem d_law_336 : decode b_law 336 = .ok (.iaload, 1) := by decide +kernel
theorem d_law_337 : decode b_law 337 = .ok (.i2l, 1) := by decide +kernel
theorem d_law_338 : decode b_law 338 = .ok (.bipush 32, 2) := by decide +kernel
theorem d_law_340 : decode b_law 340 = .ok (.lshl, 1) := by decide +kernel
theorem d_law_341 : decode b_law 341 = .ok (.aload_n 0, 1) := by decide +kernel
theorem d_law_342 : decode b_law 342 = .ok (.iload 4, 2) := by decide +kernel
theorem d_law_344 : decode b_law 344 = .ok (.iconst 5, 1) := by decide +kernel
theorem d_law_345 : decode b_law 345 = .ok (.iadd, 1) := by decide +kernel
theorem d_law_346 : decode b_law 346 = .ok (.iaload, 1) := by decide +kernel
theorem d_law_347 : decode b_law 347 = .ok (.i2l, 1) := by decide +kernel
theorem d_law_348 : decode b_law 348 = .ok (.ldc2_w 86, 3) := by decide +kernel
theorem d_law_351 : decode b_law 351 = .ok (.land, 1) := by decide +kernel
theorem d_law_352 : decode b_law 352 = .ok (.lor, 1) := by decide +kernel
theorem d_law_353 : decode b_law 353 = .ok (.aload_n 0, 1) := by decide +kernel
theorem d_law_354 : decode b_law 354 = .ok (.iload 4, 2) := by decide +kernel
theorem d_law_356 : decode b_law 356 = .ok (.bipush 6, 2) := by decide +kernel
theorem d_law_358 : decode b_law 358 = .ok (.iadd, 1) := by decide +kernel
theorem d_law_359 : decode b_law 359 = .ok (.iaload, 1) := by decide +kernel
theorem d_law_360 : decode b_law 360 = .ok (.i2l, 1) := by decide +kernel
theorem d_law_361 : decode b_law 361 = .ok (.bipush 32, 2) := by decide +kernel
theorem d_law_363 : decode b_law 363 = .ok (.lshl, 1) := by decide +kernel
theorem d_law_364 : decode b_law 364 = .ok (.aload_n 0, 1) := by decide +kernel
theorem d_law_365 : decode b_law 365 = .ok (.iload 4, 2) := by decide +kernel
theorem d_law_367 : decode b_law 367 = .ok (.bipush 7, 2) := by decide +kernel
theorem d_law_369 : decode b_law 369 = .ok (.iadd, 1) := by decide +kernel
theorem d_law_370 : decode b_law 370 = .ok (.iaload, 1) := by decide +kernel
theorem d_law_371 : decode b_law 371 = .ok (.i2l, 1) := by decide +kernel
theorem d_law_372 : decode b_law 372 = .ok (.ldc2_w 86, 3) := by decide +kernel
theorem d_law_375 : decode b_law 375 = .ok (.land, 1) := by decide +kernel
theorem d_law_376 : decode b_law 376 = .ok (.lor, 1) := by decide +kernel
theorem d_law_377 : decode b_law 377 = .ok (.aload_n 0, 1) := by decide +kernel
theorem d_law_378 : decode b_law 378 = .ok (.iload 4, 2) := by decide +kernel
theorem d_law_380 : decode b_law 380 = .ok (.bipush 8, 2) := by decide +kernel
theorem d_law_382 : decode b_law 382 = .ok (.iadd, 1) := by decide +kernel
theorem d_law_383 : decode b_law 383 = .ok (.iaload, 1) := by decide +kernel
theorem d_law_384 : decode b_law 384 = .ok (.i2l, 1) := by decide +kernel
theorem d_law_385 : decode b_law 385 = .ok (.bipush 32, 2) := by decide +kernel
theorem d_law_387 : decode b_law 387 = .ok (.lshl, 1) := by decide +kernel
theorem d_law_388 : decode b_law 388 = .ok (.aload_n 0, 1) := by decide +kernel
theorem d_law_389 : decode b_law 389 = .ok (.iload 4, 2) := by decide +kernel
theorem d_law_391 : decode b_law 391 = .ok (.bipush 9, 2) := by decide +kernel
theorem d_law_393 : decode b_law 393 = .ok (.iadd, 1) := by decide +kernel
theorem d_law_394 : decode b_law 394 = .ok (.iaload, 1) := by decide +kernel
theorem d_law_395 : decode b_law 395 = .ok (.i2l, 1) := by decide +kernel
theorem d_law_396 : decode b_law 396 = .ok (.ldc2_w 86, 3) := by decide +kernel
theorem d_law_399 : decode b_law 399 = .ok (.land, 1) := by decide +kernel
theorem d_law_400 : decode b_law 400 = .ok (.lor, 1) := by decide +kernel
theorem d_law_401 : decode b_law 401 = .ok (.aload_n 0, 1) := by decide +kernel
theorem d_law_402 : decode b_law 402 = .ok (.iload 4, 2) := by decide +kernel
theorem d_law_404 : decode b_law 404 = .ok (.bipush 10, 2) := by decide +kernel
theorem d_law_406 : decode b_law 406 = .ok (.iadd, 1) := by decide +kernel
theorem d_law_407 : decode b_law 407 = .ok (.iaload, 1) := by decide +kernel
theorem d_law_408 : decode b_law 408 = .ok (.i2l, 1) := by decide +kernel
theorem d_law_409 : decode b_law 409 = .ok (.bipush 32, 2) := by decide +kernel
theorem d_law_411 : decode b_law 411 = .ok (.lshl, 1) := by decide +kernel
theorem d_law_412 : decode b_law 412 = .ok (.aload_n 0, 1) := by decide +kernel
theorem d_law_413 : decode b_law 413 = .ok (.iload 4, 2) := by decide +kernel
theorem d_law_415 : decode b_law 415 = .ok (.bipush 11, 2) := by decide +kernel
theorem d_law_417 : decode b_law 417 = .ok (.iadd, 1) := by decide +kernel
theorem d_law_418 : decode b_law 418 = .ok (.iaload, 1) := by decide +kernel
theorem d_law_419 : decode b_law 419 = .ok (.i2l, 1) := by decide +kernel
theorem d_law_420 : decode b_law 420 = .ok (.ldc2_w 86, 3) := by decide +kernel
theorem d_law_423 : decode b_law 423 = .ok (.land, 1) := by decide +kernel
theorem d_law_424 : decode b_law 424 = .ok (.lor, 1) := by decide +kernel
theorem d_law_425 : decode b_law 425 = .ok (.aload_n 0, 1) := by decide +kernel
theorem d_law_426 : decode b_law 426 = .ok (.iload 4, 2) := by decide +kernel
theorem d_law_428 : decode b_law 428 = .ok (.bipush 12, 2) := by decide +kernel
theorem d_law_430 : decode b_law 430 = .ok (.iadd, 1) := by decide +kernel
theorem d_law_431 : decode b_law 431 = .ok (.iaload, 1) := by decide +kernel
theorem d_law_432 : decode b_law 432 = .ok (.i2l, 1) := by decide +kernel
theorem d_law_433 : decode b_law 433 = .ok (.bipush 32, 2) := by decide +kernel
theorem d_law_435 : decode b_law 435 = .ok (.lshl, 1) := by decide +kernel
theorem d_law_436 : decode b_law 436 = .ok (.aload_n 0, 1) := by decide +kernel
theorem d_law_437 : decode b_law 437 = .ok (.iload 4, 2) := by decide +kernel
theorem d_law_439 : decode b_law 439 = .ok (.bipush 13, 2) := by decide +kernel
theorem d_law_441 : decode b_law 441 = .ok (.iadd, 1) := by decide +kernel
theorem d_law_442 : decode b_law 442 = .ok (.iaload, 1) := by decide +kernel
theorem d_law_443 : decode b_law 443 = .ok (.i2l, 1) := by decide +kernel
theorem d_law_444 : decode b_law 444 = .ok (.ldc2_w 86, 3) := by decide +kernel
theorem d_law_447 : decode b_law 447 = .ok (.land, 1) := by decide +kernel
theorem d_law_448 : decode b_law 448 = .ok (.lor, 1) := by decide +kernel
theorem d_law_449 : decode b_law 449 = .ok (.invokevirtual 91, 3) := by decide +kernel
theorem d_law_452 : decode b_law 452 = .ok (.istore 6, 2) := by decide +kernel
theorem d_law_454 : decode b_law 454 = .ok (.aload_n 2, 1) := by decide +kernel
theorem d_law_455 : decode b_law 455 = .ok (.invokevirtual 92, 3) := by decide +kernel
theorem d_law_458 : decode b_law 458 = .ok (.iload 5, 2) := by decide +kernel
theorem d_law_460 : decode b_law 460 = .ok (.if_icmp .eq 5, 3) := by decide +kernel
theorem d_law_463 : decode b_law 463 = .ok (.iconst 0, 1) := by decide +kernel
theorem d_law_464 : decode b_law 464 = .ok (.ireturn, 1) := by decide +kernel
theorem d_law_465 : decode b_law 465 = .ok (.iload 5, 2) := by decide +kernel
theorem d_law_467 : decode b_law 467 = .ok (.ifCond .ne 22, 3) := by decide +kernel
theorem d_law_470 : decode b_law 470 = .ok (.aload_n 3, 1) := by decide +kernel
theorem d_law_471 : decode b_law 471 = .ok (.iconst 0, 1) := by decide +kernel
theorem d_law_472 : decode b_law 472 = .ok (.laload, 1) := by decide +kernel
theorem d_law_473 : decode b_law 473 = .ok (.iload 6, 2) := by decide +kernel
theorem d_law_475 : decode b_law 475 = .ok (.ifCond .eq 7, 3) := by decide +kernel
theorem d_law_478 : decode b_law 478 = .ok (.lconst 1, 1) := by decide +kernel
theorem d_law_479 : decode b_law 479 = .ok (.goto 4, 3) := by decide +kernel
theorem d_law_482 : decode b_law 482 = .ok (.lconst 0, 1) := by decide +kernel
theorem d_law_483 : decode b_law 483 = .ok (.lcmp, 1) := by decide +kernel
theorem d_law_484 : decode b_law 484 = .ok (.ifCond .eq 5, 3) := by decide +kernel
theorem d_law_487 : decode b_law 487 = .ok (.iconst 0, 1) := by decide +kernel
theorem d_law_488 : decode b_law 488 = .ok (.ireturn, 1) := by decide +kernel
theorem d_law_489 : decode b_law 489 = .ok (.goto 2018, 3) := by decide +kernel
theorem d_law_492 : decode b_law 492 = .ok (.aload_n 1, 1) := by decide +kernel
theorem d_law_493 : decode b_law 493 = .ok (.aload_n 0, 1) := by decide +kernel
theorem d_law_494 : decode b_law 494 = .ok (.iload 4, 2) := by decide +kernel
theorem d_law_496 : decode b_law 496 = .ok (.iconst 1, 1) := by decide +kernel
theorem d_law_497 : decode b_law 497 = .ok (.iadd, 1) := by decide +kernel
theorem d_law_498 : decode b_law 498 = .ok (.iaload, 1) := by decide +kernel
theorem d_law_499 : decode b_law 499 = .ok (.aload_n 0, 1) := by decide +kernel
theorem d_law_500 : decode b_law 500 = .ok (.iload 4, 2) := by decide +kernel
theorem d_law_502 : decode b_law 502 = .ok (.iconst 2, 1) := by decide +kernel
theorem d_law_503 : decode b_law 503 = .ok (.iadd, 1) := by decide +kernel
theorem d_law_504 : decode b_law 504 = .ok (.iaload, 1) := by decide +kernel
theorem d_law_505 : decode b_law 505 = .ok (.i2l, 1) := by decide +kernel
theorem d_law_506 : decode b_law 506 = .ok (.bipush 32, 2) := by decide +kernel
theorem d_law_508 : decode b_law 508 = .ok (.lshl, 1) := by decide +kernel
theorem d_law_509 : decode b_law 509 = .ok (.aload_n 0, 1) := by decide +kernel
theorem d_law_510 : decode b_law 510 = .ok (.iload 4, 2) := by decide +kernel
theorem d_law_512 : decode b_law 512 = .ok (.iconst 3, 1) := by decide +kernel
theorem d_law_513 : decode b_law 513 = .ok (.iadd, 1) := by decide +kernel
theorem d_law_514 : decode b_law 514 = .ok (.iaload, 1) := by decide +kernel
theorem d_law_515 : decode b_law 515 = .ok (.i2l, 1) := by decide +kernel
theorem d_law_516 : decode b_law 516 = .ok (.ldc2_w 86, 3) := by decide +kernel
theorem d_law_519 : decode b_law 519 = .ok (.land, 1) := by decide +kernel
theorem d_law_520 : decode b_law 520 = .ok (.lor, 1) := by decide +kernel
theorem d_law_521 : decode b_law 521 = .ok (.aload_n 0, 1) := by decide +kernel
theorem d_law_522 : decode b_law 522 = .ok (.iload 4, 2) := by decide +kernel
theorem d_law_524 : decode b_law 524 = .ok (.iconst 4, 1) := by decide +kernel
theorem d_law_525 : decode b_law 525 = .ok (.iadd, 1) := by decide +kernel
theorem d_law_526 : decode b_law 526 = .ok (.iaload, 1) := by decide +kernel
theorem d_law_527 : decode b_law 527 = .ok (.i2l, 1) := by decide +kernel
theorem d_law_528 : decode b_law 528 = .ok (.bipush 32, 2) := by decide +kernel
theorem d_law_530 : decode b_law 530 = .ok (.lshl, 1) := by decide +kernel
theorem d_law_531 : decode b_law 531 = .ok (.aload_n 0, 1) := by decide +kernel
theorem d_law_532 : decode b_law 532 = .ok (.iload 4, 2) := by decide +kernel
theorem d_law_534 : decode b_law 534 = .ok (.iconst 5, 1) := by decide +kernel
theorem d_law_535 : decode b_law 535 = .ok (.iadd, 1) := by decide +kernel
theorem d_law_536 : decode b_law 536 = .ok (.iaload, 1) := by decide +kernel
theorem d_law_537 : decode b_law 537 = .ok (.i2l, 1) := by decide +kernel
theorem d_law_538 : decode b_law 538 = .ok (.ldc2_w 86, 3) := by decide +kernel
theorem d_law_541 : decode b_law 541 = .ok (.land, 1) := by decide +kernel
theorem d_law_542 : decode b_law 542 = .ok (.lor, 1) := by decide +kernel
theorem d_law_543 : decode b_law 543 = .ok (.aload_n 0, 1) := by decide +kernel
theorem d_law_544 : decode b_law 544 = .ok (.iload 4, 2) := by decide +kernel
theorem d_law_546 : decode b_law 546 = .ok (.bipush 6, 2) := by decide +kernel
theorem d_law_548 : decode b_law 548 = .ok (.iadd, 1) := by decide +kernel
theorem d_law_549 : decode b_law 549 = .ok (.iaload, 1) := by decide +kernel
theorem d_law_550 : decode b_law 550 = .ok (.i2l, 1) := by decide +kernel
theorem d_law_551 : decode b_law 551 = .ok (.bipush 32, 2) := by decide +kernel
theorem d_law_553 : decode b_law 553 = .ok (.lshl, 1) := by decide +kernel
theorem d_law_554 : decode b_law 554 = .ok (.aload_n 0, 1) := by decide +kernel
theorem d_law_555 : decode b_law 555 = .ok (.iload 4, 2) := by decide +kernel
theorem d_law_557 : decode b_law 557 = .ok (.bipush 7, 2) := by decide +kernel
theorem d_law_559 : decode b_law 559 = .ok (.iadd, 1) := by decide +kernel
theorem d_law_560 : decode b_law 560 = .ok (.iaload, 1) := by decide +kernel
theorem d_law_561 : decode b_law 561 = .ok (.i2l, 1) := by decide +kernel
theorem d_law_562 : decode b_law 562 = .ok (.ldc2_w 86, 3) := by decide +kernel
theorem d_law_565 : decode b_law 565 = .ok (.land, 1) := by decide +kernel
theorem d_law_566 : decode b_law 566 = .ok (.lor, 1) := by decide +kernel
theorem d_law_567 : decode b_law 567 = .ok (.aload_n 0, 1) := by decide +kernel
theorem d_law_568 : decode b_law 568 = .ok (.iload 4, 2) := by decide +kernel
theorem d_law_570 : decode b_law 570 = .ok (.bipush 8, 2) := by decide +kernel
theorem d_law_572 : decode b_law 572 = .ok (.iadd, 1) := by decide +kernel
theorem d_law_573 : decode b_law 573 = .ok (.iaload, 1) := by decide +kernel
theorem d_law_574 : decode b_law 574 = .ok (.i2l, 1) := by decide +kernel
theorem d_law_575 : decode b_law 575 = .ok (.bipush 32, 2) := by decide +kernel
theorem d_law_577 : decode b_law 577 = .ok (.lshl, 1) := by decide +kernel
theorem d_law_578 : decode b_law 578 = .ok (.aload_n 0, 1) := by decide +kernel
theorem d_law_579 : decode b_law 579 = .ok (.iload 4, 2) := by decide +kernel
theorem d_law_581 : decode b_law 581 = .ok (.bipush 9, 2) := by decide +kernel
theorem d_law_583 : decode b_law 583 = .ok (.iadd, 1) := by decide +kernel
theorem d_law_584 : decode b_law 584 = .ok (.iaload, 1) := by decide +kernel
theorem d_law_585 : decode b_law 585 = .ok (.i2l, 1) := by decide +kernel
theorem d_law_586 : decode b_law 586 = .ok (.ldc2_w 86, 3) := by decide +kernel
theorem d_law_589 : decode b_law 589 = .ok (.land, 1) := by decide +kernel
theorem d_law_590 : decode b_law 590 = .ok (.lor, 1) := by decide +kernel
theorem d_law_591 : decode b_law 591 = .ok (.aload_n 0, 1) := by decide +kernel
theorem d_law_592 : decode b_law 592 = .ok (.iload 4, 2) := by decide +kernel
theorem d_law_594 : decode b_law 594 = .ok (.bipush 10, 2) := by decide +kernel
theorem d_law_596 : decode b_law 596 = .ok (.iadd, 1) := by decide +kernel
theorem d_law_597 : decode b_law 597 = .ok (.iaload, 1) := by decide +kernel
theorem d_law_598 : decode b_law 598 = .ok (.i2l, 1) := by decide +kernel
theorem d_law_599 : decode b_law 599 = .ok (.bipush 32, 2) := by decide +kernel
theorem d_law_601 : decode b_law 601 = .ok (.lshl, 1) := by decide +kernel
theorem d_law_602 : decode b_law 602 = .ok (.aload_n 0, 1) := by decide +kernel
theorem d_law_603 : decode b_law 603 = .ok (.iload 4, 2) := by decide +kernel
theorem d_law_605 : decode b_law 605 = .ok (.bipush 11, 2) := by decide +kernel
theorem d_law_607 : decode b_law 607 = .ok (.iadd, 1) := by decide +kernel
theorem d_law_608 : decode b_law 608 = .ok (.iaload, 1) := by decide +kernel
theorem d_law_609 : decode b_law 609 = .ok (.i2l, 1) := by decide +kernel
theorem d_law_610 : decode b_law 610 = .ok (.ldc2_w 86, 3) := by decide +kernel
theorem d_law_613 : decode b_law 613 = .ok (.land, 1) := by decide +kernel
theorem d_law_614 : decode b_law 614 = .ok (.lor, 1) := by decide +kernel
theorem d_law_615 : decode b_law 615 = .ok (.aload_n 3, 1) := by decide +kernel
theorem d_law_616 : decode b_law 616 = .ok (.invokestatic 95, 3) := by decide +kernel
theorem d_law_619 : decode b_law 619 = .ok (.istore 5, 2) := by decide +kernel
theorem d_law_621 : decode b_law 621 = .ok (.aload_n 2, 1) := by decide +kernel
theorem d_law_622 : decode b_law 622 = .ok (.aload_n 0, 1) := by decide +kernel
theorem d_law_623 : decode b_law 623 = .ok (.iload 4, 2) := by decide +kernel
theorem d_law_625 : decode b_law 625 = .ok (.iconst 1, 1) := by decide +kernel
theorem d_law_626 : decode b_law 626 = .ok (.iadd, 1) := by decide +kernel
theorem d_law_627 : decode b_law 627 = .ok (.iaload, 1) := by decide +kernel
theorem d_law_628 : decode b_law 628 = .ok (.aload_n 0, 1) := by decide +kernel
theorem d_law_629 : decode b_law 629 = .ok (.iload 4, 2) := by decide +kernel
theorem d_law_631 : decode b_law 631 = .ok (.iconst 2, 1) := by decide +kernel
theorem d_law_632 : decode b_law 632 = .ok (.iadd, 1) := by decide +kernel
theorem d_law_633 : decode b_law 633 = .ok (.iaload, 1) := by decide +kernel
theorem d_law_634 : decode b_law 634 = .ok (.i2l, 1) := by decide +kernel
theorem d_law_635 : decode b_law 635 = .ok (.bipush 32, 2) := by decide +kernel
theorem d_law_637 : decode b_law 637 = .ok (.lshl, 1) := by decide +kernel
theorem d_law_638 : decode b_law 638 = .ok (.aload_n 0, 1) := by decide +kernel
theorem d_law_639 : decode b_law 639 = .ok (.iload 4, 2) := by decide +kernel
theorem d_law_641 : decode b_law 641 = .ok (.iconst 3, 1) := by decide +kernel
theorem d_law_642 : decode b_law 642 = .ok (.iadd, 1) := by decide +kernel
theorem d_law_643 : decode b_law 643 = .ok (.iaload, 1) := by decide +kernel
theorem d_law_644 : decode b_law 644 = .ok (.i2l, 1) := by decide +kernel
theorem d_law_645 : decode b_law 645 = .ok (.ldc2_w 86, 3) := by decide +kernel
theorem d_law_648 : decode b_law 648 = .ok (.land, 1) := by decide +kernel
theorem d_law_649 : decode b_law 649 = .ok (.lor, 1) := by decide +kernel
theorem d_law_650 : decode b_law 650 = .ok (.aload_n 0, 1) := by decide +kernel
theorem d_law_651 : decode b_law 651 = .ok (.iload 4, 2) := by decide +kernel
theorem d_law_653 : decode b_law 653 = .ok (.iconst 4, 1) := by decide +kernel
theorem d_law_654 : decode b_law 654 = .ok (.iadd, 1) := by decide +kernel
theorem d_law_655 : decode b_law 655 = .ok (.iaload, 1) := by decide +kernel
theorem d_law_656 : decode b_law 656 = .ok (.i2l, 1) := by decide +kernel
theorem d_law_657 : decode b_law 657 = .ok (.bipush 32, 2) := by decide +kernel
theorem d_law_659 : decode b_law 659 = .ok (.lshl, 1) := by decide +kernel
theorem d_law_660 : decode b_law 660 = .ok (.aload_n 0, 1) := by decide +kernel
theorem d_law_661 : decode b_law 661 = .ok (.iload 4, 2) := by decide +kernel
theorem d_law_663 : decode b_law 663 = .ok (.iconst 5, 1) := by decide +kernel
theorem d_law_664 : decode b_law 664 = .ok (.iadd, 1) := by decide +kernel
theorem d_law_665 : decode b_law 665 = .ok (.iaload, 1) := by decide +kernel
theorem d_law_666 : decode b_law 666 = .ok (.i2l, 1) := by decide +kernel
theorem d_law_667 : decode b_law 667 = .ok (.ldc2_w 86, 3) := by decide +kernel
theorem d_law_670 : decode b_law 670 = .ok (.land, 1) := by decide +kernel
theorem d_law_671 : decode b_law 671 = .ok (.lor, 1) := by decide +kernel
theorem d_law_672 : decode b_law 672 = .ok (.aload_n 0, 1) := by decide +kernel
theorem d_law_673 : decode b_law 673 = .ok (.iload 4, 2) := by decide +kernel
theorem d_law_675 : decode b_law 675 = .ok (.bipush 6, 2) := by decide +kernel
theorem d_law_677 : decode b_law 677 = .ok (.iadd, 1) := by decide +kernel
theorem d_law_678 : decode b_law 678 = .ok (.iaload, 1) := by decide +kernel
theorem d_law_679 : decode b_law 679 = .ok (.i2l, 1) := by decide +kernel
theorem d_law_680 : decode b_law 680 = .ok (.bipush 32, 2) := by decide +kernel
theorem d_law_682 : decode b_law 682 = .ok (.lshl, 1) := by decide +kernel
theorem d_law_683 : decode b_law 683 = .ok (.aload_n 0, 1) := by decide +kernel
theorem d_law_684 : decode b_law 684 = .ok (.iload 4, 2) := by decide +kernel
theorem d_law_686 : decode b_law 686 = .ok (.bipush 7, 2) := by decide +kernel
theorem d_law_688 : decode b_law 688 = .ok (.iadd, 1) := by decide +kernel
theorem d_law_689 : decode b_law 689 = .ok (.iaload, 1) := by decide +kernel
theorem d_law_690 : decode b_law 690 = .ok (.i2l, 1) := by decide +kernel
theorem d_law_691 : decode b_law 691 = .ok (.ldc2_w 86, 3) := by decide +kernel
theorem d_law_694 : decode b_law 694 = .ok (.land, 1) := by decide +kernel
theorem d_law_695 : decode b_law 695 = .ok (.lor, 1) := by decide +kernel
theorem d_law_696 : decode b_law 696 = .ok (.aload_n 0, 1) := by decide +kernel
theorem d_law_697 : decode b_law 697 = .ok (.iload 4, 2) := by decide +kernel
theorem d_law_699 : decode b_law 699 = .ok (.bipush 8, 2) := by decide +kernel
theorem d_law_701 : decode b_law 701 = .ok (.iadd, 1) := by decide +kernel
theorem d_law_702 : decode b_law 702 = .ok (.iaload, 1) := by decide +kernel
theorem d_law_703 : decode b_law 703 = .ok (.i2l, 1) := by decide +kernel
theorem d_law_704 : decode b_law 704 = .ok (.bipush 32, 2) := by decide +kernel
theorem d_law_706 : decode b_law 706 = .ok (.lshl, 1) := by decide +kernel
theorem d_law_707 : decode b_law 707 = .ok (.aload_n 0, 1) := by decide +kernel
theorem d_law_708 : decode b_law 708 = .ok (.iload 4, 2) := by decide +kernel
theorem d_law_710 : decode b_law 710 = .ok (.bipush 9, 2) := by decide +kernel
theorem d_law_712 : decode b_law 712 = .ok (.iadd, 1) := by decide +kernel
theorem d_law_713 : decode b_law 713 = .ok (.iaload, 1) := by decide +kernel
theorem d_law_714 : decode b_law 714 = .ok (.i2l, 1) := by decide +kernel
theorem d_law_715 : decode b_law 715 = .ok (.ldc2_w 86, 3) := by decide +kernel
theorem d_law_718 : decode b_law 718 = .ok (.land, 1) := by decide +kernel
theorem d_law_719 : decode b_law 719 = .ok (.lor, 1) := by decide +kernel
theorem d_law_720 : decode b_law 720 = .ok (.aload_n 0, 1) := by decide +kernel
theorem d_law_721 : decode b_law 721 = .ok (.iload 4, 2) := by decide +kernel
theorem d_law_723 : decode b_law 723 = .ok (.bipush 10, 2) := by decide +kernel
theorem d_law_725 : decode b_law 725 = .ok (.iadd, 1) := by decide +kernel
theorem d_law_726 : decode b_law 726 = .ok (.iaload, 1) := by decide +kernel
theorem d_law_727 : decode b_law 727 = .ok (.i2l, 1) := by decide +kernel
theorem d_law_728 : decode b_law 728 = .ok (.bipush 32, 2) := by decide +kernel
theorem d_law_730 : decode b_law 730 = .ok (.lshl, 1) := by decide +kernel
theorem d_law_731 : decode b_law 731 = .ok (.aload_n 0, 1) := by decide +kernel
theorem d_law_732 : decode b_law 732 = .ok (.iload 4, 2) := by decide +kernel
theorem d_law_734 : decode b_law 734 = .ok (.bipush 11, 2) := by decide +kernel
theorem d_law_736 : decode b_law 736 = .ok (.iadd, 1) := by decide +kernel
theorem d_law_737 : decode b_law 737 = .ok (.iaload, 1) := by decide +kernel
theorem d_law_738 : decode b_law 738 = .ok (.i2l, 1) := by decide +kernel
theorem d_law_739 : decode b_law 739 = .ok (.ldc2_w 86, 3) := by decide +kernel
theorem d_law_742 : decode b_law 742 = .ok (.land, 1) := by decide +kernel
theorem d_law_743 : decode b_law 743 = .ok (.lor, 1) := by decide +kernel
theorem d_law_744 : decode b_law 744 = .ok (.invokevirtual 98, 3) := by decide +kernel
theorem d_law_747 : decode b_law 747 = .ok (.istore 6, 2) := by decide +kernel
theorem d_law_749 : decode b_law 749 = .ok (.aload_n 2, 1) := by decide +kernel
theorem d_law_750 : decode b_law 750 = .ok (.invokevirtual 92, 3) := by decide +kernel
theorem d_law_753 : decode b_law 753 = .ok (.iload 5, 2) := by decide +kernel
theorem d_law_755 : decode b_law 755 = .ok (.if_icmp .eq 5, 3) := by decide +kernel
theorem d_law_758 : decode b_law 758 = .ok (.iconst 0, 1) := by decide +kernel
theorem d_law_759 : decode b_law 759 = .ok (.ireturn, 1) := by decide +kernel
theorem d_law_760 : decode b_law 760 = .ok (.iload 5, 2) := by decide +kernel
theorem d_law_762 : decode b_law 762 = .ok (.ifCond .ne 22, 3) := by decide +kernel
theorem d_law_765 : decode b_law 765 = .ok (.aload_n 3, 1) := by decide +kernel
theorem d_law_766 : decode b_law 766 = .ok (.iconst 0, 1) := by decide +kernel
theorem d_law_767 : decode b_law 767 = .ok (.laload, 1) := by decide +kernel
theorem d_law_768 : decode b_law 768 = .ok (.iload 6, 2) := by decide +kernel
theorem d_law_770 : decode b_law 770 = .ok (.ifCond .eq 7, 3) := by decide +kernel
theorem d_law_773 : decode b_law 773 = .ok (.lconst 1, 1) := by decide +kernel
theorem d_law_774 : decode b_law 774 = .ok (.goto 4, 3) := by decide +kernel
theorem d_law_777 : decode b_law 777 = .ok (.lconst 0, 1) := by decide +kernel
theorem d_law_778 : decode b_law 778 = .ok (.lcmp, 1) := by decide +kernel
theorem d_law_779 : decode b_law 779 = .ok (.ifCond .eq 5, 3) := by decide +kernel
theorem d_law_782 : decode b_law 782 = .ok (.iconst 0, 1) := by decide +kernel
theorem d_law_783 : decode b_law 783 = .ok (.ireturn, 1) := by decide +kernel
theorem d_law_784 : decode b_law 784 = .ok (.goto 1723, 3) := by decide +kernel
theorem d_law_787 : decode b_law 787 = .ok (.aload_n 1, 1) := by decide +kernel
theorem d_law_788 : decode b_law 788 = .ok (.aload_n 0, 1) := by decide +kernel
theorem d_law_789 : decode b_law 789 = .ok (.iload 4, 2) := by decide +kernel
theorem d_law_791 : decode b_law 791 = .ok (.iconst 1, 1) := by decide +kernel
theorem d_law_792 : decode b_law 792 = .ok (.iadd, 1) := by decide +kernel
theorem d_law_793 : decode b_law 793 = .ok (.iaload, 1) := by decide +kernel
theorem d_law_794 : decode b_law 794 = .ok (.i2l, 1) := by decide +kernel
theorem d_law_795 : decode b_law 795 = .ok (.bipush 32, 2) := by decide +kernel
theorem d_law_797 : decode b_law 797 = .ok (.lshl, 1) := by decide +kernel
theorem d_law_798 : decode b_law 798 = .ok (.aload_n 0, 1) := by decide +kernel
theorem d_law_799 : decode b_law 799 = .ok (.iload 4, 2) := by decide +kernel
theorem d_law_801 : decode b_law 801 = .ok (.iconst 2, 1) := by decide +kernel
theorem d_law_802 : decode b_law 802 = .ok (.iadd, 1) := by decide +kernel
theorem d_law_803 : decode b_law 803 = .ok (.iaload, 1) := by decide +kernel
theorem d_law_804 : decode b_law 804 = .ok (.i2l, 1) := by decide +kernel
theorem d_law_805 : decode b_law 805 = .ok (.ldc2_w 86, 3) := by decide +kernel
theorem d_law_808 : decode b_law 808 = .ok (.land, 1) := by decide +kernel
theorem d_law_809 : decode b_law 809 = .ok (.lor, 1) := by decide +kernel
theorem d_law_810 : decode b_law 810 = .ok (.aload_n 0, 1) := by decide +kernel
theorem d_law_811 : decode b_law 811 = .ok (.iload 4, 2) := by decide +kernel
theorem d_law_813 : decode b_law 813 = .ok (.iconst 3, 1) := by decide +kernel
theorem d_law_814 : decode b_law 814 = .ok (.iadd, 1) := by decide +kernel
theorem d_law_815 : decode b_law 815 = .ok (.iaload, 1) := by decide +kernel
theorem d_law_816 : decode b_law 816 = .ok (.i2l, 1) := by decide +kernel
theorem d_law_817 : decode b_law 817 = .ok (.bipush 32, 2) := by decide +kernel
theorem d_law_819 : decode b_law 819 = .ok (.lshl, 1) := by decide +kernel
theorem d_law_820 : decode b_law 820 = .ok (.aload_n 0, 1) := by decide +kernel
theorem d_law_821 : decode b_law 821 = .ok (.iload 4, 2) := by decide +kernel
theorem d_law_823 : decode b_law 823 = .ok (.iconst 4, 1) := by decide +kernel
theorem d_law_824 : decode b_law 824 = .ok (.iadd, 1) := by decide +kernel
theorem d_law_825 : decode b_law 825 = .ok (.iaload, 1) := by decide +kernel
theorem d_law_826 : decode b_law 826 = .ok (.i2l, 1) := by decide +kernel
theorem d_law_827 : decode b_law 827 = .ok (.ldc2_w 86, 3) := by decide +kernel
theorem d_law_830 : decode b_law 830 = .ok (.land, 1) := by decide +kernel
theorem d_law_831 : decode b_law 831 = .ok (.lor, 1) := by decide +kernel
theorem d_law_832 : decode b_law 832 = .ok (.aload_n 3, 1) := by decide +kernel
theorem d_law_833 : decode b_law 833 = .ok (.invokestatic 99, 3) := by decide +kernel
theorem d_law_836 : decode b_law 836 = .ok (.istore 5, 2) := by decide +kernel
theorem d_law_838 : decode b_law 838 = .ok (.aload_n 2, 1) := by decide +kernel
theorem d_law_839 : decode b_law 839 = .ok (.aload_n 0, 1) := by decide +kernel
theorem d_law_840 : decode b_law 840 = .ok (.iload 4, 2) := by decide +kernel
theorem d_law_842 : decode b_law 842 = .ok (.iconst 1, 1) := by decide +kernel
theorem d_law_843 : decode b_law 843 = .ok (.iadd, 1) := by decide +kernel
theorem d_law_844 : decode b_law 844 = .ok (.iaload, 1) := by decide +kernel
theorem d_law_845 : decode b_law 845 = .ok (.i2l, 1) := by decide +kernel
theorem d_law_846 : decode b_law 846 = .ok (.bipush 32, 2) := by decide +kernel
theorem d_law_848 : decode b_law 848 = .ok (.lshl, 1) := by decide +kernel
theorem d_law_849 : decode b_law 849 = .ok (.aload_n 0, 1) := by decide +kernel
theorem d_law_850 : decode b_law 850 = .ok (.iload 4, 2) := by decide +kernel
theorem d_law_852 : decode b_law 852 = .ok (.iconst 2, 1) := by decide +kernel
theorem d_law_853 : decode b_law 853 = .ok (.iadd, 1) := by decide +kernel
theorem d_law_854 : decode b_law 854 = .ok (.iaload, 1) := by decide +kernel
theorem d_law_855 : decode b_law 855 = .ok (.i2l, 1) := by decide +kernel
theorem d_law_856 : decode b_law 856 = .ok (.ldc2_w 86, 3) := by decide +kernel
theorem d_law_859 : decode b_law 859 = .ok (.land, 1) := by decide +kernel
theorem d_law_860 : decode b_law 860 = .ok (.lor, 1) := by decide +kernel
theorem d_law_861 : decode b_law 861 = .ok (.aload_n 0, 1) := by decide +kernel
theorem d_law_862 : decode b_law 862 = .ok (.iload 4, 2) := by decide +kernel
theorem d_law_864 : decode b_law 864 = .ok (.iconst 3, 1) := by decide +kernel
theorem d_law_865 : decode b_law 865 = .ok (.iadd, 1) := by decide +kernel
theorem d_law_866 : decode b_law 866 = .ok (.iaload, 1) := by decide +kernel
theorem d_law_867 : decode b_law 867 = .ok (.i2l, 1) := by decide +kernel
theorem d_law_868 : decode b_law 868 = .ok (.bipush 32, 2) := by decide +kernel
theorem d_law_870 : decode b_law 870 = .ok (.lshl, 1) := by decide +kernel
theorem d_law_871 : decode b_law 871 = .ok (.aload_n 0, 1) := by decide +kernel
theorem d_law_872 : decode b_law 872 = .ok (.iload 4, 2) := by decide +kernel
theorem d_law_874 : decode b_law 874 = .ok (.iconst 4, 1) := by decide +kernel
theorem d_law_875 : decode b_law 875 = .ok (.iadd, 1) := by decide +kernel
theorem d_law_876 : decode b_law 876 = .ok (.iaload, 1) := by decide +kernel
theorem d_law_877 : decode b_law 877 = .ok (.i2l, 1) := by decide +kernel
theorem d_law_878 : decode b_law 878 = .ok (.ldc2_w 86, 3) := by decide +kernel
theorem d_law_881 : decode b_law 881 = .ok (.land, 1) := by decide +kernel
theorem d_law_882 : decode b_law 882 = .ok (.lor, 1) := by decide +kernel
theorem d_law_883 : decode b_law 883 = .ok (.invokevirtual 102, 3) := by decide +kernel
theorem d_law_886 : decode b_law 886 = .ok (.istore 6, 2) := by decide +kernel
theorem d_law_888 : decode b_law 888 = .ok (.aload_n 2, 1) := by decide +kernel
theorem d_law_889 : decode b_law 889 = .ok (.invokevirtual 92, 3) := by decide +kernel
theorem d_law_892 : decode b_law 892 = .ok (.iload 5, 2) := by decide +kernel
theorem d_law_894 : decode b_law 894 = .ok (.if_icmp .eq 5, 3) := by decide +kernel
theorem d_law_897 : decode b_law 897 = .ok (.iconst 0, 1) := by decide +kernel
theorem d_law_898 : decode b_law 898 = .ok (.ireturn, 1) := by decide +kernel
theorem d_law_899 : decode b_law 899 = .ok (.iload 5, 2) := by decide +kernel
theorem d_law_901 : decode b_law 901 = .ok (.ifCond .ne 22, 3) := by decide +kernel
theorem d_law_904 : decode b_law 904 = .ok (.aload_n 3, 1) := by decide +kernel
theorem d_law_905 : decode b_law 905 = .ok (.iconst 0, 1) := by decide +kernel
theorem d_law_906 : decode b_law 906 = .ok (.laload, 1) := by decide +kernel
theorem d_law_907 : decode b_law 907 = .ok (.iload 6, 2) := by decide +kernel
theorem d_law_909 : decode b_law 909 = .ok (.ifCond .eq 7, 3) := by decide +kernel
theorem d_law_912 : decode b_law 912 = .ok (.lconst 1, 1) := by decide +kernel
theorem d_law_913 : decode b_law 913 = .ok (.goto 4, 3) := by decide +kernel
theorem d_law_916 : decode b_law 916 = .ok (.lconst 0, 1) := by decide +kernel
theorem d_law_917 : decode b_law 917 = .ok (.lcmp, 1) := by decide +kernel
theorem d_law_918 : decode b_law 918 = .ok (.ifCond .eq 5, 3) := by decide +kernel
theorem d_law_921 : decode b_law 921 = .ok (.iconst 0, 1) := by decide +kernel
theorem d_law_922 : decode b_law 922 = .ok (.ireturn, 1) := by decide +kernel
theorem d_law_923 : decode b_law 923 = .ok (.goto 1584, 3) := by decide +kernel
theorem d_law_926 : decode b_law 926 = .ok (.aload_n 1, 1) := by decide +kernel
theorem d_law_927 : decode b_law 927 = .ok (.aload_n 0, 1) := by decide +kernel
theorem d_law_928 : decode b_law 928 = .ok (.iload 4, 2) := by decide +kernel
theorem d_law_930 : decode b_law 930 = .ok (.iconst 1, 1) := by decide +kernel
theorem d_law_931 : decode b_law 931 = .ok (.iadd, 1) := by decide +kernel
theorem d_law_932 : decode b_law 932 = .ok (.iaload, 1) := by decide +kernel
theorem d_law_933 : decode b_law 933 = .ok (.aload_n 0, 1) := by decide +kernel
theorem d_law_934 : decode b_law 934 = .ok (.iload 4, 2) := by decide +kernel
theorem d_law_936 : decode b_law 936 = .ok (.iconst 2, 1) := by decide +kernel
theorem d_law_937 : decode b_law 937 = .ok (.iadd, 1) := by decide +kernel
theorem d_law_938 : decode b_law 938 = .ok (.iaload, 1) := by decide +kernel
theorem d_law_939 : decode b_law 939 = .ok (.i2l, 1) := by decide +kernel
theorem d_law_940 : decode b_law 940 = .ok (.bipush 32, 2) := by decide +kernel
theorem d_law_942 : decode b_law 942 = .ok (.lshl, 1) := by decide +kernel
theorem d_law_943 : decode b_law 943 = .ok (.aload_n 0, 1) := by decide +kernel
theorem d_law_944 : decode b_law 944 = .ok (.iload 4, 2) := by decide +kernel
theorem d_law_946 : decode b_law 946 = .ok (.iconst 3, 1) := by decide +kernel
theorem d_law_947 : decode b_law 947 = .ok (.iadd, 1) := by decide +kernel
theorem d_law_948 : decode b_law 948 = .ok (.iaload, 1) := by decide +kernel
theorem d_law_949 : decode b_law 949 = .ok (.i2l, 1) := by decide +kernel
theorem d_law_950 : decode b_law 950 = .ok (.ldc2_w 86, 3) := by decide +kernel
theorem d_law_953 : decode b_law 953 = .ok (.land, 1) := by decide +kernel
theorem d_law_954 : decode b_law 954 = .ok (.lor, 1) := by decide +kernel
theorem d_law_955 : decode b_law 955 = .ok (.aload_n 0, 1) := by decide +kernel
theorem d_law_956 : decode b_law 956 = .ok (.iload 4, 2) := by decide +kernel
theorem d_law_958 : decode b_law 958 = .ok (.iconst 4, 1) := by decide +kernel
theorem d_law_959 : decode b_law 959 = .ok (.iadd, 1) := by decide +kernel
theorem d_law_960 : decode b_law 960 = .ok (.iaload, 1) := by decide +kernel
theorem d_law_961 : decode b_law 961 = .ok (.i2l, 1) := by decide +kernel
theorem d_law_962 : decode b_law 962 = .ok (.bipush 32, 2) := by decide +kernel
theorem d_law_964 : decode b_law 964 = .ok (.lshl, 1) := by decide +kernel
theorem d_law_965 : decode b_law 965 = .ok (.aload_n 0, 1) := by decide +kernel
theorem d_law_966 : decode b_law 966 = .ok (.iload 4, 2) := by decide +kernel
theorem d_law_968 : decode b_law 968 = .ok (.iconst 5, 1) := by decide +kernel
theorem d_law_969 : decode b_law 969 = .ok (.iadd, 1) := by decide +kernel
theorem d_law_970 : decode b_law 970 = .ok (.iaload, 1) := by decide +kernel
theorem d_law_971 : decode b_law 971 = .ok (.i2l, 1) := by decide +kernel
theorem d_law_972 : decode b_law 972 = .ok (.ldc2_w 86, 3) := by decide +kernel
theorem d_law_975 : decode b_law 975 = .ok (.land, 1) := by decide +kernel
theorem d_law_976 : decode b_law 976 = .ok (.lor, 1) := by decide +kernel
theorem d_law_977 : decode b_law 977 = .ok (.aload_n 3, 1) := by decide +kernel
theorem d_law_978 : decode b_law 978 = .ok (.invokestatic 103, 3) := by decide +kernel
theorem d_law_981 : decode b_law 981 = .ok (.istore 5, 2) := by decide +kernel
theorem d_law_983 : decode b_law 983 = .ok (.aload_n 2, 1) := by decide +kernel
theorem d_law_984 : decode b_law 984 = .ok (.aload_n 0, 1) := by decide +kernel
theorem d_law_985 : decode b_law 985 = .ok (.iload 4, 2) := by decide +kernel
theorem d_law_987 : decode b_law 987 = .ok (.iconst 1, 1) := by decide +kernel
theorem d_law_988 : decode b_law 988 = .ok (.iadd, 1) := by decide +kernel
theorem d_law_989 : decode b_law 989 = .ok (.iaload, 1) := by decide +kernel
theorem d_law_990 : decode b_law 990 = .ok (.aload_n 0, 1) := by decide +kernel
theorem d_law_991 : decode b_law 991 = .ok (.iload 4, 2) := by decide +kernel
theorem d_law_993 : decode b_law 993 = .ok (.iconst 2, 1) := by decide +kernel
theorem d_law_994 : decode b_law 994 = .ok (.iadd, 1) := by decide +kernel
theorem d_law_995 : decode b_law 995 = .ok (.iaload, 1) := by decide +kernel
theorem d_law_996 : decode b_law 996 = .ok (.i2l, 1) := by decide +kernel
theorem d_law_997 : decode b_law 997 = .ok (.bipush 32, 2) := by decide +kernel
theorem d_law_999 : decode b_law 999 = .ok (.lshl, 1) := by decide +kernel
theorem d_law_1000 : decode b_law 1000 = .ok (.aload_n 0, 1) := by decide +kernel
theorem d_law_1001 : decode b_law 1001 = .ok (.iload 4, 2) := by decide +kernel
theorem d_law_1003 : decode b_law 1003 = .ok (.iconst 3, 1) := by decide +kernel
theorem d_law_1004 : decode b_law 1004 = .ok (.iadd, 1) := by decide +kernel
theorem d_law_1005 : decode b_law 1005 = .ok (.iaload, 1) := by decide +kernel
theorem d_law_1006 : decode b_law 1006 = .ok (.i2l, 1) := by decide +kernel
theorem d_law_1007 : decode b_law 1007 = .ok (.ldc2_w 86, 3) := by decide +kernel
theorem d_law_1010 : decode b_law 1010 = .ok (.land, 1) := by decide +kernel
theorem d_law_1011 : decode b_law 1011 = .ok (.lor, 1) := by decide +kernel
theorem d_law_1012 : decode b_law 1012 = .ok (.aload_n 0, 1) := by decide +kernel
theorem d_law_1013 : decode b_law 1013 = .ok (.iload 4, 2) := by decide +kernel
theorem d_law_1015 : decode b_law 1015 = .ok (.iconst 4, 1) := by decide +kernel
theorem d_law_1016 : decode b_law 1016 = .ok (.iadd, 1) := by decide +kernel
theorem d_law_1017 : decode b_law 1017 = .ok (.iaload, 1) := by decide +kernel
theorem d_law_1018 : decode b_law 1018 = .ok (.i2l, 1) := by decide +kernel
theorem d_law_1019 : decode b_law 1019 = .ok (.bipush 32, 2) := by decide +kernel
theorem d_law_1021 : decode b_law 1021 = .ok (.lshl, 1) := by decide +kernel
theorem d_law_1022 : decode b_law 1022 = .ok (.aload_n 0, 1) := by decide +kernel
theorem d_law_1023 : decode b_law 1023 = .ok (.iload 4, 2) := by decide +kernel
theorem d_law_1025 : decode b_law 1025 = .ok (.iconst 5, 1) := by decide +kernel
theorem d_law_1026 : decode b_law 1026 = .ok (.iadd, 1) := by decide +kernel
theorem d_law_1027 : decode b_law 1027 = .ok (.iaload, 1) := by decide +kernel
theorem d_law_1028 : decode b_law 1028 = .ok (.i2l, 1) := by decide +kernel
theorem d_law_1029 : decode b_law 1029 = .ok (.ldc2_w 86, 3) := by decide +kernel
theorem d_law_1032 : decode b_law 1032 = .ok (.land, 1) := by decide +kernel
theorem d_law_1033 : decode b_law 1033 = .ok (.lor, 1) := by decide +kernel
theorem d_law_1034 : decode b_law 1034 = .ok (.invokevirtual 106, 3) := by decide +kernel
theorem d_law_1037 : decode b_law 1037 = .ok (.istore 6, 2) := by decide +kernel
theorem d_law_1039 : decode b_law 1039 = .ok (.aload_n 2, 1) := by decide +kernel
theorem d_law_1040 : decode b_law 1040 = .ok (.invokevirtual 92, 3) := by decide +kernel
theorem d_law_1043 : decode b_law 1043 = .ok (.iload 5, 2) := by decide +kernel
theorem d_law_1045 : decode b_law 1045 = .ok (.if_icmp .eq 5, 3) := by decide +kernel
theorem d_law_1048 : decode b_law 1048 = .ok (.iconst 0, 1) := by decide +kernel
theorem d_law_1049 : decode b_law 1049 = .ok (.ireturn, 1) := by decide +kernel
theorem d_law_1050 : decode b_law 1050 = .ok (.iload 5, 2) := by decide +kernel
theorem d_law_1052 : decode b_law 1052 = .ok (.ifCond .ne 22, 3) := by decide +kernel
theorem d_law_1055 : decode b_law 1055 = .ok (.aload_n 3, 1) := by decide +kernel
theorem d_law_1056 : decode b_law 1056 = .ok (.iconst 0, 1) := by decide +kernel
theorem d_law_1057 : decode b_law 1057 = .ok (.laload, 1) := by decide +kernel
theorem d_law_1058 : decode b_law 1058 = .ok (.iload 6, 2) := by decide +kernel
theorem d_law_1060 : decode b_law 1060 = .ok (.ifCond .eq 7, 3) := by decide +kernel
theorem d_law_1063 : decode b_law 1063 = .ok (.lconst 1, 1) := by decide +kernel
theorem d_law_1064 : decode b_law 1064 = .ok (.goto 4, 3) := by decide +kernel
theorem d_law_1067 : decode b_law 1067 = .ok (.lconst 0, 1) := by decide +kernel
theorem d_law_1068 : decode b_law 1068 = .ok (.lcmp, 1) := by decide +kernel
theorem d_law_1069 : decode b_law 1069 = .ok (.ifCond .eq 5, 3) := by decide +kernel
theorem d_law_1072 : decode b_law 1072 = .ok (.iconst 0, 1) := by decide +kernel
theorem d_law_1073 : decode b_law 1073 = .ok (.ireturn, 1) := by decide +kernel
theorem d_law_1074 : decode b_law 1074 = .ok (.goto 1433, 3) := by decide +kernel
theorem d_law_1077 : decode b_law 1077 = .ok (.aload_n 1, 1) := by decide +kernel
theorem d_law_1078 : decode b_law 1078 = .ok (.aload_n 0, 1) := by decide +kernel
theorem d_law_1079 : decode b_law 1079 = .ok (.iload 4, 2) := by decide +kernel
theorem d_law_1081 : decode b_law 1081 = .ok (.iconst 1, 1) := by decide +kernel
theorem d_law_1082 : decode b_law 1082 = .ok (.iadd, 1) := by decide +kernel
theorem d_law_1083 : decode b_law 1083 = .ok (.iaload, 1) := by decide +kernel
theorem d_law_1084 : decode b_law 1084 = .ok (.aload_n 0, 1) := by decide +kernel
theorem d_law_1085 : decode b_law 1085 = .ok (.iload 4, 2) := by decide +kernel
theorem d_law_1087 : decode b_law 1087 = .ok (.iconst 2, 1) := by decide +kernel
theorem d_law_1088 : decode b_law 1088 = .ok (.iadd, 1) := by decide +kernel
theorem d_law_1089 : decode b_law 1089 = .ok (.iaload, 1) := by decide +kernel
theorem d_law_1090 : decode b_law 1090 = .ok (.i2l, 1) := by decide +kernel
theorem d_law_1091 : decode b_law 1091 = .ok (.bipush 32, 2) := by decide +kernel
theorem d_law_1093 : decode b_law 1093 = .ok (.lshl, 1) := by decide +kernel
theorem d_law_1094 : decode b_law 1094 = .ok (.aload_n 0, 1) := by decide +kernel
theorem d_law_1095 : decode b_law 1095 = .ok (.iload 4, 2) := by decide +kernel
theorem d_law_1097 : decode b_law 1097 = .ok (.iconst 3, 1) := by decide +kernel
theorem d_law_1098 : decode b_law 1098 = .ok (.iadd, 1) := by decide +kernel
theorem d_law_1099 : decode b_law 1099 = .ok (.iaload, 1) := by decide +kernel
theorem d_law_1100 : decode b_law 1100 = .ok (.i2l, 1) := by decide +kernel
theorem d_law_1101 : decode b_law 1101 = .ok (.ldc2_w 86, 3) := by decide +kernel
theorem d_law_1104 : decode b_law 1104 = .ok (.land, 1) := by decide +kernel
theorem d_law_1105 : decode b_law 1105 = .ok (.lor, 1) := by decide +kernel
theorem d_law_1106 : decode b_law 1106 = .ok (.aload_n 0, 1) := by decide +kernel
theorem d_law_1107 : decode b_law 1107 = .ok (.iload 4, 2) := by decide +kernel
theorem d_law_1109 : decode b_law 1109 = .ok (.iconst 4, 1) := by decide +kernel
theorem d_law_1110 : decode b_law 1110 = .ok (.iadd, 1) := by decide +kernel
theorem d_law_1111 : decode b_law 1111 = .ok (.iaload, 1) := by decide +kernel
theorem d_law_1112 : decode b_law 1112 = .ok (.i2l, 1) := by decide +kernel
theorem d_law_1113 : decode b_law 1113 = .ok (.bipush 32, 2) := by decide +kernel
theorem d_law_1115 : decode b_law 1115 = .ok (.lshl, 1) := by decide +kernel
theorem d_law_1116 : decode b_law 1116 = .ok (.aload_n 0, 1) := by decide +kernel
theorem d_law_1117 : decode b_law 1117 = .ok (.iload 4, 2) := by decide +kernel
theorem d_law_1119 : decode b_law 1119 = .ok (.iconst 5, 1) := by decide +kernel
theorem d_law_1120 : decode b_law 1120 = .ok (.iadd, 1) := by decide +kernel
theorem d_law_1121 : decode b_law 1121 = .ok (.iaload, 1) := by decide +kernel
theorem d_law_1122 : decode b_law 1122 = .ok (.i2l, 1) := by decide +kernel
theorem d_law_1123 : decode b_law 1123 = .ok (.ldc2_w 86, 3) := by decide +kernel
theorem d_law_1126 : decode b_law 1126 = .ok (.land, 1) := by decide +kernel
theorem d_law_1127 : decode b_law 1127 = .ok (.lor, 1) := by decide +kernel
theorem d_law_1128 : decode b_law 1128 = .ok (.aload_n 0, 1) := by decide +kernel
theorem d_law_1129 : decode b_law 1129 = .ok (.iload 4, 2) := by decide +kernel
theorem d_law_1131 : decode b_law 1131 = .ok (.bipush 6, 2) := by decide +kernel
theorem d_law_1133 : decode b_law 1133 = .ok (.iadd, 1) := by decide +kernel
theorem d_law_1134 : decode b_law 1134 = .ok (.iaload, 1) := by decide +kernel
theorem d_law_1135 : decode b_law 1135 = .ok (.i2l, 1) := by decide +kernel
theorem d_law_1136 : decode b_law 1136 = .ok (.bipush 32, 2) := by decide +kernel
theorem d_law_1138 : decode b_law 1138 = .ok (.lshl, 1) := by decide +kernel
theorem d_law_1139 : decode b_law 1139 = .ok (.aload_n 0, 1) := by decide +kernel
theorem d_law_1140 : decode b_law 1140 = .ok (.iload 4, 2) := by decide +kernel
theorem d_law_1142 : decode b_law 1142 = .ok (.bipush 7, 2) := by decide +kernel
theorem d_law_1144 : decode b_law 1144 = .ok (.iadd, 1) := by decide +kernel
theorem d_law_1145 : decode b_law 1145 = .ok (.iaload, 1) := by decide +kernel
theorem d_law_1146 : decode b_law 1146 = .ok (.i2l, 1) := by decide +kernel
theorem d_law_1147 : decode b_law 1147 = .ok (.ldc2_w 86, 3) := by decide +kernel
theorem d_law_1150 : decode b_law 1150 = .ok (.land, 1) := by decide +kernel
theorem d_law_1151 : decode b_law 1151 = .ok (.lor, 1) := by decide +kernel
theorem d_law_1152 : decode b_law 1152 = .ok (.aload_n 0, 1) := by decide +kernel
theorem d_law_1153 : decode b_law 1153 = .ok (.iload 4, 2) := by decide +kernel
theorem d_law_1155 : decode b_law 1155 = .ok (.bipush 8, 2) := by decide +kernel
theorem d_law_1157 : decode b_law 1157 = .ok (.iadd, 1) := by decide +kernel
theorem d_law_1158 : decode b_law 1158 = .ok (.iaload, 1) := by decide +kernel
theorem d_law_1159 : decode b_law 1159 = .ok (.i2l, 1) := by decide +kernel
theorem d_law_1160 : decode b_law 1160 = .ok (.bipush 32, 2) := by decide +kernel
theorem d_law_1162 : decode b_law 1162 = .ok (.lshl, 1) := by decide +kernel
theorem d_law_1163 : decode b_law 1163 = .ok (.aload_n 0, 1) := by decide +kernel
theorem d_law_1164 : decode b_law 1164 = .ok (.iload 4, 2) := by decide +kernel
theorem d_law_1166 : decode b_law 1166 = .ok (.bipush 9, 2) := by decide +kernel
theorem d_law_1168 : decode b_law 1168 = .ok (.iadd, 1) := by decide +kernel
theorem d_law_1169 : decode b_law 1169 = .ok (.iaload, 1) := by decide +kernel
theorem d_law_1170 : decode b_law 1170 = .ok (.i2l, 1) := by decide +kernel
theorem d_law_1171 : decode b_law 1171 = .ok (.ldc2_w 86, 3) := by decide +kernel
theorem d_law_1174 : decode b_law 1174 = .ok (.land, 1) := by decide +kernel
theorem d_law_1175 : decode b_law 1175 = .ok (.lor, 1) := by decide +kernel
theorem d_law_1176 : decode b_law 1176 = .ok (.aload_n 0, 1) := by decide +kernel
theorem d_law_1177 : decode b_law 1177 = .ok (.iload 4, 2) := by decide +kernel
theorem d_law_1179 : decode b_law 1179 = .ok (.bipush 10, 2) := by decide +kernel
theorem d_law_1181 : decode b_law 1181 = .ok (.iadd, 1) := by decide +kernel
theorem d_law_1182 : decode b_law 1182 = .ok (.iaload, 1) := by decide +kernel
theorem d_law_1183 : decode b_law 1183 = .ok (.aload_n 0, 1) := by decide +kernel
theorem d_law_1184 : decode b_law 1184 = .ok (.iload 4, 2) := by decide +kernel
theorem d_law_1186 : decode b_law 1186 = .ok (.bipush 11, 2) := by decide +kernel
theorem d_law_1188 : decode b_law 1188 = .ok (.iadd, 1) := by decide +kernel
theorem d_law_1189 : decode b_law 1189 = .ok (.iaload, 1) := by decide +kernel
theorem d_law_1190 : decode b_law 1190 = .ok (.i2l, 1) := by decide +kernel
theorem d_law_1191 : decode b_law 1191 = .ok (.bipush 32, 2) := by decide +kernel
theorem d_law_1193 : decode b_law 1193 = .ok (.lshl, 1) := by decide +kernel
theorem d_law_1194 : decode b_law 1194 = .ok (.aload_n 0, 1) := by decide +kernel
theorem d_law_1195 : decode b_law 1195 = .ok (.iload 4, 2) := by decide +kernel
theorem d_law_1197 : decode b_law 1197 = .ok (.bipush 12, 2) := by decide +kernel
theorem d_law_1199 : decode b_law 1199 = .ok (.iadd, 1) := by decide +kernel
theorem d_law_1200 : decode b_law 1200 = .ok (.iaload, 1) := by decide +kernel
theorem d_law_1201 : decode b_law 1201 = .ok (.i2l, 1) := by decide +kernel
theorem d_law_1202 : decode b_law 1202 = .ok (.ldc2_w 86, 3) := by decide +kernel
theorem d_law_1205 : decode b_law 1205 = .ok (.land, 1) := by decide +kernel
theorem d_law_1206 : decode b_law 1206 = .ok (.lor, 1) := by decide +kernel
theorem d_law_1207 : decode b_law 1207 = .ok (.aload_n 3, 1) := by decide +kernel
theorem d_law_1208 : decode b_law 1208 = .ok (.invokestatic 107, 3) := by decide +kernel
theorem d_law_1211 : decode b_law 1211 = .ok (.istore 5, 2) := by decide +kernel
theorem d_law_1213 : decode b_law 1213 = .ok (.aload_n 2, 1) := by decide +kernel
theorem d_law_1214 : decode b_law 1214 = .ok (.aload_n 0, 1) := by decide +kernel
theorem d_law_1215 : decode b_law 1215 = .ok (.iload 4, 2) := by decide +kernel
theorem d_law_1217 : decode b_law 1217 = .ok (.iconst 1, 1) := by decide +kernel
theorem d_law_1218 : decode b_law 1218 = .ok (.iadd, 1) := by decide +kernel
theorem d_law_1219 : decode b_law 1219 = .ok (.iaload, 1) := by decide +kernel
theorem d_law_1220 : decode b_law 1220 = .ok (.aload_n 0, 1) := by decide +kernel
theorem d_law_1221 : decode b_law 1221 = .ok (.iload 4, 2) := by decide +kernel
theorem d_law_1223 : decode b_law 1223 = .ok (.iconst 2, 1) := by decide +kernel
theorem d_law_1224 : decode b_law 1224 = .ok (.iadd, 1) := by decide +kernel
theorem d_law_1225 : decode b_law 1225 = .ok (.iaload, 1) := by decide +kernel
theorem d_law_1226 : decode b_law 1226 = .ok (.i2l, 1) := by decide +kernel
theorem d_law_1227 : decode b_law 1227 = .ok (.bipush 32, 2) := by decide +kernel
theorem d_law_1229 : decode b_law 1229 = .ok (.lshl, 1) := by decide +kernel
theorem d_law_1230 : decode b_law 1230 = .ok (.aload_n 0, 1) := by decide +kernel
theorem d_law_1231 : decode b_law 1231 = .ok (.iload 4, 2) := by decide +kernel
theorem d_law_1233 : decode b_law 1233 = .ok (.iconst 3, 1) := by decide +kernel
theorem d_law_1234 : decode b_law 1234 = .ok (.iadd, 1) := by decide +kernel
theorem d_law_1235 : decode b_law 1235 = .ok (.iaload, 1) := by decide +kernel
theorem d_law_1236 : decode b_law 1236 = .ok (.i2l, 1) := by decide +kernel
theorem d_law_1237 : decode b_law 1237 = .ok (.ldc2_w 86, 3) := by decide +kernel
theorem d_law_1240 : decode b_law 1240 = .ok (.land, 1) := by decide +kernel
theorem d_law_1241 : decode b_law 1241 = .ok (.lor, 1) := by decide +kernel
theorem d_law_1242 : decode b_law 1242 = .ok (.aload_n 0, 1) := by decide +kernel
theorem d_law_1243 : decode b_law 1243 = .ok (.iload 4, 2) := by decide +kernel
theorem d_law_1245 : decode b_law 1245 = .ok (.iconst 4, 1) := by decide +kernel
theorem d_law_1246 : decode b_law 1246 = .ok (.iadd, 1) := by decide +kernel
theorem d_law_1247 : decode b_law 1247 = .ok (.iaload, 1) := by decide +kernel
theorem d_law_1248 : decode b_law 1248 = .ok (.i2l, 1) := by decide +kernel
theorem d_law_1249 : decode b_law 1249 = .ok (.bipush 32, 2) := by decide +kernel
theorem d_law_1251 : decode b_law 1251 = .ok (.lshl, 1) := by decide +kernel
theorem d_law_1252 : decode b_law 1252 = .ok (.aload_n 0, 1) := by decide +kernel
theorem d_law_1253 : decode b_law 1253 = .ok (.iload 4, 2) := by decide +kernel
theorem d_law_1255 : decode b_law 1255 = .ok (.iconst 5, 1) := by decide +kernel
theorem d_law_1256 : decode b_law 1256 = .ok (.iadd, 1) := by decide +kernel
theorem d_law_1257 : decode b_law 1257 = .ok (.iaload, 1) := by decide +kernel
theorem d_law_1258 : decode b_law 1258 = .ok (.i2l, 1) := by decide +kernel
theorem d_law_1259 : decode b_law 1259 = .ok (.ldc2_w 86, 3) := by decide +kernel
theorem d_law_1262 : decode b_law 1262 = .ok (.land, 1) := by decide +kernel
theorem d_law_1263 : decode b_law 1263 = .ok (.lor, 1) := by decide +kernel
theorem d_law_1264 : decode b_law 1264 = .ok (.aload_n 0, 1) := by decide +kernel
theorem d_law_1265 : decode b_law 1265 = .ok (.iload 4, 2) := by decide +kernel
theorem d_law_1267 : decode b_law 1267 = .ok (.bipush 6, 2) := by decide +kernel
theorem d_law_1269 : decode b_law 1269 = .ok (.iadd, 1) := by decide +kernel
theorem d_law_1270 : decode b_law 1270 = .ok (.iaload, 1) := by decide +kernel
theorem d_law_1271 : decode b_law 1271 = .ok (.i2l, 1) := by decide +kernel
theorem d_law_1272 : decode b_law 1272 = .ok (.bipush 32, 2) := by decide +kernel
theorem d_law_1274 : decode b_law 1274 = .ok (.lshl, 1) := by decide +kernel
theorem d_law_1275 : decode b_law 1275 = .ok (.aload_n 0, 1) := by decide +kernel
theorem d_law_1276 : decode b_law 1276 = .ok (.iload 4, 2) := by decide +kernel
theorem d_law_1278 : decode b_law 1278 = .ok (.bipush 7, 2) := by decide +kernel
theorem d_law_1280 : decode b_law 1280 = .ok (.iadd, 1) := by decide +kernel
theorem d_law_1281 : decode b_law 1281 = .ok (.iaload, 1) := by decide +kernel
theorem d_law_1282 : decode b_law 1282 = .ok (.i2l, 1) := by decide +kernel
theorem d_law_1283 : decode b_law 1283 = .ok (.ldc2_w 86, 3) := by decide +kernel
theorem d_law_1286 : decode b_law 1286 = .ok (.land, 1) := by decide +kernel
theorem d_law_1287 : decode b_law 1287 = .ok (.lor, 1) := by decide +kernel
theorem d_law_1288 : decode b_law 1288 = .ok (.aload_n 0, 1) := by decide +kernel
theorem d_law_1289 : decode b_law 1289 = .ok (.iload 4, 2) := by decide +kernel
theorem d_law_1291 : decode b_law 1291 = .ok (.bipush 8, 2) := by decide +kernel
theorem d_law_1293 : decode b_law 1293 = .ok (.iadd, 1) := by decide +kernel
theorem d_law_1294 : decode b_law 1294 = .ok (.iaload, 1) := by decide +kernel
theorem d_law_1295 : decode b_law 1295 = .ok (.i2l, 1) := by decide +kernel
theorem d_law_1296 : decode b_law 1296 = .ok (.bipush 32, 2) := by decide +kernel
theorem d_law_1298 : decode b_law 1298 = .ok (.lshl, 1) := by decide +kernel
theorem d_law_1299 : decode b_law 1299 = .ok (.aload_n 0, 1) := by decide +kernel
theorem d_law_1300 : decode b_law 1300 = .ok (.iload 4, 2) := by decide +kernel
theorem d_law_1302 : decode b_law 1302 = .ok (.bipush 9, 2) := by decide +kernel
theorem d_law_1304 : decode b_law 1304 = .ok (.iadd, 1) := by decide +kernel
theorem d_law_1305 : decode b_law 1305 = .ok (.iaload, 1) := by decide +kernel
theorem d_law_1306 : decode b_law 1306 = .ok (.i2l, 1) := by decide +kernel
theorem d_law_1307 : decode b_law 1307 = .ok (.ldc2_w 86, 3) := by decide +kernel
theorem d_law_1310 : decode b_law 1310 = .ok (.land, 1) := by decide +kernel
theorem d_law_1311 : decode b_law 1311 = .ok (.lor, 1) := by decide +kernel
theorem d_law_1312 : decode b_law 1312 = .ok (.aload_n 0, 1) := by decide +kernel
theorem d_law_1313 : decode b_law 1313 = .ok (.iload 4, 2) := by decide +kernel
theorem d_law_1315 : decode b_law 1315 = .ok (.bipush 10, 2) := by decide +kernel
theorem d_law_1317 : decode b_law 1317 = .ok (.iadd, 1) := by decide +kernel
theorem d_law_1318 : decode b_law 1318 = .ok (.iaload, 1) := by decide +kernel
theorem d_law_1319 : decode b_law 1319 = .ok (.aload_n 0, 1) := by decide +kernel
theorem d_law_1320 : decode b_law 1320 = .ok (.iload 4, 2) := by decide +kernel
theorem d_law_1322 : decode b_law 1322 = .ok (.bipush 11, 2) := by decide +kernel
theorem d_law_1324 : decode b_law 1324 = .ok (.iadd, 1) := by decide +kernel
theorem d_law_1325 : decode b_law 1325 = .ok (.iaload, 1) := by decide +kernel
theorem d_law_1326 : decode b_law 1326 = .ok (.i2l, 1) := by decide +kernel
theorem d_law_1327 : decode b_law 1327 = .ok (.bipush 32, 2) := by decide +kernel
theorem d_law_1329 : decode b_law 1329 = .ok (.lshl, 1) := by decide +kernel
theorem d_law_1330 : decode b_law 1330 = .ok (.aload_n 0, 1) := by decide +kernel
theorem d_law_1331 : decode b_law 1331 = .ok (.iload 4, 2) := by decide +kernel
theorem d_law_1333 : decode b_law 1333 = .ok (.bipush 12, 2) := by decide +kernel
theorem d_law_1335 : decode b_law 1335 = .ok (.iadd, 1) := by decide +kernel
theorem d_law_1336 : decode b_law 1336 = .ok (.iaload, 1) := by decide +kernel
theorem d_law_1337 : decode b_law 1337 = .ok (.i2l, 1) := by decide +kernel
theorem d_law_1338 : decode b_law 1338 = .ok (.ldc2_w 86, 3) := by decide +kernel
theorem d_law_1341 : decode b_law 1341 = .ok (.land, 1) := by decide +kernel
theorem d_law_1342 : decode b_law 1342 = .ok (.lor, 1) := by decide +kernel
theorem d_law_1343 : decode b_law 1343 = .ok (.invokevirtual 110, 3) := by decide +kernel
theorem d_law_1346 : decode b_law 1346 = .ok (.istore 6, 2) := by decide +kernel
theorem d_law_1348 : decode b_law 1348 = .ok (.aload_n 2, 1) := by decide +kernel
theorem d_law_1349 : decode b_law 1349 = .ok (.invokevirtual 92, 3) := by decide +kernel
theorem d_law_1352 : decode b_law 1352 = .ok (.iload 5, 2) := by decide +kernel
theorem d_law_1354 : decode b_law 1354 = .ok (.if_icmp .eq 5, 3) := by decide +kernel
theorem d_law_1357 : decode b_law 1357 = .ok (.iconst 0, 1) := by decide +kernel
theorem d_law_1358 : decode b_law 1358 = .ok (.ireturn, 1) := by decide +kernel
theorem d_law_1359 : decode b_law 1359 = .ok (.iload 5, 2) := by decide +kernel
theorem d_law_1361 : decode b_law 1361 = .ok (.ifCond .ne 22, 3) := by decide +kernel
theorem d_law_1364 : decode b_law 1364 = .ok (.aload_n 3, 1) := by decide +kernel
theorem d_law_1365 : decode b_law 1365 = .ok (.iconst 0, 1) := by decide +kernel
theorem d_law_1366 : decode b_law 1366 = .ok (.laload, 1) := by decide +kernel
theorem d_law_1367 : decode b_law 1367 = .ok (.iload 6, 2) := by decide +kernel
theorem d_law_1369 : decode b_law 1369 = .ok (.ifCond .eq 7, 3) := by decide +kernel
theorem d_law_1372 : decode b_law 1372 = .ok (.lconst 1, 1) := by decide +kernel
theorem d_law_1373 : decode b_law 1373 = .ok (.goto 4, 3) := by decide +kernel
theorem d_law_1376 : decode b_law 1376 = .ok (.lconst 0, 1) := by decide +kernel
theorem d_law_1377 : decode b_law 1377 = .ok (.lcmp, 1) := by decide +kernel
theorem d_law_1378 : decode b_law 1378 = .ok (.ifCond .eq 5, 3) := by decide +kernel
theorem d_law_1381 : decode b_law 1381 = .ok (.iconst 0, 1) := by decide +kernel
theorem d_law_1382 : decode b_law 1382 = .ok (.ireturn, 1) := by decide +kernel
theorem d_law_1383 : decode b_law 1383 = .ok (.goto 1124, 3) := by decide +kernel
theorem d_law_1386 : decode b_law 1386 = .ok (.aload_n 1, 1) := by decide +kernel
theorem d_law_1387 : decode b_law 1387 = .ok (.aload_n 0, 1) := by decide +kernel
theorem d_law_1388 : decode b_law 1388 = .ok (.iload 4, 2) := by decide +kernel
theorem d_law_1390 : decode b_law 1390 = .ok (.iconst 1, 1) := by decide +kernel
theorem d_law_1391 : decode b_law 1391 = .ok (.iadd, 1) := by decide +kernel
theorem d_law_1392 : decode b_law 1392 = .ok (.iaload, 1) := by decide +kernel
theorem d_law_1393 : decode b_law 1393 = .ok (.aload_n 0, 1) := by decide +kernel
theorem d_law_1394 : decode b_law 1394 = .ok (.iload 4, 2) := by decide +kernel
theorem d_law_1396 : decode b_law 1396 = .ok (.iconst 2, 1) := by decide +kernel
theorem d_law_1397 : decode b_law 1397 = .ok (.iadd, 1) := by decide +kernel
theorem d_law_1398 : decode b_law 1398 = .ok (.iaload, 1) := by decide +kernel
theorem d_law_1399 : decode b_law 1399 = .ok (.aload_n 3, 1) := by decide +kernel
theorem d_law_1400 : decode b_law 1400 = .ok (.invokestatic 111, 3) := by decide +kernel
theorem d_law_1403 : decode b_law 1403 = .ok (.istore 5, 2) := by decide +kernel
theorem d_law_1405 : decode b_law 1405 = .ok (.aload_n 2, 1) := by decide +kernel
theorem d_law_1406 : decode b_law 1406 = .ok (.aload_n 0, 1) := by decide +kernel
theorem d_law_1407 : decode b_law 1407 = .ok (.iload 4, 2) := by decide +kernel
theorem d_law_1409 : decode b_law 1409 = .ok (.iconst 1, 1) := by decide +kernel
theorem d_law_1410 : decode b_law 1410 = .ok (.iadd, 1) := by decide +kernel
theorem d_law_1411 : decode b_law 1411 = .ok (.iaload, 1) := by decide +kernel
theorem d_law_1412 : decode b_law 1412 = .ok (.aload_n 0, 1) := by decide +kernel
theorem d_law_1413 : decode b_law 1413 = .ok (.iload 4, 2) := by decide +kernel
theorem d_law_1415 : decode b_law 1415 = .ok (.iconst 2, 1) := by decide +kernel
theorem d_law_1416 : decode b_law 1416 = .ok (.iadd, 1) := by decide +kernel
theorem d_law_1417 : decode b_law 1417 = .ok (.iaload, 1) := by decide +kernel
theorem d_law_1418 : decode b_law 1418 = .ok (.invokevirtual 114, 3) := by decide +kernel
theorem d_law_1421 : decode b_law 1421 = .ok (.istore 6, 2) := by decide +kernel
theorem d_law_1423 : decode b_law 1423 = .ok (.aload_n 2, 1) := by decide +kernel
theorem d_law_1424 : decode b_law 1424 = .ok (.invokevirtual 92, 3) := by decide +kernel
theorem d_law_1427 : decode b_law 1427 = .ok (.iload 5, 2) := by decide +kernel
theorem d_law_1429 : decode b_law 1429 = .ok (.if_icmp .eq 5, 3) := by decide +kernel
theorem d_law_1432 : decode b_law 1432 = .ok (.iconst 0, 1) := by decide +kernel
theorem d_law_1433 : decode b_law 1433 = .ok (.ireturn, 1) := by decide +kernel
theorem d_law_1434 : decode b_law 1434 = .ok (.iload 5, 2) := by decide +kernel
theorem d_law_1436 : decode b_law 1436 = .ok (.ifCond .ne 15, 3) := by decide +kernel
theorem d_law_1439 : decode b_law 1439 = .ok (.aload_n 3, 1) := by decide +kernel
theorem d_law_1440 : decode b_law 1440 = .ok (.iconst 0, 1) := by decide +kernel
theorem d_law_1441 : decode b_law 1441 = .ok (.laload, 1) := by decide +kernel
theorem d_law_1442 : decode b_law 1442 = .ok (.iload 6, 2) := by decide +kernel
theorem d_law_1444 : decode b_law 1444 = .ok (.i2l, 1) := by decide +kernel
theorem d_law_1445 : decode b_law 1445 = .ok (.lcmp, 1) := by decide +kernel
theorem d_law_1446 : decode b_law 1446 = .ok (.ifCond .eq 5, 3) := by decide +kernel
theorem d_law_1449 : decode b_law 1449 = .ok (.iconst 0, 1) := by decide +kernel
theorem d_law_1450 : decode b_law 1450 = .ok (.ireturn, 1) := by decide +kernel
theorem d_law_1451 : decode b_law 1451 = .ok (.goto 1056, 3) := by decide +kernel
theorem d_law_1454 : decode b_law 1454 = .ok (.aload_n 1, 1) := by decide +kernel
theorem d_law_1455 : decode b_law 1455 = .ok (.aload_n 0, 1) := by decide +kernel
theorem d_law_1456 : decode b_law 1456 = .ok (.iload 4, 2) := by decide +kernel
theorem d_law_1458 : decode b_law 1458 = .ok (.iconst 1, 1) := by decide +kernel
theorem d_law_1459 : decode b_law 1459 = .ok (.iadd, 1) := by decide +kernel
theorem d_law_1460 : decode b_law 1460 = .ok (.iaload, 1) := by decide +kernel
theorem d_law_1461 : decode b_law 1461 = .ok (.aload_n 0, 1) := by decide +kernel
theorem d_law_1462 : decode b_law 1462 = .ok (.iload 4, 2) := by decide +kernel
theorem d_law_1464 : decode b_law 1464 = .ok (.iconst 2, 1) := by decide +kernel
theorem d_law_1465 : decode b_law 1465 = .ok (.iadd, 1) := by decide +kernel
theorem d_law_1466 : decode b_law 1466 = .ok (.iaload, 1) := by decide +kernel
theorem d_law_1467 : decode b_law 1467 = .ok (.i2l, 1) := by decide +kernel
theorem d_law_1468 : decode b_law 1468 = .ok (.bipush 32, 2) := by decide +kernel
theorem d_law_1470 : decode b_law 1470 = .ok (.lshl, 1) := by decide +kernel
theorem d_law_1471 : decode b_law 1471 = .ok (.aload_n 0, 1) := by decide +kernel
theorem d_law_1472 : decode b_law 1472 = .ok (.iload 4, 2) := by decide +kernel
theorem d_law_1474 : decode b_law 1474 = .ok (.iconst 3, 1) := by decide +kernel
theorem d_law_1475 : decode b_law 1475 = .ok (.iadd, 1) := by decide +kernel
theorem d_law_1476 : decode b_law 1476 = .ok (.iaload, 1) := by decide +kernel
theorem d_law_1477 : decode b_law 1477 = .ok (.i2l, 1) := by decide +kernel
theorem d_law_1478 : decode b_law 1478 = .ok (.ldc2_w 86, 3) := by decide +kernel
theorem d_law_1481 : decode b_law 1481 = .ok (.land, 1) := by decide +kernel
theorem d_law_1482 : decode b_law 1482 = .ok (.lor, 1) := by decide +kernel
theorem d_law_1483 : decode b_law 1483 = .ok (.aload_n 0, 1) := by decide +kernel
theorem d_law_1484 : decode b_law 1484 = .ok (.iload 4, 2) := by decide +kernel
theorem d_law_1486 : decode b_law 1486 = .ok (.iconst 4, 1) := by decide +kernel
theorem d_law_1487 : decode b_law 1487 = .ok (.iadd, 1) := by decide +kernel
theorem d_law_1488 : decode b_law 1488 = .ok (.iaload, 1) := by decide +kernel
theorem d_law_1489 : decode b_law 1489 = .ok (.i2l, 1) := by decide +kernel
theorem d_law_1490 : decode b_law 1490 = .ok (.bipush 32, 2) := by decide +kernel
theorem d_law_1492 : decode b_law 1492 = .ok (.lshl, 1) := by decide +kernel
theorem d_law_1493 : decode b_law 1493 = .ok (.aload_n 0, 1) := by decide +kernel
theorem d_law_1494 : decode b_law 1494 = .ok (.iload 4, 2) := by decide +kernel
theorem d_law_1496 : decode b_law 1496 = .ok (.iconst 5, 1) := by decide +kernel
theorem d_law_1497 : decode b_law 1497 = .ok (.iadd, 1) := by decide +kernel
theorem d_law_1498 : decode b_law 1498 = .ok (.iaload, 1) := by decide +kernel
theorem d_law_1499 : decode b_law 1499 = .ok (.i2l, 1) := by decide +kernel
theorem d_law_1500 : decode b_law 1500 = .ok (.ldc2_w 86, 3) := by decide +kernel
theorem d_law_1503 : decode b_law 1503 = .ok (.land, 1) := by decide +kernel
theorem d_law_1504 : decode b_law 1504 = .ok (.lor, 1) := by decide +kernel
theorem d_law_1505 : decode b_law 1505 = .ok (.aload_n 0, 1) := by decide +kernel
theorem d_law_1506 : decode b_law 1506 = .ok (.iload 4, 2) := by decide +kernel
theorem d_law_1508 : decode b_law 1508 = .ok (.bipush 6, 2) := by decide +kernel
theorem d_law_1510 : decode b_law 1510 = .ok (.iadd, 1) := by decide +kernel
theorem d_law_1511 : decode b_law 1511 = .ok (.iaload, 1) := by decide +kernel
theorem d_law_1512 : decode b_law 1512 = .ok (.aload_n 0, 1) := by decide +kernel
theorem d_law_1513 : decode b_law 1513 = .ok (.iload 4, 2) := by decide +kernel
theorem d_law_1515 : decode b_law 1515 = .ok (.bipush 7, 2) := by decide +kernel
theorem d_law_1517 : decode b_law 1517 = .ok (.iadd, 1) := by decide +kernel
theorem d_law_1518 : decode b_law 1518 = .ok (.iaload, 1) := by decide +kernel
theorem d_law_1519 : decode b_law 1519 = .ok (.aload_n 3, 1) := by decide +kernel
theorem d_law_1520 : decode b_law 1520 = .ok (.invokestatic 115, 3) := by decide +kernel
theorem d_law_1523 : decode b_law 1523 = .ok (.istore 5, 2) := by decide +kernel
theorem d_law_1525 : decode b_law 1525 = .ok (.aload_n 2, 1) := by decide +kernel
theorem d_law_1526 : decode b_law 1526 = .ok (.aload_n 0, 1) := by decide +kernel
theorem d_law_1527 : decode b_law 1527 = .ok (.iload 4, 2) := by decide +kernel
theorem d_law_1529 : decode b_law 1529 = .ok (.iconst 1, 1) := by decide +kernel
theorem d_law_1530 : decode b_law 1530 = .ok (.iadd, 1) := by decide +kernel
theorem d_law_1531 : decode b_law 1531 = .ok (.iaload, 1) := by decide +kernel
theorem d_law_1532 : decode b_law 1532 = .ok (.aload_n 0, 1) := by decide +kernel
theorem d_law_1533 : decode b_law 1533 = .ok (.iload 4, 2) := by decide +kernel
theorem d_law_1535 : decode b_law 1535 = .ok (.iconst 2, 1) := by decide +kernel
theorem d_law_1536 : decode b_law 1536 = .ok (.iadd, 1) := by decide +kernel
theorem d_law_1537 : decode b_law 1537 = .ok (.iaload, 1) := by decide +kernel
theorem d_law_1538 : decode b_law 1538 = .ok (.i2l, 1) := by decide +kernel
theorem d_law_1539 : decode b_law 1539 = .ok (.bipush 32, 2) := by decide +kernel
theorem d_law_1541 : decode b_law 1541 = .ok (.lshl, 1) := by decide +kernel
theorem d_law_1542 : decode b_law 1542 = .ok (.aload_n 0, 1) := by decide +kernel
theorem d_law_1543 : decode b_law 1543 = .ok (.iload 4, 2) := by decide +kernel
theorem d_law_1545 : decode b_law 1545 = .ok (.iconst 3, 1) := by decide +kernel
theorem d_law_1546 : decode b_law 1546 = .ok (.iadd, 1) := by decide +kernel
theorem d_law_1547 : decode b_law 1547 = .ok (.iaload, 1) := by decide +kernel
theorem d_law_1548 : decode b_law 1548 = .ok (.i2l, 1) := by decide +kernel
theorem d_law_1549 : decode b_law 1549 = .ok (.ldc2_w 86, 3) := by decide +kernel
theorem d_law_1552 : decode b_law 1552 = .ok (.land, 1) := by decide +kernel
theorem d_law_1553 : decode b_law 1553 = .ok (.lor, 1) := by decide +kernel
theorem d_law_1554 : decode b_law 1554 = .ok (.aload_n 0, 1) := by decide +kernel
theorem d_law_1555 : decode b_law 1555 = .ok (.iload 4, 2) := by decide +kernel
theorem d_law_1557 : decode b_law 1557 = .ok (.iconst 4, 1) := by decide +kernel
theorem d_law_1558 : decode b_law 1558 = .ok (.iadd, 1) := by decide +kernel
theorem d_law_1559 : decode b_law 1559 = .ok (.iaload, 1) := by decide +kernel
theorem d_law_1560 : decode b_law 1560 = .ok (.i2l, 1) := by decide +kernel
theorem d_law_1561 : decode b_law 1561 = .ok (.bipush 32, 2) := by decide +kernel
theorem d_law_1563 : decode b_law 1563 = .ok (.lshl, 1) := by decide +kernel
theorem d_law_1564 : decode b_law 1564 = .ok (.aload_n 0, 1) := by decide +kernel
theorem d_law_1565 : decode b_law 1565 = .ok (.iload 4, 2) := by decide +kernel
theorem d_law_1567 : decode b_law 1567 = .ok (.iconst 5, 1) := by decide +kernel
theorem d_law_1568 : decode b_law 1568 = .ok (.iadd, 1) := by decide +kernel
theorem d_law_1569 : decode b_law 1569 = .ok (.iaload, 1) := by decide +kernel
theorem d_law_1570 : decode b_law 1570 = .ok (.i2l, 1) := by decide +kernel
theorem d_law_1571 : decode b_law 1571 = .ok (.ldc2_w 86, 3) := by decide +kernel
theorem d_law_1574 : decode b_law 1574 = .ok (.land, 1) := by decide +kernel
theorem d_law_1575 : decode b_law 1575 = .ok (.lor, 1) := by decide +kernel
theorem d_law_1576 : decode b_law 1576 = .ok (.aload_n 0, 1) := by decide +kernel
theorem d_law_1577 : decode b_law 1577 = .ok (.iload 4, 2) := by decide +kernel
theorem d_law_1579 : decode b_law 1579 = .ok (.bipush 6, 2) := by decide +kernel
theorem d_law_1581 : decode b_law 1581 = .ok (.iadd, 1) := by decide +kernel
theorem d_law_1582 : decode b_law 1582 = .ok (.iaload, 1) := by decide +kernel
theorem d_law_1583 : decode b_law 1583 = .ok (.aload_n 0, 1) := by decide +kernel
theorem d_law_1584 : decode b_law 1584 = .ok (.iload 4, 2) := by decide +kernel
theorem d_law_1586 : decode b_law 1586 = .ok (.bipush 7, 2) := by decide +kernel
theorem d_law_1588 : decode b_law 1588 = .ok (.iadd, 1) := by decide +kernel
theorem d_law_1589 : decode b_law 1589 = .ok (.iaload, 1) := by decide +kernel
theorem d_law_1590 : decode b_law 1590 = .ok (.invokevirtual 118, 3) := by decide +kernel
theorem d_law_1593 : decode b_law 1593 = .ok (.istore 6, 2) := by decide +kernel
theorem d_law_1595 : decode b_law 1595 = .ok (.aload_n 2, 1) := by decide +kernel
theorem d_law_1596 : decode b_law 1596 = .ok (.invokevirtual 92, 3) := by decide +kernel
theorem d_law_1599 : decode b_law 1599 = .ok (.iload 5, 2) := by decide +kernel
theorem d_law_1601 : decode b_law 1601 = .ok (.if_icmp .eq 5, 3) := by decide +kernel
theorem d_law_1604 : decode b_law 1604 = .ok (.iconst 0, 1) := by decide +kernel
theorem d_law_1605 : decode b_law 1605 = .ok (.ireturn, 1) := by decide +kernel
theorem d_law_1606 : decode b_law 1606 = .ok (.iload 5, 2) := by decide +kernel
theorem d_law_1608 : decode b_law 1608 = .ok (.ifCond .ne 15, 3) := by decide +kernel
theorem d_law_1611 : decode b_law 1611 = .ok (.aload_n 3, 1) := by decide +kernel
theorem d_law_1612 : decode b_law 1612 = .ok (.iconst 0, 1) := by decide +kernel
theorem d_law_1613 : decode b_law 1613 = .ok (.laload, 1) := by decide +kernel
theorem d_law_1614 : decode b_law 1614 = .ok (.iload 6, 2) := by decide +kernel
theorem d_law_1616 : decode b_law 1616 = .ok (.i2l, 1) := by decide +kernel
theorem d_law_1617 : decode b_law 1617 = .ok (.lcmp, 1) := by decide +kernel
theorem d_law_1618 : decode b_law 1618 = .ok (.ifCond .eq 5, 3) := by decide +kernel
theorem d_law_1621 : decode b_law 1621 = .ok (.iconst 0, 1) := by decide +kernel
theorem d_law_1622 : decode b_law 1622 = .ok (.ireturn, 1) := by decide +kernel
theorem d_law_1623 : decode b_law 1623 = .ok (.goto 884, 3) := by decide +kernel
theorem d_law_1626 : decode b_law 1626 = .ok (.aload_n 1, 1) := by decide +kernel
theorem d_law_1627 : decode b_law 1627 = .ok (.aload_n 0, 1) := by decide +kernel
theorem d_law_1628 : decode b_law 1628 = .ok (.iload 4, 2) := by decide +kernel
theorem d_law_1630 : decode b_law 1630 = .ok (.iconst 1, 1) := by decide +kernel
theorem d_law_1631 : decode b_law 1631 = .ok (.iadd, 1) := by decide +kernel
theorem d_law_1632 : decode b_law 1632 = .ok (.iaload, 1) := by decide +kernel
theorem d_law_1633 : decode b_law 1633 = .ok (.aload_n 0, 1) := by decide +kernel
theorem d_law_1634 : decode b_law 1634 = .ok (.iload 4, 2) := by decide +kernel
theorem d_law_1636 : decode b_law 1636 = .ok (.iconst 2, 1) := by decide +kernel
theorem d_law_1637 : decode b_law 1637 = .ok (.iadd, 1) := by decide +kernel
theorem d_law_1638 : decode b_law 1638 = .ok (.iaload, 1) := by decide +kernel
theorem d_law_1639 : decode b_law 1639 = .ok (.i2l, 1) := by decide +kernel
theorem d_law_1640 : decode b_law 1640 = .ok (.bipush 32, 2) := by decide +kernel
theorem d_law_1642 : decode b_law 1642 = .ok (.lshl, 1) := by decide +kernel
theorem d_law_1643 : decode b_law 1643 = .ok (.aload_n 0, 1) := by decide +kernel
theorem d_law_1644 : decode b_law 1644 = .ok (.iload 4, 2) := by decide +kernel
theorem d_law_1646 : decode b_law 1646 = .ok (.iconst 3, 1) := by decide +kernel
theorem d_law_1647 : decode b_law 1647 = .ok (.iadd, 1) := by decide +kernel
theorem d_law_1648 : decode b_law 1648 = .ok (.iaload, 1) := by decide +kernel
theorem d_law_1649 : decode b_law 1649 = .ok (.i2l, 1) := by decide +kernel
theorem d_law_1650 : decode b_law 1650 = .ok (.ldc2_w 86, 3) := by decide +kernel
theorem d_law_1653 : decode b_law 1653 = .ok (.land, 1) := by decide +kernel
theorem d_law_1654 : decode b_law 1654 = .ok (.lor, 1) := by decide +kernel
theorem d_law_1655 : decode b_law 1655 = .ok (.aload_n 0, 1) := by decide +kernel
theorem d_law_1656 : decode b_law 1656 = .ok (.iload 4, 2) := by decide +kernel
theorem d_law_1658 : decode b_law 1658 = .ok (.iconst 4, 1) := by decide +kernel
theorem d_law_1659 : decode b_law 1659 = .ok (.iadd, 1) := by decide +kernel
theorem d_law_1660 : decode b_law 1660 = .ok (.iaload, 1) := by decide +kernel
theorem d_law_1661 : decode b_law 1661 = .ok (.i2l, 1) := by decide +kernel
theorem d_law_1662 : decode b_law 1662 = .ok (.bipush 32, 2) := by decide +kernel
theorem d_law_1664 : decode b_law 1664 = .ok (.lshl, 1) := by decide +kernel
theorem d_law_1665 : decode b_law 1665 = .ok (.aload_n 0, 1) := by decide +kernel
theorem d_law_1666 : decode b_law 1666 = .ok (.iload 4, 2) := by decide +kernel
theorem d_law_1668 : decode b_law 1668 = .ok (.iconst 5, 1) := by decide +kernel
theorem d_law_1669 : decode b_law 1669 = .ok (.iadd, 1) := by decide +kernel
theorem d_law_1670 : decode b_law 1670 = .ok (.iaload, 1) := by decide +kernel
theorem d_law_1671 : decode b_law 1671 = .ok (.i2l, 1) := by decide +kernel
theorem d_law_1672 : decode b_law 1672 = .ok (.ldc2_w 86, 3) := by decide +kernel
theorem d_law_1675 : decode b_law 1675 = .ok (.land, 1) := by decide +kernel
theorem d_law_1676 : decode b_law 1676 = .ok (.lor, 1) := by decide +kernel
theorem d_law_1677 : decode b_law 1677 = .ok (.aload_n 0, 1) := by decide +kernel
theorem d_law_1678 : decode b_law 1678 = .ok (.iload 4, 2) := by decide +kernel
theorem d_law_1680 : decode b_law 1680 = .ok (.bipush 6, 2) := by decide +kernel
theorem d_law_1682 : decode b_law 1682 = .ok (.iadd, 1) := by decide +kernel
theorem d_law_1683 : decode b_law 1683 = .ok (.iaload, 1) := by decide +kernel
theorem d_law_1684 : decode b_law 1684 = .ok (.aload_n 0, 1) := by decide +kernel
theorem d_law_1685 : decode b_law 1685 = .ok (.iload 4, 2) := by decide +kernel
theorem d_law_1687 : decode b_law 1687 = .ok (.bipush 7, 2) := by decide +kernel
theorem d_law_1689 : decode b_law 1689 = .ok (.iadd, 1) := by decide +kernel
theorem d_law_1690 : decode b_law 1690 = .ok (.iaload, 1) := by decide +kernel
theorem d_law_1691 : decode b_law 1691 = .ok (.aload_n 3, 1) := by decide +kernel
theorem d_law_1692 : decode b_law 1692 = .ok (.invokestatic 119, 3) := by decide +kernel
theorem d_law_1695 : decode b_law 1695 = .ok (.istore 5, 2) := by decide +kernel
theorem d_law_1697 : decode b_law 1697 = .ok (.aload_n 2, 1) := by decide +kernel
theorem d_law_1698 : decode b_law 1698 = .ok (.aload_n 0, 1) := by decide +kernel
theorem d_law_1699 : decode b_law 1699 = .ok (.iload 4, 2) := by decide +kernel
theorem d_law_1701 : decode b_law 1701 = .ok (.iconst 1, 1) := by decide +kernel
theorem d_law_1702 : decode b_law 1702 = .ok (.iadd, 1) := by decide +kernel
theorem d_law_1703 : decode b_law 1703 = .ok (.iaload, 1) := by decide +kernel
theorem d_law_1704 : decode b_law 1704 = .ok (.aload_n 0, 1) := by decide +kernel
theorem d_law_1705 : decode b_law 1705 = .ok (.iload 4, 2) := by decide +kernel
theorem d_law_1707 : decode b_law 1707 = .ok (.iconst 2, 1) := by decide +kernel
theorem d_law_1708 : decode b_law 1708 = .ok (.iadd, 1) := by decide +kernel
theorem d_law_1709 : decode b_law 1709 = .ok (.iaload, 1) := by decide +kernel
theorem d_law_1710 : decode b_law 1710 = .ok (.i2l, 1) := by decide +kernel
theorem d_law_1711 : decode b_law 1711 = .ok (.bipush 32, 2) := by decide +kernel
theorem d_law_1713 : decode b_law 1713 = .ok (.lshl, 1) := by decide +kernel
theorem d_law_1714 : decode b_law 1714 = .ok (.aload_n 0, 1) := by decide +kernel
theorem d_law_1715 : decode b_law 1715 = .ok (.iload 4, 2) := by decide +kernel
theorem d_law_1717 : decode b_law 1717 = .ok (.iconst 3, 1) := by decide +kernel
theorem d_law_1718 : decode b_law 1718 = .ok (.iadd, 1) := by decide +kernel
theorem d_law_1719 : decode b_law 1719 = .ok (.iaload, 1) := by decide +kernel
theorem d_law_1720 : decode b_law 1720 = .ok (.i2l, 1) := by decide +kernel
theorem d_law_1721 : decode b_law 1721 = .ok (.ldc2_w 86, 3) := by decide +kernel
theorem d_law_1724 : decode b_law 1724 = .ok (.land, 1) := by decide +kernel
theorem d_law_1725 : decode b_law 1725 = .ok (.lor, 1) := by decide +kernel
theorem d_law_1726 : decode b_law 1726 = .ok (.aload_n 0, 1) := by decide +kernel
theorem d_law_1727 : decode b_law 1727 = .ok (.iload 4, 2) := by decide +kernel
theorem d_law_1729 : decode b_law 1729 = .ok (.iconst 4, 1) := by decide +kernel
theorem d_law_1730 : decode b_law 1730 = .ok (.iadd, 1) := by decide +kernel
theorem d_law_1731 : decode b_law 1731 = .ok (.iaload, 1) := by decide +kernel
theorem d_law_1732 : decode b_law 1732 = .ok (.i2l, 1) := by decide +kernel
theorem d_law_1733 : decode b_law 1733 = .ok (.bipush 32, 2) := by decide +kernel
theorem d_law_1735 : decode b_law 1735 = .ok (.lshl, 1) := by decide +kernel
theorem d_law_1736 : decode b_law 1736 = .ok (.aload_n 0, 1) := by decide +kernel
theorem d_law_1737 : decode b_law 1737 = .ok (.iload 4, 2) := by decide +kernel
theorem d_law_1739 : decode b_law 1739 = .ok (.iconst 5, 1) := by decide +kernel
theorem d_law_1740 : decode b_law 1740 = .ok (.iadd, 1) := by decide +kernel
theorem d_law_1741 : decode b_law 1741 = .ok (.iaload, 1) := by decide +kernel
theorem d_law_1742 : decode b_law 1742 = .ok (.i2l, 1) := by decide +kernel
theorem d_law_1743 : decode b_law 1743 = .ok (.ldc2_w 86, 3) := by decide +kernel
theorem d_law_1746 : decode b_law 1746 = .ok (.land, 1) := by decide +kernel
theorem d_law_1747 : decode b_law 1747 = .ok (.lor, 1) := by decide +kernel
theorem d_law_1748 : decode b_law 1748 = .ok (.aload_n 0, 1) := by decide +kernel
theorem d_law_1749 : decode b_law 1749 = .ok (.iload 4, 2) := by decide +kernel
theorem d_law_1751 : decode b_law 1751 = .ok (.bipush 6, 2) := by decide +kernel
theorem d_law_1753 : decode b_law 1753 = .ok (.iadd, 1) := by decide +kernel
theorem d_law_1754 : decode b_law 1754 = .ok (.iaload, 1) := by decide +kernel
theorem d_law_1755 : decode b_law 1755 = .ok (.aload_n 0, 1) := by decide +kernel
theorem d_law_1756 : decode b_law 1756 = .ok (.iload 4, 2) := by decide +kernel
theorem d_law_1758 : decode b_law 1758 = .ok (.bipush 7, 2) := by decide +kernel
theorem d_law_1760 : decode b_law 1760 = .ok (.iadd, 1) := by decide +kernel
theorem d_law_1761 : decode b_law 1761 = .ok (.iaload, 1) := by decide +kernel
theorem d_law_1762 : decode b_law 1762 = .ok (.invokevirtual 121, 3) := by decide +kernel
theorem d_law_1765 : decode b_law 1765 = .ok (.istore 6, 2) := by decide +kernel
theorem d_law_1767 : decode b_law 1767 = .ok (.aload_n 2, 1) := by decide +kernel
theorem d_law_1768 : decode b_law 1768 = .ok (.invokevirtual 92, 3) := by decide +kernel
theorem d_law_1771 : decode b_law 1771 = .ok (.iload 5, 2) := by decide +kernel
theorem d_law_1773 : decode b_law 1773 = .ok (.if_icmp .eq 5, 3) := by decide +kernel
theorem d_law_1776 : decode b_law 1776 = .ok (.iconst 0, 1) := by decide +kernel
theorem d_law_1777 : decode b_law 1777 = .ok (.ireturn, 1) := by decide +kernel
theorem d_law_1778 : decode b_law 1778 = .ok (.iload 5, 2) := by decide +kernel
theorem d_law_1780 : decode b_law 1780 = .ok (.ifCond .ne 22, 3) := by decide +kernel
theorem d_law_1783 : decode b_law 1783 = .ok (.aload_n 3, 1) := by decide +kernel
theorem d_law_1784 : decode b_law 1784 = .ok (.iconst 0, 1) := by decide +kernel
theorem d_law_1785 : decode b_law 1785 = .ok (.laload, 1) := by decide +kernel
theorem d_law_1786 : decode b_law 1786 = .ok (.iload 6, 2) := by decide +kernel
theorem d_law_1788 : decode b_law 1788 = .ok (.ifCond .eq 7, 3) := by decide +kernel
theorem d_law_1791 : decode b_law 1791 = .ok (.lconst 1, 1) := by decide +kernel
theorem d_law_1792 : decode b_law 1792 = .ok (.goto 4, 3) := by decide +kernel
theorem d_law_1795 : decode b_law 1795 = .ok (.lconst 0, 1) := by decide +kernel
theorem d_law_1796 : decode b_law 1796 = .ok (.lcmp, 1) := by decide +kernel
theorem d_law_1797 : decode b_law 1797 = .ok (.ifCond .eq 5, 3) := by decide +kernel
theorem d_law_1800 : decode b_law 1800 = .ok (.iconst 0, 1) := by decide +kernel
theorem d_law_1801 : decode b_law 1801 = .ok (.ireturn, 1) := by decide +kernel
theorem d_law_1802 : decode b_law 1802 = .ok (.goto 705, 3) := by decide +kernel
theorem d_law_1805 : decode b_law 1805 = .ok (.aload_n 1, 1) := by decide +kernel
theorem d_law_1806 : decode b_law 1806 = .ok (.aload_n 0, 1) := by decide +kernel
theorem d_law_1807 : decode b_law 1807 = .ok (.iload 4, 2) := by decide +kernel
theorem d_law_1809 : decode b_law 1809 = .ok (.iconst 1, 1) := by decide +kernel
theorem d_law_1810 : decode b_law 1810 = .ok (.iadd, 1) := by decide +kernel
theorem d_law_1811 : decode b_law 1811 = .ok (.iaload, 1) := by decide +kernel
theorem d_law_1812 : decode b_law 1812 = .ok (.aload_n 0, 1) := by decide +kernel
theorem d_law_1813 : decode b_law 1813 = .ok (.iload 4, 2) := by decide +kernel
theorem d_law_1815 : decode b_law 1815 = .ok (.iconst 2, 1) := by decide +kernel
theorem d_law_1816 : decode b_law 1816 = .ok (.iadd, 1) := by decide +kernel
theorem d_law_1817 : decode b_law 1817 = .ok (.iaload, 1) := by decide +kernel
theorem d_law_1818 : decode b_law 1818 = .ok (.aload_n 3, 1) := by decide +kernel
theorem d_law_1819 : decode b_law 1819 = .ok (.invokestatic 122, 3) := by decide +kernel
theorem d_law_1822 : decode b_law 1822 = .ok (.istore 5, 2) := by decide +kernel
theorem d_law_1824 : decode b_law 1824 = .ok (.aload_n 2, 1) := by decide +kernel
theorem d_law_1825 : decode b_law 1825 = .ok (.aload_n 0, 1) := by decide +kernel
theorem d_law_1826 : decode b_law 1826 = .ok (.iload 4, 2) := by decide +kernel
theorem d_law_1828 : decode b_law 1828 = .ok (.iconst 1, 1) := by decide +kernel
theorem d_law_1829 : decode b_law 1829 = .ok (.iadd, 1) := by decide +kernel
theorem d_law_1830 : decode b_law 1830 = .ok (.iaload, 1) := by decide +kernel
theorem d_law_1831 : decode b_law 1831 = .ok (.aload_n 0, 1) := by decide +kernel
theorem d_law_1832 : decode b_law 1832 = .ok (.iload 4, 2) := by decide +kernel
theorem d_law_1834 : decode b_law 1834 = .ok (.iconst 2, 1) := by decide +kernel
theorem d_law_1835 : decode b_law 1835 = .ok (.iadd, 1) := by decide +kernel
theorem d_law_1836 : decode b_law 1836 = .ok (.iaload, 1) := by decide +kernel
theorem d_law_1837 : decode b_law 1837 = .ok (.invokevirtual 124, 3) := by decide +kernel
theorem d_law_1840 : decode b_law 1840 = .ok (.istore 6, 2) := by decide +kernel
theorem d_law_1842 : decode b_law 1842 = .ok (.aload_n 2, 1) := by decide +kernel
theorem d_law_1843 : decode b_law 1843 = .ok (.invokevirtual 92, 3) := by decide +kernel
theorem d_law_1846 : decode b_law 1846 = .ok (.iload 5, 2) := by decide +kernel
theorem d_law_1848 : decode b_law 1848 = .ok (.if_icmp .eq 5, 3) := by decide +kernel
theorem d_law_1851 : decode b_law 1851 = .ok (.iconst 0, 1) := by decide +kernel
theorem d_law_1852 : decode b_law 1852 = .ok (.ireturn, 1) := by decide +kernel
theorem d_law_1853 : decode b_law 1853 = .ok (.iload 5, 2) := by decide +kernel
theorem d_law_1855 : decode b_law 1855 = .ok (.ifCond .ne 15, 3) := by decide +kernel
theorem d_law_1858 : decode b_law 1858 = .ok (.aload_n 3, 1) := by decide +kernel
theorem d_law_1859 : decode b_law 1859 = .ok (.iconst 0, 1) := by decide +kernel
theorem d_law_1860 : decode b_law 1860 = .ok (.laload, 1) := by decide +kernel
theorem d_law_1861 : decode b_law 1861 = .ok (.iload 6, 2) := by decide +kernel
theorem d_law_1863 : decode b_law 1863 = .ok (.i2l, 1) := by decide +kernel
theorem d_law_1864 : decode b_law 1864 = .ok (.lcmp, 1) := by decide +kernel
theorem d_law_1865 : decode b_law 1865 = .ok (.ifCond .eq 5, 3) := by decide +kernel
theorem d_law_1868 : decode b_law 1868 = .ok (.iconst 0, 1) := by decide +kernel
theorem d_law_1869 : decode b_law 1869 = .ok (.ireturn, 1) := by decide +kernel
theorem d_law_1870 : decode b_law 1870 = .ok (.goto 637, 3) := by decide +kernel
theorem d_law_1873 : decode b_law 1873 = .ok (.aload_n 1, 1) := by decide +kernel
theorem d_law_1874 : decode b_law 1874 = .ok (.invokevirtual 125, 3) := by decide +kernel
theorem d_law_1877 : decode b_law 1877 = .ok (.aload_n 2, 1) := by decide +kernel
theorem d_law_1878 : decode b_law 1878 = .ok (.invokevirtual 128, 3) := by decide +kernel
theorem d_law_1881 : decode b_law 1881 = .ok (.if_icmp .eq 626, 3) := by decide +kernel
theorem d_law_1884 : decode b_law 1884 = .ok (.iconst 0, 1) := by decide +kernel
theorem d_law_1885 : decode b_law 1885 = .ok (.ireturn, 1) := by decide +kernel
theorem d_law_1886 : decode b_law 1886 = .ok (.aload_n 1, 1) := by decide +kernel
theorem d_law_1887 : decode b_law 1887 = .ok (.aload_n 0, 1) := by decide +kernel
theorem d_law_1888 : decode b_law 1888 = .ok (.iload 4, 2) := by decide +kernel
theorem d_law_1890 : decode b_law 1890 = .ok (.iconst 1, 1) := by decide +kernel
theorem d_law_1891 : decode b_law 1891 = .ok (.iadd, 1) := by decide +kernel
theorem d_law_1892 : decode b_law 1892 = .ok (.iaload, 1) := by decide +kernel
theorem d_law_1893 : decode b_law 1893 = .ok (.aload_n 0, 1) := by decide +kernel
theorem d_law_1894 : decode b_law 1894 = .ok (.iload 4, 2) := by decide +kernel
theorem d_law_1896 : decode b_law 1896 = .ok (.iconst 2, 1) := by decide +kernel
theorem d_law_1897 : decode b_law 1897 = .ok (.iadd, 1) := by decide +kernel
theorem d_law_1898 : decode b_law 1898 = .ok (.iaload, 1) := by decide +kernel
theorem d_law_1899 : decode b_law 1899 = .ok (.aload_n 3, 1) := by decide +kernel
theorem d_law_1900 : decode b_law 1900 = .ok (.invokestatic 129, 3) := by decide +kernel
theorem d_law_1903 : decode b_law 1903 = .ok (.istore 5, 2) := by decide +kernel
theorem d_law_1905 : decode b_law 1905 = .ok (.aload_n 2, 1) := by decide +kernel
theorem d_law_1906 : decode b_law 1906 = .ok (.aload_n 0, 1) := by decide +kernel
theorem d_law_1907 : decode b_law 1907 = .ok (.iload 4, 2) := by decide +kernel
theorem d_law_1909 : decode b_law 1909 = .ok (.iconst 1, 1) := by decide +kernel
theorem d_law_1910 : decode b_law 1910 = .ok (.iadd, 1) := by decide +kernel
theorem d_law_1911 : decode b_law 1911 = .ok (.iaload, 1) := by decide +kernel
theorem d_law_1912 : decode b_law 1912 = .ok (.aload_n 0, 1) := by decide +kernel
theorem d_law_1913 : decode b_law 1913 = .ok (.iload 4, 2) := by decide +kernel
theorem d_law_1915 : decode b_law 1915 = .ok (.iconst 2, 1) := by decide +kernel
theorem d_law_1916 : decode b_law 1916 = .ok (.iadd, 1) := by decide +kernel
theorem d_law_1917 : decode b_law 1917 = .ok (.iaload, 1) := by decide +kernel
theorem d_law_1918 : decode b_law 1918 = .ok (.invokevirtual 131, 3) := by decide +kernel
theorem d_law_1921 : decode b_law 1921 = .ok (.istore 6, 2) := by decide +kernel
theorem d_law_1923 : decode b_law 1923 = .ok (.aload_n 2, 1) := by decide +kernel
theorem d_law_1924 : decode b_law 1924 = .ok (.invokevirtual 92, 3) := by decide +kernel
theorem d_law_1927 : decode b_law 1927 = .ok (.iload 5, 2) := by decide +kernel
theorem d_law_1929 : decode b_law 1929 = .ok (.if_icmp .eq 5, 3) := by decide +kernel
theorem d_law_1932 : decode b_law 1932 = .ok (.iconst 0, 1) := by decide +kernel
theorem d_law_1933 : decode b_law 1933 = .ok (.ireturn, 1) := by decide +kernel
theorem d_law_1934 : decode b_law 1934 = .ok (.iload 5, 2) := by decide +kernel
theorem d_law_1936 : decode b_law 1936 = .ok (.ifCond .ne 15, 3) := by decide +kernel
theorem d_law_1939 : decode b_law 1939 = .ok (.aload_n 3, 1) := by decide +kernel
theorem d_law_1940 : decode b_law 1940 = .ok (.iconst 0, 1) := by decide +kernel
theorem d_law_1941 : decode b_law 1941 = .ok (.laload, 1) := by decide +kernel
theorem d_law_1942 : decode b_law 1942 = .ok (.iload 6, 2) := by decide +kernel
theorem d_law_1944 : decode b_law 1944 = .ok (.i2l, 1) := by decide +kernel
theorem d_law_1945 : decode b_law 1945 = .ok (.lcmp, 1) := by decide +kernel
theorem d_law_1946 : decode b_law 1946 = .ok (.ifCond .eq 5, 3) := by decide +kernel
theorem d_law_1949 : decode b_law 1949 = .ok (.iconst 0, 1) := by decide +kernel
theorem d_law_1950 : decode b_law 1950 = .ok (.ireturn, 1) := by decide +kernel
theorem d_law_1951 : decode b_law 1951 = .ok (.goto 556, 3) := by decide +kernel
theorem d_law_1954 : decode b_law 1954 = .ok (.aload_n 1, 1) := by decide +kernel
theorem d_law_1955 : decode b_law 1955 = .ok (.aload_n 0, 1) := by decide +kernel
theorem d_law_1956 : decode b_law 1956 = .ok (.iload 4, 2) := by decide +kernel
theorem d_law_1958 : decode b_law 1958 = .ok (.iconst 1, 1) := by decide +kernel
theorem d_law_1959 : decode b_law 1959 = .ok (.iadd, 1) := by decide +kernel
theorem d_law_1960 : decode b_law 1960 = .ok (.iaload, 1) := by decide +kernel
theorem d_law_1961 : decode b_law 1961 = .ok (.i2l, 1) := by decide +kernel
theorem d_law_1962 : decode b_law 1962 = .ok (.bipush 32, 2) := by decide +kernel
theorem d_law_1964 : decode b_law 1964 = .ok (.lshl, 1) := by decide +kernel
theorem d_law_1965 : decode b_law 1965 = .ok (.aload_n 0, 1) := by decide +kernel
theorem d_law_1966 : decode b_law 1966 = .ok (.iload 4, 2) := by decide +kernel
theorem d_law_1968 : decode b_law 1968 = .ok (.iconst 2, 1) := by decide +kernel
theorem d_law_1969 : decode b_law 1969 = .ok (.iadd, 1) := by decide +kernel
theorem d_law_1970 : decode b_law 1970 = .ok (.iaload, 1) := by decide +kernel
theorem d_law_1971 : decode b_law 1971 = .ok (.i2l, 1) := by decide +kernel
theorem d_law_1972 : decode b_law 1972 = .ok (.ldc2_w 86, 3) := by decide +kernel
theorem d_law_1975 : decode b_law 1975 = .ok (.land, 1) := by decide +kernel
theorem d_law_1976 : decode b_law 1976 = .ok (.lor, 1) := by decide +kernel
theorem d_law_1977 : decode b_law 1977 = .ok (.aload_n 0, 1) := by decide +kernel
theorem d_law_1978 : decode b_law 1978 = .ok (.iload 4, 2) := by decide +kernel
theorem d_law_1980 : decode b_law 1980 = .ok (.iconst 3, 1) := by decide +kernel
theorem d_law_1981 : decode b_law 1981 = .ok (.iadd, 1) := by decide +kernel
theorem d_law_1982 : decode b_law 1982 = .ok (.iaload, 1) := by decide +kernel
theorem d_law_1983 : decode b_law 1983 = .ok (.i2l, 1) := by decide +kernel
theorem d_law_1984 : decode b_law 1984 = .ok (.bipush 32, 2) := by decide +kernel
theorem d_law_1986 : decode b_law 1986 = .ok (.lshl, 1) := by decide +kernel
theorem d_law_1987 : decode b_law 1987 = .ok (.aload_n 0, 1) := by decide +kernel
theorem d_law_1988 : decode b_law 1988 = .ok (.iload 4, 2) := by decide +kernel
theorem d_law_1990 : decode b_law 1990 = .ok (.iconst 4, 1) := by decide +kernel
theorem d_law_1991 : decode b_law 1991 = .ok (.iadd, 1) := by decide +kernel
theorem d_law_1992 : decode b_law 1992 = .ok (.iaload, 1) := by decide +kernel
theorem d_law_1993 : decode b_law 1993 = .ok (.i2l, 1) := by decide +kernel
theorem d_law_1994 : decode b_law 1994 = .ok (.ldc2_w 86, 3) := by decide +kernel
theorem d_law_1997 : decode b_law 1997 = .ok (.land, 1) := by decide +kernel
theorem d_law_1998 : decode b_law 1998 = .ok (.lor, 1) := by decide +kernel
theorem d_law_1999 : decode b_law 1999 = .ok (.aload_n 0, 1) := by decide +kernel
theorem d_law_2000 : decode b_law 2000 = .ok (.iload 4, 2) := by decide +kernel
theorem d_law_2002 : decode b_law 2002 = .ok (.iconst 5, 1) := by decide +kernel
theorem d_law_2003 : decode b_law 2003 = .ok (.iadd, 1) := by decide +kernel
theorem d_law_2004 : decode b_law 2004 = .ok (.iaload, 1) := by decide +kernel
theorem d_law_2005 : decode b_law 2005 = .ok (.i2l, 1) := by decide +kernel
theorem d_law_2006 : decode b_law 2006 = .ok (.bipush 32, 2) := by decide +kernel
theorem d_law_2008 : decode b_law 2008 = .ok (.lshl, 1) := by decide +kernel
theorem d_law_2009 : decode b_law 2009 = .ok (.aload_n 0, 1) := by decide +kernel
theorem d_law_2010 : decode b_law 2010 = .ok (.iload 4, 2) := by decide +kernel
theorem d_law_2012 : decode b_law 2012 = .ok (.bipush 6, 2) := by decide +kernel
theorem d_law_2014 : decode b_law 2014 = .ok (.iadd, 1) := by decide +kernel
theorem d_law_2015 : decode b_law 2015 = .ok (.iaload, 1) := by decide +kernel
theorem d_law_2016 : decode b_law 2016 = .ok (.i2l, 1) := by decide +kernel
theorem d_law_2017 : decode b_law 2017 = .ok (.ldc2_w 86, 3) := by decide +kernel
theorem d_law_2020 : decode b_law 2020 = .ok (.land, 1) := by decide +kernel
theorem d_law_2021 : decode b_law 2021 = .ok (.lor, 1) := by decide +kernel
theorem d_law_2022 : decode b_law 2022 = .ok (.aload_n 0, 1) := by decide +kernel
theorem d_law_2023 : decode b_law 2023 = .ok (.iload 4, 2) := by decide +kernel
theorem d_law_2025 : decode b_law 2025 = .ok (.bipush 7, 2) := by decide +kernel
theorem d_law_2027 : decode b_law 2027 = .ok (.iadd, 1) := by decide +kernel
theorem d_law_2028 : decode b_law 2028 = .ok (.iaload, 1) := by decide +kernel
theorem d_law_2029 : decode b_law 2029 = .ok (.i2l, 1) := by decide +kernel
theorem d_law_2030 : decode b_law 2030 = .ok (.bipush 32, 2) := by decide +kernel
theorem d_law_2032 : decode b_law 2032 = .ok (.lshl, 1) := by decide +kernel
theorem d_law_2033 : decode b_law 2033 = .ok (.aload_n 0, 1) := by decide +kernel
theorem d_law_2034 : decode b_law 2034 = .ok (.iload 4, 2) := by decide +kernel
theorem d_law_2036 : decode b_law 2036 = .ok (.bipush 8, 2) := by decide +kernel
theorem d_law_2038 : decode b_law 2038 = .ok (.iadd, 1) := by decide +kernel
theorem d_law_2039 : decode b_law 2039 = .ok (.iaload, 1) := by decide +kernel
theorem d_law_2040 : decode b_law 2040 = .ok (.i2l, 1) := by decide +kernel
theorem d_law_2041 : decode b_law 2041 = .ok (.ldc2_w 86, 3) := by decide +kernel
theorem d_law_2044 : decode b_law 2044 = .ok (.land, 1) := by decide +kernel
theorem d_law_2045 : decode b_law 2045 = .ok (.lor, 1) := by decide +kernel
theorem d_law_2046 : decode b_law 2046 = .ok (.aload_n 0, 1) := by decide +kernel
theorem d_law_2047 : decode b_law 2047 = .ok (.iload 4, 2) := by decide +kernel
theorem d_law_2049 : decode b_law 2049 = .ok (.bipush 9, 2) := by decide +kernel
theorem d_law_2051 : decode b_law 2051 = .ok (.iadd, 1) := by decide +kernel
theorem d_law_2052 : decode b_law 2052 = .ok (.iaload, 1) := by decide +kernel
theorem d_law_2053 : decode b_law 2053 = .ok (.aload_n 0, 1) := by decide +kernel
theorem d_law_2054 : decode b_law 2054 = .ok (.iload 4, 2) := by decide +kernel
theorem d_law_2056 : decode b_law 2056 = .ok (.bipush 10, 2) := by decide +kernel
theorem d_law_2058 : decode b_law 2058 = .ok (.iadd, 1) := by decide +kernel
theorem d_law_2059 : decode b_law 2059 = .ok (.iaload, 1) := by decide +kernel
theorem d_law_2060 : decode b_law 2060 = .ok (.i2l, 1) := by decide +kernel
theorem d_law_2061 : decode b_law 2061 = .ok (.bipush 32, 2) := by decide +kernel
theorem d_law_2063 : decode b_law 2063 = .ok (.lshl, 1) := by decide +kernel
theorem d_law_2064 : decode b_law 2064 = .ok (.aload_n 0, 1) := by decide +kernel
theorem d_law_2065 : decode b_law 2065 = .ok (.iload 4, 2) := by decide +kernel
theorem d_law_2067 : decode b_law 2067 = .ok (.bipush 11, 2) := by decide +kernel
theorem d_law_2069 : decode b_law 2069 = .ok (.iadd, 1) := by decide +kernel
theorem d_law_2070 : decode b_law 2070 = .ok (.iaload, 1) := by decide +kernel
theorem d_law_2071 : decode b_law 2071 = .ok (.i2l, 1) := by decide +kernel
theorem d_law_2072 : decode b_law 2072 = .ok (.ldc2_w 86, 3) := by decide +kernel
theorem d_law_2075 : decode b_law 2075 = .ok (.land, 1) := by decide +kernel
theorem d_law_2076 : decode b_law 2076 = .ok (.lor, 1) := by decide +kernel
theorem d_law_2077 : decode b_law 2077 = .ok (.aload_n 3, 1) := by decide +kernel
theorem d_law_2078 : decode b_law 2078 = .ok (.invokestatic 132, 3) := by decide +kernel
theorem d_law_2081 : decode b_law 2081 = .ok (.istore 5, 2) := by decide +kernel
theorem d_law_2083 : decode b_law 2083 = .ok (.aload_n 2, 1) := by decide +kernel
theorem d_law_2084 : decode b_law 2084 = .ok (.aload_n 0, 1) := by decide +kernel
theorem d_law_2085 : decode b_law 2085 = .ok (.iload 4, 2) := by decide +kernel
theorem d_law_2087 : decode b_law 2087 = .ok (.iconst 1, 1) := by decide +kernel
theorem d_law_2088 : decode b_law 2088 = .ok (.iadd, 1) := by decide +kernel
theorem d_law_2089 : decode b_law 2089 = .ok (.iaload, 1) := by decide +kernel
theorem d_law_2090 : decode b_law 2090 = .ok (.i2l, 1) := by decide +kernel
theorem d_law_2091 : decode b_law 2091 = .ok (.bipush 32, 2) := by decide +kernel
theorem d_law_2093 : decode b_law 2093 = .ok (.lshl, 1) := by decide +kernel
theorem d_law_2094 : decode b_law 2094 = .ok (.aload_n 0, 1) := by decide +kernel
theorem d_law_2095 : decode b_law 2095 = .ok (.iload 4, 2) := by decide +kernel
theorem d_law_2097 : decode b_law 2097 = .ok (.iconst 2, 1) := by decide +kernel
theorem d_law_2098 : decode b_law 2098 = .ok (.iadd, 1) := by decide +kernel
theorem d_law_2099 : decode b_law 2099 = .ok (.iaload, 1) := by decide +kernel
theorem d_law_2100 : decode b_law 2100 = .ok (.i2l, 1) := by decide +kernel
theorem d_law_2101 : decode b_law 2101 = .ok (.ldc2_w 86, 3) := by decide +kernel
theorem d_law_2104 : decode b_law 2104 = .ok (.land, 1) := by decide +kernel
theorem d_law_2105 : decode b_law 2105 = .ok (.lor, 1) := by decide +kernel
theorem d_law_2106 : decode b_law 2106 = .ok (.aload_n 0, 1) := by decide +kernel
theorem d_law_2107 : decode b_law 2107 = .ok (.iload 4, 2) := by decide +kernel
theorem d_law_2109 : decode b_law 2109 = .ok (.iconst 3, 1) := by decide +kernel
theorem d_law_2110 : decode b_law 2110 = .ok (.iadd, 1) := by decide +kernel
theorem d_law_2111 : decode b_law 2111 = .ok (.iaload, 1) := by decide +kernel
theorem d_law_2112 : decode b_law 2112 = .ok (.i2l, 1) := by decide +kernel
theorem d_law_2113 : decode b_law 2113 = .ok (.bipush 32, 2) := by decide +kernel
theorem d_law_2115 : decode b_law 2115 = .ok (.lshl, 1) := by decide +kernel
theorem d_law_2116 : decode b_law 2116 = .ok (.aload_n 0, 1) := by decide +kernel
theorem d_law_2117 : decode b_law 2117 = .ok (.iload 4, 2) := by decide +kernel
theorem d_law_2119 : decode b_law 2119 = .ok (.iconst 4, 1) := by decide +kernel
theorem d_law_2120 : decode b_law 2120 = .ok (.iadd, 1) := by decide +kernel
theorem d_law_2121 : decode b_law 2121 = .ok (.iaload, 1) := by decide +kernel
theorem d_law_2122 : decode b_law 2122 = .ok (.i2l, 1) := by decide +kernel
theorem d_law_2123 : decode b_law 2123 = .ok (.ldc2_w 86, 3) := by decide +kernel
theorem d_law_2126 : decode b_law 2126 = .ok (.land, 1) := by decide +kernel
theorem d_law_2127 : decode b_law 2127 = .ok (.lor, 1) := by decide +kernel
theorem d_law_2128 : decode b_law 2128 = .ok (.aload_n 0, 1) := by decide +kernel
theorem d_law_2129 : decode b_law 2129 = .ok (.iload 4, 2) := by decide +kernel
theorem d_law_2131 : decode b_law 2131 = .ok (.iconst 5, 1) := by decide +kernel
theorem d_law_2132 : decode b_law 2132 = .ok (.iadd, 1) := by decide +kernel
theorem d_law_2133 : decode b_law 2133 = .ok (.iaload, 1) := by decide +kernel
theorem d_law_2134 : decode b_law 2134 = .ok (.i2l, 1) := by decide +kernel
theorem d_law_2135 : decode b_law 2135 = .ok (.bipush 32, 2) := by decide +kernel
theorem d_law_2137 : decode b_law 2137 = .ok (.lshl, 1) := by decide +kernel
theorem d_law_2138 : decode b_law 2138 = .ok (.aload_n 0, 1) := by decide +kernel
theorem d_law_2139 : decode b_law 2139 = .ok (.iload 4, 2) := by decide +kernel
theorem d_law_2141 : decode b_law 2141 = .ok (.bipush 6, 2) := by decide +kernel
theorem d_law_2143 : decode b_law 2143 = .ok (.iadd, 1) := by decide +kernel
theorem d_law_2144 : decode b_law 2144 = .ok (.iaload, 1) := by decide +kernel
theorem d_law_2145 : decode b_law 2145 = .ok (.i2l, 1) := by decide +kernel
theorem d_law_2146 : decode b_law 2146 = .ok (.ldc2_w 86, 3) := by decide +kernel
theorem d_law_2149 : decode b_law 2149 = .ok (.land, 1) := by decide +kernel
theorem d_law_2150 : decode b_law 2150 = .ok (.lor, 1) := by decide +kernel
theorem d_law_2151 : decode b_law 2151 = .ok (.aload_n 0, 1) := by decide +kernel
theorem d_law_2152 : decode b_law 2152 = .ok (.iload 4, 2) := by decide +kernel
theorem d_law_2154 : decode b_law 2154 = .ok (.bipush 7, 2) := by decide +kernel
theorem d_law_2156 : decode b_law 2156 = .ok (.iadd, 1) := by decide +kernel
theorem d_law_2157 : decode b_law 2157 = .ok (.iaload, 1) := by decide +kernel
theorem d_law_2158 : decode b_law 2158 = .ok (.i2l, 1) := by decide +kernel
theorem d_law_2159 : decode b_law 2159 = .ok (.bipush 32, 2) := by decide +kernel
theorem d_law_2161 : decode b_law 2161 = .ok (.lshl, 1) := by decide +kernel
theorem d_law_2162 : decode b_law 2162 = .ok (.aload_n 0, 1) := by decide +kernel
theorem d_law_2163 : decode b_law 2163 = .ok (.iload 4, 2) := by decide +kernel
theorem d_law_2165 : decode b_law 2165 = .ok (.bipush 8, 2) := by decide +kernel
theorem d_law_2167 : decode b_law 2167 = .ok (.iadd, 1) := by decide +kernel
theorem d_law_2168 : decode b_law 2168 = .ok (.iaload, 1) := by decide +kernel
theorem d_law_2169 : decode b_law 2169 = .ok (.i2l, 1) := by decide +kernel
theorem d_law_2170 : decode b_law 2170 = .ok (.ldc2_w 86, 3) := by decide +kernel
theorem d_law_2173 : decode b_law 2173 = .ok (.land, 1) := by decide +kernel
theorem d_law_2174 : decode b_law 2174 = .ok (.lor, 1) := by decide +kernel
theorem d_law_2175 : decode b_law 2175 = .ok (.aload_n 0, 1) := by decide +kernel
theorem d_law_2176 : decode b_law 2176 = .ok (.iload 4, 2) := by decide +kernel
theorem d_law_2178 : decode b_law 2178 = .ok (.bipush 9, 2) := by decide +kernel
theorem d_law_2180 : decode b_law 2180 = .ok (.iadd, 1) := by decide +kernel
theorem d_law_2181 : decode b_law 2181 = .ok (.iaload, 1) := by decide +kernel
theorem d_law_2182 : decode b_law 2182 = .ok (.aload_n 0, 1) := by decide +kernel
theorem d_law_2183 : decode b_law 2183 = .ok (.iload 4, 2) := by decide +kernel
theorem d_law_2185 : decode b_law 2185 = .ok (.bipush 10, 2) := by decide +kernel
theorem d_law_2187 : decode b_law 2187 = .ok (.iadd, 1) := by decide +kernel
theorem d_law_2188 : decode b_law 2188 = .ok (.iaload, 1) := by decide +kernel
theorem d_law_2189 : decode b_law 2189 = .ok (.i2l, 1) := by decide +kernel
theorem d_law_2190 : decode b_law 2190 = .ok (.bipush 32, 2) := by decide +kernel
theorem d_law_2192 : decode b_law 2192 = .ok (.lshl, 1) := by decide +kernel
theorem d_law_2193 : decode b_law 2193 = .ok (.aload_n 0, 1) := by decide +kernel
theorem d_law_2194 : decode b_law 2194 = .ok (.iload 4, 2) := by decide +kernel
theorem d_law_2196 : decode b_law 2196 = .ok (.bipush 11, 2) := by decide +kernel
theorem d_law_2198 : decode b_law 2198 = .ok (.iadd, 1) := by decide +kernel
theorem d_law_2199 : decode b_law 2199 = .ok (.iaload, 1) := by decide +kernel
theorem d_law_2200 : decode b_law 2200 = .ok (.i2l, 1) := by decide +kernel
theorem d_law_2201 : decode b_law 2201 = .ok (.ldc2_w 86, 3) := by decide +kernel
theorem d_law_2204 : decode b_law 2204 = .ok (.land, 1) := by decide +kernel
theorem d_law_2205 : decode b_law 2205 = .ok (.lor, 1) := by decide +kernel
theorem d_law_2206 : decode b_law 2206 = .ok (.invokevirtual 135, 3) := by decide +kernel
theorem d_law_2209 : decode b_law 2209 = .ok (.istore 6, 2) := by decide +kernel
theorem d_law_2211 : decode b_law 2211 = .ok (.aload_n 2, 1) := by decide +kernel
theorem d_law_2212 : decode b_law 2212 = .ok (.invokevirtual 92, 3) := by decide +kernel
theorem d_law_2215 : decode b_law 2215 = .ok (.iload 5, 2) := by decide +kernel
theorem d_law_2217 : decode b_law 2217 = .ok (.if_icmp .eq 5, 3) := by decide +kernel
theorem d_law_2220 : decode b_law 2220 = .ok (.iconst 0, 1) := by decide +kernel
theorem d_law_2221 : decode b_law 2221 = .ok (.ireturn, 1) := by decide +kernel
theorem d_law_2222 : decode b_law 2222 = .ok (.iload 5, 2) := by decide +kernel
theorem d_law_2224 : decode b_law 2224 = .ok (.ifCond .ne 22, 3) := by decide +kernel
theorem d_law_2227 : decode b_law 2227 = .ok (.aload_n 3, 1) := by decide +kernel
theorem d_law_2228 : decode b_law 2228 = .ok (.iconst 0, 1) := by decide +kernel
theorem d_law_2229 : decode b_law 2229 = .ok (.laload, 1) := by decide +kernel
theorem d_law_2230 : decode b_law 2230 = .ok (.iload 6, 2) := by decide +kernel
theorem d_law_2232 : decode b_law 2232 = .ok (.ifCond .eq 7, 3) := by decide +kernel
theorem d_law_2235 : decode b_law 2235 = .ok (.lconst 1, 1) := by decide +kernel
theorem d_law_2236 : decode b_law 2236 = .ok (.goto 4, 3) := by decide +kernel
theorem d_law_2239 : decode b_law 2239 = .ok (.lconst 0, 1) := by decide +kernel
theorem d_law_2240 : decode b_law 2240 = .ok (.lcmp, 1) := by decide +kernel
theorem d_law_2241 : decode b_law 2241 = .ok (.ifCond .eq 5, 3) := by decide +kernel
theorem d_law_2244 : decode b_law 2244 = .ok (.iconst 0, 1) := by decide +kernel
theorem d_law_2245 : decode b_law 2245 = .ok (.ireturn, 1) := by decide +kernel
theorem d_law_2246 : decode b_law 2246 = .ok (.goto 261, 3) := by decide +kernel
theorem d_law_2249 : decode b_law 2249 = .ok (.aload_n 1, 1) := by decide +kernel
theorem d_law_2250 : decode b_law 2250 = .ok (.aload_n 0, 1) := by decide +kernel
theorem d_law_2251 : decode b_law 2251 = .ok (.iload 4, 2) := by decide +kernel
theorem d_law_2253 : decode b_law 2253 = .ok (.iconst 1, 1) := by decide +kernel
theorem d_law_2254 : decode b_law 2254 = .ok (.iadd, 1) := by decide +kernel
theorem d_law_2255 : decode b_law 2255 = .ok (.iaload, 1) := by decide +kernel
theorem d_law_2256 : decode b_law 2256 = .ok (.invokevirtual 136, 3) := by decide +kernel
theorem d_law_2259 : decode b_law 2259 = .ok (.aload_n 2, 1) := by decide +kernel
theorem d_law_2260 : decode b_law 2260 = .ok (.aload_n 0, 1) := by decide +kernel
theorem d_law_2261 : decode b_law 2261 = .ok (.iload 4, 2) := by decide +kernel
theorem d_law_2263 : decode b_law 2263 = .ok (.iconst 1, 1) := by decide +kernel
theorem d_law_2264 : decode b_law 2264 = .ok (.iadd, 1) := by decide +kernel
theorem d_law_2265 : decode b_law 2265 = .ok (.iaload, 1) := by decide +kernel
theorem d_law_2266 : decode b_law 2266 = .ok (.invokevirtual 140, 3) := by decide +kernel
theorem d_law_2269 : decode b_law 2269 = .ok (.if_icmp .eq 238, 3) := by decide +kernel
theorem d_law_2272 : decode b_law 2272 = .ok (.iconst 0, 1) := by decide +kernel
theorem d_law_2273 : decode b_law 2273 = .ok (.ireturn, 1) := by decide +kernel
theorem d_law_2274 : decode b_law 2274 = .ok (.aload_n 1, 1) := by decide +kernel
theorem d_law_2275 : decode b_law 2275 = .ok (.aload_n 0, 1) := by decide +kernel
theorem d_law_2276 : decode b_law 2276 = .ok (.iload 4, 2) := by decide +kernel
theorem d_law_2278 : decode b_law 2278 = .ok (.iconst 1, 1) := by decide +kernel
theorem d_law_2279 : decode b_law 2279 = .ok (.iadd, 1) := by decide +kernel
theorem d_law_2280 : decode b_law 2280 = .ok (.iaload, 1) := by decide +kernel
theorem d_law_2281 : decode b_law 2281 = .ok (.aload_n 0, 1) := by decide +kernel
theorem d_law_2282 : decode b_law 2282 = .ok (.iload 4, 2) := by decide +kernel
theorem d_law_2284 : decode b_law 2284 = .ok (.iconst 2, 1) := by decide +kernel
theorem d_law_2285 : decode b_law 2285 = .ok (.iadd, 1) := by decide +kernel
theorem d_law_2286 : decode b_law 2286 = .ok (.iaload, 1) := by decide +kernel
theorem d_law_2287 : decode b_law 2287 = .ok (.aload_n 3, 1) := by decide +kernel
theorem d_law_2288 : decode b_law 2288 = .ok (.invokestatic 141, 3) := by decide +kernel
theorem d_law_2291 : decode b_law 2291 = .ok (.istore 5, 2) := by decide +kernel
theorem d_law_2293 : decode b_law 2293 = .ok (.aload_n 2, 1) := by decide +kernel
theorem d_law_2294 : decode b_law 2294 = .ok (.aload_n 0, 1) := by decide +kernel
theorem d_law_2295 : decode b_law 2295 = .ok (.iload 4, 2) := by decide +kernel
theorem d_law_2297 : decode b_law 2297 = .ok (.iconst 1, 1) := by decide +kernel
theorem d_law_2298 : decode b_law 2298 = .ok (.iadd, 1) := by decide +kernel
theorem d_law_2299 : decode b_law 2299 = .ok (.iaload, 1) := by decide +kernel
theorem d_law_2300 : decode b_law 2300 = .ok (.aload_n 0, 1) := by decide +kernel
theorem d_law_2301 : decode b_law 2301 = .ok (.iload 4, 2) := by decide +kernel
theorem d_law_2303 : decode b_law 2303 = .ok (.iconst 2, 1) := by decide +kernel
theorem d_law_2304 : decode b_law 2304 = .ok (.iadd, 1) := by decide +kernel
theorem d_law_2305 : decode b_law 2305 = .ok (.iaload, 1) := by decide +kernel
theorem d_law_2306 : decode b_law 2306 = .ok (.invokevirtual 143, 3) := by decide +kernel
theorem d_law_2309 : decode b_law 2309 = .ok (.lstore 6, 2) := by decide +kernel
theorem d_law_2311 : decode b_law 2311 = .ok (.aload_n 2, 1) := by decide +kernel
theorem d_law_2312 : decode b_law 2312 = .ok (.invokevirtual 92, 3) := by decide +kernel
theorem d_law_2315 : decode b_law 2315 = .ok (.iload 5, 2) := by decide +kernel
theorem d_law_2317 : decode b_law 2317 = .ok (.if_icmp .eq 5, 3) := by decide +kernel
theorem d_law_2320 : decode b_law 2320 = .ok (.iconst 0, 1) := by decide +kernel
theorem d_law_2321 : decode b_law 2321 = .ok (.ireturn, 1) := by decide +kernel
theorem d_law_2322 : decode b_law 2322 = .ok (.iload 5, 2) := by decide +kernel
theorem d_law_2324 : decode b_law 2324 = .ok (.ifCond .ne 14, 3) := by decide +kernel
theorem d_law_2327 : decode b_law 2327 = .ok (.aload_n 3, 1) := by decide +kernel
theorem d_law_2328 : decode b_law 2328 = .ok (.iconst 0, 1) := by decide +kernel
theorem d_law_2329 : decode b_law 2329 = .ok (.laload, 1) := by decide +kernel
theorem d_law_2330 : decode b_law 2330 = .ok (.lload 6, 2) := by decide +kernel
theorem d_law_2332 : decode b_law 2332 = .ok (.lcmp, 1) := by decide +kernel
theorem d_law_2333 : decode b_law 2333 = .ok (.ifCond .eq 5, 3) := by decide +kernel
theorem d_law_2336 : decode b_law 2336 = .ok (.iconst 0, 1) := by decide +kernel
theorem d_law_2337 : decode b_law 2337 = .ok (.ireturn, 1) := by decide +kernel
theorem d_law_2338 : decode b_law 2338 = .ok (.goto 169, 3) := by decide +kernel
theorem d_law_2341 : decode b_law 2341 = .ok (.aload_n 1, 1) := by decide +kernel
theorem d_law_2342 : decode b_law 2342 = .ok (.aload_n 0, 1) := by decide +kernel
theorem d_law_2343 : decode b_law 2343 = .ok (.iload 4, 2) := by decide +kernel
theorem d_law_2345 : decode b_law 2345 = .ok (.iconst 1, 1) := by decide +kernel
theorem d_law_2346 : decode b_law 2346 = .ok (.iadd, 1) := by decide +kernel
theorem d_law_2347 : decode b_law 2347 = .ok (.iaload, 1) := by decide +kernel
theorem d_law_2348 : decode b_law 2348 = .ok (.i2l, 1) := by decide +kernel
theorem d_law_2349 : decode b_law 2349 = .ok (.bipush 32, 2) := by decide +kernel
theorem d_law_2351 : decode b_law 2351 = .ok (.lshl, 1) := by decide +kernel
theorem d_law_2352 : decode b_law 2352 = .ok (.aload_n 0, 1) := by decide +kernel
theorem d_law_2353 : decode b_law 2353 = .ok (.iload 4, 2) := by decide +kernel
theorem d_law_2355 : decode b_law 2355 = .ok (.iconst 2, 1) := by decide +kernel
theorem d_law_2356 : decode b_law 2356 = .ok (.iadd, 1) := by decide +kernel
theorem d_law_2357 : decode b_law 2357 = .ok (.iaload, 1) := by decide +kernel
theorem d_law_2358 : decode b_law 2358 = .ok (.i2l, 1) := by decide +kernel
theorem d_law_2359 : decode b_law 2359 = .ok (.ldc2_w 86, 3) := by decide +kernel
theorem d_law_2362 : decode b_law 2362 = .ok (.land, 1) := by decide +kernel
theorem d_law_2363 : decode b_law 2363 = .ok (.lor, 1) := by decide +kernel
theorem d_law_2364 : decode b_law 2364 = .ok (.aload_n 0, 1) := by decide +kernel
theorem d_law_2365 : decode b_law 2365 = .ok (.iload 4, 2) := by decide +kernel
theorem d_law_2367 : decode b_law 2367 = .ok (.iconst 3, 1) := by decide +kernel
theorem d_law_2368 : decode b_law 2368 = .ok (.iadd, 1) := by decide +kernel
theorem d_law_2369 : decode b_law 2369 = .ok (.iaload, 1) := by decide +kernel
theorem d_law_2370 : decode b_law 2370 = .ok (.aload_n 0, 1) := by decide +kernel
theorem d_law_2371 : decode b_law 2371 = .ok (.iload 4, 2) := by decide +kernel
theorem d_law_2373 : decode b_law 2373 = .ok (.iconst 4, 1) := by decide +kernel
theorem d_law_2374 : decode b_law 2374 = .ok (.iadd, 1) := by decide +kernel
theorem d_law_2375 : decode b_law 2375 = .ok (.iaload, 1) := by decide +kernel
theorem d_law_2376 : decode b_law 2376 = .ok (.aload_n 3, 1) := by decide +kernel
theorem d_law_2377 : decode b_law 2377 = .ok (.invokestatic 144, 3) := by decide +kernel
theorem d_law_2380 : decode b_law 2380 = .ok (.istore 5, 2) := by decide +kernel
theorem d_law_2382 : decode b_law 2382 = .ok (.aload_n 2, 1) := by decide +kernel
theorem d_law_2383 : decode b_law 2383 = .ok (.aload_n 0, 1) := by decide +kernel
theorem d_law_2384 : decode b_law 2384 = .ok (.iload 4, 2) := by decide +kernel
theorem d_law_2386 : decode b_law 2386 = .ok (.iconst 1, 1) := by decide +kernel
theorem d_law_2387 : decode b_law 2387 = .ok (.iadd, 1) := by decide +kernel
theorem d_law_2388 : decode b_law 2388 = .ok (.iaload, 1) := by decide +kernel
theorem d_law_2389 : decode b_law 2389 = .ok (.i2l, 1) := by decide +kernel
theorem d_law_2390 : decode b_law 2390 = .ok (.bipush 32, 2) := by decide +kernel
theorem d_law_2392 : decode b_law 2392 = .ok (.lshl, 1) := by decide +kernel
theorem d_law_2393 : decode b_law 2393 = .ok (.aload_n 0, 1) := by decide +kernel
theorem d_law_2394 : decode b_law 2394 = .ok (.iload 4, 2) := by decide +kernel
theorem d_law_2396 : decode b_law 2396 = .ok (.iconst 2, 1) := by decide +kernel
theorem d_law_2397 : decode b_law 2397 = .ok (.iadd, 1) := by decide +kernel
theorem d_law_2398 : decode b_law 2398 = .ok (.iaload, 1) := by decide +kernel
theorem d_law_2399 : decode b_law 2399 = .ok (.i2l, 1) := by decide +kernel
theorem d_law_2400 : decode b_law 2400 = .ok (.ldc2_w 86, 3) := by decide +kernel
theorem d_law_2403 : decode b_law 2403 = .ok (.land, 1) := by decide +kernel
theorem d_law_2404 : decode b_law 2404 = .ok (.lor, 1) := by decide +kernel
theorem d_law_2405 : decode b_law 2405 = .ok (.aload_n 0, 1) := by decide +kernel
theorem d_law_2406 : decode b_law 2406 = .ok (.iload 4, 2) := by decide +kernel
theorem d_law_2408 : decode b_law 2408 = .ok (.iconst 3, 1) := by decide +kernel
theorem d_law_2409 : decode b_law 2409 = .ok (.iadd, 1) := by decide +kernel
theorem d_law_2410 : decode b_law 2410 = .ok (.iaload, 1) := by decide +kernel
theorem d_law_2411 : decode b_law 2411 = .ok (.aload_n 0, 1) := by decide +kernel
theorem d_law_2412 : decode b_law 2412 = .ok (.iload 4, 2) := by decide +kernel
theorem d_law_2414 : decode b_law 2414 = .ok (.iconst 4, 1) := by decide +kernel
theorem d_law_2415 : decode b_law 2415 = .ok (.iadd, 1) := by decide +kernel
theorem d_law_2416 : decode b_law 2416 = .ok (.iaload, 1) := by decide +kernel
theorem d_law_2417 : decode b_law 2417 = .ok (.invokevirtual 147, 3) := by decide +kernel
theorem d_law_2420 : decode b_law 2420 = .ok (.lstore 6, 2) := by decide +kernel
theorem d_law_2422 : decode b_law 2422 = .ok (.aload_n 2, 1) := by decide +kernel
theorem d_law_2423 : decode b_law 2423 = .ok (.invokevirtual 92, 3) := by decide +kernel
theorem d_law_2426 : decode b_law 2426 = .ok (.iload 5, 2) := by decide +kernel
theorem d_law_2428 : decode b_law 2428 = .ok (.if_icmp .eq 5, 3) := by decide +kernel
theorem d_law_2431 : decode b_law 2431 = .ok (.iconst 0, 1) := by decide +kernel
theorem d_law_2432 : decode b_law 2432 = .ok (.ireturn, 1) := by decide +kernel
theorem d_law_2433 : decode b_law 2433 = .ok (.iload 5, 2) := by decide +kernel
theorem d_law_2435 : decode b_law 2435 = .ok (.ifCond .ne 14, 3) := by decide +kernel
theorem d_law_2438 : decode b_law 2438 = .ok (.aload_n 3, 1) := by decide +kernel
theorem d_law_2439 : decode b_law 2439 = .ok (.iconst 0, 1) := by decide +kernel
theorem d_law_2440 : decode b_law 2440 = .ok (.laload, 1) := by decide +kernel
theorem d_law_2441 : decode b_law 2441 = .ok (.lload 6, 2) := by decide +kernel
theorem d_law_2443 : decode b_law 2443 = .ok (.lcmp, 1) := by decide +kernel
theorem d_law_2444 : decode b_law 2444 = .ok (.ifCond .eq 5, 3) := by decide +kernel
theorem d_law_2447 : decode b_law 2447 = .ok (.iconst 0, 1) := by decide +kernel
theorem d_law_2448 : decode b_law 2448 = .ok (.ireturn, 1) := by decide +kernel
theorem d_law_2449 : decode b_law 2449 = .ok (.goto 58, 3) := by decide +kernel
theorem d_law_2452 : decode b_law 2452 = .ok (.aload_n 1, 1) := by decide +kernel
theorem d_law_2453 : decode b_law 2453 = .ok (.aload_n 0, 1) := by decide +kernel
theorem d_law_2454 : decode b_law 2454 = .ok (.iload 4, 2) := by decide +kernel
theorem d_law_2456 : decode b_law 2456 = .ok (.iconst 1, 1) := by decide +kernel
theorem d_law_2457 : decode b_law 2457 = .ok (.iadd, 1) := by decide +kernel
theorem d_law_2458 : decode b_law 2458 = .ok (.iaload, 1) := by decide +kernel
theorem d_law_2459 : decode b_law 2459 = .ok (.aload_n 3, 1) := by decide +kernel
theorem d_law_2460 : decode b_law 2460 = .ok (.invokestatic 148, 3) := by decide +kernel
theorem d_law_2463 : decode b_law 2463 = .ok (.istore 5, 2) := by decide +kernel
theorem d_law_2465 : decode b_law 2465 = .ok (.aload_n 2, 1) := by decide +kernel
theorem d_law_2466 : decode b_law 2466 = .ok (.aload_n 0, 1) := by decide +kernel
theorem d_law_2467 : decode b_law 2467 = .ok (.iload 4, 2) := by decide +kernel
theorem d_law_2469 : decode b_law 2469 = .ok (.iconst 1, 1) := by decide +kernel
theorem d_law_2470 : decode b_law 2470 = .ok (.iadd, 1) := by decide +kernel
theorem d_law_2471 : decode b_law 2471 = .ok (.iaload, 1) := by decide +kernel
theorem d_law_2472 : decode b_law 2472 = .ok (.invokevirtual 151, 3) := by decide +kernel
theorem d_law_2475 : decode b_law 2475 = .ok (.lstore 6, 2) := by decide +kernel
theorem d_law_2477 : decode b_law 2477 = .ok (.aload_n 2, 1) := by decide +kernel
theorem d_law_2478 : decode b_law 2478 = .ok (.invokevirtual 92, 3) := by decide +kernel
theorem d_law_2481 : decode b_law 2481 = .ok (.iload 5, 2) := by decide +kernel
theorem d_law_2483 : decode b_law 2483 = .ok (.if_icmp .eq 5, 3) := by decide +kernel
theorem d_law_2486 : decode b_law 2486 = .ok (.iconst 0, 1) := by decide +kernel
theorem d_law_2487 : decode b_law 2487 = .ok (.ireturn, 1) := by decide +kernel
theorem d_law_2488 : decode b_law 2488 = .ok (.iload 5, 2) := by decide +kernel
theorem d_law_2490 : decode b_law 2490 = .ok (.ifCond .ne 14, 3) := by decide +kernel
theorem d_law_2493 : decode b_law 2493 = .ok (.aload_n 3, 1) := by decide +kernel
theorem d_law_2494 : decode b_law 2494 = .ok (.iconst 0, 1) := by decide +kernel
theorem d_law_2495 : decode b_law 2495 = .ok (.laload, 1) := by decide +kernel
theorem d_law_2496 : decode b_law 2496 = .ok (.lload 6, 2) := by decide +kernel
theorem d_law_2498 : decode b_law 2498 = .ok (.lcmp, 1) := by decide +kernel
theorem d_law_2499 : decode b_law 2499 = .ok (.ifCond .eq 5, 3) := by decide +kernel
theorem d_law_2502 : decode b_law 2502 = .ok (.iconst 0, 1) := by decide +kernel
theorem d_law_2503 : decode b_law 2503 = .ok (.ireturn, 1) := by decide +kernel
theorem d_law_2504 : decode b_law 2504 = .ok (.goto 3, 3) := by decide +kernel
theorem d_law_2507 : decode b_law 2507 = .ok (.iinc 4 14, 3) := by decide +kernel
theorem d_law_2510 : decode b_law 2510 = .ok (.goto (-2475), 3) := by decide +kernel
theorem d_law_2513 : decode b_law 2513 = .ok (.iconst 1, 1) := by decide +kernel
theorem d_law_2514 : decode b_law 2514 = .ok (.ireturn, 1) := by decide +kernel
abbrev rm_law : Room := room_1
set_option maxHeartbeats 4000000 in
set_option maxRecDepth 100000 in
theorem m_law {p : Program} {l : Launch} {e : Env} {s : State} {m : MethodId} {below : List Frame} {meth : Method} {c : Code} {ls : Array Slot} {args : Array Value} {A : Nat → Prop} {Q : State → Prop} (hst : l.stackTraces = false) (D : gD) (g0 : gG) (a0 : Nat) (w : gW) (r : (String ⊕ Int32) × gW) (h : f_law g0 a0 w = some r) (hx : p.tables.exec = Jvm.exec) (hb : c.code = b_law) (hml : c.maxLocals = 8) (hown : s.vm.findClass "BodySolidsLaw" = some m.cls) (hT : gT s) (hK : gK D s) (hZ : gZ A s s.heap g0) (hA : ∀ q : Nat, s.heap.size ≤ q → A q) (hret : ∀ {v : Int32}, (v = 0 ∨ v = 1) → ∀ (v9 : Int32) (w1 : gW), r = (.inr v, w1) → ∀ (pc : Nat) (ls : Array Slot) (H : Heap) (locs : List Loc), decode b_law pc = .ok (.ireturn, 1) → gI D s A w1 H locs → W p l e rm_law s m args below meth c H locs 601024 7293000 Q (F0 m pc ls [.int v])) (hexc : gEx p l e rm_law s m args below meth c Q D A r) (hI : gI D s A w s.heap []) (hl : lv_has ls 8 [(0, .ref a0)]) : W p l e rm_law s m args below meth c s.heap [] 0 0 Q (F0 m 0 ls []) := by
  obtain ⟨H, hH⟩ : ∃ H, H = s.heap := ⟨_, rfl⟩
  rw [← hH] at hI ⊢
  obtain ⟨locs, hlocs⟩ : ∃ z : List Loc, z = [] := ⟨_, rfl⟩
  rw [← hlocs] at hI ⊢
  have hl : lv_has ls 8 [(0, .ref a0)] := hl
  unfold f_law at h
  obtain ⟨o1, w, e2, h⟩ := gb2 h
  refine gw_new hx hb hT hown hK hI hA (ci := 0) rfl i_0 t_0 t_0_ok wd_72 wd_73 wd_49 (fs := [.long 0, .null, .null, .null, .null, .null, .int 0, .null, .null, .null]) df_0 e2 (show 0 + 1 ≤ 601024 by omega) (show 0 + 10 ≤ 7293000 by omega) d_law_0 (fun H hI => ?_)
  refine W.widen (k := 1) (n := 10) (show 0 + 1 ≤ 1 by omega) (show 0 + 10 ≤ 10 by omega) ?_
  refine lv_dup hx hb d_law_3 rfl ?_
  refine lv_aload_n hx hb d_law_4 rfl (lv_at hl 0 rfl) ?_
  refine lv_iconst (v := 0) hx hb d_law_5 (by decide) ?_
  obtain ⟨u3, e4⟩ := gsome h
  refine gw_callI e4 h (gw_runS (As := [.ref a0, .int 0]) (rest := [.ref o1, .ref o1]) hx hb hml hown hT hK hZ hA hI (m_W_cell l hst D g0 a0 0 w u3 e4) ce_W_cell wd_424 ⟨by decide, by decide⟩ rfl rfl hl.1 rfl (lv_room (Nat.le_of_ble_eq_true rfl)) d_law_6 ⟨(show 1 + 0 ≤ 601024 by omega), (show 10 + 0 ≤ 7293000 by omega)⟩) hI hA hexc (show 1 + 0 ≤ 601024 by omega) (show 10 + 0 ≤ 7293000 by omega) (fun v5 w H locs h hI => ?_)
  refine lv_i2l (v := v5.toInt64) hx hb d_law_9 rfl ?_
  obtain ⟨u6, e7⟩ := gsome h
  refine gw_callV e7 h (gw_runI (As := [.long (v5.toInt64)]) (rest := [.ref o1]) hx hb hml hown hT hK hZ hA hI (m_B_init l hst D g0 o1 (v5.toInt64) w u6 e7) ce_B_init wd_74 rfl ⟨by decide, by decide⟩ rfl rfl hl.1 rfl (lv_room (Nat.le_of_ble_eq_true rfl)) d_law_10 ⟨(show 1 + 88 ≤ 601024 by omega), (show 10 + 1681 ≤ 7293000 by omega)⟩) hI hA hexc (show 1 + 88 ≤ 601024 by omega) (show 10 + 1681 ≤ 7293000 by omega) (fun v8 w H locs h hI => ?_)
  refine W.widen (k := 89) (n := 1691) (show 1 + 88 ≤ 89 by omega) (show 10 + 1681 ≤ 1691 by omega) ?_
  refine lv_astore_n (lv' := [(1, .ref o1), (0, .ref a0)]) hx hb d_law_13 rfl hl (by decide) rfl (fun ls hl => ?_)
  obtain ⟨o9, w, e10, h⟩ := gb2 h
  refine gw_new hx hb hT hown hK hI hA (ci := 7) rfl i_7 t_7 t_7_ok wd_779 wd_780 wd_57 (fs := [.int 0, .long 0, .int 0, .null, .null, .null, .null, .null, .null, .int 0, .null, .null, .int 0, .null, .null, .null, .null, .null, .int 0, .null, .null, .null, .null, .null, .null, .null, .null]) df_7 e10 (show 89 + 1 ≤ 601024 by omega) (show 1691 + 27 ≤ 7293000 by omega) d_law_14 (fun H hI => ?_)
  refine W.widen (k := 90) (n := 1718) (show 89 + 1 ≤ 90 by omega) (show 1691 + 27 ≤ 1718 by omega) ?_
  refine lv_dup hx hb d_law_17 rfl ?_
  refine lv_aload_n hx hb d_law_18 rfl (lv_at hl 1 rfl) ?_
  refine lv_iconst (v := 0) hx hb d_law_19 (by decide) ?_
  obtain ⟨u11, e12⟩ := gsome h
  refine gw_callI e12 h (gw_runS (As := [.ref a0, .int 0]) (rest := [.ref o9, .ref o9]) hx hb hml hown hT hK hZ hA hI (m_W_cell l hst D g0 a0 0 w u11 e12) ce_W_cell wd_424 ⟨by decide, by decide⟩ rfl rfl hl.1 rfl (lv_room (Nat.le_of_ble_eq_true rfl)) d_law_20 ⟨(show 90 + 0 ≤ 601024 by omega), (show 1718 + 0 ≤ 7293000 by omega)⟩) hI hA hexc (show 90 + 0 ≤ 601024 by omega) (show 1718 + 0 ≤ 7293000 by omega) (fun v13 w H locs h hI => ?_)
  refine lv_i2l (v := v13.toInt64) hx hb d_law_23 rfl ?_
  obtain ⟨u14, e15⟩ := gsome h
  refine gw_callV e15 h (gw_runI (As := [.long (v13.toInt64)]) (rest := [.ref o9]) hx hb hml hown hT hK hZ hA hI (m_M_init l hst D g0 o9 (v13.toInt64) w u14 e15) ce_M_init wd_781 rfl ⟨by decide, by decide⟩ rfl rfl hl.1 rfl (lv_room (Nat.le_of_ble_eq_true rfl)) d_law_24 ⟨(show 90 + 21 ≤ 601024 by omega), (show 1718 + 8938 ≤ 7293000 by omega)⟩) hI hA hexc (show 90 + 21 ≤ 601024 by omega) (show 1718 + 8938 ≤ 7293000 by omega) (fun v16 w H locs h hI => ?_)
  refine W.widen (k := 111) (n := 10656) (show 90 + 21 ≤ 111 by omega) (show 1718 + 8938 ≤ 10656 by omega) ?_
  refine lv_astore_n (lv' := [(2, .ref o9), (1, .ref o1), (0, .ref a0)]) hx hb d_law_27 rfl hl (by decide) rfl (fun ls hl => ?_)
  refine lv_iconst (v := 1) hx hb d_law_28 (by decide) ?_
  obtain ⟨o17, w, e18, h⟩ := gb2 h
  refine gw_newa (atype := .long) (ty := .long) (M := 1) hx hb hK hI hA (hT _ wd_178 args) rfl (k := 1) rfl (fun h9 => h9) e18 (show 111 + 1 ≤ 601024 by omega) (show 10656 + 1 ≤ 7293000 by omega) (show 1 * 8 ≤ 536870912 by omega) d_law_29 (fun H hI => ?_)
  refine W.widen (k := 112) (n := 10657) (show 111 + 1 ≤ 112 by omega) (show 10656 + 1 ≤ 10657 by omega) ?_
  refine lv_astore_n (lv' := [(3, .ref o17), (2, .ref o9), (1, .ref o1), (0, .ref a0)]) hx hb d_law_31 rfl hl (by decide) rfl (fun ls hl => ?_)
  refine lv_iconst (v := 1) hx hb d_law_32 (by decide) ?_
  refine lv_istore (lv' := [(4, .int 1), (3, .ref o17), (2, .ref o9), (1, .ref o1), (0, .ref a0)]) hx hb d_law_33 hl (by decide) rfl (fun ls hl => ?_)
  obtain ⟨K2513, eK2513, h⟩ := gj h
  have hK2513 : ∀ (w : gW) (H : Heap) (locs : List Loc) (ls : Array Slot), K2513 w = some r → gI D s A w H locs → lv_has ls 8 [] → W p l e rm_law s m args below meth c H locs 16015 905842 Q (F0 m 2513 ls []) := by
    intro w H locs ls h hI hl
    have h := gk1 eK2513 h
    refine lv_iconst (v := 1) hx hb d_law_2513 (by decide) ?_
    obtain ⟨g19, h⟩ := gif h
    exact W.widen (show 16015 ≤ 601024 by omega) (show 905842 ≤ 7293000 by omega) (hret g19 0 _ (Option.some.inj h).symm _ _ _ _ d_law_2514 hI)
  obtain ⟨K147, eK147, h⟩ := gj h
  have hK147 : ∀ (w : gW) (H : Heap) (locs : List Loc) (ls : Array Slot), K147 w = some r → gI D s A w H locs → lv_has ls 8 [] → W p l e rm_law s m args below meth c H locs 16015 905842 Q (F0 m 147 ls []) := by
    intro w H locs ls h hI hl
    have h := gk1 eK147 h
    refine lv_iconst (v := 0) hx hb d_law_147 (by decide) ?_
    obtain ⟨g20, h⟩ := gif h
    exact W.widen (show 16015 ≤ 601024 by omega) (show 905842 ≤ 7293000 by omega) (hret g20 0 _ (Option.some.inj h).symm _ _ _ _ d_law_148 hI)
  obtain ⟨K487, eK487, h⟩ := gj h
  have hK487 : ∀ (w : gW) (H : Heap) (locs : List Loc) (ls : Array Slot), K487 w = some r → gI D s A w H locs → lv_has ls 8 [] → W p l e rm_law s m args below meth c H locs 16015 905842 Q (F0 m 487 ls []) := by
    intro w H locs ls h hI hl
    have h := gk1 eK487 h
    refine lv_iconst (v := 0) hx hb d_law_487 (by decide) ?_
    obtain ⟨g21, h⟩ := gif h
    exact W.widen (show 16015 ≤ 601024 by omega) (show 905842 ≤ 7293000 by omega) (hret g21 0 _ (Option.some.inj h).symm _ _ _ _ d_law_488 hI)
  obtain ⟨K463, eK463, h⟩ := gj h
  have hK463 : ∀ (w : gW) (H : Heap) (locs : List Loc) (ls : Array Slot), K463 w = some r → gI D s A w H locs → lv_has ls 8 [] → W p l e rm_law s m args below meth c H locs 16015 905842 Q (F0 m 463 ls []) := by
    intro w H locs ls h hI hl
    have h := gk1 eK463 h
    refine lv_iconst (v := 0) hx hb d_law_463 (by decide) ?_
    obtain ⟨g22, h⟩ := gif h
    exact W.widen (show 16015 ≤ 601024 by omega) (show 905842 ≤ 7293000 by omega) (hret g22 0 _ (Option.some.inj h).symm _ _ _ _ d_law_464 hI)
  obtain ⟨K782, eK782, h⟩ := gj h
  have hK782 : ∀ (w : gW) (H : Heap) (locs : List Loc) (ls : Array Slot), K782 w = some r → gI D s A w H locs → lv_has ls 8 [] → W p l e rm_law s m args below meth c H locs 16015 905842 Q (F0 m 782 ls []) := by
    intro w H locs ls h hI hl
    have h := gk1 eK782 h
    refine lv_iconst (v := 0) hx hb d_law_782 (by decide) ?_
    obtain ⟨g23, h⟩ := gif h
    exact W.widen (show 16015 ≤ 601024 by omega) (show 905842 ≤ 7293000 by omega) (hret g23 0 _ (Option.some.inj h).symm _ _ _ _ d_law_783 hI)
  obtain ⟨K758, eK758, h⟩ := gj h
  have hK758 : ∀ (w : gW) (H : Heap) (locs : List Loc) (ls : Array Slot), K758 w = some r → gI D s A w H locs → lv_has ls 8 [] → W p l e rm_law s m args below meth c H locs 16015 905842 Q (F0 m 758 ls []) := by
    intro w H locs ls h hI hl
    have h := gk1 eK758 h
    refine lv_iconst (v := 0) hx hb d_law_758 (by decide) ?_
    obtain ⟨g24, h⟩ := gif h
    exact W.widen (show 16015 ≤ 601024 by omega) (show 905842 ≤ 7293000 by omega) (hret g24 0 _ (Option.some.inj h).symm _ _ _ _ d_law_759 hI)
  obtain ⟨K921, eK921, h⟩ := gj h
  have hK921 : ∀ (w : gW) (H : Heap) (locs : List Loc) (ls : Array Slot), K921 w = some r → gI D s A w H locs → lv_has ls 8 [] → W p l e rm_law s m args below meth c H locs 16015 905842 Q (F0 m 921 ls []) := by
    intro w H locs ls h hI hl
    have h := gk1 eK921 h
    refine lv_iconst (v := 0) hx hb d_law_921 (by decide) ?_
    obtain ⟨g25, h⟩ := gif h
    exact W.widen (show 16015 ≤ 601024 by omega) (show 905842 ≤ 7293000 by omega) (hret g25 0 _ (Option.some.inj h).symm _ _ _ _ d_law_922 hI)
  obtain ⟨K897, eK897, h⟩ := gj h
  have hK897 : ∀ (w : gW) (H : Heap) (locs : List Loc) (ls : Array Slot), K897 w = some r → gI D s A w H locs → lv_has ls 8 [] → W p l e rm_law s m args below meth c H locs 16015 905842 Q (F0 m 897 ls []) := by
    intro w H locs ls h hI hl
    have h := gk1 eK897 h
    refine lv_iconst (v := 0) hx hb d_law_897 (by decide) ?_
    obtain ⟨g26, h⟩ := gif h
    exact W.widen (show 16015 ≤ 601024 by omega) (show 905842 ≤ 7293000 by omega) (hret g26 0 _ (Option.some.inj h).symm _ _ _ _ d_law_898 hI)
  obtain ⟨K1072, eK1072, h⟩ := gj h
  have hK1072 : ∀ (w : gW) (H : Heap) (locs : List Loc) (ls : Array Slot), K1072 w = some r → gI D s A w H locs → lv_has ls 8 [] → W p l e rm_law s m args below meth c H locs 16015 905842 Q (F0 m 1072 ls []) := by
    intro w H locs ls h hI hl
    have h := gk1 eK1072 h
    refine lv_iconst (v := 0) hx hb d_law_1072 (by decide) ?_
    obtain ⟨g27, h⟩ := gif h
    exact W.widen (show 16015 ≤ 601024 by omega) (show 905842 ≤ 7293000 by omega) (hret g27 0 _ (Option.some.inj h).symm _ _ _ _ d_law_1073 hI)
  obtain ⟨K1048, eK1048, h⟩ := gj h
  have hK1048 : ∀ (w : gW) (H : Heap) (locs : List Loc) (ls : Array Slot), K1048 w = some r → gI D s A w H locs → lv_has ls 8 [] → W p l e rm_law s m args below meth c H locs 16015 905842 Q (F0 m 1048 ls []) := by
    intro w H locs ls h hI hl
    have h := gk1 eK1048 h
    refine lv_iconst (v := 0) hx hb d_law_1048 (by decide) ?_
    obtain ⟨g28, h⟩ := gif h
    exact W.widen (show 16015 ≤ 601024 by omega) (show 905842 ≤ 7293000 by omega) (hret g28 0 _ (Option.some.inj h).symm _ _ _ _ d_law_1049 hI)
  obtain ⟨K1381, eK1381, h⟩ := gj h
  have hK1381 : ∀ (w : gW) (H : Heap) (locs : List Loc) (ls : Array Slot), K1381 w = some r → gI D s A w H locs → lv_has ls 8 [] → W p l e rm_law s m args below meth c H locs 16015 905842 Q (F0 m 1381 ls []) := by
    intro w H locs ls h hI hl
    have h := gk1 eK1381 h
    refine lv_iconst (v := 0) hx hb d_law_1381 (by decide) ?_
    obtain ⟨g29, h⟩ := gif h
    exact W.widen (show 16015 ≤ 601024 by omega) (show 905842 ≤ 7293000 by omega) (hret g29 0 _ (Option.some.inj h).symm _ _ _ _ d_law_1382 hI)
  obtain ⟨K1357, eK1357, h⟩ := gj h
  have hK1357 : ∀ (w : gW) (H : Heap) (locs : List Loc) (ls : Array Slot), K1357 w = some r → gI D s A w H locs → lv_has ls 8 [] → W p l e rm_law s m args below meth c H locs 16015 905842 Q (F0 m 1357 ls []) := by
    intro w H locs ls h hI hl
    have h := gk1 eK1357 h
    refine lv_iconst (v := 0) hx hb d_law_1357 (by decide) ?_
    obtain ⟨g30, h⟩ := gif h
    exact W.widen (show 16015 ≤ 601024 by omega) (show 905842 ≤ 7293000 by omega) (hret g30 0 _ (Option.some.inj h).symm _ _ _ _ d_law_1358 hI)
  obtain ⟨K1449, eK1449, h⟩ := gj h
  have hK1449 : ∀ (w : gW) (H : Heap) (locs : List Loc) (ls : Array Slot), K1449 w = some r → gI D s A w H locs → lv_has ls 8 [] → W p l e rm_law s m args below meth c H locs 16015 905842 Q (F0 m 1449 ls []) := by
    intro w H locs ls h hI hl
    have h := gk1 eK1449 h
    refine lv_iconst (v := 0) hx hb d_law_1449 (by decide) ?_
    obtain ⟨g31, h⟩ := gif h
    exact W.widen (show 16015 ≤ 601024 by omega) (show 905842 ≤ 7293000 by omega) (hret g31 0 _ (Option.some.inj h).symm _ _ _ _ d_law_1450 hI)
  obtain ⟨K1432, eK1432, h⟩ := gj h
  have hK1432 : ∀ (w : gW) (H : Heap) (locs : List Loc) (ls : Array Slot), K1432 w = some r → gI D s A w H locs → lv_has ls 8 [] → W p l e rm_law s m args below meth c H locs 16015 905842 Q (F0 m 1432 ls []) := by
    intro w H locs ls h hI hl
    have h := gk1 eK1432 h
    refine lv_iconst (v := 0) hx hb d_law_1432 (by decide) ?_
    obtain ⟨g32, h⟩ := gif h
    exact W.widen (show 16015 ≤ 601024 by omega) (show 905842 ≤ 7293000 by omega) (hret g32 0 _ (Option.some.inj h).symm _ _ _ _ d_law_1433 hI)
  obtain ⟨K1621, eK1621, h⟩ := gj h
  have hK1621 : ∀ (w : gW) (H : Heap) (locs : List Loc) (ls : Array Slot), K1621 w = some r → gI D s A w H locs → lv_has ls 8 [] → W p l e rm_law s m args below meth c H locs 16015 905842 Q (F0 m 1621 ls []) := by
    intro w H locs ls h hI hl
    have h := gk1 eK1621 h
    refine lv_iconst (v := 0) hx hb d_law_1621 (by decide) ?_
    obtain ⟨g33, h⟩ := gif h
    exact W.widen (show 16015 ≤ 601024 by omega) (show 905842 ≤ 7293000 by omega) (hret g33 0 _ (Option.some.inj h).symm _ _ _ _ d_law_1622 hI)
  obtain ⟨K1604, eK1604, h⟩ := gj h
  have hK1604 : ∀ (w : gW) (H : Heap) (locs : List Loc) (ls : Array Slot), K1604 w = some r → gI D s A w H locs → lv_has ls 8 [] → W p l e rm_law s m args below meth c H locs 16015 905842 Q (F0 m 1604 ls []) := by
    intro w H locs ls h hI hl
    have h := gk1 eK1604 h
    refine lv_iconst (v := 0) hx hb d_law_1604 (by decide) ?_
    obtain ⟨g34, h⟩ := gif h
    exact W.widen (show 16015 ≤ 601024 by omega) (show 905842 ≤ 7293000 by omega) (hret g34 0 _ (Option.some.inj h).symm _ _ _ _ d_law_1605 hI)
  obtain ⟨K1800, eK1800, h⟩ := gj h
  have hK1800 : ∀ (w : gW) (H : Heap) (locs : List Loc) (ls : Array Slot), K1800 w = some r → gI D s A w H locs → lv_has ls 8 [] → W p l e rm_law s m args below meth c H locs 16015 905842 Q (F0 m 1800 ls []) := by
    intro w H locs ls h hI hl
    have h := gk1 eK1800 h
    refine lv_iconst (v := 0) hx hb d_law_1800 (by decide) ?_
    obtain ⟨g35, h⟩ := gif h
    exact W.widen (show 16015 ≤ 601024 by omega) (show 905842 ≤ 7293000 by omega) (hret g35 0 _ (Option.some.inj h).symm _ _ _ _ d_law_1801 hI)
  obtain ⟨K1776, eK1776, h⟩ := gj h
  have hK1776 : ∀ (w : gW) (H : Heap) (locs : List Loc) (ls : Array Slot), K1776 w = some r → gI D s A w H locs → lv_has ls 8 [] → W p l e rm_law s m args below meth c H locs 16015 905842 Q (F0 m 1776 ls []) := by
    intro w H locs ls h hI hl
    have h := gk1 eK1776 h
    refine lv_iconst (v := 0) hx hb d_law_1776 (by decide) ?_
    obtain ⟨g36, h⟩ := gif h
    exact W.widen (show 16015 ≤ 601024 by omega) (show 905842 ≤ 7293000 by omega) (hret g36 0 _ (Option.some.inj h).symm _ _ _ _ d_law_1777 hI)
  obtain ⟨K1868, eK1868, h⟩ := gj h
  have hK1868 : ∀ (w : gW) (H : Heap) (locs : List Loc) (ls : Array Slot), K1868 w = some r → gI D s A w H locs → lv_has ls 8 [] → W p l e rm_law s m args below meth c H locs 16015 905842 Q (F0 m 1868 ls []) := by
    intro w H locs ls h hI hl
    have h := gk1 eK1868 h
    refine lv_iconst (v := 0) hx hb d_law_1868 (by decide) ?_
    obtain ⟨g37, h⟩ := gif h
    exact W.widen (show 16015 ≤ 601024 by omega) (show 905842 ≤ 7293000 by omega) (hret g37 0 _ (Option.some.inj h).symm _ _ _ _ d_law_1869 hI)
  obtain ⟨K1851, eK1851, h⟩ := gj h
  have hK1851 : ∀ (w : gW) (H : Heap) (locs : List Loc) (ls : Array Slot), K1851 w = some r → gI D s A w H locs → lv_has ls 8 [] → W p l e rm_law s m args below meth c H locs 16015 905842 Q (F0 m 1851 ls []) := by
    intro w H locs ls h hI hl
    have h := gk1 eK1851 h
    refine lv_iconst (v := 0) hx hb d_law_1851 (by decide) ?_
    obtain ⟨g38, h⟩ := gif h
    exact W.widen (show 16015 ≤ 601024 by omega) (show 905842 ≤ 7293000 by omega) (hret g38 0 _ (Option.some.inj h).symm _ _ _ _ d_law_1852 hI)
  obtain ⟨K1884, eK1884, h⟩ := gj h
  have hK1884 : ∀ (w : gW) (H : Heap) (locs : List Loc) (ls : Array Slot), K1884 w = some r → gI D s A w H locs → lv_has ls 8 [] → W p l e rm_law s m args below meth c H locs 16015 905842 Q (F0 m 1884 ls []) := by
    intro w H locs ls h hI hl
    have h := gk1 eK1884 h
    refine lv_iconst (v := 0) hx hb d_law_1884 (by decide) ?_
    obtain ⟨g39, h⟩ := gif h
    exact W.widen (show 16015 ≤ 601024 by omega) (show 905842 ≤ 7293000 by omega) (hret g39 0 _ (Option.some.inj h).symm _ _ _ _ d_law_1885 hI)
  obtain ⟨K1949, eK1949, h⟩ := gj h
  have hK1949 : ∀ (w : gW) (H : Heap) (locs : List Loc) (ls : Array Slot), K1949 w = some r → gI D s A w H locs → lv_has ls 8 [] → W p l e rm_law s m args below meth c H locs 16015 905842 Q (F0 m 1949 ls []) := by
    intro w H locs ls h hI hl
    have h := gk1 eK1949 h
    refine lv_iconst (v := 0) hx hb d_law_1949 (by decide) ?_
    obtain ⟨g40, h⟩ := gif h
    exact W.widen (show 16015 ≤ 601024 by omega) (show 905842 ≤ 7293000 by omega) (hret g40 0 _ (Option.some.inj h).symm _ _ _ _ d_law_1950 hI)
  obtain ⟨K1932, eK1932, h⟩ := gj h
  have hK1932 : ∀ (w : gW) (H : Heap) (locs : List Loc) (ls : Array Slot), K1932 w = some r → gI D s A w H locs → lv_has ls 8 [] → W p l e rm_law s m args below meth c H locs 16015 905842 Q (F0 m 1932 ls []) := by
    intro w H locs ls h hI hl
    have h := gk1 eK1932 h
    refine lv_iconst (v := 0) hx hb d_law_1932 (by decide) ?_
    obtain ⟨g41, h⟩ := gif h
    exact W.widen (show 16015 ≤ 601024 by omega) (show 905842 ≤ 7293000 by omega) (hret g41 0 _ (Option.some.inj h).symm _ _ _ _ d_law_1933 hI)
  obtain ⟨K2244, eK2244, h⟩ := gj h
  have hK2244 : ∀ (w : gW) (H : Heap) (locs : List Loc) (ls : Array Slot), K2244 w = some r → gI D s A w H locs → lv_has ls 8 [] → W p l e rm_law s m args below meth c H locs 16015 905842 Q (F0 m 2244 ls []) := by
    intro w H locs ls h hI hl
    have h := gk1 eK2244 h
    refine lv_iconst (v := 0) hx hb d_law_2244 (by decide) ?_
    obtain ⟨g42, h⟩ := gif h
    exact W.widen (show 16015 ≤ 601024 by omega) (show 905842 ≤ 7293000 by omega) (hret g42 0 _ (Option.some.inj h).symm _ _ _ _ d_law_2245 hI)
  obtain ⟨K2220, eK2220, h⟩ := gj h
  have hK2220 : ∀ (w : gW) (H : Heap) (locs : List Loc) (ls : Array Slot), K2220 w = some r → gI D s A w H locs → lv_has ls 8 [] → W p l e rm_law s m args below meth c H locs 16015 905842 Q (F0 m 2220 ls []) := by
    intro w H locs ls h hI hl
    have h := gk1 eK2220 h
    refine lv_iconst (v := 0) hx hb d_law_2220 (by decide) ?_
    obtain ⟨g43, h⟩ := gif h
    exact W.widen (show 16015 ≤ 601024 by omega) (show 905842 ≤ 7293000 by omega) (hret g43 0 _ (Option.some.inj h).symm _ _ _ _ d_law_2221 hI)
  obtain ⟨K2272, eK2272, h⟩ := gj h
  have hK2272 : ∀ (w : gW) (H : Heap) (locs : List Loc) (ls : Array Slot), K2272 w = some r → gI D s A w H locs → lv_has ls 8 [] → W p l e rm_law s m args below meth c H locs 16015 905842 Q (F0 m 2272 ls []) := by
    intro w H locs ls h hI hl
    have h := gk1 eK2272 h
    refine lv_iconst (v := 0) hx hb d_law_2272 (by decide) ?_
    obtain ⟨g44, h⟩ := gif h
    exact W.widen (show 16015 ≤ 601024 by omega) (show 905842 ≤ 7293000 by omega) (hret g44 0 _ (Option.some.inj h).symm _ _ _ _ d_law_2273 hI)
  obtain ⟨K2336, eK2336, h⟩ := gj h
  have hK2336 : ∀ (w : gW) (H : Heap) (locs : List Loc) (ls : Array Slot), K2336 w = some r → gI D s A w H locs → lv_has ls 8 [] → W p l e rm_law s m args below meth c H locs 16015 905842 Q (F0 m 2336 ls []) := by
    intro w H locs ls h hI hl
    have h := gk1 eK2336 h
    refine lv_iconst (v := 0) hx hb d_law_2336 (by decide) ?_
    obtain ⟨g45, h⟩ := gif h
    exact W.widen (show 16015 ≤ 601024 by omega) (show 905842 ≤ 7293000 by omega) (hret g45 0 _ (Option.some.inj h).symm _ _ _ _ d_law_2337 hI)
  obtain ⟨K2320, eK2320, h⟩ := gj h
  have hK2320 : ∀ (w : gW) (H : Heap) (locs : List Loc) (ls : Array Slot), K2320 w = some r → gI D s A w H locs → lv_has ls 8 [] → W p l e rm_law s m args below meth c H locs 16015 905842 Q (F0 m 2320 ls []) := by
    intro w H locs ls h hI hl
    have h := gk1 eK2320 h
    refine lv_iconst (v := 0) hx hb d_law_2320 (by decide) ?_
    obtain ⟨g46, h⟩ := gif h
    exact W.widen (show 16015 ≤ 601024 by omega) (show 905842 ≤ 7293000 by omega) (hret g46 0 _ (Option.some.inj h).symm _ _ _ _ d_law_2321 hI)
  obtain ⟨K2447, eK2447, h⟩ := gj h
  have hK2447 : ∀ (w : gW) (H : Heap) (locs : List Loc) (ls : Array Slot), K2447 w = some r → gI D s A w H locs → lv_has ls 8 [] → W p l e rm_law s m args below meth c H locs 16015 905842 Q (F0 m 2447 ls []) := by
    intro w H locs ls h hI hl
    have h := gk1 eK2447 h
    refine lv_iconst (v := 0) hx hb d_law_2447 (by decide) ?_
    obtain ⟨g47, h⟩ := gif h
    exact W.widen (show 16015 ≤ 601024 by omega) (show 905842 ≤ 7293000 by omega) (hret g47 0 _ (Option.some.inj h).symm _ _ _ _ d_law_2448 hI)
  obtain ⟨K2431, eK2431, h⟩ := gj h
  have hK2431 : ∀ (w : gW) (H : Heap) (locs : List Loc) (ls : Array Slot), K2431 w = some r → gI D s A w H locs → lv_has ls 8 [] → W p l e rm_law s m args below meth c H locs 16015 905842 Q (F0 m 2431 ls []) := by
    intro w H locs ls h hI hl
    have h := gk1 eK2431 h
    refine lv_iconst (v := 0) hx hb d_law_2431 (by decide) ?_
    obtain ⟨g48, h⟩ := gif h
    exact W.widen (show 16015 ≤ 601024 by omega) (show 905842 ≤ 7293000 by omega) (hret g48 0 _ (Option.some.inj h).symm _ _ _ _ d_law_2432 hI)
  obtain ⟨K2502, eK2502, h⟩ := gj h
  have hK2502 : ∀ (w : gW) (H : Heap) (locs : List Loc) (ls : Array Slot), K2502 w = some r → gI D s A w H locs → lv_has ls 8 [] → W p l e rm_law s m args below meth c H locs 16015 905842 Q (F0 m 2502 ls []) := by
    intro w H locs ls h hI hl
    have h := gk1 eK2502 h
    refine lv_iconst (v := 0) hx hb d_law_2502 (by decide) ?_
    obtain ⟨g49, h⟩ := gif h
    exact W.widen (show 16015 ≤ 601024 by omega) (show 905842 ≤ 7293000 by omega) (hret g49 0 _ (Option.some.inj h).symm _ _ _ _ d_law_2503 hI)
  obtain ⟨K2486, eK2486, h⟩ := gj h
  have hK2486 : ∀ (w : gW) (H : Heap) (locs : List Loc) (ls : Array Slot), K2486 w = some r → gI D s A w H locs → lv_has ls 8 [] → W p l e rm_law s m args below meth c H locs 16015 905842 Q (F0 m 2486 ls []) := by
    intro w H locs ls h hI hl
    have h := gk1 eK2486 h
    refine lv_iconst (v := 0) hx hb d_law_2486 (by decide) ?_
    obtain ⟨g50, h⟩ := gif h
    exact W.widen (show 16015 ≤ 601024 by omega) (show 905842 ≤ 7293000 by omega) (hret g50 0 _ (Option.some.inj h).symm _ _ _ _ d_law_2487 hI)
  have hL35 : ∀ (n : Nat), n ≤ 513 → ∀ (z51 : Int32) (w : gW) (H : Heap) (locs : List Loc) (ls : Array Slot), f_law_L35 g0 a0 o1 o9 o17 K2513 K2486 K2502 K2431 K2447 K2320 K2336 K2272 K2220 K2244 K1932 K1949 K1884 K1851 K1868 K1776 K1800 K1604 K1621 K1432 K1449 K1357 K1381 K1048 K1072 K897 K921 K758 K782 K463 K487 K147 n z51 w = some r → gI D s A w H locs → lv_has ls 8 [(0, .ref a0), (1, .ref o1), (2, .ref o9), (3, .ref o17), (4, .int z51)] → W p l e rm_law s m args below meth c H locs (16015 - n * 31) (905842 - n * 1745) Q (F0 m 35 ls []) := by
    intro n
    induction n with
    | zero => intro hn z51 w H locs ls h hI hl; exact absurd h (by simp [f_law_L35])
    | succ n ih =>
      intro hn z51 w H locs ls h hI hl
      rw [f_law_L35] at h
      refine lv_iload hx hb d_law_35 (lv_at hl 4 rfl) ?_
      refine lv_aload_n hx hb d_law_37 rfl (lv_at hl 0 rfl) ?_
      obtain ⟨v52, e53, h⟩ := gb h
      refine gw_alen hx hb hK hI e53 d_law_38 ?_
      refine lv_bipush (v := 14) hx hb d_law_39 (by decide) ?_
      refine lv_isub hx hb d_law_41 ?_
      refine lv_icmp_gt (tgt := 2513) hx hb d_law_42 (by decide) (fun c54 => ?_) (fun c54 => ?_)
      · skip
        have h := git c54 h
        refine W.widen (k := 16015) (n := 905842) (show (16015 - (n + 1) * 31) ≤ 16015 by omega) (show (905842 - (n + 1) * 1745) ≤ 905842 by omega) ?_
        exact hK2513 w H locs ls h hI (lv_sub hl [] rfl)
      · skip
        have h := gie c54 h
        refine lv_aload_n hx hb d_law_45 rfl (lv_at hl 0 rfl) ?_
        refine lv_iload hx hb d_law_46 (lv_at hl 4 rfl) ?_
        obtain ⟨v55, e56, h⟩ := gb h
        refine gw_aldI hx hb hK hI e56 d_law_48 ?_
        refine lv_bipush (v := 31) hx hb d_law_49 (by decide) ?_
        refine lv_iand hx hb d_law_51 ?_
        obtain ⟨K2507, eK2507, h⟩ := gj h
        have hK2507 : ∀ (w : gW) (H : Heap) (locs : List Loc) (ls : Array Slot), K2507 w = some r → gI D s A w H locs → lv_has ls 8 [(0, .ref a0), (1, .ref o1), (2, .ref o9), (3, .ref o17), (4, .int z51)] → W p l e rm_law s m args below meth c H locs ((16015 - (n + 1) * 31) + 31) ((905842 - (n + 1) * 1745) + 1745) Q (F0 m 2507 ls []) := by
          intro w H locs ls h hI hl
          have h := gk1 eK2507 h
          refine lv_iinc (v := z51 + 14) (lv' := [(4, .int (z51 + 14)), (0, .ref a0), (1, .ref o1), (2, .ref o9), (3, .ref o17)]) hx hb d_law_2507 hl (k := 4) rfl rfl (by decide) rfl (fun ls hl => ?_)
          refine lv_goto (tgt := 35) hx hb d_law_2510 (by decide) ?_
          refine W.widen (k := (16015 - n * 31)) (n := (905842 - n * 1745)) (show ((16015 - (n + 1) * 31) + 31) ≤ (16015 - n * 31) by omega) (show ((905842 - (n + 1) * 1745) + 1745) ≤ (905842 - n * 1745) by omega) ?_
          exact ih (by omega) _ w H locs ls h hI (lv_sub hl [1, 2, 3, 4, 0] rfl)
        rcases Decidable.em ((v55 &&& 31) = 0) with c57 | c57
        · have h := git c57 h
          refine lv_tableIn (off := 84) (tgt := 136) hx hb d_law_52 (by rw [c57]; decide) (by rw [c57]; decide) (by rw [c57]; decide) (by decide) ?_
          refine lv_aload_n hx hb d_law_136 rfl (lv_at hl 1 rfl) ?_
          obtain ⟨q60, e61, h⟩ := gb h
          obtain ⟨u58, e59⟩ := gsome h
          refine gw_callI e59 h (gw_runV (As := []) (rest := []) hx hb hml hown hT hK hZ hA hI (ci := 0) rfl e61 (m_B_body l hst D g0 o1 w u58 e59) ce_B_body wd_220 wd_222 ⟨by decide, by decide⟩ rfl rfl hl.1 rfl (lv_room (Nat.le_of_ble_eq_true rfl)) d_law_137 ⟨(show (16015 - (n + 1) * 31) + 3 ≤ 601024 by omega), (show (905842 - (n + 1) * 1745) + 69 ≤ 7293000 by omega)⟩) hI hA hexc (show (16015 - (n + 1) * 31) + 3 ≤ 601024 by omega) (show (905842 - (n + 1) * 1745) + 69 ≤ 7293000 by omega) (fun v62 w H locs h hI => ?_)
          refine W.widen (k := ((16015 - (n + 1) * 31) + 3)) (n := ((905842 - (n + 1) * 1745) + 69)) (show (16015 - (n + 1) * 31) + 3 ≤ ((16015 - (n + 1) * 31) + 3) by omega) (show (905842 - (n + 1) * 1745) + 69 ≤ ((905842 - (n + 1) * 1745) + 69) by omega) ?_
          refine lv_aload_n hx hb d_law_140 rfl (lv_at hl 2 rfl) ?_
          obtain ⟨q65, e66, h⟩ := gb h
          obtain ⟨u63, e64⟩ := gsome h
          refine gw_callI e64 h (gw_runV (As := []) (rest := [.int v62]) hx hb hml hown hT hK hZ hA hI (ci := 7) rfl e66 (m_M_body l hst D g0 o9 w u63 e64) ce_M_body wd_872 wd_874 ⟨by decide, by decide⟩ rfl rfl hl.1 rfl (lv_room (Nat.le_of_ble_eq_true rfl)) d_law_141 ⟨(show ((16015 - (n + 1) * 31) + 3) + 0 ≤ 601024 by omega), (show ((905842 - (n + 1) * 1745) + 69) + 0 ≤ 7293000 by omega)⟩) hI hA hexc (show ((16015 - (n + 1) * 31) + 3) + 0 ≤ 601024 by omega) (show ((905842 - (n + 1) * 1745) + 69) + 0 ≤ 7293000 by omega) (fun v67 w H locs h hI => ?_)
          refine lv_icmp_eq (tgt := 2507) hx hb d_law_144 (by decide) (fun c68 => ?_) (fun c68 => ?_)
          · skip
            have h := git c68 h
            refine W.widen (k := ((16015 - (n + 1) * 31) + 31)) (n := ((905842 - (n + 1) * 1745) + 1745)) (show ((16015 - (n + 1) * 31) + 3) ≤ ((16015 - (n + 1) * 31) + 31) by omega) (show ((905842 - (n + 1) * 1745) + 69) ≤ ((905842 - (n + 1) * 1745) + 1745) by omega) ?_
            exact hK2507 w H locs ls h hI (lv_sub hl [0, 1, 2, 3, 4] rfl)
          · skip
            have h := gie c68 h
            refine W.widen (k := 16015) (n := 905842) (show ((16015 - (n + 1) * 31) + 3) ≤ 16015 by omega) (show ((905842 - (n + 1) * 1745) + 69) ≤ 905842 by omega) ?_
            exact hK147 w H locs ls h hI (lv_sub hl [] rfl)
        have h := gie c57 h
        rcases Decidable.em ((v55 &&& 31) = 1) with c69 | c69
        · have h := git c69 h
          refine lv_tableIn (off := 97) (tgt := 149) hx hb d_law_52 (by rw [c69]; decide) (by rw [c69]; decide) (by rw [c69]; decide) (by decide) ?_
          refine lv_aload_n hx hb d_law_149 rfl (lv_at hl 1 rfl) ?_
          refine lv_aload_n hx hb d_law_150 rfl (lv_at hl 0 rfl) ?_
          refine lv_iload hx hb d_law_151 (lv_at hl 4 rfl) ?_
          refine lv_iconst (v := 1) hx hb d_law_153 (by decide) ?_
          refine lv_iadd hx hb d_law_154 ?_
          obtain ⟨v70, e71, h⟩ := gb h
          refine gw_aldI hx hb hK hI e71 d_law_155 ?_
          refine lv_aload_n hx hb d_law_156 rfl (lv_at hl 0 rfl) ?_
          refine lv_iload hx hb d_law_157 (lv_at hl 4 rfl) ?_
          refine lv_iconst (v := 2) hx hb d_law_159 (by decide) ?_
          refine lv_iadd hx hb d_law_160 ?_
          obtain ⟨v72, e73, h⟩ := gb h
          refine gw_aldI hx hb hK hI e73 d_law_161 ?_
          refine lv_i2l (v := v72.toInt64) hx hb d_law_162 rfl ?_
          refine lv_bipush (v := 32) hx hb d_law_163 (by decide) ?_
          refine lv_lshl (v := (v72.toInt64) <<< ((32 : Int32).toInt64 &&& 63)) hx hb d_law_165 rfl ?_
          refine lv_aload_n hx hb d_law_166 rfl (lv_at hl 0 rfl) ?_
          refine lv_iload hx hb d_law_167 (lv_at hl 4 rfl) ?_
          refine lv_iconst (v := 3) hx hb d_law_169 (by decide) ?_
          refine lv_iadd hx hb d_law_170 ?_
          obtain ⟨v74, e75, h⟩ := gb h
          refine gw_aldI hx hb hK hI e75 d_law_171 ?_
          refine lv_i2l (v := v74.toInt64) hx hb d_law_172 rfl ?_
          refine lv_ldc2 (v := 4294967295) hx hb hown (hT _ wd_1121 args) d_law_173 ?_
          refine lv_land hx hb d_law_176 ?_
          refine lv_lor hx hb d_law_177 ?_
          refine lv_aload_n hx hb d_law_178 rfl (lv_at hl 0 rfl) ?_
          refine lv_iload hx hb d_law_179 (lv_at hl 4 rfl) ?_
          refine lv_iconst (v := 4) hx hb d_law_181 (by decide) ?_
          refine lv_iadd hx hb d_law_182 ?_
          obtain ⟨v76, e77, h⟩ := gb h
          refine gw_aldI hx hb hK hI e77 d_law_183 ?_
          refine lv_i2l (v := v76.toInt64) hx hb d_law_184 rfl ?_
          refine lv_bipush (v := 32) hx hb d_law_185 (by decide) ?_
          refine lv_lshl (v := (v76.toInt64) <<< ((32 : Int32).toInt64 &&& 63)) hx hb d_law_187 rfl ?_
          refine lv_aload_n hx hb d_law_188 rfl (lv_at hl 0 rfl) ?_
          refine lv_iload hx hb d_law_189 (lv_at hl 4 rfl) ?_
          refine lv_iconst (v := 5) hx hb d_law_191 (by decide) ?_
          refine lv_iadd hx hb d_law_192 ?_
          obtain ⟨v78, e79, h⟩ := gb h
          refine gw_aldI hx hb hK hI e79 d_law_193 ?_
          refine lv_i2l (v := v78.toInt64) hx hb d_law_194 rfl ?_
          refine lv_ldc2 (v := 4294967295) hx hb hown (hT _ wd_1121 args) d_law_195 ?_
          refine lv_land hx hb d_law_198 ?_
          refine lv_lor hx hb d_law_199 ?_
          refine lv_aload_n hx hb d_law_200 rfl (lv_at hl 0 rfl) ?_
          refine lv_iload hx hb d_law_201 (lv_at hl 4 rfl) ?_
          refine lv_bipush (v := 6) hx hb d_law_203 (by decide) ?_
          refine lv_iadd hx hb d_law_205 ?_
          obtain ⟨v80, e81, h⟩ := gb h
          refine gw_aldI hx hb hK hI e81 d_law_206 ?_
          refine lv_i2l (v := v80.toInt64) hx hb d_law_207 rfl ?_
          refine lv_bipush (v := 32) hx hb d_law_208 (by decide) ?_
          refine lv_lshl (v := (v80.toInt64) <<< ((32 : Int32).toInt64 &&& 63)) hx hb d_law_210 rfl ?_
          refine lv_aload_n hx hb d_law_211 rfl (lv_at hl 0 rfl) ?_
          refine lv_iload hx hb d_law_212 (lv_at hl 4 rfl) ?_
          refine lv_bipush (v := 7) hx hb d_law_214 (by decide) ?_
          refine lv_iadd hx hb d_law_216 ?_
          obtain ⟨v82, e83, h⟩ := gb h
          refine gw_aldI hx hb hK hI e83 d_law_217 ?_
          refine lv_i2l (v := v82.toInt64) hx hb d_law_218 rfl ?_
          refine lv_ldc2 (v := 4294967295) hx hb hown (hT _ wd_1121 args) d_law_219 ?_
          refine lv_land hx hb d_law_222 ?_
          refine lv_lor hx hb d_law_223 ?_
          refine lv_aload_n hx hb d_law_224 rfl (lv_at hl 0 rfl) ?_
          refine lv_iload hx hb d_law_225 (lv_at hl 4 rfl) ?_
          refine lv_bipush (v := 8) hx hb d_law_227 (by decide) ?_
          refine lv_iadd hx hb d_law_229 ?_
          obtain ⟨v84, e85, h⟩ := gb h
          refine gw_aldI hx hb hK hI e85 d_law_230 ?_
          refine lv_i2l (v := v84.toInt64) hx hb d_law_231 rfl ?_
          refine lv_bipush (v := 32) hx hb d_law_232 (by decide) ?_
          refine lv_lshl (v := (v84.toInt64) <<< ((32 : Int32).toInt64 &&& 63)) hx hb d_law_234 rfl ?_
          refine lv_aload_n hx hb d_law_235 rfl (lv_at hl 0 rfl) ?_
          refine lv_iload hx hb d_law_236 (lv_at hl 4 rfl) ?_
          refine lv_bipush (v := 9) hx hb d_law_238 (by decide) ?_
          refine lv_iadd hx hb d_law_240 ?_
          obtain ⟨v86, e87, h⟩ := gb h
          refine gw_aldI hx hb hK hI e87 d_law_241 ?_
          refine lv_i2l (v := v86.toInt64) hx hb d_law_242 rfl ?_
          refine lv_ldc2 (v := 4294967295) hx hb hown (hT _ wd_1121 args) d_law_243 ?_
          refine lv_land hx hb d_law_246 ?_
          refine lv_lor hx hb d_law_247 ?_
          refine lv_aload_n hx hb d_law_248 rfl (lv_at hl 0 rfl) ?_
          refine lv_iload hx hb d_law_249 (lv_at hl 4 rfl) ?_
          refine lv_bipush (v := 10) hx hb d_law_251 (by decide) ?_
          refine lv_iadd hx hb d_law_253 ?_
          obtain ⟨v88, e89, h⟩ := gb h
          refine gw_aldI hx hb hK hI e89 d_law_254 ?_
          refine lv_i2l (v := v88.toInt64) hx hb d_law_255 rfl ?_
          refine lv_bipush (v := 32) hx hb d_law_256 (by decide) ?_
          refine lv_lshl (v := (v88.toInt64) <<< ((32 : Int32).toInt64 &&& 63)) hx hb d_law_258 rfl ?_
          refine lv_aload_n hx hb d_law_259 rfl (lv_at hl 0 rfl) ?_
          refine lv_iload hx hb d_law_260 (lv_at hl 4 rfl) ?_
          refine lv_bipush (v := 11) hx hb d_law_262 (by decide) ?_
          refine lv_iadd hx hb d_law_264 ?_
          obtain ⟨v90, e91, h⟩ := gb h
          refine gw_aldI hx hb hK hI e91 d_law_265 ?_
          refine lv_i2l (v := v90.toInt64) hx hb d_law_266 rfl ?_
          refine lv_ldc2 (v := 4294967295) hx hb hown (hT _ wd_1121 args) d_law_267 ?_
          refine lv_land hx hb d_law_270 ?_
          refine lv_lor hx hb d_law_271 ?_
          refine lv_aload_n hx hb d_law_272 rfl (lv_at hl 0 rfl) ?_
          refine lv_iload hx hb d_law_273 (lv_at hl 4 rfl) ?_
          refine lv_bipush (v := 12) hx hb d_law_275 (by decide) ?_
          refine lv_iadd hx hb d_law_277 ?_
          obtain ⟨v92, e93, h⟩ := gb h
          refine gw_aldI hx hb hK hI e93 d_law_278 ?_
          refine lv_i2l (v := v92.toInt64) hx hb d_law_279 rfl ?_
          refine lv_bipush (v := 32) hx hb d_law_280 (by decide) ?_
          refine lv_lshl (v := (v92.toInt64) <<< ((32 : Int32).toInt64 &&& 63)) hx hb d_law_282 rfl ?_
          refine lv_aload_n hx hb d_law_283 rfl (lv_at hl 0 rfl) ?_
          refine lv_iload hx hb d_law_284 (lv_at hl 4 rfl) ?_
          refine lv_bipush (v := 13) hx hb d_law_286 (by decide) ?_
          refine lv_iadd hx hb d_law_288 ?_
          obtain ⟨v94, e95, h⟩ := gb h
          refine gw_aldI hx hb hK hI e95 d_law_289 ?_
          refine lv_i2l (v := v94.toInt64) hx hb d_law_290 rfl ?_
          refine lv_ldc2 (v := 4294967295) hx hb hown (hT _ wd_1121 args) d_law_291 ?_
          refine lv_land hx hb d_law_294 ?_
          refine lv_lor hx hb d_law_295 ?_
          refine lv_aload_n hx hb d_law_296 rfl (lv_at hl 3 rfl) ?_
          obtain ⟨u96, e97⟩ := gsome h
          refine gw_callI e97 h (gw_runS (As := [.ref o1, .int v70, .long (((v72.toInt64) <<< ((32 : Int32).toInt64 &&& 63)) ||| ((v74.toInt64) &&& 4294967295)), .long (((v76.toInt64) <<< ((32 : Int32).toInt64 &&& 63)) ||| ((v78.toInt64) &&& 4294967295)), .long (((v80.toInt64) <<< ((32 : Int32).toInt64 &&& 63)) ||| ((v82.toInt64) &&& 4294967295)), .long (((v84.toInt64) <<< ((32 : Int32).toInt64 &&& 63)) ||| ((v86.toInt64) &&& 4294967295)), .long (((v88.toInt64) <<< ((32 : Int32).toInt64 &&& 63)) ||| ((v90.toInt64) &&& 4294967295)), .long (((v92.toInt64) <<< ((32 : Int32).toInt64 &&& 63)) ||| ((v94.toInt64) &&& 4294967295)), .ref o17]) (rest := []) hx hb hml hown hT hK hZ hA hI (m_W_box l hst D g0 o1 v70 (((v72.toInt64) <<< ((32 : Int32).toInt64 &&& 63)) ||| ((v74.toInt64) &&& 4294967295)) (((v76.toInt64) <<< ((32 : Int32).toInt64 &&& 63)) ||| ((v78.toInt64) &&& 4294967295)) (((v80.toInt64) <<< ((32 : Int32).toInt64 &&& 63)) ||| ((v82.toInt64) &&& 4294967295)) (((v84.toInt64) <<< ((32 : Int32).toInt64 &&& 63)) ||| ((v86.toInt64) &&& 4294967295)) (((v88.toInt64) <<< ((32 : Int32).toInt64 &&& 63)) ||| ((v90.toInt64) &&& 4294967295)) (((v92.toInt64) <<< ((32 : Int32).toInt64 &&& 63)) ||| ((v94.toInt64) &&& 4294967295)) o17 w u96 e97) ce_W_box wd_427 ⟨by decide, by decide⟩ rfl rfl hl.1 rfl (lv_room (Nat.le_of_ble_eq_true rfl)) d_law_297 ⟨(show (16015 - (n + 1) * 31) + 14 ≤ 601024 by omega), (show (905842 - (n + 1) * 1745) + 152 ≤ 7293000 by omega)⟩) hI hA hexc (show (16015 - (n + 1) * 31) + 14 ≤ 601024 by omega) (show (905842 - (n + 1) * 1745) + 152 ≤ 7293000 by omega) (fun v98 w H locs h hI => ?_)
          refine W.widen (k := ((16015 - (n + 1) * 31) + 14)) (n := ((905842 - (n + 1) * 1745) + 152)) (show (16015 - (n + 1) * 31) + 14 ≤ ((16015 - (n + 1) * 31) + 14) by omega) (show (905842 - (n + 1) * 1745) + 152 ≤ ((905842 - (n + 1) * 1745) + 152) by omega) ?_
          refine lv_istore (lv' := [(5, .int v98), (0, .ref a0), (1, .ref o1), (2, .ref o9), (3, .ref o17), (4, .int z51)]) hx hb d_law_300 hl (by decide) rfl (fun ls hl => ?_)
          refine lv_aload_n hx hb d_law_302 rfl (lv_at hl 3 rfl) ?_
          refine lv_aload_n hx hb d_law_303 rfl (lv_at hl 1 rfl) ?_
          refine lv_iload hx hb d_law_304 (lv_at hl 5 rfl) ?_
          refine lv_iconst (v := 1) hx hb d_law_306 (by decide) ?_
          refine lv_iadd hx hb d_law_307 ?_
          obtain ⟨v99, e100, h⟩ := gb h
          refine gw_aldI hx hb hK hI e100 d_law_308 ?_
          refine lv_aload_n hx hb d_law_309 rfl (lv_at hl 1 rfl) ?_
          refine lv_iload hx hb d_law_310 (lv_at hl 5 rfl) ?_
          refine lv_iconst (v := 2) hx hb d_law_312 (by decide) ?_
          refine lv_iadd hx hb d_law_313 ?_
          obtain ⟨v101, e102, h⟩ := gb h
          refine gw_aldI hx hb hK hI e102 d_law_314 ?_
          refine lv_i2l (v := v101.toInt64) hx hb d_law_315 rfl ?_
          refine lv_bipush (v := 32) hx hb d_law_316 (by decide) ?_
          refine lv_lshl (v := (v101.toInt64) <<< ((32 : Int32).toInt64 &&& 63)) hx hb d_law_318 rfl ?_
          refine lv_aload_n hx hb d_law_319 rfl (lv_at hl 1 rfl) ?_
          refine lv_iload hx hb d_law_320 (lv_at hl 5 rfl) ?_
          refine lv_iconst (v := 3) hx hb d_law_322 (by decide) ?_
          refine lv_iadd hx hb d_law_323 ?_
          obtain ⟨v103, e104, h⟩ := gb h
          refine gw_aldI hx hb hK hI e104 d_law_324 ?_
          refine lv_i2l (v := v103.toInt64) hx hb d_law_325 rfl ?_
          refine lv_ldc2 (v := 4294967295) hx hb hown (hT _ wd_1121 args) d_law_326 ?_
          refine lv_land hx hb d_law_329 ?_
          refine lv_lor hx hb d_law_330 ?_
          refine lv_aload_n hx hb d_law_331 rfl (lv_at hl 1 rfl) ?_
          refine lv_iload hx hb d_law_332 (lv_at hl 5 rfl) ?_
          refine lv_iconst (v := 4) hx hb d_law_334 (by decide) ?_
          refine lv_iadd hx hb d_law_335 ?_
          obtain ⟨v105, e106, h⟩ := gb h
          refine gw_aldI hx hb hK hI e106 d_law_336 ?_
          refine lv_i2l (v := v105.toInt64) hx hb d_law_337 rfl ?_
          refine lv_bipush (v := 32) hx hb d_law_338 (by decide) ?_
          refine lv_lshl (v := (v105.toInt64) <<< ((32 : Int32).toInt64 &&& 63)) hx hb d_law_340 rfl ?_
          refine lv_aload_n hx hb d_law_341 rfl (lv_at hl 1 rfl) ?_
          refine lv_iload hx hb d_law_342 (lv_at hl 5 rfl) ?_
          refine lv_iconst (v := 5) hx hb d_law_344 (by decide) ?_
          refine lv_iadd hx hb d_law_345 ?_
          obtain ⟨v107, e108, h⟩ := gb h
          refine gw_aldI hx hb hK hI e108 d_law_346 ?_
          refine lv_i2l (v := v107.toInt64) hx hb d_law_347 rfl ?_
          refine lv_ldc2 (v := 4294967295) hx hb hown (hT _ wd_1121 args) d_law_348 ?_
          refine lv_land hx hb d_law_351 ?_
          refine lv_lor hx hb d_law_352 ?_
          refine lv_aload_n hx hb d_law_353 rfl (lv_at hl 1 rfl) ?_
          refine lv_iload hx hb d_law_354 (lv_at hl 5 rfl) ?_
          refine lv_bipush (v := 6) hx hb d_law_356 (by decide) ?_
          refine lv_iadd hx hb d_law_358 ?_
          obtain ⟨v109, e110, h⟩ := gb h
          refine gw_aldI hx hb hK hI e110 d_law_359 ?_
          refine lv_i2l (v := v109.toInt64) hx hb d_law_360 rfl ?_
          refine lv_bipush (v := 32) hx hb d_law_361 (by decide) ?_
          refine lv_lshl (v := (v109.toInt64) <<< ((32 : Int32).toInt64 &&& 63)) hx hb d_law_363 rfl ?_
          refine lv_aload_n hx hb d_law_364 rfl (lv_at hl 1 rfl) ?_
          refine lv_iload hx hb d_law_365 (lv_at hl 5 rfl) ?_
          refine lv_bipush (v := 7) hx hb d_law_367 (by decide) ?_
          refine lv_iadd hx hb d_law_369 ?_
          obtain ⟨v111, e112, h⟩ := gb h
          refine gw_aldI hx hb hK hI e112 d_law_370 ?_
          refine lv_i2l (v := v111.toInt64) hx hb d_law_371 rfl ?_
          refine lv_ldc2 (v := 4294967295) hx hb hown (hT _ wd_1121 args) d_law_372 ?_
          refine lv_land hx hb d_law_375 ?_
          refine lv_lor hx hb d_law_376 ?_
          refine lv_aload_n hx hb d_law_377 rfl (lv_at hl 1 rfl) ?_
          refine lv_iload hx hb d_law_378 (lv_at hl 5 rfl) ?_
          refine lv_bipush (v := 8) hx hb d_law_380 (by decide) ?_
          refine lv_iadd hx hb d_law_382 ?_
          obtain ⟨v113, e114, h⟩ := gb h
          refine gw_aldI hx hb hK hI e114 d_law_383 ?_
          refine lv_i2l (v := v113.toInt64) hx hb d_law_384 rfl ?_
          refine lv_bipush (v := 32) hx hb d_law_385 (by decide) ?_
          refine lv_lshl (v := (v113.toInt64) <<< ((32 : Int32).toInt64 &&& 63)) hx hb d_law_387 rfl ?_
          refine lv_aload_n hx hb d_law_388 rfl (lv_at hl 1 rfl) ?_
          refine lv_iload hx hb d_law_389 (lv_at hl 5 rfl) ?_
          refine lv_bipush (v := 9) hx hb d_law_391 (by decide) ?_
          refine lv_iadd hx hb d_law_393 ?_
          obtain ⟨v115, e116, h⟩ := gb h
          refine gw_aldI hx hb hK hI e116 d_law_394 ?_
          refine lv_i2l (v := v115.toInt64) hx hb d_law_395 rfl ?_
          refine lv_ldc2 (v := 4294967295) hx hb hown (hT _ wd_1121 args) d_law_396 ?_
          refine lv_land hx hb d_law_399 ?_
          refine lv_lor hx hb d_law_400 ?_
          refine lv_aload_n hx hb d_law_401 rfl (lv_at hl 1 rfl) ?_
          refine lv_iload hx hb d_law_402 (lv_at hl 5 rfl) ?_
          refine lv_bipush (v := 10) hx hb d_law_404 (by decide) ?_
          refine lv_iadd hx hb d_law_406 ?_
          obtain ⟨v117, e118, h⟩ := gb h
          refine gw_aldI hx hb hK hI e118 d_law_407 ?_
          refine lv_i2l (v := v117.toInt64) hx hb d_law_408 rfl ?_
          refine lv_bipush (v := 32) hx hb d_law_409 (by decide) ?_
          refine lv_lshl (v := (v117.toInt64) <<< ((32 : Int32).toInt64 &&& 63)) hx hb d_law_411 rfl ?_
          refine lv_aload_n hx hb d_law_412 rfl (lv_at hl 1 rfl) ?_
          refine lv_iload hx hb d_law_413 (lv_at hl 5 rfl) ?_
          refine lv_bipush (v := 11) hx hb d_law_415 (by decide) ?_
          refine lv_iadd hx hb d_law_417 ?_
          obtain ⟨v119, e120, h⟩ := gb h
          refine gw_aldI hx hb hK hI e120 d_law_418 ?_
          refine lv_i2l (v := v119.toInt64) hx hb d_law_419 rfl ?_
          refine lv_ldc2 (v := 4294967295) hx hb hown (hT _ wd_1121 args) d_law_420 ?_
          refine lv_land hx hb d_law_423 ?_
          refine lv_lor hx hb d_law_424 ?_
          refine lv_aload_n hx hb d_law_425 rfl (lv_at hl 1 rfl) ?_
          refine lv_iload hx hb d_law_426 (lv_at hl 5 rfl) ?_
          refine lv_bipush (v := 12) hx hb d_law_428 (by decide) ?_
          refine lv_iadd hx hb d_law_430 ?_
          obtain ⟨v121, e122, h⟩ := gb h
          refine gw_aldI hx hb hK hI e122 d_law_431 ?_
          refine lv_i2l (v := v121.toInt64) hx hb d_law_432 rfl ?_
          refine lv_bipush (v := 32) hx hb d_law_433 (by decide) ?_
          refine lv_lshl (v := (v121.toInt64) <<< ((32 : Int32).toInt64 &&& 63)) hx hb d_law_435 rfl ?_
          refine lv_aload_n hx hb d_law_436 rfl (lv_at hl 1 rfl) ?_
          refine lv_iload hx hb d_law_437 (lv_at hl 5 rfl) ?_
          refine lv_bipush (v := 13) hx hb d_law_439 (by decide) ?_
          refine lv_iadd hx hb d_law_441 ?_
          obtain ⟨v123, e124, h⟩ := gb h
          refine gw_aldI hx hb hK hI e124 d_law_442 ?_
          refine lv_i2l (v := v123.toInt64) hx hb d_law_443 rfl ?_
          refine lv_ldc2 (v := 4294967295) hx hb hown (hT _ wd_1121 args) d_law_444 ?_
          refine lv_land hx hb d_law_447 ?_
          refine lv_lor hx hb d_law_448 ?_
          obtain ⟨q127, e128, h⟩ := gb h
          obtain ⟨u125, e126⟩ := gsome h
          refine gw_callI e126 h (gw_runV (As := [.int v99, .long (((v101.toInt64) <<< ((32 : Int32).toInt64 &&& 63)) ||| ((v103.toInt64) &&& 4294967295)), .long (((v105.toInt64) <<< ((32 : Int32).toInt64 &&& 63)) ||| ((v107.toInt64) &&& 4294967295)), .long (((v109.toInt64) <<< ((32 : Int32).toInt64 &&& 63)) ||| ((v111.toInt64) &&& 4294967295)), .long (((v113.toInt64) <<< ((32 : Int32).toInt64 &&& 63)) ||| ((v115.toInt64) &&& 4294967295)), .long (((v117.toInt64) <<< ((32 : Int32).toInt64 &&& 63)) ||| ((v119.toInt64) &&& 4294967295)), .long (((v121.toInt64) <<< ((32 : Int32).toInt64 &&& 63)) ||| ((v123.toInt64) &&& 4294967295))]) (rest := []) hx hb hml hown hT hK hZ hA hI (ci := 7) rfl e128 (m_M_box l hst D g0 o9 v99 (((v101.toInt64) <<< ((32 : Int32).toInt64 &&& 63)) ||| ((v103.toInt64) &&& 4294967295)) (((v105.toInt64) <<< ((32 : Int32).toInt64 &&& 63)) ||| ((v107.toInt64) &&& 4294967295)) (((v109.toInt64) <<< ((32 : Int32).toInt64 &&& 63)) ||| ((v111.toInt64) &&& 4294967295)) (((v113.toInt64) <<< ((32 : Int32).toInt64 &&& 63)) ||| ((v115.toInt64) &&& 4294967295)) (((v117.toInt64) <<< ((32 : Int32).toInt64 &&& 63)) ||| ((v119.toInt64) &&& 4294967295)) (((v121.toInt64) <<< ((32 : Int32).toInt64 &&& 63)) ||| ((v123.toInt64) &&& 4294967295)) w u125 e126) ce_M_box wd_876 wd_878 ⟨by decide, by decide⟩ rfl rfl hl.1 rfl (lv_room (Nat.le_of_ble_eq_true rfl)) d_law_449 ⟨(show ((16015 - (n + 1) * 31) + 14) + 0 ≤ 601024 by omega), (show ((905842 - (n + 1) * 1745) + 152) + 0 ≤ 7293000 by omega)⟩) hI hA hexc (show ((16015 - (n + 1) * 31) + 14) + 0 ≤ 601024 by omega) (show ((905842 - (n + 1) * 1745) + 152) + 0 ≤ 7293000 by omega) (fun v129 w H locs h hI => ?_)
          refine lv_istore (lv' := [(6, .int v129), (5, .int v98), (0, .ref a0), (1, .ref o1), (2, .ref o9), (3, .ref o17), (4, .int z51)]) hx hb d_law_452 hl (by decide) rfl (fun ls hl => ?_)
          refine lv_aload_n hx hb d_law_454 rfl (lv_at hl 4 rfl) ?_
          obtain ⟨q132, e133, h⟩ := gb h
          obtain ⟨u130, e131⟩ := gsome h
          refine gw_callI e131 h (gw_runV (As := []) (rest := []) hx hb hml hown hT hK hZ hA hI (ci := 7) rfl e133 (m_M_thrown l hst D g0 o9 w u130 e131) ce_M_thrown wd_868 wd_870 ⟨by decide, by decide⟩ rfl rfl hl.1 rfl (lv_room (Nat.le_of_ble_eq_true rfl)) d_law_455 ⟨(show ((16015 - (n + 1) * 31) + 14) + 0 ≤ 601024 by omega), (show ((905842 - (n + 1) * 1745) + 152) + 0 ≤ 7293000 by omega)⟩) hI hA hexc (show ((16015 - (n + 1) * 31) + 14) + 0 ≤ 601024 by omega) (show ((905842 - (n + 1) * 1745) + 152) + 0 ≤ 7293000 by omega) (fun v134 w H locs h hI => ?_)
          refine lv_iload hx hb d_law_458 (lv_at hl 1 rfl) ?_
          refine lv_icmp_eq (tgt := 465) hx hb d_law_460 (by decide) (fun c135 => ?_) (fun c135 => ?_)
          · skip
            have h := git c135 h
            refine lv_iload hx hb d_law_465 (lv_at hl 1 rfl) ?_
            obtain ⟨K489, eK489, h⟩ := gj h
            have hK489 : ∀ (w : gW) (H : Heap) (locs : List Loc) (ls : Array Slot), K489 w = some r → gI D s A w H locs → lv_has ls 8 [(0, .ref a0), (1, .ref o1), (2, .ref o9), (3, .ref o17), (4, .int z51)] → W p l e rm_law s m args below meth c H locs ((16015 - (n + 1) * 31) + 14) ((905842 - (n + 1) * 1745) + 152) Q (F0 m 489 ls []) := by
              intro w H locs ls h hI hl
              have h := gk1 eK489 h
              refine lv_goto (tgt := 2507) hx hb d_law_489 (by decide) ?_
              refine W.widen (k := ((16015 - (n + 1) * 31) + 31)) (n := ((905842 - (n + 1) * 1745) + 1745)) (show ((16015 - (n + 1) * 31) + 14) ≤ ((16015 - (n + 1) * 31) + 31) by omega) (show ((905842 - (n + 1) * 1745) + 152) ≤ ((905842 - (n + 1) * 1745) + 1745) by omega) ?_
              exact hK2507 w H locs ls h hI (lv_sub hl [0, 1, 2, 3, 4] rfl)
            refine lv_if_ne (tgt := 489) hx hb d_law_467 (by decide) (fun c136 => ?_) (fun c136 => ?_)
            · skip
              have h := gie c136 h
              exact hK489 w H locs ls h hI (lv_sub hl [2, 3, 4, 5, 6] rfl)
            · skip
              have h := git c136 h
              refine lv_aload_n hx hb d_law_470 rfl (lv_at hl 5 rfl) ?_
              refine lv_iconst (v := 0) hx hb d_law_471 (by decide) ?_
              obtain ⟨v137, e138, h⟩ := gb h
              refine gw_aldJ hx hb hK hI e138 d_law_472 ?_
              refine lv_iload hx hb d_law_473 (lv_at hl 0 rfl) ?_
              obtain ⟨K483, eK483, h⟩ := gj h
              have hK483 : ∀ (y139 : Int64) (w : gW) (H : Heap) (locs : List Loc) (ls : Array Slot), K483 y139 w = some r → gI D s A w H locs → lv_has ls 8 [(0, .ref a0), (1, .ref o1), (2, .ref o9), (3, .ref o17), (4, .int z51)] → W p l e rm_law s m args below meth c H locs ((16015 - (n + 1) * 31) + 14) ((905842 - (n + 1) * 1745) + 152) Q (F0 m 483 ls [.long y139, .long v137]) := by
                intro y139 w H locs ls h hI hl
                have h := gk2 eK483 h
                refine W.lcmp hx hb d_law_483 ?_
                refine lv_if_eq (tgt := 489) hx hb d_law_484 (by decide) (fun c140 => ?_) (fun c140 => ?_)
                · have c140 := (lg_cmp_eq _ _).mp c140
                  have h := git c140 h
                  exact hK489 w H locs ls h hI (lv_sub hl [0, 1, 2, 3, 4] rfl)
                · have c140 := mt (lg_cmp_eq _ _).mpr c140
                  have h := gie c140 h
                  refine W.widen (k := 16015) (n := 905842) (show ((16015 - (n + 1) * 31) + 14) ≤ 16015 by omega) (show ((905842 - (n + 1) * 1745) + 152) ≤ 905842 by omega) ?_
                  exact hK487 w H locs ls h hI (lv_sub hl [] rfl)
              refine lv_if_eq (tgt := 482) hx hb d_law_475 (by decide) (fun c141 => ?_) (fun c141 => ?_)
              · skip
                have h := git c141 h
                refine lv_lconst (v := 0) hx hb d_law_482 (by decide) ?_
                exact hK483 _ w H locs ls h hI (lv_sub hl [2, 3, 4, 5, 6] rfl)
              · skip
                have h := gie c141 h
                refine lv_lconst (v := 1) hx hb d_law_478 (by decide) ?_
                refine lv_goto (tgt := 483) hx hb d_law_479 (by decide) ?_
                exact hK483 _ w H locs ls h hI (lv_sub hl [2, 3, 4, 5, 6] rfl)
          · skip
            have h := gie c135 h
            refine W.widen (k := 16015) (n := 905842) (show ((16015 - (n + 1) * 31) + 14) ≤ 16015 by omega) (show ((905842 - (n + 1) * 1745) + 152) ≤ 905842 by omega) ?_
            exact hK463 w H locs ls h hI (lv_sub hl [] rfl)
        have h := gie c69 h
        rcases Decidable.em ((v55 &&& 31) = 2) with c142 | c142
        · have h := git c142 h
          refine lv_tableIn (off := 440) (tgt := 492) hx hb d_law_52 (by rw [c142]; decide) (by rw [c142]; decide) (by rw [c142]; decide) (by decide) ?_
          refine lv_aload_n hx hb d_law_492 rfl (lv_at hl 1 rfl) ?_
          refine lv_aload_n hx hb d_law_493 rfl (lv_at hl 0 rfl) ?_
          refine lv_iload hx hb d_law_494 (lv_at hl 4 rfl) ?_
          refine lv_iconst (v := 1) hx hb d_law_496 (by decide) ?_
          refine lv_iadd hx hb d_law_497 ?_
          obtain ⟨v143, e144, h⟩ := gb h
          refine gw_aldI hx hb hK hI e144 d_law_498 ?_
          refine lv_aload_n hx hb d_law_499 rfl (lv_at hl 0 rfl) ?_
          refine lv_iload hx hb d_law_500 (lv_at hl 4 rfl) ?_
          refine lv_iconst (v := 2) hx hb d_law_502 (by decide) ?_
          refine lv_iadd hx hb d_law_503 ?_
          obtain ⟨v145, e146, h⟩ := gb h
          refine gw_aldI hx hb hK hI e146 d_law_504 ?_
          refine lv_i2l (v := v145.toInt64) hx hb d_law_505 rfl ?_
          refine lv_bipush (v := 32) hx hb d_law_506 (by decide) ?_
          refine lv_lshl (v := (v145.toInt64) <<< ((32 : Int32).toInt64 &&& 63)) hx hb d_law_508 rfl ?_
          refine lv_aload_n hx hb d_law_509 rfl (lv_at hl 0 rfl) ?_
          refine lv_iload hx hb d_law_510 (lv_at hl 4 rfl) ?_
          refine lv_iconst (v := 3) hx hb d_law_512 (by decide) ?_
          refine lv_iadd hx hb d_law_513 ?_
          obtain ⟨v147, e148, h⟩ := gb h
          refine gw_aldI hx hb hK hI e148 d_law_514 ?_
          refine lv_i2l (v := v147.toInt64) hx hb d_law_515 rfl ?_
          refine lv_ldc2 (v := 4294967295) hx hb hown (hT _ wd_1121 args) d_law_516 ?_
          refine lv_land hx hb d_law_519 ?_
          refine lv_lor hx hb d_law_520 ?_
          refine lv_aload_n hx hb d_law_521 rfl (lv_at hl 0 rfl) ?_
          refine lv_iload hx hb d_law_522 (lv_at hl 4 rfl) ?_
          refine lv_iconst (v := 4) hx hb d_law_524 (by decide) ?_
          refine lv_iadd hx hb d_law_525 ?_
          obtain ⟨v149, e150, h⟩ := gb h
          refine gw_aldI hx hb hK hI e150 d_law_526 ?_
          refine lv_i2l (v := v149.toInt64) hx hb d_law_527 rfl ?_
          refine lv_bipush (v := 32) hx hb d_law_528 (by decide) ?_
          refine lv_lshl (v := (v149.toInt64) <<< ((32 : Int32).toInt64 &&& 63)) hx hb d_law_530 rfl ?_
          refine lv_aload_n hx hb d_law_531 rfl (lv_at hl 0 rfl) ?_
          refine lv_iload hx hb d_law_532 (lv_at hl 4 rfl) ?_
          refine lv_iconst (v := 5) hx hb d_law_534 (by decide) ?_
          refine lv_iadd hx hb d_law_535 ?_
          obtain ⟨v151, e152, h⟩ := gb h
          refine gw_aldI hx hb hK hI e152 d_law_536 ?_
          refine lv_i2l (v := v151.toInt64) hx hb d_law_537 rfl ?_
          refine lv_ldc2 (v := 4294967295) hx hb hown (hT _ wd_1121 args) d_law_538 ?_
          refine lv_land hx hb d_law_541 ?_
          refine lv_lor hx hb d_law_542 ?_
          refine lv_aload_n hx hb d_law_543 rfl (lv_at hl 0 rfl) ?_
          refine lv_iload hx hb d_law_544 (lv_at hl 4 rfl) ?_
          refine lv_bipush (v := 6) hx hb d_law_546 (by decide) ?_
          refine lv_iadd hx hb d_law_548 ?_
          obtain ⟨v153, e154, h⟩ := gb h
          refine gw_aldI hx hb hK hI e154 d_law_549 ?_
          refine lv_i2l (v := v153.toInt64) hx hb d_law_550 rfl ?_
          refine lv_bipush (v := 32) hx hb d_law_551 (by decide) ?_
          refine lv_lshl (v := (v153.toInt64) <<< ((32 : Int32).toInt64 &&& 63)) hx hb d_law_553 rfl ?_
          refine lv_aload_n hx hb d_law_554 rfl (lv_at hl 0 rfl) ?_
          refine lv_iload hx hb d_law_555 (lv_at hl 4 rfl) ?_
          refine lv_bipush (v := 7) hx hb d_law_557 (by decide) ?_
          refine lv_iadd hx hb d_law_559 ?_
          obtain ⟨v155, e156, h⟩ := gb h
          refine gw_aldI hx hb hK hI e156 d_law_560 ?_
          refine lv_i2l (v := v155.toInt64) hx hb d_law_561 rfl ?_
          refine lv_ldc2 (v := 4294967295) hx hb hown (hT _ wd_1121 args) d_law_562 ?_
          refine lv_land hx hb d_law_565 ?_
          refine lv_lor hx hb d_law_566 ?_
          refine lv_aload_n hx hb d_law_567 rfl (lv_at hl 0 rfl) ?_
          refine lv_iload hx hb d_law_568 (lv_at hl 4 rfl) ?_
          refine lv_bipush (v := 8) hx hb d_law_570 (by decide) ?_
          refine lv_iadd hx hb d_law_572 ?_
          obtain ⟨v157, e158, h⟩ := gb h
          refine gw_aldI hx hb hK hI e158 d_law_573 ?_
          refine lv_i2l (v := v157.toInt64) hx hb d_law_574 rfl ?_
          refine lv_bipush (v := 32) hx hb d_law_575 (by decide) ?_
          refine lv_lshl (v := (v157.toInt64) <<< ((32 : Int32).toInt64 &&& 63)) hx hb d_law_577 rfl ?_
          refine lv_aload_n hx hb d_law_578 rfl (lv_at hl 0 rfl) ?_
          refine lv_iload hx hb d_law_579 (lv_at hl 4 rfl) ?_
          refine lv_bipush (v := 9) hx hb d_law_581 (by decide) ?_
          refine lv_iadd hx hb d_law_583 ?_
          obtain ⟨v159, e160, h⟩ := gb h
          refine gw_aldI hx hb hK hI e160 d_law_584 ?_
          refine lv_i2l (v := v159.toInt64) hx hb d_law_585 rfl ?_
          refine lv_ldc2 (v := 4294967295) hx hb hown (hT _ wd_1121 args) d_law_586 ?_
          refine lv_land hx hb d_law_589 ?_
          refine lv_lor hx hb d_law_590 ?_
          refine lv_aload_n hx hb d_law_591 rfl (lv_at hl 0 rfl) ?_
          refine lv_iload hx hb d_law_592 (lv_at hl 4 rfl) ?_
          refine lv_bipush (v := 10) hx hb d_law_594 (by decide) ?_
          refine lv_iadd hx hb d_law_596 ?_
          obtain ⟨v161, e162, h⟩ := gb h
          refine gw_aldI hx hb hK hI e162 d_law_597 ?_
          refine lv_i2l (v := v161.toInt64) hx hb d_law_598 rfl ?_
          refine lv_bipush (v := 32) hx hb d_law_599 (by decide) ?_
          refine lv_lshl (v := (v161.toInt64) <<< ((32 : Int32).toInt64 &&& 63)) hx hb d_law_601 rfl ?_
          refine lv_aload_n hx hb d_law_602 rfl (lv_at hl 0 rfl) ?_
          refine lv_iload hx hb d_law_603 (lv_at hl 4 rfl) ?_
          refine lv_bipush (v := 11) hx hb d_law_605 (by decide) ?_
          refine lv_iadd hx hb d_law_607 ?_
          obtain ⟨v163, e164, h⟩ := gb h
          refine gw_aldI hx hb hK hI e164 d_law_608 ?_
          refine lv_i2l (v := v163.toInt64) hx hb d_law_609 rfl ?_
          refine lv_ldc2 (v := 4294967295) hx hb hown (hT _ wd_1121 args) d_law_610 ?_
          refine lv_land hx hb d_law_613 ?_
          refine lv_lor hx hb d_law_614 ?_
          refine lv_aload_n hx hb d_law_615 rfl (lv_at hl 3 rfl) ?_
          obtain ⟨u165, e166⟩ := gsome h
          refine gw_callI e166 h (gw_runS (As := [.ref o1, .int v143, .long (((v145.toInt64) <<< ((32 : Int32).toInt64 &&& 63)) ||| ((v147.toInt64) &&& 4294967295)), .long (((v149.toInt64) <<< ((32 : Int32).toInt64 &&& 63)) ||| ((v151.toInt64) &&& 4294967295)), .long (((v153.toInt64) <<< ((32 : Int32).toInt64 &&& 63)) ||| ((v155.toInt64) &&& 4294967295)), .long (((v157.toInt64) <<< ((32 : Int32).toInt64 &&& 63)) ||| ((v159.toInt64) &&& 4294967295)), .long (((v161.toInt64) <<< ((32 : Int32).toInt64 &&& 63)) ||| ((v163.toInt64) &&& 4294967295)), .ref o17]) (rest := []) hx hb hml hown hT hK hZ hA hI (m_W_cylinder l hst D g0 o1 v143 (((v145.toInt64) <<< ((32 : Int32).toInt64 &&& 63)) ||| ((v147.toInt64) &&& 4294967295)) (((v149.toInt64) <<< ((32 : Int32).toInt64 &&& 63)) ||| ((v151.toInt64) &&& 4294967295)) (((v153.toInt64) <<< ((32 : Int32).toInt64 &&& 63)) ||| ((v155.toInt64) &&& 4294967295)) (((v157.toInt64) <<< ((32 : Int32).toInt64 &&& 63)) ||| ((v159.toInt64) &&& 4294967295)) (((v161.toInt64) <<< ((32 : Int32).toInt64 &&& 63)) ||| ((v163.toInt64) &&& 4294967295)) o17 w u165 e166) ce_W_cylinder wd_568 ⟨by decide, by decide⟩ rfl rfl hl.1 rfl (lv_room (Nat.le_of_ble_eq_true rfl)) d_law_616 ⟨(show (16015 - (n + 1) * 31) + 11 ≤ 601024 by omega), (show (905842 - (n + 1) * 1745) + 134 ≤ 7293000 by omega)⟩) hI hA hexc (show (16015 - (n + 1) * 31) + 11 ≤ 601024 by omega) (show (905842 - (n + 1) * 1745) + 134 ≤ 7293000 by omega) (fun v167 w H locs h hI => ?_)
          refine W.widen (k := ((16015 - (n + 1) * 31) + 11)) (n := ((905842 - (n + 1) * 1745) + 134)) (show (16015 - (n + 1) * 31) + 11 ≤ ((16015 - (n + 1) * 31) + 11) by omega) (show (905842 - (n + 1) * 1745) + 134 ≤ ((905842 - (n + 1) * 1745) + 134) by omega) ?_
          refine lv_istore (lv' := [(5, .int v167), (0, .ref a0), (1, .ref o1), (2, .ref o9), (3, .ref o17), (4, .int z51)]) hx hb d_law_619 hl (by decide) rfl (fun ls hl => ?_)
          refine lv_aload_n hx hb d_law_621 rfl (lv_at hl 3 rfl) ?_
          refine lv_aload_n hx hb d_law_622 rfl (lv_at hl 1 rfl) ?_
          refine lv_iload hx hb d_law_623 (lv_at hl 5 rfl) ?_
          refine lv_iconst (v := 1) hx hb d_law_625 (by decide) ?_
          refine lv_iadd hx hb d_law_626 ?_
          obtain ⟨v168, e169, h⟩ := gb h
          refine gw_aldI hx hb hK hI e169 d_law_627 ?_
          refine lv_aload_n hx hb d_law_628 rfl (lv_at hl 1 rfl) ?_
          refine lv_iload hx hb d_law_629 (lv_at hl 5 rfl) ?_
          refine lv_iconst (v := 2) hx hb d_law_631 (by decide) ?_
          refine lv_iadd hx hb d_law_632 ?_
          obtain ⟨v170, e171, h⟩ := gb h
          refine gw_aldI hx hb hK hI e171 d_law_633 ?_
          refine lv_i2l (v := v170.toInt64) hx hb d_law_634 rfl ?_
          refine lv_bipush (v := 32) hx hb d_law_635 (by decide) ?_
          refine lv_lshl (v := (v170.toInt64) <<< ((32 : Int32).toInt64 &&& 63)) hx hb d_law_637 rfl ?_
          refine lv_aload_n hx hb d_law_638 rfl (lv_at hl 1 rfl) ?_
          refine lv_iload hx hb d_law_639 (lv_at hl 5 rfl) ?_
          refine lv_iconst (v := 3) hx hb d_law_641 (by decide) ?_
          refine lv_iadd hx hb d_law_642 ?_
          obtain ⟨v172, e173, h⟩ := gb h
          refine gw_aldI hx hb hK hI e173 d_law_643 ?_
          refine lv_i2l (v := v172.toInt64) hx hb d_law_644 rfl ?_
          refine lv_ldc2 (v := 4294967295) hx hb hown (hT _ wd_1121 args) d_law_645 ?_
          refine lv_land hx hb d_law_648 ?_
          refine lv_lor hx hb d_law_649 ?_
          refine lv_aload_n hx hb d_law_650 rfl (lv_at hl 1 rfl) ?_
          refine lv_iload hx hb d_law_651 (lv_at hl 5 rfl) ?_
          refine lv_iconst (v := 4) hx hb d_law_653 (by decide) ?_
          refine lv_iadd hx hb d_law_654 ?_
          obtain ⟨v174, e175, h⟩ := gb h
          refine gw_aldI hx hb hK hI e175 d_law_655 ?_
          refine lv_i2l (v := v174.toInt64) hx hb d_law_656 rfl ?_
          refine lv_bipush (v := 32) hx hb d_law_657 (by decide) ?_
          refine lv_lshl (v := (v174.toInt64) <<< ((32 : Int32).toInt64 &&& 63)) hx hb d_law_659 rfl ?_
          refine lv_aload_n hx hb d_law_660 rfl (lv_at hl 1 rfl) ?_
          refine lv_iload hx hb d_law_661 (lv_at hl 5 rfl) ?_
          refine lv_iconst (v := 5) hx hb d_law_663 (by decide) ?_
          refine lv_iadd hx hb d_law_664 ?_
          obtain ⟨v176, e177, h⟩ := gb h
          refine gw_aldI hx hb hK hI e177 d_law_665 ?_
          refine lv_i2l (v := v176.toInt64) hx hb d_law_666 rfl ?_
          refine lv_ldc2 (v := 4294967295) hx hb hown (hT _ wd_1121 args) d_law_667 ?_
          refine lv_land hx hb d_law_670 ?_
          refine lv_lor hx hb d_law_671 ?_
          refine lv_aload_n hx hb d_law_672 rfl (lv_at hl 1 rfl) ?_
          refine lv_iload hx hb d_law_673 (lv_at hl 5 rfl) ?_
          refine lv_bipush (v := 6) hx hb d_law_675 (by decide) ?_
          refine lv_iadd hx hb d_law_677 ?_
          obtain ⟨v178, e179, h⟩ := gb h
          refine gw_aldI hx hb hK hI e179 d_law_678 ?_
          refine lv_i2l (v := v178.toInt64) hx hb d_law_679 rfl ?_
          refine lv_bipush (v := 32) hx hb d_law_680 (by decide) ?_
          refine lv_lshl (v := (v178.toInt64) <<< ((32 : Int32).toInt64 &&& 63)) hx hb d_law_682 rfl ?_
          refine lv_aload_n hx hb d_law_683 rfl (lv_at hl 1 rfl) ?_
          refine lv_iload hx hb d_law_684 (lv_at hl 5 rfl) ?_
          refine lv_bipush (v := 7) hx hb d_law_686 (by decide) ?_
          refine lv_iadd hx hb d_law_688 ?_
          obtain ⟨v180, e181, h⟩ := gb h
          refine gw_aldI hx hb hK hI e181 d_law_689 ?_
          refine lv_i2l (v := v180.toInt64) hx hb d_law_690 rfl ?_
          refine lv_ldc2 (v := 4294967295) hx hb hown (hT _ wd_1121 args) d_law_691 ?_
          refine lv_land hx hb d_law_694 ?_
          refine lv_lor hx hb d_law_695 ?_
          refine lv_aload_n hx hb d_law_696 rfl (lv_at hl 1 rfl) ?_
          refine lv_iload hx hb d_law_697 (lv_at hl 5 rfl) ?_
          refine lv_bipush (v := 8) hx hb d_law_699 (by decide) ?_
          refine lv_iadd hx hb d_law_701 ?_
          obtain ⟨v182, e183, h⟩ := gb h
          refine gw_aldI hx hb hK hI e183 d_law_702 ?_
          refine lv_i2l (v := v182.toInt64) hx hb d_law_703 rfl ?_
          refine lv_bipush (v := 32) hx hb d_law_704 (by decide) ?_
          refine lv_lshl (v := (v182.toInt64) <<< ((32 : Int32).toInt64 &&& 63)) hx hb d_law_706 rfl ?_
          refine lv_aload_n hx hb d_law_707 rfl (lv_at hl 1 rfl) ?_
          refine lv_iload hx hb d_law_708 (lv_at hl 5 rfl) ?_
          refine lv_bipush (v := 9) hx hb d_law_710 (by decide) ?_
          refine lv_iadd hx hb d_law_712 ?_
          obtain ⟨v184, e185, h⟩ := gb h
          refine gw_aldI hx hb hK hI e185 d_law_713 ?_
          refine lv_i2l (v := v184.toInt64) hx hb d_law_714 rfl ?_
          refine lv_ldc2 (v := 4294967295) hx hb hown (hT _ wd_1121 args) d_law_715 ?_
          refine lv_land hx hb d_law_718 ?_
          refine lv_lor hx hb d_law_719 ?_
          refine lv_aload_n hx hb d_law_720 rfl (lv_at hl 1 rfl) ?_
          refine lv_iload hx hb d_law_721 (lv_at hl 5 rfl) ?_
          refine lv_bipush (v := 10) hx hb d_law_723 (by decide) ?_
          refine lv_iadd hx hb d_law_725 ?_
          obtain ⟨v186, e187, h⟩ := gb h
          refine gw_aldI hx hb hK hI e187 d_law_726 ?_
          refine lv_i2l (v := v186.toInt64) hx hb d_law_727 rfl ?_
          refine lv_bipush (v := 32) hx hb d_law_728 (by decide) ?_
          refine lv_lshl (v := (v186.toInt64) <<< ((32 : Int32).toInt64 &&& 63)) hx hb d_law_730 rfl ?_
          refine lv_aload_n hx hb d_law_731 rfl (lv_at hl 1 rfl) ?_
          refine lv_iload hx hb d_law_732 (lv_at hl 5 rfl) ?_
          refine lv_bipush (v := 11) hx hb d_law_734 (by decide) ?_
          refine lv_iadd hx hb d_law_736 ?_
          obtain ⟨v188, e189, h⟩ := gb h
          refine gw_aldI hx hb hK hI e189 d_law_737 ?_
          refine lv_i2l (v := v188.toInt64) hx hb d_law_738 rfl ?_
          refine lv_ldc2 (v := 4294967295) hx hb hown (hT _ wd_1121 args) d_law_739 ?_
          refine lv_land hx hb d_law_742 ?_
          refine lv_lor hx hb d_law_743 ?_
          obtain ⟨q192, e193, h⟩ := gb h
          obtain ⟨u190, e191⟩ := gsome h
          refine gw_callI e191 h (gw_runV (As := [.int v168, .long (((v170.toInt64) <<< ((32 : Int32).toInt64 &&& 63)) ||| ((v172.toInt64) &&& 4294967295)), .long (((v174.toInt64) <<< ((32 : Int32).toInt64 &&& 63)) ||| ((v176.toInt64) &&& 4294967295)), .long (((v178.toInt64) <<< ((32 : Int32).toInt64 &&& 63)) ||| ((v180.toInt64) &&& 4294967295)), .long (((v182.toInt64) <<< ((32 : Int32).toInt64 &&& 63)) ||| ((v184.toInt64) &&& 4294967295)), .long (((v186.toInt64) <<< ((32 : Int32).toInt64 &&& 63)) ||| ((v188.toInt64) &&& 4294967295))]) (rest := []) hx hb hml hown hT hK hZ hA hI (ci := 7) rfl e193 (m_M_cylinder l hst D g0 o9 v168 (((v170.toInt64) <<< ((32 : Int32).toInt64 &&& 63)) ||| ((v172.toInt64) &&& 4294967295)) (((v174.toInt64) <<< ((32 : Int32).toInt64 &&& 63)) ||| ((v176.toInt64) &&& 4294967295)) (((v178.toInt64) <<< ((32 : Int32).toInt64 &&& 63)) ||| ((v180.toInt64) &&& 4294967295)) (((v182.toInt64) <<< ((32 : Int32).toInt64 &&& 63)) ||| ((v184.toInt64) &&& 4294967295)) (((v186.toInt64) <<< ((32 : Int32).toInt64 &&& 63)) ||| ((v188.toInt64) &&& 4294967295)) w u190 e191) ce_M_cylinder wd_906 wd_908 ⟨by decide, by decide⟩ rfl rfl hl.1 rfl (lv_room (Nat.le_of_ble_eq_true rfl)) d_law_744 ⟨(show ((16015 - (n + 1) * 31) + 11) + 0 ≤ 601024 by omega), (show ((905842 - (n + 1) * 1745) + 134) + 0 ≤ 7293000 by omega)⟩) hI hA hexc (show ((16015 - (n + 1) * 31) + 11) + 0 ≤ 601024 by omega) (show ((905842 - (n + 1) * 1745) + 134) + 0 ≤ 7293000 by omega) (fun v194 w H locs h hI => ?_)
          refine lv_istore (lv' := [(6, .int v194), (5, .int v167), (0, .ref a0), (1, .ref o1), (2, .ref o9), (3, .ref o17), (4, .int z51)]) hx hb d_law_747 hl (by decide) rfl (fun ls hl => ?_)
          refine lv_aload_n hx hb d_law_749 rfl (lv_at hl 4 rfl) ?_
          obtain ⟨q197, e198, h⟩ := gb h
          obtain ⟨u195, e196⟩ := gsome h
          refine gw_callI e196 h (gw_runV (As := []) (rest := []) hx hb hml hown hT hK hZ hA hI (ci := 7) rfl e198 (m_M_thrown l hst D g0 o9 w u195 e196) ce_M_thrown wd_868 wd_870 ⟨by decide, by decide⟩ rfl rfl hl.1 rfl (lv_room (Nat.le_of_ble_eq_true rfl)) d_law_750 ⟨(show ((16015 - (n + 1) * 31) + 11) + 0 ≤ 601024 by omega), (show ((905842 - (n + 1) * 1745) + 134) + 0 ≤ 7293000 by omega)⟩) hI hA hexc (show ((16015 - (n + 1) * 31) + 11) + 0 ≤ 601024 by omega) (show ((905842 - (n + 1) * 1745) + 134) + 0 ≤ 7293000 by omega) (fun v199 w H locs h hI => ?_)
          refine lv_iload hx hb d_law_753 (lv_at hl 1 rfl) ?_
          refine lv_icmp_eq (tgt := 760) hx hb d_law_755 (by decide) (fun c200 => ?_) (fun c200 => ?_)
          · skip
            have h := git c200 h
            refine lv_iload hx hb d_law_760 (lv_at hl 1 rfl) ?_
            obtain ⟨K784, eK784, h⟩ := gj h
            have hK784 : ∀ (w : gW) (H : Heap) (locs : List Loc) (ls : Array Slot), K784 w = some r → gI D s A w H locs → lv_has ls 8 [(0, .ref a0), (1, .ref o1), (2, .ref o9), (3, .ref o17), (4, .int z51)] → W p l e rm_law s m args below meth c H locs ((16015 - (n + 1) * 31) + 11) ((905842 - (n + 1) * 1745) + 134) Q (F0 m 784 ls []) := by
              intro w H locs ls h hI hl
              have h := gk1 eK784 h
              refine lv_goto (tgt := 2507) hx hb d_law_784 (by decide) ?_
              refine W.widen (k := ((16015 - (n + 1) * 31) + 31)) (n := ((905842 - (n + 1) * 1745) + 1745)) (show ((16015 - (n + 1) * 31) + 11) ≤ ((16015 - (n + 1) * 31) + 31) by omega) (show ((905842 - (n + 1) * 1745) + 134) ≤ ((905842 - (n + 1) * 1745) + 1745) by omega) ?_
              exact hK2507 w H locs ls h hI (lv_sub hl [0, 1, 2, 3, 4] rfl)
            refine lv_if_ne (tgt := 784) hx hb d_law_762 (by decide) (fun c201 => ?_) (fun c201 => ?_)
            · skip
              have h := gie c201 h
              exact hK784 w H locs ls h hI (lv_sub hl [2, 3, 4, 5, 6] rfl)
            · skip
              have h := git c201 h
              refine lv_aload_n hx hb d_law_765 rfl (lv_at hl 5 rfl) ?_
              refine lv_iconst (v := 0) hx hb d_law_766 (by decide) ?_
              obtain ⟨v202, e203, h⟩ := gb h
              refine gw_aldJ hx hb hK hI e203 d_law_767 ?_
              refine lv_iload hx hb d_law_768 (lv_at hl 0 rfl) ?_
              obtain ⟨K778, eK778, h⟩ := gj h
              have hK778 : ∀ (y204 : Int64) (w : gW) (H : Heap) (locs : List Loc) (ls : Array Slot), K778 y204 w = some r → gI D s A w H locs → lv_has ls 8 [(0, .ref a0), (1, .ref o1), (2, .ref o9), (3, .ref o17), (4, .int z51)] → W p l e rm_law s m args below meth c H locs ((16015 - (n + 1) * 31) + 11) ((905842 - (n + 1) * 1745) + 134) Q (F0 m 778 ls [.long y204, .long v202]) := by
                intro y204 w H locs ls h hI hl
                have h := gk2 eK778 h
                refine W.lcmp hx hb d_law_778 ?_
                refine lv_if_eq (tgt := 784) hx hb d_law_779 (by decide) (fun c205 => ?_) (fun c205 => ?_)
                · have c205 := (lg_cmp_eq _ _).mp c205
                  have h := git c205 h
                  exact hK784 w H locs ls h hI (lv_sub hl [0, 1, 2, 3, 4] rfl)
                · have c205 := mt (lg_cmp_eq _ _).mpr c205
                  have h := gie c205 h
                  refine W.widen (k := 16015) (n := 905842) (show ((16015 - (n + 1) * 31) + 11) ≤ 16015 by omega) (show ((905842 - (n + 1) * 1745) + 134) ≤ 905842 by omega) ?_
                  exact hK782 w H locs ls h hI (lv_sub hl [] rfl)
              refine lv_if_eq (tgt := 777) hx hb d_law_770 (by decide) (fun c206 => ?_) (fun c206 => ?_)
              · skip
                have h := git c206 h
                refine lv_lconst (v := 0) hx hb d_law_777 (by decide) ?_
                exact hK778 _ w H locs ls h hI (lv_sub hl [2, 3, 4, 5, 6] rfl)
              · skip
                have h := gie c206 h
                refine lv_lconst (v := 1) hx hb d_law_773 (by decide) ?_
                refine lv_goto (tgt := 778) hx hb d_law_774 (by decide) ?_
                exact hK778 _ w H locs ls h hI (lv_sub hl [2, 3, 4, 5, 6] rfl)
          · skip
            have h := gie c200 h
            refine W.widen (k := 16015) (n := 905842) (show ((16015 - (n + 1) * 31) + 11) ≤ 16015 by omega) (show ((905842 - (n + 1) * 1745) + 134) ≤ 905842 by omega) ?_
            exact hK758 w H locs ls h hI (lv_sub hl [] rfl)
        have h := gie c142 h
        rcases Decidable.em ((v55 &&& 31) = 3) with c207 | c207
        · have h := git c207 h
          refine lv_tableIn (off := 735) (tgt := 787) hx hb d_law_52 (by rw [c207]; decide) (by rw [c207]; decide) (by rw [c207]; decide) (by decide) ?_
          refine lv_aload_n hx hb d_law_787 rfl (lv_at hl 1 rfl) ?_
          refine lv_aload_n hx hb d_law_788 rfl (lv_at hl 0 rfl) ?_
          refine lv_iload hx hb d_law_789 (lv_at hl 4 rfl) ?_
          refine lv_iconst (v := 1) hx hb d_law_791 (by decide) ?_
          refine lv_iadd hx hb d_law_792 ?_
          obtain ⟨v208, e209, h⟩ := gb h
          refine gw_aldI hx hb hK hI e209 d_law_793 ?_
          refine lv_i2l (v := v208.toInt64) hx hb d_law_794 rfl ?_
          refine lv_bipush (v := 32) hx hb d_law_795 (by decide) ?_
          refine lv_lshl (v := (v208.toInt64) <<< ((32 : Int32).toInt64 &&& 63)) hx hb d_law_797 rfl ?_
          refine lv_aload_n hx hb d_law_798 rfl (lv_at hl 0 rfl) ?_
          refine lv_iload hx hb d_law_799 (lv_at hl 4 rfl) ?_
          refine lv_iconst (v := 2) hx hb d_law_801 (by decide) ?_
          refine lv_iadd hx hb d_law_802 ?_
          obtain ⟨v210, e211, h⟩ := gb h
          refine gw_aldI hx hb hK hI e211 d_law_803 ?_
          refine lv_i2l (v := v210.toInt64) hx hb d_law_804 rfl ?_
          refine lv_ldc2 (v := 4294967295) hx hb hown (hT _ wd_1121 args) d_law_805 ?_
          refine lv_land hx hb d_law_808 ?_
          refine lv_lor hx hb d_law_809 ?_
          refine lv_aload_n hx hb d_law_810 rfl (lv_at hl 0 rfl) ?_
          refine lv_iload hx hb d_law_811 (lv_at hl 4 rfl) ?_
          refine lv_iconst (v := 3) hx hb d_law_813 (by decide) ?_
          refine lv_iadd hx hb d_law_814 ?_
          obtain ⟨v212, e213, h⟩ := gb h
          refine gw_aldI hx hb hK hI e213 d_law_815 ?_
          refine lv_i2l (v := v212.toInt64) hx hb d_law_816 rfl ?_
          refine lv_bipush (v := 32) hx hb d_law_817 (by decide) ?_
          refine lv_lshl (v := (v212.toInt64) <<< ((32 : Int32).toInt64 &&& 63)) hx hb d_law_819 rfl ?_
          refine lv_aload_n hx hb d_law_820 rfl (lv_at hl 0 rfl) ?_
          refine lv_iload hx hb d_law_821 (lv_at hl 4 rfl) ?_
          refine lv_iconst (v := 4) hx hb d_law_823 (by decide) ?_
          refine lv_iadd hx hb d_law_824 ?_
          obtain ⟨v214, e215, h⟩ := gb h
          refine gw_aldI hx hb hK hI e215 d_law_825 ?_
          refine lv_i2l (v := v214.toInt64) hx hb d_law_826 rfl ?_
          refine lv_ldc2 (v := 4294967295) hx hb hown (hT _ wd_1121 args) d_law_827 ?_
          refine lv_land hx hb d_law_830 ?_
          refine lv_lor hx hb d_law_831 ?_
          refine lv_aload_n hx hb d_law_832 rfl (lv_at hl 3 rfl) ?_
          obtain ⟨u216, e217⟩ := gsome h
          refine gw_callI e217 h (gw_runS (As := [.ref o1, .long (((v208.toInt64) <<< ((32 : Int32).toInt64 &&& 63)) ||| ((v210.toInt64) &&& 4294967295)), .long (((v212.toInt64) <<< ((32 : Int32).toInt64 &&& 63)) ||| ((v214.toInt64) &&& 4294967295)), .ref o17]) (rest := []) hx hb hml hown hT hK hZ hA hI (m_W_corner l hst D g0 o1 (((v208.toInt64) <<< ((32 : Int32).toInt64 &&& 63)) ||| ((v210.toInt64) &&& 4294967295)) (((v212.toInt64) <<< ((32 : Int32).toInt64 &&& 63)) ||| ((v214.toInt64) &&& 4294967295)) o17 w u216 e217) ce_W_corner wd_577 ⟨by decide, by decide⟩ rfl rfl hl.1 rfl (lv_room (Nat.le_of_ble_eq_true rfl)) d_law_833 ⟨(show (16015 - (n + 1) * 31) + 2 ≤ 601024 by omega), (show (905842 - (n + 1) * 1745) + 12 ≤ 7293000 by omega)⟩) hI hA hexc (show (16015 - (n + 1) * 31) + 2 ≤ 601024 by omega) (show (905842 - (n + 1) * 1745) + 12 ≤ 7293000 by omega) (fun v218 w H locs h hI => ?_)
          refine W.widen (k := ((16015 - (n + 1) * 31) + 2)) (n := ((905842 - (n + 1) * 1745) + 12)) (show (16015 - (n + 1) * 31) + 2 ≤ ((16015 - (n + 1) * 31) + 2) by omega) (show (905842 - (n + 1) * 1745) + 12 ≤ ((905842 - (n + 1) * 1745) + 12) by omega) ?_
          refine lv_istore (lv' := [(5, .int v218), (0, .ref a0), (1, .ref o1), (2, .ref o9), (3, .ref o17), (4, .int z51)]) hx hb d_law_836 hl (by decide) rfl (fun ls hl => ?_)
          refine lv_aload_n hx hb d_law_838 rfl (lv_at hl 3 rfl) ?_
          refine lv_aload_n hx hb d_law_839 rfl (lv_at hl 1 rfl) ?_
          refine lv_iload hx hb d_law_840 (lv_at hl 5 rfl) ?_
          refine lv_iconst (v := 1) hx hb d_law_842 (by decide) ?_
          refine lv_iadd hx hb d_law_843 ?_
          obtain ⟨v219, e220, h⟩ := gb h
          refine gw_aldI hx hb hK hI e220 d_law_844 ?_
          refine lv_i2l (v := v219.toInt64) hx hb d_law_845 rfl ?_
          refine lv_bipush (v := 32) hx hb d_law_846 (by decide) ?_
          refine lv_lshl (v := (v219.toInt64) <<< ((32 : Int32).toInt64 &&& 63)) hx hb d_law_848 rfl ?_
          refine lv_aload_n hx hb d_law_849 rfl (lv_at hl 1 rfl) ?_
          refine lv_iload hx hb d_law_850 (lv_at hl 5 rfl) ?_
          refine lv_iconst (v := 2) hx hb d_law_852 (by decide) ?_
          refine lv_iadd hx hb d_law_853 ?_
          obtain ⟨v221, e222, h⟩ := gb h
          refine gw_aldI hx hb hK hI e222 d_law_854 ?_
          refine lv_i2l (v := v221.toInt64) hx hb d_law_855 rfl ?_
          refine lv_ldc2 (v := 4294967295) hx hb hown (hT _ wd_1121 args) d_law_856 ?_
          refine lv_land hx hb d_law_859 ?_
          refine lv_lor hx hb d_law_860 ?_
          refine lv_aload_n hx hb d_law_861 rfl (lv_at hl 1 rfl) ?_
          refine lv_iload hx hb d_law_862 (lv_at hl 5 rfl) ?_
          refine lv_iconst (v := 3) hx hb d_law_864 (by decide) ?_
          refine lv_iadd hx hb d_law_865 ?_
          obtain ⟨v223, e224, h⟩ := gb h
          refine gw_aldI hx hb hK hI e224 d_law_866 ?_
          refine lv_i2l (v := v223.toInt64) hx hb d_law_867 rfl ?_
          refine lv_bipush (v := 32) hx hb d_law_868 (by decide) ?_
          refine lv_lshl (v := (v223.toInt64) <<< ((32 : Int32).toInt64 &&& 63)) hx hb d_law_870 rfl ?_
          refine lv_aload_n hx hb d_law_871 rfl (lv_at hl 1 rfl) ?_
          refine lv_iload hx hb d_law_872 (lv_at hl 5 rfl) ?_
          refine lv_iconst (v := 4) hx hb d_law_874 (by decide) ?_
          refine lv_iadd hx hb d_law_875 ?_
          obtain ⟨v225, e226, h⟩ := gb h
          refine gw_aldI hx hb hK hI e226 d_law_876 ?_
          refine lv_i2l (v := v225.toInt64) hx hb d_law_877 rfl ?_
          refine lv_ldc2 (v := 4294967295) hx hb hown (hT _ wd_1121 args) d_law_878 ?_
          refine lv_land hx hb d_law_881 ?_
          refine lv_lor hx hb d_law_882 ?_
          obtain ⟨q229, e230, h⟩ := gb h
          obtain ⟨u227, e228⟩ := gsome h
          refine gw_callI e228 h (gw_runV (As := [.long (((v219.toInt64) <<< ((32 : Int32).toInt64 &&& 63)) ||| ((v221.toInt64) &&& 4294967295)), .long (((v223.toInt64) <<< ((32 : Int32).toInt64 &&& 63)) ||| ((v225.toInt64) &&& 4294967295))]) (rest := []) hx hb hml hown hT hK hZ hA hI (ci := 7) rfl e230 (m_M_corner l hst D g0 o9 (((v219.toInt64) <<< ((32 : Int32).toInt64 &&& 63)) ||| ((v221.toInt64) &&& 4294967295)) (((v223.toInt64) <<< ((32 : Int32).toInt64 &&& 63)) ||| ((v225.toInt64) &&& 4294967295)) w u227 e228) ce_M_corner wd_910 wd_912 ⟨by decide, by decide⟩ rfl rfl hl.1 rfl (lv_room (Nat.le_of_ble_eq_true rfl)) d_law_883 ⟨(show ((16015 - (n + 1) * 31) + 2) + 0 ≤ 601024 by omega), (show ((905842 - (n + 1) * 1745) + 12) + 0 ≤ 7293000 by omega)⟩) hI hA hexc (show ((16015 - (n + 1) * 31) + 2) + 0 ≤ 601024 by omega) (show ((905842 - (n + 1) * 1745) + 12) + 0 ≤ 7293000 by omega) (fun v231 w H locs h hI => ?_)
          refine lv_istore (lv' := [(6, .int v231), (5, .int v218), (0, .ref a0), (1, .ref o1), (2, .ref o9), (3, .ref o17), (4, .int z51)]) hx hb d_law_886 hl (by decide) rfl (fun ls hl => ?_)
          refine lv_aload_n hx hb d_law_888 rfl (lv_at hl 4 rfl) ?_
          obtain ⟨q234, e235, h⟩ := gb h
          obtain ⟨u232, e233⟩ := gsome h
          refine gw_callI e233 h (gw_runV (As := []) (rest := []) hx hb hml hown hT hK hZ hA hI (ci := 7) rfl e235 (m_M_thrown l hst D g0 o9 w u232 e233) ce_M_thrown wd_868 wd_870 ⟨by decide, by decide⟩ rfl rfl hl.1 rfl (lv_room (Nat.le_of_ble_eq_true rfl)) d_law_889 ⟨(show ((16015 - (n + 1) * 31) + 2) + 0 ≤ 601024 by omega), (show ((905842 - (n + 1) * 1745) + 12) + 0 ≤ 7293000 by omega)⟩) hI hA hexc (show ((16015 - (n + 1) * 31) + 2) + 0 ≤ 601024 by omega) (show ((905842 - (n + 1) * 1745) + 12) + 0 ≤ 7293000 by omega) (fun v236 w H locs h hI => ?_)
          refine lv_iload hx hb d_law_892 (lv_at hl 1 rfl) ?_
          refine lv_icmp_eq (tgt := 899) hx hb d_law_894 (by decide) (fun c237 => ?_) (fun c237 => ?_)
          · skip
            have h := git c237 h
            refine lv_iload hx hb d_law_899 (lv_at hl 1 rfl) ?_
            obtain ⟨K923, eK923, h⟩ := gj h
            have hK923 : ∀ (w : gW) (H : Heap) (locs : List Loc) (ls : Array Slot), K923 w = some r → gI D s A w H locs → lv_has ls 8 [(0, .ref a0), (1, .ref o1), (2, .ref o9), (3, .ref o17), (4, .int z51)] → W p l e rm_law s m args below meth c H locs ((16015 - (n + 1) * 31) + 2) ((905842 - (n + 1) * 1745) + 12) Q (F0 m 923 ls []) := by
              intro w H locs ls h hI hl
              have h := gk1 eK923 h
              refine lv_goto (tgt := 2507) hx hb d_law_923 (by decide) ?_
              refine W.widen (k := ((16015 - (n + 1) * 31) + 31)) (n := ((905842 - (n + 1) * 1745) + 1745)) (show ((16015 - (n + 1) * 31) + 2) ≤ ((16015 - (n + 1) * 31) + 31) by omega) (show ((905842 - (n + 1) * 1745) + 12) ≤ ((905842 - (n + 1) * 1745) + 1745) by omega) ?_
              exact hK2507 w H locs ls h hI (lv_sub hl [0, 1, 2, 3, 4] rfl)
            refine lv_if_ne (tgt := 923) hx hb d_law_901 (by decide) (fun c238 => ?_) (fun c238 => ?_)
            · skip
              have h := gie c238 h
              exact hK923 w H locs ls h hI (lv_sub hl [2, 3, 4, 5, 6] rfl)
            · skip
              have h := git c238 h
              refine lv_aload_n hx hb d_law_904 rfl (lv_at hl 5 rfl) ?_
              refine lv_iconst (v := 0) hx hb d_law_905 (by decide) ?_
              obtain ⟨v239, e240, h⟩ := gb h
              refine gw_aldJ hx hb hK hI e240 d_law_906 ?_
              refine lv_iload hx hb d_law_907 (lv_at hl 0 rfl) ?_
              obtain ⟨K917, eK917, h⟩ := gj h
              have hK917 : ∀ (y241 : Int64) (w : gW) (H : Heap) (locs : List Loc) (ls : Array Slot), K917 y241 w = some r → gI D s A w H locs → lv_has ls 8 [(0, .ref a0), (1, .ref o1), (2, .ref o9), (3, .ref o17), (4, .int z51)] → W p l e rm_law s m args below meth c H locs ((16015 - (n + 1) * 31) + 2) ((905842 - (n + 1) * 1745) + 12) Q (F0 m 917 ls [.long y241, .long v239]) := by
                intro y241 w H locs ls h hI hl
                have h := gk2 eK917 h
                refine W.lcmp hx hb d_law_917 ?_
                refine lv_if_eq (tgt := 923) hx hb d_law_918 (by decide) (fun c242 => ?_) (fun c242 => ?_)
                · have c242 := (lg_cmp_eq _ _).mp c242
                  have h := git c242 h
                  exact hK923 w H locs ls h hI (lv_sub hl [0, 1, 2, 3, 4] rfl)
                · have c242 := mt (lg_cmp_eq _ _).mpr c242
                  have h := gie c242 h
                  refine W.widen (k := 16015) (n := 905842) (show ((16015 - (n + 1) * 31) + 2) ≤ 16015 by omega) (show ((905842 - (n + 1) * 1745) + 12) ≤ 905842 by omega) ?_
                  exact hK921 w H locs ls h hI (lv_sub hl [] rfl)
              refine lv_if_eq (tgt := 916) hx hb d_law_909 (by decide) (fun c243 => ?_) (fun c243 => ?_)
              · skip
                have h := git c243 h
                refine lv_lconst (v := 0) hx hb d_law_916 (by decide) ?_
                exact hK917 _ w H locs ls h hI (lv_sub hl [2, 3, 4, 5, 6] rfl)
              · skip
                have h := gie c243 h
                refine lv_lconst (v := 1) hx hb d_law_912 (by decide) ?_
                refine lv_goto (tgt := 917) hx hb d_law_913 (by decide) ?_
                exact hK917 _ w H locs ls h hI (lv_sub hl [2, 3, 4, 5, 6] rfl)
          · skip
            have h := gie c237 h
            refine W.widen (k := 16015) (n := 905842) (show ((16015 - (n + 1) * 31) + 2) ≤ 16015 by omega) (show ((905842 - (n + 1) * 1745) + 12) ≤ 905842 by omega) ?_
            exact hK897 w H locs ls h hI (lv_sub hl [] rfl)
        have h := gie c207 h
        rcases Decidable.em ((v55 &&& 31) = 4) with c244 | c244
        · have h := git c244 h
          refine lv_tableIn (off := 874) (tgt := 926) hx hb d_law_52 (by rw [c244]; decide) (by rw [c244]; decide) (by rw [c244]; decide) (by decide) ?_
          refine lv_aload_n hx hb d_law_926 rfl (lv_at hl 1 rfl) ?_
          refine lv_aload_n hx hb d_law_927 rfl (lv_at hl 0 rfl) ?_
          refine lv_iload hx hb d_law_928 (lv_at hl 4 rfl) ?_
          refine lv_iconst (v := 1) hx hb d_law_930 (by decide) ?_
          refine lv_iadd hx hb d_law_931 ?_
          obtain ⟨v245, e246, h⟩ := gb h
          refine gw_aldI hx hb hK hI e246 d_law_932 ?_
          refine lv_aload_n hx hb d_law_933 rfl (lv_at hl 0 rfl) ?_
          refine lv_iload hx hb d_law_934 (lv_at hl 4 rfl) ?_
          refine lv_iconst (v := 2) hx hb d_law_936 (by decide) ?_
          refine lv_iadd hx hb d_law_937 ?_
          obtain ⟨v247, e248, h⟩ := gb h
          refine gw_aldI hx hb hK hI e248 d_law_938 ?_
          refine lv_i2l (v := v247.toInt64) hx hb d_law_939 rfl ?_
          refine lv_bipush (v := 32) hx hb d_law_940 (by decide) ?_
          refine lv_lshl (v := (v247.toInt64) <<< ((32 : Int32).toInt64 &&& 63)) hx hb d_law_942 rfl ?_
          refine lv_aload_n hx hb d_law_943 rfl (lv_at hl 0 rfl) ?_
          refine lv_iload hx hb d_law_944 (lv_at hl 4 rfl) ?_
          refine lv_iconst (v := 3) hx hb d_law_946 (by decide) ?_
          refine lv_iadd hx hb d_law_947 ?_
          obtain ⟨v249, e250, h⟩ := gb h
          refine gw_aldI hx hb hK hI e250 d_law_948 ?_
          refine lv_i2l (v := v249.toInt64) hx hb d_law_949 rfl ?_
          refine lv_ldc2 (v := 4294967295) hx hb hown (hT _ wd_1121 args) d_law_950 ?_
          refine lv_land hx hb d_law_953 ?_
          refine lv_lor hx hb d_law_954 ?_
          refine lv_aload_n hx hb d_law_955 rfl (lv_at hl 0 rfl) ?_
          refine lv_iload hx hb d_law_956 (lv_at hl 4 rfl) ?_
          refine lv_iconst (v := 4) hx hb d_law_958 (by decide) ?_
          refine lv_iadd hx hb d_law_959 ?_
          obtain ⟨v251, e252, h⟩ := gb h
          refine gw_aldI hx hb hK hI e252 d_law_960 ?_
          refine lv_i2l (v := v251.toInt64) hx hb d_law_961 rfl ?_
          refine lv_bipush (v := 32) hx hb d_law_962 (by decide) ?_
          refine lv_lshl (v := (v251.toInt64) <<< ((32 : Int32).toInt64 &&& 63)) hx hb d_law_964 rfl ?_
          refine lv_aload_n hx hb d_law_965 rfl (lv_at hl 0 rfl) ?_
          refine lv_iload hx hb d_law_966 (lv_at hl 4 rfl) ?_
          refine lv_iconst (v := 5) hx hb d_law_968 (by decide) ?_
          refine lv_iadd hx hb d_law_969 ?_
          obtain ⟨v253, e254, h⟩ := gb h
          refine gw_aldI hx hb hK hI e254 d_law_970 ?_
          refine lv_i2l (v := v253.toInt64) hx hb d_law_971 rfl ?_
          refine lv_ldc2 (v := 4294967295) hx hb hown (hT _ wd_1121 args) d_law_972 ?_
          refine lv_land hx hb d_law_975 ?_
          refine lv_lor hx hb d_law_976 ?_
          refine lv_aload_n hx hb d_law_977 rfl (lv_at hl 3 rfl) ?_
          obtain ⟨u255, e256⟩ := gsome h
          refine gw_callI e256 h (gw_runS (As := [.ref o1, .int v245, .long (((v247.toInt64) <<< ((32 : Int32).toInt64 &&& 63)) ||| ((v249.toInt64) &&& 4294967295)), .long (((v251.toInt64) <<< ((32 : Int32).toInt64 &&& 63)) ||| ((v253.toInt64) &&& 4294967295)), .ref o17]) (rest := []) hx hb hml hown hT hK hZ hA hI (m_W_prism l hst D g0 o1 v245 (((v247.toInt64) <<< ((32 : Int32).toInt64 &&& 63)) ||| ((v249.toInt64) &&& 4294967295)) (((v251.toInt64) <<< ((32 : Int32).toInt64 &&& 63)) ||| ((v253.toInt64) &&& 4294967295)) o17 w u255 e256) ce_W_prism wd_584 ⟨by decide, by decide⟩ rfl rfl hl.1 rfl (lv_room (Nat.le_of_ble_eq_true rfl)) d_law_978 ⟨(show (16015 - (n + 1) * 31) + 8 ≤ 601024 by omega), (show (905842 - (n + 1) * 1745) + 116 ≤ 7293000 by omega)⟩) hI hA hexc (show (16015 - (n + 1) * 31) + 8 ≤ 601024 by omega) (show (905842 - (n + 1) * 1745) + 116 ≤ 7293000 by omega) (fun v257 w H locs h hI => ?_)
          refine W.widen (k := ((16015 - (n + 1) * 31) + 8)) (n := ((905842 - (n + 1) * 1745) + 116)) (show (16015 - (n + 1) * 31) + 8 ≤ ((16015 - (n + 1) * 31) + 8) by omega) (show (905842 - (n + 1) * 1745) + 116 ≤ ((905842 - (n + 1) * 1745) + 116) by omega) ?_
          refine lv_istore (lv' := [(5, .int v257), (0, .ref a0), (1, .ref o1), (2, .ref o9), (3, .ref o17), (4, .int z51)]) hx hb d_law_981 hl (by decide) rfl (fun ls hl => ?_)
          refine lv_aload_n hx hb d_law_983 rfl (lv_at hl 3 rfl) ?_
          refine lv_aload_n hx hb d_law_984 rfl (lv_at hl 1 rfl) ?_
          refine lv_iload hx hb d_law_985 (lv_at hl 5 rfl) ?_
          refine lv_iconst (v := 1) hx hb d_law_987 (by decide) ?_
          refine lv_iadd hx hb d_law_988 ?_
          obtain ⟨v258, e259, h⟩ := gb h
          refine gw_aldI hx hb hK hI e259 d_law_989 ?_
          refine lv_aload_n hx hb d_law_990 rfl (lv_at hl 1 rfl) ?_
          refine lv_iload hx hb d_law_991 (lv_at hl 5 rfl) ?_
          refine lv_iconst (v := 2) hx hb d_law_993 (by decide) ?_
          refine lv_iadd hx hb d_law_994 ?_
          obtain ⟨v260, e261, h⟩ := gb h
          refine gw_aldI hx hb hK hI e261 d_law_995 ?_
          refine lv_i2l (v := v260.toInt64) hx hb d_law_996 rfl ?_
          refine lv_bipush (v := 32) hx hb d_law_997 (by decide) ?_
          refine lv_lshl (v := (v260.toInt64) <<< ((32 : Int32).toInt64 &&& 63)) hx hb d_law_999 rfl ?_
          refine lv_aload_n hx hb d_law_1000 rfl (lv_at hl 1 rfl) ?_
          refine lv_iload hx hb d_law_1001 (lv_at hl 5 rfl) ?_
          refine lv_iconst (v := 3) hx hb d_law_1003 (by decide) ?_
          refine lv_iadd hx hb d_law_1004 ?_
          obtain ⟨v262, e263, h⟩ := gb h
          refine gw_aldI hx hb hK hI e263 d_law_1005 ?_
          refine lv_i2l (v := v262.toInt64) hx hb d_law_1006 rfl ?_
          refine lv_ldc2 (v := 4294967295) hx hb hown (hT _ wd_1121 args) d_law_1007 ?_
          refine lv_land hx hb d_law_1010 ?_
          refine lv_lor hx hb d_law_1011 ?_
          refine lv_aload_n hx hb d_law_1012 rfl (lv_at hl 1 rfl) ?_
          refine lv_iload hx hb d_law_1013 (lv_at hl 5 rfl) ?_
          refine lv_iconst (v := 4) hx hb d_law_1015 (by decide) ?_
          refine lv_iadd hx hb d_law_1016 ?_
          obtain ⟨v264, e265, h⟩ := gb h
          refine gw_aldI hx hb hK hI e265 d_law_1017 ?_
          refine lv_i2l (v := v264.toInt64) hx hb d_law_1018 rfl ?_
          refine lv_bipush (v := 32) hx hb d_law_1019 (by decide) ?_
          refine lv_lshl (v := (v264.toInt64) <<< ((32 : Int32).toInt64 &&& 63)) hx hb d_law_1021 rfl ?_
          refine lv_aload_n hx hb d_law_1022 rfl (lv_at hl 1 rfl) ?_
          refine lv_iload hx hb d_law_1023 (lv_at hl 5 rfl) ?_
          refine lv_iconst (v := 5) hx hb d_law_1025 (by decide) ?_
          refine lv_iadd hx hb d_law_1026 ?_
          obtain ⟨v266, e267, h⟩ := gb h
          refine gw_aldI hx hb hK hI e267 d_law_1027 ?_
          refine lv_i2l (v := v266.toInt64) hx hb d_law_1028 rfl ?_
          refine lv_ldc2 (v := 4294967295) hx hb hown (hT _ wd_1121 args) d_law_1029 ?_
          refine lv_land hx hb d_law_1032 ?_
          refine lv_lor hx hb d_law_1033 ?_
          obtain ⟨q270, e271, h⟩ := gb h
          obtain ⟨u268, e269⟩ := gsome h
          refine gw_callI e269 h (gw_runV (As := [.int v258, .long (((v260.toInt64) <<< ((32 : Int32).toInt64 &&& 63)) ||| ((v262.toInt64) &&& 4294967295)), .long (((v264.toInt64) <<< ((32 : Int32).toInt64 &&& 63)) ||| ((v266.toInt64) &&& 4294967295))]) (rest := []) hx hb hml hown hT hK hZ hA hI (ci := 7) rfl e271 (m_M_prism l hst D g0 o9 v258 (((v260.toInt64) <<< ((32 : Int32).toInt64 &&& 63)) ||| ((v262.toInt64) &&& 4294967295)) (((v264.toInt64) <<< ((32 : Int32).toInt64 &&& 63)) ||| ((v266.toInt64) &&& 4294967295)) w u268 e269) ce_M_prism wd_914 wd_916 ⟨by decide, by decide⟩ rfl rfl hl.1 rfl (lv_room (Nat.le_of_ble_eq_true rfl)) d_law_1034 ⟨(show ((16015 - (n + 1) * 31) + 8) + 0 ≤ 601024 by omega), (show ((905842 - (n + 1) * 1745) + 116) + 0 ≤ 7293000 by omega)⟩) hI hA hexc (show ((16015 - (n + 1) * 31) + 8) + 0 ≤ 601024 by omega) (show ((905842 - (n + 1) * 1745) + 116) + 0 ≤ 7293000 by omega) (fun v272 w H locs h hI => ?_)
          refine lv_istore (lv' := [(6, .int v272), (5, .int v257), (0, .ref a0), (1, .ref o1), (2, .ref o9), (3, .ref o17), (4, .int z51)]) hx hb d_law_1037 hl (by decide) rfl (fun ls hl => ?_)
          refine lv_aload_n hx hb d_law_1039 rfl (lv_at hl 4 rfl) ?_
          obtain ⟨q275, e276, h⟩ := gb h
          obtain ⟨u273, e274⟩ := gsome h
          refine gw_callI e274 h (gw_runV (As := []) (rest := []) hx hb hml hown hT hK hZ hA hI (ci := 7) rfl e276 (m_M_thrown l hst D g0 o9 w u273 e274) ce_M_thrown wd_868 wd_870 ⟨by decide, by decide⟩ rfl rfl hl.1 rfl (lv_room (Nat.le_of_ble_eq_true rfl)) d_law_1040 ⟨(show ((16015 - (n + 1) * 31) + 8) + 0 ≤ 601024 by omega), (show ((905842 - (n + 1) * 1745) + 116) + 0 ≤ 7293000 by omega)⟩) hI hA hexc (show ((16015 - (n + 1) * 31) + 8) + 0 ≤ 601024 by omega) (show ((905842 - (n + 1) * 1745) + 116) + 0 ≤ 7293000 by omega) (fun v277 w H locs h hI => ?_)
          refine lv_iload hx hb d_law_1043 (lv_at hl 1 rfl) ?_
          refine lv_icmp_eq (tgt := 1050) hx hb d_law_1045 (by decide) (fun c278 => ?_) (fun c278 => ?_)
          · skip
            have h := git c278 h
            refine lv_iload hx hb d_law_1050 (lv_at hl 1 rfl) ?_
            obtain ⟨K1074, eK1074, h⟩ := gj h
            have hK1074 : ∀ (w : gW) (H : Heap) (locs : List Loc) (ls : Array Slot), K1074 w = some r → gI D s A w H locs → lv_has ls 8 [(0, .ref a0), (1, .ref o1), (2, .ref o9), (3, .ref o17), (4, .int z51)] → W p l e rm_law s m args below meth c H locs ((16015 - (n + 1) * 31) + 8) ((905842 - (n + 1) * 1745) + 116) Q (F0 m 1074 ls []) := by
              intro w H locs ls h hI hl
              have h := gk1 eK1074 h
              refine lv_goto (tgt := 2507) hx hb d_law_1074 (by decide) ?_
              refine W.widen (k := ((16015 - (n + 1) * 31) + 31)) (n := ((905842 - (n + 1) * 1745) + 1745)) (show ((16015 - (n + 1) * 31) + 8) ≤ ((16015 - (n + 1) * 31) + 31) by omega) (show ((905842 - (n + 1) * 1745) + 116) ≤ ((905842 - (n + 1) * 1745) + 1745) by omega) ?_
              exact hK2507 w H locs ls h hI (lv_sub hl [0, 1, 2, 3, 4] rfl)
            refine lv_if_ne (tgt := 1074) hx hb d_law_1052 (by decide) (fun c279 => ?_) (fun c279 => ?_)
            · skip
              have h := gie c279 h
              exact hK1074 w H locs ls h hI (lv_sub hl [2, 3, 4, 5, 6] rfl)
            · skip
              have h := git c279 h
              refine lv_aload_n hx hb d_law_1055 rfl (lv_at hl 5 rfl) ?_
              refine lv_iconst (v := 0) hx hb d_law_1056 (by decide) ?_
              obtain ⟨v280, e281, h⟩ := gb h
              refine gw_aldJ hx hb hK hI e281 d_law_1057 ?_
              refine lv_iload hx hb d_law_1058 (lv_at hl 0 rfl) ?_
              obtain ⟨K1068, eK1068, h⟩ := gj h
              have hK1068 : ∀ (y282 : Int64) (w : gW) (H : Heap) (locs : List Loc) (ls : Array Slot), K1068 y282 w = some r → gI D s A w H locs → lv_has ls 8 [(0, .ref a0), (1, .ref o1), (2, .ref o9), (3, .ref o17), (4, .int z51)] → W p l e rm_law s m args below meth c H locs ((16015 - (n + 1) * 31) + 8) ((905842 - (n + 1) * 1745) + 116) Q (F0 m 1068 ls [.long y282, .long v280]) := by
                intro y282 w H locs ls h hI hl
                have h := gk2 eK1068 h
                refine W.lcmp hx hb d_law_1068 ?_
                refine lv_if_eq (tgt := 1074) hx hb d_law_1069 (by decide) (fun c283 => ?_) (fun c283 => ?_)
                · have c283 := (lg_cmp_eq _ _).mp c283
                  have h := git c283 h
                  exact hK1074 w H locs ls h hI (lv_sub hl [0, 1, 2, 3, 4] rfl)
                · have c283 := mt (lg_cmp_eq _ _).mpr c283
                  have h := gie c283 h
                  refine W.widen (k := 16015) (n := 905842) (show ((16015 - (n + 1) * 31) + 8) ≤ 16015 by omega) (show ((905842 - (n + 1) * 1745) + 116) ≤ 905842 by omega) ?_
                  exact hK1072 w H locs ls h hI (lv_sub hl [] rfl)
              refine lv_if_eq (tgt := 1067) hx hb d_law_1060 (by decide) (fun c284 => ?_) (fun c284 => ?_)
              · skip
                have h := git c284 h
                refine lv_lconst (v := 0) hx hb d_law_1067 (by decide) ?_
                exact hK1068 _ w H locs ls h hI (lv_sub hl [2, 3, 4, 5, 6] rfl)
              · skip
                have h := gie c284 h
                refine lv_lconst (v := 1) hx hb d_law_1063 (by decide) ?_
                refine lv_goto (tgt := 1068) hx hb d_law_1064 (by decide) ?_
                exact hK1068 _ w H locs ls h hI (lv_sub hl [2, 3, 4, 5, 6] rfl)
          · skip
            have h := gie c278 h
            refine W.widen (k := 16015) (n := 905842) (show ((16015 - (n + 1) * 31) + 8) ≤ 16015 by omega) (show ((905842 - (n + 1) * 1745) + 116) ≤ 905842 by omega) ?_
            exact hK1048 w H locs ls h hI (lv_sub hl [] rfl)
        have h := gie c244 h
        rcases Decidable.em ((v55 &&& 31) = 5) with c285 | c285
        · have h := git c285 h
          refine lv_tableIn (off := 1025) (tgt := 1077) hx hb d_law_52 (by rw [c285]; decide) (by rw [c285]; decide) (by rw [c285]; decide) (by decide) ?_
          refine lv_aload_n hx hb d_law_1077 rfl (lv_at hl 1 rfl) ?_
          refine lv_aload_n hx hb d_law_1078 rfl (lv_at hl 0 rfl) ?_
          refine lv_iload hx hb d_law_1079 (lv_at hl 4 rfl) ?_
          refine lv_iconst (v := 1) hx hb d_law_1081 (by decide) ?_
          refine lv_iadd hx hb d_law_1082 ?_
          obtain ⟨v286, e287, h⟩ := gb h
          refine gw_aldI hx hb hK hI e287 d_law_1083 ?_
          refine lv_aload_n hx hb d_law_1084 rfl (lv_at hl 0 rfl) ?_
          refine lv_iload hx hb d_law_1085 (lv_at hl 4 rfl) ?_
          refine lv_iconst (v := 2) hx hb d_law_1087 (by decide) ?_
          refine lv_iadd hx hb d_law_1088 ?_
          obtain ⟨v288, e289, h⟩ := gb h
          refine gw_aldI hx hb hK hI e289 d_law_1089 ?_
          refine lv_i2l (v := v288.toInt64) hx hb d_law_1090 rfl ?_
          refine lv_bipush (v := 32) hx hb d_law_1091 (by decide) ?_
          refine lv_lshl (v := (v288.toInt64) <<< ((32 : Int32).toInt64 &&& 63)) hx hb d_law_1093 rfl ?_
          refine lv_aload_n hx hb d_law_1094 rfl (lv_at hl 0 rfl) ?_
          refine lv_iload hx hb d_law_1095 (lv_at hl 4 rfl) ?_
          refine lv_iconst (v := 3) hx hb d_law_1097 (by decide) ?_
          refine lv_iadd hx hb d_law_1098 ?_
          obtain ⟨v290, e291, h⟩ := gb h
          refine gw_aldI hx hb hK hI e291 d_law_1099 ?_
          refine lv_i2l (v := v290.toInt64) hx hb d_law_1100 rfl ?_
          refine lv_ldc2 (v := 4294967295) hx hb hown (hT _ wd_1121 args) d_law_1101 ?_
          refine lv_land hx hb d_law_1104 ?_
          refine lv_lor hx hb d_law_1105 ?_
          refine lv_aload_n hx hb d_law_1106 rfl (lv_at hl 0 rfl) ?_
          refine lv_iload hx hb d_law_1107 (lv_at hl 4 rfl) ?_
          refine lv_iconst (v := 4) hx hb d_law_1109 (by decide) ?_
          refine lv_iadd hx hb d_law_1110 ?_
          obtain ⟨v292, e293, h⟩ := gb h
          refine gw_aldI hx hb hK hI e293 d_law_1111 ?_
          refine lv_i2l (v := v292.toInt64) hx hb d_law_1112 rfl ?_
          refine lv_bipush (v := 32) hx hb d_law_1113 (by decide) ?_
          refine lv_lshl (v := (v292.toInt64) <<< ((32 : Int32).toInt64 &&& 63)) hx hb d_law_1115 rfl ?_
          refine lv_aload_n hx hb d_law_1116 rfl (lv_at hl 0 rfl) ?_
          refine lv_iload hx hb d_law_1117 (lv_at hl 4 rfl) ?_
          refine lv_iconst (v := 5) hx hb d_law_1119 (by decide) ?_
          refine lv_iadd hx hb d_law_1120 ?_
          obtain ⟨v294, e295, h⟩ := gb h
          refine gw_aldI hx hb hK hI e295 d_law_1121 ?_
          refine lv_i2l (v := v294.toInt64) hx hb d_law_1122 rfl ?_
          refine lv_ldc2 (v := 4294967295) hx hb hown (hT _ wd_1121 args) d_law_1123 ?_
          refine lv_land hx hb d_law_1126 ?_
          refine lv_lor hx hb d_law_1127 ?_
          refine lv_aload_n hx hb d_law_1128 rfl (lv_at hl 0 rfl) ?_
          refine lv_iload hx hb d_law_1129 (lv_at hl 4 rfl) ?_
          refine lv_bipush (v := 6) hx hb d_law_1131 (by decide) ?_
          refine lv_iadd hx hb d_law_1133 ?_
          obtain ⟨v296, e297, h⟩ := gb h
          refine gw_aldI hx hb hK hI e297 d_law_1134 ?_
          refine lv_i2l (v := v296.toInt64) hx hb d_law_1135 rfl ?_
          refine lv_bipush (v := 32) hx hb d_law_1136 (by decide) ?_
          refine lv_lshl (v := (v296.toInt64) <<< ((32 : Int32).toInt64 &&& 63)) hx hb d_law_1138 rfl ?_
          refine lv_aload_n hx hb d_law_1139 rfl (lv_at hl 0 rfl) ?_
          refine lv_iload hx hb d_law_1140 (lv_at hl 4 rfl) ?_
          refine lv_bipush (v := 7) hx hb d_law_1142 (by decide) ?_
          refine lv_iadd hx hb d_law_1144 ?_
          obtain ⟨v298, e299, h⟩ := gb h
          refine gw_aldI hx hb hK hI e299 d_law_1145 ?_
          refine lv_i2l (v := v298.toInt64) hx hb d_law_1146 rfl ?_
          refine lv_ldc2 (v := 4294967295) hx hb hown (hT _ wd_1121 args) d_law_1147 ?_
          refine lv_land hx hb d_law_1150 ?_
          refine lv_lor hx hb d_law_1151 ?_
          refine lv_aload_n hx hb d_law_1152 rfl (lv_at hl 0 rfl) ?_
          refine lv_iload hx hb d_law_1153 (lv_at hl 4 rfl) ?_
          refine lv_bipush (v := 8) hx hb d_law_1155 (by decide) ?_
          refine lv_iadd hx hb d_law_1157 ?_
          obtain ⟨v300, e301, h⟩ := gb h
          refine gw_aldI hx hb hK hI e301 d_law_1158 ?_
          refine lv_i2l (v := v300.toInt64) hx hb d_law_1159 rfl ?_
          refine lv_bipush (v := 32) hx hb d_law_1160 (by decide) ?_
          refine lv_lshl (v := (v300.toInt64) <<< ((32 : Int32).toInt64 &&& 63)) hx hb d_law_1162 rfl ?_
          refine lv_aload_n hx hb d_law_1163 rfl (lv_at hl 0 rfl) ?_
          refine lv_iload hx hb d_law_1164 (lv_at hl 4 rfl) ?_
          refine lv_bipush (v := 9) hx hb d_law_1166 (by decide) ?_
          refine lv_iadd hx hb d_law_1168 ?_
          obtain ⟨v302, e303, h⟩ := gb h
          refine gw_aldI hx hb hK hI e303 d_law_1169 ?_
          refine lv_i2l (v := v302.toInt64) hx hb d_law_1170 rfl ?_
          refine lv_ldc2 (v := 4294967295) hx hb hown (hT _ wd_1121 args) d_law_1171 ?_
          refine lv_land hx hb d_law_1174 ?_
          refine lv_lor hx hb d_law_1175 ?_
          refine lv_aload_n hx hb d_law_1176 rfl (lv_at hl 0 rfl) ?_
          refine lv_iload hx hb d_law_1177 (lv_at hl 4 rfl) ?_
          refine lv_bipush (v := 10) hx hb d_law_1179 (by decide) ?_
          refine lv_iadd hx hb d_law_1181 ?_
          obtain ⟨v304, e305, h⟩ := gb h
          refine gw_aldI hx hb hK hI e305 d_law_1182 ?_
          refine lv_aload_n hx hb d_law_1183 rfl (lv_at hl 0 rfl) ?_
          refine lv_iload hx hb d_law_1184 (lv_at hl 4 rfl) ?_
          refine lv_bipush (v := 11) hx hb d_law_1186 (by decide) ?_
          refine lv_iadd hx hb d_law_1188 ?_
          obtain ⟨v306, e307, h⟩ := gb h
          refine gw_aldI hx hb hK hI e307 d_law_1189 ?_
          refine lv_i2l (v := v306.toInt64) hx hb d_law_1190 rfl ?_
          refine lv_bipush (v := 32) hx hb d_law_1191 (by decide) ?_
          refine lv_lshl (v := (v306.toInt64) <<< ((32 : Int32).toInt64 &&& 63)) hx hb d_law_1193 rfl ?_
          refine lv_aload_n hx hb d_law_1194 rfl (lv_at hl 0 rfl) ?_
          refine lv_iload hx hb d_law_1195 (lv_at hl 4 rfl) ?_
          refine lv_bipush (v := 12) hx hb d_law_1197 (by decide) ?_
          refine lv_iadd hx hb d_law_1199 ?_
          obtain ⟨v308, e309, h⟩ := gb h
          refine gw_aldI hx hb hK hI e309 d_law_1200 ?_
          refine lv_i2l (v := v308.toInt64) hx hb d_law_1201 rfl ?_
          refine lv_ldc2 (v := 4294967295) hx hb hown (hT _ wd_1121 args) d_law_1202 ?_
          refine lv_land hx hb d_law_1205 ?_
          refine lv_lor hx hb d_law_1206 ?_
          refine lv_aload_n hx hb d_law_1207 rfl (lv_at hl 3 rfl) ?_
          obtain ⟨u310, e311⟩ := gsome h
          refine gw_callI e311 h (gw_runS (As := [.ref o1, .int v286, .long (((v288.toInt64) <<< ((32 : Int32).toInt64 &&& 63)) ||| ((v290.toInt64) &&& 4294967295)), .long (((v292.toInt64) <<< ((32 : Int32).toInt64 &&& 63)) ||| ((v294.toInt64) &&& 4294967295)), .long (((v296.toInt64) <<< ((32 : Int32).toInt64 &&& 63)) ||| ((v298.toInt64) &&& 4294967295)), .long (((v300.toInt64) <<< ((32 : Int32).toInt64 &&& 63)) ||| ((v302.toInt64) &&& 4294967295)), .int v304, .long (((v306.toInt64) <<< ((32 : Int32).toInt64 &&& 63)) ||| ((v308.toInt64) &&& 4294967295)), .ref o17]) (rest := []) hx hb hml hown hT hK hZ hA hI (m_W_tube l hst D g0 o1 v286 (((v288.toInt64) <<< ((32 : Int32).toInt64 &&& 63)) ||| ((v290.toInt64) &&& 4294967295)) (((v292.toInt64) <<< ((32 : Int32).toInt64 &&& 63)) ||| ((v294.toInt64) &&& 4294967295)) (((v296.toInt64) <<< ((32 : Int32).toInt64 &&& 63)) ||| ((v298.toInt64) &&& 4294967295)) (((v300.toInt64) <<< ((32 : Int32).toInt64 &&& 63)) ||| ((v302.toInt64) &&& 4294967295)) v304 (((v306.toInt64) <<< ((32 : Int32).toInt64 &&& 63)) ||| ((v308.toInt64) &&& 4294967295)) o17 w u310 e311) ce_W_tube wd_608 ⟨by decide, by decide⟩ rfl rfl hl.1 rfl (lv_room (Nat.le_of_ble_eq_true rfl)) d_law_1208 ⟨(show (16015 - (n + 1) * 31) + 14 ≤ 601024 by omega), (show (905842 - (n + 1) * 1745) + 152 ≤ 7293000 by omega)⟩) hI hA hexc (show (16015 - (n + 1) * 31) + 14 ≤ 601024 by omega) (show (905842 - (n + 1) * 1745) + 152 ≤ 7293000 by omega) (fun v312 w H locs h hI => ?_)
          refine W.widen (k := ((16015 - (n + 1) * 31) + 14)) (n := ((905842 - (n + 1) * 1745) + 152)) (show (16015 - (n + 1) * 31) + 14 ≤ ((16015 - (n + 1) * 31) + 14) by omega) (show (905842 - (n + 1) * 1745) + 152 ≤ ((905842 - (n + 1) * 1745) + 152) by omega) ?_
          refine lv_istore (lv' := [(5, .int v312), (0, .ref a0), (1, .ref o1), (2, .ref o9), (3, .ref o17), (4, .int z51)]) hx hb d_law_1211 hl (by decide) rfl (fun ls hl => ?_)
          refine lv_aload_n hx hb d_law_1213 rfl (lv_at hl 3 rfl) ?_
          refine lv_aload_n hx hb d_law_1214 rfl (lv_at hl 1 rfl) ?_
          refine lv_iload hx hb d_law_1215 (lv_at hl 5 rfl) ?_
          refine lv_iconst (v := 1) hx hb d_law_1217 (by decide) ?_
          refine lv_iadd hx hb d_law_1218 ?_
          obtain ⟨v313, e314, h⟩ := gb h
          refine gw_aldI hx hb hK hI e314 d_law_1219 ?_
          refine lv_aload_n hx hb d_law_1220 rfl (lv_at hl 1 rfl) ?_
          refine lv_iload hx hb d_law_1221 (lv_at hl 5 rfl) ?_
          refine lv_iconst (v := 2) hx hb d_law_1223 (by decide) ?_
          refine lv_iadd hx hb d_law_1224 ?_
          obtain ⟨v315, e316, h⟩ := gb h
          refine gw_aldI hx hb hK hI e316 d_law_1225 ?_
          refine lv_i2l (v := v315.toInt64) hx hb d_law_1226 rfl ?_
          refine lv_bipush (v := 32) hx hb d_law_1227 (by decide) ?_
          refine lv_lshl (v := (v315.toInt64) <<< ((32 : Int32).toInt64 &&& 63)) hx hb d_law_1229 rfl ?_
          refine lv_aload_n hx hb d_law_1230 rfl (lv_at hl 1 rfl) ?_
          refine lv_iload hx hb d_law_1231 (lv_at hl 5 rfl) ?_
          refine lv_iconst (v := 3) hx hb d_law_1233 (by decide) ?_
          refine lv_iadd hx hb d_law_1234 ?_
          obtain ⟨v317, e318, h⟩ := gb h
          refine gw_aldI hx hb hK hI e318 d_law_1235 ?_
          refine lv_i2l (v := v317.toInt64) hx hb d_law_1236 rfl ?_
          refine lv_ldc2 (v := 4294967295) hx hb hown (hT _ wd_1121 args) d_law_1237 ?_
          refine lv_land hx hb d_law_1240 ?_
          refine lv_lor hx hb d_law_1241 ?_
          refine lv_aload_n hx hb d_law_1242 rfl (lv_at hl 1 rfl) ?_
          refine lv_iload hx hb d_law_1243 (lv_at hl 5 rfl) ?_
          refine lv_iconst (v := 4) hx hb d_law_1245 (by decide) ?_
          refine lv_iadd hx hb d_law_1246 ?_
          obtain ⟨v319, e320, h⟩ := gb h
          refine gw_aldI hx hb hK hI e320 d_law_1247 ?_
          refine lv_i2l (v := v319.toInt64) hx hb d_law_1248 rfl ?_
          refine lv_bipush (v := 32) hx hb d_law_1249 (by decide) ?_
          refine lv_lshl (v := (v319.toInt64) <<< ((32 : Int32).toInt64 &&& 63)) hx hb d_law_1251 rfl ?_
          refine lv_aload_n hx hb d_law_1252 rfl (lv_at hl 1 rfl) ?_
          refine lv_iload hx hb d_law_1253 (lv_at hl 5 rfl) ?_
          refine lv_iconst (v := 5) hx hb d_law_1255 (by decide) ?_
          refine lv_iadd hx hb d_law_1256 ?_
          obtain ⟨v321, e322, h⟩ := gb h
          refine gw_aldI hx hb hK hI e322 d_law_1257 ?_
          refine lv_i2l (v := v321.toInt64) hx hb d_law_1258 rfl ?_
          refine lv_ldc2 (v := 4294967295) hx hb hown (hT _ wd_1121 args) d_law_1259 ?_
          refine lv_land hx hb d_law_1262 ?_
          refine lv_lor hx hb d_law_1263 ?_
          refine lv_aload_n hx hb d_law_1264 rfl (lv_at hl 1 rfl) ?_
          refine lv_iload hx hb d_law_1265 (lv_at hl 5 rfl) ?_
          refine lv_bipush (v := 6) hx hb d_law_1267 (by decide) ?_
          refine lv_iadd hx hb d_law_1269 ?_
          obtain ⟨v323, e324, h⟩ := gb h
          refine gw_aldI hx hb hK hI e324 d_law_1270 ?_
          refine lv_i2l (v := v323.toInt64) hx hb d_law_1271 rfl ?_
          refine lv_bipush (v := 32) hx hb d_law_1272 (by decide) ?_
          refine lv_lshl (v := (v323.toInt64) <<< ((32 : Int32).toInt64 &&& 63)) hx hb d_law_1274 rfl ?_
          refine lv_aload_n hx hb d_law_1275 rfl (lv_at hl 1 rfl) ?_
          refine lv_iload hx hb d_law_1276 (lv_at hl 5 rfl) ?_
          refine lv_bipush (v := 7) hx hb d_law_1278 (by decide) ?_
          refine lv_iadd hx hb d_law_1280 ?_
          obtain ⟨v325, e326, h⟩ := gb h
          refine gw_aldI hx hb hK hI e326 d_law_1281 ?_
          refine lv_i2l (v := v325.toInt64) hx hb d_law_1282 rfl ?_
          refine lv_ldc2 (v := 4294967295) hx hb hown (hT _ wd_1121 args) d_law_1283 ?_
          refine lv_land hx hb d_law_1286 ?_
          refine lv_lor hx hb d_law_1287 ?_
          refine lv_aload_n hx hb d_law_1288 rfl (lv_at hl 1 rfl) ?_
          refine lv_iload hx hb d_law_1289 (lv_at hl 5 rfl) ?_
          refine lv_bipush (v := 8) hx hb d_law_1291 (by decide) ?_
          refine lv_iadd hx hb d_law_1293 ?_
          obtain ⟨v327, e328, h⟩ := gb h
          refine gw_aldI hx hb hK hI e328 d_law_1294 ?_
          refine lv_i2l (v := v327.toInt64) hx hb d_law_1295 rfl ?_
          refine lv_bipush (v := 32) hx hb d_law_1296 (by decide) ?_
          refine lv_lshl (v := (v327.toInt64) <<< ((32 : Int32).toInt64 &&& 63)) hx hb d_law_1298 rfl ?_
          refine lv_aload_n hx hb d_law_1299 rfl (lv_at hl 1 rfl) ?_
          refine lv_iload hx hb d_law_1300 (lv_at hl 5 rfl) ?_
          refine lv_bipush (v := 9) hx hb d_law_1302 (by decide) ?_
          refine lv_iadd hx hb d_law_1304 ?_
          obtain ⟨v329, e330, h⟩ := gb h
          refine gw_aldI hx hb hK hI e330 d_law_1305 ?_
          refine lv_i2l (v := v329.toInt64) hx hb d_law_1306 rfl ?_
          refine lv_ldc2 (v := 4294967295) hx hb hown (hT _ wd_1121 args) d_law_1307 ?_
          refine lv_land hx hb d_law_1310 ?_
          refine lv_lor hx hb d_law_1311 ?_
          refine lv_aload_n hx hb d_law_1312 rfl (lv_at hl 1 rfl) ?_
          refine lv_iload hx hb d_law_1313 (lv_at hl 5 rfl) ?_
          refine lv_bipush (v := 10) hx hb d_law_1315 (by decide) ?_
          refine lv_iadd hx hb d_law_1317 ?_
          obtain ⟨v331, e332, h⟩ := gb h
          refine gw_aldI hx hb hK hI e332 d_law_1318 ?_
          refine lv_aload_n hx hb d_law_1319 rfl (lv_at hl 1 rfl) ?_
          refine lv_iload hx hb d_law_1320 (lv_at hl 5 rfl) ?_
          refine lv_bipush (v := 11) hx hb d_law_1322 (by decide) ?_
          refine lv_iadd hx hb d_law_1324 ?_
          obtain ⟨v333, e334, h⟩ := gb h
          refine gw_aldI hx hb hK hI e334 d_law_1325 ?_
          refine lv_i2l (v := v333.toInt64) hx hb d_law_1326 rfl ?_
          refine lv_bipush (v := 32) hx hb d_law_1327 (by decide) ?_
          refine lv_lshl (v := (v333.toInt64) <<< ((32 : Int32).toInt64 &&& 63)) hx hb d_law_1329 rfl ?_
          refine lv_aload_n hx hb d_law_1330 rfl (lv_at hl 1 rfl) ?_
          refine lv_iload hx hb d_law_1331 (lv_at hl 5 rfl) ?_
          refine lv_bipush (v := 12) hx hb d_law_1333 (by decide) ?_
          refine lv_iadd hx hb d_law_1335 ?_
          obtain ⟨v335, e336, h⟩ := gb h
          refine gw_aldI hx hb hK hI e336 d_law_1336 ?_
          refine lv_i2l (v := v335.toInt64) hx hb d_law_1337 rfl ?_
          refine lv_ldc2 (v := 4294967295) hx hb hown (hT _ wd_1121 args) d_law_1338 ?_
          refine lv_land hx hb d_law_1341 ?_
          refine lv_lor hx hb d_law_1342 ?_
          obtain ⟨q339, e340, h⟩ := gb h
          obtain ⟨u337, e338⟩ := gsome h
          refine gw_callI e338 h (gw_runV (As := [.int v313, .long (((v315.toInt64) <<< ((32 : Int32).toInt64 &&& 63)) ||| ((v317.toInt64) &&& 4294967295)), .long (((v319.toInt64) <<< ((32 : Int32).toInt64 &&& 63)) ||| ((v321.toInt64) &&& 4294967295)), .long (((v323.toInt64) <<< ((32 : Int32).toInt64 &&& 63)) ||| ((v325.toInt64) &&& 4294967295)), .long (((v327.toInt64) <<< ((32 : Int32).toInt64 &&& 63)) ||| ((v329.toInt64) &&& 4294967295)), .int v331, .long (((v333.toInt64) <<< ((32 : Int32).toInt64 &&& 63)) ||| ((v335.toInt64) &&& 4294967295))]) (rest := []) hx hb hml hown hT hK hZ hA hI (ci := 7) rfl e340 (m_M_tube l hst D g0 o9 v313 (((v315.toInt64) <<< ((32 : Int32).toInt64 &&& 63)) ||| ((v317.toInt64) &&& 4294967295)) (((v319.toInt64) <<< ((32 : Int32).toInt64 &&& 63)) ||| ((v321.toInt64) &&& 4294967295)) (((v323.toInt64) <<< ((32 : Int32).toInt64 &&& 63)) ||| ((v325.toInt64) &&& 4294967295)) (((v327.toInt64) <<< ((32 : Int32).toInt64 &&& 63)) ||| ((v329.toInt64) &&& 4294967295)) v331 (((v333.toInt64) <<< ((32 : Int32).toInt64 &&& 63)) ||| ((v335.toInt64) &&& 4294967295)) w u337 e338) ce_M_tube wd_925 wd_927 ⟨by decide, by decide⟩ rfl rfl hl.1 rfl (lv_room (Nat.le_of_ble_eq_true rfl)) d_law_1343 ⟨(show ((16015 - (n + 1) * 31) + 14) + 0 ≤ 601024 by omega), (show ((905842 - (n + 1) * 1745) + 152) + 0 ≤ 7293000 by omega)⟩) hI hA hexc (show ((16015 - (n + 1) * 31) + 14) + 0 ≤ 601024 by omega) (show ((905842 - (n + 1) * 1745) + 152) + 0 ≤ 7293000 by omega) (fun v341 w H locs h hI => ?_)
          refine lv_istore (lv' := [(6, .int v341), (5, .int v312), (0, .ref a0), (1, .ref o1), (2, .ref o9), (3, .ref o17), (4, .int z51)]) hx hb d_law_1346 hl (by decide) rfl (fun ls hl => ?_)
          refine lv_aload_n hx hb d_law_1348 rfl (lv_at hl 4 rfl) ?_
          obtain ⟨q344, e345, h⟩ := gb h
          obtain ⟨u342, e343⟩ := gsome h
          refine gw_callI e343 h (gw_runV (As := []) (rest := []) hx hb hml hown hT hK hZ hA hI (ci := 7) rfl e345 (m_M_thrown l hst D g0 o9 w u342 e343) ce_M_thrown wd_868 wd_870 ⟨by decide, by decide⟩ rfl rfl hl.1 rfl (lv_room (Nat.le_of_ble_eq_true rfl)) d_law_1349 ⟨(show ((16015 - (n + 1) * 31) + 14) + 0 ≤ 601024 by omega), (show ((905842 - (n + 1) * 1745) + 152) + 0 ≤ 7293000 by omega)⟩) hI hA hexc (show ((16015 - (n + 1) * 31) + 14) + 0 ≤ 601024 by omega) (show ((905842 - (n + 1) * 1745) + 152) + 0 ≤ 7293000 by omega) (fun v346 w H locs h hI => ?_)
          refine lv_iload hx hb d_law_1352 (lv_at hl 1 rfl) ?_
          refine lv_icmp_eq (tgt := 1359) hx hb d_law_1354 (by decide) (fun c347 => ?_) (fun c347 => ?_)
          · skip
            have h := git c347 h
            refine lv_iload hx hb d_law_1359 (lv_at hl 1 rfl) ?_
            obtain ⟨K1383, eK1383, h⟩ := gj h
            have hK1383 : ∀ (w : gW) (H : Heap) (locs : List Loc) (ls : Array Slot), K1383 w = some r → gI D s A w H locs → lv_has ls 8 [(0, .ref a0), (1, .ref o1), (2, .ref o9), (3, .ref o17), (4, .int z51)] → W p l e rm_law s m args below meth c H locs ((16015 - (n + 1) * 31) + 14) ((905842 - (n + 1) * 1745) + 152) Q (F0 m 1383 ls []) := by
              intro w H locs ls h hI hl
              have h := gk1 eK1383 h
              refine lv_goto (tgt := 2507) hx hb d_law_1383 (by decide) ?_
              refine W.widen (k := ((16015 - (n + 1) * 31) + 31)) (n := ((905842 - (n + 1) * 1745) + 1745)) (show ((16015 - (n + 1) * 31) + 14) ≤ ((16015 - (n + 1) * 31) + 31) by omega) (show ((905842 - (n + 1) * 1745) + 152) ≤ ((905842 - (n + 1) * 1745) + 1745) by omega) ?_
              exact hK2507 w H locs ls h hI (lv_sub hl [0, 1, 2, 3, 4] rfl)
            refine lv_if_ne (tgt := 1383) hx hb d_law_1361 (by decide) (fun c348 => ?_) (fun c348 => ?_)
            · skip
              have h := gie c348 h
              exact hK1383 w H locs ls h hI (lv_sub hl [2, 3, 4, 5, 6] rfl)
            · skip
              have h := git c348 h
              refine lv_aload_n hx hb d_law_1364 rfl (lv_at hl 5 rfl) ?_
              refine lv_iconst (v := 0) hx hb d_law_1365 (by decide) ?_
              obtain ⟨v349, e350, h⟩ := gb h
              refine gw_aldJ hx hb hK hI e350 d_law_1366 ?_
              refine lv_iload hx hb d_law_1367 (lv_at hl 0 rfl) ?_
              obtain ⟨K1377, eK1377, h⟩ := gj h
              have hK1377 : ∀ (y351 : Int64) (w : gW) (H : Heap) (locs : List Loc) (ls : Array Slot), K1377 y351 w = some r → gI D s A w H locs → lv_has ls 8 [(0, .ref a0), (1, .ref o1), (2, .ref o9), (3, .ref o17), (4, .int z51)] → W p l e rm_law s m args below meth c H locs ((16015 - (n + 1) * 31) + 14) ((905842 - (n + 1) * 1745) + 152) Q (F0 m 1377 ls [.long y351, .long v349]) := by
                intro y351 w H locs ls h hI hl
                have h := gk2 eK1377 h
                refine W.lcmp hx hb d_law_1377 ?_
                refine lv_if_eq (tgt := 1383) hx hb d_law_1378 (by decide) (fun c352 => ?_) (fun c352 => ?_)
                · have c352 := (lg_cmp_eq _ _).mp c352
                  have h := git c352 h
                  exact hK1383 w H locs ls h hI (lv_sub hl [0, 1, 2, 3, 4] rfl)
                · have c352 := mt (lg_cmp_eq _ _).mpr c352
                  have h := gie c352 h
                  refine W.widen (k := 16015) (n := 905842) (show ((16015 - (n + 1) * 31) + 14) ≤ 16015 by omega) (show ((905842 - (n + 1) * 1745) + 152) ≤ 905842 by omega) ?_
                  exact hK1381 w H locs ls h hI (lv_sub hl [] rfl)
              refine lv_if_eq (tgt := 1376) hx hb d_law_1369 (by decide) (fun c353 => ?_) (fun c353 => ?_)
              · skip
                have h := git c353 h
                refine lv_lconst (v := 0) hx hb d_law_1376 (by decide) ?_
                exact hK1377 _ w H locs ls h hI (lv_sub hl [2, 3, 4, 5, 6] rfl)
              · skip
                have h := gie c353 h
                refine lv_lconst (v := 1) hx hb d_law_1372 (by decide) ?_
                refine lv_goto (tgt := 1377) hx hb d_law_1373 (by decide) ?_
                exact hK1377 _ w H locs ls h hI (lv_sub hl [2, 3, 4, 5, 6] rfl)
          · skip
            have h := gie c347 h
            refine W.widen (k := 16015) (n := 905842) (show ((16015 - (n + 1) * 31) + 14) ≤ 16015 by omega) (show ((905842 - (n + 1) * 1745) + 152) ≤ 905842 by omega) ?_
            exact hK1357 w H locs ls h hI (lv_sub hl [] rfl)
        have h := gie c285 h
        rcases Decidable.em ((v55 &&& 31) = 6) with c354 | c354
        · have h := git c354 h
          refine lv_tableIn (off := 1334) (tgt := 1386) hx hb d_law_52 (by rw [c354]; decide) (by rw [c354]; decide) (by rw [c354]; decide) (by decide) ?_
          refine lv_aload_n hx hb d_law_1386 rfl (lv_at hl 1 rfl) ?_
          refine lv_aload_n hx hb d_law_1387 rfl (lv_at hl 0 rfl) ?_
          refine lv_iload hx hb d_law_1388 (lv_at hl 4 rfl) ?_
          refine lv_iconst (v := 1) hx hb d_law_1390 (by decide) ?_
          refine lv_iadd hx hb d_law_1391 ?_
          obtain ⟨v355, e356, h⟩ := gb h
          refine gw_aldI hx hb hK hI e356 d_law_1392 ?_
          refine lv_aload_n hx hb d_law_1393 rfl (lv_at hl 0 rfl) ?_
          refine lv_iload hx hb d_law_1394 (lv_at hl 4 rfl) ?_
          refine lv_iconst (v := 2) hx hb d_law_1396 (by decide) ?_
          refine lv_iadd hx hb d_law_1397 ?_
          obtain ⟨v357, e358, h⟩ := gb h
          refine gw_aldI hx hb hK hI e358 d_law_1398 ?_
          refine lv_aload_n hx hb d_law_1399 rfl (lv_at hl 3 rfl) ?_
          obtain ⟨u359, e360⟩ := gsome h
          refine gw_callI e360 h (gw_runS (As := [.ref o1, .int v355, .int v357, .ref o17]) (rest := []) hx hb hml hown hT hK hZ hA hI (m_W_join l hst D g0 o1 v355 v357 o17 w u359 e360) ce_W_join wd_622 ⟨by decide, by decide⟩ rfl rfl hl.1 rfl (lv_room (Nat.le_of_ble_eq_true rfl)) d_law_1400 ⟨(show (16015 - (n + 1) * 31) + 31 ≤ 601024 by omega), (show (905842 - (n + 1) * 1745) + 1745 ≤ 7293000 by omega)⟩) hI hA hexc (show (16015 - (n + 1) * 31) + 31 ≤ 601024 by omega) (show (905842 - (n + 1) * 1745) + 1745 ≤ 7293000 by omega) (fun v361 w H locs h hI => ?_)
          refine W.widen (k := ((16015 - (n + 1) * 31) + 31)) (n := ((905842 - (n + 1) * 1745) + 1745)) (show (16015 - (n + 1) * 31) + 31 ≤ ((16015 - (n + 1) * 31) + 31) by omega) (show (905842 - (n + 1) * 1745) + 1745 ≤ ((905842 - (n + 1) * 1745) + 1745) by omega) ?_
          refine lv_istore (lv' := [(5, .int v361), (0, .ref a0), (1, .ref o1), (2, .ref o9), (3, .ref o17), (4, .int z51)]) hx hb d_law_1403 hl (by decide) rfl (fun ls hl => ?_)
          refine lv_aload_n hx hb d_law_1405 rfl (lv_at hl 3 rfl) ?_
          refine lv_aload_n hx hb d_law_1406 rfl (lv_at hl 1 rfl) ?_
          refine lv_iload hx hb d_law_1407 (lv_at hl 5 rfl) ?_
          refine lv_iconst (v := 1) hx hb d_law_1409 (by decide) ?_
          refine lv_iadd hx hb d_law_1410 ?_
          obtain ⟨v362, e363, h⟩ := gb h
          refine gw_aldI hx hb hK hI e363 d_law_1411 ?_
          refine lv_aload_n hx hb d_law_1412 rfl (lv_at hl 1 rfl) ?_
          refine lv_iload hx hb d_law_1413 (lv_at hl 5 rfl) ?_
          refine lv_iconst (v := 2) hx hb d_law_1415 (by decide) ?_
          refine lv_iadd hx hb d_law_1416 ?_
          obtain ⟨v364, e365, h⟩ := gb h
          refine gw_aldI hx hb hK hI e365 d_law_1417 ?_
          obtain ⟨q368, e369, h⟩ := gb h
          obtain ⟨u366, e367⟩ := gsome h
          refine gw_callI e367 h (gw_runV (As := [.int v362, .int v364]) (rest := []) hx hb hml hown hT hK hZ hA hI (ci := 7) rfl e369 (m_M_join l hst D g0 o9 v362 v364 w u366 e367) ce_M_join wd_932 wd_934 ⟨by decide, by decide⟩ rfl rfl hl.1 rfl (lv_room (Nat.le_of_ble_eq_true rfl)) d_law_1418 ⟨(show ((16015 - (n + 1) * 31) + 31) + 0 ≤ 601024 by omega), (show ((905842 - (n + 1) * 1745) + 1745) + 0 ≤ 7293000 by omega)⟩) hI hA hexc (show ((16015 - (n + 1) * 31) + 31) + 0 ≤ 601024 by omega) (show ((905842 - (n + 1) * 1745) + 1745) + 0 ≤ 7293000 by omega) (fun v370 w H locs h hI => ?_)
          refine lv_istore (lv' := [(6, .int v370), (5, .int v361), (0, .ref a0), (1, .ref o1), (2, .ref o9), (3, .ref o17), (4, .int z51)]) hx hb d_law_1421 hl (by decide) rfl (fun ls hl => ?_)
          refine lv_aload_n hx hb d_law_1423 rfl (lv_at hl 4 rfl) ?_
          obtain ⟨q373, e374, h⟩ := gb h
          obtain ⟨u371, e372⟩ := gsome h
          refine gw_callI e372 h (gw_runV (As := []) (rest := []) hx hb hml hown hT hK hZ hA hI (ci := 7) rfl e374 (m_M_thrown l hst D g0 o9 w u371 e372) ce_M_thrown wd_868 wd_870 ⟨by decide, by decide⟩ rfl rfl hl.1 rfl (lv_room (Nat.le_of_ble_eq_true rfl)) d_law_1424 ⟨(show ((16015 - (n + 1) * 31) + 31) + 0 ≤ 601024 by omega), (show ((905842 - (n + 1) * 1745) + 1745) + 0 ≤ 7293000 by omega)⟩) hI hA hexc (show ((16015 - (n + 1) * 31) + 31) + 0 ≤ 601024 by omega) (show ((905842 - (n + 1) * 1745) + 1745) + 0 ≤ 7293000 by omega) (fun v375 w H locs h hI => ?_)
          refine lv_iload hx hb d_law_1427 (lv_at hl 1 rfl) ?_
          refine lv_icmp_eq (tgt := 1434) hx hb d_law_1429 (by decide) (fun c376 => ?_) (fun c376 => ?_)
          · skip
            have h := git c376 h
            refine lv_iload hx hb d_law_1434 (lv_at hl 1 rfl) ?_
            obtain ⟨K1451, eK1451, h⟩ := gj h
            have hK1451 : ∀ (w : gW) (H : Heap) (locs : List Loc) (ls : Array Slot), K1451 w = some r → gI D s A w H locs → lv_has ls 8 [(0, .ref a0), (1, .ref o1), (2, .ref o9), (3, .ref o17), (4, .int z51)] → W p l e rm_law s m args below meth c H locs ((16015 - (n + 1) * 31) + 31) ((905842 - (n + 1) * 1745) + 1745) Q (F0 m 1451 ls []) := by
              intro w H locs ls h hI hl
              have h := gk1 eK1451 h
              refine lv_goto (tgt := 2507) hx hb d_law_1451 (by decide) ?_
              exact hK2507 w H locs ls h hI (lv_sub hl [0, 1, 2, 3, 4] rfl)
            refine lv_if_ne (tgt := 1451) hx hb d_law_1436 (by decide) (fun c377 => ?_) (fun c377 => ?_)
            · skip
              have h := gie c377 h
              exact hK1451 w H locs ls h hI (lv_sub hl [2, 3, 4, 5, 6] rfl)
            · skip
              have h := git c377 h
              refine lv_aload_n hx hb d_law_1439 rfl (lv_at hl 5 rfl) ?_
              refine lv_iconst (v := 0) hx hb d_law_1440 (by decide) ?_
              obtain ⟨v378, e379, h⟩ := gb h
              refine gw_aldJ hx hb hK hI e379 d_law_1441 ?_
              refine lv_iload hx hb d_law_1442 (lv_at hl 0 rfl) ?_
              refine lv_i2l (v := v370.toInt64) hx hb d_law_1444 rfl ?_
              refine W.lcmp hx hb d_law_1445 ?_
              refine lv_if_eq (tgt := 1451) hx hb d_law_1446 (by decide) (fun c380 => ?_) (fun c380 => ?_)
              · have c380 := (lg_cmp_eq _ _).mp c380
                have h := git c380 h
                exact hK1451 w H locs ls h hI (lv_sub hl [2, 3, 4, 5, 6] rfl)
              · have c380 := mt (lg_cmp_eq _ _).mpr c380
                have h := gie c380 h
                refine W.widen (k := 16015) (n := 905842) (show ((16015 - (n + 1) * 31) + 31) ≤ 16015 by omega) (show ((905842 - (n + 1) * 1745) + 1745) ≤ 905842 by omega) ?_
                exact hK1449 w H locs ls h hI (lv_sub hl [] rfl)
          · skip
            have h := gie c376 h
            refine W.widen (k := 16015) (n := 905842) (show ((16015 - (n + 1) * 31) + 31) ≤ 16015 by omega) (show ((905842 - (n + 1) * 1745) + 1745) ≤ 905842 by omega) ?_
            exact hK1432 w H locs ls h hI (lv_sub hl [] rfl)
        have h := gie c354 h
        rcases Decidable.em ((v55 &&& 31) = 7) with c381 | c381
        · have h := git c381 h
          refine lv_tableIn (off := 1402) (tgt := 1454) hx hb d_law_52 (by rw [c381]; decide) (by rw [c381]; decide) (by rw [c381]; decide) (by decide) ?_
          refine lv_aload_n hx hb d_law_1454 rfl (lv_at hl 1 rfl) ?_
          refine lv_aload_n hx hb d_law_1455 rfl (lv_at hl 0 rfl) ?_
          refine lv_iload hx hb d_law_1456 (lv_at hl 4 rfl) ?_
          refine lv_iconst (v := 1) hx hb d_law_1458 (by decide) ?_
          refine lv_iadd hx hb d_law_1459 ?_
          obtain ⟨v382, e383, h⟩ := gb h
          refine gw_aldI hx hb hK hI e383 d_law_1460 ?_
          refine lv_aload_n hx hb d_law_1461 rfl (lv_at hl 0 rfl) ?_
          refine lv_iload hx hb d_law_1462 (lv_at hl 4 rfl) ?_
          refine lv_iconst (v := 2) hx hb d_law_1464 (by decide) ?_
          refine lv_iadd hx hb d_law_1465 ?_
          obtain ⟨v384, e385, h⟩ := gb h
          refine gw_aldI hx hb hK hI e385 d_law_1466 ?_
          refine lv_i2l (v := v384.toInt64) hx hb d_law_1467 rfl ?_
          refine lv_bipush (v := 32) hx hb d_law_1468 (by decide) ?_
          refine lv_lshl (v := (v384.toInt64) <<< ((32 : Int32).toInt64 &&& 63)) hx hb d_law_1470 rfl ?_
          refine lv_aload_n hx hb d_law_1471 rfl (lv_at hl 0 rfl) ?_
          refine lv_iload hx hb d_law_1472 (lv_at hl 4 rfl) ?_
          refine lv_iconst (v := 3) hx hb d_law_1474 (by decide) ?_
          refine lv_iadd hx hb d_law_1475 ?_
          obtain ⟨v386, e387, h⟩ := gb h
          refine gw_aldI hx hb hK hI e387 d_law_1476 ?_
          refine lv_i2l (v := v386.toInt64) hx hb d_law_1477 rfl ?_
          refine lv_ldc2 (v := 4294967295) hx hb hown (hT _ wd_1121 args) d_law_1478 ?_
          refine lv_land hx hb d_law_1481 ?_
          refine lv_lor hx hb d_law_1482 ?_
          refine lv_aload_n hx hb d_law_1483 rfl (lv_at hl 0 rfl) ?_
          refine lv_iload hx hb d_law_1484 (lv_at hl 4 rfl) ?_
          refine lv_iconst (v := 4) hx hb d_law_1486 (by decide) ?_
          refine lv_iadd hx hb d_law_1487 ?_
          obtain ⟨v388, e389, h⟩ := gb h
          refine gw_aldI hx hb hK hI e389 d_law_1488 ?_
          refine lv_i2l (v := v388.toInt64) hx hb d_law_1489 rfl ?_
          refine lv_bipush (v := 32) hx hb d_law_1490 (by decide) ?_
          refine lv_lshl (v := (v388.toInt64) <<< ((32 : Int32).toInt64 &&& 63)) hx hb d_law_1492 rfl ?_
          refine lv_aload_n hx hb d_law_1493 rfl (lv_at hl 0 rfl) ?_
          refine lv_iload hx hb d_law_1494 (lv_at hl 4 rfl) ?_
          refine lv_iconst (v := 5) hx hb d_law_1496 (by decide) ?_
          refine lv_iadd hx hb d_law_1497 ?_
          obtain ⟨v390, e391, h⟩ := gb h
          refine gw_aldI hx hb hK hI e391 d_law_1498 ?_
          refine lv_i2l (v := v390.toInt64) hx hb d_law_1499 rfl ?_
          refine lv_ldc2 (v := 4294967295) hx hb hown (hT _ wd_1121 args) d_law_1500 ?_
          refine lv_land hx hb d_law_1503 ?_
          refine lv_lor hx hb d_law_1504 ?_
          refine lv_aload_n hx hb d_law_1505 rfl (lv_at hl 0 rfl) ?_
          refine lv_iload hx hb d_law_1506 (lv_at hl 4 rfl) ?_
          refine lv_bipush (v := 6) hx hb d_law_1508 (by decide) ?_
          refine lv_iadd hx hb d_law_1510 ?_
          obtain ⟨v392, e393, h⟩ := gb h
          refine gw_aldI hx hb hK hI e393 d_law_1511 ?_
          refine lv_aload_n hx hb d_law_1512 rfl (lv_at hl 0 rfl) ?_
          refine lv_iload hx hb d_law_1513 (lv_at hl 4 rfl) ?_
          refine lv_bipush (v := 7) hx hb d_law_1515 (by decide) ?_
          refine lv_iadd hx hb d_law_1517 ?_
          obtain ⟨v394, e395, h⟩ := gb h
          refine gw_aldI hx hb hK hI e395 d_law_1518 ?_
          refine lv_aload_n hx hb d_law_1519 rfl (lv_at hl 3 rfl) ?_
          obtain ⟨u396, e397⟩ := gsome h
          refine gw_callI e397 h (gw_runS (As := [.ref o1, .int v382, .long (((v384.toInt64) <<< ((32 : Int32).toInt64 &&& 63)) ||| ((v386.toInt64) &&& 4294967295)), .long (((v388.toInt64) <<< ((32 : Int32).toInt64 &&& 63)) ||| ((v390.toInt64) &&& 4294967295)), .int v392, .int v394, .ref o17]) (rest := []) hx hb hml hown hT hK hZ hA hI (m_W_place l hst D g0 o1 v382 (((v384.toInt64) <<< ((32 : Int32).toInt64 &&& 63)) ||| ((v386.toInt64) &&& 4294967295)) (((v388.toInt64) <<< ((32 : Int32).toInt64 &&& 63)) ||| ((v390.toInt64) &&& 4294967295)) v392 v394 o17 w u396 e397) ce_W_place wd_635 ⟨by decide, by decide⟩ rfl rfl hl.1 rfl (lv_room (Nat.le_of_ble_eq_true rfl)) d_law_1520 ⟨(show (16015 - (n + 1) * 31) + 7 ≤ 601024 by omega), (show (905842 - (n + 1) * 1745) + 99 ≤ 7293000 by omega)⟩) hI hA hexc (show (16015 - (n + 1) * 31) + 7 ≤ 601024 by omega) (show (905842 - (n + 1) * 1745) + 99 ≤ 7293000 by omega) (fun v398 w H locs h hI => ?_)
          refine W.widen (k := ((16015 - (n + 1) * 31) + 7)) (n := ((905842 - (n + 1) * 1745) + 99)) (show (16015 - (n + 1) * 31) + 7 ≤ ((16015 - (n + 1) * 31) + 7) by omega) (show (905842 - (n + 1) * 1745) + 99 ≤ ((905842 - (n + 1) * 1745) + 99) by omega) ?_
          refine lv_istore (lv' := [(5, .int v398), (0, .ref a0), (1, .ref o1), (2, .ref o9), (3, .ref o17), (4, .int z51)]) hx hb d_law_1523 hl (by decide) rfl (fun ls hl => ?_)
          refine lv_aload_n hx hb d_law_1525 rfl (lv_at hl 3 rfl) ?_
          refine lv_aload_n hx hb d_law_1526 rfl (lv_at hl 1 rfl) ?_
          refine lv_iload hx hb d_law_1527 (lv_at hl 5 rfl) ?_
          refine lv_iconst (v := 1) hx hb d_law_1529 (by decide) ?_
          refine lv_iadd hx hb d_law_1530 ?_
          obtain ⟨v399, e400, h⟩ := gb h
          refine gw_aldI hx hb hK hI e400 d_law_1531 ?_
          refine lv_aload_n hx hb d_law_1532 rfl (lv_at hl 1 rfl) ?_
          refine lv_iload hx hb d_law_1533 (lv_at hl 5 rfl) ?_
          refine lv_iconst (v := 2) hx hb d_law_1535 (by decide) ?_
          refine lv_iadd hx hb d_law_1536 ?_
          obtain ⟨v401, e402, h⟩ := gb h
          refine gw_aldI hx hb hK hI e402 d_law_1537 ?_
          refine lv_i2l (v := v401.toInt64) hx hb d_law_1538 rfl ?_
          refine lv_bipush (v := 32) hx hb d_law_1539 (by decide) ?_
          refine lv_lshl (v := (v401.toInt64) <<< ((32 : Int32).toInt64 &&& 63)) hx hb d_law_1541 rfl ?_
          refine lv_aload_n hx hb d_law_1542 rfl (lv_at hl 1 rfl) ?_
          refine lv_iload hx hb d_law_1543 (lv_at hl 5 rfl) ?_
          refine lv_iconst (v := 3) hx hb d_law_1545 (by decide) ?_
          refine lv_iadd hx hb d_law_1546 ?_
          obtain ⟨v403, e404, h⟩ := gb h
          refine gw_aldI hx hb hK hI e404 d_law_1547 ?_
          refine lv_i2l (v := v403.toInt64) hx hb d_law_1548 rfl ?_
          refine lv_ldc2 (v := 4294967295) hx hb hown (hT _ wd_1121 args) d_law_1549 ?_
          refine lv_land hx hb d_law_1552 ?_
          refine lv_lor hx hb d_law_1553 ?_
          refine lv_aload_n hx hb d_law_1554 rfl (lv_at hl 1 rfl) ?_
          refine lv_iload hx hb d_law_1555 (lv_at hl 5 rfl) ?_
          refine lv_iconst (v := 4) hx hb d_law_1557 (by decide) ?_
          refine lv_iadd hx hb d_law_1558 ?_
          obtain ⟨v405, e406, h⟩ := gb h
          refine gw_aldI hx hb hK hI e406 d_law_1559 ?_
          refine lv_i2l (v := v405.toInt64) hx hb d_law_1560 rfl ?_
          refine lv_bipush (v := 32) hx hb d_law_1561 (by decide) ?_
          refine lv_lshl (v := (v405.toInt64) <<< ((32 : Int32).toInt64 &&& 63)) hx hb d_law_1563 rfl ?_
          refine lv_aload_n hx hb d_law_1564 rfl (lv_at hl 1 rfl) ?_
          refine lv_iload hx hb d_law_1565 (lv_at hl 5 rfl) ?_
          refine lv_iconst (v := 5) hx hb d_law_1567 (by decide) ?_
          refine lv_iadd hx hb d_law_1568 ?_
          obtain ⟨v407, e408, h⟩ := gb h
          refine gw_aldI hx hb hK hI e408 d_law_1569 ?_
          refine lv_i2l (v := v407.toInt64) hx hb d_law_1570 rfl ?_
          refine lv_ldc2 (v := 4294967295) hx hb hown (hT _ wd_1121 args) d_law_1571 ?_
          refine lv_land hx hb d_law_1574 ?_
          refine lv_lor hx hb d_law_1575 ?_
          refine lv_aload_n hx hb d_law_1576 rfl (lv_at hl 1 rfl) ?_
          refine lv_iload hx hb d_law_1577 (lv_at hl 5 rfl) ?_
          refine lv_bipush (v := 6) hx hb d_law_1579 (by decide) ?_
          refine lv_iadd hx hb d_law_1581 ?_
          obtain ⟨v409, e410, h⟩ := gb h
          refine gw_aldI hx hb hK hI e410 d_law_1582 ?_
          refine lv_aload_n hx hb d_law_1583 rfl (lv_at hl 1 rfl) ?_
          refine lv_iload hx hb d_law_1584 (lv_at hl 5 rfl) ?_
          refine lv_bipush (v := 7) hx hb d_law_1586 (by decide) ?_
          refine lv_iadd hx hb d_law_1588 ?_
          obtain ⟨v411, e412, h⟩ := gb h
          refine gw_aldI hx hb hK hI e412 d_law_1589 ?_
          obtain ⟨q415, e416, h⟩ := gb h
          obtain ⟨u413, e414⟩ := gsome h
          refine gw_callI e414 h (gw_runV (As := [.int v399, .long (((v401.toInt64) <<< ((32 : Int32).toInt64 &&& 63)) ||| ((v403.toInt64) &&& 4294967295)), .long (((v405.toInt64) <<< ((32 : Int32).toInt64 &&& 63)) ||| ((v407.toInt64) &&& 4294967295)), .int v409, .int v411]) (rest := []) hx hb hml hown hT hK hZ hA hI (ci := 7) rfl e416 (m_M_place l hst D g0 o9 v399 (((v401.toInt64) <<< ((32 : Int32).toInt64 &&& 63)) ||| ((v403.toInt64) &&& 4294967295)) (((v405.toInt64) <<< ((32 : Int32).toInt64 &&& 63)) ||| ((v407.toInt64) &&& 4294967295)) v409 v411 w u413 e414) ce_M_place wd_940 wd_942 ⟨by decide, by decide⟩ rfl rfl hl.1 rfl (lv_room (Nat.le_of_ble_eq_true rfl)) d_law_1590 ⟨(show ((16015 - (n + 1) * 31) + 7) + 0 ≤ 601024 by omega), (show ((905842 - (n + 1) * 1745) + 99) + 0 ≤ 7293000 by omega)⟩) hI hA hexc (show ((16015 - (n + 1) * 31) + 7) + 0 ≤ 601024 by omega) (show ((905842 - (n + 1) * 1745) + 99) + 0 ≤ 7293000 by omega) (fun v417 w H locs h hI => ?_)
          refine lv_istore (lv' := [(6, .int v417), (5, .int v398), (0, .ref a0), (1, .ref o1), (2, .ref o9), (3, .ref o17), (4, .int z51)]) hx hb d_law_1593 hl (by decide) rfl (fun ls hl => ?_)
          refine lv_aload_n hx hb d_law_1595 rfl (lv_at hl 4 rfl) ?_
          obtain ⟨q420, e421, h⟩ := gb h
          obtain ⟨u418, e419⟩ := gsome h
          refine gw_callI e419 h (gw_runV (As := []) (rest := []) hx hb hml hown hT hK hZ hA hI (ci := 7) rfl e421 (m_M_thrown l hst D g0 o9 w u418 e419) ce_M_thrown wd_868 wd_870 ⟨by decide, by decide⟩ rfl rfl hl.1 rfl (lv_room (Nat.le_of_ble_eq_true rfl)) d_law_1596 ⟨(show ((16015 - (n + 1) * 31) + 7) + 0 ≤ 601024 by omega), (show ((905842 - (n + 1) * 1745) + 99) + 0 ≤ 7293000 by omega)⟩) hI hA hexc (show ((16015 - (n + 1) * 31) + 7) + 0 ≤ 601024 by omega) (show ((905842 - (n + 1) * 1745) + 99) + 0 ≤ 7293000 by omega) (fun v422 w H locs h hI => ?_)
          refine lv_iload hx hb d_law_1599 (lv_at hl 1 rfl) ?_
          refine lv_icmp_eq (tgt := 1606) hx hb d_law_1601 (by decide) (fun c423 => ?_) (fun c423 => ?_)
          · skip
            have h := git c423 h
            refine lv_iload hx hb d_law_1606 (lv_at hl 1 rfl) ?_
            obtain ⟨K1623, eK1623, h⟩ := gj h
            have hK1623 : ∀ (w : gW) (H : Heap) (locs : List Loc) (ls : Array Slot), K1623 w = some r → gI D s A w H locs → lv_has ls 8 [(0, .ref a0), (1, .ref o1), (2, .ref o9), (3, .ref o17), (4, .int z51)] → W p l e rm_law s m args below meth c H locs ((16015 - (n + 1) * 31) + 7) ((905842 - (n + 1) * 1745) + 99) Q (F0 m 1623 ls []) := by
              intro w H locs ls h hI hl
              have h := gk1 eK1623 h
              refine lv_goto (tgt := 2507) hx hb d_law_1623 (by decide) ?_
              refine W.widen (k := ((16015 - (n + 1) * 31) + 31)) (n := ((905842 - (n + 1) * 1745) + 1745)) (show ((16015 - (n + 1) * 31) + 7) ≤ ((16015 - (n + 1) * 31) + 31) by omega) (show ((905842 - (n + 1) * 1745) + 99) ≤ ((905842 - (n + 1) * 1745) + 1745) by omega) ?_
              exact hK2507 w H locs ls h hI (lv_sub hl [0, 1, 2, 3, 4] rfl)
            refine lv_if_ne (tgt := 1623) hx hb d_law_1608 (by decide) (fun c424 => ?_) (fun c424 => ?_)
            · skip
              have h := gie c424 h
              exact hK1623 w H locs ls h hI (lv_sub hl [2, 3, 4, 5, 6] rfl)
            · skip
              have h := git c424 h
              refine lv_aload_n hx hb d_law_1611 rfl (lv_at hl 5 rfl) ?_
              refine lv_iconst (v := 0) hx hb d_law_1612 (by decide) ?_
              obtain ⟨v425, e426, h⟩ := gb h
              refine gw_aldJ hx hb hK hI e426 d_law_1613 ?_
              refine lv_iload hx hb d_law_1614 (lv_at hl 0 rfl) ?_
              refine lv_i2l (v := v417.toInt64) hx hb d_law_1616 rfl ?_
              refine W.lcmp hx hb d_law_1617 ?_
              refine lv_if_eq (tgt := 1623) hx hb d_law_1618 (by decide) (fun c427 => ?_) (fun c427 => ?_)
              · have c427 := (lg_cmp_eq _ _).mp c427
                have h := git c427 h
                exact hK1623 w H locs ls h hI (lv_sub hl [2, 3, 4, 5, 6] rfl)
              · have c427 := mt (lg_cmp_eq _ _).mpr c427
                have h := gie c427 h
                refine W.widen (k := 16015) (n := 905842) (show ((16015 - (n + 1) * 31) + 7) ≤ 16015 by omega) (show ((905842 - (n + 1) * 1745) + 99) ≤ 905842 by omega) ?_
                exact hK1621 w H locs ls h hI (lv_sub hl [] rfl)
          · skip
            have h := gie c423 h
            refine W.widen (k := 16015) (n := 905842) (show ((16015 - (n + 1) * 31) + 7) ≤ 16015 by omega) (show ((905842 - (n + 1) * 1745) + 99) ≤ 905842 by omega) ?_
            exact hK1604 w H locs ls h hI (lv_sub hl [] rfl)
        have h := gie c381 h
        rcases Decidable.em ((v55 &&& 31) = 8) with c428 | c428
        · have h := git c428 h
          refine lv_tableIn (off := 1574) (tgt := 1626) hx hb d_law_52 (by rw [c428]; decide) (by rw [c428]; decide) (by rw [c428]; decide) (by decide) ?_
          refine lv_aload_n hx hb d_law_1626 rfl (lv_at hl 1 rfl) ?_
          refine lv_aload_n hx hb d_law_1627 rfl (lv_at hl 0 rfl) ?_
          refine lv_iload hx hb d_law_1628 (lv_at hl 4 rfl) ?_
          refine lv_iconst (v := 1) hx hb d_law_1630 (by decide) ?_
          refine lv_iadd hx hb d_law_1631 ?_
          obtain ⟨v429, e430, h⟩ := gb h
          refine gw_aldI hx hb hK hI e430 d_law_1632 ?_
          refine lv_aload_n hx hb d_law_1633 rfl (lv_at hl 0 rfl) ?_
          refine lv_iload hx hb d_law_1634 (lv_at hl 4 rfl) ?_
          refine lv_iconst (v := 2) hx hb d_law_1636 (by decide) ?_
          refine lv_iadd hx hb d_law_1637 ?_
          obtain ⟨v431, e432, h⟩ := gb h
          refine gw_aldI hx hb hK hI e432 d_law_1638 ?_
          refine lv_i2l (v := v431.toInt64) hx hb d_law_1639 rfl ?_
          refine lv_bipush (v := 32) hx hb d_law_1640 (by decide) ?_
          refine lv_lshl (v := (v431.toInt64) <<< ((32 : Int32).toInt64 &&& 63)) hx hb d_law_1642 rfl ?_
          refine lv_aload_n hx hb d_law_1643 rfl (lv_at hl 0 rfl) ?_
          refine lv_iload hx hb d_law_1644 (lv_at hl 4 rfl) ?_
          refine lv_iconst (v := 3) hx hb d_law_1646 (by decide) ?_
          refine lv_iadd hx hb d_law_1647 ?_
          obtain ⟨v433, e434, h⟩ := gb h
          refine gw_aldI hx hb hK hI e434 d_law_1648 ?_
          refine lv_i2l (v := v433.toInt64) hx hb d_law_1649 rfl ?_
          refine lv_ldc2 (v := 4294967295) hx hb hown (hT _ wd_1121 args) d_law_1650 ?_
          refine lv_land hx hb d_law_1653 ?_
          refine lv_lor hx hb d_law_1654 ?_
          refine lv_aload_n hx hb d_law_1655 rfl (lv_at hl 0 rfl) ?_
          refine lv_iload hx hb d_law_1656 (lv_at hl 4 rfl) ?_
          refine lv_iconst (v := 4) hx hb d_law_1658 (by decide) ?_
          refine lv_iadd hx hb d_law_1659 ?_
          obtain ⟨v435, e436, h⟩ := gb h
          refine gw_aldI hx hb hK hI e436 d_law_1660 ?_
          refine lv_i2l (v := v435.toInt64) hx hb d_law_1661 rfl ?_
          refine lv_bipush (v := 32) hx hb d_law_1662 (by decide) ?_
          refine lv_lshl (v := (v435.toInt64) <<< ((32 : Int32).toInt64 &&& 63)) hx hb d_law_1664 rfl ?_
          refine lv_aload_n hx hb d_law_1665 rfl (lv_at hl 0 rfl) ?_
          refine lv_iload hx hb d_law_1666 (lv_at hl 4 rfl) ?_
          refine lv_iconst (v := 5) hx hb d_law_1668 (by decide) ?_
          refine lv_iadd hx hb d_law_1669 ?_
          obtain ⟨v437, e438, h⟩ := gb h
          refine gw_aldI hx hb hK hI e438 d_law_1670 ?_
          refine lv_i2l (v := v437.toInt64) hx hb d_law_1671 rfl ?_
          refine lv_ldc2 (v := 4294967295) hx hb hown (hT _ wd_1121 args) d_law_1672 ?_
          refine lv_land hx hb d_law_1675 ?_
          refine lv_lor hx hb d_law_1676 ?_
          refine lv_aload_n hx hb d_law_1677 rfl (lv_at hl 0 rfl) ?_
          refine lv_iload hx hb d_law_1678 (lv_at hl 4 rfl) ?_
          refine lv_bipush (v := 6) hx hb d_law_1680 (by decide) ?_
          refine lv_iadd hx hb d_law_1682 ?_
          obtain ⟨v439, e440, h⟩ := gb h
          refine gw_aldI hx hb hK hI e440 d_law_1683 ?_
          refine lv_aload_n hx hb d_law_1684 rfl (lv_at hl 0 rfl) ?_
          refine lv_iload hx hb d_law_1685 (lv_at hl 4 rfl) ?_
          refine lv_bipush (v := 7) hx hb d_law_1687 (by decide) ?_
          refine lv_iadd hx hb d_law_1689 ?_
          obtain ⟨v441, e442, h⟩ := gb h
          refine gw_aldI hx hb hK hI e442 d_law_1690 ?_
          refine lv_aload_n hx hb d_law_1691 rfl (lv_at hl 3 rfl) ?_
          obtain ⟨u443, e444⟩ := gsome h
          refine gw_callI e444 h (gw_runS (As := [.ref o1, .int v429, .long (((v431.toInt64) <<< ((32 : Int32).toInt64 &&& 63)) ||| ((v433.toInt64) &&& 4294967295)), .long (((v435.toInt64) <<< ((32 : Int32).toInt64 &&& 63)) ||| ((v437.toInt64) &&& 4294967295)), .int v439, .int v441, .ref o17]) (rest := []) hx hb hml hown hT hK hZ hA hI (m_W_move l hst D g0 o1 v429 (((v431.toInt64) <<< ((32 : Int32).toInt64 &&& 63)) ||| ((v433.toInt64) &&& 4294967295)) (((v435.toInt64) <<< ((32 : Int32).toInt64 &&& 63)) ||| ((v437.toInt64) &&& 4294967295)) v439 v441 o17 w u443 e444) ce_W_move wd_675 ⟨by decide, by decide⟩ rfl rfl hl.1 rfl (lv_room (Nat.le_of_ble_eq_true rfl)) d_law_1692 ⟨(show (16015 - (n + 1) * 31) + 5 ≤ 601024 by omega), (show (905842 - (n + 1) * 1745) + 30 ≤ 7293000 by omega)⟩) hI hA hexc (show (16015 - (n + 1) * 31) + 5 ≤ 601024 by omega) (show (905842 - (n + 1) * 1745) + 30 ≤ 7293000 by omega) (fun v445 w H locs h hI => ?_)
          refine W.widen (k := ((16015 - (n + 1) * 31) + 5)) (n := ((905842 - (n + 1) * 1745) + 30)) (show (16015 - (n + 1) * 31) + 5 ≤ ((16015 - (n + 1) * 31) + 5) by omega) (show (905842 - (n + 1) * 1745) + 30 ≤ ((905842 - (n + 1) * 1745) + 30) by omega) ?_
          refine lv_istore (lv' := [(5, .int v445), (0, .ref a0), (1, .ref o1), (2, .ref o9), (3, .ref o17), (4, .int z51)]) hx hb d_law_1695 hl (by decide) rfl (fun ls hl => ?_)
          refine lv_aload_n hx hb d_law_1697 rfl (lv_at hl 3 rfl) ?_
          refine lv_aload_n hx hb d_law_1698 rfl (lv_at hl 1 rfl) ?_
          refine lv_iload hx hb d_law_1699 (lv_at hl 5 rfl) ?_
          refine lv_iconst (v := 1) hx hb d_law_1701 (by decide) ?_
          refine lv_iadd hx hb d_law_1702 ?_
          obtain ⟨v446, e447, h⟩ := gb h
          refine gw_aldI hx hb hK hI e447 d_law_1703 ?_
          refine lv_aload_n hx hb d_law_1704 rfl (lv_at hl 1 rfl) ?_
          refine lv_iload hx hb d_law_1705 (lv_at hl 5 rfl) ?_
          refine lv_iconst (v := 2) hx hb d_law_1707 (by decide) ?_
          refine lv_iadd hx hb d_law_1708 ?_
          obtain ⟨v448, e449, h⟩ := gb h
          refine gw_aldI hx hb hK hI e449 d_law_1709 ?_
          refine lv_i2l (v := v448.toInt64) hx hb d_law_1710 rfl ?_
          refine lv_bipush (v := 32) hx hb d_law_1711 (by decide) ?_
          refine lv_lshl (v := (v448.toInt64) <<< ((32 : Int32).toInt64 &&& 63)) hx hb d_law_1713 rfl ?_
          refine lv_aload_n hx hb d_law_1714 rfl (lv_at hl 1 rfl) ?_
          refine lv_iload hx hb d_law_1715 (lv_at hl 5 rfl) ?_
          refine lv_iconst (v := 3) hx hb d_law_1717 (by decide) ?_
          refine lv_iadd hx hb d_law_1718 ?_
          obtain ⟨v450, e451, h⟩ := gb h
          refine gw_aldI hx hb hK hI e451 d_law_1719 ?_
          refine lv_i2l (v := v450.toInt64) hx hb d_law_1720 rfl ?_
          refine lv_ldc2 (v := 4294967295) hx hb hown (hT _ wd_1121 args) d_law_1721 ?_
          refine lv_land hx hb d_law_1724 ?_
          refine lv_lor hx hb d_law_1725 ?_
          refine lv_aload_n hx hb d_law_1726 rfl (lv_at hl 1 rfl) ?_
          refine lv_iload hx hb d_law_1727 (lv_at hl 5 rfl) ?_
          refine lv_iconst (v := 4) hx hb d_law_1729 (by decide) ?_
          refine lv_iadd hx hb d_law_1730 ?_
          obtain ⟨v452, e453, h⟩ := gb h
          refine gw_aldI hx hb hK hI e453 d_law_1731 ?_
          refine lv_i2l (v := v452.toInt64) hx hb d_law_1732 rfl ?_
          refine lv_bipush (v := 32) hx hb d_law_1733 (by decide) ?_
          refine lv_lshl (v := (v452.toInt64) <<< ((32 : Int32).toInt64 &&& 63)) hx hb d_law_1735 rfl ?_
          refine lv_aload_n hx hb d_law_1736 rfl (lv_at hl 1 rfl) ?_
          refine lv_iload hx hb d_law_1737 (lv_at hl 5 rfl) ?_
          refine lv_iconst (v := 5) hx hb d_law_1739 (by decide) ?_
          refine lv_iadd hx hb d_law_1740 ?_
          obtain ⟨v454, e455, h⟩ := gb h
          refine gw_aldI hx hb hK hI e455 d_law_1741 ?_
          refine lv_i2l (v := v454.toInt64) hx hb d_law_1742 rfl ?_
          refine lv_ldc2 (v := 4294967295) hx hb hown (hT _ wd_1121 args) d_law_1743 ?_
          refine lv_land hx hb d_law_1746 ?_
          refine lv_lor hx hb d_law_1747 ?_
          refine lv_aload_n hx hb d_law_1748 rfl (lv_at hl 1 rfl) ?_
          refine lv_iload hx hb d_law_1749 (lv_at hl 5 rfl) ?_
          refine lv_bipush (v := 6) hx hb d_law_1751 (by decide) ?_
          refine lv_iadd hx hb d_law_1753 ?_
          obtain ⟨v456, e457, h⟩ := gb h
          refine gw_aldI hx hb hK hI e457 d_law_1754 ?_
          refine lv_aload_n hx hb d_law_1755 rfl (lv_at hl 1 rfl) ?_
          refine lv_iload hx hb d_law_1756 (lv_at hl 5 rfl) ?_
          refine lv_bipush (v := 7) hx hb d_law_1758 (by decide) ?_
          refine lv_iadd hx hb d_law_1760 ?_
          obtain ⟨v458, e459, h⟩ := gb h
          refine gw_aldI hx hb hK hI e459 d_law_1761 ?_
          obtain ⟨q462, e463, h⟩ := gb h
          obtain ⟨u460, e461⟩ := gsome h
          refine gw_callI e461 h (gw_runV (As := [.int v446, .long (((v448.toInt64) <<< ((32 : Int32).toInt64 &&& 63)) ||| ((v450.toInt64) &&& 4294967295)), .long (((v452.toInt64) <<< ((32 : Int32).toInt64 &&& 63)) ||| ((v454.toInt64) &&& 4294967295)), .int v456, .int v458]) (rest := []) hx hb hml hown hT hK hZ hA hI (ci := 7) rfl e463 (m_M_move l hst D g0 o9 v446 (((v448.toInt64) <<< ((32 : Int32).toInt64 &&& 63)) ||| ((v450.toInt64) &&& 4294967295)) (((v452.toInt64) <<< ((32 : Int32).toInt64 &&& 63)) ||| ((v454.toInt64) &&& 4294967295)) v456 v458 w u460 e461) ce_M_move wd_951 wd_953 ⟨by decide, by decide⟩ rfl rfl hl.1 rfl (lv_room (Nat.le_of_ble_eq_true rfl)) d_law_1762 ⟨(show ((16015 - (n + 1) * 31) + 5) + 0 ≤ 601024 by omega), (show ((905842 - (n + 1) * 1745) + 30) + 0 ≤ 7293000 by omega)⟩) hI hA hexc (show ((16015 - (n + 1) * 31) + 5) + 0 ≤ 601024 by omega) (show ((905842 - (n + 1) * 1745) + 30) + 0 ≤ 7293000 by omega) (fun v464 w H locs h hI => ?_)
          refine lv_istore (lv' := [(6, .int v464), (5, .int v445), (0, .ref a0), (1, .ref o1), (2, .ref o9), (3, .ref o17), (4, .int z51)]) hx hb d_law_1765 hl (by decide) rfl (fun ls hl => ?_)
          refine lv_aload_n hx hb d_law_1767 rfl (lv_at hl 4 rfl) ?_
          obtain ⟨q467, e468, h⟩ := gb h
          obtain ⟨u465, e466⟩ := gsome h
          refine gw_callI e466 h (gw_runV (As := []) (rest := []) hx hb hml hown hT hK hZ hA hI (ci := 7) rfl e468 (m_M_thrown l hst D g0 o9 w u465 e466) ce_M_thrown wd_868 wd_870 ⟨by decide, by decide⟩ rfl rfl hl.1 rfl (lv_room (Nat.le_of_ble_eq_true rfl)) d_law_1768 ⟨(show ((16015 - (n + 1) * 31) + 5) + 0 ≤ 601024 by omega), (show ((905842 - (n + 1) * 1745) + 30) + 0 ≤ 7293000 by omega)⟩) hI hA hexc (show ((16015 - (n + 1) * 31) + 5) + 0 ≤ 601024 by omega) (show ((905842 - (n + 1) * 1745) + 30) + 0 ≤ 7293000 by omega) (fun v469 w H locs h hI => ?_)
          refine lv_iload hx hb d_law_1771 (lv_at hl 1 rfl) ?_
          refine lv_icmp_eq (tgt := 1778) hx hb d_law_1773 (by decide) (fun c470 => ?_) (fun c470 => ?_)
          · skip
            have h := git c470 h
            refine lv_iload hx hb d_law_1778 (lv_at hl 1 rfl) ?_
            obtain ⟨K1802, eK1802, h⟩ := gj h
            have hK1802 : ∀ (w : gW) (H : Heap) (locs : List Loc) (ls : Array Slot), K1802 w = some r → gI D s A w H locs → lv_has ls 8 [(0, .ref a0), (1, .ref o1), (2, .ref o9), (3, .ref o17), (4, .int z51)] → W p l e rm_law s m args below meth c H locs ((16015 - (n + 1) * 31) + 5) ((905842 - (n + 1) * 1745) + 30) Q (F0 m 1802 ls []) := by
              intro w H locs ls h hI hl
              have h := gk1 eK1802 h
              refine lv_goto (tgt := 2507) hx hb d_law_1802 (by decide) ?_
              refine W.widen (k := ((16015 - (n + 1) * 31) + 31)) (n := ((905842 - (n + 1) * 1745) + 1745)) (show ((16015 - (n + 1) * 31) + 5) ≤ ((16015 - (n + 1) * 31) + 31) by omega) (show ((905842 - (n + 1) * 1745) + 30) ≤ ((905842 - (n + 1) * 1745) + 1745) by omega) ?_
              exact hK2507 w H locs ls h hI (lv_sub hl [0, 1, 2, 3, 4] rfl)
            refine lv_if_ne (tgt := 1802) hx hb d_law_1780 (by decide) (fun c471 => ?_) (fun c471 => ?_)
            · skip
              have h := gie c471 h
              exact hK1802 w H locs ls h hI (lv_sub hl [2, 3, 4, 5, 6] rfl)
            · skip
              have h := git c471 h
              refine lv_aload_n hx hb d_law_1783 rfl (lv_at hl 5 rfl) ?_
              refine lv_iconst (v := 0) hx hb d_law_1784 (by decide) ?_
              obtain ⟨v472, e473, h⟩ := gb h
              refine gw_aldJ hx hb hK hI e473 d_law_1785 ?_
              refine lv_iload hx hb d_law_1786 (lv_at hl 0 rfl) ?_
              obtain ⟨K1796, eK1796, h⟩ := gj h
              have hK1796 : ∀ (y474 : Int64) (w : gW) (H : Heap) (locs : List Loc) (ls : Array Slot), K1796 y474 w = some r → gI D s A w H locs → lv_has ls 8 [(0, .ref a0), (1, .ref o1), (2, .ref o9), (3, .ref o17), (4, .int z51)] → W p l e rm_law s m args below meth c H locs ((16015 - (n + 1) * 31) + 5) ((905842 - (n + 1) * 1745) + 30) Q (F0 m 1796 ls [.long y474, .long v472]) := by
                intro y474 w H locs ls h hI hl
                have h := gk2 eK1796 h
                refine W.lcmp hx hb d_law_1796 ?_
                refine lv_if_eq (tgt := 1802) hx hb d_law_1797 (by decide) (fun c475 => ?_) (fun c475 => ?_)
                · have c475 := (lg_cmp_eq _ _).mp c475
                  have h := git c475 h
                  exact hK1802 w H locs ls h hI (lv_sub hl [0, 1, 2, 3, 4] rfl)
                · have c475 := mt (lg_cmp_eq _ _).mpr c475
                  have h := gie c475 h
                  refine W.widen (k := 16015) (n := 905842) (show ((16015 - (n + 1) * 31) + 5) ≤ 16015 by omega) (show ((905842 - (n + 1) * 1745) + 30) ≤ 905842 by omega) ?_
                  exact hK1800 w H locs ls h hI (lv_sub hl [] rfl)
              refine lv_if_eq (tgt := 1795) hx hb d_law_1788 (by decide) (fun c476 => ?_) (fun c476 => ?_)
              · skip
                have h := git c476 h
                refine lv_lconst (v := 0) hx hb d_law_1795 (by decide) ?_
                exact hK1796 _ w H locs ls h hI (lv_sub hl [2, 3, 4, 5, 6] rfl)
              · skip
                have h := gie c476 h
                refine lv_lconst (v := 1) hx hb d_law_1791 (by decide) ?_
                refine lv_goto (tgt := 1796) hx hb d_law_1792 (by decide) ?_
                exact hK1796 _ w H locs ls h hI (lv_sub hl [2, 3, 4, 5, 6] rfl)
          · skip
            have h := gie c470 h
            refine W.widen (k := 16015) (n := 905842) (show ((16015 - (n + 1) * 31) + 5) ≤ 16015 by omega) (show ((905842 - (n + 1) * 1745) + 30) ≤ 905842 by omega) ?_
            exact hK1776 w H locs ls h hI (lv_sub hl [] rfl)
        have h := gie c428 h
        rcases Decidable.em ((v55 &&& 31) = 9) with c477 | c477
        · have h := git c477 h
          refine lv_tableIn (off := 1753) (tgt := 1805) hx hb d_law_52 (by rw [c477]; decide) (by rw [c477]; decide) (by rw [c477]; decide) (by decide) ?_
          refine lv_aload_n hx hb d_law_1805 rfl (lv_at hl 1 rfl) ?_
          refine lv_aload_n hx hb d_law_1806 rfl (lv_at hl 0 rfl) ?_
          refine lv_iload hx hb d_law_1807 (lv_at hl 4 rfl) ?_
          refine lv_iconst (v := 1) hx hb d_law_1809 (by decide) ?_
          refine lv_iadd hx hb d_law_1810 ?_
          obtain ⟨v478, e479, h⟩ := gb h
          refine gw_aldI hx hb hK hI e479 d_law_1811 ?_
          refine lv_aload_n hx hb d_law_1812 rfl (lv_at hl 0 rfl) ?_
          refine lv_iload hx hb d_law_1813 (lv_at hl 4 rfl) ?_
          refine lv_iconst (v := 2) hx hb d_law_1815 (by decide) ?_
          refine lv_iadd hx hb d_law_1816 ?_
          obtain ⟨v480, e481, h⟩ := gb h
          refine gw_aldI hx hb hK hI e481 d_law_1817 ?_
          refine lv_aload_n hx hb d_law_1818 rfl (lv_at hl 3 rfl) ?_
          obtain ⟨u482, e483⟩ := gsome h
          refine gw_callI e483 h (gw_runS (As := [.ref o1, .int v478, .int v480, .ref o17]) (rest := []) hx hb hml hown hT hK hZ hA hI (m_W_clash l hst D g0 o1 v478 v480 o17 w u482 e483) ce_W_clash wd_690 ⟨by decide, by decide⟩ rfl rfl hl.1 rfl (lv_room (Nat.le_of_ble_eq_true rfl)) d_law_1819 ⟨(show (16015 - (n + 1) * 31) + 2 ≤ 601024 by omega), (show (905842 - (n + 1) * 1745) + 12 ≤ 7293000 by omega)⟩) hI hA hexc (show (16015 - (n + 1) * 31) + 2 ≤ 601024 by omega) (show (905842 - (n + 1) * 1745) + 12 ≤ 7293000 by omega) (fun v484 w H locs h hI => ?_)
          refine W.widen (k := ((16015 - (n + 1) * 31) + 2)) (n := ((905842 - (n + 1) * 1745) + 12)) (show (16015 - (n + 1) * 31) + 2 ≤ ((16015 - (n + 1) * 31) + 2) by omega) (show (905842 - (n + 1) * 1745) + 12 ≤ ((905842 - (n + 1) * 1745) + 12) by omega) ?_
          refine lv_istore (lv' := [(5, .int v484), (0, .ref a0), (1, .ref o1), (2, .ref o9), (3, .ref o17), (4, .int z51)]) hx hb d_law_1822 hl (by decide) rfl (fun ls hl => ?_)
          refine lv_aload_n hx hb d_law_1824 rfl (lv_at hl 3 rfl) ?_
          refine lv_aload_n hx hb d_law_1825 rfl (lv_at hl 1 rfl) ?_
          refine lv_iload hx hb d_law_1826 (lv_at hl 5 rfl) ?_
          refine lv_iconst (v := 1) hx hb d_law_1828 (by decide) ?_
          refine lv_iadd hx hb d_law_1829 ?_
          obtain ⟨v485, e486, h⟩ := gb h
          refine gw_aldI hx hb hK hI e486 d_law_1830 ?_
          refine lv_aload_n hx hb d_law_1831 rfl (lv_at hl 1 rfl) ?_
          refine lv_iload hx hb d_law_1832 (lv_at hl 5 rfl) ?_
          refine lv_iconst (v := 2) hx hb d_law_1834 (by decide) ?_
          refine lv_iadd hx hb d_law_1835 ?_
          obtain ⟨v487, e488, h⟩ := gb h
          refine gw_aldI hx hb hK hI e488 d_law_1836 ?_
          obtain ⟨q491, e492, h⟩ := gb h
          obtain ⟨u489, e490⟩ := gsome h
          refine gw_callI e490 h (gw_runV (As := [.int v485, .int v487]) (rest := []) hx hb hml hown hT hK hZ hA hI (ci := 7) rfl e492 (m_M_clash l hst D g0 o9 v485 v487 w u489 e490) ce_M_clash wd_959 wd_961 ⟨by decide, by decide⟩ rfl rfl hl.1 rfl (lv_room (Nat.le_of_ble_eq_true rfl)) d_law_1837 ⟨(show ((16015 - (n + 1) * 31) + 2) + 0 ≤ 601024 by omega), (show ((905842 - (n + 1) * 1745) + 12) + 0 ≤ 7293000 by omega)⟩) hI hA hexc (show ((16015 - (n + 1) * 31) + 2) + 0 ≤ 601024 by omega) (show ((905842 - (n + 1) * 1745) + 12) + 0 ≤ 7293000 by omega) (fun v493 w H locs h hI => ?_)
          refine lv_istore (lv' := [(6, .int v493), (5, .int v484), (0, .ref a0), (1, .ref o1), (2, .ref o9), (3, .ref o17), (4, .int z51)]) hx hb d_law_1840 hl (by decide) rfl (fun ls hl => ?_)
          refine lv_aload_n hx hb d_law_1842 rfl (lv_at hl 4 rfl) ?_
          obtain ⟨q496, e497, h⟩ := gb h
          obtain ⟨u494, e495⟩ := gsome h
          refine gw_callI e495 h (gw_runV (As := []) (rest := []) hx hb hml hown hT hK hZ hA hI (ci := 7) rfl e497 (m_M_thrown l hst D g0 o9 w u494 e495) ce_M_thrown wd_868 wd_870 ⟨by decide, by decide⟩ rfl rfl hl.1 rfl (lv_room (Nat.le_of_ble_eq_true rfl)) d_law_1843 ⟨(show ((16015 - (n + 1) * 31) + 2) + 0 ≤ 601024 by omega), (show ((905842 - (n + 1) * 1745) + 12) + 0 ≤ 7293000 by omega)⟩) hI hA hexc (show ((16015 - (n + 1) * 31) + 2) + 0 ≤ 601024 by omega) (show ((905842 - (n + 1) * 1745) + 12) + 0 ≤ 7293000 by omega) (fun v498 w H locs h hI => ?_)
          refine lv_iload hx hb d_law_1846 (lv_at hl 1 rfl) ?_
          refine lv_icmp_eq (tgt := 1853) hx hb d_law_1848 (by decide) (fun c499 => ?_) (fun c499 => ?_)
          · skip
            have h := git c499 h
            refine lv_iload hx hb d_law_1853 (lv_at hl 1 rfl) ?_
            obtain ⟨K1870, eK1870, h⟩ := gj h
            have hK1870 : ∀ (w : gW) (H : Heap) (locs : List Loc) (ls : Array Slot), K1870 w = some r → gI D s A w H locs → lv_has ls 8 [(0, .ref a0), (1, .ref o1), (2, .ref o9), (3, .ref o17), (4, .int z51)] → W p l e rm_law s m args below meth c H locs ((16015 - (n + 1) * 31) + 2) ((905842 - (n + 1) * 1745) + 12) Q (F0 m 1870 ls []) := by
              intro w H locs ls h hI hl
              have h := gk1 eK1870 h
              refine lv_goto (tgt := 2507) hx hb d_law_1870 (by decide) ?_
              refine W.widen (k := ((16015 - (n + 1) * 31) + 31)) (n := ((905842 - (n + 1) * 1745) + 1745)) (show ((16015 - (n + 1) * 31) + 2) ≤ ((16015 - (n + 1) * 31) + 31) by omega) (show ((905842 - (n + 1) * 1745) + 12) ≤ ((905842 - (n + 1) * 1745) + 1745) by omega) ?_
              exact hK2507 w H locs ls h hI (lv_sub hl [0, 1, 2, 3, 4] rfl)
            refine lv_if_ne (tgt := 1870) hx hb d_law_1855 (by decide) (fun c500 => ?_) (fun c500 => ?_)
            · skip
              have h := gie c500 h
              exact hK1870 w H locs ls h hI (lv_sub hl [2, 3, 4, 5, 6] rfl)
            · skip
              have h := git c500 h
              refine lv_aload_n hx hb d_law_1858 rfl (lv_at hl 5 rfl) ?_
              refine lv_iconst (v := 0) hx hb d_law_1859 (by decide) ?_
              obtain ⟨v501, e502, h⟩ := gb h
              refine gw_aldJ hx hb hK hI e502 d_law_1860 ?_
              refine lv_iload hx hb d_law_1861 (lv_at hl 0 rfl) ?_
              refine lv_i2l (v := v493.toInt64) hx hb d_law_1863 rfl ?_
              refine W.lcmp hx hb d_law_1864 ?_
              refine lv_if_eq (tgt := 1870) hx hb d_law_1865 (by decide) (fun c503 => ?_) (fun c503 => ?_)
              · have c503 := (lg_cmp_eq _ _).mp c503
                have h := git c503 h
                exact hK1870 w H locs ls h hI (lv_sub hl [2, 3, 4, 5, 6] rfl)
              · have c503 := mt (lg_cmp_eq _ _).mpr c503
                have h := gie c503 h
                refine W.widen (k := 16015) (n := 905842) (show ((16015 - (n + 1) * 31) + 2) ≤ 16015 by omega) (show ((905842 - (n + 1) * 1745) + 12) ≤ 905842 by omega) ?_
                exact hK1868 w H locs ls h hI (lv_sub hl [] rfl)
          · skip
            have h := gie c499 h
            refine W.widen (k := 16015) (n := 905842) (show ((16015 - (n + 1) * 31) + 2) ≤ 16015 by omega) (show ((905842 - (n + 1) * 1745) + 12) ≤ 905842 by omega) ?_
            exact hK1851 w H locs ls h hI (lv_sub hl [] rfl)
        have h := gie c477 h
        rcases Decidable.em ((v55 &&& 31) = 10) with c504 | c504
        · have h := git c504 h
          refine lv_tableIn (off := 1821) (tgt := 1873) hx hb d_law_52 (by rw [c504]; decide) (by rw [c504]; decide) (by rw [c504]; decide) (by decide) ?_
          refine lv_aload_n hx hb d_law_1873 rfl (lv_at hl 1 rfl) ?_
          obtain ⟨q507, e508, h⟩ := gb h
          obtain ⟨u505, e506⟩ := gsome h
          refine gw_callI e506 h (gw_runV (As := []) (rest := []) hx hb hml hown hT hK hZ hA hI (ci := 0) rfl e508 (m_B_clashes l hst D g0 o1 w u505 e506) ce_B_clashes wd_308 wd_310 ⟨by decide, by decide⟩ rfl rfl hl.1 rfl (lv_room (Nat.le_of_ble_eq_true rfl)) d_law_1874 ⟨(show (16015 - (n + 1) * 31) + 0 ≤ 601024 by omega), (show (905842 - (n + 1) * 1745) + 0 ≤ 7293000 by omega)⟩) hI hA hexc (show (16015 - (n + 1) * 31) + 0 ≤ 601024 by omega) (show (905842 - (n + 1) * 1745) + 0 ≤ 7293000 by omega) (fun v509 w H locs h hI => ?_)
          refine lv_aload_n hx hb d_law_1877 rfl (lv_at hl 2 rfl) ?_
          obtain ⟨q512, e513, h⟩ := gb h
          obtain ⟨u510, e511⟩ := gsome h
          refine gw_callI e511 h (gw_runV (As := []) (rest := [.int v509]) hx hb hml hown hT hK hZ hA hI (ci := 7) rfl e513 (m_M_clashes l hst D g0 o9 w u510 e511) ce_M_clashes wd_1067 wd_1069 ⟨by decide, by decide⟩ rfl rfl hl.1 rfl (lv_room (Nat.le_of_ble_eq_true rfl)) d_law_1878 ⟨(show (16015 - (n + 1) * 31) + 0 ≤ 601024 by omega), (show (905842 - (n + 1) * 1745) + 0 ≤ 7293000 by omega)⟩) hI hA hexc (show (16015 - (n + 1) * 31) + 0 ≤ 601024 by omega) (show (905842 - (n + 1) * 1745) + 0 ≤ 7293000 by omega) (fun v514 w H locs h hI => ?_)
          refine lv_icmp_eq (tgt := 2507) hx hb d_law_1881 (by decide) (fun c515 => ?_) (fun c515 => ?_)
          · skip
            have h := git c515 h
            refine W.widen (k := ((16015 - (n + 1) * 31) + 31)) (n := ((905842 - (n + 1) * 1745) + 1745)) (show (16015 - (n + 1) * 31) ≤ ((16015 - (n + 1) * 31) + 31) by omega) (show (905842 - (n + 1) * 1745) ≤ ((905842 - (n + 1) * 1745) + 1745) by omega) ?_
            exact hK2507 w H locs ls h hI (lv_sub hl [0, 1, 2, 3, 4] rfl)
          · skip
            have h := gie c515 h
            refine W.widen (k := 16015) (n := 905842) (show (16015 - (n + 1) * 31) ≤ 16015 by omega) (show (905842 - (n + 1) * 1745) ≤ 905842 by omega) ?_
            exact hK1884 w H locs ls h hI (lv_sub hl [] rfl)
        have h := gie c504 h
        rcases Decidable.em ((v55 &&& 31) = 11) with c516 | c516
        · have h := git c516 h
          refine lv_tableIn (off := 1834) (tgt := 1886) hx hb d_law_52 (by rw [c516]; decide) (by rw [c516]; decide) (by rw [c516]; decide) (by decide) ?_
          refine lv_aload_n hx hb d_law_1886 rfl (lv_at hl 1 rfl) ?_
          refine lv_aload_n hx hb d_law_1887 rfl (lv_at hl 0 rfl) ?_
          refine lv_iload hx hb d_law_1888 (lv_at hl 4 rfl) ?_
          refine lv_iconst (v := 1) hx hb d_law_1890 (by decide) ?_
          refine lv_iadd hx hb d_law_1891 ?_
          obtain ⟨v517, e518, h⟩ := gb h
          refine gw_aldI hx hb hK hI e518 d_law_1892 ?_
          refine lv_aload_n hx hb d_law_1893 rfl (lv_at hl 0 rfl) ?_
          refine lv_iload hx hb d_law_1894 (lv_at hl 4 rfl) ?_
          refine lv_iconst (v := 2) hx hb d_law_1896 (by decide) ?_
          refine lv_iadd hx hb d_law_1897 ?_
          obtain ⟨v519, e520, h⟩ := gb h
          refine gw_aldI hx hb hK hI e520 d_law_1898 ?_
          refine lv_aload_n hx hb d_law_1899 rfl (lv_at hl 3 rfl) ?_
          obtain ⟨u521, e522⟩ := gsome h
          refine gw_callI e522 h (gw_runS (As := [.ref o1, .int v517, .int v519, .ref o17]) (rest := []) hx hb hml hown hT hK hZ hA hI (m_W_pair l hst D g0 o1 v517 v519 o17 w u521 e522) ce_W_pair wd_697 ⟨by decide, by decide⟩ rfl rfl hl.1 rfl (lv_room (Nat.le_of_ble_eq_true rfl)) d_law_1900 ⟨(show (16015 - (n + 1) * 31) + 1 ≤ 601024 by omega), (show (905842 - (n + 1) * 1745) + 6 ≤ 7293000 by omega)⟩) hI hA hexc (show (16015 - (n + 1) * 31) + 1 ≤ 601024 by omega) (show (905842 - (n + 1) * 1745) + 6 ≤ 7293000 by omega) (fun v523 w H locs h hI => ?_)
          refine W.widen (k := ((16015 - (n + 1) * 31) + 1)) (n := ((905842 - (n + 1) * 1745) + 6)) (show (16015 - (n + 1) * 31) + 1 ≤ ((16015 - (n + 1) * 31) + 1) by omega) (show (905842 - (n + 1) * 1745) + 6 ≤ ((905842 - (n + 1) * 1745) + 6) by omega) ?_
          refine lv_istore (lv' := [(5, .int v523), (0, .ref a0), (1, .ref o1), (2, .ref o9), (3, .ref o17), (4, .int z51)]) hx hb d_law_1903 hl (by decide) rfl (fun ls hl => ?_)
          refine lv_aload_n hx hb d_law_1905 rfl (lv_at hl 3 rfl) ?_
          refine lv_aload_n hx hb d_law_1906 rfl (lv_at hl 1 rfl) ?_
          refine lv_iload hx hb d_law_1907 (lv_at hl 5 rfl) ?_
          refine lv_iconst (v := 1) hx hb d_law_1909 (by decide) ?_
          refine lv_iadd hx hb d_law_1910 ?_
          obtain ⟨v524, e525, h⟩ := gb h
          refine gw_aldI hx hb hK hI e525 d_law_1911 ?_
          refine lv_aload_n hx hb d_law_1912 rfl (lv_at hl 1 rfl) ?_
          refine lv_iload hx hb d_law_1913 (lv_at hl 5 rfl) ?_
          refine lv_iconst (v := 2) hx hb d_law_1915 (by decide) ?_
          refine lv_iadd hx hb d_law_1916 ?_
          obtain ⟨v526, e527, h⟩ := gb h
          refine gw_aldI hx hb hK hI e527 d_law_1917 ?_
          obtain ⟨q530, e531, h⟩ := gb h
          obtain ⟨u528, e529⟩ := gsome h
          refine gw_callI e529 h (gw_runV (As := [.int v524, .int v526]) (rest := []) hx hb hml hown hT hK hZ hA hI (ci := 7) rfl e531 (m_M_pair l hst D g0 o9 v524 v526 w u528 e529) ce_M_pair wd_1071 wd_1073 ⟨by decide, by decide⟩ rfl rfl hl.1 rfl (lv_room (Nat.le_of_ble_eq_true rfl)) d_law_1918 ⟨(show ((16015 - (n + 1) * 31) + 1) + 0 ≤ 601024 by omega), (show ((905842 - (n + 1) * 1745) + 6) + 0 ≤ 7293000 by omega)⟩) hI hA hexc (show ((16015 - (n + 1) * 31) + 1) + 0 ≤ 601024 by omega) (show ((905842 - (n + 1) * 1745) + 6) + 0 ≤ 7293000 by omega) (fun v532 w H locs h hI => ?_)
          refine lv_istore (lv' := [(6, .int v532), (5, .int v523), (0, .ref a0), (1, .ref o1), (2, .ref o9), (3, .ref o17), (4, .int z51)]) hx hb d_law_1921 hl (by decide) rfl (fun ls hl => ?_)
          refine lv_aload_n hx hb d_law_1923 rfl (lv_at hl 4 rfl) ?_
          obtain ⟨q535, e536, h⟩ := gb h
          obtain ⟨u533, e534⟩ := gsome h
          refine gw_callI e534 h (gw_runV (As := []) (rest := []) hx hb hml hown hT hK hZ hA hI (ci := 7) rfl e536 (m_M_thrown l hst D g0 o9 w u533 e534) ce_M_thrown wd_868 wd_870 ⟨by decide, by decide⟩ rfl rfl hl.1 rfl (lv_room (Nat.le_of_ble_eq_true rfl)) d_law_1924 ⟨(show ((16015 - (n + 1) * 31) + 1) + 0 ≤ 601024 by omega), (show ((905842 - (n + 1) * 1745) + 6) + 0 ≤ 7293000 by omega)⟩) hI hA hexc (show ((16015 - (n + 1) * 31) + 1) + 0 ≤ 601024 by omega) (show ((905842 - (n + 1) * 1745) + 6) + 0 ≤ 7293000 by omega) (fun v537 w H locs h hI => ?_)
          refine lv_iload hx hb d_law_1927 (lv_at hl 1 rfl) ?_
          refine lv_icmp_eq (tgt := 1934) hx hb d_law_1929 (by decide) (fun c538 => ?_) (fun c538 => ?_)
          · skip
            have h := git c538 h
            refine lv_iload hx hb d_law_1934 (lv_at hl 1 rfl) ?_
            obtain ⟨K1951, eK1951, h⟩ := gj h
            have hK1951 : ∀ (w : gW) (H : Heap) (locs : List Loc) (ls : Array Slot), K1951 w = some r → gI D s A w H locs → lv_has ls 8 [(0, .ref a0), (1, .ref o1), (2, .ref o9), (3, .ref o17), (4, .int z51)] → W p l e rm_law s m args below meth c H locs ((16015 - (n + 1) * 31) + 1) ((905842 - (n + 1) * 1745) + 6) Q (F0 m 1951 ls []) := by
              intro w H locs ls h hI hl
              have h := gk1 eK1951 h
              refine lv_goto (tgt := 2507) hx hb d_law_1951 (by decide) ?_
              refine W.widen (k := ((16015 - (n + 1) * 31) + 31)) (n := ((905842 - (n + 1) * 1745) + 1745)) (show ((16015 - (n + 1) * 31) + 1) ≤ ((16015 - (n + 1) * 31) + 31) by omega) (show ((905842 - (n + 1) * 1745) + 6) ≤ ((905842 - (n + 1) * 1745) + 1745) by omega) ?_
              exact hK2507 w H locs ls h hI (lv_sub hl [0, 1, 2, 3, 4] rfl)
            refine lv_if_ne (tgt := 1951) hx hb d_law_1936 (by decide) (fun c539 => ?_) (fun c539 => ?_)
            · skip
              have h := gie c539 h
              exact hK1951 w H locs ls h hI (lv_sub hl [2, 3, 4, 5, 6] rfl)
            · skip
              have h := git c539 h
              refine lv_aload_n hx hb d_law_1939 rfl (lv_at hl 5 rfl) ?_
              refine lv_iconst (v := 0) hx hb d_law_1940 (by decide) ?_
              obtain ⟨v540, e541, h⟩ := gb h
              refine gw_aldJ hx hb hK hI e541 d_law_1941 ?_
              refine lv_iload hx hb d_law_1942 (lv_at hl 0 rfl) ?_
              refine lv_i2l (v := v532.toInt64) hx hb d_law_1944 rfl ?_
              refine W.lcmp hx hb d_law_1945 ?_
              refine lv_if_eq (tgt := 1951) hx hb d_law_1946 (by decide) (fun c542 => ?_) (fun c542 => ?_)
              · have c542 := (lg_cmp_eq _ _).mp c542
                have h := git c542 h
                exact hK1951 w H locs ls h hI (lv_sub hl [2, 3, 4, 5, 6] rfl)
              · have c542 := mt (lg_cmp_eq _ _).mpr c542
                have h := gie c542 h
                refine W.widen (k := 16015) (n := 905842) (show ((16015 - (n + 1) * 31) + 1) ≤ 16015 by omega) (show ((905842 - (n + 1) * 1745) + 6) ≤ 905842 by omega) ?_
                exact hK1949 w H locs ls h hI (lv_sub hl [] rfl)
          · skip
            have h := gie c538 h
            refine W.widen (k := 16015) (n := 905842) (show ((16015 - (n + 1) * 31) + 1) ≤ 16015 by omega) (show ((905842 - (n + 1) * 1745) + 6) ≤ 905842 by omega) ?_
            exact hK1932 w H locs ls h hI (lv_sub hl [] rfl)
        have h := gie c516 h
        rcases Decidable.em ((v55 &&& 31) = 12) with c543 | c543
        · have h := git c543 h
          refine lv_tableIn (off := 1902) (tgt := 1954) hx hb d_law_52 (by rw [c543]; decide) (by rw [c543]; decide) (by rw [c543]; decide) (by decide) ?_
          refine lv_aload_n hx hb d_law_1954 rfl (lv_at hl 1 rfl) ?_
          refine lv_aload_n hx hb d_law_1955 rfl (lv_at hl 0 rfl) ?_
          refine lv_iload hx hb d_law_1956 (lv_at hl 4 rfl) ?_
          refine lv_iconst (v := 1) hx hb d_law_1958 (by decide) ?_
          refine lv_iadd hx hb d_law_1959 ?_
          obtain ⟨v544, e545, h⟩ := gb h
          refine gw_aldI hx hb hK hI e545 d_law_1960 ?_
          refine lv_i2l (v := v544.toInt64) hx hb d_law_1961 rfl ?_
          refine lv_bipush (v := 32) hx hb d_law_1962 (by decide) ?_
          refine lv_lshl (v := (v544.toInt64) <<< ((32 : Int32).toInt64 &&& 63)) hx hb d_law_1964 rfl ?_
          refine lv_aload_n hx hb d_law_1965 rfl (lv_at hl 0 rfl) ?_
          refine lv_iload hx hb d_law_1966 (lv_at hl 4 rfl) ?_
          refine lv_iconst (v := 2) hx hb d_law_1968 (by decide) ?_
          refine lv_iadd hx hb d_law_1969 ?_
          obtain ⟨v546, e547, h⟩ := gb h
          refine gw_aldI hx hb hK hI e547 d_law_1970 ?_
          refine lv_i2l (v := v546.toInt64) hx hb d_law_1971 rfl ?_
          refine lv_ldc2 (v := 4294967295) hx hb hown (hT _ wd_1121 args) d_law_1972 ?_
          refine lv_land hx hb d_law_1975 ?_
          refine lv_lor hx hb d_law_1976 ?_
          refine lv_aload_n hx hb d_law_1977 rfl (lv_at hl 0 rfl) ?_
          refine lv_iload hx hb d_law_1978 (lv_at hl 4 rfl) ?_
          refine lv_iconst (v := 3) hx hb d_law_1980 (by decide) ?_
          refine lv_iadd hx hb d_law_1981 ?_
          obtain ⟨v548, e549, h⟩ := gb h
          refine gw_aldI hx hb hK hI e549 d_law_1982 ?_
          refine lv_i2l (v := v548.toInt64) hx hb d_law_1983 rfl ?_
          refine lv_bipush (v := 32) hx hb d_law_1984 (by decide) ?_
          refine lv_lshl (v := (v548.toInt64) <<< ((32 : Int32).toInt64 &&& 63)) hx hb d_law_1986 rfl ?_
          refine lv_aload_n hx hb d_law_1987 rfl (lv_at hl 0 rfl) ?_
          refine lv_iload hx hb d_law_1988 (lv_at hl 4 rfl) ?_
          refine lv_iconst (v := 4) hx hb d_law_1990 (by decide) ?_
          refine lv_iadd hx hb d_law_1991 ?_
          obtain ⟨v550, e551, h⟩ := gb h
          refine gw_aldI hx hb hK hI e551 d_law_1992 ?_
          refine lv_i2l (v := v550.toInt64) hx hb d_law_1993 rfl ?_
          refine lv_ldc2 (v := 4294967295) hx hb hown (hT _ wd_1121 args) d_law_1994 ?_
          refine lv_land hx hb d_law_1997 ?_
          refine lv_lor hx hb d_law_1998 ?_
          refine lv_aload_n hx hb d_law_1999 rfl (lv_at hl 0 rfl) ?_
          refine lv_iload hx hb d_law_2000 (lv_at hl 4 rfl) ?_
          refine lv_iconst (v := 5) hx hb d_law_2002 (by decide) ?_
          refine lv_iadd hx hb d_law_2003 ?_
          obtain ⟨v552, e553, h⟩ := gb h
          refine gw_aldI hx hb hK hI e553 d_law_2004 ?_
          refine lv_i2l (v := v552.toInt64) hx hb d_law_2005 rfl ?_
          refine lv_bipush (v := 32) hx hb d_law_2006 (by decide) ?_
          refine lv_lshl (v := (v552.toInt64) <<< ((32 : Int32).toInt64 &&& 63)) hx hb d_law_2008 rfl ?_
          refine lv_aload_n hx hb d_law_2009 rfl (lv_at hl 0 rfl) ?_
          refine lv_iload hx hb d_law_2010 (lv_at hl 4 rfl) ?_
          refine lv_bipush (v := 6) hx hb d_law_2012 (by decide) ?_
          refine lv_iadd hx hb d_law_2014 ?_
          obtain ⟨v554, e555, h⟩ := gb h
          refine gw_aldI hx hb hK hI e555 d_law_2015 ?_
          refine lv_i2l (v := v554.toInt64) hx hb d_law_2016 rfl ?_
          refine lv_ldc2 (v := 4294967295) hx hb hown (hT _ wd_1121 args) d_law_2017 ?_
          refine lv_land hx hb d_law_2020 ?_
          refine lv_lor hx hb d_law_2021 ?_
          refine lv_aload_n hx hb d_law_2022 rfl (lv_at hl 0 rfl) ?_
          refine lv_iload hx hb d_law_2023 (lv_at hl 4 rfl) ?_
          refine lv_bipush (v := 7) hx hb d_law_2025 (by decide) ?_
          refine lv_iadd hx hb d_law_2027 ?_
          obtain ⟨v556, e557, h⟩ := gb h
          refine gw_aldI hx hb hK hI e557 d_law_2028 ?_
          refine lv_i2l (v := v556.toInt64) hx hb d_law_2029 rfl ?_
          refine lv_bipush (v := 32) hx hb d_law_2030 (by decide) ?_
          refine lv_lshl (v := (v556.toInt64) <<< ((32 : Int32).toInt64 &&& 63)) hx hb d_law_2032 rfl ?_
          refine lv_aload_n hx hb d_law_2033 rfl (lv_at hl 0 rfl) ?_
          refine lv_iload hx hb d_law_2034 (lv_at hl 4 rfl) ?_
          refine lv_bipush (v := 8) hx hb d_law_2036 (by decide) ?_
          refine lv_iadd hx hb d_law_2038 ?_
          obtain ⟨v558, e559, h⟩ := gb h
          refine gw_aldI hx hb hK hI e559 d_law_2039 ?_
          refine lv_i2l (v := v558.toInt64) hx hb d_law_2040 rfl ?_
          refine lv_ldc2 (v := 4294967295) hx hb hown (hT _ wd_1121 args) d_law_2041 ?_
          refine lv_land hx hb d_law_2044 ?_
          refine lv_lor hx hb d_law_2045 ?_
          refine lv_aload_n hx hb d_law_2046 rfl (lv_at hl 0 rfl) ?_
          refine lv_iload hx hb d_law_2047 (lv_at hl 4 rfl) ?_
          refine lv_bipush (v := 9) hx hb d_law_2049 (by decide) ?_
          refine lv_iadd hx hb d_law_2051 ?_
          obtain ⟨v560, e561, h⟩ := gb h
          refine gw_aldI hx hb hK hI e561 d_law_2052 ?_
          refine lv_aload_n hx hb d_law_2053 rfl (lv_at hl 0 rfl) ?_
          refine lv_iload hx hb d_law_2054 (lv_at hl 4 rfl) ?_
          refine lv_bipush (v := 10) hx hb d_law_2056 (by decide) ?_
          refine lv_iadd hx hb d_law_2058 ?_
          obtain ⟨v562, e563, h⟩ := gb h
          refine gw_aldI hx hb hK hI e563 d_law_2059 ?_
          refine lv_i2l (v := v562.toInt64) hx hb d_law_2060 rfl ?_
          refine lv_bipush (v := 32) hx hb d_law_2061 (by decide) ?_
          refine lv_lshl (v := (v562.toInt64) <<< ((32 : Int32).toInt64 &&& 63)) hx hb d_law_2063 rfl ?_
          refine lv_aload_n hx hb d_law_2064 rfl (lv_at hl 0 rfl) ?_
          refine lv_iload hx hb d_law_2065 (lv_at hl 4 rfl) ?_
          refine lv_bipush (v := 11) hx hb d_law_2067 (by decide) ?_
          refine lv_iadd hx hb d_law_2069 ?_
          obtain ⟨v564, e565, h⟩ := gb h
          refine gw_aldI hx hb hK hI e565 d_law_2070 ?_
          refine lv_i2l (v := v564.toInt64) hx hb d_law_2071 rfl ?_
          refine lv_ldc2 (v := 4294967295) hx hb hown (hT _ wd_1121 args) d_law_2072 ?_
          refine lv_land hx hb d_law_2075 ?_
          refine lv_lor hx hb d_law_2076 ?_
          refine lv_aload_n hx hb d_law_2077 rfl (lv_at hl 3 rfl) ?_
          obtain ⟨u566, e567⟩ := gsome h
          refine gw_callI e567 h (gw_runS (As := [.ref o1, .long (((v544.toInt64) <<< ((32 : Int32).toInt64 &&& 63)) ||| ((v546.toInt64) &&& 4294967295)), .long (((v548.toInt64) <<< ((32 : Int32).toInt64 &&& 63)) ||| ((v550.toInt64) &&& 4294967295)), .long (((v552.toInt64) <<< ((32 : Int32).toInt64 &&& 63)) ||| ((v554.toInt64) &&& 4294967295)), .long (((v556.toInt64) <<< ((32 : Int32).toInt64 &&& 63)) ||| ((v558.toInt64) &&& 4294967295)), .int v560, .long (((v562.toInt64) <<< ((32 : Int32).toInt64 &&& 63)) ||| ((v564.toInt64) &&& 4294967295)), .ref o17]) (rest := []) hx hb hml hown hT hK hZ hA hI (m_W_keepOut l hst D g0 o1 (((v544.toInt64) <<< ((32 : Int32).toInt64 &&& 63)) ||| ((v546.toInt64) &&& 4294967295)) (((v548.toInt64) <<< ((32 : Int32).toInt64 &&& 63)) ||| ((v550.toInt64) &&& 4294967295)) (((v552.toInt64) <<< ((32 : Int32).toInt64 &&& 63)) ||| ((v554.toInt64) &&& 4294967295)) (((v556.toInt64) <<< ((32 : Int32).toInt64 &&& 63)) ||| ((v558.toInt64) &&& 4294967295)) v560 (((v562.toInt64) <<< ((32 : Int32).toInt64 &&& 63)) ||| ((v564.toInt64) &&& 4294967295)) o17 w u566 e567) ce_W_keepOut wd_704 ⟨by decide, by decide⟩ rfl rfl hl.1 rfl (lv_room (Nat.le_of_ble_eq_true rfl)) d_law_2078 ⟨(show (16015 - (n + 1) * 31) + 11 ≤ 601024 by omega), (show (905842 - (n + 1) * 1745) + 130 ≤ 7293000 by omega)⟩) hI hA hexc (show (16015 - (n + 1) * 31) + 11 ≤ 601024 by omega) (show (905842 - (n + 1) * 1745) + 130 ≤ 7293000 by omega) (fun v568 w H locs h hI => ?_)
          refine W.widen (k := ((16015 - (n + 1) * 31) + 11)) (n := ((905842 - (n + 1) * 1745) + 130)) (show (16015 - (n + 1) * 31) + 11 ≤ ((16015 - (n + 1) * 31) + 11) by omega) (show (905842 - (n + 1) * 1745) + 130 ≤ ((905842 - (n + 1) * 1745) + 130) by omega) ?_
          refine lv_istore (lv' := [(5, .int v568), (0, .ref a0), (1, .ref o1), (2, .ref o9), (3, .ref o17), (4, .int z51)]) hx hb d_law_2081 hl (by decide) rfl (fun ls hl => ?_)
          refine lv_aload_n hx hb d_law_2083 rfl (lv_at hl 3 rfl) ?_
          refine lv_aload_n hx hb d_law_2084 rfl (lv_at hl 1 rfl) ?_
          refine lv_iload hx hb d_law_2085 (lv_at hl 5 rfl) ?_
          refine lv_iconst (v := 1) hx hb d_law_2087 (by decide) ?_
          refine lv_iadd hx hb d_law_2088 ?_
          obtain ⟨v569, e570, h⟩ := gb h
          refine gw_aldI hx hb hK hI e570 d_law_2089 ?_
          refine lv_i2l (v := v569.toInt64) hx hb d_law_2090 rfl ?_
          refine lv_bipush (v := 32) hx hb d_law_2091 (by decide) ?_
          refine lv_lshl (v := (v569.toInt64) <<< ((32 : Int32).toInt64 &&& 63)) hx hb d_law_2093 rfl ?_
          refine lv_aload_n hx hb d_law_2094 rfl (lv_at hl 1 rfl) ?_
          refine lv_iload hx hb d_law_2095 (lv_at hl 5 rfl) ?_
          refine lv_iconst (v := 2) hx hb d_law_2097 (by decide) ?_
          refine lv_iadd hx hb d_law_2098 ?_
          obtain ⟨v571, e572, h⟩ := gb h
          refine gw_aldI hx hb hK hI e572 d_law_2099 ?_
          refine lv_i2l (v := v571.toInt64) hx hb d_law_2100 rfl ?_
          refine lv_ldc2 (v := 4294967295) hx hb hown (hT _ wd_1121 args) d_law_2101 ?_
          refine lv_land hx hb d_law_2104 ?_
          refine lv_lor hx hb d_law_2105 ?_
          refine lv_aload_n hx hb d_law_2106 rfl (lv_at hl 1 rfl) ?_
          refine lv_iload hx hb d_law_2107 (lv_at hl 5 rfl) ?_
          refine lv_iconst (v := 3) hx hb d_law_2109 (by decide) ?_
          refine lv_iadd hx hb d_law_2110 ?_
          obtain ⟨v573, e574, h⟩ := gb h
          refine gw_aldI hx hb hK hI e574 d_law_2111 ?_
          refine lv_i2l (v := v573.toInt64) hx hb d_law_2112 rfl ?_
          refine lv_bipush (v := 32) hx hb d_law_2113 (by decide) ?_
          refine lv_lshl (v := (v573.toInt64) <<< ((32 : Int32).toInt64 &&& 63)) hx hb d_law_2115 rfl ?_
          refine lv_aload_n hx hb d_law_2116 rfl (lv_at hl 1 rfl) ?_
          refine lv_iload hx hb d_law_2117 (lv_at hl 5 rfl) ?_
          refine lv_iconst (v := 4) hx hb d_law_2119 (by decide) ?_
          refine lv_iadd hx hb d_law_2120 ?_
          obtain ⟨v575, e576, h⟩ := gb h
          refine gw_aldI hx hb hK hI e576 d_law_2121 ?_
          refine lv_i2l (v := v575.toInt64) hx hb d_law_2122 rfl ?_
          refine lv_ldc2 (v := 4294967295) hx hb hown (hT _ wd_1121 args) d_law_2123 ?_
          refine lv_land hx hb d_law_2126 ?_
          refine lv_lor hx hb d_law_2127 ?_
          refine lv_aload_n hx hb d_law_2128 rfl (lv_at hl 1 rfl) ?_
          refine lv_iload hx hb d_law_2129 (lv_at hl 5 rfl) ?_
          refine lv_iconst (v := 5) hx hb d_law_2131 (by decide) ?_
          refine lv_iadd hx hb d_law_2132 ?_
          obtain ⟨v577, e578, h⟩ := gb h
          refine gw_aldI hx hb hK hI e578 d_law_2133 ?_
          refine lv_i2l (v := v577.toInt64) hx hb d_law_2134 rfl ?_
          refine lv_bipush (v := 32) hx hb d_law_2135 (by decide) ?_
          refine lv_lshl (v := (v577.toInt64) <<< ((32 : Int32).toInt64 &&& 63)) hx hb d_law_2137 rfl ?_
          refine lv_aload_n hx hb d_law_2138 rfl (lv_at hl 1 rfl) ?_
          refine lv_iload hx hb d_law_2139 (lv_at hl 5 rfl) ?_
          refine lv_bipush (v := 6) hx hb d_law_2141 (by decide) ?_
          refine lv_iadd hx hb d_law_2143 ?_
          obtain ⟨v579, e580, h⟩ := gb h
          refine gw_aldI hx hb hK hI e580 d_law_2144 ?_
          refine lv_i2l (v := v579.toInt64) hx hb d_law_2145 rfl ?_
          refine lv_ldc2 (v := 4294967295) hx hb hown (hT _ wd_1121 args) d_law_2146 ?_
          refine lv_land hx hb d_law_2149 ?_
          refine lv_lor hx hb d_law_2150 ?_
          refine lv_aload_n hx hb d_law_2151 rfl (lv_at hl 1 rfl) ?_
          refine lv_iload hx hb d_law_2152 (lv_at hl 5 rfl) ?_
          refine lv_bipush (v := 7) hx hb d_law_2154 (by decide) ?_
          refine lv_iadd hx hb d_law_2156 ?_
          obtain ⟨v581, e582, h⟩ := gb h
          refine gw_aldI hx hb hK hI e582 d_law_2157 ?_
          refine lv_i2l (v := v581.toInt64) hx hb d_law_2158 rfl ?_
          refine lv_bipush (v := 32) hx hb d_law_2159 (by decide) ?_
          refine lv_lshl (v := (v581.toInt64) <<< ((32 : Int32).toInt64 &&& 63)) hx hb d_law_2161 rfl ?_
          refine lv_aload_n hx hb d_law_2162 rfl (lv_at hl 1 rfl) ?_
          refine lv_iload hx hb d_law_2163 (lv_at hl 5 rfl) ?_
          refine lv_bipush (v := 8) hx hb d_law_2165 (by decide) ?_
          refine lv_iadd hx hb d_law_2167 ?_
          obtain ⟨v583, e584, h⟩ := gb h
          refine gw_aldI hx hb hK hI e584 d_law_2168 ?_
          refine lv_i2l (v := v583.toInt64) hx hb d_law_2169 rfl ?_
          refine lv_ldc2 (v := 4294967295) hx hb hown (hT _ wd_1121 args) d_law_2170 ?_
          refine lv_land hx hb d_law_2173 ?_
          refine lv_lor hx hb d_law_2174 ?_
          refine lv_aload_n hx hb d_law_2175 rfl (lv_at hl 1 rfl) ?_
          refine lv_iload hx hb d_law_2176 (lv_at hl 5 rfl) ?_
          refine lv_bipush (v := 9) hx hb d_law_2178 (by decide) ?_
          refine lv_iadd hx hb d_law_2180 ?_
          obtain ⟨v585, e586, h⟩ := gb h
          refine gw_aldI hx hb hK hI e586 d_law_2181 ?_
          refine lv_aload_n hx hb d_law_2182 rfl (lv_at hl 1 rfl) ?_
          refine lv_iload hx hb d_law_2183 (lv_at hl 5 rfl) ?_
          refine lv_bipush (v := 10) hx hb d_law_2185 (by decide) ?_
          refine lv_iadd hx hb d_law_2187 ?_
          obtain ⟨v587, e588, h⟩ := gb h
          refine gw_aldI hx hb hK hI e588 d_law_2188 ?_
          refine lv_i2l (v := v587.toInt64) hx hb d_law_2189 rfl ?_
          refine lv_bipush (v := 32) hx hb d_law_2190 (by decide) ?_
          refine lv_lshl (v := (v587.toInt64) <<< ((32 : Int32).toInt64 &&& 63)) hx hb d_law_2192 rfl ?_
          refine lv_aload_n hx hb d_law_2193 rfl (lv_at hl 1 rfl) ?_
          refine lv_iload hx hb d_law_2194 (lv_at hl 5 rfl) ?_
          refine lv_bipush (v := 11) hx hb d_law_2196 (by decide) ?_
          refine lv_iadd hx hb d_law_2198 ?_
          obtain ⟨v589, e590, h⟩ := gb h
          refine gw_aldI hx hb hK hI e590 d_law_2199 ?_
          refine lv_i2l (v := v589.toInt64) hx hb d_law_2200 rfl ?_
          refine lv_ldc2 (v := 4294967295) hx hb hown (hT _ wd_1121 args) d_law_2201 ?_
          refine lv_land hx hb d_law_2204 ?_
          refine lv_lor hx hb d_law_2205 ?_
          obtain ⟨q593, e594, h⟩ := gb h
          obtain ⟨u591, e592⟩ := gsome h
          refine gw_callI e592 h (gw_runV (As := [.long (((v569.toInt64) <<< ((32 : Int32).toInt64 &&& 63)) ||| ((v571.toInt64) &&& 4294967295)), .long (((v573.toInt64) <<< ((32 : Int32).toInt64 &&& 63)) ||| ((v575.toInt64) &&& 4294967295)), .long (((v577.toInt64) <<< ((32 : Int32).toInt64 &&& 63)) ||| ((v579.toInt64) &&& 4294967295)), .long (((v581.toInt64) <<< ((32 : Int32).toInt64 &&& 63)) ||| ((v583.toInt64) &&& 4294967295)), .int v585, .long (((v587.toInt64) <<< ((32 : Int32).toInt64 &&& 63)) ||| ((v589.toInt64) &&& 4294967295))]) (rest := []) hx hb hml hown hT hK hZ hA hI (ci := 7) rfl e594 (m_M_keepOut l hst D g0 o9 (((v569.toInt64) <<< ((32 : Int32).toInt64 &&& 63)) ||| ((v571.toInt64) &&& 4294967295)) (((v573.toInt64) <<< ((32 : Int32).toInt64 &&& 63)) ||| ((v575.toInt64) &&& 4294967295)) (((v577.toInt64) <<< ((32 : Int32).toInt64 &&& 63)) ||| ((v579.toInt64) &&& 4294967295)) (((v581.toInt64) <<< ((32 : Int32).toInt64 &&& 63)) ||| ((v583.toInt64) &&& 4294967295)) v585 (((v587.toInt64) <<< ((32 : Int32).toInt64 &&& 63)) ||| ((v589.toInt64) &&& 4294967295)) w u591 e592) ce_M_keepOut wd_1075 wd_1077 ⟨by decide, by decide⟩ rfl rfl hl.1 rfl (lv_room (Nat.le_of_ble_eq_true rfl)) d_law_2206 ⟨(show ((16015 - (n + 1) * 31) + 11) + 0 ≤ 601024 by omega), (show ((905842 - (n + 1) * 1745) + 130) + 0 ≤ 7293000 by omega)⟩) hI hA hexc (show ((16015 - (n + 1) * 31) + 11) + 0 ≤ 601024 by omega) (show ((905842 - (n + 1) * 1745) + 130) + 0 ≤ 7293000 by omega) (fun v595 w H locs h hI => ?_)
          refine lv_istore (lv' := [(6, .int v595), (5, .int v568), (0, .ref a0), (1, .ref o1), (2, .ref o9), (3, .ref o17), (4, .int z51)]) hx hb d_law_2209 hl (by decide) rfl (fun ls hl => ?_)
          refine lv_aload_n hx hb d_law_2211 rfl (lv_at hl 4 rfl) ?_
          obtain ⟨q598, e599, h⟩ := gb h
          obtain ⟨u596, e597⟩ := gsome h
          refine gw_callI e597 h (gw_runV (As := []) (rest := []) hx hb hml hown hT hK hZ hA hI (ci := 7) rfl e599 (m_M_thrown l hst D g0 o9 w u596 e597) ce_M_thrown wd_868 wd_870 ⟨by decide, by decide⟩ rfl rfl hl.1 rfl (lv_room (Nat.le_of_ble_eq_true rfl)) d_law_2212 ⟨(show ((16015 - (n + 1) * 31) + 11) + 0 ≤ 601024 by omega), (show ((905842 - (n + 1) * 1745) + 130) + 0 ≤ 7293000 by omega)⟩) hI hA hexc (show ((16015 - (n + 1) * 31) + 11) + 0 ≤ 601024 by omega) (show ((905842 - (n + 1) * 1745) + 130) + 0 ≤ 7293000 by omega) (fun v600 w H locs h hI => ?_)
          refine lv_iload hx hb d_law_2215 (lv_at hl 1 rfl) ?_
          refine lv_icmp_eq (tgt := 2222) hx hb d_law_2217 (by decide) (fun c601 => ?_) (fun c601 => ?_)
          · skip
            have h := git c601 h
            refine lv_iload hx hb d_law_2222 (lv_at hl 1 rfl) ?_
            obtain ⟨K2246, eK2246, h⟩ := gj h
            have hK2246 : ∀ (w : gW) (H : Heap) (locs : List Loc) (ls : Array Slot), K2246 w = some r → gI D s A w H locs → lv_has ls 8 [(0, .ref a0), (1, .ref o1), (2, .ref o9), (3, .ref o17), (4, .int z51)] → W p l e rm_law s m args below meth c H locs ((16015 - (n + 1) * 31) + 11) ((905842 - (n + 1) * 1745) + 130) Q (F0 m 2246 ls []) := by
              intro w H locs ls h hI hl
              have h := gk1 eK2246 h
              refine lv_goto (tgt := 2507) hx hb d_law_2246 (by decide) ?_
              refine W.widen (k := ((16015 - (n + 1) * 31) + 31)) (n := ((905842 - (n + 1) * 1745) + 1745)) (show ((16015 - (n + 1) * 31) + 11) ≤ ((16015 - (n + 1) * 31) + 31) by omega) (show ((905842 - (n + 1) * 1745) + 130) ≤ ((905842 - (n + 1) * 1745) + 1745) by omega) ?_
              exact hK2507 w H locs ls h hI (lv_sub hl [0, 1, 2, 3, 4] rfl)
            refine lv_if_ne (tgt := 2246) hx hb d_law_2224 (by decide) (fun c602 => ?_) (fun c602 => ?_)
            · skip
              have h := gie c602 h
              exact hK2246 w H locs ls h hI (lv_sub hl [2, 3, 4, 5, 6] rfl)
            · skip
              have h := git c602 h
              refine lv_aload_n hx hb d_law_2227 rfl (lv_at hl 5 rfl) ?_
              refine lv_iconst (v := 0) hx hb d_law_2228 (by decide) ?_
              obtain ⟨v603, e604, h⟩ := gb h
              refine gw_aldJ hx hb hK hI e604 d_law_2229 ?_
              refine lv_iload hx hb d_law_2230 (lv_at hl 0 rfl) ?_
              obtain ⟨K2240, eK2240, h⟩ := gj h
              have hK2240 : ∀ (y605 : Int64) (w : gW) (H : Heap) (locs : List Loc) (ls : Array Slot), K2240 y605 w = some r → gI D s A w H locs → lv_has ls 8 [(0, .ref a0), (1, .ref o1), (2, .ref o9), (3, .ref o17), (4, .int z51)] → W p l e rm_law s m args below meth c H locs ((16015 - (n + 1) * 31) + 11) ((905842 - (n + 1) * 1745) + 130) Q (F0 m 2240 ls [.long y605, .long v603]) := by
                intro y605 w H locs ls h hI hl
                have h := gk2 eK2240 h
                refine W.lcmp hx hb d_law_2240 ?_
                refine lv_if_eq (tgt := 2246) hx hb d_law_2241 (by decide) (fun c606 => ?_) (fun c606 => ?_)
                · have c606 := (lg_cmp_eq _ _).mp c606
                  have h := git c606 h
                  exact hK2246 w H locs ls h hI (lv_sub hl [0, 1, 2, 3, 4] rfl)
                · have c606 := mt (lg_cmp_eq _ _).mpr c606
                  have h := gie c606 h
                  refine W.widen (k := 16015) (n := 905842) (show ((16015 - (n + 1) * 31) + 11) ≤ 16015 by omega) (show ((905842 - (n + 1) * 1745) + 130) ≤ 905842 by omega) ?_
                  exact hK2244 w H locs ls h hI (lv_sub hl [] rfl)
              refine lv_if_eq (tgt := 2239) hx hb d_law_2232 (by decide) (fun c607 => ?_) (fun c607 => ?_)
              · skip
                have h := git c607 h
                refine lv_lconst (v := 0) hx hb d_law_2239 (by decide) ?_
                exact hK2240 _ w H locs ls h hI (lv_sub hl [2, 3, 4, 5, 6] rfl)
              · skip
                have h := gie c607 h
                refine lv_lconst (v := 1) hx hb d_law_2235 (by decide) ?_
                refine lv_goto (tgt := 2240) hx hb d_law_2236 (by decide) ?_
                exact hK2240 _ w H locs ls h hI (lv_sub hl [2, 3, 4, 5, 6] rfl)
          · skip
            have h := gie c601 h
            refine W.widen (k := 16015) (n := 905842) (show ((16015 - (n + 1) * 31) + 11) ≤ 16015 by omega) (show ((905842 - (n + 1) * 1745) + 130) ≤ 905842 by omega) ?_
            exact hK2220 w H locs ls h hI (lv_sub hl [] rfl)
        have h := gie c543 h
        rcases Decidable.em ((v55 &&& 31) = 13) with c608 | c608
        · have h := git c608 h
          refine lv_tableIn (off := 2197) (tgt := 2249) hx hb d_law_52 (by rw [c608]; decide) (by rw [c608]; decide) (by rw [c608]; decide) (by decide) ?_
          refine lv_aload_n hx hb d_law_2249 rfl (lv_at hl 1 rfl) ?_
          refine lv_aload_n hx hb d_law_2250 rfl (lv_at hl 0 rfl) ?_
          refine lv_iload hx hb d_law_2251 (lv_at hl 4 rfl) ?_
          refine lv_iconst (v := 1) hx hb d_law_2253 (by decide) ?_
          refine lv_iadd hx hb d_law_2254 ?_
          obtain ⟨v609, e610, h⟩ := gb h
          refine gw_aldI hx hb hK hI e610 d_law_2255 ?_
          obtain ⟨q613, e614, h⟩ := gb h
          obtain ⟨u611, e612⟩ := gsome h
          refine gw_callI e612 h (gw_runV (As := [.int v609]) (rest := []) hx hb hml hown hT hK hZ hA hI (ci := 0) rfl e614 (m_B_breaks l hst D g0 o1 v609 w u611 e612) ce_B_breaks wd_410 wd_412 ⟨by decide, by decide⟩ rfl rfl hl.1 rfl (lv_room (Nat.le_of_ble_eq_true rfl)) d_law_2256 ⟨(show (16015 - (n + 1) * 31) + 0 ≤ 601024 by omega), (show (905842 - (n + 1) * 1745) + 0 ≤ 7293000 by omega)⟩) hI hA hexc (show (16015 - (n + 1) * 31) + 0 ≤ 601024 by omega) (show (905842 - (n + 1) * 1745) + 0 ≤ 7293000 by omega) (fun v615 w H locs h hI => ?_)
          refine lv_aload_n hx hb d_law_2259 rfl (lv_at hl 2 rfl) ?_
          refine lv_aload_n hx hb d_law_2260 rfl (lv_at hl 0 rfl) ?_
          refine lv_iload hx hb d_law_2261 (lv_at hl 4 rfl) ?_
          refine lv_iconst (v := 1) hx hb d_law_2263 (by decide) ?_
          refine lv_iadd hx hb d_law_2264 ?_
          obtain ⟨v616, e617, h⟩ := gb h
          refine gw_aldI hx hb hK hI e617 d_law_2265 ?_
          obtain ⟨q620, e621, h⟩ := gb h
          obtain ⟨u618, e619⟩ := gsome h
          refine gw_callI e619 h (gw_runV (As := [.int v616]) (rest := [.int v615]) hx hb hml hown hT hK hZ hA hI (ci := 7) rfl e621 (m_M_breaks l hst D g0 o9 v616 w u618 e619) ce_M_breaks wd_1084 wd_1086 ⟨by decide, by decide⟩ rfl rfl hl.1 rfl (lv_room (Nat.le_of_ble_eq_true rfl)) d_law_2266 ⟨(show (16015 - (n + 1) * 31) + 0 ≤ 601024 by omega), (show (905842 - (n + 1) * 1745) + 0 ≤ 7293000 by omega)⟩) hI hA hexc (show (16015 - (n + 1) * 31) + 0 ≤ 601024 by omega) (show (905842 - (n + 1) * 1745) + 0 ≤ 7293000 by omega) (fun v622 w H locs h hI => ?_)
          refine lv_icmp_eq (tgt := 2507) hx hb d_law_2269 (by decide) (fun c623 => ?_) (fun c623 => ?_)
          · skip
            have h := git c623 h
            refine W.widen (k := ((16015 - (n + 1) * 31) + 31)) (n := ((905842 - (n + 1) * 1745) + 1745)) (show (16015 - (n + 1) * 31) ≤ ((16015 - (n + 1) * 31) + 31) by omega) (show (905842 - (n + 1) * 1745) ≤ ((905842 - (n + 1) * 1745) + 1745) by omega) ?_
            exact hK2507 w H locs ls h hI (lv_sub hl [0, 1, 2, 3, 4] rfl)
          · skip
            have h := gie c623 h
            refine W.widen (k := 16015) (n := 905842) (show (16015 - (n + 1) * 31) ≤ 16015 by omega) (show (905842 - (n + 1) * 1745) ≤ 905842 by omega) ?_
            exact hK2272 w H locs ls h hI (lv_sub hl [] rfl)
        have h := gie c608 h
        rcases Decidable.em ((v55 &&& 31) = 14) with c624 | c624
        · have h := git c624 h
          refine lv_tableIn (off := 2222) (tgt := 2274) hx hb d_law_52 (by rw [c624]; decide) (by rw [c624]; decide) (by rw [c624]; decide) (by decide) ?_
          refine lv_aload_n hx hb d_law_2274 rfl (lv_at hl 1 rfl) ?_
          refine lv_aload_n hx hb d_law_2275 rfl (lv_at hl 0 rfl) ?_
          refine lv_iload hx hb d_law_2276 (lv_at hl 4 rfl) ?_
          refine lv_iconst (v := 1) hx hb d_law_2278 (by decide) ?_
          refine lv_iadd hx hb d_law_2279 ?_
          obtain ⟨v625, e626, h⟩ := gb h
          refine gw_aldI hx hb hK hI e626 d_law_2280 ?_
          refine lv_aload_n hx hb d_law_2281 rfl (lv_at hl 0 rfl) ?_
          refine lv_iload hx hb d_law_2282 (lv_at hl 4 rfl) ?_
          refine lv_iconst (v := 2) hx hb d_law_2284 (by decide) ?_
          refine lv_iadd hx hb d_law_2285 ?_
          obtain ⟨v627, e628, h⟩ := gb h
          refine gw_aldI hx hb hK hI e628 d_law_2286 ?_
          refine lv_aload_n hx hb d_law_2287 rfl (lv_at hl 3 rfl) ?_
          obtain ⟨u629, e630⟩ := gsome h
          refine gw_callI e630 h (gw_runS (As := [.ref o1, .int v625, .int v627, .ref o17]) (rest := []) hx hb hml hown hT hK hZ hA hI (m_W_bound l hst D g0 o1 v625 v627 o17 w u629 e630) ce_W_bound wd_728 ⟨by decide, by decide⟩ rfl rfl hl.1 rfl (lv_room (Nat.le_of_ble_eq_true rfl)) d_law_2288 ⟨(show (16015 - (n + 1) * 31) + 3 ≤ 601024 by omega), (show (905842 - (n + 1) * 1745) + 18 ≤ 7293000 by omega)⟩) hI hA hexc (show (16015 - (n + 1) * 31) + 3 ≤ 601024 by omega) (show (905842 - (n + 1) * 1745) + 18 ≤ 7293000 by omega) (fun v631 w H locs h hI => ?_)
          refine W.widen (k := ((16015 - (n + 1) * 31) + 3)) (n := ((905842 - (n + 1) * 1745) + 18)) (show (16015 - (n + 1) * 31) + 3 ≤ ((16015 - (n + 1) * 31) + 3) by omega) (show (905842 - (n + 1) * 1745) + 18 ≤ ((905842 - (n + 1) * 1745) + 18) by omega) ?_
          refine lv_istore (lv' := [(5, .int v631), (0, .ref a0), (1, .ref o1), (2, .ref o9), (3, .ref o17), (4, .int z51)]) hx hb d_law_2291 hl (by decide) rfl (fun ls hl => ?_)
          refine lv_aload_n hx hb d_law_2293 rfl (lv_at hl 3 rfl) ?_
          refine lv_aload_n hx hb d_law_2294 rfl (lv_at hl 1 rfl) ?_
          refine lv_iload hx hb d_law_2295 (lv_at hl 5 rfl) ?_
          refine lv_iconst (v := 1) hx hb d_law_2297 (by decide) ?_
          refine lv_iadd hx hb d_law_2298 ?_
          obtain ⟨v632, e633, h⟩ := gb h
          refine gw_aldI hx hb hK hI e633 d_law_2299 ?_
          refine lv_aload_n hx hb d_law_2300 rfl (lv_at hl 1 rfl) ?_
          refine lv_iload hx hb d_law_2301 (lv_at hl 5 rfl) ?_
          refine lv_iconst (v := 2) hx hb d_law_2303 (by decide) ?_
          refine lv_iadd hx hb d_law_2304 ?_
          obtain ⟨v634, e635, h⟩ := gb h
          refine gw_aldI hx hb hK hI e635 d_law_2305 ?_
          obtain ⟨q638, e639, h⟩ := gb h
          obtain ⟨u636, e637⟩ := gsome h
          refine gw_callJ e637 h (gw_runV (As := [.int v632, .int v634]) (rest := []) hx hb hml hown hT hK hZ hA hI (ci := 7) rfl e639 (m_M_bound l hst D g0 o9 v632 v634 w u636 e637) ce_M_bound wd_1098 wd_1100 ⟨by decide, by decide⟩ rfl rfl hl.1 rfl (lv_room (Nat.le_of_ble_eq_true rfl)) d_law_2306 ⟨(show ((16015 - (n + 1) * 31) + 3) + 0 ≤ 601024 by omega), (show ((905842 - (n + 1) * 1745) + 18) + 0 ≤ 7293000 by omega)⟩) hI hA hexc (show ((16015 - (n + 1) * 31) + 3) + 0 ≤ 601024 by omega) (show ((905842 - (n + 1) * 1745) + 18) + 0 ≤ 7293000 by omega) (fun v640 w H locs h hI => ?_)
          refine lv_lstore (lv' := [(6, .long v640), (5, .int v631), (0, .ref a0), (1, .ref o1), (2, .ref o9), (3, .ref o17), (4, .int z51)]) hx hb d_law_2309 hl (by decide) rfl (fun ls hl => ?_)
          refine lv_aload_n hx hb d_law_2311 rfl (lv_at hl 4 rfl) ?_
          obtain ⟨q643, e644, h⟩ := gb h
          obtain ⟨u641, e642⟩ := gsome h
          refine gw_callI e642 h (gw_runV (As := []) (rest := []) hx hb hml hown hT hK hZ hA hI (ci := 7) rfl e644 (m_M_thrown l hst D g0 o9 w u641 e642) ce_M_thrown wd_868 wd_870 ⟨by decide, by decide⟩ rfl rfl hl.1 rfl (lv_room (Nat.le_of_ble_eq_true rfl)) d_law_2312 ⟨(show ((16015 - (n + 1) * 31) + 3) + 0 ≤ 601024 by omega), (show ((905842 - (n + 1) * 1745) + 18) + 0 ≤ 7293000 by omega)⟩) hI hA hexc (show ((16015 - (n + 1) * 31) + 3) + 0 ≤ 601024 by omega) (show ((905842 - (n + 1) * 1745) + 18) + 0 ≤ 7293000 by omega) (fun v645 w H locs h hI => ?_)
          refine lv_iload hx hb d_law_2315 (lv_at hl 1 rfl) ?_
          refine lv_icmp_eq (tgt := 2322) hx hb d_law_2317 (by decide) (fun c646 => ?_) (fun c646 => ?_)
          · skip
            have h := git c646 h
            refine lv_iload hx hb d_law_2322 (lv_at hl 1 rfl) ?_
            obtain ⟨K2338, eK2338, h⟩ := gj h
            have hK2338 : ∀ (w : gW) (H : Heap) (locs : List Loc) (ls : Array Slot), K2338 w = some r → gI D s A w H locs → lv_has ls 8 [(0, .ref a0), (1, .ref o1), (2, .ref o9), (3, .ref o17), (4, .int z51)] → W p l e rm_law s m args below meth c H locs ((16015 - (n + 1) * 31) + 3) ((905842 - (n + 1) * 1745) + 18) Q (F0 m 2338 ls []) := by
              intro w H locs ls h hI hl
              have h := gk1 eK2338 h
              refine lv_goto (tgt := 2507) hx hb d_law_2338 (by decide) ?_
              refine W.widen (k := ((16015 - (n + 1) * 31) + 31)) (n := ((905842 - (n + 1) * 1745) + 1745)) (show ((16015 - (n + 1) * 31) + 3) ≤ ((16015 - (n + 1) * 31) + 31) by omega) (show ((905842 - (n + 1) * 1745) + 18) ≤ ((905842 - (n + 1) * 1745) + 1745) by omega) ?_
              exact hK2507 w H locs ls h hI (lv_sub hl [0, 1, 2, 3, 4] rfl)
            refine lv_if_ne (tgt := 2338) hx hb d_law_2324 (by decide) (fun c647 => ?_) (fun c647 => ?_)
            · skip
              have h := gie c647 h
              exact hK2338 w H locs ls h hI (lv_sub hl [2, 3, 4, 5, 6] rfl)
            · skip
              have h := git c647 h
              refine lv_aload_n hx hb d_law_2327 rfl (lv_at hl 5 rfl) ?_
              refine lv_iconst (v := 0) hx hb d_law_2328 (by decide) ?_
              obtain ⟨v648, e649, h⟩ := gb h
              refine gw_aldJ hx hb hK hI e649 d_law_2329 ?_
              refine lv_lload hx hb d_law_2330 (lv_at hl 0 rfl) ?_
              refine W.lcmp hx hb d_law_2332 ?_
              refine lv_if_eq (tgt := 2338) hx hb d_law_2333 (by decide) (fun c650 => ?_) (fun c650 => ?_)
              · have c650 := (lg_cmp_eq _ _).mp c650
                have h := git c650 h
                exact hK2338 w H locs ls h hI (lv_sub hl [2, 3, 4, 5, 6] rfl)
              · have c650 := mt (lg_cmp_eq _ _).mpr c650
                have h := gie c650 h
                refine W.widen (k := 16015) (n := 905842) (show ((16015 - (n + 1) * 31) + 3) ≤ 16015 by omega) (show ((905842 - (n + 1) * 1745) + 18) ≤ 905842 by omega) ?_
                exact hK2336 w H locs ls h hI (lv_sub hl [] rfl)
          · skip
            have h := gie c646 h
            refine W.widen (k := 16015) (n := 905842) (show ((16015 - (n + 1) * 31) + 3) ≤ 16015 by omega) (show ((905842 - (n + 1) * 1745) + 18) ≤ 905842 by omega) ?_
            exact hK2320 w H locs ls h hI (lv_sub hl [] rfl)
        have h := gie c624 h
        rcases Decidable.em ((v55 &&& 31) = 15) with c651 | c651
        · have h := git c651 h
          refine lv_tableIn (off := 2289) (tgt := 2341) hx hb d_law_52 (by rw [c651]; decide) (by rw [c651]; decide) (by rw [c651]; decide) (by decide) ?_
          refine lv_aload_n hx hb d_law_2341 rfl (lv_at hl 1 rfl) ?_
          refine lv_aload_n hx hb d_law_2342 rfl (lv_at hl 0 rfl) ?_
          refine lv_iload hx hb d_law_2343 (lv_at hl 4 rfl) ?_
          refine lv_iconst (v := 1) hx hb d_law_2345 (by decide) ?_
          refine lv_iadd hx hb d_law_2346 ?_
          obtain ⟨v652, e653, h⟩ := gb h
          refine gw_aldI hx hb hK hI e653 d_law_2347 ?_
          refine lv_i2l (v := v652.toInt64) hx hb d_law_2348 rfl ?_
          refine lv_bipush (v := 32) hx hb d_law_2349 (by decide) ?_
          refine lv_lshl (v := (v652.toInt64) <<< ((32 : Int32).toInt64 &&& 63)) hx hb d_law_2351 rfl ?_
          refine lv_aload_n hx hb d_law_2352 rfl (lv_at hl 0 rfl) ?_
          refine lv_iload hx hb d_law_2353 (lv_at hl 4 rfl) ?_
          refine lv_iconst (v := 2) hx hb d_law_2355 (by decide) ?_
          refine lv_iadd hx hb d_law_2356 ?_
          obtain ⟨v654, e655, h⟩ := gb h
          refine gw_aldI hx hb hK hI e655 d_law_2357 ?_
          refine lv_i2l (v := v654.toInt64) hx hb d_law_2358 rfl ?_
          refine lv_ldc2 (v := 4294967295) hx hb hown (hT _ wd_1121 args) d_law_2359 ?_
          refine lv_land hx hb d_law_2362 ?_
          refine lv_lor hx hb d_law_2363 ?_
          refine lv_aload_n hx hb d_law_2364 rfl (lv_at hl 0 rfl) ?_
          refine lv_iload hx hb d_law_2365 (lv_at hl 4 rfl) ?_
          refine lv_iconst (v := 3) hx hb d_law_2367 (by decide) ?_
          refine lv_iadd hx hb d_law_2368 ?_
          obtain ⟨v656, e657, h⟩ := gb h
          refine gw_aldI hx hb hK hI e657 d_law_2369 ?_
          refine lv_aload_n hx hb d_law_2370 rfl (lv_at hl 0 rfl) ?_
          refine lv_iload hx hb d_law_2371 (lv_at hl 4 rfl) ?_
          refine lv_iconst (v := 4) hx hb d_law_2373 (by decide) ?_
          refine lv_iadd hx hb d_law_2374 ?_
          obtain ⟨v658, e659, h⟩ := gb h
          refine gw_aldI hx hb hK hI e659 d_law_2375 ?_
          refine lv_aload_n hx hb d_law_2376 rfl (lv_at hl 3 rfl) ?_
          obtain ⟨u660, e661⟩ := gsome h
          refine gw_callI e661 h (gw_runS (As := [.ref o1, .long (((v652.toInt64) <<< ((32 : Int32).toInt64 &&& 63)) ||| ((v654.toInt64) &&& 4294967295)), .int v656, .int v658, .ref o17]) (rest := []) hx hb hml hown hT hK hZ hA hI (m_W_section l hst D g0 o1 (((v652.toInt64) <<< ((32 : Int32).toInt64 &&& 63)) ||| ((v654.toInt64) &&& 4294967295)) v656 v658 o17 w u660 e661) ce_W_section wd_756 ⟨by decide, by decide⟩ rfl rfl hl.1 rfl (lv_room (Nat.le_of_ble_eq_true rfl)) d_law_2377 ⟨(show (16015 - (n + 1) * 31) + 1 ≤ 601024 by omega), (show (905842 - (n + 1) * 1745) + 6 ≤ 7293000 by omega)⟩) hI hA hexc (show (16015 - (n + 1) * 31) + 1 ≤ 601024 by omega) (show (905842 - (n + 1) * 1745) + 6 ≤ 7293000 by omega) (fun v662 w H locs h hI => ?_)
          refine W.widen (k := ((16015 - (n + 1) * 31) + 1)) (n := ((905842 - (n + 1) * 1745) + 6)) (show (16015 - (n + 1) * 31) + 1 ≤ ((16015 - (n + 1) * 31) + 1) by omega) (show (905842 - (n + 1) * 1745) + 6 ≤ ((905842 - (n + 1) * 1745) + 6) by omega) ?_
          refine lv_istore (lv' := [(5, .int v662), (0, .ref a0), (1, .ref o1), (2, .ref o9), (3, .ref o17), (4, .int z51)]) hx hb d_law_2380 hl (by decide) rfl (fun ls hl => ?_)
          refine lv_aload_n hx hb d_law_2382 rfl (lv_at hl 3 rfl) ?_
          refine lv_aload_n hx hb d_law_2383 rfl (lv_at hl 1 rfl) ?_
          refine lv_iload hx hb d_law_2384 (lv_at hl 5 rfl) ?_
          refine lv_iconst (v := 1) hx hb d_law_2386 (by decide) ?_
          refine lv_iadd hx hb d_law_2387 ?_
          obtain ⟨v663, e664, h⟩ := gb h
          refine gw_aldI hx hb hK hI e664 d_law_2388 ?_
          refine lv_i2l (v := v663.toInt64) hx hb d_law_2389 rfl ?_
          refine lv_bipush (v := 32) hx hb d_law_2390 (by decide) ?_
          refine lv_lshl (v := (v663.toInt64) <<< ((32 : Int32).toInt64 &&& 63)) hx hb d_law_2392 rfl ?_
          refine lv_aload_n hx hb d_law_2393 rfl (lv_at hl 1 rfl) ?_
          refine lv_iload hx hb d_law_2394 (lv_at hl 5 rfl) ?_
          refine lv_iconst (v := 2) hx hb d_law_2396 (by decide) ?_
          refine lv_iadd hx hb d_law_2397 ?_
          obtain ⟨v665, e666, h⟩ := gb h
          refine gw_aldI hx hb hK hI e666 d_law_2398 ?_
          refine lv_i2l (v := v665.toInt64) hx hb d_law_2399 rfl ?_
          refine lv_ldc2 (v := 4294967295) hx hb hown (hT _ wd_1121 args) d_law_2400 ?_
          refine lv_land hx hb d_law_2403 ?_
          refine lv_lor hx hb d_law_2404 ?_
          refine lv_aload_n hx hb d_law_2405 rfl (lv_at hl 1 rfl) ?_
          refine lv_iload hx hb d_law_2406 (lv_at hl 5 rfl) ?_
          refine lv_iconst (v := 3) hx hb d_law_2408 (by decide) ?_
          refine lv_iadd hx hb d_law_2409 ?_
          obtain ⟨v667, e668, h⟩ := gb h
          refine gw_aldI hx hb hK hI e668 d_law_2410 ?_
          refine lv_aload_n hx hb d_law_2411 rfl (lv_at hl 1 rfl) ?_
          refine lv_iload hx hb d_law_2412 (lv_at hl 5 rfl) ?_
          refine lv_iconst (v := 4) hx hb d_law_2414 (by decide) ?_
          refine lv_iadd hx hb d_law_2415 ?_
          obtain ⟨v669, e670, h⟩ := gb h
          refine gw_aldI hx hb hK hI e670 d_law_2416 ?_
          obtain ⟨q673, e674, h⟩ := gb h
          obtain ⟨u671, e672⟩ := gsome h
          refine gw_callJ e672 h (gw_runV (As := [.long (((v663.toInt64) <<< ((32 : Int32).toInt64 &&& 63)) ||| ((v665.toInt64) &&& 4294967295)), .int v667, .int v669]) (rest := []) hx hb hml hown hT hK hZ hA hI (ci := 7) rfl e674 (m_M_section l hst D g0 o9 (((v663.toInt64) <<< ((32 : Int32).toInt64 &&& 63)) ||| ((v665.toInt64) &&& 4294967295)) v667 v669 w u671 e672) ce_M_section wd_1106 wd_1108 ⟨by decide, by decide⟩ rfl rfl hl.1 rfl (lv_room (Nat.le_of_ble_eq_true rfl)) d_law_2417 ⟨(show ((16015 - (n + 1) * 31) + 1) + 0 ≤ 601024 by omega), (show ((905842 - (n + 1) * 1745) + 6) + 0 ≤ 7293000 by omega)⟩) hI hA hexc (show ((16015 - (n + 1) * 31) + 1) + 0 ≤ 601024 by omega) (show ((905842 - (n + 1) * 1745) + 6) + 0 ≤ 7293000 by omega) (fun v675 w H locs h hI => ?_)
          refine lv_lstore (lv' := [(6, .long v675), (5, .int v662), (0, .ref a0), (1, .ref o1), (2, .ref o9), (3, .ref o17), (4, .int z51)]) hx hb d_law_2420 hl (by decide) rfl (fun ls hl => ?_)
          refine lv_aload_n hx hb d_law_2422 rfl (lv_at hl 4 rfl) ?_
          obtain ⟨q678, e679, h⟩ := gb h
          obtain ⟨u676, e677⟩ := gsome h
          refine gw_callI e677 h (gw_runV (As := []) (rest := []) hx hb hml hown hT hK hZ hA hI (ci := 7) rfl e679 (m_M_thrown l hst D g0 o9 w u676 e677) ce_M_thrown wd_868 wd_870 ⟨by decide, by decide⟩ rfl rfl hl.1 rfl (lv_room (Nat.le_of_ble_eq_true rfl)) d_law_2423 ⟨(show ((16015 - (n + 1) * 31) + 1) + 0 ≤ 601024 by omega), (show ((905842 - (n + 1) * 1745) + 6) + 0 ≤ 7293000 by omega)⟩) hI hA hexc (show ((16015 - (n + 1) * 31) + 1) + 0 ≤ 601024 by omega) (show ((905842 - (n + 1) * 1745) + 6) + 0 ≤ 7293000 by omega) (fun v680 w H locs h hI => ?_)
          refine lv_iload hx hb d_law_2426 (lv_at hl 1 rfl) ?_
          refine lv_icmp_eq (tgt := 2433) hx hb d_law_2428 (by decide) (fun c681 => ?_) (fun c681 => ?_)
          · skip
            have h := git c681 h
            refine lv_iload hx hb d_law_2433 (lv_at hl 1 rfl) ?_
            obtain ⟨K2449, eK2449, h⟩ := gj h
            have hK2449 : ∀ (w : gW) (H : Heap) (locs : List Loc) (ls : Array Slot), K2449 w = some r → gI D s A w H locs → lv_has ls 8 [(0, .ref a0), (1, .ref o1), (2, .ref o9), (3, .ref o17), (4, .int z51)] → W p l e rm_law s m args below meth c H locs ((16015 - (n + 1) * 31) + 1) ((905842 - (n + 1) * 1745) + 6) Q (F0 m 2449 ls []) := by
              intro w H locs ls h hI hl
              have h := gk1 eK2449 h
              refine lv_goto (tgt := 2507) hx hb d_law_2449 (by decide) ?_
              refine W.widen (k := ((16015 - (n + 1) * 31) + 31)) (n := ((905842 - (n + 1) * 1745) + 1745)) (show ((16015 - (n + 1) * 31) + 1) ≤ ((16015 - (n + 1) * 31) + 31) by omega) (show ((905842 - (n + 1) * 1745) + 6) ≤ ((905842 - (n + 1) * 1745) + 1745) by omega) ?_
              exact hK2507 w H locs ls h hI (lv_sub hl [0, 1, 2, 3, 4] rfl)
            refine lv_if_ne (tgt := 2449) hx hb d_law_2435 (by decide) (fun c682 => ?_) (fun c682 => ?_)
            · skip
              have h := gie c682 h
              exact hK2449 w H locs ls h hI (lv_sub hl [2, 3, 4, 5, 6] rfl)
            · skip
              have h := git c682 h
              refine lv_aload_n hx hb d_law_2438 rfl (lv_at hl 5 rfl) ?_
              refine lv_iconst (v := 0) hx hb d_law_2439 (by decide) ?_
              obtain ⟨v683, e684, h⟩ := gb h
              refine gw_aldJ hx hb hK hI e684 d_law_2440 ?_
              refine lv_lload hx hb d_law_2441 (lv_at hl 0 rfl) ?_
              refine W.lcmp hx hb d_law_2443 ?_
              refine lv_if_eq (tgt := 2449) hx hb d_law_2444 (by decide) (fun c685 => ?_) (fun c685 => ?_)
              · have c685 := (lg_cmp_eq _ _).mp c685
                have h := git c685 h
                exact hK2449 w H locs ls h hI (lv_sub hl [2, 3, 4, 5, 6] rfl)
              · have c685 := mt (lg_cmp_eq _ _).mpr c685
                have h := gie c685 h
                refine W.widen (k := 16015) (n := 905842) (show ((16015 - (n + 1) * 31) + 1) ≤ 16015 by omega) (show ((905842 - (n + 1) * 1745) + 6) ≤ 905842 by omega) ?_
                exact hK2447 w H locs ls h hI (lv_sub hl [] rfl)
          · skip
            have h := gie c681 h
            refine W.widen (k := 16015) (n := 905842) (show ((16015 - (n + 1) * 31) + 1) ≤ 16015 by omega) (show ((905842 - (n + 1) * 1745) + 6) ≤ 905842 by omega) ?_
            exact hK2431 w H locs ls h hI (lv_sub hl [] rfl)
        have h := gie c651 h
        rcases Decidable.em ((v55 &&& 31) = 16) with c686 | c686
        · have h := git c686 h
          refine lv_tableIn (off := 2400) (tgt := 2452) hx hb d_law_52 (by rw [c686]; decide) (by rw [c686]; decide) (by rw [c686]; decide) (by decide) ?_
          refine lv_aload_n hx hb d_law_2452 rfl (lv_at hl 1 rfl) ?_
          refine lv_aload_n hx hb d_law_2453 rfl (lv_at hl 0 rfl) ?_
          refine lv_iload hx hb d_law_2454 (lv_at hl 4 rfl) ?_
          refine lv_iconst (v := 1) hx hb d_law_2456 (by decide) ?_
          refine lv_iadd hx hb d_law_2457 ?_
          obtain ⟨v687, e688, h⟩ := gb h
          refine gw_aldI hx hb hK hI e688 d_law_2458 ?_
          refine lv_aload_n hx hb d_law_2459 rfl (lv_at hl 3 rfl) ?_
          obtain ⟨u689, e690⟩ := gsome h
          refine gw_callI e690 h (gw_runS (As := [.ref o1, .int v687, .ref o17]) (rest := []) hx hb hml hown hT hK hZ hA hI (m_W_mass l hst D g0 o1 v687 o17 w u689 e690) ce_W_mass wd_772 ⟨by decide, by decide⟩ rfl rfl hl.1 rfl (lv_room (Nat.le_of_ble_eq_true rfl)) d_law_2460 ⟨(show (16015 - (n + 1) * 31) + 1 ≤ 601024 by omega), (show (905842 - (n + 1) * 1745) + 6 ≤ 7293000 by omega)⟩) hI hA hexc (show (16015 - (n + 1) * 31) + 1 ≤ 601024 by omega) (show (905842 - (n + 1) * 1745) + 6 ≤ 7293000 by omega) (fun v691 w H locs h hI => ?_)
          refine W.widen (k := ((16015 - (n + 1) * 31) + 1)) (n := ((905842 - (n + 1) * 1745) + 6)) (show (16015 - (n + 1) * 31) + 1 ≤ ((16015 - (n + 1) * 31) + 1) by omega) (show (905842 - (n + 1) * 1745) + 6 ≤ ((905842 - (n + 1) * 1745) + 6) by omega) ?_
          refine lv_istore (lv' := [(5, .int v691), (0, .ref a0), (1, .ref o1), (2, .ref o9), (3, .ref o17), (4, .int z51)]) hx hb d_law_2463 hl (by decide) rfl (fun ls hl => ?_)
          refine lv_aload_n hx hb d_law_2465 rfl (lv_at hl 3 rfl) ?_
          refine lv_aload_n hx hb d_law_2466 rfl (lv_at hl 1 rfl) ?_
          refine lv_iload hx hb d_law_2467 (lv_at hl 5 rfl) ?_
          refine lv_iconst (v := 1) hx hb d_law_2469 (by decide) ?_
          refine lv_iadd hx hb d_law_2470 ?_
          obtain ⟨v692, e693, h⟩ := gb h
          refine gw_aldI hx hb hK hI e693 d_law_2471 ?_
          obtain ⟨q696, e697, h⟩ := gb h
          obtain ⟨u694, e695⟩ := gsome h
          refine gw_callJ e695 h (gw_runV (As := [.int v692]) (rest := []) hx hb hml hown hT hK hZ hA hI (ci := 7) rfl e697 (m_M_mass l hst D g0 o9 v692 w u694 e695) ce_M_mass wd_1110 wd_1112 ⟨by decide, by decide⟩ rfl rfl hl.1 rfl (lv_room (Nat.le_of_ble_eq_true rfl)) d_law_2472 ⟨(show ((16015 - (n + 1) * 31) + 1) + 0 ≤ 601024 by omega), (show ((905842 - (n + 1) * 1745) + 6) + 0 ≤ 7293000 by omega)⟩) hI hA hexc (show ((16015 - (n + 1) * 31) + 1) + 0 ≤ 601024 by omega) (show ((905842 - (n + 1) * 1745) + 6) + 0 ≤ 7293000 by omega) (fun v698 w H locs h hI => ?_)
          refine lv_lstore (lv' := [(6, .long v698), (5, .int v691), (0, .ref a0), (1, .ref o1), (2, .ref o9), (3, .ref o17), (4, .int z51)]) hx hb d_law_2475 hl (by decide) rfl (fun ls hl => ?_)
          refine lv_aload_n hx hb d_law_2477 rfl (lv_at hl 4 rfl) ?_
          obtain ⟨q701, e702, h⟩ := gb h
          obtain ⟨u699, e700⟩ := gsome h
          refine gw_callI e700 h (gw_runV (As := []) (rest := []) hx hb hml hown hT hK hZ hA hI (ci := 7) rfl e702 (m_M_thrown l hst D g0 o9 w u699 e700) ce_M_thrown wd_868 wd_870 ⟨by decide, by decide⟩ rfl rfl hl.1 rfl (lv_room (Nat.le_of_ble_eq_true rfl)) d_law_2478 ⟨(show ((16015 - (n + 1) * 31) + 1) + 0 ≤ 601024 by omega), (show ((905842 - (n + 1) * 1745) + 6) + 0 ≤ 7293000 by omega)⟩) hI hA hexc (show ((16015 - (n + 1) * 31) + 1) + 0 ≤ 601024 by omega) (show ((905842 - (n + 1) * 1745) + 6) + 0 ≤ 7293000 by omega) (fun v703 w H locs h hI => ?_)
          refine lv_iload hx hb d_law_2481 (lv_at hl 1 rfl) ?_
          refine lv_icmp_eq (tgt := 2488) hx hb d_law_2483 (by decide) (fun c704 => ?_) (fun c704 => ?_)
          · skip
            have h := git c704 h
            refine lv_iload hx hb d_law_2488 (lv_at hl 1 rfl) ?_
            obtain ⟨K2504, eK2504, h⟩ := gj h
            have hK2504 : ∀ (w : gW) (H : Heap) (locs : List Loc) (ls : Array Slot), K2504 w = some r → gI D s A w H locs → lv_has ls 8 [(0, .ref a0), (1, .ref o1), (2, .ref o9), (3, .ref o17), (4, .int z51)] → W p l e rm_law s m args below meth c H locs ((16015 - (n + 1) * 31) + 1) ((905842 - (n + 1) * 1745) + 6) Q (F0 m 2504 ls []) := by
              intro w H locs ls h hI hl
              have h := gk1 eK2504 h
              refine lv_goto (tgt := 2507) hx hb d_law_2504 (by decide) ?_
              refine W.widen (k := ((16015 - (n + 1) * 31) + 31)) (n := ((905842 - (n + 1) * 1745) + 1745)) (show ((16015 - (n + 1) * 31) + 1) ≤ ((16015 - (n + 1) * 31) + 31) by omega) (show ((905842 - (n + 1) * 1745) + 6) ≤ ((905842 - (n + 1) * 1745) + 1745) by omega) ?_
              exact hK2507 w H locs ls h hI (lv_sub hl [0, 1, 2, 3, 4] rfl)
            refine lv_if_ne (tgt := 2504) hx hb d_law_2490 (by decide) (fun c705 => ?_) (fun c705 => ?_)
            · skip
              have h := gie c705 h
              exact hK2504 w H locs ls h hI (lv_sub hl [2, 3, 4, 5, 6] rfl)
            · skip
              have h := git c705 h
              refine lv_aload_n hx hb d_law_2493 rfl (lv_at hl 5 rfl) ?_
              refine lv_iconst (v := 0) hx hb d_law_2494 (by decide) ?_
              obtain ⟨v706, e707, h⟩ := gb h
              refine gw_aldJ hx hb hK hI e707 d_law_2495 ?_
              refine lv_lload hx hb d_law_2496 (lv_at hl 0 rfl) ?_
              refine W.lcmp hx hb d_law_2498 ?_
              refine lv_if_eq (tgt := 2504) hx hb d_law_2499 (by decide) (fun c708 => ?_) (fun c708 => ?_)
              · have c708 := (lg_cmp_eq _ _).mp c708
                have h := git c708 h
                exact hK2504 w H locs ls h hI (lv_sub hl [2, 3, 4, 5, 6] rfl)
              · have c708 := mt (lg_cmp_eq _ _).mpr c708
                have h := gie c708 h
                refine W.widen (k := 16015) (n := 905842) (show ((16015 - (n + 1) * 31) + 1) ≤ 16015 by omega) (show ((905842 - (n + 1) * 1745) + 6) ≤ 905842 by omega) ?_
                exact hK2502 w H locs ls h hI (lv_sub hl [] rfl)
          · skip
            have h := gie c704 h
            refine W.widen (k := 16015) (n := 905842) (show ((16015 - (n + 1) * 31) + 1) ≤ 16015 by omega) (show ((905842 - (n + 1) * 1745) + 6) ≤ 905842 by omega) ?_
            exact hK2486 w H locs ls h hI (lv_sub hl [] rfl)
        have h := gie c686 h
        refine lv_tableOut (tgt := 2507) hx hb d_law_52 (by have q0 := lv_neT c57 (show (0 : Int32).toInt = 0 by decide); have q1 := lv_neT c69 (show (1 : Int32).toInt = 1 by decide); have q2 := lv_neT c142 (show (2 : Int32).toInt = 2 by decide); have q3 := lv_neT c207 (show (3 : Int32).toInt = 3 by decide); have q4 := lv_neT c244 (show (4 : Int32).toInt = 4 by decide); have q5 := lv_neT c285 (show (5 : Int32).toInt = 5 by decide); have q6 := lv_neT c354 (show (6 : Int32).toInt = 6 by decide); have q7 := lv_neT c381 (show (7 : Int32).toInt = 7 by decide); have q8 := lv_neT c428 (show (8 : Int32).toInt = 8 by decide); have q9 := lv_neT c477 (show (9 : Int32).toInt = 9 by decide); have q10 := lv_neT c504 (show (10 : Int32).toInt = 10 by decide); have q11 := lv_neT c516 (show (11 : Int32).toInt = 11 by decide); have q12 := lv_neT c543 (show (12 : Int32).toInt = 12 by decide); have q13 := lv_neT c608 (show (13 : Int32).toInt = 13 by decide); have q14 := lv_neT c624 (show (14 : Int32).toInt = 14 by decide); have q15 := lv_neT c651 (show (15 : Int32).toInt = 15 by decide); have q16 := lv_neT c686 (show (16 : Int32).toInt = 16 by decide); omega) (by decide) ?_
        refine W.widen (k := ((16015 - (n + 1) * 31) + 31)) (n := ((905842 - (n + 1) * 1745) + 1745)) (show (16015 - (n + 1) * 31) ≤ ((16015 - (n + 1) * 31) + 31) by omega) (show (905842 - (n + 1) * 1745) ≤ ((905842 - (n + 1) * 1745) + 1745) by omega) ?_
        exact hK2507 w H locs ls h hI (lv_sub hl [0, 1, 2, 3, 4] rfl)
  refine W.widen (k := (16015 - 513 * 31)) (n := (905842 - 513 * 1745)) (show 112 ≤ (16015 - 513 * 31) by omega) (show 10657 ≤ (905842 - 513 * 1745) by omega) ?_
  exact hL35 513 (Nat.le_refl _) _ w H locs ls h hI (lv_sub hl [4, 3, 2, 1, 0] rfl)
