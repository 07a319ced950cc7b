-- ===== PART A: goes FIRST, ahead of the names: the tables' words, and 'selects' of the private methods out of them =====
/-- a private method of a class that the tables say can be made, by its rows of tables_1 -/
def lw_okq (q : MethodName × Nat) : Prop := (q.1.cls ≠ "java/lang/invoke/MethodHandle" ∧ q.1.cls ≠ "java/lang/invoke/VarHandle") ∧ Cond.instantiable q.1.cls q.2 ∈ tables_1 ∧ Cond.privateMethod q.1 ∈ tables_1 ∧ Cond.instanceMethod q.1 ∈ tables_1
theorem lw_p0 : lw_okq (⟨"BodySolids", "addBody", "(LBodySolids$Body;)I"⟩, 10) := ⟨⟨by decide +kernel, by decide +kernel⟩, List.mem_of_getElem? (i := 25) (by decide +kernel), List.mem_of_getElem? (i := 199) (by decide +kernel), List.mem_of_getElem? (i := 200) (by decide +kernel)⟩
theorem lw_p1 : lw_okq (⟨"java/util/ArrayList", "add", "(Ljava/lang/Object;[Ljava/lang/Object;I)V"⟩, 3) := ⟨⟨by decide +kernel, by decide +kernel⟩, List.mem_of_getElem? (i := 40) (by decide +kernel), List.mem_of_getElem? (i := 207) (by decide +kernel), List.mem_of_getElem? (i := 208) (by decide +kernel)⟩
theorem lw_p2 : lw_okq (⟨"java/util/ArrayList", "grow", "()[Ljava/lang/Object;"⟩, 3) := ⟨⟨by decide +kernel, by decide +kernel⟩, List.mem_of_getElem? (i := 40) (by decide +kernel), List.mem_of_getElem? (i := 211) (by decide +kernel), List.mem_of_getElem? (i := 212) (by decide +kernel)⟩
theorem lw_p3 : lw_okq (⟨"java/util/ArrayList", "grow", "(I)[Ljava/lang/Object;"⟩, 3) := ⟨⟨by decide +kernel, by decide +kernel⟩, List.mem_of_getElem? (i := 40) (by decide +kernel), List.mem_of_getElem? (i := 215) (by decide +kernel), List.mem_of_getElem? (i := 216) (by decide +kernel)⟩
theorem lw_p4 : lw_okq (⟨"BodySolids", "relation", "(II)I"⟩, 10) := ⟨⟨by decide +kernel, by decide +kernel⟩, List.mem_of_getElem? (i := 25) (by decide +kernel), List.mem_of_getElem? (i := 265) (by decide +kernel), List.mem_of_getElem? (i := 266) (by decide +kernel)⟩
theorem lw_p5 : lw_okq (⟨"BodySolids", "relationOfLayouts", "()I"⟩, 10) := ⟨⟨by decide +kernel, by decide +kernel⟩, List.mem_of_getElem? (i := 25) (by decide +kernel), List.mem_of_getElem? (i := 322) (by decide +kernel), List.mem_of_getElem? (i := 323) (by decide +kernel)⟩
theorem lw_p6 : lw_okq (⟨"BodySolids", "breaksSome", "(LBodySolids$Placement;)Z"⟩, 10) := ⟨⟨by decide +kernel, by decide +kernel⟩, List.mem_of_getElem? (i := 25) (by decide +kernel), List.mem_of_getElem? (i := 367) (by decide +kernel), List.mem_of_getElem? (i := 368) (by decide +kernel)⟩
theorem lw_p7 : lw_okq (⟨"BodySolids", "bodyAt", "(I)LBodySolids$Body;"⟩, 10) := ⟨⟨by decide +kernel, by decide +kernel⟩, List.mem_of_getElem? (i := 25) (by decide +kernel), List.mem_of_getElem? (i := 389) (by decide +kernel), List.mem_of_getElem? (i := 390) (by decide +kernel)⟩
theorem lw_p8 : lw_okq (⟨"java/lang/Throwable", "fillInStackTrace", "(I)Ljava/lang/Throwable;"⟩, 6) := ⟨⟨by decide +kernel, by decide +kernel⟩, List.mem_of_getElem? (i := 434) (by decide +kernel), List.mem_of_getElem? (i := 432) (by decide +kernel), List.mem_of_getElem? (i := 433) (by decide +kernel)⟩
theorem lw_p9 : lw_okq (⟨"BodySolids", "forgetRelationsOf", "(LBodySolids$Body;)V"⟩, 10) := ⟨⟨by decide +kernel, by decide +kernel⟩, List.mem_of_getElem? (i := 25) (by decide +kernel), List.mem_of_getElem? (i := 513) (by decide +kernel), List.mem_of_getElem? (i := 514) (by decide +kernel)⟩
theorem lw_p10 : lw_okq (⟨"BodySolids", "forgetRelationsAt", "(I)V"⟩, 10) := ⟨⟨by decide +kernel, by decide +kernel⟩, List.mem_of_getElem? (i := 25) (by decide +kernel), List.mem_of_getElem? (i := 517) (by decide +kernel), List.mem_of_getElem? (i := 518) (by decide +kernel)⟩
theorem lw_p11 : lw_okq (⟨"BodySolids", "cornersMakePolygon", "()Z"⟩, 10) := ⟨⟨by decide +kernel, by decide +kernel⟩, List.mem_of_getElem? (i := 25) (by decide +kernel), List.mem_of_getElem? (i := 544) (by decide +kernel), List.mem_of_getElem? (i := 545) (by decide +kernel)⟩
theorem lw_p12 : lw_okq (⟨"BodySolids", "othersLieLeftOfSide", "(II)Z"⟩, 10) := ⟨⟨by decide +kernel, by decide +kernel⟩, List.mem_of_getElem? (i := 25) (by decide +kernel), List.mem_of_getElem? (i := 548) (by decide +kernel), List.mem_of_getElem? (i := 549) (by decide +kernel)⟩
theorem lw_p13 : lw_okq (⟨"BodySolids", "turnAt", "(III)J"⟩, 10) := ⟨⟨by decide +kernel, by decide +kernel⟩, List.mem_of_getElem? (i := 25) (by decide +kernel), List.mem_of_getElem? (i := 552) (by decide +kernel), List.mem_of_getElem? (i := 553) (by decide +kernel)⟩
theorem lw_p14 : lw_okq (⟨"BodySolids", "twiceAreaOfCorners", "()J"⟩, 10) := ⟨⟨by decide +kernel, by decide +kernel⟩, List.mem_of_getElem? (i := 25) (by decide +kernel), List.mem_of_getElem? (i := 557) (by decide +kernel), List.mem_of_getElem? (i := 558) (by decide +kernel)⟩
theorem lw_p15 : lw_okq (⟨"BodySolids", "placementAt", "(I)LBodySolids$Placement;"⟩, 10) := ⟨⟨by decide +kernel, by decide +kernel⟩, List.mem_of_getElem? (i := 25) (by decide +kernel), List.mem_of_getElem? (i := 635) (by decide +kernel), List.mem_of_getElem? (i := 636) (by decide +kernel)⟩
def lw_privs_1 : List (MethodName × Nat) := [(⟨"BodySolids", "addBody", "(LBodySolids$Body;)I"⟩, 10), (⟨"java/util/ArrayList", "add", "(Ljava/lang/Object;[Ljava/lang/Object;I)V"⟩, 3), (⟨"java/util/ArrayList", "grow", "()[Ljava/lang/Object;"⟩, 3), (⟨"java/util/ArrayList", "grow", "(I)[Ljava/lang/Object;"⟩, 3), (⟨"BodySolids", "relation", "(II)I"⟩, 10), (⟨"BodySolids", "relationOfLayouts", "()I"⟩, 10), (⟨"BodySolids", "breaksSome", "(LBodySolids$Placement;)Z"⟩, 10), (⟨"BodySolids", "bodyAt", "(I)LBodySolids$Body;"⟩, 10), (⟨"java/lang/Throwable", "fillInStackTrace", "(I)Ljava/lang/Throwable;"⟩, 6), (⟨"BodySolids", "forgetRelationsOf", "(LBodySolids$Body;)V"⟩, 10), (⟨"BodySolids", "forgetRelationsAt", "(I)V"⟩, 10), (⟨"BodySolids", "cornersMakePolygon", "()Z"⟩, 10), (⟨"BodySolids", "othersLieLeftOfSide", "(II)Z"⟩, 10), (⟨"BodySolids", "turnAt", "(III)J"⟩, 10), (⟨"BodySolids", "twiceAreaOfCorners", "()J"⟩, 10), (⟨"BodySolids", "placementAt", "(I)LBodySolids$Placement;"⟩, 10)]
theorem lw_r1 : ∀ q ∈ lw_privs_1, lw_okq q := List.forall_mem_cons.mpr ⟨lw_p0, List.forall_mem_cons.mpr ⟨lw_p1, List.forall_mem_cons.mpr ⟨lw_p2, List.forall_mem_cons.mpr ⟨lw_p3, List.forall_mem_cons.mpr ⟨lw_p4, List.forall_mem_cons.mpr ⟨lw_p5, List.forall_mem_cons.mpr ⟨lw_p6, List.forall_mem_cons.mpr ⟨lw_p7, List.forall_mem_cons.mpr ⟨lw_p8, List.forall_mem_cons.mpr ⟨lw_p9, List.forall_mem_cons.mpr ⟨lw_p10, List.forall_mem_cons.mpr ⟨lw_p11, List.forall_mem_cons.mpr ⟨lw_p12, List.forall_mem_cons.mpr ⟨lw_p13, List.forall_mem_cons.mpr ⟨lw_p14, List.forall_mem_cons.mpr ⟨lw_p15, fun _ h => absurd h List.not_mem_nil⟩⟩⟩⟩⟩⟩⟩⟩⟩⟩⟩⟩⟩⟩⟩⟩
theorem lw_p16 : lw_okq (⟨"BodySolids", "sectionAnswer", "(III)J"⟩, 10) := ⟨⟨by decide +kernel, by decide +kernel⟩, List.mem_of_getElem? (i := 25) (by decide +kernel), List.mem_of_getElem? (i := 720) (by decide +kernel), List.mem_of_getElem? (i := 721) (by decide +kernel)⟩
theorem lw_p17 : lw_okq (⟨"BodySolidsModel", "isBody", "(I)Z"⟩, 27) := ⟨⟨by decide +kernel, by decide +kernel⟩, List.mem_of_getElem? (i := 732) (by decide +kernel), List.mem_of_getElem? (i := 847) (by decide +kernel), List.mem_of_getElem? (i := 848) (by decide +kernel)⟩
theorem lw_p18 : lw_okq (⟨"BodySolidsModel", "fresh", "(II)I"⟩, 27) := ⟨⟨by decide +kernel, by decide +kernel⟩, List.mem_of_getElem? (i := 732) (by decide +kernel), List.mem_of_getElem? (i := 851) (by decide +kernel), List.mem_of_getElem? (i := 852) (by decide +kernel)⟩
theorem lw_p19 : lw_okq (⟨"BodySolidsModel", "tell", "(IIJ)V"⟩, 27) := ⟨⟨by decide +kernel, by decide +kernel⟩, List.mem_of_getElem? (i := 732) (by decide +kernel), List.mem_of_getElem? (i := 855) (by decide +kernel), List.mem_of_getElem? (i := 856) (by decide +kernel)⟩
theorem lw_p20 : lw_okq (⟨"BodySolidsModel", "isRound", "()Z"⟩, 27) := ⟨⟨by decide +kernel, by decide +kernel⟩, List.mem_of_getElem? (i := 732) (by decide +kernel), List.mem_of_getElem? (i := 871) (by decide +kernel), List.mem_of_getElem? (i := 872) (by decide +kernel)⟩
theorem lw_p21 : lw_okq (⟨"BodySolidsModel", "copy", "(II)V"⟩, 27) := ⟨⟨by decide +kernel, by decide +kernel⟩, List.mem_of_getElem? (i := 732) (by decide +kernel), List.mem_of_getElem? (i := 889) (by decide +kernel), List.mem_of_getElem? (i := 890) (by decide +kernel)⟩
theorem lw_p22 : lw_okq (⟨"BodySolidsModel", "set", "(IJJII)V"⟩, 27) := ⟨⟨by decide +kernel, by decide +kernel⟩, List.mem_of_getElem? (i := 732) (by decide +kernel), List.mem_of_getElem? (i := 900) (by decide +kernel), List.mem_of_getElem? (i := 901) (by decide +kernel)⟩
theorem lw_p23 : lw_okq (⟨"BodySolidsModel", "isPlaced", "(I)Z"⟩, 27) := ⟨⟨by decide +kernel, by decide +kernel⟩, List.mem_of_getElem? (i := 732) (by decide +kernel), List.mem_of_getElem? (i := 908) (by decide +kernel), List.mem_of_getElem? (i := 909) (by decide +kernel)⟩
theorem lw_p24 : lw_okq (⟨"BodySolidsModel", "meet", "(II)I"⟩, 27) := ⟨⟨by decide +kernel, by decide +kernel⟩, List.mem_of_getElem? (i := 732) (by decide +kernel), List.mem_of_getElem? (i := 916) (by decide +kernel), List.mem_of_getElem? (i := 917) (by decide +kernel)⟩
theorem lw_p25 : lw_okq (⟨"BodySolidsModel", "lay", "(III)V"⟩, 27) := ⟨⟨by decide +kernel, by decide +kernel⟩, List.mem_of_getElem? (i := 732) (by decide +kernel), List.mem_of_getElem? (i := 920) (by decide +kernel), List.mem_of_getElem? (i := 921) (by decide +kernel)⟩
theorem lw_p26 : lw_okq (⟨"BodySolidsModel", "of", "(II)J"⟩, 27) := ⟨⟨by decide +kernel, by decide +kernel⟩, List.mem_of_getElem? (i := 732) (by decide +kernel), List.mem_of_getElem? (i := 924) (by decide +kernel), List.mem_of_getElem? (i := 925) (by decide +kernel)⟩
theorem lw_p27 : lw_okq (⟨"BodySolidsModel", "spot", "(IIIJJ)V"⟩, 27) := ⟨⟨by decide +kernel, by decide +kernel⟩, List.mem_of_getElem? (i := 732) (by decide +kernel), List.mem_of_getElem? (i := 928) (by decide +kernel), List.mem_of_getElem? (i := 929) (by decide +kernel)⟩
theorem lw_p28 : lw_okq (⟨"BodySolidsModel", "xOf", "(IJJ)J"⟩, 27) := ⟨⟨by decide +kernel, by decide +kernel⟩, List.mem_of_getElem? (i := 732) (by decide +kernel), List.mem_of_getElem? (i := 932) (by decide +kernel), List.mem_of_getElem? (i := 933) (by decide +kernel)⟩
theorem lw_p29 : lw_okq (⟨"BodySolidsModel", "yOf", "(IJJ)J"⟩, 27) := ⟨⟨by decide +kernel, by decide +kernel⟩, List.mem_of_getElem? (i := 732) (by decide +kernel), List.mem_of_getElem? (i := 936) (by decide +kernel), List.mem_of_getElem? (i := 937) (by decide +kernel)⟩
theorem lw_p30 : lw_okq (⟨"BodySolidsModel", "point", "(IIJJ)V"⟩, 27) := ⟨⟨by decide +kernel, by decide +kernel⟩, List.mem_of_getElem? (i := 732) (by decide +kernel), List.mem_of_getElem? (i := 940) (by decide +kernel), List.mem_of_getElem? (i := 941) (by decide +kernel)⟩
theorem lw_p31 : lw_okq (⟨"BodySolidsModel", "zOf", "(IJ)J"⟩, 27) := ⟨⟨by decide +kernel, by decide +kernel⟩, List.mem_of_getElem? (i := 732) (by decide +kernel), List.mem_of_getElem? (i := 944) (by decide +kernel), List.mem_of_getElem? (i := 945) (by decide +kernel)⟩
def lw_privs_2 : List (MethodName × Nat) := [(⟨"BodySolids", "sectionAnswer", "(III)J"⟩, 10), (⟨"BodySolidsModel", "isBody", "(I)Z"⟩, 27), (⟨"BodySolidsModel", "fresh", "(II)I"⟩, 27), (⟨"BodySolidsModel", "tell", "(IIJ)V"⟩, 27), (⟨"BodySolidsModel", "isRound", "()Z"⟩, 27), (⟨"BodySolidsModel", "copy", "(II)V"⟩, 27), (⟨"BodySolidsModel", "set", "(IJJII)V"⟩, 27), (⟨"BodySolidsModel", "isPlaced", "(I)Z"⟩, 27), (⟨"BodySolidsModel", "meet", "(II)I"⟩, 27), (⟨"BodySolidsModel", "lay", "(III)V"⟩, 27), (⟨"BodySolidsModel", "of", "(II)J"⟩, 27), (⟨"BodySolidsModel", "spot", "(IIIJJ)V"⟩, 27), (⟨"BodySolidsModel", "xOf", "(IJJ)J"⟩, 27), (⟨"BodySolidsModel", "yOf", "(IJJ)J"⟩, 27), (⟨"BodySolidsModel", "point", "(IIJJ)V"⟩, 27), (⟨"BodySolidsModel", "zOf", "(IJ)J"⟩, 27)]
theorem lw_r2 : ∀ q ∈ lw_privs_2, lw_okq q := List.forall_mem_cons.mpr ⟨lw_p16, List.forall_mem_cons.mpr ⟨lw_p17, List.forall_mem_cons.mpr ⟨lw_p18, List.forall_mem_cons.mpr ⟨lw_p19, List.forall_mem_cons.mpr ⟨lw_p20, List.forall_mem_cons.mpr ⟨lw_p21, List.forall_mem_cons.mpr ⟨lw_p22, List.forall_mem_cons.mpr ⟨lw_p23, List.forall_mem_cons.mpr ⟨lw_p24, List.forall_mem_cons.mpr ⟨lw_p25, List.forall_mem_cons.mpr ⟨lw_p26, List.forall_mem_cons.mpr ⟨lw_p27, List.forall_mem_cons.mpr ⟨lw_p28, List.forall_mem_cons.mpr ⟨lw_p29, List.forall_mem_cons.mpr ⟨lw_p30, List.forall_mem_cons.mpr ⟨lw_p31, fun _ h => absurd h List.not_mem_nil⟩⟩⟩⟩⟩⟩⟩⟩⟩⟩⟩⟩⟩⟩⟩⟩
theorem lw_p32 : lw_okq (⟨"BodySolidsModel", "heights", "(IJJ)V"⟩, 27) := ⟨⟨by decide +kernel, by decide +kernel⟩, List.mem_of_getElem? (i := 732) (by decide +kernel), List.mem_of_getElem? (i := 949) (by decide +kernel), List.mem_of_getElem? (i := 950) (by decide +kernel)⟩
theorem lw_p33 : lw_okq (⟨"BodySolidsModel", "both", "()I"⟩, 27) := ⟨⟨by decide +kernel, by decide +kernel⟩, List.mem_of_getElem? (i := 732) (by decide +kernel), List.mem_of_getElem? (i := 953) (by decide +kernel), List.mem_of_getElem? (i := 954) (by decide +kernel)⟩
theorem lw_p34 : lw_okq (⟨"BodySolidsModel", "tubes", "()I"⟩, 27) := ⟨⟨by decide +kernel, by decide +kernel⟩, List.mem_of_getElem? (i := 732) (by decide +kernel), List.mem_of_getElem? (i := 957) (by decide +kernel), List.mem_of_getElem? (i := 958) (by decide +kernel)⟩
theorem lw_p35 : lw_okq (⟨"BodySolidsModel", "heightGap", "()J"⟩, 27) := ⟨⟨by decide +kernel, by decide +kernel⟩, List.mem_of_getElem? (i := 732) (by decide +kernel), List.mem_of_getElem? (i := 967) (by decide +kernel), List.mem_of_getElem? (i := 968) (by decide +kernel)⟩
theorem lw_p36 : lw_okq (⟨"BodySolidsModel", "coreGap", "(IZJJ)J"⟩, 27) := ⟨⟨by decide +kernel, by decide +kernel⟩, List.mem_of_getElem? (i := 732) (by decide +kernel), List.mem_of_getElem? (i := 974) (by decide +kernel), List.mem_of_getElem? (i := 975) (by decide +kernel)⟩
theorem lw_p37 : lw_okq (⟨"BodySolidsModel", "coreAndDisc", "(IJ)I"⟩, 27) := ⟨⟨by decide +kernel, by decide +kernel⟩, List.mem_of_getElem? (i := 732) (by decide +kernel), List.mem_of_getElem? (i := 984) (by decide +kernel), List.mem_of_getElem? (i := 985) (by decide +kernel)⟩
theorem lw_p38 : lw_okq (⟨"BodySolidsModel", "coreAndPolygon", "(IJ)I"⟩, 27) := ⟨⟨by decide +kernel, by decide +kernel⟩, List.mem_of_getElem? (i := 732) (by decide +kernel), List.mem_of_getElem? (i := 989) (by decide +kernel), List.mem_of_getElem? (i := 990) (by decide +kernel)⟩
theorem lw_p39 : lw_okq (⟨"BodySolidsModel", "fromPolygon", "(IJJJ)I"⟩, 27) := ⟨⟨by decide +kernel, by decide +kernel⟩, List.mem_of_getElem? (i := 732) (by decide +kernel), List.mem_of_getElem? (i := 993) (by decide +kernel), List.mem_of_getElem? (i := 994) (by decide +kernel)⟩
theorem lw_p40 : lw_okq (⟨"BodySolidsModel", "isIn", "(IJJ)Z"⟩, 27) := ⟨⟨by decide +kernel, by decide +kernel⟩, List.mem_of_getElem? (i := 732) (by decide +kernel), List.mem_of_getElem? (i := 997) (by decide +kernel), List.mem_of_getElem? (i := 998) (by decide +kernel)⟩
theorem lw_p41 : lw_okq (⟨"BodySolidsModel", "bases", "()I"⟩, 27) := ⟨⟨by decide +kernel, by decide +kernel⟩, List.mem_of_getElem? (i := 732) (by decide +kernel), List.mem_of_getElem? (i := 1008) (by decide +kernel), List.mem_of_getElem? (i := 1009) (by decide +kernel)⟩
theorem lw_p42 : lw_okq (⟨"BodySolidsModel", "polygons", "()I"⟩, 27) := ⟨⟨by decide +kernel, by decide +kernel⟩, List.mem_of_getElem? (i := 732) (by decide +kernel), List.mem_of_getElem? (i := 1012) (by decide +kernel), List.mem_of_getElem? (i := 1013) (by decide +kernel)⟩
theorem lw_p43 : lw_okq (⟨"BodySolidsModel", "along", "(JJ)I"⟩, 27) := ⟨⟨by decide +kernel, by decide +kernel⟩, List.mem_of_getElem? (i := 732) (by decide +kernel), List.mem_of_getElem? (i := 1016) (by decide +kernel), List.mem_of_getElem? (i := 1017) (by decide +kernel)⟩
theorem lw_p44 : lw_okq (⟨"BodySolidsModel", "doesBreak", "(I)Z"⟩, 27) := ⟨⟨by decide +kernel, by decide +kernel⟩, List.mem_of_getElem? (i := 732) (by decide +kernel), List.mem_of_getElem? (i := 1041) (by decide +kernel), List.mem_of_getElem? (i := 1042) (by decide +kernel)⟩
theorem lw_p45 : lw_okq (⟨"BodySolidsModel", "layOut", "(I)V"⟩, 27) := ⟨⟨by decide +kernel, by decide +kernel⟩, List.mem_of_getElem? (i := 732) (by decide +kernel), List.mem_of_getElem? (i := 1045) (by decide +kernel), List.mem_of_getElem? (i := 1046) (by decide +kernel)⟩
theorem lw_p46 : lw_okq (⟨"BodySolidsModel", "edge", "(I)J"⟩, 27) := ⟨⟨by decide +kernel, by decide +kernel⟩, List.mem_of_getElem? (i := 732) (by decide +kernel), List.mem_of_getElem? (i := 1055) (by decide +kernel), List.mem_of_getElem? (i := 1056) (by decide +kernel)⟩
theorem lw_p47 : lw_okq (⟨"BodySolidsModel", "volume", "(I)J"⟩, 27) := ⟨⟨by decide +kernel, by decide +kernel⟩, List.mem_of_getElem? (i := 732) (by decide +kernel), List.mem_of_getElem? (i := 1067) (by decide +kernel), List.mem_of_getElem? (i := 1068) (by decide +kernel)⟩
def lw_privs_3 : List (MethodName × Nat) := [(⟨"BodySolidsModel", "heights", "(IJJ)V"⟩, 27), (⟨"BodySolidsModel", "both", "()I"⟩, 27), (⟨"BodySolidsModel", "tubes", "()I"⟩, 27), (⟨"BodySolidsModel", "heightGap", "()J"⟩, 27), (⟨"BodySolidsModel", "coreGap", "(IZJJ)J"⟩, 27), (⟨"BodySolidsModel", "coreAndDisc", "(IJ)I"⟩, 27), (⟨"BodySolidsModel", "coreAndPolygon", "(IJ)I"⟩, 27), (⟨"BodySolidsModel", "fromPolygon", "(IJJJ)I"⟩, 27), (⟨"BodySolidsModel", "isIn", "(IJJ)Z"⟩, 27), (⟨"BodySolidsModel", "bases", "()I"⟩, 27), (⟨"BodySolidsModel", "polygons", "()I"⟩, 27), (⟨"BodySolidsModel", "along", "(JJ)I"⟩, 27), (⟨"BodySolidsModel", "doesBreak", "(I)Z"⟩, 27), (⟨"BodySolidsModel", "layOut", "(I)V"⟩, 27), (⟨"BodySolidsModel", "edge", "(I)J"⟩, 27), (⟨"BodySolidsModel", "volume", "(I)J"⟩, 27)]
theorem lw_r3 : ∀ q ∈ lw_privs_3, lw_okq q := List.forall_mem_cons.mpr ⟨lw_p32, List.forall_mem_cons.mpr ⟨lw_p33, List.forall_mem_cons.mpr ⟨lw_p34, List.forall_mem_cons.mpr ⟨lw_p35, List.forall_mem_cons.mpr ⟨lw_p36, List.forall_mem_cons.mpr ⟨lw_p37, List.forall_mem_cons.mpr ⟨lw_p38, List.forall_mem_cons.mpr ⟨lw_p39, List.forall_mem_cons.mpr ⟨lw_p40, List.forall_mem_cons.mpr ⟨lw_p41, List.forall_mem_cons.mpr ⟨lw_p42, List.forall_mem_cons.mpr ⟨lw_p43, List.forall_mem_cons.mpr ⟨lw_p44, List.forall_mem_cons.mpr ⟨lw_p45, List.forall_mem_cons.mpr ⟨lw_p46, List.forall_mem_cons.mpr ⟨lw_p47, fun _ h => absurd h List.not_mem_nil⟩⟩⟩⟩⟩⟩⟩⟩⟩⟩⟩⟩⟩⟩⟩⟩
def lw_privs : List (MethodName × Nat) := lw_privs_1 ++ (lw_privs_2 ++ (lw_privs_3))
def lw_tbl : List Cond := k2_sels lw_privs ++ tables_1
theorem lw_privs_ok : ∀ q ∈ lw_privs, lw_okq q := by
  show ∀ q ∈ lw_privs_1 ++ (lw_privs_2 ++ (lw_privs_3)), lw_okq q
  exact List.forall_mem_append.mpr ⟨lw_r1, List.forall_mem_append.mpr ⟨lw_r2, lw_r3⟩⟩

def R0 : String := "BodySolids"
def T0 : u_T := fun k => match k with
  | 0 => ("BodySolids", "thickness", "J", true)
  | 1 => ("BodySolids", "bodies", "Ljava/util/ArrayList;", true)
  | 2 => ("BodySolids", "placements", "Ljava/util/ArrayList;", true)
  | 3 => ("BodySolids", "keepOuts", "Ljava/util/ArrayList;", true)
  | 4 => ("BodySolids", "cornerX", "[J", true)
  | 5 => ("BodySolids", "cornerY", "[J", true)
  | 6 => ("BodySolids", "corners", "I", false)
  | 7 => ("BodySolids", "relations", "[I", true)
  | 8 => ("BodySolids", "first", "LBodySolids$Layout;", true)
  | _ => ("BodySolids", "second", "LBodySolids$Layout;", true)
def t_0 : Nat → FieldType := fun k => match k with
  | 0 => .long
  | 1 => .object "java/util/ArrayList"
  | 2 => .object "java/util/ArrayList"
  | 3 => .object "java/util/ArrayList"
  | 4 => .array .long
  | 5 => .array .long
  | 6 => .int
  | 7 => .array .int
  | 8 => .object "BodySolids$Layout"
  | _ => .object "BodySolids$Layout"
theorem n_0 : ∀ a, a < 10 → ∀ b, b < 10 → a ≠ b → (T0 a).2.1 ≠ (T0 b).2.1 := by decide +kernel
theorem t_0_ok : ∀ k, k < 10 → parseFieldDescriptor (T0 k).2.2.1 = some (t_0 k) := by decide +kernel
def R1 : String := "java/util/ArrayList"
def T1 : u_T := fun k => match k with
  | 0 => ("java/util/ArrayList", "elementData", "[Ljava/lang/Object;", false)
  | 1 => ("java/util/ArrayList", "size", "I", false)
  | _ => ("java/util/AbstractList", "modCount", "I", false)
def t_1 : Nat → FieldType := fun k => match k with
  | 0 => .array (.object "java/lang/Object")
  | 1 => .int
  | _ => .int
theorem n_1 : ∀ a, a < 3 → ∀ b, b < 3 → a ≠ b → (T1 a).2.1 ≠ (T1 b).2.1 := by decide +kernel
theorem t_1_ok : ∀ k, k < 3 → parseFieldDescriptor (T1 k).2.2.1 = some (t_1 k) := by decide +kernel
def R2 : String := "BodySolids$Layout"
def T2 : u_T := fun k => match k with
  | 0 => ("BodySolids$Layout", "solids", "[LBodySolids$Solid;", true)
  | _ => ("BodySolids$Layout", "count", "I", false)
def t_2 : Nat → FieldType := fun k => match k with
  | 0 => .array (.object "BodySolids$Solid")
  | _ => .int
theorem n_2 : ∀ a, a < 2 → ∀ b, b < 2 → a ≠ b → (T2 a).2.1 ≠ (T2 b).2.1 := by decide +kernel
theorem t_2_ok : ∀ k, k < 2 → parseFieldDescriptor (T2 k).2.2.1 = some (t_2 k) := by decide +kernel
def R3 : String := "BodySolids$Solid"
def T3 : u_T := fun k => match k with
  | 0 => ("BodySolids$Solid", "kind", "I", false)
  | 1 => ("BodySolids$Solid", "flat", "J", false)
  | 2 => ("BodySolids$Solid", "round", "J", false)
  | 3 => ("BodySolids$Solid", "xs", "[J", true)
  | 4 => ("BodySolids$Solid", "ys", "[J", true)
  | 5 => ("BodySolids$Solid", "corners", "I", false)
  | 6 => ("BodySolids$Solid", "x0", "J", false)
  | 7 => ("BodySolids$Solid", "y0", "J", false)
  | 8 => ("BodySolids$Solid", "z0", "J", false)
  | 9 => ("BodySolids$Solid", "x1", "J", false)
  | 10 => ("BodySolids$Solid", "y1", "J", false)
  | _ => ("BodySolids$Solid", "z1", "J", false)
def t_3 : Nat → FieldType := fun k => match k with
  | 0 => .int
  | 1 => .long
  | 2 => .long
  | 3 => .array .long
  | 4 => .array .long
  | 5 => .int
  | 6 => .long
  | 7 => .long
  | 8 => .long
  | 9 => .long
  | 10 => .long
  | _ => .long
theorem n_3 : ∀ a, a < 12 → ∀ b, b < 12 → a ≠ b → (T3 a).2.1 ≠ (T3 b).2.1 := by decide +kernel
theorem t_3_ok : ∀ k, k < 12 → parseFieldDescriptor (T3 k).2.2.1 = some (t_3 k) := by decide +kernel
def R4 : String := "BodySolids$Body"
def T4 : u_T := fun k => match k with
  | 0 => ("BodySolids$Body", "solids", "Ljava/util/ArrayList;", true)
  | _ => ("BodySolids$Body", "weight", "J", false)
def t_4 : Nat → FieldType := fun k => match k with
  | 0 => .object "java/util/ArrayList"
  | _ => .long
theorem n_4 : ∀ a, a < 2 → ∀ b, b < 2 → a ≠ b → (T4 a).2.1 ≠ (T4 b).2.1 := by decide +kernel
theorem t_4_ok : ∀ k, k < 2 → parseFieldDescriptor (T4 k).2.2.1 = some (t_4 k) := by decide +kernel
def R5 : String := "BodySolids$Placement"
def T5 : u_T := fun k => match k with
  | 0 => ("BodySolids$Placement", "body", "LBodySolids$Body;", true)
  | 1 => ("BodySolids$Placement", "x", "J", false)
  | 2 => ("BodySolids$Placement", "y", "J", false)
  | 3 => ("BodySolids$Placement", "turn", "I", false)
  | _ => ("BodySolids$Placement", "side", "I", false)
def t_5 : Nat → FieldType := fun k => match k with
  | 0 => .object "BodySolids$Body"
  | 1 => .long
  | 2 => .long
  | 3 => .int
  | _ => .int
theorem n_5 : ∀ a, a < 5 → ∀ b, b < 5 → a ≠ b → (T5 a).2.1 ≠ (T5 b).2.1 := by decide +kernel
theorem t_5_ok : ∀ k, k < 5 → parseFieldDescriptor (T5 k).2.2.1 = some (t_5 k) := by decide +kernel
def R6 : String := "BodySolids$KeepOut"
def T6 : u_T := fun k => match k with
  | 0 => ("BodySolids$KeepOut", "space", "LBodySolids$Solid;", true)
  | _ => ("BodySolids$KeepOut", "side", "I", true)
def t_6 : Nat → FieldType := fun k => match k with
  | 0 => .object "BodySolids$Solid"
  | _ => .int
theorem n_6 : ∀ a, a < 2 → ∀ b, b < 2 → a ≠ b → (T6 a).2.1 ≠ (T6 b).2.1 := by decide +kernel
theorem t_6_ok : ∀ k, k < 2 → parseFieldDescriptor (T6 k).2.2.1 = some (t_6 k) := by decide +kernel
def R7 : String := "BodySolidsModel"
def T7 : u_T := fun k => match k with
  | 0 => ("BodySolidsModel", "thrown", "I", false)
  | 1 => ("BodySolidsModel", "thickness", "J", true)
  | 2 => ("BodySolidsModel", "bodies", "I", false)
  | 3 => ("BodySolidsModel", "counts", "[I", true)
  | 4 => ("BodySolidsModel", "kinds", "[I", true)
  | 5 => ("BodySolidsModel", "numbers", "[J", true)
  | 6 => ("BodySolidsModel", "cornerCounts", "[I", true)
  | 7 => ("BodySolidsModel", "cornerX", "[J", true)
  | 8 => ("BodySolidsModel", "cornerY", "[J", true)
  | 9 => ("BodySolidsModel", "told", "I", false)
  | 10 => ("BodySolidsModel", "toldX", "[J", true)
  | 11 => ("BodySolidsModel", "toldY", "[J", true)
  | 12 => ("BodySolidsModel", "places", "I", false)
  | 13 => ("BodySolidsModel", "placed", "[I", true)
  | 14 => ("BodySolidsModel", "placeX", "[J", true)
  | 15 => ("BodySolidsModel", "placeY", "[J", true)
  | 16 => ("BodySolidsModel", "turns", "[I", true)
  | 17 => ("BodySolidsModel", "sides", "[I", true)
  | 18 => ("BodySolidsModel", "outs", "I", false)
  | 19 => ("BodySolidsModel", "out", "[J", true)
  | 20 => ("BodySolidsModel", "kindAt", "[I", true)
  | 21 => ("BodySolidsModel", "many", "[I", true)
  | 22 => ("BodySolidsModel", "px", "[J", true)
  | 23 => ("BodySolidsModel", "py", "[J", true)
  | 24 => ("BodySolidsModel", "radius", "[J", true)
  | 25 => ("BodySolidsModel", "low", "[J", true)
  | _ => ("BodySolidsModel", "high", "[J", true)
def t_7 : Nat → FieldType := fun k => match k with
  | 0 => .int
  | 1 => .long
  | 2 => .int
  | 3 => .array .int
  | 4 => .array .int
  | 5 => .array .long
  | 6 => .array .int
  | 7 => .array .long
  | 8 => .array .long
  | 9 => .int
  | 10 => .array .long
  | 11 => .array .long
  | 12 => .int
  | 13 => .array .int
  | 14 => .array .long
  | 15 => .array .long
  | 16 => .array .int
  | 17 => .array .int
  | 18 => .int
  | 19 => .array .long
  | 20 => .array .int
  | 21 => .array .int
  | 22 => .array .long
  | 23 => .array .long
  | 24 => .array .long
  | 25 => .array .long
  | _ => .array .long
theorem n_7 : ∀ a, a < 27 → ∀ b, b < 27 → a ≠ b → (T7 a).2.1 ≠ (T7 b).2.1 := by decide +kernel
theorem t_7_ok : ∀ k, k < 27 → parseFieldDescriptor (T7 k).2.2.1 = some (t_7 k) := by decide +kernel
abbrev gCl : List vw_C := [(R0, T0, 10), (R1, T1, 3), (R2, T2, 2), (R3, T3, 12), (R4, T4, 2), (R5, T5, 5), (R6, T6, 2), (R7, T7, 27)]
abbrev gTy : List FieldType := [.int, .long, .object "BodySolids$Solid", .object "java/lang/Object"]
def gNest : Cond → Bool
  | .fieldLinkNest _ _ _ _ _ _ => true
  | .methodLinkNest _ _ _ _ => true
  | .castable _ _ => true
  | .declares _ => true
  | .arrayOver (.object _) => true
  | w => goodWord w
def gAll : List Cond := lw_tbl.filter gNest
theorem gm {w : Cond} (i : Nat) (h : lw_tbl[i]? = some w) (hg : gNest w = true) : w ∈ gAll := List.mem_filter.mpr ⟨List.mem_of_getElem? h, hg⟩
theorem gm_all {ws : List Cond} (h : ∀ w ∈ ws, w ∈ lw_tbl ∧ gNest w = true) : ∀ w ∈ ws, w ∈ gAll := fun w hw => List.mem_filter.mpr (h w hw)
theorem i_0 : ∀ w ∈ u_ws R0 T0 10, w ∈ gAll := gm_all (by decide +kernel)
theorem i_1 : ∀ w ∈ u_ws R1 T1 3, w ∈ gAll := gm_all (by decide +kernel)
theorem i_2 : ∀ w ∈ u_ws R2 T2 2, w ∈ gAll := gm_all (by decide +kernel)
theorem i_3 : ∀ w ∈ u_ws R3 T3 12, w ∈ gAll := gm_all (by decide +kernel)
theorem i_4 : ∀ w ∈ u_ws R4 T4 2, w ∈ gAll := gm_all (by decide +kernel)
theorem i_5 : ∀ w ∈ u_ws R5 T5 5, w ∈ gAll := gm_all (by decide +kernel)
theorem i_6 : ∀ w ∈ u_ws R6 T6 2, w ∈ gAll := gm_all (by decide +kernel)
theorem i_7 : ∀ w ∈ u_ws R7 T7 27, w ∈ gAll := gm_all (by decide +kernel)
