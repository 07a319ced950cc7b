section
-- ===== PART A: goes FIRST, ahead of the names: the tables' words, and 'selects' of the private methods out of them =====
/-- a private method of a class that the tables say can be made, by its rows of tables_1 -/
def lw_okq (q : MethodName × Nat) : Prop := (q.1.cls ≠ "java/lang/invoke/MethodHandle" ∧ q.1.cls ≠ "java/lang/invoke/VarHandle") ∧ Cond.instantiable q.1.cls q.2 ∈ tables_1 ∧ Cond.privateMethod q.1 ∈ tables_1 ∧ Cond.instanceMethod q.1 ∈ tables_1
theorem lw_p0 : lw_okq (⟨"BodySolids", "addBody", "(LBodySolids$Body;)I"⟩, 10) := ⟨⟨by decide +kernel, by decide +kernel⟩, List.mem_of_getElem? (i := 25) (by decide +kernel), List.mem_of_getElem? (i := 199) (by decide +kernel), List.mem_of_getElem? (i := 200) (by decide +kernel)⟩
theorem lw_p1 : lw_okq (⟨"java/util/ArrayList", "add", "(Ljava/lang/Object;[Ljava/lang/Object;I)V"⟩, 3) := ⟨⟨by decide +kernel, by decide +kernel⟩, List.mem_of_getElem? (i := 40) (by decide +kernel), List.mem_of_getElem? (i := 207) (by decide +kernel), List.mem_of_getElem? (i := 208) (by decide +kernel)⟩
theorem lw_p2 : lw_okq (⟨"java/util/ArrayList", "grow", "()[Ljava/lang/Object;"⟩, 3) := ⟨⟨by decide +kernel, by decide +kernel⟩, List.mem_of_getElem? (i := 40) (by decide +kernel), List.mem_of_getElem? (i := 211) (by decide +kernel), List.mem_of_getElem? (i := 212) (by decide +kernel)⟩
theorem lw_p3 : lw_okq (⟨"java/util/ArrayList", "grow", "(I)[Ljava/lang/Object;"⟩, 3) := ⟨⟨by decide +kernel, by decide +kernel⟩, List.mem_of_getElem? (i := 40) (by decide +kernel), List.mem_of_getElem? (i := 215) (by decide +kernel), List.mem_of_getElem? (i := 216) (by decide +kernel)⟩
theorem lw_p4 : lw_okq (⟨"BodySolids", "relation", "(II)I"⟩, 10) := ⟨⟨by decide +kernel, by decide +kernel⟩, List.mem_of_getElem? (i := 25) (by decide +kernel), List.mem_of_getElem? (i := 265) (by decide +kernel), List.mem_of_getElem? (i := 266) (by decide +kernel)⟩
theorem lw_p5 : lw_okq (⟨"BodySolids", "relationOfLayouts", "()I"⟩, 10) := ⟨⟨by decide +kernel, by decide +kernel⟩, List.mem_of_getElem? (i := 25) (by decide +kernel), List.mem_of_getElem? (i := 322) (by decide +kernel), List.mem_of_getElem? (i := 323) (by decide +kernel)⟩
theorem lw_p6 : lw_okq (⟨"BodySolids", "breaksSome", "(LBodySolids$Placement;)Z"⟩, 10) := ⟨⟨by decide +kernel, by decide +kernel⟩, List.mem_of_getElem? (i := 25) (by decide +kernel), List.mem_of_getElem? (i := 367) (by decide +kernel), List.mem_of_getElem? (i := 368) (by decide +kernel)⟩
theorem lw_p7 : lw_okq (⟨"BodySolids", "bodyAt", "(I)LBodySolids$Body;"⟩, 10) := ⟨⟨by decide +kernel, by decide +kernel⟩, List.mem_of_getElem? (i := 25) (by decide +kernel), List.mem_of_getElem? (i := 389) (by decide +kernel), List.mem_of_getElem? (i := 390) (by decide +kernel)⟩
theorem lw_p8 : lw_okq (⟨"java/lang/Throwable", "fillInStackTrace", "(I)Ljava/lang/Throwable;"⟩, 6) := ⟨⟨by decide +kernel, by decide +kernel⟩, List.mem_of_getElem? (i := 434) (by decide +kernel), List.mem_of_getElem? (i := 432) (by decide +kernel), List.mem_of_getElem? (i := 433) (by decide +kernel)⟩
theorem lw_p9 : lw_okq (⟨"BodySolids", "forgetRelationsOf", "(LBodySolids$Body;)V"⟩, 10) := ⟨⟨by decide +kernel, by decide +kernel⟩, List.mem_of_getElem? (i := 25) (by decide +kernel), List.mem_of_getElem? (i := 513) (by decide +kernel), List.mem_of_getElem? (i := 514) (by decide +kernel)⟩
theorem lw_p10 : lw_okq (⟨"BodySolids", "forgetRelationsAt", "(I)V"⟩, 10) := ⟨⟨by decide +kernel, by decide +kernel⟩, List.mem_of_getElem? (i := 25) (by decide +kernel), List.mem_of_getElem? (i := 517) (by decide +kernel), List.mem_of_getElem? (i := 518) (by decide +kernel)⟩
theorem lw_p11 : lw_okq (⟨"BodySolids", "cornersMakePolygon", "()Z"⟩, 10) := ⟨⟨by decide +kernel, by decide +kernel⟩, List.mem_of_getElem? (i := 25) (by decide +kernel), List.mem_of_getElem? (i := 544) (by decide +kernel), List.mem_of_getElem? (i := 545) (by decide +kernel)⟩
theorem lw_p12 : lw_okq (⟨"BodySolids", "othersLieLeftOfSide", "(II)Z"⟩, 10) := ⟨⟨by decide +kernel, by decide +kernel⟩, List.mem_of_getElem? (i := 25) (by decide +kernel), List.mem_of_getElem? (i := 548) (by decide +kernel), List.mem_of_getElem? (i := 549) (by decide +kernel)⟩
theorem lw_p13 : lw_okq (⟨"BodySolids", "turnAt", "(III)J"⟩, 10) := ⟨⟨by decide +kernel, by decide +kernel⟩, List.mem_of_getElem? (i := 25) (by decide +kernel), List.mem_of_getElem? (i := 552) (by decide +kernel), List.mem_of_getElem? (i := 553) (by decide +kernel)⟩
theorem lw_p14 : lw_okq (⟨"BodySolids", "twiceAreaOfCorners", "()J"⟩, 10) := ⟨⟨by decide +kernel, by decide +kernel⟩, List.mem_of_getElem? (i := 25) (by decide +kernel), List.mem_of_getElem? (i := 557) (by decide +kernel), List.mem_of_getElem? (i := 558) (by decide +kernel)⟩
theorem lw_p15 : lw_okq (⟨"BodySolids", "placementAt", "(I)LBodySolids$Placement;"⟩, 10) := ⟨⟨by decide +kernel, by decide +kernel⟩, List.mem_of_getElem? (i := 25) (by decide +kernel), List.mem_of_getElem? (i := 635) (by decide +kernel), List.mem_of_getElem? (i := 636) (by decide +kernel)⟩
def lw_privs_1 : List (MethodName × Nat) := [(⟨"BodySolids", "addBody", "(LBodySolids$Body;)I"⟩, 10), (⟨"java/util/ArrayList", "add", "(Ljava/lang/Object;[Ljava/lang/Object;I)V"⟩, 3), (⟨"java/util/ArrayList", "grow", "()[Ljava/lang/Object;"⟩, 3), (⟨"java/util/ArrayList", "grow", "(I)[Ljava/lang/Object;"⟩, 3), (⟨"BodySolids", "relation", "(II)I"⟩, 10), (⟨"BodySolids", "relationOfLayouts", "()I"⟩, 10), (⟨"BodySolids", "breaksSome", "(LBodySolids$Placement;)Z"⟩, 10), (⟨"BodySolids", "bodyAt", "(I)LBodySolids$Body;"⟩, 10), (⟨"java/lang/Throwable", "fillInStackTrace", "(I)Ljava/lang/Throwable;"⟩, 6), (⟨"BodySolids", "forgetRelationsOf", "(LBodySolids$Body;)V"⟩, 10), (⟨"BodySolids", "forgetRelationsAt", "(I)V"⟩, 10), (⟨"BodySolids", "cornersMakePolygon", "()Z"⟩, 10), (⟨"BodySolids", "othersLieLeftOfSide", "(II)Z"⟩, 10), (⟨"BodySolids", "turnAt", "(III)J"⟩, 10), (⟨"BodySolids", "twiceAreaOfCorners", "()J"⟩, 10), (⟨"BodySolids", "placementAt", "(I)LBodySolids$Placement;"⟩, 10)]
theorem lw_r1 : ∀ q ∈ lw_privs_1, lw_okq q := List.forall_mem_cons.mpr ⟨lw_p0, List.forall_mem_cons.mpr ⟨lw_p1, List.forall_mem_cons.mpr ⟨lw_p2, List.forall_mem_cons.mpr ⟨lw_p3, List.forall_mem_cons.mpr ⟨lw_p4, List.forall_mem_cons.mpr ⟨lw_p5, List.forall_mem_cons.mpr ⟨lw_p6, List.forall_mem_cons.mpr ⟨lw_p7, List.forall_mem_cons.mpr ⟨lw_p8, List.forall_mem_cons.mpr ⟨lw_p9, List.forall_mem_cons.mpr ⟨lw_p10, List.forall_mem_cons.mpr ⟨lw_p11, List.forall_mem_cons.mpr ⟨lw_p12, List.forall_mem_cons.mpr ⟨lw_p13, List.forall_mem_cons.mpr ⟨lw_p14, List.forall_mem_cons.mpr ⟨lw_p15, fun _ h => absurd h List.not_mem_nil⟩⟩⟩⟩⟩⟩⟩⟩⟩⟩⟩⟩⟩⟩⟩⟩
theorem lw_p16 : lw_okq (⟨"BodySolids", "sectionAnswer", "(III)J"⟩, 10) := ⟨⟨by decide +kernel, by decide +kernel⟩, List.mem_of_getElem? (i := 25) (by decide +kernel), List.mem_of_getElem? (i := 720) (by decide +kernel), List.mem_of_getElem? (i := 721) (by decide +kernel)⟩
theorem lw_p17 : lw_okq (⟨"BodySolidsModel", "isBody", "(I)Z"⟩, 27) := ⟨⟨by decide +kernel, by decide +kernel⟩, List.mem_of_getElem? (i := 732) (by decide +kernel), List.mem_of_getElem? (i := 847) (by decide +kernel), List.mem_of_getElem? (i := 848) (by decide +kernel)⟩
theorem lw_p18 : lw_okq (⟨"BodySolidsModel", "fresh", "(II)I"⟩, 27) := ⟨⟨by decide +kernel, by decide +kernel⟩, List.mem_of_getElem? (i := 732) (by decide +kernel), List.mem_of_getElem? (i := 851) (by decide +kernel), List.mem_of_getElem? (i := 852) (by decide +kernel)⟩
theorem lw_p19 : lw_okq (⟨"BodySolidsModel", "tell", "(IIJ)V"⟩, 27) := ⟨⟨by decide +kernel, by decide +kernel⟩, List.mem_of_getElem? (i := 732) (by decide +kernel), List.mem_of_getElem? (i := 855) (by decide +kernel), List.mem_of_getElem? (i := 856) (by decide +kernel)⟩
theorem lw_p20 : lw_okq (⟨"BodySolidsModel", "isRound", "()Z"⟩, 27) := ⟨⟨by decide +kernel, by decide +kernel⟩, List.mem_of_getElem? (i := 732) (by decide +kernel), List.mem_of_getElem? (i := 871) (by decide +kernel), List.mem_of_getElem? (i := 872) (by decide +kernel)⟩
theorem lw_p21 : lw_okq (⟨"BodySolidsModel", "copy", "(II)V"⟩, 27) := ⟨⟨by decide +kernel, by decide +kernel⟩, List.mem_of_getElem? (i := 732) (by decide +kernel), List.mem_of_getElem? (i := 889) (by decide +kernel), List.mem_of_getElem? (i := 890) (by decide +kernel)⟩
theorem lw_p22 : lw_okq (⟨"BodySolidsModel", "set", "(IJJII)V"⟩, 27) := ⟨⟨by decide +kernel, by decide +kernel⟩, List.mem_of_getElem? (i := 732) (by decide +kernel), List.mem_of_getElem? (i := 900) (by decide +kernel), List.mem_of_getElem? (i := 901) (by decide +kernel)⟩
theorem lw_p23 : lw_okq (⟨"BodySolidsModel", "isPlaced", "(I)Z"⟩, 27) := ⟨⟨by decide +kernel, by decide +kernel⟩, List.mem_of_getElem? (i := 732) (by decide +kernel), List.mem_of_getElem? (i := 908) (by decide +kernel), List.mem_of_getElem? (i := 909) (by decide +kernel)⟩
theorem lw_p24 : lw_okq (⟨"BodySolidsModel", "meet", "(II)I"⟩, 27) := ⟨⟨by decide +kernel, by decide +kernel⟩, List.mem_of_getElem? (i := 732) (by decide +kernel), List.mem_of_getElem? (i := 916) (by decide +kernel), List.mem_of_getElem? (i := 917) (by decide +kernel)⟩
theorem lw_p25 : lw_okq (⟨"BodySolidsModel", "lay", "(III)V"⟩, 27) := ⟨⟨by decide +kernel, by decide +kernel⟩, List.mem_of_getElem? (i := 732) (by decide +kernel), List.mem_of_getElem? (i := 920) (by decide +kernel), List.mem_of_getElem? (i := 921) (by decide +kernel)⟩
theorem lw_p26 : lw_okq (⟨"BodySolidsModel", "of", "(II)J"⟩, 27) := ⟨⟨by decide +kernel, by decide +kernel⟩, List.mem_of_getElem? (i := 732) (by decide +kernel), List.mem_of_getElem? (i := 924) (by decide +kernel), List.mem_of_getElem? (i := 925) (by decide +kernel)⟩
theorem lw_p27 : lw_okq (⟨"BodySolidsModel", "spot", "(IIIJJ)V"⟩, 27) := ⟨⟨by decide +kernel, by decide +kernel⟩, List.mem_of_getElem? (i := 732) (by decide +kernel), List.mem_of_getElem? (i := 928) (by decide +kernel), List.mem_of_getElem? (i := 929) (by decide +kernel)⟩
theorem lw_p28 : lw_okq (⟨"BodySolidsModel", "xOf", "(IJJ)J"⟩, 27) := ⟨⟨by decide +kernel, by decide +kernel⟩, List.mem_of_getElem? (i := 732) (by decide +kernel), List.mem_of_getElem? (i := 932) (by decide +kernel), List.mem_of_getElem? (i := 933) (by decide +kernel)⟩
theorem lw_p29 : lw_okq (⟨"BodySolidsModel", "yOf", "(IJJ)J"⟩, 27) := ⟨⟨by decide +kernel, by decide +kernel⟩, List.mem_of_getElem? (i := 732) (by decide +kernel), List.mem_of_getElem? (i := 936) (by decide +kernel), List.mem_of_getElem? (i := 937) (by decide +kernel)⟩
theorem lw_p30 : lw_okq (⟨"BodySolidsModel", "point", "(IIJJ)V"⟩, 27) := ⟨⟨by decide +kernel, by decide +kernel⟩, List.mem_of_getElem? (i := 732) (by decide +kernel), List.mem_of_getElem? (i := 940) (by decide +kernel), List.mem_of_getElem? (i := 941) (by decide +kernel)⟩
theorem lw_p31 : lw_okq (⟨"BodySolidsModel", "zOf", "(IJ)J"⟩, 27) := ⟨⟨by decide +kernel, by decide +kernel⟩, List.mem_of_getElem? (i := 732) (by decide +kernel), List.mem_of_getElem? (i := 944) (by decide +kernel), List.mem_of_getElem? (i := 945) (by decide +kernel)⟩
def lw_privs_2 : List (MethodName × Nat) := [(⟨"BodySolids", "sectionAnswer", "(III)J"⟩, 10), (⟨"BodySolidsModel", "isBody", "(I)Z"⟩, 27), (⟨"BodySolidsModel", "fresh", "(II)I"⟩, 27), (⟨"BodySolidsModel", "tell", "(IIJ)V"⟩, 27), (⟨"BodySolidsModel", "isRound", "()Z"⟩, 27), (⟨"BodySolidsModel", "copy", "(II)V"⟩, 27), (⟨"BodySolidsModel", "set", "(IJJII)V"⟩, 27), (⟨"BodySolidsModel", "isPlaced", "(I)Z"⟩, 27), (⟨"BodySolidsModel", "meet", "(II)I"⟩, 27), (⟨"BodySolidsModel", "lay", "(III)V"⟩, 27), (⟨"BodySolidsModel", "of", "(II)J"⟩, 27), (⟨"BodySolidsModel", "spot", "(IIIJJ)V"⟩, 27), (⟨"BodySolidsModel", "xOf", "(IJJ)J"⟩, 27), (⟨"BodySolidsModel", "yOf", "(IJJ)J"⟩, 27), (⟨"BodySolidsModel", "point", "(IIJJ)V"⟩, 27), (⟨"BodySolidsModel", "zOf", "(IJ)J"⟩, 27)]
theorem lw_r2 : ∀ q ∈ lw_privs_2, lw_okq q := List.forall_mem_cons.mpr ⟨lw_p16, List.forall_mem_cons.mpr ⟨lw_p17, List.forall_mem_cons.mpr ⟨lw_p18, List.forall_mem_cons.mpr ⟨lw_p19, List.forall_mem_cons.mpr ⟨lw_p20, List.forall_mem_cons.mpr ⟨lw_p21, List.forall_mem_cons.mpr ⟨lw_p22, List.forall_mem_cons.mpr ⟨lw_p23, List.forall_mem_cons.mpr ⟨lw_p24, List.forall_mem_cons.mpr ⟨lw_p25, List.forall_mem_cons.mpr ⟨lw_p26, List.forall_mem_cons.mpr ⟨lw_p27, List.forall_mem_cons.mpr ⟨lw_p28, List.forall_mem_cons.mpr ⟨lw_p29, List.forall_mem_cons.mpr ⟨lw_p30, List.forall_mem_cons.mpr ⟨lw_p31, fun _ h => absurd h List.not_mem_nil⟩⟩⟩⟩⟩⟩⟩⟩⟩⟩⟩⟩⟩⟩⟩⟩
theorem lw_p32 : lw_okq (⟨"BodySolidsModel", "heights", "(IJJ)V"⟩, 27) := ⟨⟨by decide +kernel, by decide +kernel⟩, List.mem_of_getElem? (i := 732) (by decide +kernel), List.mem_of_getElem? (i := 949) (by decide +kernel), List.mem_of_getElem? (i := 950) (by decide +kernel)⟩
theorem lw_p33 : lw_okq (⟨"BodySolidsModel", "both", "()I"⟩, 27) := ⟨⟨by decide +kernel, by decide +kernel⟩, List.mem_of_getElem? (i := 732) (by decide +kernel), List.mem_of_getElem? (i := 953) (by decide +kernel), List.mem_of_getElem? (i := 954) (by decide +kernel)⟩
theorem lw_p34 : lw_okq (⟨"BodySolidsModel", "tubes", "()I"⟩, 27) := ⟨⟨by decide +kernel, by decide +kernel⟩, List.mem_of_getElem? (i := 732) (by decide +kernel), List.mem_of_getElem? (i := 957) (by decide +kernel), List.mem_of_getElem? (i := 958) (by decide +kernel)⟩
theorem lw_p35 : lw_okq (⟨"BodySolidsModel", "heightGap", "()J"⟩, 27) := ⟨⟨by decide +kernel, by decide +kernel⟩, List.mem_of_getElem? (i := 732) (by decide +kernel), List.mem_of_getElem? (i := 967) (by decide +kernel), List.mem_of_getElem? (i := 968) (by decide +kernel)⟩
theorem lw_p36 : lw_okq (⟨"BodySolidsModel", "coreGap", "(IZJJ)J"⟩, 27) := ⟨⟨by decide +kernel, by decide +kernel⟩, List.mem_of_getElem? (i := 732) (by decide +kernel), List.mem_of_getElem? (i := 974) (by decide +kernel), List.mem_of_getElem? (i := 975) (by decide +kernel)⟩
theorem lw_p37 : lw_okq (⟨"BodySolidsModel", "coreAndDisc", "(IJ)I"⟩, 27) := ⟨⟨by decide +kernel, by decide +kernel⟩, List.mem_of_getElem? (i := 732) (by decide +kernel), List.mem_of_getElem? (i := 984) (by decide +kernel), List.mem_of_getElem? (i := 985) (by decide +kernel)⟩
theorem lw_p38 : lw_okq (⟨"BodySolidsModel", "coreAndPolygon", "(IJ)I"⟩, 27) := ⟨⟨by decide +kernel, by decide +kernel⟩, List.mem_of_getElem? (i := 732) (by decide +kernel), List.mem_of_getElem? (i := 989) (by decide +kernel), List.mem_of_getElem? (i := 990) (by decide +kernel)⟩
theorem lw_p39 : lw_okq (⟨"BodySolidsModel", "fromPolygon", "(IJJJ)I"⟩, 27) := ⟨⟨by decide +kernel, by decide +kernel⟩, List.mem_of_getElem? (i := 732) (by decide +kernel), List.mem_of_getElem? (i := 993) (by decide +kernel), List.mem_of_getElem? (i := 994) (by decide +kernel)⟩
theorem lw_p40 : lw_okq (⟨"BodySolidsModel", "isIn", "(IJJ)Z"⟩, 27) := ⟨⟨by decide +kernel, by decide +kernel⟩, List.mem_of_getElem? (i := 732) (by decide +kernel), List.mem_of_getElem? (i := 997) (by decide +kernel), List.mem_of_getElem? (i := 998) (by decide +kernel)⟩
theorem lw_p41 : lw_okq (⟨"BodySolidsModel", "bases", "()I"⟩, 27) := ⟨⟨by decide +kernel, by decide +kernel⟩, List.mem_of_getElem? (i := 732) (by decide +kernel), List.mem_of_getElem? (i := 1008) (by decide +kernel), List.mem_of_getElem? (i := 1009) (by decide +kernel)⟩
theorem lw_p42 : lw_okq (⟨"BodySolidsModel", "polygons", "()I"⟩, 27) := ⟨⟨by decide +kernel, by decide +kernel⟩, List.mem_of_getElem? (i := 732) (by decide +kernel), List.mem_of_getElem? (i := 1012) (by decide +kernel), List.mem_of_getElem? (i := 1013) (by decide +kernel)⟩
theorem lw_p43 : lw_okq (⟨"BodySolidsModel", "along", "(JJ)I"⟩, 27) := ⟨⟨by decide +kernel, by decide +kernel⟩, List.mem_of_getElem? (i := 732) (by decide +kernel), List.mem_of_getElem? (i := 1016) (by decide +kernel), List.mem_of_getElem? (i := 1017) (by decide +kernel)⟩
theorem lw_p44 : lw_okq (⟨"BodySolidsModel", "doesBreak", "(I)Z"⟩, 27) := ⟨⟨by decide +kernel, by decide +kernel⟩, List.mem_of_getElem? (i := 732) (by decide +kernel), List.mem_of_getElem? (i := 1041) (by decide +kernel), List.mem_of_getElem? (i := 1042) (by decide +kernel)⟩
theorem lw_p45 : lw_okq (⟨"BodySolidsModel", "layOut", "(I)V"⟩, 27) := ⟨⟨by decide +kernel, by decide +kernel⟩, List.mem_of_getElem? (i := 732) (by decide +kernel), List.mem_of_getElem? (i := 1045) (by decide +kernel), List.mem_of_getElem? (i := 1046) (by decide +kernel)⟩
theorem lw_p46 : lw_okq (⟨"BodySolidsModel", "edge", "(I)J"⟩, 27) := ⟨⟨by decide +kernel, by decide +kernel⟩, List.mem_of_getElem? (i := 732) (by decide +kernel), List.mem_of_getElem? (i := 1055) (by decide +kernel), List.mem_of_getElem? (i := 1056) (by decide +kernel)⟩
theorem lw_p47 : lw_okq (⟨"BodySolidsModel", "volume", "(I)J"⟩, 27) := ⟨⟨by decide +kernel, by decide +kernel⟩, List.mem_of_getElem? (i := 732) (by decide +kernel), List.mem_of_getElem? (i := 1067) (by decide +kernel), List.mem_of_getElem? (i := 1068) (by decide +kernel)⟩
def lw_privs_3 : List (MethodName × Nat) := [(⟨"BodySolidsModel", "heights", "(IJJ)V"⟩, 27), (⟨"BodySolidsModel", "both", "()I"⟩, 27), (⟨"BodySolidsModel", "tubes", "()I"⟩, 27), (⟨"BodySolidsModel", "heightGap", "()J"⟩, 27), (⟨"BodySolidsModel", "coreGap", "(IZJJ)J"⟩, 27), (⟨"BodySolidsModel", "coreAndDisc", "(IJ)I"⟩, 27), (⟨"BodySolidsModel", "coreAndPolygon", "(IJ)I"⟩, 27), (⟨"BodySolidsModel", "fromPolygon", "(IJJJ)I"⟩, 27), (⟨"BodySolidsModel", "isIn", "(IJJ)Z"⟩, 27), (⟨"BodySolidsModel", "bases", "()I"⟩, 27), (⟨"BodySolidsModel", "polygons", "()I"⟩, 27), (⟨"BodySolidsModel", "along", "(JJ)I"⟩, 27), (⟨"BodySolidsModel", "doesBreak", "(I)Z"⟩, 27), (⟨"BodySolidsModel", "layOut", "(I)V"⟩, 27), (⟨"BodySolidsModel", "edge", "(I)J"⟩, 27), (⟨"BodySolidsModel", "volume", "(I)J"⟩, 27)]
theorem lw_r3 : ∀ q ∈ lw_privs_3, lw_okq q := List.forall_mem_cons.mpr ⟨lw_p32, List.forall_mem_cons.mpr ⟨lw_p33, List.forall_mem_cons.mpr ⟨lw_p34, List.forall_mem_cons.mpr ⟨lw_p35, List.forall_mem_cons.mpr ⟨lw_p36, List.forall_mem_cons.mpr ⟨lw_p37, List.forall_mem_cons.mpr ⟨lw_p38, List.forall_mem_cons.mpr ⟨lw_p39, List.forall_mem_cons.mpr ⟨lw_p40, List.forall_mem_cons.mpr ⟨lw_p41, List.forall_mem_cons.mpr ⟨lw_p42, List.forall_mem_cons.mpr ⟨lw_p43, List.forall_mem_cons.mpr ⟨lw_p44, List.forall_mem_cons.mpr ⟨lw_p45, List.forall_mem_cons.mpr ⟨lw_p46, List.forall_mem_cons.mpr ⟨lw_p47, fun _ h => absurd h List.not_mem_nil⟩⟩⟩⟩⟩⟩⟩⟩⟩⟩⟩⟩⟩⟩⟩⟩
def lw_privs : List (MethodName × Nat) := lw_privs_1 ++ (lw_privs_2 ++ (lw_privs_3))
def lw_tbl : List Cond := k2_sels lw_privs ++ tables_1
theorem lw_privs_ok : ∀ q ∈ lw_privs, lw_okq q := by
  show ∀ q ∈ lw_privs_1 ++ (lw_privs_2 ++ (lw_privs_3)), lw_okq q
  exact List.forall_mem_append.mpr ⟨lw_r1, List.forall_mem_append.mpr ⟨lw_r2, lw_r3⟩⟩

def R0 : String := "BodySolids"
def T0 : u_T := fun k => match k with
  | 0 => ("BodySolids", "thickness", "J", true)
  | 1 => ("BodySolids", "bodies", "Ljava/util/ArrayList;", true)
  | 2 => ("BodySolids", "placements", "Ljava/util/ArrayList;", true)
  | 3 => ("BodySolids", "keepOuts", "Ljava/util/ArrayList;", true)
  | 4 => ("BodySolids", "cornerX", "[J", true)
  | 5 => ("BodySolids", "cornerY", "[J", true)
  | 6 => ("BodySolids", "corners", "I", false)
  | 7 => ("BodySolids", "relations", "[I", true)
  | 8 => ("BodySolids", "first", "LBodySolids$Layout;", true)
  | _ => ("BodySolids", "second", "LBodySolids$Layout;", true)
def t_0 : Nat → FieldType := fun k => match k with
  | 0 => .long
  | 1 => .object "java/util/ArrayList"
  | 2 => .object "java/util/ArrayList"
  | 3 => .object "java/util/ArrayList"
  | 4 => .array .long
  | 5 => .array .long
  | 6 => .int
  | 7 => .array .int
  | 8 => .object "BodySolids$Layout"
  | _ => .object "BodySolids$Layout"
theorem n_0 : ∀ a, a < 10 → ∀ b, b < 10 → a ≠ b → (T0 a).2.1 ≠ (T0 b).2.1 := by decide +kernel
theorem t_0_ok : ∀ k, k < 10 → parseFieldDescriptor (T0 k).2.2.1 = some (t_0 k) := by decide +kernel
def R1 : String := "java/util/ArrayList"
def T1 : u_T := fun k => match k with
  | 0 => ("java/util/ArrayList", "elementData", "[Ljava/lang/Object;", false)
  | 1 => ("java/util/ArrayList", "size", "I", false)
  | _ => ("java/util/AbstractList", "modCount", "I", false)
def t_1 : Nat → FieldType := fun k => match k with
  | 0 => .array (.object "java/lang/Object")
  | 1 => .int
  | _ => .int
theorem n_1 : ∀ a, a < 3 → ∀ b, b < 3 → a ≠ b → (T1 a).2.1 ≠ (T1 b).2.1 := by decide +kernel
theorem t_1_ok : ∀ k, k < 3 → parseFieldDescriptor (T1 k).2.2.1 = some (t_1 k) := by decide +kernel
def R2 : String := "BodySolids$Layout"
def T2 : u_T := fun k => match k with
  | 0 => ("BodySolids$Layout", "solids", "[LBodySolids$Solid;", true)
  | _ => ("BodySolids$Layout", "count", "I", false)
def t_2 : Nat → FieldType := fun k => match k with
  | 0 => .array (.object "BodySolids$Solid")
  | _ => .int
theorem n_2 : ∀ a, a < 2 → ∀ b, b < 2 → a ≠ b → (T2 a).2.1 ≠ (T2 b).2.1 := by decide +kernel
theorem t_2_ok : ∀ k, k < 2 → parseFieldDescriptor (T2 k).2.2.1 = some (t_2 k) := by decide +kernel
def R3 : String := "BodySolids$Solid"
def T3 : u_T := fun k => match k with
  | 0 => ("BodySolids$Solid", "kind", "I", false)
  | 1 => ("BodySolids$Solid", "flat", "J", false)
  | 2 => ("BodySolids$Solid", "round", "J", false)
  | 3 => ("BodySolids$Solid", "xs", "[J", true)
  | 4 => ("BodySolids$Solid", "ys", "[J", true)
  | 5 => ("BodySolids$Solid", "corners", "I", false)
  | 6 => ("BodySolids$Solid", "x0", "J", false)
  | 7 => ("BodySolids$Solid", "y0", "J", false)
  | 8 => ("BodySolids$Solid", "z0", "J", false)
  | 9 => ("BodySolids$Solid", "x1", "J", false)
  | 10 => ("BodySolids$Solid", "y1", "J", false)
  | _ => ("BodySolids$Solid", "z1", "J", false)
def t_3 : Nat → FieldType := fun k => match k with
  | 0 => .int
  | 1 => .long
  | 2 => .long
  | 3 => .array .long
  | 4 => .array .long
  | 5 => .int
  | 6 => .long
  | 7 => .long
  | 8 => .long
  | 9 => .long
  | 10 => .long
  | _ => .long
theorem n_3 : ∀ a, a < 12 → ∀ b, b < 12 → a ≠ b → (T3 a).2.1 ≠ (T3 b).2.1 := by decide +kernel
theorem t_3_ok : ∀ k, k < 12 → parseFieldDescriptor (T3 k).2.2.1 = some (t_3 k) := by decide +kernel
def R4 : String := "BodySolids$Body"
def T4 : u_T := fun k => match k with
  | 0 => ("BodySolids$Body", "solids", "Ljava/util/ArrayList;", true)
  | _ => ("BodySolids$Body", "weight", "J", false)
def t_4 : Nat → FieldType := fun k => match k with
  | 0 => .object "java/util/ArrayList"
  | _ => .long
theorem n_4 : ∀ a, a < 2 → ∀ b, b < 2 → a ≠ b → (T4 a).2.1 ≠ (T4 b).2.1 := by decide +kernel
theorem t_4_ok : ∀ k, k < 2 → parseFieldDescriptor (T4 k).2.2.1 = some (t_4 k) := by decide +kernel
def R5 : String := "BodySolids$Placement"
def T5 : u_T := fun k => match k with
  | 0 => ("BodySolids$Placement", "body", "LBodySolids$Body;", true)
  | 1 => ("BodySolids$Placement", "x", "J", false)
  | 2 => ("BodySolids$Placement", "y", "J", false)
  | 3 => ("BodySolids$Placement", "turn", "I", false)
  | _ => ("BodySolids$Placement", "side", "I", false)
def t_5 : Nat → FieldType := fun k => match k with
  | 0 => .object "BodySolids$Body"
  | 1 => .long
  | 2 => .long
  | 3 => .int
  | _ => .int
theorem n_5 : ∀ a, a < 5 → ∀ b, b < 5 → a ≠ b → (T5 a).2.1 ≠ (T5 b).2.1 := by decide +kernel
theorem t_5_ok : ∀ k, k < 5 → parseFieldDescriptor (T5 k).2.2.1 = some (t_5 k) := by decide +kernel
def R6 : String := "BodySolids$KeepOut"
def T6 : u_T := fun k => match k with
  | 0 => ("BodySolids$KeepOut", "space", "LBodySolids$Solid;", true)
  | _ => ("BodySolids$KeepOut", "side", "I", true)
def t_6 : Nat → FieldType := fun k => match k with
  | 0 => .object "BodySolids$Solid"
  | _ => .int
theorem n_6 : ∀ a, a < 2 → ∀ b, b < 2 → a ≠ b → (T6 a).2.1 ≠ (T6 b).2.1 := by decide +kernel
theorem t_6_ok : ∀ k, k < 2 → parseFieldDescriptor (T6 k).2.2.1 = some (t_6 k) := by decide +kernel
def R7 : String := "BodySolidsModel"
def T7 : u_T := fun k => match k with
  | 0 => ("BodySolidsModel", "thrown", "I", false)
  | 1 => ("BodySolidsModel", "thickness", "J", true)
  | 2 => ("BodySolidsModel", "bodies", "I", false)
  | 3 => ("BodySolidsModel", "counts", "[I", true)
  | 4 => ("BodySolidsModel", "kinds", "[I", true)
  | 5 => ("BodySolidsModel", "numbers", "[J", true)
  | 6 => ("BodySolidsModel", "cornerCounts", "[I", true)
  | 7 => ("BodySolidsModel", "cornerX", "[J", true)
  | 8 => ("BodySolidsModel", "cornerY", "[J", true)
  | 9 => ("BodySolidsModel", "told", "I", false)
  | 10 => ("BodySolidsModel", "toldX", "[J", true)
  | 11 => ("BodySolidsModel", "toldY", "[J", true)
  | 12 => ("BodySolidsModel", "places", "I", false)
  | 13 => ("BodySolidsModel", "placed", "[I", true)
  | 14 => ("BodySolidsModel", "placeX", "[J", true)
  | 15 => ("BodySolidsModel", "placeY", "[J", true)
  | 16 => ("BodySolidsModel", "turns", "[I", true)
  | 17 => ("BodySolidsModel", "sides", "[I", true)
  | 18 => ("BodySolidsModel", "outs", "I", false)
  | 19 => ("BodySolidsModel", "out", "[J", true)
  | 20 => ("BodySolidsModel", "kindAt", "[I", true)
  | 21 => ("BodySolidsModel", "many", "[I", true)
  | 22 => ("BodySolidsModel", "px", "[J", true)
  | 23 => ("BodySolidsModel", "py", "[J", true)
  | 24 => ("BodySolidsModel", "radius", "[J", true)
  | 25 => ("BodySolidsModel", "low", "[J", true)
  | _ => ("BodySolidsModel", "high", "[J", true)
def t_7 : Nat → FieldType := fun k => match k with
  | 0 => .int
  | 1 => .long
  | 2 => .int
  | 3 => .array .int
  | 4 => .array .int
  | 5 => .array .long
  | 6 => .array .int
  | 7 => .array .long
  | 8 => .array .long
  | 9 => .int
  | 10 => .array .long
  | 11 => .array .long
  | 12 => .int
  | 13 => .array .int
  | 14 => .array .long
  | 15 => .array .long
  | 16 => .array .int
  | 17 => .array .int
  | 18 => .int
  | 19 => .array .long
  | 20 => .array .int
  | 21 => .array .int
  | 22 => .array .long
  | 23 => .array .long
  | 24 => .array .long
  | 25 => .array .long
  | _ => .array .long
theorem n_7 : ∀ a, a < 27 → ∀ b, b < 27 → a ≠ b → (T7 a).2.1 ≠ (T7 b).2.1 := by decide +kernel
theorem t_7_ok : ∀ k, k < 27 → parseFieldDescriptor (T7 k).2.2.1 = some (t_7 k) := by decide +kernel
abbrev gCl : List vw_C := [(R0, T0, 10), (R1, T1, 3), (R2, T2, 2), (R3, T3, 12), (R4, T4, 2), (R5, T5, 5), (R6, T6, 2), (R7, T7, 27)]
abbrev gTy : List FieldType := [.int, .long, .object "BodySolids$Solid", .object "java/lang/Object"]
def gNest : Cond → Bool
  | .fieldLinkNest _ _ _ _ _ _ => true
  | .methodLinkNest _ _ _ _ => true
  | .castable _ _ => true
  | .declares _ => true
  | .arrayOver (.object _) => true
  | w => goodWord w
def gAll : List Cond := lw_tbl.filter gNest
theorem gm {w : Cond} (i : Nat) (h : lw_tbl[i]? = some w) (hg : gNest w = true) : w ∈ gAll := List.mem_filter.mpr ⟨List.mem_of_getElem? h, hg⟩
theorem gm_all {ws : List Cond} (h : ∀ w ∈ ws, w ∈ lw_tbl ∧ gNest w = true) : ∀ w ∈ ws, w ∈ gAll := fun w hw => List.mem_filter.mpr (h w hw)
theorem i_0 : ∀ w ∈ u_ws R0 T0 10, w ∈ gAll := gm_all (by decide +kernel)
theorem i_1 : ∀ w ∈ u_ws R1 T1 3, w ∈ gAll := gm_all (by decide +kernel)
theorem i_2 : ∀ w ∈ u_ws R2 T2 2, w ∈ gAll := gm_all (by decide +kernel)
theorem i_3 : ∀ w ∈ u_ws R3 T3 12, w ∈ gAll := gm_all (by decide +kernel)
theorem i_4 : ∀ w ∈ u_ws R4 T4 2, w ∈ gAll := gm_all (by decide +kernel)
theorem i_5 : ∀ w ∈ u_ws R5 T5 5, w ∈ gAll := gm_all (by decide +kernel)
theorem i_6 : ∀ w ∈ u_ws R6 T6 2, w ∈ gAll := gm_all (by decide +kernel)
theorem i_7 : ∀ w ∈ u_ws R7 T7 27, w ∈ gAll := gm_all (by decide +kernel)
end
section
/-! ===== THE TYPED WORLD: a map from addresses to entries, and the heap's size ===== -/
abbrev gE : Type := (Nat × Nat × (Nat → Value)) ⊕ (Nat × List Value)
abbrev gW : Type := (Nat → Option gE) × Nat
abbrev gD : Type := (Nat → ClassId) × (Nat → Nat → Nat) × (Nat → ClassId)
abbrev gX (α : Type) : Type := Option ((String ⊕ α) × gW)
/-- a row that was there before: only read, what else its cell bears is not known -/
def gLo (c : ClassId) (n : Nat) (f : Nat → Value) (a : Nat) (H : Heap) : Prop := ∃ scr : Cell, H[a]? = some scr ∧ scr.cls = c ∧ (∀ k, scr.vm ≠ .statics k) ∧ scr.vm ≠ .unknown ∧ scr.slots.size = n ∧ ∀ j, j < n → scr.slots[j]? = some (f j)
/-- kinds below 4: rows that were made here; 4: ints, 5: objects, that were there before -/
def gAt (D : gD) (a : Nat) (e : gE) (H : Heap) : Prop := match e with
  | .inl x => if x.1 < 4 then H[a]? = some (arrV (D.2.2 x.1) x.2.1 x.2.2) else gLo (D.2.2 x.1) x.2.1 x.2.2 a H
  | .inr o => ∃ r : vw_C, gCl[o.1]? = some r ∧ t_OB a (D.1 o.1) r.2.2 (D.2.1 o.1) H (vp_V o.2)
theorem gAt.mk {D : gD} {a k n : Nat} {f : Nat → Value} {H : Heap} (hk : k < 4) (h : H[a]? = some (arrV (D.2.2 k) n f)) : gAt D a (.inl (k, n, f)) H := by
  show if k < 4 then _ else _
  rw [if_pos hk]
  exact h
theorem gAt.arr {D : gD} {a k n : Nat} {f : Nat → Value} {H : Heap} (hk : k < 4) (h : gAt D a (.inl (k, n, f)) H) : H[a]? = some (arrV (D.2.2 k) n f) := by
  have h : (if k < 4 then H[a]? = some (arrV (D.2.2 k) n f) else gLo (D.2.2 k) n f a H) := h
  rw [if_pos hk] at h
  exact h
theorem gAt.any {D : gD} {a k n : Nat} {f : Nat → Value} {H : Heap} (h : gAt D a (.inl (k, n, f)) H) : gLo (D.2.2 k) n f a H := by
  have h : (if k < 4 then H[a]? = some (arrV (D.2.2 k) n f) else gLo (D.2.2 k) n f a H) := h
  split at h
  · exact ⟨_, h, rfl, (fun _ q => by cases q), (fun q => by cases q), arrV_size _ _ _, fun j hj => arrV_read _ _ hj⟩
  · exact h
theorem gAt.kept {D : gD} {a : Nat} {e : gE} {H H1 : Heap} (h : gAt D a e H) (hq : H1[a]? = H[a]?) : gAt D a e H1 := by
  cases e with
  | inl x =>
    have h : (if x.1 < 4 then H[a]? = some (arrV (D.2.2 x.1) x.2.1 x.2.2) else gLo (D.2.2 x.1) x.2.1 x.2.2 a H) := h
    show if x.1 < 4 then _ else _
    split at h
    · rename_i hk
      rw [if_pos hk]
      exact hq.trans h
    · rename_i hk
      rw [if_neg hk]
      obtain ⟨scr, h1, h2⟩ := h
      exact ⟨scr, hq.trans h1, h2⟩
  | inr o =>
    obtain ⟨r, h1, h2⟩ := h
    exact ⟨r, h1, h2.kept hq⟩
theorem gAt.lt {D : gD} {a : Nat} {e : gE} {H : Heap} (h : gAt D a e H) : a < H.size := by
  cases e with
  | inl x =>
    obtain ⟨scr, h1, -⟩ := gAt.any (k := x.1) (n := x.2.1) (f := x.2.2) h
    exact (Array.getElem?_eq_some_iff.mp h1).1
  | inr o =>
    obtain ⟨r, h1, cell, h2, -⟩ := h
    exact (Array.getElem?_eq_some_iff.mp h2).1
/-- kinds and array kinds as the tables have them -/
def gK (D : gD) (U : State) : Prop := (∀ (c : Nat) (q : vw_C), gCl[c]? = some q → u_Kn U q.1 q.2.1 q.2.2 (D.1 c) (D.2.1 c)) ∧ (∀ (k : Nat) (ty : FieldType), (gTy[k]? = some ty → ArrOfT U (D.2.2 k) ty ∧ va_RA U (D.2.2 k) ty)) ∧ ArrOfT U (D.2.2 4) .int ∧ ArrOfT U (D.2.2 5) (.object "java/lang/Object")
theorem gK.moved {D : gD} {u U : State} (hvm : u.vm.Alike U.vm) (h : gK D u) : gK D U := ⟨fun c q hq => u_Kn_moved hvm (h.1 c q hq), fun k ty hk => ⟨arrOfT_moved hvm (h.2.1 k ty hk).1, (h.2.1 k ty hk).2.moved hvm⟩, arrOfT_moved hvm h.2.2.1, arrOfT_moved hvm h.2.2.2⟩
theorem gK.va {D : gD} {U : State} (h : gK D U) : va_K (D.1, D.2.1) gCl [] U := ⟨h.1, fun k q hq => by simp at hq⟩
theorem gK.arrs {D : gD} {U : State} (h : gK D U) {k : Nat} (hk : k < 6) : ∃ ty, ArrOfT U (D.2.2 k) ty := by
  match k, hk with
  | 0, _ => exact ⟨_, (h.2.1 0 _ rfl).1⟩
  | 1, _ => exact ⟨_, (h.2.1 1 _ rfl).1⟩
  | 2, _ => exact ⟨_, (h.2.1 2 _ rfl).1⟩
  | 3, _ => exact ⟨_, (h.2.1 3 _ rfl).1⟩
  | 4, _ => exact ⟨_, h.2.2.1⟩
  | 5, _ => exact ⟨_, h.2.2.2⟩
theorem garr {U : State} {c : ClassId} {ty : FieldType} (h : ArrOfT U c ty) {scr : Cell} (hc : scr.cls = c) (hv : ∀ k, scr.vm ≠ .statics k) : U.isArrayOf scr ty := ⟨hv, by rw [hc]; exact (h 0 (fun _ => .null)).2⟩
/-- every word of the one list -/
def gT (U : State) : Prop := ∀ w ∈ gAll, ∀ a : Array Value, w.before a U = true
theorem gNest_warm {w : Cond} (h : gNest w = true) {s U : State} (hW : s.WarmedH U.vm) (hb : ∀ a : Array Value, w.before a s = true) (a' : Array Value) : w.before a' U = true := by
  cases w
  case fieldLinkNest => exact va_Nw.use rfl (va_Nw.warmF hW (hb #[]))
  case methodLinkNest => exact va_Nw.use rfl (va_Nw.warmM hW (hb #[]))
  case castable => exact va_Nw.use rfl (va_Nw.warmC hW (hb #[]))
  case declares => exact va_Nw.use rfl (va_Nw.warmD hW (hb #[]))
  case arrayOver f =>
    cases f with
    | object C => exact va_AO.use (va_AO.moved hW.alike (va_AO.of (hb #[])))
    | _ => exact word_at hW (good_of_word h) (hb #[])
  all_goals exact word_at hW (good_of_word h) (hb #[])
theorem gT.warm {s U : State} (hW : s.WarmedH U.vm) (h : gT s) : gT U := fun w hw a => gNest_warm (List.mem_filter.mp hw).2 hW (h w hw) a
/-- an empty row is never written; nor one that was there before -/
def gRW : gE → Prop
  | .inl x => x.1 < 4 ∧ x.2.1 ≠ 0
  | .inr _ => True
/-- between a world and the machine's heap, inside a method: s its start, A what it may change -/
def gI (D : gD) (s : State) (A : Nat → Prop) (w : gW) (H : Heap) (locs : List Loc) : Prop :=
  H.size = w.2 ∧ (∀ (a : Nat) (e : gE), w.1 a = some e → gAt D a e H) ∧ va_S A s.heap H locs ∧ ∀ (a : Nat) (e : gE), w.1 a = some e → gRW e → A a
def gup (w : gW) (a : Nat) (e : gE) : gW := (fun q => if q = a then some e else w.1 q, w.2)
def gpush (w : gW) (e : gE) : gW := (fun q => if q = w.2 then some e else w.1 q, w.2 + 1)
theorem gI.put {D : gD} {s : State} {A : Nat → Prop} {w : gW} {H H1 : Heap} {locs : List Loc} {a k : Nat} {e0 e : gE} (hI : gI D s A w H locs) (hw : w.1 a = some e0) (hrw : gRW e0) (z : H1.size = H.size) (oq : ∀ q : Nat, q ≠ a → H1[q]? = H[q]?) (he : gAt D a e H1) : gI D s A (gup w a e) H1 (locs ++ [⟨a, k⟩]) := by
  obtain ⟨h1, h2, h3, h4⟩ := hI
  refine ⟨z.trans h1, fun b x hb => ?_, h3.put z oq (h4 a e0 hw hrw), fun b x hb hx => ?_⟩
  · by_cases q : b = a
    · subst q
      simp only [gup, if_true] at hb
      cases hb
      exact he
    · simp only [gup, if_neg q] at hb
      exact (h2 b x hb).kept (oq b q)
  · by_cases q : b = a
    · subst q
      exact h4 b e0 hw hrw
    · simp only [gup, if_neg q] at hb
      exact h4 b x hb hx
theorem gI.push {D : gD} {s : State} {A : Nat → Prop} {w : gW} {H H1 : Heap} {locs : List Loc} {e : gE} (hI : gI D s A w H locs) (hA : ∀ q : Nat, s.heap.size ≤ q → A q) (z : H1.size = H.size + 1) (oq : ∀ q : Nat, q < H.size → H1[q]? = H[q]?) (he : gAt D H.size e H1) : gI D s A (gpush w e) H1 locs := by
  obtain ⟨h1, h2, h3, h4⟩ := hI
  refine ⟨by rw [z, h1]; rfl, fun b x hb => ?_, ⟨Nat.le_trans h3.1 (by omega), fun q g1 g2 => (oq q (Nat.lt_of_lt_of_le g1 h3.1)).trans (h3.2.1 q g1 g2), h3.2.2⟩, fun b x hb hx => ?_⟩
  · by_cases q : b = w.2
    · subst q
      simp only [gpush, if_true] at hb
      cases hb
      rw [← h1]
      exact he
    · simp only [gpush, if_neg q] at hb
      have hl := (h2 b x hb).lt
      exact (h2 b x hb).kept (oq b hl)
  · by_cases q : b = w.2
    · subst q
      exact hA _ (by rw [← h1]; exact h3.1)
    · simp only [gpush, if_neg q] at hb
      exact h4 b x hb hx
theorem gI.one {D : gD} {s : State} {A : Nat → Prop} {w : gW} {H : Heap} {locs : List Loc} {a ci : Nat} {fs : List Value} (hI : gI D s A w H locs) (h : w.1 a = some (.inr (ci, fs))) : va_P (D.1, D.2.1) gCl [(a, .inr (ci, fs))] H := by
  intro k q hk
  match k, hk with
  | 0, hk =>
    cases hk
    exact hI.2.1 a _ h
  | k + 1, hk => simp at hk
/-! ===== reads and writes ===== -/
def gf (w : gW) (a c k : Nat) : Option Value := match w.1 a with
  | some (.inr o) => if o.1 = c then o.2[k]? else none
  | _ => none
def gvI : Option Value → Option Int32
  | some (.int x) => some x
  | _ => none
def gvJ : Option Value → Option Int64
  | some (.long x) => some x
  | _ => none
def gvA : Option Value → Option Nat
  | some (.ref x) => some x
  | _ => none
theorem gvI_some {o : Option Value} {x : Int32} (h : gvI o = some x) : o = some (.int x) := by
  unfold gvI at h
  split at h
  · cases h; rfl
  · cases h
theorem gvJ_some {o : Option Value} {x : Int64} (h : gvJ o = some x) : o = some (.long x) := by
  unfold gvJ at h
  split at h
  · cases h; rfl
  · cases h
theorem gvA_some {o : Option Value} {x : Nat} (h : gvA o = some x) : o = some (.ref x) := by
  unfold gvA at h
  split at h
  · cases h; rfl
  · cases h
def gfI (w : gW) (a c k : Nat) : Option Int32 := gvI (gf w a c k)
def gfJ (w : gW) (a c k : Nat) : Option Int64 := gvJ (gf w a c k)
def gfA (w : gW) (a c k : Nat) : Option Nat := gvA (gf w a c k)
theorem gf_some {w : gW} {a c k : Nat} {v : Value} (h : gf w a c k = some v) : ∃ fs : List Value, w.1 a = some (.inr (c, fs)) ∧ fs[k]? = some v := by
  unfold gf at h
  split at h
  · rename_i o ho
    split at h
    · rename_i hc
      subst hc
      exact ⟨o.2, ho, h⟩
    · cases h
  · cases h
def gp (w : gW) (a c k : Nat) (v : Value) : Option gW := match w.1 a with
  | some (.inr o) => if o.1 = c ∧ k < o.2.length then some (gup w a (.inr (c, o.2.set k v))) else none
  | _ => none
theorem gp_some {w w' : gW} {a c k : Nat} {v : Value} (h : gp w a c k v = some w') : ∃ fs : List Value, w.1 a = some (.inr (c, fs)) ∧ k < fs.length ∧ w' = gup w a (.inr (c, fs.set k v)) := by
  unfold gp at h
  split at h
  · rename_i o ho
    split at h
    · rename_i hc
      obtain ⟨hc, hk⟩ := hc
      subst hc
      cases h
      exact ⟨o.2, ho, hk, rfl⟩
    · cases h
  · cases h
/-- the object is of kind c -/
def gck (w : gW) (a c : Nat) : Option Unit := match w.1 a with
  | some (.inr o) => if o.1 = c then some () else none
  | _ => none
theorem gck_some {w : gW} {a c : Nat} {u : Unit} (h : gck w a c = some u) : ∃ fs : List Value, w.1 a = some (.inr (c, fs)) := by
  unfold gck at h
  split at h
  · rename_i o ho
    split at h
    · rename_i hc
      subst hc
      exact ⟨o.2, ho⟩
    · cases h
  · cases h
def gnw (w : gW) (c : Nat) (fs : List Value) : Option (Nat × gW) := some (w.2, gpush w (.inr (c, fs)))
def gna (w : gW) (k : Nat) (n : Int32) (M : Nat) (v : Value) : Option (Nat × gW) := if n < 0 ∨ M < n.toNatClampNeg then none else some (w.2, gpush w (.inl (k, n.toNatClampNeg, fun _ => v)))
theorem gna_some {w w' : gW} {k M a : Nat} {n : Int32} {v : Value} (h : gna w k n M v = some (a, w')) : ¬ n < 0 ∧ n.toNatClampNeg ≤ M ∧ a = w.2 ∧ w' = gpush w (.inl (k, n.toNatClampNeg, fun _ => v)) := by
  unfold gna at h
  split at h
  · cases h
  · rename_i hc
    cases h
    exact ⟨fun q => hc (Or.inl q), Nat.not_lt.mp (fun q => hc (Or.inr q)), rfl, rfl⟩
/-- an array's place: its kind must be k -/
def gar (w : gW) (a k : Nat) (i : Int32) : Option Value := match w.1 a with
  | some (.inl x) => if x.1 = k ∧ ¬ i < 0 ∧ i.toNatClampNeg < x.2.1 then some (x.2.2 i.toNatClampNeg) else none
  | _ => none
theorem gar_some {w : gW} {a k : Nat} {i : Int32} {v : Value} (h : gar w a k i = some v) : ∃ (n : Nat) (f : Nat → Value), w.1 a = some (.inl (k, n, f)) ∧ ¬ (i < 0 ∨ n ≤ i.toNatClampNeg) ∧ f i.toNatClampNeg = v := by
  unfold gar at h
  split at h
  · rename_i x hx
    split at h
    · rename_i hc
      obtain ⟨h1, h2, h3⟩ := hc
      subst h1
      cases h
      exact ⟨x.2.1, x.2.2, hx, fun q => q.elim h2 (fun z => by omega), rfl⟩
    · cases h
  · cases h
def gas (w : gW) (a k : Nat) (i : Int32) (v : Value) : Option gW := match w.1 a with
  | some (.inl x) => if x.1 = k ∧ ¬ i < 0 ∧ i.toNatClampNeg < x.2.1 then some (gup w a (.inl (k, x.2.1, updV x.2.2 i.toNatClampNeg v))) else none
  | _ => none
theorem gas_some {w w' : gW} {a k : Nat} {i : Int32} {v : Value} (h : gas w a k i v = some w') : ∃ (n : Nat) (f : Nat → Value), w.1 a = some (.inl (k, n, f)) ∧ ¬ (i < 0 ∨ n ≤ i.toNatClampNeg) ∧ w' = gup w a (.inl (k, n, updV f i.toNatClampNeg v)) := by
  unfold gas at h
  split at h
  · rename_i x hx
    split at h
    · rename_i hc
      obtain ⟨h1, h2, h3⟩ := hc
      subst h1
      cases h
      exact ⟨x.2.1, x.2.2, hx, fun q => q.elim h2 (fun z => by omega), rfl⟩
    · cases h
  · cases h
def gal (w : gW) (a : Nat) : Option Int32 := match w.1 a with
  | some (.inl x) => if x.1 < 6 then some (nI x.2.1) else none
  | _ => none
theorem gal_some {w : gW} {a : Nat} {x : Int32} (h : gal w a = some x) : ∃ (k n : Nat) (f : Nat → Value), w.1 a = some (.inl (k, n, f)) ∧ k < 6 ∧ x = nI n := by
  unfold gal at h
  split at h
  · rename_i y hy
    split at h
    · rename_i hk
      cases h
      exact ⟨y.1, y.2.1, y.2.2, hy, hk, rfl⟩
    · cases h
  · cases h
/-- ints: kind 0, or 4 (only read) -/
def gki (w : gW) (a : Nat) : Nat := match w.1 a with
  | some (.inl x) => if x.1 = 4 then 4 else 0
  | _ => 0
theorem gki_ty {D : gD} {U : State} (h : gK D U) (w : gW) (a : Nat) : ArrOfT U (D.2.2 (gki w a)) .int := by
  unfold gki
  split
  · split
    · exact h.2.2.1
    · exact (h.2.1 0 _ rfl).1
  · exact (h.2.1 0 _ rfl).1
def gaI (w : gW) (a : Nat) (i : Int32) : Option Int32 := gvI (gar w a (gki w a) i)
def gaJ (w : gW) (a : Nat) (i : Int32) : Option Int64 := gvJ (gar w a 1 i)
/-- a row of references: its number -/
def gob (w : gW) (a : Nat) : Option Nat := match w.1 a with
  | some (.inl x) => match gTy[x.1]? with
    | some (.object _) => some x.1
    | _ => none
  | _ => none
def gaA (w : gW) (a : Nat) (i : Int32) : Option Nat := (gob w a).bind fun k => gvA (gar w a k i)
theorem gob_some {w : gW} {a k : Nat} (h : gob w a = some k) : ∃ C : String, gTy[k]? = some (.object C) := by
  unfold gob at h
  split at h
  · split at h
    · rename_i C hC
      cases h
      exact ⟨C, hC⟩
    · cases h
  · cases h
theorem gaA_some {w : gW} {a x : Nat} {i : Int32} (h : gaA w a i = some x) : ∃ (k : Nat) (C : String), gTy[k]? = some (.object C) ∧ gar w a k i = some (.ref x) := by
  obtain ⟨k, h1, h2⟩ := Option.bind_eq_some_iff.mp h
  obtain ⟨C, hC⟩ := gob_some h1
  exact ⟨k, C, hC, gvA_some h2⟩
def gsI (w : gW) (a : Nat) (i x : Int32) : Option gW := gas w a 0 i (.int x)
def gsJ (w : gW) (a : Nat) (i : Int32) (x : Int64) : Option gW := gas w a 1 i (.long x)
/-! ===== the pure functions' glue ===== -/
def gbind {α β : Type} (x : gX α) (k : α → gW → gX β) : gX β := match x with
  | none => none
  | some (.inl E, w) => some (.inl E, w)
  | some (.inr v, w) => k v w
def gjoin {γ δ : Type} (F : γ → δ) (J : γ) : δ := F J
def gguard {α : Type} (c : Prop) [Decidable c] (x : Option α) : Option α := if c then x else none
def gthrow {α : Type} (E : String) (w : gW) : gX α := some (.inl E, (w.1, w.2 + 1))
theorem gb {α β : Type} {o : Option α} {f : α → Option β} {r : β} (h : o.bind f = some r) : ∃ v, o = some v ∧ f v = some r := Option.bind_eq_some_iff.mp h
def gb2f {β : Type} (x : Option (Nat × gW)) (K : Nat → gW → Option β) : Option β := match x with
  | none => none
  | some q => K q.1 q.2
theorem gb2 {β : Type} {x : Option (Nat × gW)} {K : Nat → gW → Option β} {r : β} (h : gb2f x K = some r) : ∃ (o : Nat) (w : gW), x = some (o, w) ∧ K o w = some r := by
  cases x with
  | none => cases h
  | some q => exact ⟨q.1, q.2, rfl, h⟩
theorem gj {γ β : Type} {F : γ → Option β} {J : γ} {r : β} (h : gjoin F J = some r) : ∃ K, K = J ∧ F K = some r := ⟨J, rfl, h⟩
theorem gif {β : Type} {c : Prop} [Decidable c] {x : Option β} {r : β} (h : gguard c x = some r) : c ∧ x = some r := by
  unfold gguard at h
  split at h
  · rename_i hc
    exact ⟨hc, h⟩
  · cases h
theorem git {β : Type} {c : Prop} [Decidable c] {x y : β} {r : β} (hc : c) (h : (if c then x else y) = r) : x = r := by rw [if_pos hc] at h; exact h
theorem gie {β : Type} {c : Prop} [Decidable c] {x y : β} {r : β} (hc : ¬ c) (h : (if c then x else y) = r) : y = r := by rw [if_neg hc] at h; exact h
theorem gsome {α β : Type} {x : gX α} {k : α → gW → gX β} {r : (String ⊕ β) × gW} (h : gbind x k = some r) : ∃ o, x = some o := by
  cases x with
  | none => cases h
  | some o => exact ⟨o, rfl⟩
theorem gk1 {α0 β : Type} {K J : α0 → β} (e : K = J) {x0 : α0} {r : β} (h : K x0 = r) : J x0 = r := e ▸ h
theorem gk2 {α0 α1 β : Type} {K J : α0 → α1 → β} (e : K = J) {x0 : α0} {x1 : α1} {r : β} (h : K x0 x1 = r) : J x0 x1 = r := e ▸ h
theorem gk3 {α0 α1 α2 β : Type} {K J : α0 → α1 → α2 → β} (e : K = J) {x0 : α0} {x1 : α1} {x2 : α2} {r : β} (h : K x0 x1 x2 = r) : J x0 x1 x2 = r := e ▸ h
theorem gk4 {α0 α1 α2 α3 β : Type} {K J : α0 → α1 → α2 → α3 → β} (e : K = J) {x0 : α0} {x1 : α1} {x2 : α2} {x3 : α3} {r : β} (h : K x0 x1 x2 x3 = r) : J x0 x1 x2 x3 = r := e ▸ h
theorem gk5 {α0 α1 α2 α3 α4 β : Type} {K J : α0 → α1 → α2 → α3 → α4 → β} (e : K = J) {x0 : α0} {x1 : α1} {x2 : α2} {x3 : α3} {x4 : α4} {r : β} (h : K x0 x1 x2 x3 x4 = r) : J x0 x1 x2 x3 x4 = r := e ▸ h
theorem gk6 {α0 α1 α2 α3 α4 α5 β : Type} {K J : α0 → α1 → α2 → α3 → α4 → α5 → β} (e : K = J) {x0 : α0} {x1 : α1} {x2 : α2} {x3 : α3} {x4 : α4} {x5 : α5} {r : β} (h : K x0 x1 x2 x3 x4 x5 = r) : J x0 x1 x2 x3 x4 x5 = r := e ▸ h
theorem gk7 {α0 α1 α2 α3 α4 α5 α6 β : Type} {K J : α0 → α1 → α2 → α3 → α4 → α5 → α6 → β} (e : K = J) {x0 : α0} {x1 : α1} {x2 : α2} {x3 : α3} {x4 : α4} {x5 : α5} {x6 : α6} {r : β} (h : K x0 x1 x2 x3 x4 x5 x6 = r) : J x0 x1 x2 x3 x4 x5 x6 = r := e ▸ h
theorem gk8 {α0 α1 α2 α3 α4 α5 α6 α7 β : Type} {K J : α0 → α1 → α2 → α3 → α4 → α5 → α6 → α7 → β} (e : K = J) {x0 : α0} {x1 : α1} {x2 : α2} {x3 : α3} {x4 : α4} {x5 : α5} {x6 : α6} {x7 : α7} {r : β} (h : K x0 x1 x2 x3 x4 x5 x6 x7 = r) : J x0 x1 x2 x3 x4 x5 x6 x7 = r := e ▸ h
theorem gk9 {α0 α1 α2 α3 α4 α5 α6 α7 α8 β : Type} {K J : α0 → α1 → α2 → α3 → α4 → α5 → α6 → α7 → α8 → β} (e : K = J) {x0 : α0} {x1 : α1} {x2 : α2} {x3 : α3} {x4 : α4} {x5 : α5} {x6 : α6} {x7 : α7} {x8 : α8} {r : β} (h : K x0 x1 x2 x3 x4 x5 x6 x7 x8 = r) : J x0 x1 x2 x3 x4 x5 x6 x7 x8 = r := e ▸ h
theorem gk10 {α0 α1 α2 α3 α4 α5 α6 α7 α8 α9 β : Type} {K J : α0 → α1 → α2 → α3 → α4 → α5 → α6 → α7 → α8 → α9 → β} (e : K = J) {x0 : α0} {x1 : α1} {x2 : α2} {x3 : α3} {x4 : α4} {x5 : α5} {x6 : α6} {x7 : α7} {x8 : α8} {x9 : α9} {r : β} (h : K x0 x1 x2 x3 x4 x5 x6 x7 x8 x9 = r) : J x0 x1 x2 x3 x4 x5 x6 x7 x8 x9 = r := e ▸ h
theorem gk11 {α0 α1 α2 α3 α4 α5 α6 α7 α8 α9 α10 β : Type} {K J : α0 → α1 → α2 → α3 → α4 → α5 → α6 → α7 → α8 → α9 → α10 → β} (e : K = J) {x0 : α0} {x1 : α1} {x2 : α2} {x3 : α3} {x4 : α4} {x5 : α5} {x6 : α6} {x7 : α7} {x8 : α8} {x9 : α9} {x10 : α10} {r : β} (h : K x0 x1 x2 x3 x4 x5 x6 x7 x8 x9 x10 = r) : J x0 x1 x2 x3 x4 x5 x6 x7 x8 x9 x10 = r := e ▸ h
theorem gk12 {α0 α1 α2 α3 α4 α5 α6 α7 α8 α9 α10 α11 β : Type} {K J : α0 → α1 → α2 → α3 → α4 → α5 → α6 → α7 → α8 → α9 → α10 → α11 → β} (e : K = J) {x0 : α0} {x1 : α1} {x2 : α2} {x3 : α3} {x4 : α4} {x5 : α5} {x6 : α6} {x7 : α7} {x8 : α8} {x9 : α9} {x10 : α10} {x11 : α11} {r : β} (h : K x0 x1 x2 x3 x4 x5 x6 x7 x8 x9 x10 x11 = r) : J x0 x1 x2 x3 x4 x5 x6 x7 x8 x9 x10 x11 = r := e ▸ h
theorem gk13 {α0 α1 α2 α3 α4 α5 α6 α7 α8 α9 α10 α11 α12 β : Type} {K J : α0 → α1 → α2 → α3 → α4 → α5 → α6 → α7 → α8 → α9 → α10 → α11 → α12 → β} (e : K = J) {x0 : α0} {x1 : α1} {x2 : α2} {x3 : α3} {x4 : α4} {x5 : α5} {x6 : α6} {x7 : α7} {x8 : α8} {x9 : α9} {x10 : α10} {x11 : α11} {x12 : α12} {r : β} (h : K x0 x1 x2 x3 x4 x5 x6 x7 x8 x9 x10 x11 x12 = r) : J x0 x1 x2 x3 x4 x5 x6 x7 x8 x9 x10 x11 x12 = r := e ▸ h
theorem gk14 {α0 α1 α2 α3 α4 α5 α6 α7 α8 α9 α10 α11 α12 α13 β : Type} {K J : α0 → α1 → α2 → α3 → α4 → α5 → α6 → α7 → α8 → α9 → α10 → α11 → α12 → α13 → β} (e : K = J) {x0 : α0} {x1 : α1} {x2 : α2} {x3 : α3} {x4 : α4} {x5 : α5} {x6 : α6} {x7 : α7} {x8 : α8} {x9 : α9} {x10 : α10} {x11 : α11} {x12 : α12} {x13 : α13} {r : β} (h : K x0 x1 x2 x3 x4 x5 x6 x7 x8 x9 x10 x11 x12 x13 = r) : J x0 x1 x2 x3 x4 x5 x6 x7 x8 x9 x10 x11 x12 x13 = r := e ▸ h
theorem gk15 {α0 α1 α2 α3 α4 α5 α6 α7 α8 α9 α10 α11 α12 α13 α14 β : Type} {K J : α0 → α1 → α2 → α3 → α4 → α5 → α6 → α7 → α8 → α9 → α10 → α11 → α12 → α13 → α14 → β} (e : K = J) {x0 : α0} {x1 : α1} {x2 : α2} {x3 : α3} {x4 : α4} {x5 : α5} {x6 : α6} {x7 : α7} {x8 : α8} {x9 : α9} {x10 : α10} {x11 : α11} {x12 : α12} {x13 : α13} {x14 : α14} {r : β} (h : K x0 x1 x2 x3 x4 x5 x6 x7 x8 x9 x10 x11 x12 x13 x14 = r) : J x0 x1 x2 x3 x4 x5 x6 x7 x8 x9 x10 x11 x12 x13 x14 = r := e ▸ h
theorem gk16 {α0 α1 α2 α3 α4 α5 α6 α7 α8 α9 α10 α11 α12 α13 α14 α15 β : Type} {K J : α0 → α1 → α2 → α3 → α4 → α5 → α6 → α7 → α8 → α9 → α10 → α11 → α12 → α13 → α14 → α15 → β} (e : K = J) {x0 : α0} {x1 : α1} {x2 : α2} {x3 : α3} {x4 : α4} {x5 : α5} {x6 : α6} {x7 : α7} {x8 : α8} {x9 : α9} {x10 : α10} {x11 : α11} {x12 : α12} {x13 : α13} {x14 : α14} {x15 : α15} {r : β} (h : K x0 x1 x2 x3 x4 x5 x6 x7 x8 x9 x10 x11 x12 x13 x14 x15 = r) : J x0 x1 x2 x3 x4 x5 x6 x7 x8 x9 x10 x11 x12 x13 x14 x15 = r := e ▸ h
/-! ===== rows over the world ===== -/
section GR
variable {p : Program} {l : Launch} {e : Env} {R : Room} {s : State} {m : MethodId} {args : Array Value} {below : List Frame} {meth : Method} {c : Code} {H : Heap} {locs : List Loc} {cells slots : Nat} {Q : State → Prop}
variable {cc : ByteArray} {pc : Nat} {ls : Array Slot} {rest : List Value} {D : gD} {A : Nat → Prop} {a : Nat} {w : gW}
theorem gw_get0 (hx : p.tables.exec = Jvm.exec) (hb : c.code = cc) (hT : gT s) {own : String} (hown : s.vm.findClass own = some m.cls) (hK : gK D s) (hI : gI D s A w H locs) {ci : Nat} {C ref : String} {T : u_T} {N index : Nat} (hc : gCl[ci]? = some (C, T, N)) (hin : ∀ z ∈ u_ws C T N, z ∈ gAll) (k : Nat) (hk : k < N) (hlink : Cond.fieldLink own index ref (T k).2.1 (T k).2.2.1 ∈ gAll) (hsame : ∀ x, s.fieldFound? (T k).1 (T k).2.1 (T k).2.2.1 = some x → s.fieldFound? ref (T k).2.1 (T k).2.2.1 = some x) {v : Value} (hv : gf w a ci k = some v) (hdg : decode cc pc = .ok (.getfield index, 3))
    (kk : W p l e R s m args below meth c H locs cells slots Q (F0 m (pc + 3) ls (v :: rest))) : W p l e R s m args below meth c H locs cells slots Q (F0 m pc ls (.ref a :: rest)) := by
  obtain ⟨fs, h1, h2⟩ := gf_some hv
  exact va_get (D := (D.1, D.2.1)) (cl := gCl) (ws := [(a, .inr (ci, fs))]) (tys := []) hx hb (Ts := gAll) (fun z h => hT z h args) hin hown hK.va (hI.one h1) 0 rfl hc k hk (hT _ hlink args) hsame h2 hdg kk
theorem gw_getI (hx : p.tables.exec = Jvm.exec) (hb : c.code = cc) (hT : gT s) {own : String} (hown : s.vm.findClass own = some m.cls) (hK : gK D s) (hI : gI D s A w H locs) {ci : Nat} {C ref : String} {T : u_T} {N index : Nat} (hc : gCl[ci]? = some (C, T, N)) (hin : ∀ z ∈ u_ws C T N, z ∈ gAll) (k : Nat) (hk : k < N) (hlink : Cond.fieldLink own index ref (T k).2.1 (T k).2.2.1 ∈ gAll) (hsame : ∀ x, s.fieldFound? (T k).1 (T k).2.1 (T k).2.2.1 = some x → s.fieldFound? ref (T k).2.1 (T k).2.2.1 = some x) {v : Int32} (hv : gfI w a ci k = some v) (hdg : decode cc pc = .ok (.getfield index, 3))
    (kk : W p l e R s m args below meth c H locs cells slots Q (F0 m (pc + 3) ls (.int v :: rest))) : W p l e R s m args below meth c H locs cells slots Q (F0 m pc ls (.ref a :: rest)) := gw_get0 hx hb hT hown hK hI hc hin k hk hlink hsame (gvI_some hv) hdg kk
theorem gw_getJ (hx : p.tables.exec = Jvm.exec) (hb : c.code = cc) (hT : gT s) {own : String} (hown : s.vm.findClass own = some m.cls) (hK : gK D s) (hI : gI D s A w H locs) {ci : Nat} {C ref : String} {T : u_T} {N index : Nat} (hc : gCl[ci]? = some (C, T, N)) (hin : ∀ z ∈ u_ws C T N, z ∈ gAll) (k : Nat) (hk : k < N) (hlink : Cond.fieldLink own index ref (T k).2.1 (T k).2.2.1 ∈ gAll) (hsame : ∀ x, s.fieldFound? (T k).1 (T k).2.1 (T k).2.2.1 = some x → s.fieldFound? ref (T k).2.1 (T k).2.2.1 = some x) {v : Int64} (hv : gfJ w a ci k = some v) (hdg : decode cc pc = .ok (.getfield index, 3))
    (kk : W p l e R s m args below meth c H locs cells slots Q (F0 m (pc + 3) ls (.long v :: rest))) : W p l e R s m args below meth c H locs cells slots Q (F0 m pc ls (.ref a :: rest)) := gw_get0 hx hb hT hown hK hI hc hin k hk hlink hsame (gvJ_some hv) hdg kk
theorem gw_getA (hx : p.tables.exec = Jvm.exec) (hb : c.code = cc) (hT : gT s) {own : String} (hown : s.vm.findClass own = some m.cls) (hK : gK D s) (hI : gI D s A w H locs) {ci : Nat} {C ref : String} {T : u_T} {N index : Nat} (hc : gCl[ci]? = some (C, T, N)) (hin : ∀ z ∈ u_ws C T N, z ∈ gAll) (k : Nat) (hk : k < N) (hlink : Cond.fieldLink own index ref (T k).2.1 (T k).2.2.1 ∈ gAll) (hsame : ∀ x, s.fieldFound? (T k).1 (T k).2.1 (T k).2.2.1 = some x → s.fieldFound? ref (T k).2.1 (T k).2.2.1 = some x) {v : Nat} (hv : gfA w a ci k = some v) (hdg : decode cc pc = .ok (.getfield index, 3))
    (kk : W p l e R s m args below meth c H locs cells slots Q (F0 m (pc + 3) ls (.ref v :: rest))) : W p l e R s m args below meth c H locs cells slots Q (F0 m pc ls (.ref a :: rest)) := gw_get0 hx hb hT hown hK hI hc hin k hk hlink hsame (gvA_some hv) hdg kk
theorem gw_put (hx : p.tables.exec = Jvm.exec) (hb : c.code = cc) (hT : gT s) {own : String} (hown : s.vm.findClass own = some m.cls) (hK : gK D s) (hI : gI D s A w H locs) {ci : Nat} {C ref : String} {T : u_T} {N index : Nat} (hc : gCl[ci]? = some (C, T, N)) (hin : ∀ z ∈ u_ws C T N, z ∈ gAll) (ty0 : Nat → FieldType) (hty : ∀ k, k < N → parseFieldDescriptor (T k).2.2.1 = some (ty0 k)) (hnm : ∀ a, a < N → ∀ b, b < N → a ≠ b → (T a).2.1 ≠ (T b).2.1) (k : Nat) (hk : k < N) (hlink : Cond.fieldLink own index ref (T k).2.1 (T k).2.2.1 ∈ gAll) (hsame : ∀ x, s.fieldFound? (T k).1 (T k).2.1 (T k).2.2.1 = some x → s.fieldFound? ref (T k).2.1 (T k).2.2.1 = some x) (hfin : (T k).2.2.2 = false) {ty : FieldType} {v : Value} (hd : parseFieldDescriptor (T k).2.2.1 = some ty) (hn : narrow ty v = v) (hfit : fits ty v = true) {w' : gW} (hv : gp w a ci k v = some w') (hdg : decode cc pc = .ok (.putfield index, 3))
    (kk : ∀ (H1 : Heap) (locs1 : List Loc), gI D s A w' H1 locs1 → W p l e R s m args below meth c H1 locs1 cells slots Q (F0 m (pc + 3) ls rest)) : W p l e R s m args below meth c H locs cells slots Q (F0 m pc ls (v :: .ref a :: rest)) := by
  obtain ⟨fs, h1, h2, rfl⟩ := gp_some hv
  have hts : ∀ z ∈ gAll, z.before args s = true := fun z h => hT z h args
  have hap := va_apart (D := (D.1, D.2.1)) (cl := gCl) (tys := []) (own := own) (args := args) hts hin ty0 hty hnm hK.va hc
  obtain ⟨r, hr, cell, q1, q2, q3, q4⟩ := hI.2.1 a _ h1
  cases Option.some.inj (hr.symm.trans hc)
  obtain ⟨hS, hfc, kC, hkC, hkind⟩ := hK.1 ci _ hc
  obtain ⟨cf, kf, fi, f, hi, hsl⟩ := hS k hk
  have hlay := hts _ (hin _ (u_in_lay hk))
  unfold u_lay at hlay
  rw [if_neg (by rw [hfin]; decide)] at hlay
  have hst := (u_facts hfc hkC (u_lays hts hin hk) hi).1
  have h6 := u_store hfc hkC hkind hlay hi hd hn hfit
  refine W.putK hx hb (f := f) ⟨hown, hts _ hlink, ⟨_, _, _, hsame _ hi⟩, hst⟩ (by rw [q2]; exact h6) q1 q3 (by rw [hsl]; exact k2_hasslot (q4 k hk)) rfl rfl hdg fun H' e1 e2 e3 => ?_
  rw [hsl] at e1 ⊢
  exact kk H' _ (hI.put h1 trivial e2 e3 ⟨_, hc, t_OB.to (V := updV (vp_V fs) k v) ⟨_, e1, q2, q3, t_set q4 hap hk v⟩ (fun j _ => vp_updV_set h2 v j)⟩)
theorem gw_putF (hx : p.tables.exec = Jvm.exec) (hb : c.code = cc) (hT : gT s) {own : String} (hown : s.vm.findClass own = some m.cls) (hK : gK D s) (hI : gI D s A w H locs) {ci : Nat} {C ref : String} {T : u_T} {N index : Nat} (hc : gCl[ci]? = some (C, T, N)) (hin : ∀ z ∈ u_ws C T N, z ∈ gAll) (ty0 : Nat → FieldType) (hty : ∀ k, k < N → parseFieldDescriptor (T k).2.2.1 = some (ty0 k)) (hnm : ∀ a, a < N → ∀ b, b < N → a ≠ b → (T a).2.1 ≠ (T b).2.1) (k : Nat) (hk : k < N) (hlink : Cond.fieldLink own index ref (T k).2.1 (T k).2.2.1 ∈ gAll) (hsame : ∀ x, s.fieldFound? (T k).1 (T k).2.1 (T k).2.2.1 = some x → s.fieldFound? ref (T k).2.1 (T k).2.2.1 = some x) (hfin : (T k).2.2.2 = true) (hin2 : meth.name = "<init>") (hdecl : (T k).1 = own) {ty : FieldType} {v : Value} (hd : parseFieldDescriptor (T k).2.2.1 = some ty) (hn : narrow ty v = v) (hfit : fits ty v = true) {w' : gW} (hv : gp w a ci k v = some w') (hdg : decode cc pc = .ok (.putfield index, 3))
    (kk : ∀ (H1 : Heap) (locs1 : List Loc), gI D s A w' H1 locs1 → W p l e R s m args below meth c H1 locs1 cells slots Q (F0 m (pc + 3) ls rest)) : W p l e R s m args below meth c H locs cells slots Q (F0 m pc ls (v :: .ref a :: rest)) := by
  obtain ⟨fs, h1, h2, rfl⟩ := gp_some hv
  have hts : ∀ z ∈ gAll, z.before args s = true := fun z h => hT z h args
  have hap := va_apart (D := (D.1, D.2.1)) (cl := gCl) (tys := []) (own := own) (args := args) hts hin ty0 hty hnm hK.va hc
  obtain ⟨r, hr, cell, q1, q2, q3, q4⟩ := hI.2.1 a _ h1
  cases Option.some.inj (hr.symm.trans hc)
  obtain ⟨hS, hfc, kC, hkC, hkind⟩ := hK.1 ci _ hc
  obtain ⟨cf, kf, fi, f, hi, hsl⟩ := hS k hk
  have hlay := hts _ (hin _ (u_in_lay hk))
  unfold u_lay at hlay
  rw [if_pos hfin] at hlay
  have hst := (u_facts hfc hkC (u_lays hts hin hk) hi).1
  have hcf : m.cls = cf := by
    obtain ⟨_, _, c', _, _, _, -, -, hf', -, -, -, hown2, -⟩ := Cond.laysFinal_spec hlay
    have e1 : c' = cf := by have := hi.symm.trans hf'; simp at this; exact this.1.symm
    rw [hdecl] at hown2
    rw [← e1]; exact Option.some.inj (hown.symm.trans hown2)
  have h6 := u_fits hfc hkC hkind (Or.inr hlay) hi hd hn hfit
  refine W.putFinK hx hb hown (hts _ hlink) (hsame _ hi) hst hcf hin2 (by rw [q2]; exact h6) q1 q3 (by rw [hsl]; exact k2_hasslot (q4 k hk)) rfl rfl hdg fun H' e1 e2 e3 => ?_
  rw [hsl] at e1 ⊢
  exact kk H' _ (hI.put h1 trivial e2 e3 ⟨_, hc, t_OB.to (V := updV (vp_V fs) k v) ⟨_, e1, q2, q3, t_set q4 hap hk v⟩ (fun j _ => vp_updV_set h2 v j)⟩)
theorem gw_new (hx : p.tables.exec = Jvm.exec) (hb : c.code = cc) (hT : gT s) {own : String} (hown : s.vm.findClass own = some m.cls) (hK : gK D s) (hI : gI D s A w H locs) (hA : ∀ q : Nat, s.heap.size ≤ q → A q) {ci : Nat} {C : String} {T : u_T} {N index : Nat} (hc : gCl[ci]? = some (C, T, N)) (hin : ∀ z ∈ u_ws C T N, z ∈ gAll) (ty : Nat → FieldType) (hty : ∀ k, k < N → parseFieldDescriptor (T k).2.2.1 = some (ty k)) {n : Nat} (hcl : Cond.classLink own index C ∈ gAll) (hinst : Cond.instantiable C n ∈ gAll) (hini : Cond.initialized C ∈ gAll) {fs : List Value} (hfs : ∀ j, j < N → defaultValue (ty j) = vp_V fs j) {b : Nat} {w' : gW} (hv : gnw w ci fs = some (b, w')) (hcells : cells + 1 ≤ R.cells) (hslots : slots + n ≤ R.slots) (hdg : decode cc pc = .ok (.new index, 3))
    (kk : ∀ (H1 : Heap), gI D s A w' H1 locs → W p l e R s m args below meth c H1 locs (cells + 1) (slots + n) Q (F0 m (pc + 3) ls (.ref b :: rest))) : W p l e R s m args below meth c H locs cells slots Q (F0 m pc ls rest) := by
  have hts : ∀ z ∈ gAll, z.before args s = true := fun z h => hT z h args
  unfold gnw at hv
  cases hv
  have hKn := hK.1 ci _ hc
  refine W.newcK hx hb hown (hts _ hcl) (hts _ hinst) (hts _ hini) rfl hdg hcells hslots hKn.2.1 hI.1 fun H1 kC hkC e1 z1 o1 => ?_
  rw [← hI.1] at e1 z1 o1
  refine kk H1 (hI.push hA z1 o1 ⟨_, hc, (u_born ty hts hin hKn hkC e1 hty).to hfs⟩)
theorem gw_newa (hx : p.tables.exec = Jvm.exec) (hb : c.code = cc) (hK : gK D s) (hI : gI D s A w H locs) (hA : ∀ q : Nat, s.heap.size ≤ q → A q) {atype : ArrayType} (harr : (Cond.arrayClass (newarray.typeOf atype)).before args s = true) {ty : FieldType} (hty : newarray.typeOf atype = ty) {k : Nat} (hk : gTy[k]? = some ty) (hob : va_RA s (D.2.2 k) ty → s.vm.findClass ("[" ++ ty.toString) = some (D.2.2 k)) {n : Int32} {M b : Nat} {w' : gW} (hv : gna w k n M (defaultValue ty) = some (b, w')) (hcells : cells + 1 ≤ R.cells) (hslots : slots + M ≤ R.slots) (hbytes : M * componentBytes ty ≤ 536870912) (hdg : decode cc pc = .ok (.newarray atype, 2))
    (kk : ∀ (H1 : Heap), gI D s A w' H1 locs → W p l e R s m args below meth c H1 locs (cells + 1) (slots + M) Q (F0 m (pc + 2) ls (.ref b :: rest))) : W p l e R s m args below meth c H locs cells slots Q (F0 m pc ls (.int n :: rest)) := by
  subst hty
  obtain ⟨h1, h2, rfl, rfl⟩ := gna_some hv
  refine va_newaK hx hb harr rfl hdg rfl h1 rfl (Nat.le_trans (Nat.mul_le_mul_right _ h2) hbytes) hcells (Nat.le_trans (Nat.add_le_add_left h2 _) hslots) hI.1 fun H1 cA e1 z1 o1 hAr hNm => ?_
  rw [← hI.1] at e1 z1 o1
  have hcA : cA = D.2.2 k := Option.some.inj (hNm.symm.trans (hob (hK.2.1 k _ hk).2))
  subst hcA
  rw [← hI.1]
  refine W.widen (Nat.le_refl _) (Nat.add_le_add_left h2 _) ?_
  rw [hI.1]
  exact kk H1 (hI.push hA z1 o1 (gAt.mk (show k < 4 from (List.getElem?_eq_some_iff.mp hk).1) e1))
theorem gw_anew (hx : p.tables.exec = Jvm.exec) (hb : c.code = cc) {own : String} (hown : s.vm.findClass own = some m.cls) (hK : gK D s) (hI : gI D s A w H locs) (hA : ∀ q : Nat, s.heap.size ≤ q → A q) {C : String} {index : Nat} (hcl : (Cond.classLink own index C).before args s = true) (hov : (Cond.arrayOver (.object C)).before args s = true) {k : Nat} (hk : gTy[k]? = some (.object C)) {n : Int32} {M b : Nat} {w' : gW} (hv : gna w k n M .null = some (b, w')) (hcells : cells + 1 ≤ R.cells) (hslots : slots + M ≤ R.slots) (hbytes : M * 4 ≤ 536870912) (hdg : decode cc pc = .ok (.anewarray index, 3))
    (kk : ∀ (H1 : Heap), gI D s A w' H1 locs → W p l e R s m args below meth c H1 locs (cells + 1) (slots + M) Q (F0 m (pc + 3) ls (.ref b :: rest))) : W p l e R s m args below meth c H locs cells slots Q (F0 m pc ls (.int n :: rest)) := by
  obtain ⟨h1, h2, rfl, rfl⟩ := gna_some hv
  refine W.anew hx hb hown hcl hov rfl hdg rfl h1 (Nat.le_trans (Nat.mul_le_mul_right _ h2) hbytes) hcells (Nat.le_trans (Nat.add_le_add_left h2 _) hslots) fun cA kA comp f1 f2 f3 f4 => ?_
  obtain ⟨kA', comp', g1, g2, g3, g4⟩ := (hK.2.1 k _ hk).2
  have hcA : cA = D.2.2 k := Option.some.inj (f1.symm.trans g4)
  subst hcA
  generalize hH1 : H.push ({ cls := D.2.2 k, slots := Array.replicate n.toNatClampNeg .null, vm := .none } : Cell) = H1
  have z1 : H1.size = H.size + 1 := by rw [← hH1, Array.size_push]
  have e1 : H1[H.size]? = some (arrV (D.2.2 k) n.toNatClampNeg (fun _ => .null)) := by rw [← hH1, Array.getElem?_push_size, ← arrV_new]
  have o1 : ∀ q : Nat, q < H.size → H1[q]? = H[q]? := fun q hq => by rw [← hH1, Array.getElem?_push, if_neg (Nat.ne_of_lt hq)]
  refine W.widen (Nat.le_refl _) (Nat.add_le_add_left h2 _) ?_
  rw [hI.1]
  exact kk H1 (hI.push hA z1 o1 (gAt.mk (show k < 4 from (List.getElem?_eq_some_iff.mp hk).1) e1))
theorem gw_alen (hx : p.tables.exec = Jvm.exec) (hb : c.code = cc) (hK : gK D s) (hI : gI D s A w H locs) {x : Int32} (hv : gal w a = some x) (hdg : decode cc pc = .ok (.arraylength, 1))
    (kk : W p l e R s m args below meth c H locs cells slots Q (F0 m (pc + 1) ls (.int x :: rest))) : W p l e R s m args below meth c H locs cells slots Q (F0 m pc ls (.ref a :: rest)) := by
  obtain ⟨k, n, f, h1, hk, rfl⟩ := gal_some hv
  obtain ⟨ty, hty⟩ := hK.arrs hk
  obtain ⟨scr, g1, g2, g3, g4, g5, g6⟩ := (hI.2.1 a _ h1).any
  exact W.alen hx hb g1 (garr hty g2 g3) (by rw [g5]; rfl) rfl rfl hdg kk
theorem gw_aldI (hx : p.tables.exec = Jvm.exec) (hb : c.code = cc) (hK : gK D s) (hI : gI D s A w H locs) {i x : Int32} (hv : gaI w a i = some x) (hdg : decode cc pc = .ok (.iaload, 1))
    (kk : W p l e R s m args below meth c H locs cells slots Q (F0 m (pc + 1) ls (.int x :: rest))) : W p l e R s m args below meth c H locs cells slots Q (F0 m pc ls (.int i :: .ref a :: rest)) := by
  obtain ⟨n, f, h1, hin, h2⟩ := gar_some (gvI_some hv)
  have hlt : i.toNatClampNeg < n := Nat.not_le.mp fun q => hin (Or.inr q)
  obtain ⟨scr, g1, g2, g3, g4, g5, g6⟩ := (hI.2.1 a _ h1).any
  exact W.iald (v := .int x) hx hb g1 (garr (gki_ty hK w a) g2 g3) g4 (by rw [g5]; exact hin) (by rw [g6 _ hlt]; exact congrArg some h2) rfl rfl hdg kk
theorem gw_aldJ (hx : p.tables.exec = Jvm.exec) (hb : c.code = cc) (hK : gK D s) (hI : gI D s A w H locs) {i : Int32} {x : Int64} (hv : gaJ w a i = some x) (hdg : decode cc pc = .ok (.laload, 1))
    (kk : W p l e R s m args below meth c H locs cells slots Q (F0 m (pc + 1) ls (.long x :: rest))) : W p l e R s m args below meth c H locs cells slots Q (F0 m pc ls (.int i :: .ref a :: rest)) := by
  obtain ⟨n, f, h1, hin, h2⟩ := gar_some (gvJ_some hv)
  have hlt : i.toNatClampNeg < n := Nat.not_le.mp fun q => hin (Or.inr q)
  exact W.lald (v := .long x) hx hb ((hI.2.1 a _ h1).arr (by decide)) ((hK.2.1 1 .long rfl).1 n f) (fun q => by cases q) (by show ¬ (i < 0 ∨ (arrV _ _ _).slots.size ≤ _); rw [arrV_size]; exact hin) (by show (arrV _ _ _).slots[_]? = _; rw [arrV_read _ _ hlt]; exact congrArg some h2) rfl rfl hdg kk
theorem gw_aldA (hx : p.tables.exec = Jvm.exec) (hb : c.code = cc) (hK : gK D s) (hI : gI D s A w H locs) {i : Int32} {x : Nat} (hv : gaA w a i = some x) (hdg : decode cc pc = .ok (.aaload, 1))
    (kk : W p l e R s m args below meth c H locs cells slots Q (F0 m (pc + 1) ls (.ref x :: rest))) : W p l e R s m args below meth c H locs cells slots Q (F0 m pc ls (.int i :: .ref a :: rest)) := by
  obtain ⟨k, C, hk, hv⟩ := gaA_some hv
  obtain ⟨n, f, h1, hin, h2⟩ := gar_some hv
  have hlt : i.toNatClampNeg < n := Nat.not_le.mp fun q => hin (Or.inr q)
  exact W.aald (v := .ref x) (ty := .object C) hx hb ((hI.2.1 a _ h1).arr (show k < 4 from (List.getElem?_eq_some_iff.mp hk).1)) ((hK.2.1 k _ hk).1 n f) rfl (fun q => by cases q) (by show ¬ (i < 0 ∨ (arrV _ _ _).slots.size ≤ _); rw [arrV_size]; exact hin) (by show (arrV _ _ _).slots[_]? = _; rw [arrV_read _ _ hlt]; exact congrArg some h2) rfl rfl hdg kk
theorem gw_astI (hx : p.tables.exec = Jvm.exec) (hb : c.code = cc) (hK : gK D s) (hI : gI D s A w H locs) {i x : Int32} {w' : gW} (hv : gsI w a i x = some w') (hdg : decode cc pc = .ok (.iastore, 1))
    (kk : ∀ (H1 : Heap) (locs1 : List Loc), gI D s A w' H1 locs1 → W p l e R s m args below meth c H1 locs1 cells slots Q (F0 m (pc + 1) ls rest)) : W p l e R s m args below meth c H locs cells slots Q (F0 m pc ls (.int x :: .int i :: .ref a :: rest)) := by
  obtain ⟨n, f, h1, hin, rfl⟩ := gas_some hv
  refine W.iast hx hb ((hI.2.1 a _ h1).arr (by decide)) ((hK.2.1 0 .int rfl).1 n f) (fun q => by cases q) (by show ¬ (i < 0 ∨ (arrV _ _ _).slots.size ≤ _); rw [arrV_size]; exact hin) rfl rfl hdg fun H1 e1 z1 o1 => ?_
  exact kk H1 _ (hI.put h1 ⟨(show (0 : Nat) < 4 by decide), (fun q => hin (Or.inr (by rw [show n = 0 from q]; exact Nat.zero_le _)))⟩ z1 o1 (gAt.mk (by decide) (e1.trans (by show some (Cell.setSlot (arrV _ _ _) _ _) = _; rw [arrV_store]))))
theorem gw_astJ (hx : p.tables.exec = Jvm.exec) (hb : c.code = cc) (hK : gK D s) (hI : gI D s A w H locs) {i : Int32} {x : Int64} {w' : gW} (hv : gsJ w a i x = some w') (hdg : decode cc pc = .ok (.lastore, 1))
    (kk : ∀ (H1 : Heap) (locs1 : List Loc), gI D s A w' H1 locs1 → W p l e R s m args below meth c H1 locs1 cells slots Q (F0 m (pc + 1) ls rest)) : W p l e R s m args below meth c H locs cells slots Q (F0 m pc ls (.long x :: .int i :: .ref a :: rest)) := by
  obtain ⟨n, f, h1, hin, rfl⟩ := gas_some hv
  refine W.last hx hb ((hI.2.1 a _ h1).arr (by decide)) ((hK.2.1 1 .long rfl).1 n f) (fun q => by cases q) (by show ¬ (i < 0 ∨ (arrV _ _ _).slots.size ≤ _); rw [arrV_size]; exact hin) rfl rfl hdg fun H1 e1 z1 o1 => ?_
  exact kk H1 _ (hI.put h1 ⟨(show (1 : Nat) < 4 by decide), (fun q => hin (Or.inr (by rw [show n = 0 from q]; exact Nat.zero_le _)))⟩ z1 o1 (gAt.mk (by decide) (e1.trans (by show some (Cell.setSlot (arrV _ _ _) _ _) = _; rw [arrV_store]))))
end GR
end
section
/-! ===== ONE CONTRACT FORM: 'o' is how it ends (an exception's name, or the answer) and the world behind ===== -/
abbrev gG : Type := Nat × Nat
/-- a static that holds a reference or null, its cell outside what may change -/
def gSq (C n d : String) (A : Nat → Prop) (U : State) (H : Heap) : Prop := ∃ (c : ClassId) (k : Class) (i : Nat) (f : Field) (a : Nat) (cell : Cell) (v : Value), U.vm.findClass C = some c ∧ U.fieldFound? C n d = some (c, k, i, f) ∧ f.isStatic = true ∧ k.statics = some a ∧ H[a]? = some cell ∧ cell.vm.isStatics = true ∧ cell.cls = c ∧ cell.slots[f.slot]? = some v ∧ v.isRef = true ∧ k.staticTypes[f.slot]? = some f.type ∧ ¬ A a
theorem gSq.moved {C n d : String} {A : Nat → Prop} {u U : State} {H : Heap} (hvm : u.vm.Alike U.vm) (h : gSq C n d A u H) : gSq C n d A U H := by
  obtain ⟨c, k, i, f, a, cell, v, h1, h2, h3, h4, h5, h6, h7, h8, h9, h10, h11⟩ := h
  obtain ⟨k', hi', he⟩ := State.fieldFound?_setVm hvm h2
  exact ⟨c, k', i, f, a, cell, v, by rw [hvm.findClass]; exact h1, hi', h3, by rw [he]; exact h4, h5, h6, h7, h8, h9, by rw [he]; exact h10, h11⟩
theorem gSq.kept {C n d : String} {A : Nat → Prop} {U : State} {H H1 : Heap} (h : gSq C n d A U H) (hq : ∀ a : Nat, a < H.size → ¬ A a → H1[a]? = H[a]?) : gSq C n d A U H1 := by
  obtain ⟨c, k, i, f, a, cell, v, h1, h2, h3, h4, h5, h6, h7, h8, h9, h10, h11⟩ := h
  exact ⟨c, k, i, f, a, cell, v, h1, h2, h3, h4, by rw [hq a (Array.getElem?_eq_some_iff.mp h5).1 h11]; exact h5, h6, h7, h8, h9, h10, h11⟩
theorem gSq.narrow {C n d : String} {A B : Nat → Prop} {U : State} {H : Heap} (h : gSq C n d A U H) (hAB : ∀ q, B q → A q) : gSq C n d B U H := by
  obtain ⟨c, k, i, f, a, cell, v, h1, h2, h3, h4, h5, h6, h7, h8, h9, h10, h11⟩ := h
  exact ⟨c, k, i, f, a, cell, v, h1, h2, h3, h4, h5, h6, h7, h8, h9, h10, fun z => h11 (hAB _ z)⟩
theorem gSq.lays {C n d : String} {A : Nat → Prop} {s : State} {args : Array Value} (h : gSq C n d A s s.heap) : (Cond.laysStatic C n d).before args s = true := by
  obtain ⟨c, k, i, f, a, cell, v, h1, h2, h3, h4, h5, h6, h7, h8, h9, h10, h11⟩ := h
  show (Cond.laysStatic C n d).holds args s none s [] = true
  exact Cond.laysStatic_of h1 h2 h3 h4 h5 h6 h7 (k2_hasslot h8) h10
theorem gSq.isRef {C n d : String} {A : Nat → Prop} {s : State} {args : Array Value} (h : gSq C n d A s s.heap) : (Cond.isRef (.static C n d)).before args s = true := by
  obtain ⟨c, k, i, f, a, cell, v, h1, h2, h3, h4, h5, h6, h7, h8, h9, h10, h11⟩ := h
  have he : (Term.static C n d).eval args s none [] s = some v := by
    simp [Term.eval, State.fieldNamed?, h2, h3, h4, h5, h6, h8]
  simp only [Cond.before, Cond.holds, Cond.value, he]
  cases v <;> simp_all [Value.isRef]
theorem gSq.of {args : Array Value} {s : State} {C n d : String} {A : Nat → Prop} (hl : (Cond.laysStatic C n d).before args s = true) (h : (Cond.isRef (.static C n d)).before args s = true) (hA : ∀ a : Nat, a < s.heap.size → ¬ A a) : gSq C n d A s s.heap := by
  obtain ⟨c, k, i, f, a, cell, h1, h2, h3, h4, h5, h6, h7, h8, h9⟩ := Cond.laysStatic_spec hl
  obtain ⟨v, hv, hr⟩ := Cond.isRef_spec h
  obtain ⟨hst', a', cell', ha', hcell', -, hslot⟩ := Term.static_spec h2 hv
  cases h4.symm.trans ha'
  cases h5.symm.trans hcell'
  exact ⟨c, k, i, f, a, cell, v, h1, h2, h3, h4, h5, h6, h7, hslot, hr, h9, hA a (Array.getElem?_eq_some_iff.mp h5).1⟩
/-- the texts of the exceptions -/
def gTx : List (String × Nat × String) := [("BodySolids", 249, "no such number"), ("BodySolids", 254, "a value is out of its range"), ("BodySolids", 222, "the placement's body is empty")]
/-- an exception's class that is not under another's -/
def gNc (U : State) : Prop := ∀ q ∈ [("java/lang/IllegalArgumentException", "java/lang/IndexOutOfBoundsException"), ("java/lang/IllegalStateException", "java/lang/IndexOutOfBoundsException")], ∀ a b : ClassId, U.vm.findClass q.1 = some a → U.vm.findClass q.2 = some b → U.vm.assignable a b = false
theorem gNc.warm {s U : State} (hW : s.WarmedH U.vm) (h : gNc s) : gNc U := fun q hq a b h1 h2 => by
  rw [hW.alike.findClass] at h1 h2
  rw [hW.alike.assignable]
  exact h q hq a b h1 h2
def gStr (U : State) : Prop := (∀ q ∈ gTx, ∃ a : Nat, vk_R q.1 q.2.1 q.2.2 a U) ∧ gNc U
theorem gStr.warm {s U : State} (hW : s.WarmedH U.vm) (h : gStr s) : gStr U := ⟨fun q hq => (h.1 q hq).elim fun a ha => ⟨a, vk_R.warm hW ha⟩, h.2.warm hW⟩
/-- what holds of statics and texts: outside what may change -/
def gZ (A : Nat → Prop) (U : State) (H : Heap) (g0 : gG) : Prop :=
  va_Z "java/util/ArrayList" "DEFAULTCAPACITY_EMPTY_ELEMENTDATA" "[Ljava/lang/Object;" (.ref g0.1) A U H ∧ va_Mi "[Ljava/lang/Object;" g0.2 U ∧ gSq "java/lang/Throwable" "UNASSIGNED_STACK" "[Ljava/lang/StackTraceElement;" A U H ∧ gSq "java/lang/Throwable" "SUPPRESSED_SENTINEL" "Ljava/util/List;" A U H ∧ gStr U
theorem gZ.warm {A : Nat → Prop} {s U : State} {H : Heap} {g0 : gG} (hW : s.WarmedH U.vm) (h : gZ A s H g0) : gZ A U H g0 := ⟨va_Z.moved hW.alike h.1, va_Mi.moved hW.alike h.2.1, gSq.moved hW.alike h.2.2.1, gSq.moved hW.alike h.2.2.2.1, gStr.warm hW h.2.2.2.2⟩
theorem gZ.kept {A : Nat → Prop} {U : State} {H H1 : Heap} {g0 : gG} (h : gZ A U H g0) (hq : ∀ a : Nat, a < H.size → ¬ A a → H1[a]? = H[a]?) : gZ A U H1 g0 := ⟨va_Z.kept h.1 hq, h.2.1, gSq.kept h.2.2.1 hq, gSq.kept h.2.2.2.1 hq, h.2.2.2.2⟩
theorem gZ.narrow {A B : Nat → Prop} {U : State} {H : Heap} {g0 : gG} (h : gZ A U H g0) (hAB : ∀ q, B q → A q) : gZ B U H g0 := ⟨va_Z.narrow h.1 hAB, h.2.1, gSq.narrow h.2.2.1 hAB, gSq.narrow h.2.2.2.1 hAB, h.2.2.2.2⟩
def gA (w : gW) : Nat → Prop := fun q => (∃ e : gE, w.1 q = some e ∧ gRW e) ∨ w.2 ≤ q
def gPre (D : gD) (g0 : gG) (w : gW) (U : State) : Prop := U.heap.size = w.2 ∧ (∀ (a : Nat) (e : gE), w.1 a = some e → gAt D a e U.heap) ∧ gK D U ∧ gT U ∧ gZ (gA w) U U.heap g0
/-- the world behind, and nothing else moved -/
def gEnd (D : gD) (w w' : gW) (st t : State) : Prop := t.heap.size = w'.2 ∧ (∀ (a : Nat) (e : gE), w'.1 a = some e → gAt D a e t.heap) ∧ (∀ (a : Nat) (e : gE), w'.1 a = some e → gRW e → gA w a) ∧ va_F (gA w) st t
def gQ (D : gD) (w : gW) (o : (String ⊕ Option Value) × gW) (mc ms : Nat) : Array Value → State → Outcome → State → Prop := fun _ st oc t =>
  gEnd D w o.2 st t ∧ st.WarmedH t.vm ∧ (∃ L : List Loc, st.sameButNew ({ t with vm := st.vm } : State) L mc ms ∧ ∀ z ∈ L, gA w z.base) ∧
    match o.1 with
    | .inl E => ∃ (q : Addr) (ce : Cell), oc = .threw q ∧ t.heap[q]? = some ce ∧ ce.vm = .none ∧ st.vm.findClass E = some ce.cls
    | .inr v => oc = .returned v
def gMet (l : Launch) (y : MethodName) (k : Cond) (rm : Room) (D : gD) (g0 : gG) (av : List Value) (w : gW) (o : (String ⊕ Option Value) × gW) : Prop :=
  MetFree l y (headSpec [k] rm) (fun v U => v = av.toArray ∧ gPre D g0 w U) (fun _ _ _ _ _ => True) (gQ D w o rm.cells rm.slots)
theorem gPre.blind {D : gD} {g0 : gG} {w : gW} {U : State} {g : JFrame} {mk : MethodId} {a : Array Value} (h : gPre D g0 w U) : gPre D g0 w (U.calling g mk a) := by
  obtain ⟨h1, h2, h3, h4, h5⟩ := h
  refine ⟨h1, h2, gK.moved (u := U) (U := U.calling g mk a) (Vm.Alike.refl U.vm) h3, gT.warm (s := U) (U := U.calling g mk a) (State.WarmedH.refl U) h4, gZ.warm (s := U) (U := U.calling g mk a) (State.WarmedH.refl U) h5⟩
def gEndH (D : gD) (w w' : gW) (H H' : Heap) : Prop := H'.size = w'.2 ∧ (∀ (a : Nat) (e : gE), w'.1 a = some e → gAt D a e H') ∧ (∀ (a : Nat) (e : gE), w'.1 a = some e → gRW e → gA w a) ∧ H.size ≤ H'.size ∧ ∀ q : Nat, q < H.size → ¬ gA w q → H'[q]? = H[q]?
theorem gEnd.heaps {D : gD} {w w' : gW} {st t : State} (h : gEnd D w w' st t) : gEndH D w w' st.heap t.heap := ⟨h.1, h.2.1, h.2.2.1, h.2.2.2.1, h.2.2.2.2⟩
section GB
variable {l : Launch} {R : Room} {p : Program} {e : Env} {below : List Frame} {s : State} {sargs : Array Value} {y : MethodName} {len W9 : Nat}
/-- a contract used at a call: the callee's frame is laid, it runs, it returns or throws -/
theorem gw_back {k : Cond} {rm : Room} {D : gD} {g0 : gG} {av : List Value} {w : gW} {o : (String ⊕ Option Value) × gW} {maxL : Nat} (hM : gMet l y k rm D g0 av w o) (hframes : rm.frames + 1 ≤ R.frames) (hlocals : W9 + (maxL + 11) + rm.locals ≤ R.locals)
    (hk : ∀ (a' : Array Value) (U : State), s.WarmedH U.vm → k.before a' U = true) (hinit : ∀ (a' : Array Value) (U : State), s.WarmedH U.vm → (Cond.initialized y.cls).before a' U = true)
    (hsp : ∀ (a : Array Value) (U : State) (mk : MethodId), U.methodNamed? y = some mk → k.before a U = true → ∃ methY cY, U.vm.method? mk = some methY ∧ methY.code = some cY ∧ cY.maxLocals = maxL)
    {m : MethodId} {meth : Method} {c : Code} {U : State} {Ls : List Loc} {c0 s0 : Nat} (X : Stand p l e R s m sargs below meth c U Ls c0 s0) {g : JFrame} {ig : Instr} {mk : MethodId} (hg : g.method = m) (hsize : g.locals.size = c.maxLocals) (hdg : decode c.code g.pc = .ok (ig, len))
    (hW : 2 * g.monitorRoom + (g.stack.map fun v => v.category).sum ≤ W9) (hn : U.methodNamed? y = some mk) (hc : c0 + rm.cells ≤ R.cells) (hs : s0 + rm.slots ≤ R.slots) (hP : gPre D g0 w U) :
    ∃ (T' : State) (L : List Loc), Stand p l e R s m sargs below meth c T' (Ls ++ L) (c0 + rm.cells) (s0 + rm.slots) ∧ (∀ z ∈ L, gA w z.base) ∧ gEndH D w o.2 U.heap T'.heap ∧
      match o.1 with
      | .inr v => Steps p.tables e below (doInvoke e (U.setTop g) [] mk av.toArray).1 (T'.setTop { g with pc := g.pc + len, stack := v.toList ++ g.stack })
      | .inl E => ∃ (q : Addr) (ce : Cell), T'.heap[q]? = some ce ∧ ce.vm = .none ∧ U.vm.findClass E = some ce.cls ∧ Steps p.tables e below (doInvoke e (U.setTop g) [] mk av.toArray).1 ((T'.setTop g).pushFrame (.throwing q)) := by
  have h2 : k.before av.toArray U = true := hk _ _ X.warmed
  obtain ⟨methY, cY, hmY, hcY, hlY⟩ := hsp av.toArray U mk hn h2
  obtain ⟨kY, hkY, -⟩ := className_of_methodNamed hn
  have hinitY : kY.init = .initialized := Cond.initialized_spec (findClass_of_methodNamed hn) hkY (hinit av.toArray U X.warmed)
  have h : At U g.method c below := by rw [hg]; exact X.here
  have happ : (headSpec [k] rm).appliesLoose y e.platform (U.calling g mk av.toArray) = true :=
    Spec.appliesLoose_calling (g := g) h hdg hn hkY hinitY
      (X.room_calling (g := g) (R' := (headSpec [k] rm).room) hsize hmY hcY hframes (by rw [hlY]; have q : (headSpec [k] rm).room.locals = rm.locals := rfl; omega) hc hs) (atoms_intro fun z hz => by rw [List.mem_singleton.mp hz]; exact h2)
  obtain ⟨mid, hmid⟩ := h.above
  have hfr : (U.setTop g).frames = (.java g :: mid) ++ below := by rw [State.frames_setTop' g h.top, hmid]; rfl
  obtain ⟨oc, t, hsteps, -, hend, hq⟩ := Steps.callFree hM p X.admits X.cas X.clock (acts := []) hfr happ ⟨rfl, hP.blind⟩ trivial
  have hq' : gQ D w o rm.cells rm.slots av.toArray (U.calling g mk av.toArray) oc t := hq
  rw [State.frames_setTop' g h.top] at hend
  obtain ⟨g₀, hg0⟩ := Option.isSome_iff_exists.mp h.top
  obtain ⟨r, hr⟩ := State.topJava?_eq_some.mp hg0
  obtain ⟨hE, hWt, ⟨L, hsm, hL⟩, hout⟩ := hq'
  have hW' : U.WarmedH t.vm := hWt
  obtain ⟨e1, e2, e3, e4, e5, e6⟩ := id hsm
  obtain ⟨T', hT'⟩ : ∃ T', T' = (({ U with heap := t.heap, slotsUsed := t.slotsUsed } : State).setVm t.vm) := ⟨_, rfl⟩
  have hr' : T'.frames = .java g₀ :: r := by rw [hT']; exact hr
  have ht : t = ({ (U.calling g mk av.toArray).setFrames t.frames with heap := t.heap, slotsUsed := t.slotsUsed } : State).setVm t.vm := by
    have q : t = ({ t with vm := (U.calling g mk av.toArray).vm } : State).setVm t.vm := rfl
    rw [e1] at q
    exact q
  have hsame : U.sameButNew ({ U with heap := t.heap, slotsUsed := t.slotsUsed } : State) L rm.cells rm.slots := by
    refine ⟨?_, e2, e3, e4, e5, e6⟩
    obtain ⟨z, hz, -⟩ := State.frames_cons hr
    show ({ U with heap := t.heap, slotsUsed := t.slotsUsed } : State) = { U.setFrames U.frames with heap := t.heap, slotsUsed := t.slotsUsed }
    rw [State.setFrames_self hz]
  have X' : Stand p l e R s m sargs below meth c T' (Ls ++ L) (c0 + rm.cells) (s0 + rm.slots) := by
    subst hg
    rw [hT']
    exact ⟨X.admits, X.cas, X.clock, X.frames, X.room, X.hears, X.method, X.code, (X.here.setHeapUsed t.heap t.slotsUsed).setVm hW'.alike, X.tail, State.WarmedH.trans X.warmed hW', X.limits, X.bytes, X.same.trans (hsame.setVm s.vm)⟩
  have hheap : T'.heap = t.heap := by rw [hT']; rfl
  refine ⟨T', L, X', hL, by rw [hheap]; exact hE.heaps, ?_⟩
  obtain ⟨o1, o2⟩ := o
  cases o1 with
  | inr v =>
    have hv : oc = .returned v := hout
    subst hv
    obtain ⟨c₂, i₂, len₂, hc₂, hd₂, hf₂⟩ := hend
    have hcc : c₂ = c := by
      have q1 : t.code? g.method = U.code? g.method := by rw [State.code?_eq, State.code?_eq, hW'.alike.method?]
      exact Option.some.inj (hc₂.symm.trans (q1.trans h.code))
    subst hcc
    have hlen : len₂ = len := by rw [hdg] at hd₂; cases hd₂; rfl
    subst hlen
    have hs₂ : t = T'.setTop { g with pc := g.pc + len₂, stack := v.toList ++ g.stack } := by
      refine ht.trans ?_
      rw [hf₂, State.calling_eq h.top, State.setFrames_setFrames, State.setTop_of_frames _ hr', hr, hT']
      rfl
    show Steps p.tables e below _ (T'.setTop { g with pc := g.pc + len₂, stack := v.toList ++ g.stack })
    rw [← hs₂]
    exact hsteps
  | inl E =>
    obtain ⟨q, ce, rfl, hce, hcv, hcl⟩ := hout
    have hf₂ : t.frames = .throwing q :: .java g :: U.frames.tail := hend
    have hs₂ : t = (T'.setTop g).pushFrame (.throwing q) := by
      refine ht.trans ?_
      rw [hf₂, State.calling_eq h.top, State.setFrames_setFrames, State.pushFrame, State.frames_setTop _ hr', State.setTop_of_frames _ hr', State.setFrames_setFrames, hr, hT']
      rfl
    refine ⟨q, ce, by rw [hheap]; exact hce, hcv, hcl, ?_⟩
    rw [← hs₂]
    exact hsteps
end GB
/-- a call as a whole -/
def gRun (p : Program) (l : Launch) (e : Env) (R : Room) (s : State) (m : MethodId) (args : Array Value) (below : List Frame) (meth : Method) (c : Code) (H : Heap) (locs : List Loc) (cells slots : Nat) (g : JFrame) (rest : List Value) (rm : Room) (D : gD) (w : gW) (o : (String ⊕ Option Value) × gW) : Prop :=
  ∀ T : State, T.heap = H → Stand p l e R s m args below meth c T locs cells slots → ∃ (T' : State) (L : List Loc), Stand p l e R s m args below meth c T' (locs ++ L) (cells + rm.cells) (slots + rm.slots) ∧ (∀ z ∈ L, gA w z.base) ∧ gEndH D w o.2 H T'.heap ∧
    match o.1 with
    | .inr v => ∀ tg, Steps p.tables e below (T'.setTop { g with pc := g.pc + 3, stack := v.toList ++ rest }) tg → Steps p.tables e below (T.setTop g) tg
    | .inl E => ∃ (q : Addr) (ce : Cell), T'.heap[q]? = some ce ∧ ce.vm = .none ∧ s.vm.findClass E = some ce.cls ∧ Steps p.tables e below (T.setTop g) ((T'.setTop { g with stack := rest }).pushFrame (.throwing q))
section GC
variable {p : Program} {l : Launch} {e : Env} {R : Room} {s : State} {m : MethodId} {args : Array Value} {below : List Frame} {meth : Method} {c : Code} {H : Heap} {locs : List Loc} {cells slots : Nat}
/-- what a call needs to know of its callee, whoever calls -/
def gCe (y : MethodName) (k : Cond) (maxL n : Nat) (st : Bool) : Prop :=
  (k ∈ gAll ∧ goodWord k = true) ∧ (Cond.initialized y.cls ∈ gAll) ∧ (if st then Cond.static y ∈ gAll else Cond.instanceMethod y ∈ gAll) ∧ (y.cls ≠ "java/lang/invoke/MethodHandle" ∧ y.cls ≠ "java/lang/invoke/VarHandle") ∧ (parseMethodDescriptor y.desc).map (fun d => d.parameters.length) = some n ∧
  (∀ (a : Array Value) (U : State) (mk : MethodId), U.methodNamed? y = some mk → k.before a U = true → ∃ methY cY, U.vm.method? mk = some methY ∧ methY.code = some cY ∧ cY.maxLocals = maxL ∧ parseMethodDescriptor y.desc = some methY.sig)
theorem gCe.code {y : MethodName} {b : ByteArray} {maxL n : Nat} {ret : Option FieldType} {st : Bool} (h1 : Cond.code y b maxL ret ∈ gAll) (h2 : Cond.initialized y.cls ∈ gAll) (h3 : if st then Cond.static y ∈ gAll else Cond.instanceMethod y ∈ gAll) (h4 : y.cls ≠ "java/lang/invoke/MethodHandle" ∧ y.cls ≠ "java/lang/invoke/VarHandle") (h5 : (parseMethodDescriptor y.desc).map (fun d => d.parameters.length) = some n) : gCe y (.code y b maxL ret) maxL n st := by
  refine ⟨⟨h1, rfl⟩, h2, h3, h4, h5, fun a U mk hn hb => ?_⟩
  obtain ⟨methM, cM, hmethM, hcM, -, hlM, -, -, -, hsigM⟩ := Cond.code_spec hn hb
  exact ⟨methM, cM, hmethM, hcM, hlM, hsigM⟩
theorem gCe.codeWith {y : MethodName} {b : ByteArray} {maxL n : Nat} {ret : Option FieldType} {hh : List (Nat × Nat × Nat × Nat)} {st : Bool} (h1 : Cond.codeWith y b maxL ret hh ∈ gAll) (h2 : Cond.initialized y.cls ∈ gAll) (h3 : if st then Cond.static y ∈ gAll else Cond.instanceMethod y ∈ gAll) (h4 : y.cls ≠ "java/lang/invoke/MethodHandle" ∧ y.cls ≠ "java/lang/invoke/VarHandle") (h5 : (parseMethodDescriptor y.desc).map (fun d => d.parameters.length) = some n) : gCe y (.codeWith y b maxL ret hh) maxL n st := by
  refine ⟨⟨h1, rfl⟩, h2, h3, h4, h5, fun a U mk hn hb => ?_⟩
  obtain ⟨m9, methM, cM, hn9, hmethM, hcM, -, hlM, -, -, -, hsigM⟩ := Cond.codeWith_spec hb
  cases hn.symm.trans hn9
  exact ⟨methM, cM, hmethM, hcM, hlM, hsigM⟩
theorem gCe.len {y : MethodName} {k : Cond} {maxL n : Nat} {st : Bool} (h : gCe y k maxL n st) {sig : MethodDescriptor} (hs : parseMethodDescriptor y.desc = some sig) : n = sig.parameters.length := by
  have h2 := h.2.2.2.2.1
  rw [hs] at h2
  exact (Option.some.inj h2).symm
theorem gCe.k {y : MethodName} {k : Cond} {maxL n : Nat} {st : Bool} (h : gCe y k maxL n st) (hT : gT s) : ∀ (a' : Array Value) (U : State), s.WarmedH U.vm → k.before a' U = true := fun a' U hW => word_at hW (good_of_word h.1.2) (hT _ h.1.1 #[])
theorem gCe.i {y : MethodName} {k : Cond} {maxL n : Nat} {st : Bool} (h : gCe y k maxL n st) (hT : gT s) : ∀ (a' : Array Value) (U : State), s.WarmedH U.vm → (Cond.initialized y.cls).before a' U = true := fun a' U hW => word_at hW (good_of_word rfl) (hT _ h.2.1 #[])
theorem gPre.up {D : gD} {g0 : gG} {w : gW} {A : Nat → Prop} {T : State} {vm₁ : Vm} (hT0 : T.heap = H) (hW : s.WarmedH vm₁) (hK : gK D s) (hT : gT s) (hZ : gZ A s s.heap g0) (hA : ∀ q : Nat, s.heap.size ≤ q → A q) (hI : gI D s A w H locs) : gPre D g0 w (T.setVm vm₁) := by
  obtain ⟨h1, h2, h3, h4⟩ := hI
  have hh : (T.setVm vm₁).heap = H := hT0
  have hsub : ∀ q : Nat, gA w q → A q := fun q hq => hq.elim (fun ⟨e, q1, q2⟩ => h4 q e q1 q2) (fun z => hA q (Nat.le_trans h3.1 (by rw [h1]; exact z)))
  refine ⟨by rw [hh]; exact h1, fun a e he => by rw [hh]; exact h2 a e he, gK.moved hW.alike hK, gT.warm (U := T.setVm vm₁) hW hT, ?_⟩
  rw [hh]
  exact gZ.narrow (gZ.warm (U := T.setVm vm₁) hW (gZ.kept hZ h3.2.1)) hsub
variable {y : MethodName} {k : Cond} {maxL n index nL : Nat} {rm : Room} {D : gD} {g0 : gG} {w : gW} {A : Nat → Prop} {o : (String ⊕ Option Value) × gW} {As rest : List Value} {g : JFrame} {cc : ByteArray} {own : String}
theorem gw_runS (hx : p.tables.exec = Jvm.exec) (hb : c.code = cc) (hml : c.maxLocals = nL) (hown : s.vm.findClass own = some m.cls) (hT : gT s) (hK : gK D s) (hZ : gZ A s s.heap g0) (hA : ∀ q : Nat, s.heap.size ≤ q → A q) (hI : gI D s A w H locs)
    (hM : gMet l y k rm D g0 As w o) (hC : gCe y k maxL n true) (hl : Cond.methodLink own index y ∈ gAll) (hR : rm.frames + 1 ≤ R.frames ∧ 8 + (maxL + 11) + rm.locals ≤ R.locals)
    (hg : g.method = m) (hn : As.length = n) (hsize : g.locals.size = nL) (hstack : g.stack = As.reverse ++ rest) (hW : 2 * g.monitorRoom + (rest.map fun v => v.category).sum ≤ 8) (hdg : decode cc g.pc = .ok (.invokestatic index, 3)) (hf : cells + rm.cells ≤ R.cells ∧ slots + rm.slots ≤ R.slots) :
    gRun p l e R s m args below meth c H locs cells slots g rest rm D w o := by
  intro T hT0 X
  obtain ⟨mk, hnamed⟩ : ∃ mk, s.methodNamed? y = some mk := by
    have h := hT _ hC.2.2.1 #[]
    revert h
    simp only [Cond.before, Cond.holds, Cond.value]
    cases s.methodNamed? y with
    | none => simp
    | some mk => exact fun _ => ⟨mk, rfl⟩
  obtain ⟨methM, cM, hmethM, -, -, hsigM⟩ := hC.2.2.2.2.2 #[] s mk hnamed (hT _ hC.1.1 #[])
  have hstatic : methM.isStatic = true := Cond.static_spec hnamed hmethM (hT _ hC.2.2.1 #[])
  obtain ⟨kP, hkP, -⟩ := className_of_methodNamed hnamed
  have hinitP : kP.init = .initialized := Cond.initialized_spec (findClass_of_methodNamed hnamed) hkP (hT _ hC.2.1 #[])
  obtain ⟨vm₁, X₁, hstep₁⟩ := X.invokestatic hx hown (hT _ hl args) hnamed hmethM hstatic hkP hinitP hC.2.2.2.1 (g := g) hg (argsL := As) (rest := rest) (hn.trans (hC.len hsigM)) hstack (by rw [hb]; exact hdg)
  obtain ⟨T', L, X', hL, hE, hout⟩ := gw_back (W9 := 8) (len := 3) (maxL := maxL) hM hR.1 hR.2 (hC.k hT) (hC.i hT) (fun a U mk hn hb => by obtain ⟨q1, q2, q3, q4, q5, -⟩ := hC.2.2.2.2.2 a U mk hn hb; exact ⟨q1, q2, q3, q4, q5⟩) X₁ (g := { g with stack := rest }) (ig := .invokestatic index) hg (hsize.trans hml.symm) (by rw [hb]; exact hdg) hW (X₁.named hnamed) hf.1 hf.2 (gPre.up hT0 X₁.warmed hK hT hZ hA hI)
  refine ⟨T', L, X', hL, by rw [← hT0]; exact hE, ?_⟩
  obtain ⟨o1, o2⟩ := o
  cases o1 with
  | inr v => exact fun tg h => hstep₁ _ fun acts => by rw [doInvoke_state]; exact hout.trans h
  | inl E =>
    obtain ⟨q, ce, h1, h2, h3, h4⟩ := hout
    refine ⟨q, ce, h1, h2, ?_, hstep₁ _ fun acts => by rw [doInvoke_state]; exact h4⟩
    rw [X₁.warmed.alike.findClass] at h3
    exact h3
/-- the receiver of a call -/
theorem gI.recv {b ci : Nat} {C : String} {T : u_T} {N : Nat} {u : Unit} (hK : gK D s) (hI : gI D s A w H locs) (hc : gCl[ci]? = some (C, T, N)) (h : gck w b ci = some u) : ∃ cellB : Cell, H[b]? = some cellB ∧ cellB.vm.isStatics = false ∧ s.vm.findClass C = some cellB.cls := by
  obtain ⟨fs, h1⟩ := gck_some h
  obtain ⟨r, hr, cell, q1, q2, q3, q4⟩ := hI.2.1 b _ h1
  exact ⟨cell, q1, by rw [q3]; rfl, by rw [q2]; exact (hK.1 ci _ hc).2.1⟩
theorem gw_runV {b ci N : Nat} {C : String} {T0 : u_T} {u : Unit} (hx : p.tables.exec = Jvm.exec) (hb : c.code = cc) (hml : c.maxLocals = nL) (hown : s.vm.findClass own = some m.cls) (hT : gT s) (hK : gK D s) (hZ : gZ A s s.heap g0) (hA : ∀ q : Nat, s.heap.size ≤ q → A q) (hI : gI D s A w H locs)
    (hc : gCl[ci]? = some (C, T0, N)) (hck : gck w b ci = some u) (hM : gMet l y k rm D g0 (.ref b :: As) w o) (hC : gCe y k maxL n false) (hl : Cond.methodLink own index y ∈ gAll) (hse : Cond.selects C y y ∈ gAll) (hR : rm.frames + 1 ≤ R.frames ∧ 8 + (maxL + 11) + rm.locals ≤ R.locals)
    (hg : g.method = m) (hn : As.length = n) (hsize : g.locals.size = nL) (hstack : g.stack = As.reverse ++ .ref b :: rest) (hW : 2 * g.monitorRoom + (rest.map fun v => v.category).sum ≤ 8) (hdg : decode cc g.pc = .ok (.invokevirtual index, 3)) (hf : cells + rm.cells ≤ R.cells ∧ slots + rm.slots ≤ R.slots) :
    gRun p l e R s m args below meth c H locs cells slots g rest rm D w o := by
  intro T hT0 X
  obtain ⟨mk, methM, hnamed, hmethM, hstM, habM⟩ := Cond.instanceMethod_spec (hT _ hC.2.2.1 args)
  obtain ⟨methM', cM, hmethM', -, -, hsigM⟩ := hC.2.2.2.2.2 #[] s mk hnamed (hT _ hC.1.1 #[])
  cases hmethM.symm.trans hmethM'
  obtain ⟨cellB, hcB, hoB, hclB⟩ := hI.recv hK hc hck
  obtain ⟨c2, r2, m2, q1, q2, q3, q4, kP, hkP, hkPi⟩ := Cond.selects_spec (hT _ hse args)
  cases hclB.symm.trans q1
  cases (State.methodFound?_of_named hnamed hC.2.2.2.1).symm.trans q2
  cases hnamed.symm.trans q3
  have hselP : selectMethod e.platform s.vm cellB.cls mk = .method mk := by rw [Launch.admits_selectMethod X.admits]; exact q4
  obtain ⟨vm₁, X₁, hstep₁⟩ := X.invokevirtual hx hown (hT _ hl args) hnamed hmethM hstM hkP hkPi hC.2.2.2.1 (a := b) (cell := cellB) (by rw [hT0]; exact hcB)
    (fun z h => by rw [h] at hoB; cases hoB) hselP hmethM habM hkP hkPi (g := g) hg (argsL := As) (rest := rest) (hn.trans (hC.len hsigM)) hstack (by rw [hb]; exact hdg)
  obtain ⟨T', L, X', hL, hE, hout⟩ := gw_back (W9 := 8) (len := 3) (maxL := maxL) hM hR.1 hR.2 (hC.k hT) (hC.i hT) (fun a U mk hn hb => by obtain ⟨q1, q2, q3, q4, q5, -⟩ := hC.2.2.2.2.2 a U mk hn hb; exact ⟨q1, q2, q3, q4, q5⟩) X₁ (g := { g with stack := rest }) (ig := .invokevirtual index) hg (hsize.trans hml.symm) (by rw [hb]; exact hdg) hW (X₁.named hnamed) hf.1 hf.2 (gPre.up hT0 X₁.warmed hK hT hZ hA hI)
  refine ⟨T', L, X', hL, by rw [← hT0]; exact hE, ?_⟩
  obtain ⟨o1, o2⟩ := o
  cases o1 with
  | inr v => exact fun tg h => hstep₁ _ fun acts => by rw [doInvoke_state]; exact hout.trans h
  | inl E =>
    obtain ⟨q, ce, h1, h2, h3, h4⟩ := hout
    refine ⟨q, ce, h1, h2, ?_, hstep₁ _ fun acts => by rw [doInvoke_state]; exact h4⟩
    rw [X₁.warmed.alike.findClass] at h3
    exact h3
theorem gw_runI {b : Nat} {bs : ByteArray} (hx : p.tables.exec = Jvm.exec) (hb : c.code = cc) (hml : c.maxLocals = nL) (hown : s.vm.findClass own = some m.cls) (hT : gT s) (hK : gK D s) (hZ : gZ A s s.heap g0) (hA : ∀ q : Nat, s.heap.size ≤ q → A q) (hI : gI D s A w H locs)
    (hM : gMet l y (.code y bs maxL none) rm D g0 (.ref b :: As) w o) (hC : gCe y (.code y bs maxL none) maxL n false) (hl : Cond.methodLink own index y ∈ gAll) (hy1 : y.name = "<init>") (hR : rm.frames + 1 ≤ R.frames ∧ 8 + (maxL + 11) + rm.locals ≤ R.locals)
    (hg : g.method = m) (hn : As.length = n) (hsize : g.locals.size = nL) (hstack : g.stack = As.reverse ++ .ref b :: rest) (hW : 2 * g.monitorRoom + (rest.map fun v => v.category).sum ≤ 8) (hdg : decode cc g.pc = .ok (.invokespecial index, 3)) (hf : cells + rm.cells ≤ R.cells ∧ slots + rm.slots ≤ R.slots) :
    gRun p l e R s m args below meth c H locs cells slots g rest rm D w o := by
  subst hg
  intro T hT0 X
  have hpl : e.platform.magicAccessors = ({} : Platform).magicAccessors := by rw [X.admits.platform]
  obtain ⟨mk, methM, cM, kP, vm₁, hnamed, hmethM, hcodeM, -, hlocalsM, -, hkP, -, hW₁, hstep₁⟩ := Steps.initColdArgs (e := e) X.here hx X.warmed hpl hown hy1 hC.2.2.2.1 (hT _ hl args) (hT _ hC.2.2.1 args) (hT _ hC.1.1 args) (f := g) rfl (fun sig h => hn.trans (hC.len h)) hstack (by rw [hb]; exact hdg)
  have X₁ := X.noted hW₁
  obtain ⟨T', L, X', hL, hE, hout⟩ := gw_back (W9 := 8) (len := 3) (maxL := maxL) hM hR.1 hR.2 (hC.k hT) (hC.i hT) (fun a U mk hn hb => by obtain ⟨q1, q2, q3, q4, q5, -⟩ := hC.2.2.2.2.2 a U mk hn hb; exact ⟨q1, q2, q3, q4, q5⟩) X₁ (g := { g with stack := rest }) (ig := .invokespecial index) rfl (hsize.trans hml.symm) (by rw [hb]; exact hdg) hW (X₁.named hnamed) hf.1 hf.2 (gPre.up hT0 X₁.warmed hK hT hZ hA hI)
  refine ⟨T', L, X', hL, by rw [← hT0]; exact hE, ?_⟩
  obtain ⟨o1, o2⟩ := o
  cases o1 with
  | inr v => exact fun tg h => hstep₁ _ fun acts => by rw [doInvoke_state]; exact hout.trans h
  | inl E =>
    obtain ⟨q, ce, h1, h2, h3, h4⟩ := hout
    refine ⟨q, ce, h1, h2, ?_, hstep₁ _ fun acts => by rw [doInvoke_state]; exact h4⟩
    rw [X₁.warmed.alike.findClass] at h3
    exact h3
theorem gw_runIN {b : Nat} {bs : ByteArray} {host : String} (hx : p.tables.exec = Jvm.exec) (hb : c.code = cc) (hml : c.maxLocals = nL) (hown : s.vm.findClass own = some m.cls) (hT : gT s) (hK : gK D s) (hZ : gZ A s s.heap g0) (hA : ∀ q : Nat, s.heap.size ≤ q → A q) (hI : gI D s A w H locs)
    (hM : gMet l y (.code y bs maxL none) rm D g0 (.ref b :: As) w o) (hC : gCe y (.code y bs maxL none) maxL n false) (hl : Cond.methodLinkNest own index y host ∈ gAll) (hy1 : y.name = "<init>") (hR : rm.frames + 1 ≤ R.frames ∧ 8 + (maxL + 11) + rm.locals ≤ R.locals)
    (hg : g.method = m) (hn : As.length = n) (hsize : g.locals.size = nL) (hstack : g.stack = As.reverse ++ .ref b :: rest) (hW : 2 * g.monitorRoom + (rest.map fun v => v.category).sum ≤ 8) (hdg : decode cc g.pc = .ok (.invokespecial index, 3)) (hf : cells + rm.cells ≤ R.cells ∧ slots + rm.slots ≤ R.slots) :
    gRun p l e R s m args below meth c H locs cells slots g rest rm D w o := by
  subst hg
  intro T hT0 X
  have hpl : e.platform.magicAccessors = ({} : Platform).magicAccessors := by rw [X.admits.platform]
  obtain ⟨mk, methM, cM, kP, vm₁, hnamed, hmethM, hcodeM, -, hlocalsM, -, hkP, -, hW₁, hstep₁⟩ := Steps.initColdArgsNest (e := e) X.here hx X.warmed hpl hown hy1 hC.2.2.2.1 (hT _ hl args) (hT _ hC.2.2.1 args) (hT _ hC.1.1 args) (f := g) rfl (fun sig h => hn.trans (hC.len h)) hstack (by rw [hb]; exact hdg)
  have X₁ := X.noted hW₁
  obtain ⟨T', L, X', hL, hE, hout⟩ := gw_back (W9 := 8) (len := 3) (maxL := maxL) hM hR.1 hR.2 (hC.k hT) (hC.i hT) (fun a U mk hn hb => by obtain ⟨q1, q2, q3, q4, q5, -⟩ := hC.2.2.2.2.2 a U mk hn hb; exact ⟨q1, q2, q3, q4, q5⟩) X₁ (g := { g with stack := rest }) (ig := .invokespecial index) rfl (hsize.trans hml.symm) (by rw [hb]; exact hdg) hW (X₁.named hnamed) hf.1 hf.2 (gPre.up hT0 X₁.warmed hK hT hZ hA hI)
  refine ⟨T', L, X', hL, by rw [← hT0]; exact hE, ?_⟩
  obtain ⟨o1, o2⟩ := o
  cases o1 with
  | inr v => exact fun tg h => hstep₁ _ fun acts => by rw [doInvoke_state]; exact hout.trans h
  | inl E =>
    obtain ⟨q, ce, h1, h2, h3, h4⟩ := hout
    refine ⟨q, ce, h1, h2, ?_, hstep₁ _ fun acts => by rw [doInvoke_state]; exact h4⟩
    rw [X₁.warmed.alike.findClass] at h3
    exact h3
end GC
end
section
/-! ===== a method's body: how it ends ===== -/
def gMQ (below : List Frame) (D : gD) (w : gW) (o : (String ⊕ Option Value) × gW) (mc ms : Nat) (a : Array Value) (s : State) : State → Prop := fun t => ∃ oc, t.status = .running ∧ Ended t below oc ∧ gQ D w o mc ms a s oc t
/-- the frame g, with q thrown over it -/
def gXW (p : Program) (l : Launch) (e : Env) (R : Room) (s : State) (m : MethodId) (args : Array Value) (below : List Frame) (meth : Method) (c : Code) (H : Heap) (locs : List Loc) (cells slots : Nat) (Q : State → Prop) (g : JFrame) (q : Addr) : Prop :=
  ∀ T : State, T.heap = H → Stand p l e R s m args below meth c T locs cells slots → ∃ t, Steps p.tables e below ((T.setTop g).pushFrame (.throwing q)) t ∧ Q t
def goI (x : (String ⊕ Int32) × gW) : (String ⊕ Option Value) × gW := (match x.1 with | .inl E => .inl E | .inr v => .inr (some (.int v)), x.2)
def goJ (x : (String ⊕ Int64) × gW) : (String ⊕ Option Value) × gW := (match x.1 with | .inl E => .inl E | .inr v => .inr (some (.long v)), x.2)
def goA (x : (String ⊕ Nat) × gW) : (String ⊕ Option Value) × gW := (match x.1 with | .inl E => .inl E | .inr v => .inr (some (.ref v)), x.2)
def goV (x : (String ⊕ Unit) × gW) : (String ⊕ Option Value) × gW := (match x.1 with | .inl E => .inl E | .inr _ => .inr none, x.2)
/-- how an exception leaves -/
abbrev gEx (p : Program) (l : Launch) (e : Env) (R : Room) (s : State) (m : MethodId) (args : Array Value) (below : List Frame) (meth : Method) (c : Code) (Q : State → Prop) (D : gD) (A : Nat → Prop) {α : Type} (r : (String ⊕ α) × gW) : Prop :=
  ∀ (E : String) (w1 : gW), r = (.inl E, w1) → ∀ (pc : Nat) (ls : Array Slot) (rest : List Value) (H : Heap) (locs : List Loc) (q : Addr) (ce : Cell), gI D s A w1 H locs → H[q]? = some ce → ce.vm = .none → s.vm.findClass E = some ce.cls → gXW p l e R s m args below meth c H locs R.cells R.slots Q (F0 m pc ls rest) q
section GM
variable {p : Program} {l : Launch} {e : Env} {R : Room} {s : State} {m : MethodId} {args : Array Value} {below : List Frame} {meth : Method} {c : Code} {H : Heap} {locs : List Loc} {cells slots : Nat} {Q : State → Prop}
variable {pc : Nat} {ls : Array Slot} {rest st0 : List Value} {D : gD} {A : Nat → Prop} {w : gW} {rm : Room}
theorem gI.after {w' : gW} {H' : Heap} {L : List Loc} (hA : ∀ q : Nat, s.heap.size ≤ q → A q) (hI : gI D s A w H locs) (hE : gEndH D w w' H H') (hL : ∀ z ∈ L, gA w z.base) : gI D s A w' H' (locs ++ L) := by
  obtain ⟨h1, h2, h3, h4⟩ := hI
  obtain ⟨g1, g2, g3, g4, g5⟩ := hE
  have hsub : ∀ q : Nat, gA w q → A q := fun q hq => hq.elim (fun ⟨e, q1, q2⟩ => h4 q e q1 q2) (fun z => hA q (Nat.le_trans h3.1 (by rw [h1]; exact z)))
  refine ⟨g1, g2, ⟨Nat.le_trans h3.1 g4, fun q q1 q2 => ?_, fun z hz => ?_⟩, fun a e he hr => hsub _ (g3 a e he hr)⟩
  · rw [g5 q (Nat.lt_of_lt_of_le q1 h3.1) (fun z => q2 (hsub q z))]
    exact h3.2.1 q q1 q2
  · rcases List.mem_append.mp hz with h | h
    · exact h3.2.2 z h
    · exact hsub _ (hL z h)
theorem gw_callI {β : Type} {X : gX Int32} {K : Int32 → gW → gX β} {r : (String ⊕ β) × gW} {ov : (String ⊕ Int32) × gW} (e1 : X = some ov) (h : gbind X K = some r) (hr : gRun p l e R s m args below meth c H locs cells slots (F0 m pc ls st0) rest rm D w (goI ov)) (hI : gI D s A w H locs) (hA : ∀ q : Nat, s.heap.size ≤ q → A q) (hexc : gEx p l e R s m args below meth c Q D A r) (hc : cells + rm.cells ≤ R.cells) (hs : slots + rm.slots ≤ R.slots)
    (kk : ∀ (v : Int32) (w1 : gW) (H1 : Heap) (locs1 : List Loc), K v w1 = some r → gI D s A w1 H1 locs1 → W p l e R s m args below meth c H1 locs1 (cells + rm.cells) (slots + rm.slots) Q (F0 m (pc + 3) ls (.int v :: rest))) : W p l e R s m args below meth c H locs cells slots Q (F0 m pc ls st0) := by
  subst e1
  obtain ⟨ov, w1⟩ := ov
  intro T hT X
  obtain ⟨T', L, X', hL, hE, hout⟩ := hr T hT X
  cases ov with
  | inr v =>
    obtain ⟨t2, a1, b1⟩ := kk v w1 T'.heap (locs ++ L) h (hI.after hA hE hL) T' rfl X'
    exact ⟨t2, hout t2 a1, b1⟩
  | inl E =>
    obtain ⟨q, ce, h1, h2, h3, h4⟩ := hout
    obtain ⟨t2, a1, b1⟩ := hexc E w1 (Option.some.inj h).symm pc ls rest T'.heap (locs ++ L) q ce (hI.after hA hE hL) h1 h2 h3 T' rfl (stand_widen X' hc hs)
    exact ⟨t2, h4.trans a1, b1⟩
theorem gw_callJ {β : Type} {X : gX Int64} {K : Int64 → gW → gX β} {r : (String ⊕ β) × gW} {ov : (String ⊕ Int64) × gW} (e1 : X = some ov) (h : gbind X K = some r) (hr : gRun p l e R s m args below meth c H locs cells slots (F0 m pc ls st0) rest rm D w (goJ ov)) (hI : gI D s A w H locs) (hA : ∀ q : Nat, s.heap.size ≤ q → A q) (hexc : gEx p l e R s m args below meth c Q D A r) (hc : cells + rm.cells ≤ R.cells) (hs : slots + rm.slots ≤ R.slots)
    (kk : ∀ (v : Int64) (w1 : gW) (H1 : Heap) (locs1 : List Loc), K v w1 = some r → gI D s A w1 H1 locs1 → W p l e R s m args below meth c H1 locs1 (cells + rm.cells) (slots + rm.slots) Q (F0 m (pc + 3) ls (.long v :: rest))) : W p l e R s m args below meth c H locs cells slots Q (F0 m pc ls st0) := by
  subst e1
  obtain ⟨ov, w1⟩ := ov
  intro T hT X
  obtain ⟨T', L, X', hL, hE, hout⟩ := hr T hT X
  cases ov with
  | inr v =>
    obtain ⟨t2, a1, b1⟩ := kk v w1 T'.heap (locs ++ L) h (hI.after hA hE hL) T' rfl X'
    exact ⟨t2, hout t2 a1, b1⟩
  | inl E =>
    obtain ⟨q, ce, h1, h2, h3, h4⟩ := hout
    obtain ⟨t2, a1, b1⟩ := hexc E w1 (Option.some.inj h).symm pc ls rest T'.heap (locs ++ L) q ce (hI.after hA hE hL) h1 h2 h3 T' rfl (stand_widen X' hc hs)
    exact ⟨t2, h4.trans a1, b1⟩
theorem gw_callA {β : Type} {X : gX Nat} {K : Nat → gW → gX β} {r : (String ⊕ β) × gW} {ov : (String ⊕ Nat) × gW} (e1 : X = some ov) (h : gbind X K = some r) (hr : gRun p l e R s m args below meth c H locs cells slots (F0 m pc ls st0) rest rm D w (goA ov)) (hI : gI D s A w H locs) (hA : ∀ q : Nat, s.heap.size ≤ q → A q) (hexc : gEx p l e R s m args below meth c Q D A r) (hc : cells + rm.cells ≤ R.cells) (hs : slots + rm.slots ≤ R.slots)
    (kk : ∀ (v : Nat) (w1 : gW) (H1 : Heap) (locs1 : List Loc), K v w1 = some r → gI D s A w1 H1 locs1 → W p l e R s m args below meth c H1 locs1 (cells + rm.cells) (slots + rm.slots) Q (F0 m (pc + 3) ls (.ref v :: rest))) : W p l e R s m args below meth c H locs cells slots Q (F0 m pc ls st0) := by
  subst e1
  obtain ⟨ov, w1⟩ := ov
  intro T hT X
  obtain ⟨T', L, X', hL, hE, hout⟩ := hr T hT X
  cases ov with
  | inr v =>
    obtain ⟨t2, a1, b1⟩ := kk v w1 T'.heap (locs ++ L) h (hI.after hA hE hL) T' rfl X'
    exact ⟨t2, hout t2 a1, b1⟩
  | inl E =>
    obtain ⟨q, ce, h1, h2, h3, h4⟩ := hout
    obtain ⟨t2, a1, b1⟩ := hexc E w1 (Option.some.inj h).symm pc ls rest T'.heap (locs ++ L) q ce (hI.after hA hE hL) h1 h2 h3 T' rfl (stand_widen X' hc hs)
    exact ⟨t2, h4.trans a1, b1⟩
theorem gw_callV {β : Type} {X : gX Unit} {K : Unit → gW → gX β} {r : (String ⊕ β) × gW} {ov : (String ⊕ Unit) × gW} (e1 : X = some ov) (h : gbind X K = some r) (hr : gRun p l e R s m args below meth c H locs cells slots (F0 m pc ls st0) rest rm D w (goV ov)) (hI : gI D s A w H locs) (hA : ∀ q : Nat, s.heap.size ≤ q → A q) (hexc : gEx p l e R s m args below meth c Q D A r) (hc : cells + rm.cells ≤ R.cells) (hs : slots + rm.slots ≤ R.slots)
    (kk : ∀ (v : Unit) (w1 : gW) (H1 : Heap) (locs1 : List Loc), K v w1 = some r → gI D s A w1 H1 locs1 → W p l e R s m args below meth c H1 locs1 (cells + rm.cells) (slots + rm.slots) Q (F0 m (pc + 3) ls rest)) : W p l e R s m args below meth c H locs cells slots Q (F0 m pc ls st0) := by
  subst e1
  obtain ⟨ov, w1⟩ := ov
  intro T hT X
  obtain ⟨T', L, X', hL, hE, hout⟩ := hr T hT X
  cases ov with
  | inr v =>
    obtain ⟨t2, a1, b1⟩ := kk v w1 T'.heap (locs ++ L) h (hI.after hA hE hL) T' rfl X'
    exact ⟨t2, hout t2 a1, b1⟩
  | inl E =>
    obtain ⟨q, ce, h1, h2, h3, h4⟩ := hout
    obtain ⟨t2, a1, b1⟩ := hexc E w1 (Option.some.inj h).symm pc ls rest T'.heap (locs ++ L) q ce (hI.after hA hE hL) h1 h2 h3 T' rfl (stand_widen X' hc hs)
    exact ⟨t2, h4.trans a1, b1⟩
/-- the kit's end of a walk, as this contract's -/
theorem gw_end {y : MethodName} {w0 : gW} {v : Option Value} {w1 : gW} {mc ms : Nat} {g : JFrame} (hI : gI D s (gA w0) w1 H locs)
    (k : W p l e R s m args below meth c H locs mc ms (MQ below (fun _ _ oc t => oc = .returned v ∧ t.heap = H ∧ s.WarmedH t.vm) args s mc ms (gA w0)) g) : W p l e R s m args below meth c H locs mc ms (gMQ below D w0 (.inr v, w1) mc ms args s) g := by
  intro T hT X
  obtain ⟨t, a1, oc, b1, b2, ⟨rfl, hh, hW⟩, L, ⟨-, -, hF⟩, hL⟩ := k T hT X
  obtain ⟨h1, h2, h3, h4⟩ := hI
  refine ⟨t, a1, _, b1, b2, ⟨by rw [hh]; exact h1, fun a e he => by rw [hh]; exact h2 a e he, h4, ⟨by rw [hh]; exact h3.1, fun q q1 q2 => by rw [hh]; exact h3.2.1 q q1 q2⟩⟩, hW, ⟨L, hF, hL⟩, rfl⟩
variable {w0 : gW} {cc : ByteArray}
theorem gw_retI (hx : p.tables.exec = Jvm.exec) (hb : c.code = cc) (hr : meth.sig.returnType = some .int) (hlocks : meth.locks = false) (r : (String ⊕ Int32) × gW) : ∀ (v : Int32) (w1 : gW), r = (.inr v, w1) → ∀ (pc : Nat) (ls : Array Slot) (H : Heap) (locs : List Loc), decode cc pc = .ok (.ireturn, 1) → gI D s (gA w0) w1 H locs → W p l e R s m args below meth c H locs R.cells R.slots (gMQ below D w0 (goI r) R.cells R.slots args s) (F0 m pc ls [.int v]) := by
  intro v w1 h pc ls H locs hdg hI
  subst h
  exact gw_end (y := ⟨"", "", ""⟩) hI (W.iret hx hb hr (fun t ht hW => ⟨rfl, ht, hW⟩) hI.2.2.1.2.2 hdg hlocks)
theorem gw_retZ (hx : p.tables.exec = Jvm.exec) (hb : c.code = cc) (hr : meth.sig.returnType = some .boolean) (hlocks : meth.locks = false) (r : (String ⊕ Int32) × gW) : ∀ {v : Int32}, (v = 0 ∨ v = 1) → ∀ (v' : Int32) (w1 : gW), r = (.inr v, w1) → ∀ (pc : Nat) (ls : Array Slot) (H : Heap) (locs : List Loc), decode cc pc = .ok (.ireturn, 1) → gI D s (gA w0) w1 H locs → W p l e R s m args below meth c H locs R.cells R.slots (gMQ below D w0 (goI r) R.cells R.slots args s) (F0 m pc ls [.int v]) := by
  intro v hv _ w1 h pc ls H locs hdg hI
  subst h
  exact gw_end (y := ⟨"", "", ""⟩) hI (W.zret hx hb hr (by rcases hv with rfl | rfl <;> rfl) (fun t ht hW => ⟨rfl, ht, hW⟩) hI.2.2.1.2.2 hdg hlocks)
theorem gw_retJ (hx : p.tables.exec = Jvm.exec) (hb : c.code = cc) (hr : meth.sig.returnType = some .long) (hlocks : meth.locks = false) (r : (String ⊕ Int64) × gW) : ∀ (v : Int64) (w1 : gW), r = (.inr v, w1) → ∀ (pc : Nat) (ls : Array Slot) (H : Heap) (locs : List Loc), decode cc pc = .ok (.lreturn, 1) → gI D s (gA w0) w1 H locs → W p l e R s m args below meth c H locs R.cells R.slots (gMQ below D w0 (goJ r) R.cells R.slots args s) (F0 m pc ls [.long v]) := by
  intro v w1 h pc ls H locs hdg hI
  subst h
  exact gw_end (y := ⟨"", "", ""⟩) hI (W.lret hx hb hr (fun t ht hW => ⟨rfl, ht, hW⟩) hI.2.2.1.2.2 hdg hlocks)
theorem gw_retV (hx : p.tables.exec = Jvm.exec) (hb : c.code = cc) (hr : meth.sig.returnType = none) (hlocks : meth.locks = false) (r : (String ⊕ Unit) × gW) : ∀ (v : Unit) (w1 : gW), r = (.inr v, w1) → ∀ (pc : Nat) (ls : Array Slot) (H : Heap) (locs : List Loc), decode cc pc = .ok (.return_, 1) → gI D s (gA w0) w1 H locs → W p l e R s m args below meth c H locs R.cells R.slots (gMQ below D w0 (goV r) R.cells R.slots args s) (F0 m pc ls []) := by
  intro v w1 h pc ls H locs hdg hI
  subst h
  exact gw_end (y := ⟨"", "", ""⟩) hI (W.vret hx hb hr (fun t ht hW => ⟨rfl, ht, hW⟩) hI.2.2.1.2.2 hdg hlocks)
theorem gw_retA {rt : FieldType} (hx : p.tables.exec = Jvm.exec) (hb : c.code = cc) (hr : meth.sig.returnType = some rt) (hrt : (∃ n, rt = .object n) ∨ ∃ t, rt = .array t) (hlocks : meth.locks = false) (r : (String ⊕ Nat) × gW) : ∀ (v : Nat) (w1 : gW), r = (.inr v, w1) → ∀ (pc : Nat) (ls : Array Slot) (H : Heap) (locs : List Loc), decode cc pc = .ok (.areturn, 1) → gI D s (gA w0) w1 H locs → W p l e R s m args below meth c H locs R.cells R.slots (gMQ below D w0 (goA r) R.cells R.slots args s) (F0 m pc ls [.ref v]) := by
  intro v w1 h pc ls H locs hdg hI
  subst h
  exact gw_end (y := ⟨"", "", ""⟩) hI (W.aret hx hb hr hrt (Or.inr ⟨v, rfl⟩) (fun t ht hW => ⟨rfl, ht, hW⟩) hI.2.2.1.2.2 hdg hlocks)
/-- an exception leaves a method without handlers -/
theorem gw_exc {α : Type} {r : (String ⊕ α) × gW} {o : (String ⊕ Option Value) × gW} (ho : ∀ (E : String) (w1 : gW), r = (.inl E, w1) → o = (.inl E, w1)) (htab : ∀ x ∈ c.exceptionTable.toList, False) (hlocks : meth.locks = false) : gEx p l e R s m args below meth c (gMQ below D w0 o R.cells R.slots args s) D (gA w0) r := by
  intro E w1 h pc ls rest H locs q ce hI h1 h2 h3 T hT X
  obtain ⟨st1, hrun, hend, hW, hsm⟩ := X.leaveThrown q (g := F0 m pc ls rest) rfl rfl rfl (fun x hx => (htab x hx).elim) hlocks
  rw [ho E w1 h]
  obtain ⟨g1, g2, g3, g4⟩ := hI
  have hh : (T.setFrames (.throwing q :: below)).heap = H := hT
  refine ⟨_, st1, .threw q, hrun, hend, ⟨by rw [hh]; exact g1, fun a e he => by rw [hh]; exact g2 a e he, g4, ⟨by rw [hh]; exact g3.1, fun z q1 q2 => by rw [hh]; exact g3.2.1 z q1 q2⟩⟩, hW, ⟨locs, hsm, g3.2.2⟩, q, ce, rfl, by rw [hh]; exact h1, h2, h3⟩
end GM
/-- a contract out of a walk of the body -/
theorem gw_of {l : Launch} {y : MethodName} {cc : ByteArray} {maxL : Nat} {ret : Option FieldType} {rm : Room} {D : gD} {g0 : gG} {av : List Value} {w : gW} {o : (String ⊕ Option Value) × gW} (hy : plainFor y = true) (hlen : (lg_sl av).length ≤ maxL)
    (body : ∀ (p : Program) (e : Env) (s : State) (m : MethodId) (below : List Frame) (meth : Method) (c : Code) (ls : Array Slot), p.tables.exec = Jvm.exec → c.code = cc → meth.sig.returnType = ret → c.maxLocals = maxL → s.vm.findClass y.cls = some m.cls → meth.locks = false → meth.name = y.name → (∀ x ∈ c.exceptionTable.toList, False) → gT s → gK D s → gZ (gA w) s s.heap g0 → (∀ q : Nat, s.heap.size ≤ q → gA w q) → gI D s (gA w) w s.heap [] → lv_has ls maxL (lv_args 0 av) →
      W p l e rm s m av.toArray below meth c s.heap [] 0 0 (gMQ below D w o rm.cells rm.slots av.toArray s) (F0 m 0 ls [])) : gMet l y (.code y cc maxL ret) rm D g0 av w o := by
  refine MetFree.of_bodySF (code := cc) (maxLocals := maxL) (ret := ret) hy ?_ ?_
  · intro args s m h hn
    obtain ⟨meth, c, h1, h2, h3, h4, h5, h6, -, -⟩ := Cond.code_spec hn (atoms_spec (ws := [.code y cc maxL ret]) h _ List.mem_cons_self)
    exact ⟨meth, c, h1, h2, h3, h4, h5, h6⟩
  · intro p e s m args below meth c s₁ B hml hP _
    obtain ⟨rfl, q1, q2, q3, q4, q5⟩ := hP
    have hh0 : s₁.heap = s.heap := by rw [B.state]; rfl
    have htab : ∀ x ∈ c.exceptionTable.toList, False := by
      obtain ⟨meth9, c9, h1, h2, -, -, -, -, h7, -⟩ := Cond.code_spec B.named (atoms_spec (ws := [.code y cc maxL ret]) B.pre _ List.mem_cons_self)
      cases Option.some.inj (h1.symm.trans B.method)
      cases Option.some.inj (h2.symm.trans (Stand.of_body B).code)
      intro x hx
      rw [Array.isEmpty_iff.mp h7] at hx
      cases hx
    have hl := lv_entry av (n := maxL) hlen
    have hW := body p e s m below meth c _ B.exec B.bytes B.returns hml (findClass_of_methodNamed B.named) B.notSynchronized (name_of_methodNamed B.named B.method).1 htab q4 q3 q5 (fun q hq => Or.inr (by rw [← q1]; exact hq)) ⟨q1, q2, va_S.rf, fun a e he hr => Or.inl ⟨e, he, hr⟩⟩ hl
    rw [← lg_entry_eq] at hW
    obtain ⟨t, a1, oc, b1, b2, b3⟩ := hW s₁ hh0 (Stand.of_body B)
    exact ⟨t, oc, a1, b1, b2, b3⟩
end
section
/-! ===== rows of references: stores, comparisons, statics, casts ===== -/
def gCast : List (String × String) := [("BodySolids$Solid", "BodySolids$Solid"), ("BodySolids$Solid", "java/lang/Object"), ("BodySolids$Body", "java/lang/Object"), ("BodySolids$Placement", "java/lang/Object"), ("BodySolids$KeepOut", "java/lang/Object"), ("BodySolids$Placement", "BodySolids$Placement"), ("BodySolids$KeepOut", "BodySolids$KeepOut"), ("BodySolids$Body", "BodySolids$Body")]
theorem gCast_ok : ∀ q ∈ gCast, Cond.castable q.1 q.2 ∈ gAll := fun q hq => List.mem_filter.mpr ⟨by revert q; decide +kernel, rfl⟩
def gok (k c : Nat) : Bool := match gTy[k]?, gCl[c]? with
  | some (.object C), some r => decide ((r.1, C) ∈ gCast)
  | _, _ => false
theorem gok_some {k c : Nat} (h : gok k c = true) : ∃ (C : String) (r : vw_C), gTy[k]? = some (.object C) ∧ gCl[c]? = some r ∧ Cond.castable r.1 C ∈ gAll := by
  unfold gok at h
  split at h
  · rename_i C r h1 h2
    exact ⟨C, r, h1, h2, gCast_ok (r.1, C) (of_decide_eq_true h)⟩
  · cases h
def gsA (w : gW) (a : Nat) (i : Int32) (v : Nat) : Option gW := (gob w a).bind fun k => match w.1 v with
  | some (.inr o) => if gok k o.1 = true then gas w a k i (.ref v) else none
  | _ => none
theorem gsA_some {w w' : gW} {a v : Nat} {i : Int32} (h : gsA w a i v = some w') : ∃ (k : Nat) (o : Nat × List Value), w.1 v = some (.inr o) ∧ gok k o.1 = true ∧ gas w a k i (.ref v) = some w' := by
  obtain ⟨k, h1, h2⟩ := Option.bind_eq_some_iff.mp h
  split at h2
  · rename_i o ho
    split at h2
    · rename_i hk
      exact ⟨k, o, ho, hk, h2⟩
    · cases h2
  · cases h2
section GR2
variable {p : Program} {l : Launch} {e : Env} {R : Room} {s : State} {m : MethodId} {args : Array Value} {below : List Frame} {meth : Method} {c : Code} {H : Heap} {locs : List Loc} {cells slots : Nat} {Q : State → Prop}
variable {cc : ByteArray} {pc : Nat} {ls : Array Slot} {rest : List Value} {D : gD} {A : Nat → Prop} {a : Nat} {w : gW} {g0 : gG}
theorem gw_astA (hx : p.tables.exec = Jvm.exec) (hb : c.code = cc) (hT : gT s) (hK : gK D s) (hI : gI D s A w H locs) {i : Int32} {x : Nat} {w' : gW} (hv : gsA w a i x = some w') (hdg : decode cc pc = .ok (.aastore, 1))
    (kk : ∀ (H1 : Heap) (locs1 : List Loc), gI D s A w' H1 locs1 → W p l e R s m args below meth c H1 locs1 cells slots Q (F0 m (pc + 1) ls rest)) : W p l e R s m args below meth c H locs cells slots Q (F0 m pc ls (.ref x :: .int i :: .ref a :: rest)) := by
  obtain ⟨k, o, ho, hok, hv⟩ := gsA_some hv
  obtain ⟨C, r, hk, hc, hca⟩ := gok_some hok
  obtain ⟨n, f, h1, hin, rfl⟩ := gas_some hv
  have hlt : i.toNatClampNeg < n := Nat.not_le.mp fun q => hin (Or.inr q)
  have h0 : ¬ i < 0 := fun q => hin (Or.inl q)
  obtain ⟨r', hr', cellV, g1, g2, g3, -⟩ := hI.2.1 x _ ho
  have hcls := (hK.1 o.1 r hc).2
  obtain ⟨kA, comp, k1, k2, k3, -⟩ := (hK.2.1 k _ hk).2
  obtain ⟨kE, hkE, -⟩ := Vm.findClass_spec k3
  obtain ⟨c0, t1, f1, f2, f3⟩ := Cond.castable_spec (hT _ hca args)
  cases hcls.1.symm.trans f1
  cases k3.symm.trans f2
  obtain ⟨kC, hkC, -⟩ := hcls.2
  have hk4 : k < 4 := (List.getElem?_eq_some_iff.mp hk).1
  refine W.aast hx hb ((hI.2.1 a _ h1).arr hk4) (fun q h => by cases h) (fun h => by cases h) k1 k2 rfl hkE ⟨h0, by show _ < (arrV _ _ _).slots.size; rw [arrV_size]; exact hlt⟩ g1 (fun q h => by rw [g3] at h; cases h) (by rw [g2]; exact hkC) (by rw [g2]; exact f3) rfl rfl hdg fun H1 e1 z1 o1 => ?_
  exact kk H1 _ (hI.put h1 ⟨hk4, (fun q => hin (Or.inr (by rw [show n = 0 from q]; exact Nat.zero_le _)))⟩ z1 o1 (gAt.mk hk4 (e1.trans (by show some (Cell.setSlot (arrV _ _ _) _ _) = _; rw [arrV_store]))))
theorem gw_acmp_eq (hx : p.tables.exec = Jvm.exec) (hb : c.code = cc) {x y : Nat} {off : Int} {tgt : Nat} (hdg : decode cc pc = .ok (.if_acmp .eq off, 3)) (ht : (pc : Int) + off = (tgt : Int))
    (kt : x = y → W p l e R s m args below meth c H locs cells slots Q (F0 m tgt ls rest)) (kf : ¬ x = y → W p l e R s m args below meth c H locs cells slots Q (F0 m (pc + 3) ls rest)) : W p l e R s m args below meth c H locs cells slots Q (F0 m pc ls (.ref y :: .ref x :: rest)) :=
  lv_acmp_eq (rx := some x) (ry := some y) hx hb hdg ht (fun h => kt (Option.some.inj h)) (fun h => kf (fun q => h (by rw [q])))
theorem gw_acmp_ne (hx : p.tables.exec = Jvm.exec) (hb : c.code = cc) {x y : Nat} {off : Int} {tgt : Nat} (hdg : decode cc pc = .ok (.if_acmp .ne off, 3)) (ht : (pc : Int) + off = (tgt : Int))
    (kt : ¬ x = y → W p l e R s m args below meth c H locs cells slots Q (F0 m tgt ls rest)) (kf : x = y → W p l e R s m args below meth c H locs cells slots Q (F0 m (pc + 3) ls rest)) : W p l e R s m args below meth c H locs cells slots Q (F0 m pc ls (.ref y :: .ref x :: rest)) :=
  lv_acmp_ne (rx := some x) (ry := some y) hx hb hdg ht (fun h => kt (fun q => h (by rw [q]))) (fun h => kf (Option.some.inj h))
theorem gw_gets (hx : p.tables.exec = Jvm.exec) (hb : c.code = cc) (hT : gT s) {own : String} (hown : s.vm.findClass own = some m.cls) (hZ : gZ A s s.heap g0) (hI : gI D s A w H locs) {index : Nat} (hlink : Cond.fieldLink own index "java/util/ArrayList" "DEFAULTCAPACITY_EMPTY_ELEMENTDATA" "[Ljava/lang/Object;" ∈ gAll) (hdg : decode cc pc = .ok (.getstatic index, 3))
    (kk : W p l e R s m args below meth c H locs cells slots Q (F0 m (pc + 3) ls (.ref g0.1 :: rest))) : W p l e R s m args below meth c H locs cells slots Q (F0 m pc ls rest) :=
  va_gets hx hb hZ.1 hI.2.2.1 hown (hT _ hlink args) (fun _ h => h) hdg kk
theorem gw_cast {ci N : Nat} {C nm : String} {T0 : u_T} {u : Unit} (hx : p.tables.exec = Jvm.exec) (hb : c.code = cc) (hT : gT s) {own : String} (hown : s.vm.findClass own = some m.cls) (hK : gK D s) (hI : gI D s A w H locs) {index : Nat} (hlink : Cond.classLink own index nm ∈ gAll) (hc : gCl[ci]? = some (C, T0, N)) (hca : Cond.castable C nm ∈ gAll) (hv : gck w a ci = some u) (hdg : decode cc pc = .ok (.checkcast index, 3))
    (kk : W p l e R s m args below meth c H locs cells slots Q (F0 m (pc + 3) ls (.ref a :: rest))) : W p l e R s m args below meth c H locs cells slots Q (F0 m pc ls (.ref a :: rest)) :=
  va_castY hx hb hown (hT _ hlink args) (hT _ hca #[]) (hI.recv hK hc hv) hdg kk
/-- a row of objects of any kind -/
def gkd (w : gW) (a k : Nat) : Option Nat := match w.1 a with
  | some (.inl x) => if x.1 = k then some x.2.1 else none
  | _ => none
theorem gkd_some {w : gW} {a k n : Nat} (h : gkd w a k = some n) : ∃ f : Nat → Value, w.1 a = some (.inl (k, n, f)) := by
  unfold gkd at h
  split at h
  · rename_i x hx
    split at h
    · rename_i hk
      subst hk
      cases h
      exact ⟨x.2.2, hx⟩
    · cases h
  · cases h
theorem gw_getC (hx : p.tables.exec = Jvm.exec) (hb : c.code = cc) (hml : c.maxLocals = ls.size) (hT : gT s) {own : String} (hown : s.vm.findClass own = some m.cls) (hK : gK D s) (hZ : gZ A s s.heap g0) (hI : gI D s A w H locs) {index n : Nat} (hv : gkd w a 3 = some n)
    (hlink : Cond.methodLink own index ⟨"java/lang/Object", "getClass", "()Ljava/lang/Class;"⟩ ∈ gAll) (hdecl : Cond.declares ⟨"java/lang/Object", "getClass", "()Ljava/lang/Class;"⟩ ∈ gAll) (hsel : Cond.selects "[Ljava/lang/Object;" ⟨"java/lang/Object", "getClass", "()Ljava/lang/Class;"⟩ ⟨"java/lang/Object", "getClass", "()Ljava/lang/Class;"⟩ ∈ gAll) (hinst : Cond.instanceMethod ⟨"java/lang/Object", "getClass", "()Ljava/lang/Class;"⟩ ∈ gAll) (hnat : Cond.native ⟨"java/lang/Object", "getClass", "()Ljava/lang/Class;"⟩ ∈ gAll)
    (hframes : 1 ≤ R.frames) (hlocals : (rest.map fun v => v.category).sum + 14 ≤ R.locals) (hdg : decode cc pc = .ok (.invokevirtual index, 3))
    (kk : W p l e R s m args below meth c H locs cells slots Q (F0 m (pc + 3) ls (.ref g0.2 :: rest))) : W p l e R s m args below meth c H locs cells slots Q (F0 m pc ls (.ref a :: rest)) := by
  obtain ⟨f, h1⟩ := gkd_some hv
  exact va_getC hx hb hml hown (hT _ hlink args) (hT _ hdecl args) (hT _ hsel args) (hT _ hinst args) (hT _ hnat args) hZ.2.1 ⟨_, (hI.2.1 a _ h1).arr (by decide), rfl, va_nmO (hK.2.1 3 _ rfl).2 rfl⟩ hframes hlocals hdg kk
theorem gw_ldcM (hx : p.tables.exec = Jvm.exec) (hb : c.code = cc) (hT : gT s) {own : String} (hown : s.vm.findClass own = some m.cls) (hZ : gZ A s s.heap g0) {index : Nat} (hlink : Cond.classLink own index "[Ljava/lang/Object;" ∈ gAll) (hdg : decode cc pc = .ok (.ldc index, 2))
    (kk : W p l e R s m args below meth c H locs cells slots Q (F0 m (pc + 2) ls (.ref g0.2 :: rest))) : W p l e R s m args below meth c H locs cells slots Q (F0 m pc ls rest) :=
  va_ldcM hx hb hown (hT _ hlink args) hZ.2.1 hdg kk
end GR2
end
section
/-! ===== System.arraycopy between rows of Objects ===== -/
def gelt (w : gW) (v : Value) : Bool := match v with
  | .null => true
  | .ref y => (match w.1 y with
    | some (.inr o) => gok 3 o.1
    | _ => false)
  | _ => false
theorem gelt_some {w : gW} {v : Value} (h : gelt w v = true) : v = .null ∨ ∃ (y : Nat) (o : Nat × List Value), v = .ref y ∧ w.1 y = some (.inr o) ∧ gok 3 o.1 = true := by
  unfold gelt at h
  split at h
  · exact Or.inl rfl
  · rename_i y
    split at h
    · rename_i o ho
      exact Or.inr ⟨y, o, rfl, ho, h⟩
    · cases h
  · cases h
def gcp (w : gW) (a : Nat) (sp : Int32) (b : Nat) (dp n : Int32) : Option gW := match w.1 a, w.1 b with
  | some (.inl x), some (.inl y) => if x.1 = 3 ∧ y.1 = 3 ∧ ¬ sp < 0 ∧ ¬ dp < 0 ∧ ¬ n < 0 ∧ sp.toNatClampNeg + n.toNatClampNeg ≤ x.2.1 ∧ dp.toNatClampNeg + n.toNatClampNeg ≤ y.2.1 ∧ y.2.1 ≠ 0 ∧ (List.range n.toNatClampNeg).all (fun i => gelt w (x.2.2 (sp.toNatClampNeg + i))) = true then some (gup w b (.inl (3, y.2.1, va_cpy x.2.2 y.2.2 sp.toNatClampNeg dp.toNatClampNeg n.toNatClampNeg))) else none
  | _, _ => none
theorem gcp_some {w w' : gW} {a b : Nat} {sp dp n : Int32} (h : gcp w a sp b dp n = some w') : ∃ (n0 n1 : Nat) (f g : Nat → Value), w.1 a = some (.inl (3, n0, f)) ∧ w.1 b = some (.inl (3, n1, g)) ∧ ¬ sp < 0 ∧ ¬ dp < 0 ∧ ¬ n < 0 ∧ sp.toNatClampNeg + n.toNatClampNeg ≤ n0 ∧ dp.toNatClampNeg + n.toNatClampNeg ≤ n1 ∧ n1 ≠ 0 ∧ (∀ i, i < n.toNatClampNeg → gelt w (f (sp.toNatClampNeg + i)) = true) ∧ w' = gup w b (.inl (3, n1, va_cpy f g sp.toNatClampNeg dp.toNatClampNeg n.toNatClampNeg)) := by
  unfold gcp at h
  split at h
  · rename_i x y hx hy
    split at h
    · rename_i hc
      obtain ⟨h1, h2, h3, h4, h5, h6, h7, h8, h9⟩ := hc
      cases h
      refine ⟨x.2.1, y.2.1, x.2.2, y.2.2, by rw [hx, ← h1], by rw [hy, ← h2], h3, h4, h5, h6, h7, h8, fun i hi => List.all_eq_true.mp h9 i (List.mem_range.mpr hi), rfl⟩
    · cases h
  · cases h
section GR3
variable {p : Program} {l : Launch} {e : Env} {R : Room} {s : State} {m : MethodId} {args : Array Value} {below : List Frame} {meth : Method} {c : Code} {H : Heap} {locs : List Loc} {cells slots : Nat} {Q : State → Prop}
variable {cc : ByteArray} {pc : Nat} {ls : Array Slot} {rest : List Value} {D : gD} {A : Nat → Prop} {a b : Nat} {w : gW} {g0 : gG}
theorem gw_copy (hx : p.tables.exec = Jvm.exec) (hb : c.code = cc) (hml : c.maxLocals = ls.size) (hT : gT s) {own : String} (hown : s.vm.findClass own = some m.cls) (hK : gK D s) (hI : gI D s A w H locs) {index : Nat} {sp dp n : Int32} {w' : gW} (hv : gcp w a sp b dp n = some w')
    (hlink : Cond.methodLink own index arraycopyName ∈ gAll) (hnat : Cond.native arraycopyName ∈ gAll) (hstat : Cond.static arraycopyName ∈ gAll) (hini : Cond.initialized "java/lang/System" ∈ gAll)
    (hframes : 1 ≤ R.frames) (hlocals : (rest.map fun v => v.category).sum + (nativeFrameWords "java/lang/System" "arraycopy" 5 + 11) ≤ R.locals) (hdg : decode cc pc = .ok (.invokestatic index, 3))
    (kk : ∀ (H1 : Heap) (locs1 : List Loc), gI D s A w' H1 locs1 → W p l e R s m args below meth c H1 locs1 cells slots Q (F0 m (pc + 3) ls rest)) : W p l e R s m args below meth c H locs cells slots Q (F0 m pc ls (.int n :: .int dp :: .ref b :: .int sp :: .ref a :: rest)) := by
  obtain ⟨n0, n1, f, g, ha0, ha1, h1, h2, h3, h4, h5, h6, hel, rfl⟩ := gcp_some hv
  have nn : ∀ z : Int32, ¬ z < 0 → z.toInt = (z.toNatClampNeg : Int) := by
    intro z hz
    have hz0 : (0 : Int) ≤ z.toInt := by simpa using Int32.le_iff_toInt_le.mp (Int32.not_lt.mp hz)
    show z.toInt = ((z.toInt.toNat : Nat) : Int)
    omega
  have hc0 : H[a]? = some (arrV (D.2.2 3) n0 f) := (hI.2.1 a _ ha0).arr (by decide)
  have hc1 : H[b]? = some (arrV (D.2.2 3) n1 g) := (hI.2.1 b _ ha1).arr (by decide)
  obtain ⟨kA, comp, r1, r2, r3, -⟩ := (hK.2.1 3 _ rfl).2
  obtain ⟨kE, hkE, -⟩ := Vm.findClass_spec r3
  intro T hT0 X
  obtain ⟨vm', X', step⟩ := X.arraycopy hx hown (hT _ hlink args) (hT _ hnat args) (hT _ hstat args) (hT _ hini args) (src := a) (dst := b) (cs := arrV (D.2.2 3) n0 f) (cd := arrV (D.2.2 3) n1 g) (srcPos := sp) (destPos := dp) (n := n) (by rw [hT0]; exact hc0) (by rw [hT0]; exact hc1)
    (fun _ h => by cases h) (fun _ h => by cases h) (fun h => by cases h) (fun h => by cases h) r1 r1 r2 r2 rfl h1 h2 h3
    (by rw [nn sp h1, nn n h3, arrV_size]; omega) (by rw [nn dp h2, nn n h3, arrV_size]; omega)
    (fun vm₁ hal i hi => by
      have e1 : (arrV (D.2.2 3) n0 f).slots.getD (sp.toNatClampNeg + i) .null = f (sp.toNatClampNeg + i) := by
        rw [Array.getD_eq_getD_getElem?, arrV_read _ _ (by omega)]
        rfl
      rw [e1]
      rcases gelt_some (hel i hi) with hy | ⟨y, o, hy, ho, hok⟩
      · rw [hy]; exact ⟨rfl, trivial⟩
      · rw [hy]
        obtain ⟨C, r, hk, hc, hca⟩ := gok_some hok
        cases hk
        obtain ⟨r', hr', cellV, g1, g2, g3, -⟩ := hI.2.1 y _ ho
        have hcls := (hK.1 o.1 r hc).2
        obtain ⟨c0, t1, f1, f2, f3⟩ := Cond.castable_spec (hT _ hca args)
        cases hcls.1.symm.trans f1
        cases r3.symm.trans f2
        obtain ⟨kC, hkC, -⟩ := hcls.2
        obtain ⟨kC', hkC', -⟩ := hal.2.2 _ _ hkC
        obtain ⟨kE', hkE', -⟩ := hal.2.2 _ _ hkE
        refine ⟨rfl, cellV, (show T.heap[y]? = some cellV by rw [hT0]; exact g1), (fun q h => by rw [h] at g3; cases g3), ⟨kC', by rw [g2]; exact hkC'⟩, ⟨kE', hkE'⟩, ?_⟩
        show vm₁.assignable _ _ = true
        rw [hal.assignable, g2]
        exact f3)
    (g := F0 m pc ls (.int n :: .int dp :: .ref b :: .int sp :: .ref a :: rest)) rfl (by rw [hml]) (rest := rest) rfl (by rw [hb]; exact hdg) hframes (by show 2 * 0 + _ + _ ≤ _; omega)
  have e1 : copied (arrV (D.2.2 3) n0 f) (arrV (D.2.2 3) n1 g) sp dp n = arrV (D.2.2 3) n1 (va_cpy f g sp.toNatClampNeg dp.toNatClampNeg n.toNatClampNeg) := va_copied (fun z => z) (D.2.2 3) (D.2.2 3) f g h4
  rw [e1] at X' step
  have hl : b < H.size := (Array.getElem?_eq_some_iff.mp hc1).1
  have hheap : ((T.setVm vm').setCell b (arrV (D.2.2 3) n1 (va_cpy f g sp.toNatClampNeg dp.toNatClampNeg n.toNatClampNeg))).heap = H.setIfInBounds b (arrV (D.2.2 3) n1 (va_cpy f g sp.toNatClampNeg dp.toNatClampNeg n.toNatClampNeg)) := by rw [← hT0]; rfl
  have oq : ∀ q : Nat, q ≠ b → (H.setIfInBounds b (arrV (D.2.2 3) n1 (va_cpy f g sp.toNatClampNeg dp.toNatClampNeg n.toNatClampNeg)))[q]? = H[q]? := fun q hq => by simp [Array.getElem?_setIfInBounds, Ne.symm hq]
  have hA1 : A b := hI.2.2.2 b _ ha1 ⟨(show (3 : Nat) < 4 by decide), h6⟩
  have hI1 := hI.put (k := 0) ha1 (show gRW (.inl (3, n1, g)) from ⟨(show (3 : Nat) < 4 by decide), h6⟩) (e := .inl (3, n1, va_cpy f g sp.toNatClampNeg dp.toNatClampNeg n.toNatClampNeg)) (H1 := H.setIfInBounds b (arrV (D.2.2 3) n1 (va_cpy f g sp.toNatClampNeg dp.toNatClampNeg n.toNatClampNeg))) (by simp) oq (gAt.mk (by decide) (show (H.setIfInBounds b _)[b]? = some _ by simp [Array.getElem?_setIfInBounds, hl]))
  obtain ⟨q1, q2, ⟨q3, q4, -⟩, q5⟩ := hI1
  obtain ⟨t, a1, b1⟩ := kk _ _ ⟨q1, q2, ⟨q3, q4, fun z hz => by
      rcases List.mem_append.mp hz with h | h
      · exact hI.2.2.1.2.2 z h
      · obtain ⟨y, -, hy⟩ := List.mem_map.mp h
        rw [← hy]
        exact hA1⟩, q5⟩ _ hheap X'
  exact ⟨t, step t a1, b1⟩
end GR3
end
section
/-! ===== a throw of a new exception with a text: the heap grows by just one cell ===== -/
section GT
variable {p : Program} {l : Launch} {e : Env} {R : Room} {s : State} {m : MethodId} {args : Array Value} {below : List Frame} {meth : Method} {c : Code} {H : Heap} {locs : List Loc} {cells slots : Nat} {Q : State → Prop}
variable {cc : ByteArray} {pc nL : Nat} {ls : Array Slot} {rest : List Value} {D : gD} {A : Nat → Prop} {w : gW} {g0 : gG} {T : State}
/-- the same frame, its invocation told anew from the heap as it stands -/
theorem gw_anew0 (X : Stand p l e R s m args below meth c T locs cells slots) {R' : Room} (hf : R'.frames ≤ R.frames) (hl : R'.locals ≤ R.locals) (hc : cells + R'.cells ≤ R.cells) (hs : slots + R'.slots ≤ R.slots) : Stand p l e R' ((T.setVm s.vm).setFrames (.invoking m args :: below)) m args below meth c T [] 0 0 := by
  have htop : (T.setVm s.vm).topJava?.isSome := X.here.top
  have hF : ((T.setVm s.vm).setFrames (.invoking m args :: below)).frames = .invoking m args :: below := State.frames_setFrames _ (State.cur_lt_of_top htop)
  obtain ⟨gt, hgt⟩ := Option.isSome_iff_exists.mp htop
  obtain ⟨r, hr⟩ := State.topJava?_eq_some.mp hgt
  have hlim : e.platform.stackLimits (T.setVm s.vm).me = e.platform.stackLimits s.me := X.limits
  have hbyt : (T.setVm s.vm).me.stackBytes = s.me.stackBytes := X.bytes
  have hloc : ((T.setVm s.vm).setFrames (.invoking m args :: below)).localsInUse = s.localsInUse := by
    rw [State.localsInUse_invoking hF (meth := meth) (c := c) X.method X.code, State.localsInUse_invoking X.frames X.method X.code]
  have hdrop : T.heap.toList.drop T.heap.size = [] := List.drop_eq_nil_of_le (Nat.le_of_eq Array.length_toList)
  have hroom : ((T.setVm s.vm).setFrames (.invoking m args :: below)).hasRoom e.platform R' = true := by
    have h := X.room
    have q1 := X.heapSize
    have q2 := X.used
    simp only [State.hasRoom, Bool.and_eq_true, decide_eq_true_eq] at h ⊢
    obtain ⟨⟨⟨⟨h1, h2, h3, h4, h5, h6⟩, h7⟩, h8⟩, h9⟩ := h
    rw [X.frames, List.length_cons] at h2 h3
    simp only [hF, hloc, List.length_cons, State.stackLimits_setFrames, State.stackBytes_setFrames, hlim, hbyt]
    refine ⟨⟨⟨⟨by omega, by omega, by omega, by omega, by omega, h6⟩, ?_⟩, ?_⟩, X.book⟩
    · show T.heap.size + R'.cells ≤ e.platform.maxCells
      omega
    · show T.slotsUsed + R'.slots ≤ e.platform.maxSlots
      omega
  have hsame : ((T.setVm s.vm).setFrames (.invoking m args :: below)).sameButNew (T.setVm s.vm) [] 0 0 := by
    refine ⟨?_, Nat.le_refl _, Nat.le_refl _, ?_, ?_, fun a z hz => ⟨z, hz, rfl, rfl, fun _ _ => rfl⟩⟩
    · obtain ⟨t, ht, -⟩ := State.frames_cons hr
      show T.setVm s.vm = { ((T.setVm s.vm).setFrames (.invoking m args :: below)).setFrames (T.setVm s.vm).frames with heap := T.heap, slotsUsed := T.slotsUsed }
      rw [State.setFrames_setFrames, State.setFrames_self ht]
      rfl
    · show T.slotsUsed = T.slotsUsed + ((T.heap.toList.drop T.heap.size).map (·.slots.size)).sum
      rw [hdrop]
      rfl
    · show ((T.heap.toList.drop T.heap.size).map (·.slots.size)).sum ≤ 0
      rw [hdrop]
      exact Nat.le_refl _
  exact ⟨X.admits, X.cas, X.clock, hF, hroom, X.hears, X.method, X.code, X.here, X.tail, X.warmed, by rw [State.stackLimits_setFrames]; rfl, by rw [State.stackBytes_setFrames]; rfl, hsame⟩
/-- what a body owes where it has thrown -/
abbrev gTh (s : State) (below : List Frame) (rm : Room) (Q : State → Prop) (D : gD) (A : Nat → Prop) {α : Type} (r : (String ⊕ α) × gW) : Prop :=
  ∀ (E : String) (w1 : gW), r = (.inl E, w1) → ∀ (t : State) (q : Addr) (ce : Cell) (L : List Loc), t.status = .running → Ended t below (.threw q) → s.WarmedH t.vm → s.sameButNew ({ t with vm := s.vm } : State) L rm.cells rm.slots → gI D s A w1 t.heap L → t.heap[q]? = some ce → ce.vm = .none → s.vm.findClass E = some ce.cls → Q t
theorem gw_thr {α : Type} {rm : Room} {w0 : gW} {r : (String ⊕ α) × gW} {o : (String ⊕ Option Value) × gW} (ho : ∀ (E : String) (w1 : gW), r = (.inl E, w1) → o = (.inl E, w1)) : gTh s below rm (gMQ below D w0 o rm.cells rm.slots args s) D (gA w0) r := by
  intro E w1 h t q ce L h1 h2 h3 h4 h5 h6 h7 h8
  rw [ho E w1 h]
  obtain ⟨g1, g2, g3, g4⟩ := h5
  exact ⟨.threw q, h1, h2, ⟨g1, g2, g4, ⟨g3.1, g3.2.1⟩⟩, h3, ⟨L, h4, g3.2.2⟩, q, ce, rfl, h6, h7, h8⟩
def gno (z : Cond) : Bool := decide (z ≠ .isRef (.static Bundle.tN "UNASSIGNED_STACK" Bundle.steD)) && decide (z ≠ .isRef (.static Bundle.tN "SUPPRESSED_SENTINEL" Bundle.listD)) && decide (z ≠ .laysStatic Bundle.tN "UNASSIGNED_STACK" Bundle.steD) && decide (z ≠ .laysStatic Bundle.tN "SUPPRESSED_SENTINEL" Bundle.listD)
theorem gw_throwS {β : Type} {r : (String ⊕ β) × gW} (hx : p.tables.exec = Jvm.exec) (hb : c.code = cc) (hst : l.stackTraces = false) {own cls text : String} {names : List String} {ik is ic : Nat} (hown : s.vm.findClass own = some m.cls) (hT : gT s) (hZ : gZ A s s.heap g0) (hI : gI D s A w H locs) (hsz : ls.size = nL) (hml : c.maxLocals = nL) (hnt : ∀ x ∈ c.exceptionTable.toList, False) (hlocks : meth.locks = false)
    (hcls : Bundle.fit cls = true) (hnames : ∀ n ∈ names, Bundle.fit n = true) (hk : Cond.classLink own ik cls ∈ gAll) (hini : Cond.initialized cls ∈ gAll) (htx : (own, is, text) ∈ gTx) (hat : ∀ z ∈ Bundle.ownAtoms own ic cls names, gno z = true → z ∈ gAll)
    (d0 : decode cc pc = .ok (.new ik, 3)) (d3 : decode cc (pc + 3) = .ok (.dup, 1)) (d4 : decode cc (pc + 4) = .ok (.ldc is, 2)) (d6 : decode cc (pc + 6) = .ok (.invokespecial ic, 3)) (d9 : decode cc (pc + 9) = .ok (.athrow, 1))
    (hRf : names.length + 3 < R.frames) (hRl : (rest.map fun v => v.category).sum + (13 * (names.length + 1) + 43) ≤ R.locals) (hRc : cells + 1 ≤ R.cells) (hRs : slots + 6 ≤ R.slots) (hthr : gTh s below R Q D A r) (h : (gthrow cls w : gX β) = some r) :
    W p l e R s m args below meth c H locs cells slots Q (F0 m pc ls rest) := by
  intro T hT0 X
  have htr : e.platform.stackTraces = false := (show e.platform.stackTraces = l.stackTraces by rw [X.admits.platform]).trans hst
  have Y := gw_anew0 X (R' := { frames := R.frames, locals := R.locals, cells := 1, slots := 6 }) (Nat.le_refl _) (Nat.le_refl _) hRc hRs
  obtain ⟨s', hs'⟩ : ∃ z, z = (T.setVm s.vm).setFrames (.invoking m args :: below) := ⟨_, rfl⟩
  rw [← hs'] at Y
  have hvm : s'.vm = s.vm := by rw [hs']; rfl
  have hhp : s'.heap = H := by rw [hs']; exact hT0
  have hW0 : s.WarmedH s'.vm := by rw [hvm]; exact State.WarmedH.refl s
  have hT' : gT s' := gT.warm hW0 hT
  have hZ' : gZ A s' s'.heap g0 := by rw [hhp]; exact gZ.warm hW0 (gZ.kept hZ hI.2.2.1.2.1)
  have hatoms : ∀ z ∈ Bundle.ownAtoms own ic cls names, z.before args s' = true := by
    intro z hz
    by_cases e1 : z = .isRef (.static Bundle.tN "UNASSIGNED_STACK" Bundle.steD)
    · rw [e1]; exact hZ'.2.2.1.isRef
    · by_cases e2 : z = .isRef (.static Bundle.tN "SUPPRESSED_SENTINEL" Bundle.listD)
      · rw [e2]; exact hZ'.2.2.2.1.isRef
      · by_cases e3 : z = .laysStatic Bundle.tN "UNASSIGNED_STACK" Bundle.steD
        · rw [e3]; exact hZ'.2.2.1.lays
        · by_cases e4 : z = .laysStatic Bundle.tN "SUPPRESSED_SENTINEL" Bundle.listD
          · rw [e4]; exact hZ'.2.2.2.1.lays
          · exact hT' z (hat z hz (by unfold gno; rw [decide_eq_true e1, decide_eq_true e2, decide_eq_true e3, decide_eq_true e4]; rfl)) args
  have hown' : s'.vm.findClass own = some m.cls := by rw [hvm]; exact hown
  obtain ⟨sa, hsa⟩ := hZ'.2.2.2.2.1 _ htx
  obtain ⟨vm₁, cX, kX, hfX, hkX, -, -, X₁, st1⟩ := Y.newCold hx (own := own) (C := cls) (index := ik) (n := 6) hown' (hT' _ hk args) (hatoms _ (by simp [Bundle.ownAtoms])) (hT' _ hini args) (g := F0 m pc ls rest) rfl (by rw [hb]; exact d0) (Nat.le_refl _) (Nat.le_refl _)
  generalize hT1 : (T.setVm vm₁).pushCell { cls := cX, slots := kX.instanceTypes.map defaultValue, vm := .none } = T1 at X₁ st1
  have hcat : (Value.ref T.heap.size).category = 1 := rfl
  have hcellA : T1.heap[T.heap.size]? = some (freshCell cX kX) := by rw [← hT1]; exact State.heap_pushCell_size _ _
  have d3' : decode c.code (pc + 3) = .ok (.dup, 1) := by rw [hb]; exact d3
  have d4' : decode c.code (pc + 4) = .ok (.ldc is, 2) := by rw [hb]; exact d4
  obtain ⟨U, hsteps, hrun, hend, hW, hsame, ce, hce, hO⟩ := X₁.ctorThrowS hx htr (own := own) (cls := cls) (names := names) (ic := ic) hown' hcls hnames hatoms (fun x hx => nomatch hx) hfX hkX hcellA (by rw [hhp, hT0]; exact Nat.le_refl _) (msg := .ref sa) rfl
    (g := { method := m, pc := pc + 6, locals := ls, stack := .ref sa :: .ref T.heap.size :: .ref T.heap.size :: rest, locked := none }) rfl (hsz.trans hml.symm) rfl rfl (rest := rest) rfl
    (by rw [hb]; exact d6) (by rw [hb]; exact d9) (fun x hx => (hnt x hx).elim) hRf (by simp only [List.map_cons, List.sum_cons, hcat]; omega) hlocks
  have hWs : s.WarmedH U.vm := State.WarmedH.trans hW0 hW
  have hsize1 : U.heap.size = H.size + 1 := by
    have q1 : U.heap.size ≤ s'.heap.size + (0 + 1) := hsame.2.2.1
    have q2 : T.heap.size < U.heap.size := (Array.getElem?_eq_some_iff.mp hce).1
    rw [hhp] at q1
    rw [hT0] at q2
    omega
  have hold : ∀ q : Nat, q < H.size → U.heap[q]? = H[q]? := by
    intro q hq
    have hq' : q < s'.heap.size := by rw [hhp]; exact hq
    obtain ⟨c9, e1, e2, e3, e4⟩ := hsame.2.2.2.2.2 q _ (Array.getElem?_eq_getElem hq')
    have hslots : c9.slots = (s'.heap[q]).slots := Array.ext_getElem? fun i => e4 i (fun hm => nomatch hm)
    have h9 : c9 = s'.heap[q] := by rw [hslots] at e2; exact e2
    have e5 : U.heap[q]? = some c9 := e1
    rw [e5, h9, ← Array.getElem?_eq_getElem hq', hhp]
  have hcl : s.vm.findClass cls = some ce.cls := by
    have h9 := hO.cls
    rw [hvm] at h9
    exact h9
  have hall : s.sameButNew ({ U with vm := s.vm } : State) locs R.cells R.slots := by
    subst hs'
    obtain ⟨e1, e2⟩ := hsame
    rw [State.setFrames_setFrames] at e1
    have h2 : (T.setVm s.vm).sameButNew ({ U with vm := s.vm } : State) [] (0 + 1) (0 + 6) := ⟨e1, e2⟩
    have h3 := X.same.trans h2
    rw [List.append_nil] at h3
    exact h3.mono hRc hRs
  obtain ⟨g1, g2, g3, g4⟩ := hI
  have hI' : gI D s A (w.1, w.2 + 1) U.heap locs := ⟨by rw [hsize1, g1], fun a x hx => (g2 a x hx).kept (hold a (g2 a x hx).lt), ⟨by rw [hsize1]; exact Nat.le_trans g3.1 (Nat.le_succ _), fun q q1 q2 => (hold q (Nat.lt_of_lt_of_le q1 g3.1)).trans (g3.2.1 q q1 q2), g3.2.2⟩, g4⟩
  refine ⟨U, ?_, hthr cls (w.1, w.2 + 1) (Option.some.inj h).symm U T.heap.size ce locs hrun hend hWs hall hI' hce hO.vm hcl⟩
  refine st1 _ ?_
  show Steps p.tables e below (T1.setTop { method := m, pc := pc + 3, locals := ls, stack := .ref T.heap.size :: rest, locked := none }) _
  jvm_step X₁.here [X₁.here.top, hx, d3', Value.category]
  exact X₁.ldcString hx (own := own) (text := text) (index := is) (a := sa) hown' hsa.1 hsa.2
    (g := { method := m, pc := pc + 4, locals := ls, stack := .ref T.heap.size :: .ref T.heap.size :: rest, locked := none }) rfl d4' _ hsteps
end GT
end
section
theorem gw_ofI {l : Launch} {y : MethodName} {cc : ByteArray} {maxL : Nat} {rm : Room} {D : gD} {g0 : gG} {av : List Value} {w : gW} {r : (String ⊕ Int32) × gW} (hy : plainFor y = true) (hlen : (lg_sl av).length ≤ maxL) 
    (body : ∀ (p : Program) (e : Env) (s : State) (m : MethodId) (below : List Frame) (meth : Method) (c : Code) (ls : Array Slot) (args : Array Value) (A : Nat → Prop) (Q : State → Prop), p.tables.exec = Jvm.exec → c.code = cc → c.maxLocals = maxL → s.vm.findClass y.cls = some m.cls → meth.locks = false → meth.name = y.name → (∀ x ∈ c.exceptionTable.toList, False) → gT s → gK D s → gZ A s s.heap g0 → (∀ q : Nat, s.heap.size ≤ q → A q) → (∀ (v : Int32) (w1 : gW), r = (.inr v, w1) → ∀ (pc : Nat) (ls : Array Slot) (H : Heap) (locs : List Loc), decode cc pc = .ok (.ireturn, 1) → gI D s A w1 H locs → W p l e rm s m args below meth c H locs rm.cells rm.slots Q (F0 m pc ls [.int v])) → gEx p l e rm s m args below meth c Q D A r → gTh s below rm Q D A r → gI D s A w s.heap [] → lv_has ls maxL (lv_args 0 av) →
      W p l e rm s m args below meth c s.heap [] 0 0 Q (F0 m 0 ls [])) : gMet l y (.code y cc maxL (some .int)) rm D g0 av w (goI r) := by
  refine gw_of hy hlen ?_
  intro p e s m below meth c ls h1 h2 h3 h4 h5 h6 h7 h8 h9 h10 h11 h12 h13 h14
  exact body p e s m below meth c ls _ _ _ h1 h2 h4 h5 h6 h7 h8 h9 h10 h11 h12 (gw_retI h1 h2 h3 h6 r) (gw_exc (fun E w1 h => by rw [h]; rfl) h8 h6) (gw_thr (fun E w1 h => by rw [h]; rfl)) h13 h14
theorem gw_ofZ {l : Launch} {y : MethodName} {cc : ByteArray} {maxL : Nat} {rm : Room} {D : gD} {g0 : gG} {av : List Value} {w : gW} {r : (String ⊕ Int32) × gW} (hy : plainFor y = true) (hlen : (lg_sl av).length ≤ maxL) 
    (body : ∀ (p : Program) (e : Env) (s : State) (m : MethodId) (below : List Frame) (meth : Method) (c : Code) (ls : Array Slot) (args : Array Value) (A : Nat → Prop) (Q : State → Prop), p.tables.exec = Jvm.exec → c.code = cc → c.maxLocals = maxL → s.vm.findClass y.cls = some m.cls → meth.locks = false → meth.name = y.name → (∀ x ∈ c.exceptionTable.toList, False) → gT s → gK D s → gZ A s s.heap g0 → (∀ q : Nat, s.heap.size ≤ q → A q) → (∀ {v : Int32}, (v = 0 ∨ v = 1) → ∀ (v' : Int32) (w1 : gW), r = (.inr v, w1) → ∀ (pc : Nat) (ls : Array Slot) (H : Heap) (locs : List Loc), decode cc pc = .ok (.ireturn, 1) → gI D s A w1 H locs → W p l e rm s m args below meth c H locs rm.cells rm.slots Q (F0 m pc ls [.int v])) → gEx p l e rm s m args below meth c Q D A r → gTh s below rm Q D A r → gI D s A w s.heap [] → lv_has ls maxL (lv_args 0 av) →
      W p l e rm s m args below meth c s.heap [] 0 0 Q (F0 m 0 ls [])) : gMet l y (.code y cc maxL (some .boolean)) rm D g0 av w (goI r) := by
  refine gw_of hy hlen ?_
  intro p e s m below meth c ls h1 h2 h3 h4 h5 h6 h7 h8 h9 h10 h11 h12 h13 h14
  exact body p e s m below meth c ls _ _ _ h1 h2 h4 h5 h6 h7 h8 h9 h10 h11 h12 (gw_retZ h1 h2 h3 h6 r) (gw_exc (fun E w1 h => by rw [h]; rfl) h8 h6) (gw_thr (fun E w1 h => by rw [h]; rfl)) h13 h14
theorem gw_ofJ {l : Launch} {y : MethodName} {cc : ByteArray} {maxL : Nat} {rm : Room} {D : gD} {g0 : gG} {av : List Value} {w : gW} {r : (String ⊕ Int64) × gW} (hy : plainFor y = true) (hlen : (lg_sl av).length ≤ maxL) 
    (body : ∀ (p : Program) (e : Env) (s : State) (m : MethodId) (below : List Frame) (meth : Method) (c : Code) (ls : Array Slot) (args : Array Value) (A : Nat → Prop) (Q : State → Prop), p.tables.exec = Jvm.exec → c.code = cc → c.maxLocals = maxL → s.vm.findClass y.cls = some m.cls → meth.locks = false → meth.name = y.name → (∀ x ∈ c.exceptionTable.toList, False) → gT s → gK D s → gZ A s s.heap g0 → (∀ q : Nat, s.heap.size ≤ q → A q) → (∀ (v : Int64) (w1 : gW), r = (.inr v, w1) → ∀ (pc : Nat) (ls : Array Slot) (H : Heap) (locs : List Loc), decode cc pc = .ok (.lreturn, 1) → gI D s A w1 H locs → W p l e rm s m args below meth c H locs rm.cells rm.slots Q (F0 m pc ls [.long v])) → gEx p l e rm s m args below meth c Q D A r → gTh s below rm Q D A r → gI D s A w s.heap [] → lv_has ls maxL (lv_args 0 av) →
      W p l e rm s m args below meth c s.heap [] 0 0 Q (F0 m 0 ls [])) : gMet l y (.code y cc maxL (some .long)) rm D g0 av w (goJ r) := by
  refine gw_of hy hlen ?_
  intro p e s m below meth c ls h1 h2 h3 h4 h5 h6 h7 h8 h9 h10 h11 h12 h13 h14
  exact body p e s m below meth c ls _ _ _ h1 h2 h4 h5 h6 h7 h8 h9 h10 h11 h12 (gw_retJ h1 h2 h3 h6 r) (gw_exc (fun E w1 h => by rw [h]; rfl) h8 h6) (gw_thr (fun E w1 h => by rw [h]; rfl)) h13 h14
theorem gw_ofV {l : Launch} {y : MethodName} {cc : ByteArray} {maxL : Nat} {rm : Room} {D : gD} {g0 : gG} {av : List Value} {w : gW} {r : (String ⊕ Unit) × gW} (hy : plainFor y = true) (hlen : (lg_sl av).length ≤ maxL) 
    (body : ∀ (p : Program) (e : Env) (s : State) (m : MethodId) (below : List Frame) (meth : Method) (c : Code) (ls : Array Slot) (args : Array Value) (A : Nat → Prop) (Q : State → Prop), p.tables.exec = Jvm.exec → c.code = cc → c.maxLocals = maxL → s.vm.findClass y.cls = some m.cls → meth.locks = false → meth.name = y.name → (∀ x ∈ c.exceptionTable.toList, False) → gT s → gK D s → gZ A s s.heap g0 → (∀ q : Nat, s.heap.size ≤ q → A q) → (∀ (v : Unit) (w1 : gW), r = (.inr v, w1) → ∀ (pc : Nat) (ls : Array Slot) (H : Heap) (locs : List Loc), decode cc pc = .ok (.return_, 1) → gI D s A w1 H locs → W p l e rm s m args below meth c H locs rm.cells rm.slots Q (F0 m pc ls [])) → gEx p l e rm s m args below meth c Q D A r → gTh s below rm Q D A r → gI D s A w s.heap [] → lv_has ls maxL (lv_args 0 av) →
      W p l e rm s m args below meth c s.heap [] 0 0 Q (F0 m 0 ls [])) : gMet l y (.code y cc maxL none) rm D g0 av w (goV r) := by
  refine gw_of hy hlen ?_
  intro p e s m below meth c ls h1 h2 h3 h4 h5 h6 h7 h8 h9 h10 h11 h12 h13 h14
  exact body p e s m below meth c ls _ _ _ h1 h2 h4 h5 h6 h7 h8 h9 h10 h11 h12 (gw_retV h1 h2 h3 h6 r) (gw_exc (fun E w1 h => by rw [h]; rfl) h8 h6) (gw_thr (fun E w1 h => by rw [h]; rfl)) h13 h14
theorem gw_ofA {l : Launch} {y : MethodName} {cc : ByteArray} {maxL : Nat} {rt : FieldType} {rm : Room} {D : gD} {g0 : gG} {av : List Value} {w : gW} {r : (String ⊕ Nat) × gW} (hy : plainFor y = true) (hlen : (lg_sl av).length ≤ maxL) (hrt : (∃ n, rt = .object n) ∨ ∃ t, rt = .array t)
    (body : ∀ (p : Program) (e : Env) (s : State) (m : MethodId) (below : List Frame) (meth : Method) (c : Code) (ls : Array Slot) (args : Array Value) (A : Nat → Prop) (Q : State → Prop), p.tables.exec = Jvm.exec → c.code = cc → c.maxLocals = maxL → s.vm.findClass y.cls = some m.cls → meth.locks = false → meth.name = y.name → (∀ x ∈ c.exceptionTable.toList, False) → gT s → gK D s → gZ A s s.heap g0 → (∀ q : Nat, s.heap.size ≤ q → A q) → (∀ (v : Nat) (w1 : gW), r = (.inr v, w1) → ∀ (pc : Nat) (ls : Array Slot) (H : Heap) (locs : List Loc), decode cc pc = .ok (.areturn, 1) → gI D s A w1 H locs → W p l e rm s m args below meth c H locs rm.cells rm.slots Q (F0 m pc ls [.ref v])) → gEx p l e rm s m args below meth c Q D A r → gTh s below rm Q D A r → gI D s A w s.heap [] → lv_has ls maxL (lv_args 0 av) →
      W p l e rm s m args below meth c s.heap [] 0 0 Q (F0 m 0 ls [])) : gMet l y (.code y cc maxL (some rt)) rm D g0 av w (goA r) := by
  refine gw_of hy hlen ?_
  intro p e s m below meth c ls h1 h2 h3 h4 h5 h6 h7 h8 h9 h10 h11 h12 h13 h14
  exact body p e s m below meth c ls _ _ _ h1 h2 h4 h5 h6 h7 h8 h9 h10 h11 h12 (gw_retA h1 h2 h3 hrt h6 r) (gw_exc (fun E w1 h => by rw [h]; rfl) h8 h6) (gw_thr (fun E w1 h => by rw [h]; rfl)) h13 h14
theorem gat {L : List Cond} (h : ∀ z ∈ L, gno z = true → z ∈ lw_tbl ∧ gNest z = true) : ∀ z ∈ L, gno z = true → z ∈ gAll := fun z hz hg => List.mem_filter.mpr (h z hz hg)
theorem at_IAE : ∀ z ∈ Bundle.ownAtoms "BodySolids" 256 "java/lang/IllegalArgumentException" ["java/lang/RuntimeException", "java/lang/Exception"], gno z = true → z ∈ gAll := gat (by decide +kernel)
theorem at_ISE : ∀ z ∈ Bundle.ownAtoms "BodySolids" 224 "java/lang/IllegalStateException" ["java/lang/RuntimeException", "java/lang/Exception"], gno z = true → z ∈ gAll := gat (by decide +kernel)
theorem at_IOB : ∀ z ∈ Bundle.ownAtoms "BodySolids" 251 "java/lang/IndexOutOfBoundsException" ["java/lang/RuntimeException", "java/lang/Exception"], gno z = true → z ∈ gAll := gat (by decide +kernel)
end
section
/-! ===== a method with handlers: what its callee throws is caught ===== -/
def gtry {α β : Type} (x : gX α) (C : String → gW → gX β) (k : α → gW → gX β) : gX β := match x with
  | none => none
  | some (.inl E, w) => C E w
  | some (.inr v, w) => k v w
theorem gsomeT {α β : Type} {x : gX α} {C : String → gW → gX β} {k : α → gW → gX β} {r : (String ⊕ β) × gW} (h : gtry x C k = some r) : ∃ o, x = some o := by
  cases x with
  | none => cases h
  | some o => exact ⟨o, rfl⟩
theorem gcs {β : Type} {E n : String} {x y : Option β} {r : β} (h : (if E = n then x else y) = some r) : (E = n ∧ x = some r) ∨ (E ≠ n ∧ y = some r) := by
  split at h
  · rename_i hc
    exact Or.inl ⟨hc, h⟩
  · rename_i hc
    exact Or.inr ⟨hc, h⟩
section GCa
variable {e : Env} {f : JFrame} {a : Addr}
/-- one row of the table is looked at: its class is linked, cold or warm; it takes the object, or the search goes on -/
theorem gca_row {s0 S : State} {x : ExceptionTableEntry} {t : List ExceptionTableEntry} {cl : ClassId} {cell : Cell} (hW : s0.WarmedH S.vm) (hx : covers x f.pc = true) (h0 : x.catchType ≠ 0) (hl : s0.vm.ClassLinks e.platform f.method.cls x.catchType cl) (hcell : S.heap[a]? = some cell) (hobj : ∀ k, cell.vm ≠ .statics k) (hk0 : ∃ k, s0.vm.classes[cell.cls]? = some k) :
    ∃ vm', s0.WarmedH vm' ∧ ∀ (Q : Handler → Pre) (E : CtlPost) (d : Bool) (acts : List Action), wp (findHandler.go f a (x :: t)) Q E e d acts S ↔ if s0.vm.assignable cell.cls cl = true then Q (.found x.handlerPc) d acts (S.setVm vm') else wp (findHandler.go f a t) Q E e d acts (S.setVm vm') := by
  obtain ⟨ha, ht⟩ := (resolveClass_links e.toSetting (hW.classLinks hl)).op (op := VmOp.resolveClass f.method.cls x.catchType) rfl
  obtain ⟨dk, _, _, kt, hd, _, _, _, _, hkt, _, hopen⟩ := hl.here
  have hW' := hW.noted hd hopen (State.rightAt_cls hl)
  obtain ⟨k0, hk0⟩ := hk0
  obtain ⟨k1, hk1, -⟩ := hW'.alike.2.2 _ _ hk0
  obtain ⟨k2, hk2, -⟩ := hW'.alike.2.2 _ _ hkt
  have has := hW'.alike.assignable cell.cls cl
  refine ⟨_, hW', fun Q E d acts => ?_⟩
  simp only [covers] at hx
  cases hfit : s0.vm.assignable cell.cls cl <;> rw [hfit] at has <;> simp [findHandler.go, hx, h0, ha, ht, hcell, hobj, hk1, hk2, has, VmOp.dirties, VmOp.acts]
/-- the step into the handler, the tables warmer -/
theorem gca_step {tb : Tables} {s target : State} {g : JFrame} {c : Code} {below : List Frame} {pc : Nat} {vm' : Vm} (h : At s g.method c below)
    (hf : ∀ (Q : Handler → Pre) (E : CtlPost) (d : Bool) (acts : List Action), wp (findHandler g a) Q E e d acts ((s.setTop g).pushFrame (.throwing a)) ↔ Q (.found pc) d acts (((s.setTop g).pushFrame (.throwing a)).setVm vm'))
    (hrest : Steps tb e below ((s.setVm vm').setTop { g with pc := pc, stack := [.ref a] }) target) : Steps tb e below ((s.setTop g).pushFrame (.throwing a)) target := by
  obtain ⟨hgo, hw⟩ := h.throwing a
  have key : ∀ r, (stepThrowing e ((s.setTop g).pushFrame (.throwing a)) a (.java g :: r)).Is ((((s.setTop g).pushFrame (.throwing a)).setVm vm').setFrames (.java { g with pc := pc, stack := [.ref a] } :: r)) [] := by
    intro r
    simp only [stepThrowing, searchFrame, vmDo]
    generalize hr : Sem.go _ e false [] _ = res
    obtain ⟨as, rfl, ha⟩ := Sem.eq_ok_of hr (a := Handler.found pc) (s' := ((s.setTop g).pushFrame (.throwing a)).setVm vm') (acts' := []) (by simp [hf _ _ _ _])
    exact ⟨rfl, ha⟩
  refine Steps.head hgo hw ?_
  rw [stepThread_throwing (frames_entered h.top _), (key _).1]
  obtain ⟨g0, hg⟩ := Option.isSome_iff_exists.mp h.top
  obtain ⟨r, hr⟩ := State.topJava?_eq_some.mp hg
  have hr' : (s.setVm vm').frames = .java g0 :: r := hr
  rw [State.setTop_of_frames _ hr'] at hrest
  have e1 : ∀ (u : State) (F G : List Frame), ((u.setFrames F).setVm vm').setFrames G = (u.setVm vm').setFrames G := by
    intro u F G
    rw [show (u.setFrames F).setVm vm' = (u.setVm vm').setFrames F from rfl, State.setFrames_setFrames]
  rw [hr, List.tail_cons, State.pushFrame, e1, State.setTop_of_frames _ hr, e1]
  exact hrest
end GCa
theorem gself (vm : Vm) (c : ClassId) : vm.assignable c c = true := by
  have h : ∀ n : Nat, vm.assignableAux (n + 1) c c = true := fun n => by
    rw [Vm.assignableAux, beq_self_eq_true, Bool.true_or]
  exact h 255
section GCb
variable {p : Program} {l : Launch} {e : Env} {R : Room} {s : State} {m : MethodId} {args : Array Value} {below : List Frame} {meth : Method} {c : Code} {H : Heap} {locs : List Loc} {cells slots : Nat} {Q : State → Prop}
variable {cc : ByteArray} {pc nL : Nat} {ls : Array Slot} {rest st0 : List Value} {D : gD} {A : Nat → Prop} {w : gW} {g0 : gG} {rm : Room}
/-- the first row takes it -/
theorem gw_catch1 {own E : String} {a1 b1 h1 t1 : Nat} {hh : List (Nat × Nat × Nat × Nat)} {q : Addr} {ce : Cell} (hown : s.vm.findClass own = some m.cls) (hT : gT s) (htab : c.exceptionTable.toList.map (fun h => (h.startPc, h.endPc, h.handlerPc, h.catchType)) = (a1, b1, h1, t1) :: hh) (hl : Cond.classLink own t1 E ∈ gAll) (h0 : t1 ≠ 0) (hc1 : a1 ≤ pc ∧ pc < b1)
    (hq : H[q]? = some ce) (hv : ce.vm = .none) (hE : s.vm.findClass E = some ce.cls) (k : W p l e R s m args below meth c H locs cells slots Q (F0 m h1 ls [.ref q])) : gXW p l e R s m args below meth c H locs cells slots Q (F0 m pc ls rest) q := by
  intro T hT0 X
  obtain ⟨x, xs, hl1, hx1, -⟩ := List.map_eq_cons_iff.mp htab
  obtain ⟨rfl, rfl, rfl, rfl⟩ : x.startPc = a1 ∧ x.endPc = b1 ∧ x.handlerPc = h1 ∧ x.catchType = t1 := by simpa using hx1
  have hpl : e.platform.magicAccessors = ({} : Platform).magicAccessors := by rw [X.admits.platform]
  obtain ⟨cl, hcl, hlk⟩ := Cond.classLink_spec hown (hT _ hl args) e.platform hpl
  cases hE.symm.trans hcl
  obtain ⟨vm', hW', hf⟩ := gca_row (e := e) (f := F0 m pc ls rest) (a := q) (s0 := s) (S := (T.setTop (F0 m pc ls rest)).pushFrame (.throwing q)) (t := xs) X.warmed (by simp only [covers]; simpa using hc1) h0 hlk (show T.heap[q]? = some ce by rw [hT0]; exact hq) (by rw [hv]; intro k h; cases h) (Vm.classAt_of_findClass hE)
  have has : s.vm.assignable ce.cls ce.cls = true := gself _ _
  obtain ⟨t, a1, b1⟩ := k (T.setVm vm') hT0 (X.noted hW')
  refine ⟨t, gca_step (vm' := vm') (pc := x.handlerPc) X.here (fun Q E d acts => ?_) a1, b1⟩
  rw [W.findHandler_eq (meth := meth) (code := c) X.method' X.code, hl1, hf Q E d acts, if_pos has]
/-- the first row does not take it, the second does -/
theorem gw_catch2 {own E E1 : String} {a1 b1 h1 t1 a2 b2 h2 t2 : Nat} {hh : List (Nat × Nat × Nat × Nat)} {q : Addr} {ce : Cell} (hown : s.vm.findClass own = some m.cls) (hT : gT s) (hZ : gZ A s s.heap g0) (htab : c.exceptionTable.toList.map (fun h => (h.startPc, h.endPc, h.handlerPc, h.catchType)) = (a1, b1, h1, t1) :: (a2, b2, h2, t2) :: hh) (hl : Cond.classLink own t1 E1 ∈ gAll) (h0 : t1 ≠ 0) (hc1 : a1 ≤ pc ∧ pc < b1) (hl2 : Cond.classLink own t2 E ∈ gAll) (h02 : t2 ≠ 0) (hc2 : a2 ≤ pc ∧ pc < b2) (hno : (E, E1) ∈ [("java/lang/IllegalArgumentException", "java/lang/IndexOutOfBoundsException"), ("java/lang/IllegalStateException", "java/lang/IndexOutOfBoundsException")])
    (hq : H[q]? = some ce) (hv : ce.vm = .none) (hE : s.vm.findClass E = some ce.cls) (k : W p l e R s m args below meth c H locs cells slots Q (F0 m h2 ls [.ref q])) : gXW p l e R s m args below meth c H locs cells slots Q (F0 m pc ls rest) q := by
  intro T hT0 X
  obtain ⟨x, xs, hl1, hx1, hx9⟩ := List.map_eq_cons_iff.mp htab
  obtain ⟨y, ys, rfl, hy1, -⟩ := List.map_eq_cons_iff.mp hx9
  obtain ⟨rfl, rfl, rfl, rfl⟩ : x.startPc = a1 ∧ x.endPc = b1 ∧ x.handlerPc = h1 ∧ x.catchType = t1 := by simpa using hx1
  obtain ⟨rfl, rfl, rfl, rfl⟩ : y.startPc = a2 ∧ y.endPc = b2 ∧ y.handlerPc = h2 ∧ y.catchType = t2 := by simpa using hy1
  have hpl : e.platform.magicAccessors = ({} : Platform).magicAccessors := by rw [X.admits.platform]
  obtain ⟨cl, hcl, hlk⟩ := Cond.classLink_spec hown (hT _ hl args) e.platform hpl
  obtain ⟨cl2, hcl2, hlk2⟩ := Cond.classLink_spec hown (hT _ hl2 args) e.platform hpl
  cases hE.symm.trans hcl2
  have hn := hZ.2.2.2.2.2 (E, E1) hno _ _ hE hcl
  have hobj : ∀ k, ce.vm ≠ .statics k := by rw [hv]; intro k h; cases h
  obtain ⟨vm1, hW1, hf1⟩ := gca_row (e := e) (f := F0 m pc ls rest) (a := q) (s0 := s) (S := (T.setTop (F0 m pc ls rest)).pushFrame (.throwing q)) (t := y :: ys) X.warmed (by simp only [covers]; simpa using hc1) h0 hlk (show T.heap[q]? = some ce by rw [hT0]; exact hq) hobj (Vm.classAt_of_findClass hE)
  obtain ⟨vm', hW', hf⟩ := gca_row (e := e) (f := F0 m pc ls rest) (a := q) (s0 := s) (S := ((T.setTop (F0 m pc ls rest)).pushFrame (.throwing q)).setVm vm1) (t := ys) hW1 (by simp only [covers]; simpa using hc2) h02 hlk2 (show T.heap[q]? = some ce by rw [hT0]; exact hq) hobj (Vm.classAt_of_findClass hE)
  have has : s.vm.assignable ce.cls ce.cls = true := gself _ _
  obtain ⟨t, a1, b1⟩ := k (T.setVm vm') hT0 (X.noted hW')
  refine ⟨t, gca_step (vm' := vm') (pc := y.handlerPc) X.here (fun Q E d acts => ?_) a1, b1⟩
  rw [W.findHandler_eq (meth := meth) (code := c) X.method' X.code, hl1, hf1 Q E d acts, if_neg (by rw [hn]; decide), hf Q E d acts, if_pos has]
  rfl
theorem gw_tryI {β : Type} {X : gX Int32} {K : Int32 → gW → gX β} {C : String → gW → gX β} {r : (String ⊕ β) × gW} {ov : (String ⊕ Int32) × gW} (e1 : X = some ov) (h : gtry X C K = some r) (hr : gRun p l e R s m args below meth c H locs cells slots (F0 m pc ls st0) rest rm D w (goI ov)) (hI : gI D s A w H locs) (hA : ∀ q : Nat, s.heap.size ≤ q → A q)
    (hcat : ∀ (E : String) (w1 : gW) (H1 : Heap) (locs1 : List Loc) (q : Addr) (ce : Cell), C E w1 = some r → gI D s A w1 H1 locs1 → H1[q]? = some ce → ce.vm = .none → s.vm.findClass E = some ce.cls → gXW p l e R s m args below meth c H1 locs1 (cells + rm.cells) (slots + rm.slots) Q (F0 m pc ls rest) q)
    (kk : ∀ (v : Int32) (w1 : gW) (H1 : Heap) (locs1 : List Loc), K v w1 = some r → gI D s A w1 H1 locs1 → W p l e R s m args below meth c H1 locs1 (cells + rm.cells) (slots + rm.slots) Q (F0 m (pc + 3) ls (.int v :: rest))) : W p l e R s m args below meth c H locs cells slots Q (F0 m pc ls st0) := by
  subst e1
  obtain ⟨ov, w1⟩ := ov
  intro T hT X
  obtain ⟨T', L, X', hL, hE, hout⟩ := hr T hT X
  cases ov with
  | inr v =>
    obtain ⟨t2, a1, b1⟩ := kk v w1 T'.heap (locs ++ L) h (hI.after hA hE hL) T' rfl X'
    exact ⟨t2, hout t2 a1, b1⟩
  | inl E =>
    obtain ⟨q, ce, h1, h2, h3, h4⟩ := hout
    obtain ⟨t2, a1, b1⟩ := hcat E w1 T'.heap (locs ++ L) q ce h (hI.after hA hE hL) h1 h2 h3 T' rfl X'
    exact ⟨t2, h4.trans a1, b1⟩
theorem gw_tryJ {β : Type} {X : gX Int64} {K : Int64 → gW → gX β} {C : String → gW → gX β} {r : (String ⊕ β) × gW} {ov : (String ⊕ Int64) × gW} (e1 : X = some ov) (h : gtry X C K = some r) (hr : gRun p l e R s m args below meth c H locs cells slots (F0 m pc ls st0) rest rm D w (goJ ov)) (hI : gI D s A w H locs) (hA : ∀ q : Nat, s.heap.size ≤ q → A q)
    (hcat : ∀ (E : String) (w1 : gW) (H1 : Heap) (locs1 : List Loc) (q : Addr) (ce : Cell), C E w1 = some r → gI D s A w1 H1 locs1 → H1[q]? = some ce → ce.vm = .none → s.vm.findClass E = some ce.cls → gXW p l e R s m args below meth c H1 locs1 (cells + rm.cells) (slots + rm.slots) Q (F0 m pc ls rest) q)
    (kk : ∀ (v : Int64) (w1 : gW) (H1 : Heap) (locs1 : List Loc), K v w1 = some r → gI D s A w1 H1 locs1 → W p l e R s m args below meth c H1 locs1 (cells + rm.cells) (slots + rm.slots) Q (F0 m (pc + 3) ls (.long v :: rest))) : W p l e R s m args below meth c H locs cells slots Q (F0 m pc ls st0) := by
  subst e1
  obtain ⟨ov, w1⟩ := ov
  intro T hT X
  obtain ⟨T', L, X', hL, hE, hout⟩ := hr T hT X
  cases ov with
  | inr v =>
    obtain ⟨t2, a1, b1⟩ := kk v w1 T'.heap (locs ++ L) h (hI.after hA hE hL) T' rfl X'
    exact ⟨t2, hout t2 a1, b1⟩
  | inl E =>
    obtain ⟨q, ce, h1, h2, h3, h4⟩ := hout
    obtain ⟨t2, a1, b1⟩ := hcat E w1 T'.heap (locs ++ L) q ce h (hI.after hA hE hL) h1 h2 h3 T' rfl X'
    exact ⟨t2, h4.trans a1, b1⟩
end GCb
/-- a contract out of a walk of a body with handlers -/
theorem gw_ofW {l : Launch} {y : MethodName} {cc : ByteArray} {maxL : Nat} {hh : List (Nat × Nat × Nat × Nat)} {rm : Room} {D : gD} {g0 : gG} {av : List Value} {w : gW} {r : (String ⊕ Int32) × gW} (hy : plainFor y = true) (hlen : (lg_sl av).length ≤ maxL)
    (body : ∀ (p : Program) (e : Env) (s : State) (m : MethodId) (below : List Frame) (meth : Method) (c : Code) (ls : Array Slot) (args : Array Value) (A : Nat → Prop) (Q : State → Prop), p.tables.exec = Jvm.exec → c.code = cc → c.maxLocals = maxL → s.vm.findClass y.cls = some m.cls → c.exceptionTable.toList.map (fun h => (h.startPc, h.endPc, h.handlerPc, h.catchType)) = hh → gT s → gK D s → gZ A s s.heap g0 → (∀ q : Nat, s.heap.size ≤ q → A q) → (∀ (v : Int32) (w1 : gW), r = (.inr v, w1) → ∀ (pc : Nat) (ls : Array Slot) (H : Heap) (locs : List Loc), decode cc pc = .ok (.ireturn, 1) → gI D s A w1 H locs → W p l e rm s m args below meth c H locs rm.cells rm.slots Q (F0 m pc ls [.int v])) → gI D s A w s.heap [] → lv_has ls maxL (lv_args 0 av) →
      W p l e rm s m args below meth c s.heap [] 0 0 Q (F0 m 0 ls [])) : gMet l y (.codeWith y cc maxL (some .int) hh) rm D g0 av w (goI r) := by
  refine MetFree.of_bodySF (code := cc) (maxLocals := maxL) (ret := some .int) hy ?_ ?_
  · intro args s m h hn
    obtain ⟨m9, meth, c, hn9, h1, h2, h3, h4, -, h5, h6, -⟩ := Cond.codeWith_spec (atoms_spec (ws := [.codeWith y cc maxL (some .int) hh]) h _ List.mem_cons_self)
    cases hn.symm.trans hn9
    exact ⟨meth, c, h1, h2, h3, h4, h5, h6⟩
  · intro p e s m args below meth c s₁ B hml hP _
    obtain ⟨rfl, q1, q2, q3, q4, q5⟩ := hP
    have hh0 : s₁.heap = s.heap := by rw [B.state]; rfl
    have htab : c.exceptionTable.toList.map (fun h => (h.startPc, h.endPc, h.handlerPc, h.catchType)) = hh := by
      obtain ⟨m9, meth9, c9, hn9, h1, h2, -, -, h7, -⟩ := Cond.codeWith_spec (atoms_spec (ws := [.codeWith y cc maxL (some .int) hh]) B.pre _ List.mem_cons_self)
      cases B.named.symm.trans hn9
      cases Option.some.inj (h1.symm.trans B.method)
      cases Option.some.inj (h2.symm.trans (Stand.of_body B).code)
      exact h7
    have hl := lv_entry av (n := maxL) hlen
    have hW := body p e s m below meth c _ _ _ (gMQ below D w (goI r) rm.cells rm.slots av.toArray s) B.exec B.bytes hml (findClass_of_methodNamed B.named) htab q4 q3 q5 (fun q hq => Or.inr (by rw [← q1]; exact hq)) (gw_retI B.exec B.bytes B.returns B.notSynchronized r) ⟨q1, q2, va_S.rf, fun a e he hr => Or.inl ⟨e, he, hr⟩⟩ hl
    rw [← lg_entry_eq] at hW
    obtain ⟨t, a1, oc, b1, b2, b3⟩ := hW s₁ hh0 (Stand.of_body B)
    exact ⟨t, oc, a1, b1, b2, b3⟩
end
section
theorem df_0 : ∀ j, j < 10 → defaultValue (t_0 j) = vp_V [.long 0, .null, .null, .null, .null, .null, .int 0, .null, .null, .null] j := by decide +kernel
theorem df_1 : ∀ j, j < 3 → defaultValue (t_1 j) = vp_V [.null, .int 0, .int 0] j := by decide +kernel
theorem df_2 : ∀ j, j < 2 → defaultValue (t_2 j) = vp_V [.null, .int 0] j := by decide +kernel
theorem df_3 : ∀ j, j < 12 → defaultValue (t_3 j) = vp_V [.int 0, .long 0, .long 0, .null, .null, .int 0, .long 0, .long 0, .long 0, .long 0, .long 0, .long 0] j := by decide +kernel
theorem df_4 : ∀ j, j < 2 → defaultValue (t_4 j) = vp_V [.null, .long 0] j := by decide +kernel
theorem df_5 : ∀ j, j < 5 → defaultValue (t_5 j) = vp_V [.null, .long 0, .long 0, .int 0, .int 0] j := by decide +kernel
theorem df_6 : ∀ j, j < 2 → defaultValue (t_6 j) = vp_V [.null, .int 0] j := by decide +kernel
theorem df_7 : ∀ j, j < 27 → defaultValue (t_7 j) = vp_V [.int 0, .long 0, .int 0, .null, .null, .null, .null, .null, .null, .int 0, .null, .null, .int 0, .null, .null, .null, .null, .null, .int 0, .null, .null, .null, .null, .null, .null, .null, .null] j := by decide +kernel
set_option maxRecDepth 100000 in
theorem wd_0 : Cond.selects "BodySolids" ⟨"BodySolids", "addBody", "(LBodySolids$Body;)I"⟩ ⟨"BodySolids", "addBody", "(LBodySolids$Body;)I"⟩ ∈ gAll := gm 0 rfl rfl
set_option maxRecDepth 100000 in
theorem wd_1 : Cond.selects "java/util/ArrayList" ⟨"java/util/ArrayList", "add", "(Ljava/lang/Object;[Ljava/lang/Object;I)V"⟩ ⟨"java/util/ArrayList", "add", "(Ljava/lang/Object;[Ljava/lang/Object;I)V"⟩ ∈ gAll := gm 1 rfl rfl
set_option maxRecDepth 100000 in
theorem wd_2 : Cond.selects "java/util/ArrayList" ⟨"java/util/ArrayList", "grow", "()[Ljava/lang/Object;"⟩ ⟨"java/util/ArrayList", "grow", "()[Ljava/lang/Object;"⟩ ∈ gAll := gm 2 rfl rfl
set_option maxRecDepth 100000 in
theorem wd_3 : Cond.selects "java/util/ArrayList" ⟨"java/util/ArrayList", "grow", "(I)[Ljava/lang/Object;"⟩ ⟨"java/util/ArrayList", "grow", "(I)[Ljava/lang/Object;"⟩ ∈ gAll := gm 3 rfl rfl
set_option maxRecDepth 100000 in
theorem wd_7 : Cond.selects "BodySolids" ⟨"BodySolids", "bodyAt", "(I)LBodySolids$Body;"⟩ ⟨"BodySolids", "bodyAt", "(I)LBodySolids$Body;"⟩ ∈ gAll := gm 7 rfl rfl
set_option maxRecDepth 100000 in
theorem wd_9 : Cond.selects "BodySolids" ⟨"BodySolids", "forgetRelationsOf", "(LBodySolids$Body;)V"⟩ ⟨"BodySolids", "forgetRelationsOf", "(LBodySolids$Body;)V"⟩ ∈ gAll := gm 9 rfl rfl
set_option maxRecDepth 100000 in
theorem wd_10 : Cond.selects "BodySolids" ⟨"BodySolids", "forgetRelationsAt", "(I)V"⟩ ⟨"BodySolids", "forgetRelationsAt", "(I)V"⟩ ∈ gAll := gm 10 rfl rfl
set_option maxRecDepth 100000 in
theorem wd_11 : Cond.selects "BodySolids" ⟨"BodySolids", "cornersMakePolygon", "()Z"⟩ ⟨"BodySolids", "cornersMakePolygon", "()Z"⟩ ∈ gAll := gm 11 rfl rfl
set_option maxRecDepth 100000 in
theorem wd_12 : Cond.selects "BodySolids" ⟨"BodySolids", "othersLieLeftOfSide", "(II)Z"⟩ ⟨"BodySolids", "othersLieLeftOfSide", "(II)Z"⟩ ∈ gAll := gm 12 rfl rfl
set_option maxRecDepth 100000 in
theorem wd_13 : Cond.selects "BodySolids" ⟨"BodySolids", "turnAt", "(III)J"⟩ ⟨"BodySolids", "turnAt", "(III)J"⟩ ∈ gAll := gm 13 rfl rfl
set_option maxRecDepth 100000 in
theorem wd_14 : Cond.selects "BodySolids" ⟨"BodySolids", "twiceAreaOfCorners", "()J"⟩ ⟨"BodySolids", "twiceAreaOfCorners", "()J"⟩ ∈ gAll := gm 14 rfl rfl
set_option maxRecDepth 100000 in
theorem wd_17 : Cond.selects "BodySolidsModel" ⟨"BodySolidsModel", "isBody", "(I)Z"⟩ ⟨"BodySolidsModel", "isBody", "(I)Z"⟩ ∈ gAll := gm 17 rfl rfl
set_option maxRecDepth 100000 in
theorem wd_18 : Cond.selects "BodySolidsModel" ⟨"BodySolidsModel", "fresh", "(II)I"⟩ ⟨"BodySolidsModel", "fresh", "(II)I"⟩ ∈ gAll := gm 18 rfl rfl
set_option maxRecDepth 100000 in
theorem wd_19 : Cond.selects "BodySolidsModel" ⟨"BodySolidsModel", "tell", "(IIJ)V"⟩ ⟨"BodySolidsModel", "tell", "(IIJ)V"⟩ ∈ gAll := gm 19 rfl rfl
set_option maxRecDepth 100000 in
theorem wd_20 : Cond.selects "BodySolidsModel" ⟨"BodySolidsModel", "isRound", "()Z"⟩ ⟨"BodySolidsModel", "isRound", "()Z"⟩ ∈ gAll := gm 20 rfl rfl
set_option maxRecDepth 100000 in
theorem wd_21 : Cond.selects "BodySolidsModel" ⟨"BodySolidsModel", "copy", "(II)V"⟩ ⟨"BodySolidsModel", "copy", "(II)V"⟩ ∈ gAll := gm 21 rfl rfl
set_option maxRecDepth 100000 in
theorem wd_48 : Jvm.Cond.initialized "BodySolidsLaw" ∈ gAll := gm 48 rfl rfl
set_option maxRecDepth 100000 in
theorem wd_49 : Jvm.Cond.initialized "BodySolids" ∈ gAll := gm 49 rfl rfl
set_option maxRecDepth 100000 in
theorem wd_50 : Jvm.Cond.initialized "java/lang/Math" ∈ gAll := gm 50 rfl rfl
set_option maxRecDepth 100000 in
theorem wd_51 : Jvm.Cond.initialized "java/util/AbstractCollection" ∈ gAll := gm 51 rfl rfl
set_option maxRecDepth 100000 in
theorem wd_52 : Jvm.Cond.initialized "java/util/AbstractList" ∈ gAll := gm 52 rfl rfl
set_option maxRecDepth 100000 in
theorem wd_53 : Jvm.Cond.initialized "java/util/ArrayList" ∈ gAll := gm 53 rfl rfl
set_option maxRecDepth 100000 in
theorem wd_54 : Jvm.Cond.initialized "java/util/Arrays" ∈ gAll := gm 54 rfl rfl
set_option maxRecDepth 100000 in
theorem wd_55 : Jvm.Cond.initialized "BodySolids$Layout" ∈ gAll := gm 55 rfl rfl
set_option maxRecDepth 100000 in
theorem wd_56 : Jvm.Cond.initialized "BodySolids$Solid" ∈ gAll := gm 56 rfl rfl
set_option maxRecDepth 100000 in
theorem wd_57 : Jvm.Cond.initialized "BodySolidsModel" ∈ gAll := gm 57 rfl rfl
set_option maxRecDepth 100000 in
theorem wd_58 : Jvm.Cond.initialized "BodySolids$Body" ∈ gAll := gm 58 rfl rfl
set_option maxRecDepth 100000 in
theorem wd_59 : Jvm.Cond.initialized "jdk/internal/util/ArraysSupport" ∈ gAll := gm 59 rfl rfl
set_option maxRecDepth 100000 in
theorem wd_60 : Jvm.Cond.initialized "java/lang/System" ∈ gAll := gm 60 rfl rfl
set_option maxRecDepth 100000 in
theorem wd_64 : Jvm.Cond.initialized "java/lang/IndexOutOfBoundsException" ∈ gAll := gm 64 rfl rfl
set_option maxRecDepth 100000 in
theorem wd_65 : Jvm.Cond.initialized "java/util/Objects" ∈ gAll := gm 65 rfl rfl
set_option maxRecDepth 100000 in
theorem wd_66 : Jvm.Cond.initialized "jdk/internal/util/Preconditions" ∈ gAll := gm 66 rfl rfl
set_option maxRecDepth 100000 in
theorem wd_67 : Jvm.Cond.initialized "java/lang/IllegalArgumentException" ∈ gAll := gm 67 rfl rfl
set_option maxRecDepth 100000 in
theorem wd_73 : Jvm.Cond.instantiable "BodySolids" (10 : Nat) ∈ gAll := gm 73 rfl rfl
set_option maxRecDepth 100000 in
theorem wd_75 : Jvm.Cond.instanceMethod ({ cls := "BodySolids", name := "<init>", desc := "(J)V" } : Jvm.MethodName) ∈ gAll := gm 75 rfl rfl
set_option maxRecDepth 100000 in
theorem wd_76 : Jvm.Cond.code ({ cls := "BodySolids", name := "<init>", desc := "(J)V" } : Jvm.MethodName) prog_1_method_1_code (3 : Nat) (Option.none : Option Jvm.ClassFile.FieldType) ∈ gAll := gm 76 rfl rfl
set_option maxRecDepth 100000 in
theorem wd_77 : Jvm.Cond.methodLink "BodySolids" (1 : Nat) ({ cls := "java/lang/Object", name := "<init>", desc := "()V" } : Jvm.MethodName) ∈ gAll := gm 77 rfl rfl
set_option maxRecDepth 100000 in
theorem wd_78 : Jvm.Cond.instanceMethod ({ cls := "java/lang/Object", name := "<init>", desc := "()V" } : Jvm.MethodName) ∈ gAll := gm 78 rfl rfl
set_option maxRecDepth 100000 in
theorem wd_79 : Jvm.Cond.code ({ cls := "java/lang/Object", name := "<init>", desc := "()V" } : Jvm.MethodName) object_method_1_code (1 : Nat) (Option.none : Option Jvm.ClassFile.FieldType) ∈ gAll := gm 79 rfl rfl
set_option maxRecDepth 100000 in
theorem wd_80 : Jvm.Cond.constantLong "BodySolids" (9 : Nat) (1000 : Int64) ∈ gAll := gm 80 rfl rfl
set_option maxRecDepth 100000 in
theorem wd_81 : Jvm.Cond.methodLink "BodySolids" (11 : Nat) ({ cls := "java/lang/Math", name := "min", desc := "(JJ)J" } : Jvm.MethodName) ∈ gAll := gm 81 rfl rfl
set_option maxRecDepth 100000 in
theorem wd_82 : Jvm.Cond.static ({ cls := "java/lang/Math", name := "min", desc := "(JJ)J" } : Jvm.MethodName) ∈ gAll := gm 82 rfl rfl
set_option maxRecDepth 100000 in
theorem wd_83 : Jvm.Cond.code ({ cls := "java/lang/Math", name := "min", desc := "(JJ)J" } : Jvm.MethodName) prog_17_method_70_code (4 : Nat) (Option.some Jvm.ClassFile.FieldType.long) ∈ gAll := gm 83 rfl rfl
set_option maxRecDepth 100000 in
theorem wd_84 : Jvm.Cond.methodLink "BodySolids" (17 : Nat) ({ cls := "java/lang/Math", name := "max", desc := "(JJ)J" } : Jvm.MethodName) ∈ gAll := gm 84 rfl rfl
set_option maxRecDepth 100000 in
theorem wd_85 : Jvm.Cond.static ({ cls := "java/lang/Math", name := "max", desc := "(JJ)J" } : Jvm.MethodName) ∈ gAll := gm 85 rfl rfl
set_option maxRecDepth 100000 in
theorem wd_86 : Jvm.Cond.code ({ cls := "java/lang/Math", name := "max", desc := "(JJ)J" } : Jvm.MethodName) prog_17_method_66_code (4 : Nat) (Option.some Jvm.ClassFile.FieldType.long) ∈ gAll := gm 86 rfl rfl
set_option maxRecDepth 100000 in
theorem wd_87 : Jvm.Cond.classLink "BodySolids" (24 : Nat) "java/util/ArrayList" ∈ gAll := gm 87 rfl rfl
set_option maxRecDepth 100000 in
theorem wd_88 : Jvm.Cond.instantiable "java/util/ArrayList" (3 : Nat) ∈ gAll := gm 88 rfl rfl
set_option maxRecDepth 100000 in
theorem wd_89 : Jvm.Cond.methodLink "BodySolids" (26 : Nat) ({ cls := "java/util/ArrayList", name := "<init>", desc := "()V" } : Jvm.MethodName) ∈ gAll := gm 89 rfl rfl
set_option maxRecDepth 100000 in
theorem wd_90 : Jvm.Cond.instanceMethod ({ cls := "java/util/ArrayList", name := "<init>", desc := "()V" } : Jvm.MethodName) ∈ gAll := gm 90 rfl rfl
set_option maxRecDepth 100000 in
theorem wd_91 : Jvm.Cond.code ({ cls := "java/util/ArrayList", name := "<init>", desc := "()V" } : Jvm.MethodName) prog_24_method_2_code (1 : Nat) (Option.none : Option Jvm.ClassFile.FieldType) ∈ gAll := gm 91 rfl rfl
set_option maxRecDepth 100000 in
theorem wd_92 : Jvm.Cond.methodLink "java/util/ArrayList" (1 : Nat) ({ cls := "java/util/AbstractList", name := "<init>", desc := "()V" } : Jvm.MethodName) ∈ gAll := gm 92 rfl rfl
set_option maxRecDepth 100000 in
theorem wd_93 : Jvm.Cond.instanceMethod ({ cls := "java/util/AbstractList", name := "<init>", desc := "()V" } : Jvm.MethodName) ∈ gAll := gm 93 rfl rfl
set_option maxRecDepth 100000 in
theorem wd_94 : Jvm.Cond.code ({ cls := "java/util/AbstractList", name := "<init>", desc := "()V" } : Jvm.MethodName) prog_23_method_1_code (1 : Nat) (Option.none : Option Jvm.ClassFile.FieldType) ∈ gAll := gm 94 rfl rfl
set_option maxRecDepth 100000 in
theorem wd_95 : Jvm.Cond.methodLink "java/util/AbstractList" (1 : Nat) ({ cls := "java/util/AbstractCollection", name := "<init>", desc := "()V" } : Jvm.MethodName) ∈ gAll := gm 95 rfl rfl
set_option maxRecDepth 100000 in
theorem wd_96 : Jvm.Cond.instanceMethod ({ cls := "java/util/AbstractCollection", name := "<init>", desc := "()V" } : Jvm.MethodName) ∈ gAll := gm 96 rfl rfl
set_option maxRecDepth 100000 in
theorem wd_97 : Jvm.Cond.code ({ cls := "java/util/AbstractCollection", name := "<init>", desc := "()V" } : Jvm.MethodName) prog_22_method_1_code (1 : Nat) (Option.none : Option Jvm.ClassFile.FieldType) ∈ gAll := gm 97 rfl rfl
set_option maxRecDepth 100000 in
theorem wd_98 : Jvm.Cond.methodLink "java/util/AbstractCollection" (1 : Nat) ({ cls := "java/lang/Object", name := "<init>", desc := "()V" } : Jvm.MethodName) ∈ gAll := gm 98 rfl rfl
set_option maxRecDepth 100000 in
theorem wd_99 : Jvm.Cond.fieldLink "java/util/ArrayList" (39 : Nat) "java/util/ArrayList" "DEFAULTCAPACITY_EMPTY_ELEMENTDATA" "[Ljava/lang/Object;" ∈ gAll := gm 99 rfl rfl
set_option maxRecDepth 100000 in
theorem wd_101 : Jvm.Cond.fieldLink "java/util/ArrayList" (9 : Nat) "java/util/ArrayList" "elementData" "[Ljava/lang/Object;" ∈ gAll := gm 101 rfl rfl
set_option maxRecDepth 100000 in
theorem wd_102 : Jvm.Cond.fieldLink "java/util/ArrayList" (48 : Nat) "java/util/ArrayList" "size" "I" ∈ gAll := gm 102 rfl rfl
set_option maxRecDepth 100000 in
theorem wd_103 : Jvm.Cond.fieldLink "java/util/AbstractList" (7 : Nat) "java/util/AbstractList" "modCount" "I" ∈ gAll := gm 103 rfl rfl
set_option maxRecDepth 100000 in
theorem wd_104 : Jvm.Cond.fieldLink "java/util/ArrayList" (63 : Nat) "java/util/ArrayList" "modCount" "I" ∈ gAll := gm 104 rfl rfl
set_option maxRecDepth 100000 in
theorem wd_105 : Jvm.Cond.sameField "java/util/ArrayList" "java/util/AbstractList" "modCount" "I" ∈ gAll := gm 105 rfl rfl
set_option maxRecDepth 100000 in
theorem wd_113 : Jvm.Cond.methodLink "BodySolids" (52 : Nat) ({ cls := "java/util/Arrays", name := "fill", desc := "([II)V" } : Jvm.MethodName) ∈ gAll := gm 113 rfl rfl
set_option maxRecDepth 100000 in
theorem wd_114 : Jvm.Cond.static ({ cls := "java/util/Arrays", name := "fill", desc := "([II)V" } : Jvm.MethodName) ∈ gAll := gm 114 rfl rfl
set_option maxRecDepth 100000 in
theorem wd_115 : Jvm.Cond.code ({ cls := "java/util/Arrays", name := "fill", desc := "([II)V" } : Jvm.MethodName) prog_25_method_103_code (4 : Nat) (Option.none : Option Jvm.ClassFile.FieldType) ∈ gAll := gm 115 rfl rfl
set_option maxRecDepth 100000 in
theorem wd_116 : Jvm.Cond.classLink "BodySolids" (58 : Nat) "BodySolids$Layout" ∈ gAll := gm 116 rfl rfl
set_option maxRecDepth 100000 in
theorem wd_117 : Jvm.Cond.instantiable "BodySolids$Layout" (2 : Nat) ∈ gAll := gm 117 rfl rfl
set_option maxRecDepth 100000 in
theorem wd_118 : Jvm.Cond.methodLink "BodySolids" (60 : Nat) ({ cls := "BodySolids$Layout", name := "<init>", desc := "()V" } : Jvm.MethodName) ∈ gAll := gm 118 rfl rfl
set_option maxRecDepth 100000 in
theorem wd_119 : Jvm.Cond.instanceMethod ({ cls := "BodySolids$Layout", name := "<init>", desc := "()V" } : Jvm.MethodName) ∈ gAll := gm 119 rfl rfl
set_option maxRecDepth 100000 in
theorem wd_120 : Jvm.Cond.code ({ cls := "BodySolids$Layout", name := "<init>", desc := "()V" } : Jvm.MethodName) prog_4_method_1_code (2 : Nat) (Option.none : Option Jvm.ClassFile.FieldType) ∈ gAll := gm 120 rfl rfl
set_option maxRecDepth 100000 in
theorem wd_121 : Jvm.Cond.methodLink "BodySolids$Layout" (3 : Nat) ({ cls := "java/lang/Object", name := "<init>", desc := "()V" } : Jvm.MethodName) ∈ gAll := gm 121 rfl rfl
set_option maxRecDepth 100000 in
theorem wd_122 : Jvm.Cond.classLink "BodySolids$Layout" (9 : Nat) "BodySolids$Solid" ∈ gAll := gm 122 rfl rfl
set_option maxRecDepth 100000 in
theorem wd_123 : Jvm.Cond.arrayOver (Jvm.ClassFile.FieldType.object "BodySolids$Solid") ∈ gAll := gm 123 rfl rfl
set_option maxRecDepth 100000 in
theorem wd_124 : Jvm.Cond.instantiable "BodySolids$Solid" (12 : Nat) ∈ gAll := gm 124 rfl rfl
set_option maxRecDepth 100000 in
theorem wd_125 : Jvm.Cond.methodLinkNest "BodySolids$Layout" (21 : Nat) ({ cls := "BodySolids$Solid", name := "<init>", desc := "()V" } : Jvm.MethodName) "BodySolids" ∈ gAll := gm 125 rfl rfl
set_option maxRecDepth 100000 in
theorem wd_126 : Jvm.Cond.instanceMethod ({ cls := "BodySolids$Solid", name := "<init>", desc := "()V" } : Jvm.MethodName) ∈ gAll := gm 126 rfl rfl
set_option maxRecDepth 100000 in
theorem wd_127 : Jvm.Cond.code ({ cls := "BodySolids$Solid", name := "<init>", desc := "()V" } : Jvm.MethodName) prog_7_method_1_code (1 : Nat) (Option.none : Option Jvm.ClassFile.FieldType) ∈ gAll := gm 127 rfl rfl
set_option maxRecDepth 100000 in
theorem wd_128 : Jvm.Cond.methodLink "BodySolids$Solid" (3 : Nat) ({ cls := "java/lang/Object", name := "<init>", desc := "()V" } : Jvm.MethodName) ∈ gAll := gm 128 rfl rfl
set_option maxRecDepth 100000 in
theorem wd_129 : Jvm.Cond.fieldLink "BodySolids$Solid" (18 : Nat) "BodySolids$Solid" "kind" "I" ∈ gAll := gm 129 rfl rfl
set_option maxRecDepth 100000 in
theorem wd_132 : Jvm.Cond.fieldLink "BodySolids$Solid" (22 : Nat) "BodySolids$Solid" "flat" "J" ∈ gAll := gm 132 rfl rfl
set_option maxRecDepth 100000 in
theorem wd_134 : Jvm.Cond.fieldLink "BodySolids$Solid" (26 : Nat) "BodySolids$Solid" "round" "J" ∈ gAll := gm 134 rfl rfl
set_option maxRecDepth 100000 in
theorem wd_135 : Jvm.Cond.fieldLink "BodySolids$Solid" (9 : Nat) "BodySolids$Solid" "xs" "[J" ∈ gAll := gm 135 rfl rfl
set_option maxRecDepth 100000 in
theorem wd_137 : Jvm.Cond.fieldLink "BodySolids$Solid" (15 : Nat) "BodySolids$Solid" "ys" "[J" ∈ gAll := gm 137 rfl rfl
set_option maxRecDepth 100000 in
theorem wd_139 : Jvm.Cond.fieldLink "BodySolids$Solid" (29 : Nat) "BodySolids$Solid" "corners" "I" ∈ gAll := gm 139 rfl rfl
set_option maxRecDepth 100000 in
theorem wd_142 : Jvm.Cond.fieldLink "BodySolids$Solid" (32 : Nat) "BodySolids$Solid" "x0" "J" ∈ gAll := gm 142 rfl rfl
set_option maxRecDepth 100000 in
theorem wd_144 : Jvm.Cond.fieldLink "BodySolids$Solid" (41 : Nat) "BodySolids$Solid" "y0" "J" ∈ gAll := gm 144 rfl rfl
set_option maxRecDepth 100000 in
theorem wd_146 : Jvm.Cond.fieldLink "BodySolids$Solid" (57 : Nat) "BodySolids$Solid" "z0" "J" ∈ gAll := gm 146 rfl rfl
set_option maxRecDepth 100000 in
theorem wd_148 : Jvm.Cond.fieldLink "BodySolids$Solid" (44 : Nat) "BodySolids$Solid" "x1" "J" ∈ gAll := gm 148 rfl rfl
set_option maxRecDepth 100000 in
theorem wd_150 : Jvm.Cond.fieldLink "BodySolids$Solid" (50 : Nat) "BodySolids$Solid" "y1" "J" ∈ gAll := gm 150 rfl rfl
set_option maxRecDepth 100000 in
theorem wd_152 : Jvm.Cond.fieldLink "BodySolids$Solid" (60 : Nat) "BodySolids$Solid" "z1" "J" ∈ gAll := gm 152 rfl rfl
set_option maxRecDepth 100000 in
theorem wd_178 : Jvm.Cond.arrayClass Jvm.ClassFile.FieldType.long ∈ gAll := gm 178 rfl rfl
set_option maxRecDepth 100000 in
theorem wd_179 : Jvm.Cond.arrayClass Jvm.ClassFile.FieldType.int ∈ gAll := gm 179 rfl rfl
set_option maxRecDepth 100000 in
theorem wd_180 : Jvm.Cond.fieldLink "BodySolids$Layout" (11 : Nat) "BodySolids$Layout" "solids" "[LBodySolids$Solid;" ∈ gAll := gm 180 rfl rfl
set_option maxRecDepth 100000 in
theorem wd_182 : Jvm.Cond.fieldLink "BodySolids$Layout" (17 : Nat) "BodySolids$Layout" "count" "I" ∈ gAll := gm 182 rfl rfl
set_option maxRecDepth 100000 in
theorem wd_189 : Jvm.Cond.fieldLink "BodySolids" (20 : Nat) "BodySolids" "thickness" "J" ∈ gAll := gm 189 rfl rfl
set_option maxRecDepth 100000 in
theorem wd_190 : Jvm.Cond.fieldLink "BodySolids" (27 : Nat) "BodySolids" "bodies" "Ljava/util/ArrayList;" ∈ gAll := gm 190 rfl rfl
set_option maxRecDepth 100000 in
theorem wd_191 : Jvm.Cond.fieldLink "BodySolids" (31 : Nat) "BodySolids" "placements" "Ljava/util/ArrayList;" ∈ gAll := gm 191 rfl rfl
set_option maxRecDepth 100000 in
theorem wd_192 : Jvm.Cond.fieldLink "BodySolids" (34 : Nat) "BodySolids" "keepOuts" "Ljava/util/ArrayList;" ∈ gAll := gm 192 rfl rfl
set_option maxRecDepth 100000 in
theorem wd_193 : Jvm.Cond.fieldLink "BodySolids" (37 : Nat) "BodySolids" "cornerX" "[J" ∈ gAll := gm 193 rfl rfl
set_option maxRecDepth 100000 in
theorem wd_194 : Jvm.Cond.fieldLink "BodySolids" (41 : Nat) "BodySolids" "cornerY" "[J" ∈ gAll := gm 194 rfl rfl
set_option maxRecDepth 100000 in
theorem wd_195 : Jvm.Cond.fieldLink "BodySolids" (44 : Nat) "BodySolids" "corners" "I" ∈ gAll := gm 195 rfl rfl
set_option maxRecDepth 100000 in
theorem wd_196 : Jvm.Cond.fieldLink "BodySolids" (48 : Nat) "BodySolids" "relations" "[I" ∈ gAll := gm 196 rfl rfl
set_option maxRecDepth 100000 in
theorem wd_197 : Jvm.Cond.fieldLink "BodySolids" (61 : Nat) "BodySolids" "first" "LBodySolids$Layout;" ∈ gAll := gm 197 rfl rfl
set_option maxRecDepth 100000 in
theorem wd_198 : Jvm.Cond.fieldLink "BodySolids" (65 : Nat) "BodySolids" "second" "LBodySolids$Layout;" ∈ gAll := gm 198 rfl rfl
set_option maxRecDepth 100000 in
theorem wd_221 : Jvm.Cond.instanceMethod ({ cls := "BodySolids", name := "body", desc := "()I" } : Jvm.MethodName) ∈ gAll := gm 221 rfl rfl
set_option maxRecDepth 100000 in
theorem wd_223 : Jvm.Cond.code ({ cls := "BodySolids", name := "body", desc := "()I" } : Jvm.MethodName) prog_1_method_2_code (1 : Nat) (Option.some Jvm.ClassFile.FieldType.int) ∈ gAll := gm 223 rfl rfl
set_option maxRecDepth 100000 in
theorem wd_224 : Jvm.Cond.methodLink "BodySolids" (68 : Nat) ({ cls := "java/util/ArrayList", name := "size", desc := "()I" } : Jvm.MethodName) ∈ gAll := gm 224 rfl rfl
set_option maxRecDepth 100000 in
theorem wd_225 : Jvm.Cond.instanceMethod ({ cls := "java/util/ArrayList", name := "size", desc := "()I" } : Jvm.MethodName) ∈ gAll := gm 225 rfl rfl
set_option maxRecDepth 100000 in
theorem wd_226 : Jvm.Cond.selects "java/util/ArrayList" ({ cls := "java/util/ArrayList", name := "size", desc := "()I" } : Jvm.MethodName) ({ cls := "java/util/ArrayList", name := "size", desc := "()I" } : Jvm.MethodName) ∈ gAll := gm 226 rfl rfl
set_option maxRecDepth 100000 in
theorem wd_227 : Jvm.Cond.code ({ cls := "java/util/ArrayList", name := "size", desc := "()I" } : Jvm.MethodName) prog_24_method_8_code (1 : Nat) (Option.some Jvm.ClassFile.FieldType.int) ∈ gAll := gm 227 rfl rfl
set_option maxRecDepth 100000 in
theorem wd_228 : Jvm.Cond.classLink "BodySolids" (72 : Nat) "BodySolids$Body" ∈ gAll := gm 228 rfl rfl
set_option maxRecDepth 100000 in
theorem wd_229 : Jvm.Cond.instantiable "BodySolids$Body" (2 : Nat) ∈ gAll := gm 229 rfl rfl
set_option maxRecDepth 100000 in
theorem wd_230 : Jvm.Cond.methodLinkNest "BodySolids" (74 : Nat) ({ cls := "BodySolids$Body", name := "<init>", desc := "()V" } : Jvm.MethodName) "BodySolids" ∈ gAll := gm 230 rfl rfl
set_option maxRecDepth 100000 in
theorem wd_231 : Jvm.Cond.instanceMethod ({ cls := "BodySolids$Body", name := "<init>", desc := "()V" } : Jvm.MethodName) ∈ gAll := gm 231 rfl rfl
set_option maxRecDepth 100000 in
theorem wd_232 : Jvm.Cond.code ({ cls := "BodySolids$Body", name := "<init>", desc := "()V" } : Jvm.MethodName) prog_2_method_1_code (1 : Nat) (Option.none : Option Jvm.ClassFile.FieldType) ∈ gAll := gm 232 rfl rfl
set_option maxRecDepth 100000 in
theorem wd_233 : Jvm.Cond.methodLink "BodySolids$Body" (3 : Nat) ({ cls := "java/lang/Object", name := "<init>", desc := "()V" } : Jvm.MethodName) ∈ gAll := gm 233 rfl rfl
set_option maxRecDepth 100000 in
theorem wd_234 : Jvm.Cond.classLink "BodySolids$Body" (9 : Nat) "java/util/ArrayList" ∈ gAll := gm 234 rfl rfl
set_option maxRecDepth 100000 in
theorem wd_235 : Jvm.Cond.methodLink "BodySolids$Body" (11 : Nat) ({ cls := "java/util/ArrayList", name := "<init>", desc := "()V" } : Jvm.MethodName) ∈ gAll := gm 235 rfl rfl
set_option maxRecDepth 100000 in
theorem wd_236 : Jvm.Cond.fieldLink "BodySolids$Body" (12 : Nat) "BodySolids$Body" "solids" "Ljava/util/ArrayList;" ∈ gAll := gm 236 rfl rfl
set_option maxRecDepth 100000 in
theorem wd_238 : Jvm.Cond.fieldLink "BodySolids" (154 : Nat) "BodySolids$Body" "solids" "Ljava/util/ArrayList;" ∈ gAll := gm 238 rfl rfl
set_option maxRecDepth 100000 in
theorem wd_239 : Jvm.Cond.fieldLink "BodySolids$Body" (18 : Nat) "BodySolids$Body" "weight" "J" ∈ gAll := gm 239 rfl rfl
set_option maxRecDepth 100000 in
theorem wd_246 : Jvm.Cond.methodLink "BodySolids" (75 : Nat) ({ cls := "BodySolids", name := "addBody", desc := "(LBodySolids$Body;)I" } : Jvm.MethodName) ∈ gAll := gm 246 rfl rfl
set_option maxRecDepth 100000 in
theorem wd_248 : Jvm.Cond.instanceMethod ({ cls := "BodySolids", name := "addBody", desc := "(LBodySolids$Body;)I" } : Jvm.MethodName) ∈ gAll := gm 248 rfl rfl
set_option maxRecDepth 100000 in
theorem wd_249 : Jvm.Cond.code ({ cls := "BodySolids", name := "addBody", desc := "(LBodySolids$Body;)I" } : Jvm.MethodName) prog_1_method_27_code (2 : Nat) (Option.some Jvm.ClassFile.FieldType.int) ∈ gAll := gm 249 rfl rfl
set_option maxRecDepth 100000 in
theorem wd_250 : Jvm.Cond.methodLink "BodySolids" (171 : Nat) ({ cls := "java/util/ArrayList", name := "add", desc := "(Ljava/lang/Object;)Z" } : Jvm.MethodName) ∈ gAll := gm 250 rfl rfl
set_option maxRecDepth 100000 in
theorem wd_251 : Jvm.Cond.instanceMethod ({ cls := "java/util/ArrayList", name := "add", desc := "(Ljava/lang/Object;)Z" } : Jvm.MethodName) ∈ gAll := gm 251 rfl rfl
set_option maxRecDepth 100000 in
theorem wd_252 : Jvm.Cond.selects "java/util/ArrayList" ({ cls := "java/util/ArrayList", name := "add", desc := "(Ljava/lang/Object;)Z" } : Jvm.MethodName) ({ cls := "java/util/ArrayList", name := "add", desc := "(Ljava/lang/Object;)Z" } : Jvm.MethodName) ∈ gAll := gm 252 rfl rfl
set_option maxRecDepth 100000 in
theorem wd_253 : Jvm.Cond.code ({ cls := "java/util/ArrayList", name := "add", desc := "(Ljava/lang/Object;)Z" } : Jvm.MethodName) prog_24_method_25_code (2 : Nat) (Option.some Jvm.ClassFile.FieldType.boolean) ∈ gAll := gm 253 rfl rfl
set_option maxRecDepth 100000 in
theorem wd_254 : Jvm.Cond.methodLink "java/util/ArrayList" (131 : Nat) ({ cls := "java/util/ArrayList", name := "add", desc := "(Ljava/lang/Object;[Ljava/lang/Object;I)V" } : Jvm.MethodName) ∈ gAll := gm 254 rfl rfl
set_option maxRecDepth 100000 in
theorem wd_256 : Jvm.Cond.instanceMethod ({ cls := "java/util/ArrayList", name := "add", desc := "(Ljava/lang/Object;[Ljava/lang/Object;I)V" } : Jvm.MethodName) ∈ gAll := gm 256 rfl rfl
set_option maxRecDepth 100000 in
theorem wd_257 : Jvm.Cond.code ({ cls := "java/util/ArrayList", name := "add", desc := "(Ljava/lang/Object;[Ljava/lang/Object;I)V" } : Jvm.MethodName) prog_24_method_24_code (4 : Nat) (Option.none : Option Jvm.ClassFile.FieldType) ∈ gAll := gm 257 rfl rfl
set_option maxRecDepth 100000 in
theorem wd_258 : Jvm.Cond.methodLink "java/util/ArrayList" (129 : Nat) ({ cls := "java/util/ArrayList", name := "grow", desc := "()[Ljava/lang/Object;" } : Jvm.MethodName) ∈ gAll := gm 258 rfl rfl
set_option maxRecDepth 100000 in
theorem wd_260 : Jvm.Cond.instanceMethod ({ cls := "java/util/ArrayList", name := "grow", desc := "()[Ljava/lang/Object;" } : Jvm.MethodName) ∈ gAll := gm 260 rfl rfl
set_option maxRecDepth 100000 in
theorem wd_261 : Jvm.Cond.code ({ cls := "java/util/ArrayList", name := "grow", desc := "()[Ljava/lang/Object;" } : Jvm.MethodName) prog_24_method_7_code (1 : Nat) (Option.some (Jvm.ClassFile.FieldType.array (Jvm.ClassFile.FieldType.object "java/lang/Object"))) ∈ gAll := gm 261 rfl rfl
set_option maxRecDepth 100000 in
theorem wd_262 : Jvm.Cond.methodLink "java/util/ArrayList" (69 : Nat) ({ cls := "java/util/ArrayList", name := "grow", desc := "(I)[Ljava/lang/Object;" } : Jvm.MethodName) ∈ gAll := gm 262 rfl rfl
set_option maxRecDepth 100000 in
theorem wd_264 : Jvm.Cond.instanceMethod ({ cls := "java/util/ArrayList", name := "grow", desc := "(I)[Ljava/lang/Object;" } : Jvm.MethodName) ∈ gAll := gm 264 rfl rfl
set_option maxRecDepth 100000 in
theorem wd_265 : Jvm.Cond.code ({ cls := "java/util/ArrayList", name := "grow", desc := "(I)[Ljava/lang/Object;" } : Jvm.MethodName) prog_24_method_6_code (4 : Nat) (Option.some (Jvm.ClassFile.FieldType.array (Jvm.ClassFile.FieldType.object "java/lang/Object"))) ∈ gAll := gm 265 rfl rfl
set_option maxRecDepth 100000 in
theorem wd_266 : Jvm.Cond.methodLink "java/util/ArrayList" (73 : Nat) ({ cls := "jdk/internal/util/ArraysSupport", name := "newLength", desc := "(III)I" } : Jvm.MethodName) ∈ gAll := gm 266 rfl rfl
set_option maxRecDepth 100000 in
theorem wd_267 : Jvm.Cond.static ({ cls := "jdk/internal/util/ArraysSupport", name := "newLength", desc := "(III)I" } : Jvm.MethodName) ∈ gAll := gm 267 rfl rfl
set_option maxRecDepth 100000 in
theorem wd_268 : Jvm.Cond.code ({ cls := "jdk/internal/util/ArraysSupport", name := "newLength", desc := "(III)I" } : Jvm.MethodName) prog_31_method_27_code (4 : Nat) (Option.some Jvm.ClassFile.FieldType.int) ∈ gAll := gm 268 rfl rfl
set_option maxRecDepth 100000 in
theorem wd_269 : Jvm.Cond.methodLink "jdk/internal/util/ArraysSupport" (194 : Nat) ({ cls := "java/lang/Math", name := "max", desc := "(II)I" } : Jvm.MethodName) ∈ gAll := gm 269 rfl rfl
set_option maxRecDepth 100000 in
theorem wd_270 : Jvm.Cond.static ({ cls := "java/lang/Math", name := "max", desc := "(II)I" } : Jvm.MethodName) ∈ gAll := gm 270 rfl rfl
set_option maxRecDepth 100000 in
theorem wd_271 : Jvm.Cond.code ({ cls := "java/lang/Math", name := "max", desc := "(II)I" } : Jvm.MethodName) prog_17_method_65_code (2 : Nat) (Option.some Jvm.ClassFile.FieldType.int) ∈ gAll := gm 271 rfl rfl
set_option maxRecDepth 100000 in
theorem wd_272 : Jvm.Cond.constant "jdk/internal/util/ArraysSupport" (200 : Nat) (2147483639 : Int32) ∈ gAll := gm 272 rfl rfl
set_option maxRecDepth 100000 in
theorem wd_273 : Jvm.Cond.methodLink "jdk/internal/util/ArraysSupport" (201 : Nat) ({ cls := "jdk/internal/util/ArraysSupport", name := "hugeLength", desc := "(II)I" } : Jvm.MethodName) ∈ gAll := gm 273 rfl rfl
set_option maxRecDepth 100000 in
theorem wd_274 : Jvm.Cond.static ({ cls := "jdk/internal/util/ArraysSupport", name := "hugeLength", desc := "(II)I" } : Jvm.MethodName) ∈ gAll := gm 274 rfl rfl
set_option maxRecDepth 100000 in
theorem wd_275 : Jvm.Cond.code ({ cls := "jdk/internal/util/ArraysSupport", name := "hugeLength", desc := "(II)I" } : Jvm.MethodName) prog_31_method_28_code (3 : Nat) (Option.some Jvm.ClassFile.FieldType.int) ∈ gAll := gm 275 rfl rfl
set_option maxRecDepth 100000 in
theorem wd_276 : Jvm.Cond.methodLink "java/util/ArrayList" (66 : Nat) ({ cls := "java/util/Arrays", name := "copyOf", desc := "([Ljava/lang/Object;I)[Ljava/lang/Object;" } : Jvm.MethodName) ∈ gAll := gm 276 rfl rfl
set_option maxRecDepth 100000 in
theorem wd_277 : Jvm.Cond.static ({ cls := "java/util/Arrays", name := "copyOf", desc := "([Ljava/lang/Object;I)[Ljava/lang/Object;" } : Jvm.MethodName) ∈ gAll := gm 277 rfl rfl
set_option maxRecDepth 100000 in
theorem wd_278 : Jvm.Cond.code ({ cls := "java/util/Arrays", name := "copyOf", desc := "([Ljava/lang/Object;I)[Ljava/lang/Object;" } : Jvm.MethodName) prog_25_method_119_code (2 : Nat) (Option.some (Jvm.ClassFile.FieldType.array (Jvm.ClassFile.FieldType.object "java/lang/Object"))) ∈ gAll := gm 278 rfl rfl
set_option maxRecDepth 100000 in
theorem wd_279 : Jvm.Cond.methodLink "java/util/Arrays" (86 : Nat) ({ cls := "java/lang/Object", name := "getClass", desc := "()Ljava/lang/Class;" } : Jvm.MethodName) ∈ gAll := gm 279 rfl rfl
set_option maxRecDepth 100000 in
theorem wd_280 : Jvm.Cond.instanceMethod ({ cls := "java/lang/Object", name := "getClass", desc := "()Ljava/lang/Class;" } : Jvm.MethodName) ∈ gAll := gm 280 rfl rfl
set_option maxRecDepth 100000 in
theorem wd_293 : Jvm.Cond.native ({ cls := "java/lang/Object", name := "getClass", desc := "()Ljava/lang/Class;" } : Jvm.MethodName) ∈ gAll := gm 293 rfl rfl
set_option maxRecDepth 100000 in
theorem wd_294 : Jvm.Cond.methodLink "java/util/Arrays" (300 : Nat) ({ cls := "java/util/Arrays", name := "copyOf", desc := "([Ljava/lang/Object;ILjava/lang/Class;)[Ljava/lang/Object;" } : Jvm.MethodName) ∈ gAll := gm 294 rfl rfl
set_option maxRecDepth 100000 in
theorem wd_295 : Jvm.Cond.static ({ cls := "java/util/Arrays", name := "copyOf", desc := "([Ljava/lang/Object;ILjava/lang/Class;)[Ljava/lang/Object;" } : Jvm.MethodName) ∈ gAll := gm 295 rfl rfl
set_option maxRecDepth 100000 in
theorem wd_296 : Jvm.Cond.code ({ cls := "java/util/Arrays", name := "copyOf", desc := "([Ljava/lang/Object;ILjava/lang/Class;)[Ljava/lang/Object;" } : Jvm.MethodName) prog_25_method_120_code (4 : Nat) (Option.some (Jvm.ClassFile.FieldType.array (Jvm.ClassFile.FieldType.object "java/lang/Object"))) ∈ gAll := gm 296 rfl rfl
set_option maxRecDepth 100000 in
theorem wd_297 : Jvm.Cond.classLink "java/util/Arrays" (110 : Nat) "[Ljava/lang/Object;" ∈ gAll := gm 297 rfl rfl
set_option maxRecDepth 100000 in
theorem wd_298 : Jvm.Cond.arrayOver (Jvm.ClassFile.FieldType.object "java/lang/Object") ∈ gAll := gm 298 rfl rfl
set_option maxRecDepth 100000 in
theorem wd_299 : Jvm.Cond.classLink "java/util/Arrays" (2 : Nat) "java/lang/Object" ∈ gAll := gm 299 rfl rfl
set_option maxRecDepth 100000 in
theorem wd_300 : Jvm.Cond.methodLink "java/util/Arrays" (304 : Nat) ({ cls := "java/lang/Math", name := "min", desc := "(II)I" } : Jvm.MethodName) ∈ gAll := gm 300 rfl rfl
set_option maxRecDepth 100000 in
theorem wd_301 : Jvm.Cond.static ({ cls := "java/lang/Math", name := "min", desc := "(II)I" } : Jvm.MethodName) ∈ gAll := gm 301 rfl rfl
set_option maxRecDepth 100000 in
theorem wd_302 : Jvm.Cond.code ({ cls := "java/lang/Math", name := "min", desc := "(II)I" } : Jvm.MethodName) prog_17_method_69_code (2 : Nat) (Option.some Jvm.ClassFile.FieldType.int) ∈ gAll := gm 302 rfl rfl
set_option maxRecDepth 100000 in
theorem wd_303 : Jvm.Cond.methodLink "java/util/Arrays" (150 : Nat) ({ cls := "java/lang/System", name := "arraycopy", desc := "(Ljava/lang/Object;ILjava/lang/Object;II)V" } : Jvm.MethodName) ∈ gAll := gm 303 rfl rfl
set_option maxRecDepth 100000 in
theorem wd_304 : Jvm.Cond.static ({ cls := "java/lang/System", name := "arraycopy", desc := "(Ljava/lang/Object;ILjava/lang/Object;II)V" } : Jvm.MethodName) ∈ gAll := gm 304 rfl rfl
set_option maxRecDepth 100000 in
theorem wd_305 : Jvm.Cond.native ({ cls := "java/lang/System", name := "arraycopy", desc := "(Ljava/lang/Object;ILjava/lang/Object;II)V" } : Jvm.MethodName) ∈ gAll := gm 305 rfl rfl
set_option maxRecDepth 100000 in
theorem wd_306 : Jvm.Cond.methodLink "java/util/ArrayList" (79 : Nat) ({ cls := "java/lang/Math", name := "max", desc := "(II)I" } : Jvm.MethodName) ∈ gAll := gm 306 rfl rfl
set_option maxRecDepth 100000 in
theorem wd_307 : Jvm.Cond.classLink "java/util/ArrayList" (7 : Nat) "java/lang/Object" ∈ gAll := gm 307 rfl rfl
set_option maxRecDepth 100000 in
theorem wd_316 : Jvm.Cond.methodLink "BodySolids" (272 : Nat) ({ cls := "BodySolids", name := "relationSlot", desc := "(II)I" } : Jvm.MethodName) ∈ gAll := gm 316 rfl rfl
set_option maxRecDepth 100000 in
theorem wd_317 : Jvm.Cond.static ({ cls := "BodySolids", name := "relationSlot", desc := "(II)I" } : Jvm.MethodName) ∈ gAll := gm 317 rfl rfl
set_option maxRecDepth 100000 in
theorem wd_318 : Jvm.Cond.code ({ cls := "BodySolids", name := "relationSlot", desc := "(II)I" } : Jvm.MethodName) prog_1_method_32_code (2 : Nat) (Option.some Jvm.ClassFile.FieldType.int) ∈ gAll := gm 318 rfl rfl
set_option maxRecDepth 100000 in
theorem wd_319 : Jvm.Cond.methodLink "BodySolids" (268 : Nat) ({ cls := "java/lang/Math", name := "min", desc := "(II)I" } : Jvm.MethodName) ∈ gAll := gm 319 rfl rfl
set_option maxRecDepth 100000 in
theorem wd_320 : Jvm.Cond.methodLink "BodySolids" (270 : Nat) ({ cls := "java/lang/Math", name := "max", desc := "(II)I" } : Jvm.MethodName) ∈ gAll := gm 320 rfl rfl
set_option maxRecDepth 100000 in
theorem wd_321 : Jvm.Cond.methodLink "BodySolids" (205 : Nat) ({ cls := "java/util/ArrayList", name := "get", desc := "(I)Ljava/lang/Object;" } : Jvm.MethodName) ∈ gAll := gm 321 rfl rfl
set_option maxRecDepth 100000 in
theorem wd_322 : Jvm.Cond.instanceMethod ({ cls := "java/util/ArrayList", name := "get", desc := "(I)Ljava/lang/Object;" } : Jvm.MethodName) ∈ gAll := gm 322 rfl rfl
set_option maxRecDepth 100000 in
theorem wd_323 : Jvm.Cond.selects "java/util/ArrayList" ({ cls := "java/util/ArrayList", name := "get", desc := "(I)Ljava/lang/Object;" } : Jvm.MethodName) ({ cls := "java/util/ArrayList", name := "get", desc := "(I)Ljava/lang/Object;" } : Jvm.MethodName) ∈ gAll := gm 323 rfl rfl
set_option maxRecDepth 100000 in
theorem wd_324 : Jvm.Cond.code ({ cls := "java/util/ArrayList", name := "get", desc := "(I)Ljava/lang/Object;" } : Jvm.MethodName) prog_24_method_20_code (2 : Nat) (Option.some (Jvm.ClassFile.FieldType.object "java/lang/Object")) ∈ gAll := gm 324 rfl rfl
set_option maxRecDepth 100000 in
theorem wd_325 : Jvm.Cond.methodLink "java/util/ArrayList" (118 : Nat) ({ cls := "java/util/Objects", name := "checkIndex", desc := "(II)I" } : Jvm.MethodName) ∈ gAll := gm 325 rfl rfl
set_option maxRecDepth 100000 in
theorem wd_326 : Jvm.Cond.static ({ cls := "java/util/Objects", name := "checkIndex", desc := "(II)I" } : Jvm.MethodName) ∈ gAll := gm 326 rfl rfl
set_option maxRecDepth 100000 in
theorem wd_327 : Jvm.Cond.code ({ cls := "java/util/Objects", name := "checkIndex", desc := "(II)I" } : Jvm.MethodName) prog_28_method_17_code (2 : Nat) (Option.some Jvm.ClassFile.FieldType.int) ∈ gAll := gm 327 rfl rfl
set_option maxRecDepth 100000 in
theorem wd_328 : Jvm.Cond.methodLink "java/util/Objects" (105 : Nat) ({ cls := "jdk/internal/util/Preconditions", name := "checkIndex", desc := "(IILjava/util/function/BiFunction;)I" } : Jvm.MethodName) ∈ gAll := gm 328 rfl rfl
set_option maxRecDepth 100000 in
theorem wd_329 : Jvm.Cond.static ({ cls := "jdk/internal/util/Preconditions", name := "checkIndex", desc := "(IILjava/util/function/BiFunction;)I" } : Jvm.MethodName) ∈ gAll := gm 329 rfl rfl
set_option maxRecDepth 100000 in
theorem wd_330 : Jvm.Cond.code ({ cls := "jdk/internal/util/Preconditions", name := "checkIndex", desc := "(IILjava/util/function/BiFunction;)I" } : Jvm.MethodName) prog_32_method_11_code (3 : Nat) (Option.some Jvm.ClassFile.FieldType.int) ∈ gAll := gm 330 rfl rfl
set_option maxRecDepth 100000 in
theorem wd_331 : Jvm.Cond.methodLink "java/util/ArrayList" (123 : Nat) ({ cls := "java/util/ArrayList", name := "elementData", desc := "(I)Ljava/lang/Object;" } : Jvm.MethodName) ∈ gAll := gm 331 rfl rfl
set_option maxRecDepth 100000 in
theorem wd_332 : Jvm.Cond.instanceMethod ({ cls := "java/util/ArrayList", name := "elementData", desc := "(I)Ljava/lang/Object;" } : Jvm.MethodName) ∈ gAll := gm 332 rfl rfl
set_option maxRecDepth 100000 in
theorem wd_333 : Jvm.Cond.selects "java/util/ArrayList" ({ cls := "java/util/ArrayList", name := "elementData", desc := "(I)Ljava/lang/Object;" } : Jvm.MethodName) ({ cls := "java/util/ArrayList", name := "elementData", desc := "(I)Ljava/lang/Object;" } : Jvm.MethodName) ∈ gAll := gm 333 rfl rfl
set_option maxRecDepth 100000 in
theorem wd_334 : Jvm.Cond.code ({ cls := "java/util/ArrayList", name := "elementData", desc := "(I)Ljava/lang/Object;" } : Jvm.MethodName) prog_24_method_18_code (2 : Nat) (Option.some (Jvm.ClassFile.FieldType.object "java/lang/Object")) ∈ gAll := gm 334 rfl rfl
set_option maxRecDepth 100000 in
theorem wd_335 : Jvm.Cond.classLink "BodySolids" (164 : Nat) "BodySolids$Placement" ∈ gAll := gm 335 rfl rfl
set_option maxRecDepth 100000 in
theorem wd_348 : Jvm.Cond.instanceMethod ({ cls := "BodySolids$Solid", name := "begin", desc := "(IJJ)V" } : Jvm.MethodName) ∈ gAll := gm 348 rfl rfl
set_option maxRecDepth 100000 in
theorem wd_349 : Jvm.Cond.selects "BodySolids$Solid" ({ cls := "BodySolids$Solid", name := "begin", desc := "(IJJ)V" } : Jvm.MethodName) ({ cls := "BodySolids$Solid", name := "begin", desc := "(IJJ)V" } : Jvm.MethodName) ∈ gAll := gm 349 rfl rfl
set_option maxRecDepth 100000 in
theorem wd_350 : Jvm.Cond.code ({ cls := "BodySolids$Solid", name := "begin", desc := "(IJJ)V" } : Jvm.MethodName) prog_7_method_2_code (6 : Nat) (Option.none : Option Jvm.ClassFile.FieldType) ∈ gAll := gm 350 rfl rfl
set_option maxRecDepth 100000 in
theorem wd_359 : Jvm.Cond.methodLink "BodySolids$Solid" (53 : Nat) ({ cls := "BodySolids$Solid", name := "addCorner", desc := "(JJ)V" } : Jvm.MethodName) ∈ gAll := gm 359 rfl rfl
set_option maxRecDepth 100000 in
theorem wd_360 : Jvm.Cond.instanceMethod ({ cls := "BodySolids$Solid", name := "addCorner", desc := "(JJ)V" } : Jvm.MethodName) ∈ gAll := gm 360 rfl rfl
set_option maxRecDepth 100000 in
theorem wd_361 : Jvm.Cond.selects "BodySolids$Solid" ({ cls := "BodySolids$Solid", name := "addCorner", desc := "(JJ)V" } : Jvm.MethodName) ({ cls := "BodySolids$Solid", name := "addCorner", desc := "(JJ)V" } : Jvm.MethodName) ∈ gAll := gm 361 rfl rfl
set_option maxRecDepth 100000 in
theorem wd_362 : Jvm.Cond.code ({ cls := "BodySolids$Solid", name := "addCorner", desc := "(JJ)V" } : Jvm.MethodName) prog_7_method_3_code (5 : Nat) (Option.none : Option Jvm.ClassFile.FieldType) ∈ gAll := gm 362 rfl rfl
set_option maxRecDepth 100000 in
theorem wd_363 : Jvm.Cond.methodLink "BodySolids$Solid" (35 : Nat) ({ cls := "java/lang/Math", name := "min", desc := "(JJ)J" } : Jvm.MethodName) ∈ gAll := gm 363 rfl rfl
set_option maxRecDepth 100000 in
theorem wd_364 : Jvm.Cond.methodLink "BodySolids$Solid" (47 : Nat) ({ cls := "java/lang/Math", name := "max", desc := "(JJ)J" } : Jvm.MethodName) ∈ gAll := gm 364 rfl rfl
set_option maxRecDepth 100000 in
theorem wd_366 : Jvm.Cond.instanceMethod ({ cls := "BodySolids$Solid", name := "setHeights", desc := "(JJ)V" } : Jvm.MethodName) ∈ gAll := gm 366 rfl rfl
set_option maxRecDepth 100000 in
theorem wd_367 : Jvm.Cond.selects "BodySolids$Solid" ({ cls := "BodySolids$Solid", name := "setHeights", desc := "(JJ)V" } : Jvm.MethodName) ({ cls := "BodySolids$Solid", name := "setHeights", desc := "(JJ)V" } : Jvm.MethodName) ∈ gAll := gm 367 rfl rfl
set_option maxRecDepth 100000 in
theorem wd_368 : Jvm.Cond.code ({ cls := "BodySolids$Solid", name := "setHeights", desc := "(JJ)V" } : Jvm.MethodName) prog_7_method_5_code (5 : Nat) (Option.none : Option Jvm.ClassFile.FieldType) ∈ gAll := gm 368 rfl rfl
set_option maxRecDepth 100000 in
theorem wd_425 : Jvm.Cond.static ({ cls := "BodySolidsLaw", name := "cell", desc := "([II)I" } : Jvm.MethodName) ∈ gAll := gm 425 rfl rfl
set_option maxRecDepth 100000 in
theorem wd_426 : Jvm.Cond.code ({ cls := "BodySolidsLaw", name := "cell", desc := "([II)I" } : Jvm.MethodName) method_2_code (2 : Nat) (Option.some Jvm.ClassFile.FieldType.int) ∈ gAll := gm 426 rfl rfl
set_option maxRecDepth 100000 in
theorem wd_428 : Jvm.Cond.static ({ cls := "BodySolidsLaw", name := "box", desc := "(LBodySolids;IJJJJJJ[J)I" } : Jvm.MethodName) ∈ gAll := gm 428 rfl rfl
set_option maxRecDepth 100000 in
theorem wd_429 : Jvm.Cond.codeWith ({ cls := "BodySolidsLaw", name := "box", desc := "(LBodySolids;IJJJJJJ[J)I" } : Jvm.MethodName) method_3_code (16 : Nat) (Option.some Jvm.ClassFile.FieldType.int) [((0 : Nat), (28 : Nat), (31 : Nat), (13 : Nat)), ((0 : Nat), (28 : Nat), (35 : Nat), (15 : Nat))] ∈ gAll := gm 429 rfl rfl
set_option maxRecDepth 100000 in
theorem wd_430 : Jvm.Cond.classLink "BodySolidsLaw" (13 : Nat) "java/lang/IndexOutOfBoundsException" ∈ gAll := gm 430 rfl rfl
set_option maxRecDepth 100000 in
theorem wd_431 : Jvm.Cond.classLink "BodySolidsLaw" (15 : Nat) "java/lang/IllegalArgumentException" ∈ gAll := gm 431 rfl rfl
set_option maxRecDepth 100000 in
theorem wd_432 : Jvm.Cond.methodLink "BodySolidsLaw" (7 : Nat) ({ cls := "BodySolids", name := "box", desc := "(IJJJJJJ)Z" } : Jvm.MethodName) ∈ gAll := gm 432 rfl rfl
set_option maxRecDepth 100000 in
theorem wd_433 : Jvm.Cond.instanceMethod ({ cls := "BodySolids", name := "box", desc := "(IJJJJJJ)Z" } : Jvm.MethodName) ∈ gAll := gm 433 rfl rfl
set_option maxRecDepth 100000 in
theorem wd_434 : Jvm.Cond.selects "BodySolids" ({ cls := "BodySolids", name := "box", desc := "(IJJJJJJ)Z" } : Jvm.MethodName) ({ cls := "BodySolids", name := "box", desc := "(IJJJJJJ)Z" } : Jvm.MethodName) ∈ gAll := gm 434 rfl rfl
set_option maxRecDepth 100000 in
theorem wd_435 : Jvm.Cond.code ({ cls := "BodySolids", name := "box", desc := "(IJJJJJJ)Z" } : Jvm.MethodName) prog_1_method_3_code (16 : Nat) (Option.some Jvm.ClassFile.FieldType.boolean) ∈ gAll := gm 435 rfl rfl
set_option maxRecDepth 100000 in
theorem wd_436 : Jvm.Cond.methodLink "BodySolids" (79 : Nat) ({ cls := "BodySolids", name := "bodyAt", desc := "(I)LBodySolids$Body;" } : Jvm.MethodName) ∈ gAll := gm 436 rfl rfl
set_option maxRecDepth 100000 in
theorem wd_438 : Jvm.Cond.instanceMethod ({ cls := "BodySolids", name := "bodyAt", desc := "(I)LBodySolids$Body;" } : Jvm.MethodName) ∈ gAll := gm 438 rfl rfl
set_option maxRecDepth 100000 in
theorem wd_439 : Jvm.Cond.code ({ cls := "BodySolids", name := "bodyAt", desc := "(I)LBodySolids$Body;" } : Jvm.MethodName) prog_1_method_25_code (2 : Nat) (Option.some (Jvm.ClassFile.FieldType.object "BodySolids$Body")) ∈ gAll := gm 439 rfl rfl
set_option maxRecDepth 100000 in
theorem wd_440 : Jvm.Cond.methodLink "BodySolids" (190 : Nat) ({ cls := "BodySolids", name := "needIndex", desc := "(II)V" } : Jvm.MethodName) ∈ gAll := gm 440 rfl rfl
set_option maxRecDepth 100000 in
theorem wd_441 : Jvm.Cond.static ({ cls := "BodySolids", name := "needIndex", desc := "(II)V" } : Jvm.MethodName) ∈ gAll := gm 441 rfl rfl
set_option maxRecDepth 100000 in
theorem wd_442 : Jvm.Cond.code ({ cls := "BodySolids", name := "needIndex", desc := "(II)V" } : Jvm.MethodName) prog_1_method_19_code (2 : Nat) (Option.none : Option Jvm.ClassFile.FieldType) ∈ gAll := gm 442 rfl rfl
set_option maxRecDepth 100000 in
theorem wd_443 : Jvm.Cond.classLink "BodySolids" (247 : Nat) "java/lang/IndexOutOfBoundsException" ∈ gAll := gm 443 rfl rfl
set_option maxRecDepth 100000 in
theorem wd_511 : Jvm.Cond.methodLink "BodySolids" (83 : Nat) ({ cls := "BodySolids", name := "needPlace", desc := "(JJ)V" } : Jvm.MethodName) ∈ gAll := gm 511 rfl rfl
set_option maxRecDepth 100000 in
theorem wd_512 : Jvm.Cond.static ({ cls := "BodySolids", name := "needPlace", desc := "(JJ)V" } : Jvm.MethodName) ∈ gAll := gm 512 rfl rfl
set_option maxRecDepth 100000 in
theorem wd_513 : Jvm.Cond.code ({ cls := "BodySolids", name := "needPlace", desc := "(JJ)V" } : Jvm.MethodName) prog_1_method_21_code (4 : Nat) (Option.none : Option Jvm.ClassFile.FieldType) ∈ gAll := gm 513 rfl rfl
set_option maxRecDepth 100000 in
theorem wd_514 : Jvm.Cond.constantLong "BodySolids" (257 : Nat) (-5000 : Int64) ∈ gAll := gm 514 rfl rfl
set_option maxRecDepth 100000 in
theorem wd_515 : Jvm.Cond.constantLong "BodySolids" (148 : Nat) (5000 : Int64) ∈ gAll := gm 515 rfl rfl
set_option maxRecDepth 100000 in
theorem wd_516 : Jvm.Cond.methodLink "BodySolids" (138 : Nat) ({ cls := "BodySolids", name := "needWithin", desc := "(JJJ)V" } : Jvm.MethodName) ∈ gAll := gm 516 rfl rfl
set_option maxRecDepth 100000 in
theorem wd_517 : Jvm.Cond.static ({ cls := "BodySolids", name := "needWithin", desc := "(JJJ)V" } : Jvm.MethodName) ∈ gAll := gm 517 rfl rfl
set_option maxRecDepth 100000 in
theorem wd_518 : Jvm.Cond.code ({ cls := "BodySolids", name := "needWithin", desc := "(JJJ)V" } : Jvm.MethodName) prog_1_method_20_code (6 : Nat) (Option.none : Option Jvm.ClassFile.FieldType) ∈ gAll := gm 518 rfl rfl
set_option maxRecDepth 100000 in
theorem wd_519 : Jvm.Cond.classLink "BodySolids" (252 : Nat) "java/lang/IllegalArgumentException" ∈ gAll := gm 519 rfl rfl
set_option maxRecDepth 100000 in
theorem wd_535 : Jvm.Cond.methodLink "BodySolids" (87 : Nat) ({ cls := "BodySolids", name := "needSize", desc := "(J)V" } : Jvm.MethodName) ∈ gAll := gm 535 rfl rfl
set_option maxRecDepth 100000 in
theorem wd_536 : Jvm.Cond.static ({ cls := "BodySolids", name := "needSize", desc := "(J)V" } : Jvm.MethodName) ∈ gAll := gm 536 rfl rfl
set_option maxRecDepth 100000 in
theorem wd_537 : Jvm.Cond.code ({ cls := "BodySolids", name := "needSize", desc := "(J)V" } : Jvm.MethodName) prog_1_method_22_code (2 : Nat) (Option.none : Option Jvm.ClassFile.FieldType) ∈ gAll := gm 537 rfl rfl
set_option maxRecDepth 100000 in
theorem wd_538 : Jvm.Cond.methodLink "BodySolids" (91 : Nat) ({ cls := "BodySolids", name := "needUpright", desc := "(JJ)V" } : Jvm.MethodName) ∈ gAll := gm 538 rfl rfl
set_option maxRecDepth 100000 in
theorem wd_539 : Jvm.Cond.static ({ cls := "BodySolids", name := "needUpright", desc := "(JJ)V" } : Jvm.MethodName) ∈ gAll := gm 539 rfl rfl
set_option maxRecDepth 100000 in
theorem wd_540 : Jvm.Cond.code ({ cls := "BodySolids", name := "needUpright", desc := "(JJ)V" } : Jvm.MethodName) prog_1_method_23_code (4 : Nat) (Option.none : Option Jvm.ClassFile.FieldType) ∈ gAll := gm 540 rfl rfl
set_option maxRecDepth 100000 in
theorem wd_541 : Jvm.Cond.methodLink "BodySolids" (94 : Nat) ({ cls := "BodySolids$Body", name := "isFull", desc := "()Z" } : Jvm.MethodName) ∈ gAll := gm 541 rfl rfl
set_option maxRecDepth 100000 in
theorem wd_542 : Jvm.Cond.instanceMethod ({ cls := "BodySolids$Body", name := "isFull", desc := "()Z" } : Jvm.MethodName) ∈ gAll := gm 542 rfl rfl
set_option maxRecDepth 100000 in
theorem wd_543 : Jvm.Cond.selects "BodySolids$Body" ({ cls := "BodySolids$Body", name := "isFull", desc := "()Z" } : Jvm.MethodName) ({ cls := "BodySolids$Body", name := "isFull", desc := "()Z" } : Jvm.MethodName) ∈ gAll := gm 543 rfl rfl
set_option maxRecDepth 100000 in
theorem wd_544 : Jvm.Cond.code ({ cls := "BodySolids$Body", name := "isFull", desc := "()Z" } : Jvm.MethodName) prog_2_method_2_code (1 : Nat) (Option.some Jvm.ClassFile.FieldType.boolean) ∈ gAll := gm 544 rfl rfl
set_option maxRecDepth 100000 in
theorem wd_545 : Jvm.Cond.methodLink "BodySolids$Body" (22 : Nat) ({ cls := "java/util/ArrayList", name := "size", desc := "()I" } : Jvm.MethodName) ∈ gAll := gm 545 rfl rfl
set_option maxRecDepth 100000 in
theorem wd_546 : Jvm.Cond.classLink "BodySolids" (98 : Nat) "BodySolids$Solid" ∈ gAll := gm 546 rfl rfl
set_option maxRecDepth 100000 in
theorem wd_547 : Jvm.Cond.methodLinkNest "BodySolids" (100 : Nat) ({ cls := "BodySolids$Solid", name := "<init>", desc := "()V" } : Jvm.MethodName) "BodySolids" ∈ gAll := gm 547 rfl rfl
set_option maxRecDepth 100000 in
theorem wd_548 : Jvm.Cond.methodLink "BodySolids" (101 : Nat) ({ cls := "BodySolids$Solid", name := "begin", desc := "(IJJ)V" } : Jvm.MethodName) ∈ gAll := gm 548 rfl rfl
set_option maxRecDepth 100000 in
theorem wd_549 : Jvm.Cond.methodLink "BodySolids" (105 : Nat) ({ cls := "BodySolids$Solid", name := "addRectangle", desc := "(JJJJ)V" } : Jvm.MethodName) ∈ gAll := gm 549 rfl rfl
set_option maxRecDepth 100000 in
theorem wd_550 : Jvm.Cond.instanceMethod ({ cls := "BodySolids$Solid", name := "addRectangle", desc := "(JJJJ)V" } : Jvm.MethodName) ∈ gAll := gm 550 rfl rfl
set_option maxRecDepth 100000 in
theorem wd_551 : Jvm.Cond.selects "BodySolids$Solid" ({ cls := "BodySolids$Solid", name := "addRectangle", desc := "(JJJJ)V" } : Jvm.MethodName) ({ cls := "BodySolids$Solid", name := "addRectangle", desc := "(JJJJ)V" } : Jvm.MethodName) ∈ gAll := gm 551 rfl rfl
set_option maxRecDepth 100000 in
theorem wd_552 : Jvm.Cond.code ({ cls := "BodySolids$Solid", name := "addRectangle", desc := "(JJJJ)V" } : Jvm.MethodName) prog_7_method_4_code (9 : Nat) (Option.none : Option Jvm.ClassFile.FieldType) ∈ gAll := gm 552 rfl rfl
set_option maxRecDepth 100000 in
theorem wd_553 : Jvm.Cond.methodLink "BodySolids" (109 : Nat) ({ cls := "BodySolids$Solid", name := "setHeights", desc := "(JJ)V" } : Jvm.MethodName) ∈ gAll := gm 553 rfl rfl
set_option maxRecDepth 100000 in
theorem wd_554 : Jvm.Cond.constantLong "BodySolids" (112 : Nat) (226 : Int64) ∈ gAll := gm 554 rfl rfl
set_option maxRecDepth 100000 in
theorem wd_555 : Jvm.Cond.methodLink "BodySolids" (114 : Nat) ({ cls := "BodySolids$Body", name := "add", desc := "(LBodySolids$Solid;J)V" } : Jvm.MethodName) ∈ gAll := gm 555 rfl rfl
set_option maxRecDepth 100000 in
theorem wd_556 : Jvm.Cond.instanceMethod ({ cls := "BodySolids$Body", name := "add", desc := "(LBodySolids$Solid;J)V" } : Jvm.MethodName) ∈ gAll := gm 556 rfl rfl
set_option maxRecDepth 100000 in
theorem wd_557 : Jvm.Cond.selects "BodySolids$Body" ({ cls := "BodySolids$Body", name := "add", desc := "(LBodySolids$Solid;J)V" } : Jvm.MethodName) ({ cls := "BodySolids$Body", name := "add", desc := "(LBodySolids$Solid;J)V" } : Jvm.MethodName) ∈ gAll := gm 557 rfl rfl
set_option maxRecDepth 100000 in
theorem wd_558 : Jvm.Cond.code ({ cls := "BodySolids$Body", name := "add", desc := "(LBodySolids$Solid;J)V" } : Jvm.MethodName) prog_2_method_3_code (4 : Nat) (Option.none : Option Jvm.ClassFile.FieldType) ∈ gAll := gm 558 rfl rfl
set_option maxRecDepth 100000 in
theorem wd_559 : Jvm.Cond.methodLink "BodySolids$Body" (26 : Nat) ({ cls := "java/util/ArrayList", name := "add", desc := "(Ljava/lang/Object;)Z" } : Jvm.MethodName) ∈ gAll := gm 559 rfl rfl
set_option maxRecDepth 100000 in
theorem wd_560 : Jvm.Cond.methodLink "BodySolids" (118 : Nat) ({ cls := "BodySolids", name := "forgetRelationsOf", desc := "(LBodySolids$Body;)V" } : Jvm.MethodName) ∈ gAll := gm 560 rfl rfl
set_option maxRecDepth 100000 in
theorem wd_562 : Jvm.Cond.instanceMethod ({ cls := "BodySolids", name := "forgetRelationsOf", desc := "(LBodySolids$Body;)V" } : Jvm.MethodName) ∈ gAll := gm 562 rfl rfl
set_option maxRecDepth 100000 in
theorem wd_563 : Jvm.Cond.code ({ cls := "BodySolids", name := "forgetRelationsOf", desc := "(LBodySolids$Body;)V" } : Jvm.MethodName) prog_1_method_34_code (3 : Nat) (Option.none : Option Jvm.ClassFile.FieldType) ∈ gAll := gm 563 rfl rfl
set_option maxRecDepth 100000 in
theorem wd_564 : Jvm.Cond.methodLink "BodySolids" (182 : Nat) ({ cls := "BodySolids", name := "forgetRelationsAt", desc := "(I)V" } : Jvm.MethodName) ∈ gAll := gm 564 rfl rfl
set_option maxRecDepth 100000 in
theorem wd_566 : Jvm.Cond.instanceMethod ({ cls := "BodySolids", name := "forgetRelationsAt", desc := "(I)V" } : Jvm.MethodName) ∈ gAll := gm 566 rfl rfl
set_option maxRecDepth 100000 in
theorem wd_567 : Jvm.Cond.code ({ cls := "BodySolids", name := "forgetRelationsAt", desc := "(I)V" } : Jvm.MethodName) prog_1_method_33_code (3 : Nat) (Option.none : Option Jvm.ClassFile.FieldType) ∈ gAll := gm 567 rfl rfl
set_option maxRecDepth 100000 in
theorem wd_575 : Jvm.Cond.methodLink "BodySolids" (122 : Nat) ({ cls := "BodySolids$Solid", name := "addCorner", desc := "(JJ)V" } : Jvm.MethodName) ∈ gAll := gm 575 rfl rfl
set_option maxRecDepth 100000 in
theorem wd_578 : Jvm.Cond.static ({ cls := "BodySolidsLaw", name := "corner", desc := "(LBodySolids;JJ[J)I" } : Jvm.MethodName) ∈ gAll := gm 578 rfl rfl
set_option maxRecDepth 100000 in
theorem wd_579 : Jvm.Cond.codeWith ({ cls := "BodySolidsLaw", name := "corner", desc := "(LBodySolids;JJ[J)I" } : Jvm.MethodName) method_5_code (7 : Nat) (Option.some Jvm.ClassFile.FieldType.int) [((0 : Nat), (18 : Nat), (21 : Nat), (15 : Nat))] ∈ gAll := gm 579 rfl rfl
set_option maxRecDepth 100000 in
theorem wd_580 : Jvm.Cond.methodLink "BodySolidsLaw" (21 : Nat) ({ cls := "BodySolids", name := "corner", desc := "(JJ)Z" } : Jvm.MethodName) ∈ gAll := gm 580 rfl rfl
set_option maxRecDepth 100000 in
theorem wd_581 : Jvm.Cond.instanceMethod ({ cls := "BodySolids", name := "corner", desc := "(JJ)Z" } : Jvm.MethodName) ∈ gAll := gm 581 rfl rfl
set_option maxRecDepth 100000 in
theorem wd_582 : Jvm.Cond.selects "BodySolids" ({ cls := "BodySolids", name := "corner", desc := "(JJ)Z" } : Jvm.MethodName) ({ cls := "BodySolids", name := "corner", desc := "(JJ)Z" } : Jvm.MethodName) ∈ gAll := gm 582 rfl rfl
set_option maxRecDepth 100000 in
theorem wd_583 : Jvm.Cond.code ({ cls := "BodySolids", name := "corner", desc := "(JJ)Z" } : Jvm.MethodName) prog_1_method_5_code (5 : Nat) (Option.some Jvm.ClassFile.FieldType.boolean) ∈ gAll := gm 583 rfl rfl
set_option maxRecDepth 100000 in
theorem wd_585 : Jvm.Cond.static ({ cls := "BodySolidsLaw", name := "prism", desc := "(LBodySolids;IJJ[J)I" } : Jvm.MethodName) ∈ gAll := gm 585 rfl rfl
set_option maxRecDepth 100000 in
theorem wd_586 : Jvm.Cond.codeWith ({ cls := "BodySolidsLaw", name := "prism", desc := "(LBodySolids;IJJ[J)I" } : Jvm.MethodName) method_6_code (8 : Nat) (Option.some Jvm.ClassFile.FieldType.int) [((0 : Nat), (20 : Nat), (23 : Nat), (13 : Nat)), ((0 : Nat), (20 : Nat), (27 : Nat), (15 : Nat))] ∈ gAll := gm 586 rfl rfl
set_option maxRecDepth 100000 in
theorem wd_587 : Jvm.Cond.methodLink "BodySolidsLaw" (25 : Nat) ({ cls := "BodySolids", name := "prism", desc := "(IJJ)Z" } : Jvm.MethodName) ∈ gAll := gm 587 rfl rfl
set_option maxRecDepth 100000 in
theorem wd_588 : Jvm.Cond.instanceMethod ({ cls := "BodySolids", name := "prism", desc := "(IJJ)Z" } : Jvm.MethodName) ∈ gAll := gm 588 rfl rfl
set_option maxRecDepth 100000 in
theorem wd_589 : Jvm.Cond.selects "BodySolids" ({ cls := "BodySolids", name := "prism", desc := "(IJJ)Z" } : Jvm.MethodName) ({ cls := "BodySolids", name := "prism", desc := "(IJJ)Z" } : Jvm.MethodName) ∈ gAll := gm 589 rfl rfl
set_option maxRecDepth 100000 in
theorem wd_590 : Jvm.Cond.code ({ cls := "BodySolids", name := "prism", desc := "(IJJ)Z" } : Jvm.MethodName) prog_1_method_6_code (9 : Nat) (Option.some Jvm.ClassFile.FieldType.boolean) ∈ gAll := gm 590 rfl rfl
set_option maxRecDepth 100000 in
theorem wd_591 : Jvm.Cond.methodLink "BodySolids" (127 : Nat) ({ cls := "BodySolids", name := "cornersMakePolygon", desc := "()Z" } : Jvm.MethodName) ∈ gAll := gm 591 rfl rfl
set_option maxRecDepth 100000 in
theorem wd_593 : Jvm.Cond.instanceMethod ({ cls := "BodySolids", name := "cornersMakePolygon", desc := "()Z" } : Jvm.MethodName) ∈ gAll := gm 593 rfl rfl
set_option maxRecDepth 100000 in
theorem wd_594 : Jvm.Cond.code ({ cls := "BodySolids", name := "cornersMakePolygon", desc := "()Z" } : Jvm.MethodName) prog_1_method_28_code (2 : Nat) (Option.some Jvm.ClassFile.FieldType.boolean) ∈ gAll := gm 594 rfl rfl
set_option maxRecDepth 100000 in
theorem wd_595 : Jvm.Cond.methodLink "BodySolids" (261 : Nat) ({ cls := "BodySolids", name := "othersLieLeftOfSide", desc := "(II)Z" } : Jvm.MethodName) ∈ gAll := gm 595 rfl rfl
set_option maxRecDepth 100000 in
theorem wd_597 : Jvm.Cond.instanceMethod ({ cls := "BodySolids", name := "othersLieLeftOfSide", desc := "(II)Z" } : Jvm.MethodName) ∈ gAll := gm 597 rfl rfl
set_option maxRecDepth 100000 in
theorem wd_598 : Jvm.Cond.code ({ cls := "BodySolids", name := "othersLieLeftOfSide", desc := "(II)Z" } : Jvm.MethodName) prog_1_method_29_code (4 : Nat) (Option.some Jvm.ClassFile.FieldType.boolean) ∈ gAll := gm 598 rfl rfl
set_option maxRecDepth 100000 in
theorem wd_599 : Jvm.Cond.methodLink "BodySolids" (265 : Nat) ({ cls := "BodySolids", name := "turnAt", desc := "(III)J" } : Jvm.MethodName) ∈ gAll := gm 599 rfl rfl
set_option maxRecDepth 100000 in
theorem wd_601 : Jvm.Cond.instanceMethod ({ cls := "BodySolids", name := "turnAt", desc := "(III)J" } : Jvm.MethodName) ∈ gAll := gm 601 rfl rfl
set_option maxRecDepth 100000 in
theorem wd_602 : Jvm.Cond.code ({ cls := "BodySolids", name := "turnAt", desc := "(III)J" } : Jvm.MethodName) prog_1_method_31_code (4 : Nat) (Option.some Jvm.ClassFile.FieldType.long) ∈ gAll := gm 602 rfl rfl
set_option maxRecDepth 100000 in
theorem wd_603 : Jvm.Cond.constantLong "BodySolids" (130 : Nat) (113 : Int64) ∈ gAll := gm 603 rfl rfl
set_option maxRecDepth 100000 in
theorem wd_604 : Jvm.Cond.methodLink "BodySolids" (132 : Nat) ({ cls := "BodySolids", name := "twiceAreaOfCorners", desc := "()J" } : Jvm.MethodName) ∈ gAll := gm 604 rfl rfl
set_option maxRecDepth 100000 in
theorem wd_606 : Jvm.Cond.instanceMethod ({ cls := "BodySolids", name := "twiceAreaOfCorners", desc := "()J" } : Jvm.MethodName) ∈ gAll := gm 606 rfl rfl
set_option maxRecDepth 100000 in
theorem wd_607 : Jvm.Cond.code ({ cls := "BodySolids", name := "twiceAreaOfCorners", desc := "()J" } : Jvm.MethodName) prog_1_method_30_code (4 : Nat) (Option.some Jvm.ClassFile.FieldType.long) ∈ gAll := gm 607 rfl rfl
set_option maxRecDepth 100000 in
theorem wd_623 : Jvm.Cond.static ({ cls := "BodySolidsLaw", name := "join", desc := "(LBodySolids;II[J)I" } : Jvm.MethodName) ∈ gAll := gm 623 rfl rfl
set_option maxRecDepth 100000 in
theorem wd_624 : Jvm.Cond.codeWith ({ cls := "BodySolidsLaw", name := "join", desc := "(LBodySolids;II[J)I" } : Jvm.MethodName) method_8_code (5 : Nat) (Option.some Jvm.ClassFile.FieldType.int) [((0 : Nat), (10 : Nat), (13 : Nat), (13 : Nat))] ∈ gAll := gm 624 rfl rfl
set_option maxRecDepth 100000 in
theorem wd_625 : Jvm.Cond.methodLink "BodySolidsLaw" (33 : Nat) ({ cls := "BodySolids", name := "join", desc := "(II)I" } : Jvm.MethodName) ∈ gAll := gm 625 rfl rfl
set_option maxRecDepth 100000 in
theorem wd_626 : Jvm.Cond.instanceMethod ({ cls := "BodySolids", name := "join", desc := "(II)I" } : Jvm.MethodName) ∈ gAll := gm 626 rfl rfl
set_option maxRecDepth 100000 in
theorem wd_627 : Jvm.Cond.selects "BodySolids" ({ cls := "BodySolids", name := "join", desc := "(II)I" } : Jvm.MethodName) ({ cls := "BodySolids", name := "join", desc := "(II)I" } : Jvm.MethodName) ∈ gAll := gm 627 rfl rfl
set_option maxRecDepth 100000 in
theorem wd_628 : Jvm.Cond.code ({ cls := "BodySolids", name := "join", desc := "(II)I" } : Jvm.MethodName) prog_1_method_8_code (6 : Nat) (Option.some Jvm.ClassFile.FieldType.int) ∈ gAll := gm 628 rfl rfl
set_option maxRecDepth 100000 in
theorem wd_629 : Jvm.Cond.methodLink "BodySolids" (157 : Nat) ({ cls := "BodySolids$Body", name := "addAllOf", desc := "(LBodySolids$Body;)V" } : Jvm.MethodName) ∈ gAll := gm 629 rfl rfl
set_option maxRecDepth 100000 in
theorem wd_630 : Jvm.Cond.instanceMethod ({ cls := "BodySolids$Body", name := "addAllOf", desc := "(LBodySolids$Body;)V" } : Jvm.MethodName) ∈ gAll := gm 630 rfl rfl
set_option maxRecDepth 100000 in
theorem wd_631 : Jvm.Cond.selects "BodySolids$Body" ({ cls := "BodySolids$Body", name := "addAllOf", desc := "(LBodySolids$Body;)V" } : Jvm.MethodName) ({ cls := "BodySolids$Body", name := "addAllOf", desc := "(LBodySolids$Body;)V" } : Jvm.MethodName) ∈ gAll := gm 631 rfl rfl
set_option maxRecDepth 100000 in
theorem wd_632 : Jvm.Cond.code ({ cls := "BodySolids$Body", name := "addAllOf", desc := "(LBodySolids$Body;)V" } : Jvm.MethodName) prog_2_method_4_code (3 : Nat) (Option.none : Option Jvm.ClassFile.FieldType) ∈ gAll := gm 632 rfl rfl
set_option maxRecDepth 100000 in
theorem wd_633 : Jvm.Cond.methodLink "BodySolids$Body" (30 : Nat) ({ cls := "java/util/ArrayList", name := "get", desc := "(I)Ljava/lang/Object;" } : Jvm.MethodName) ∈ gAll := gm 633 rfl rfl
set_option maxRecDepth 100000 in
theorem wd_634 : Jvm.Cond.classLink "BodySolids$Body" (34 : Nat) "BodySolids$Solid" ∈ gAll := gm 634 rfl rfl
set_option maxRecDepth 100000 in
theorem wd_646 : Jvm.Cond.instantiable "BodySolids$Placement" (5 : Nat) ∈ gAll := gm 646 rfl rfl
set_option maxRecDepth 100000 in
theorem wd_653 : Jvm.Cond.fieldLink "BodySolids" (275 : Nat) "BodySolids$Placement" "body" "LBodySolids$Body;" ∈ gAll := gm 653 rfl rfl
set_option maxRecDepth 100000 in
theorem wd_714 : Jvm.Cond.instantiable "BodySolids$KeepOut" (2 : Nat) ∈ gAll := gm 714 rfl rfl
set_option maxRecDepth 100000 in
theorem wd_780 : Jvm.Cond.instantiable "BodySolidsModel" (27 : Nat) ∈ gAll := gm 780 rfl rfl
set_option maxRecDepth 100000 in
theorem wd_782 : Jvm.Cond.instanceMethod ({ cls := "BodySolidsModel", name := "<init>", desc := "(J)V" } : Jvm.MethodName) ∈ gAll := gm 782 rfl rfl
set_option maxRecDepth 100000 in
theorem wd_783 : Jvm.Cond.code ({ cls := "BodySolidsModel", name := "<init>", desc := "(J)V" } : Jvm.MethodName) prog_9_method_1_code (3 : Nat) (Option.none : Option Jvm.ClassFile.FieldType) ∈ gAll := gm 783 rfl rfl
set_option maxRecDepth 100000 in
theorem wd_784 : Jvm.Cond.methodLink "BodySolidsModel" (1 : Nat) ({ cls := "java/lang/Object", name := "<init>", desc := "()V" } : Jvm.MethodName) ∈ gAll := gm 784 rfl rfl
set_option maxRecDepth 100000 in
theorem wd_785 : Jvm.Cond.constantLong "BodySolidsModel" (74 : Nat) (1000 : Int64) ∈ gAll := gm 785 rfl rfl
set_option maxRecDepth 100000 in
theorem wd_786 : Jvm.Cond.fieldLink "BodySolidsModel" (80 : Nat) "BodySolidsModel" "thrown" "I" ∈ gAll := gm 786 rfl rfl
set_option maxRecDepth 100000 in
theorem wd_787 : Jvm.Cond.fieldLink "BodySolidsModel" (76 : Nat) "BodySolidsModel" "thickness" "J" ∈ gAll := gm 787 rfl rfl
set_option maxRecDepth 100000 in
theorem wd_788 : Jvm.Cond.fieldLink "BodySolidsModel" (92 : Nat) "BodySolidsModel" "bodies" "I" ∈ gAll := gm 788 rfl rfl
set_option maxRecDepth 100000 in
theorem wd_789 : Jvm.Cond.fieldLink "BodySolidsModel" (7 : Nat) "BodySolidsModel" "counts" "[I" ∈ gAll := gm 789 rfl rfl
set_option maxRecDepth 100000 in
theorem wd_790 : Jvm.Cond.fieldLink "BodySolidsModel" (13 : Nat) "BodySolidsModel" "kinds" "[I" ∈ gAll := gm 790 rfl rfl
set_option maxRecDepth 100000 in
theorem wd_791 : Jvm.Cond.fieldLink "BodySolidsModel" (16 : Nat) "BodySolidsModel" "numbers" "[J" ∈ gAll := gm 791 rfl rfl
set_option maxRecDepth 100000 in
theorem wd_792 : Jvm.Cond.fieldLink "BodySolidsModel" (20 : Nat) "BodySolidsModel" "cornerCounts" "[I" ∈ gAll := gm 792 rfl rfl
set_option maxRecDepth 100000 in
theorem wd_793 : Jvm.Cond.fieldLink "BodySolidsModel" (23 : Nat) "BodySolidsModel" "cornerX" "[J" ∈ gAll := gm 793 rfl rfl
set_option maxRecDepth 100000 in
theorem wd_794 : Jvm.Cond.fieldLink "BodySolidsModel" (26 : Nat) "BodySolidsModel" "cornerY" "[J" ∈ gAll := gm 794 rfl rfl
set_option maxRecDepth 100000 in
theorem wd_795 : Jvm.Cond.fieldLink "BodySolidsModel" (121 : Nat) "BodySolidsModel" "told" "I" ∈ gAll := gm 795 rfl rfl
set_option maxRecDepth 100000 in
theorem wd_796 : Jvm.Cond.fieldLink "BodySolidsModel" (29 : Nat) "BodySolidsModel" "toldX" "[J" ∈ gAll := gm 796 rfl rfl
set_option maxRecDepth 100000 in
theorem wd_797 : Jvm.Cond.fieldLink "BodySolidsModel" (32 : Nat) "BodySolidsModel" "toldY" "[J" ∈ gAll := gm 797 rfl rfl
set_option maxRecDepth 100000 in
theorem wd_799 : Jvm.Cond.fieldLink "BodySolidsModel" (35 : Nat) "BodySolidsModel" "placed" "[I" ∈ gAll := gm 799 rfl rfl
set_option maxRecDepth 100000 in
theorem wd_800 : Jvm.Cond.fieldLink "BodySolidsModel" (38 : Nat) "BodySolidsModel" "placeX" "[J" ∈ gAll := gm 800 rfl rfl
set_option maxRecDepth 100000 in
theorem wd_801 : Jvm.Cond.fieldLink "BodySolidsModel" (41 : Nat) "BodySolidsModel" "placeY" "[J" ∈ gAll := gm 801 rfl rfl
set_option maxRecDepth 100000 in
theorem wd_802 : Jvm.Cond.fieldLink "BodySolidsModel" (44 : Nat) "BodySolidsModel" "turns" "[I" ∈ gAll := gm 802 rfl rfl
set_option maxRecDepth 100000 in
theorem wd_803 : Jvm.Cond.fieldLink "BodySolidsModel" (47 : Nat) "BodySolidsModel" "sides" "[I" ∈ gAll := gm 803 rfl rfl
set_option maxRecDepth 100000 in
theorem wd_805 : Jvm.Cond.fieldLink "BodySolidsModel" (50 : Nat) "BodySolidsModel" "out" "[J" ∈ gAll := gm 805 rfl rfl
set_option maxRecDepth 100000 in
theorem wd_806 : Jvm.Cond.fieldLink "BodySolidsModel" (53 : Nat) "BodySolidsModel" "kindAt" "[I" ∈ gAll := gm 806 rfl rfl
set_option maxRecDepth 100000 in
theorem wd_807 : Jvm.Cond.fieldLink "BodySolidsModel" (56 : Nat) "BodySolidsModel" "many" "[I" ∈ gAll := gm 807 rfl rfl
set_option maxRecDepth 100000 in
theorem wd_808 : Jvm.Cond.fieldLink "BodySolidsModel" (59 : Nat) "BodySolidsModel" "px" "[J" ∈ gAll := gm 808 rfl rfl
set_option maxRecDepth 100000 in
theorem wd_809 : Jvm.Cond.fieldLink "BodySolidsModel" (62 : Nat) "BodySolidsModel" "py" "[J" ∈ gAll := gm 809 rfl rfl
set_option maxRecDepth 100000 in
theorem wd_810 : Jvm.Cond.fieldLink "BodySolidsModel" (65 : Nat) "BodySolidsModel" "radius" "[J" ∈ gAll := gm 810 rfl rfl
set_option maxRecDepth 100000 in
theorem wd_811 : Jvm.Cond.fieldLink "BodySolidsModel" (68 : Nat) "BodySolidsModel" "low" "[J" ∈ gAll := gm 811 rfl rfl
set_option maxRecDepth 100000 in
theorem wd_812 : Jvm.Cond.fieldLink "BodySolidsModel" (71 : Nat) "BodySolidsModel" "high" "[J" ∈ gAll := gm 812 rfl rfl
set_option maxRecDepth 100000 in
theorem wd_869 : Jvm.Cond.instanceMethod ({ cls := "BodySolidsModel", name := "thrown", desc := "()I" } : Jvm.MethodName) ∈ gAll := gm 869 rfl rfl
set_option maxRecDepth 100000 in
theorem wd_871 : Jvm.Cond.code ({ cls := "BodySolidsModel", name := "thrown", desc := "()I" } : Jvm.MethodName) prog_9_method_2_code (1 : Nat) (Option.some Jvm.ClassFile.FieldType.int) ∈ gAll := gm 871 rfl rfl
set_option maxRecDepth 100000 in
theorem wd_873 : Jvm.Cond.instanceMethod ({ cls := "BodySolidsModel", name := "body", desc := "()I" } : Jvm.MethodName) ∈ gAll := gm 873 rfl rfl
set_option maxRecDepth 100000 in
theorem wd_875 : Jvm.Cond.code ({ cls := "BodySolidsModel", name := "body", desc := "()I" } : Jvm.MethodName) prog_9_method_7_code (1 : Nat) (Option.some Jvm.ClassFile.FieldType.int) ∈ gAll := gm 875 rfl rfl
set_option maxRecDepth 100000 in
theorem wd_877 : Jvm.Cond.instanceMethod ({ cls := "BodySolidsModel", name := "box", desc := "(IJJJJJJ)Z" } : Jvm.MethodName) ∈ gAll := gm 877 rfl rfl
set_option maxRecDepth 100000 in
theorem wd_879 : Jvm.Cond.code ({ cls := "BodySolidsModel", name := "box", desc := "(IJJJJJJ)Z" } : Jvm.MethodName) prog_9_method_13_code (16 : Nat) (Option.some Jvm.ClassFile.FieldType.boolean) ∈ gAll := gm 879 rfl rfl
set_option maxRecDepth 100000 in
theorem wd_880 : Jvm.Cond.methodLink "BodySolidsModel" (102 : Nat) ({ cls := "BodySolidsModel", name := "isPlace", desc := "(JJ)Z" } : Jvm.MethodName) ∈ gAll := gm 880 rfl rfl
set_option maxRecDepth 100000 in
theorem wd_881 : Jvm.Cond.static ({ cls := "BodySolidsModel", name := "isPlace", desc := "(JJ)Z" } : Jvm.MethodName) ∈ gAll := gm 881 rfl rfl
set_option maxRecDepth 100000 in
theorem wd_882 : Jvm.Cond.code ({ cls := "BodySolidsModel", name := "isPlace", desc := "(JJ)Z" } : Jvm.MethodName) prog_9_method_4_code (4 : Nat) (Option.some Jvm.ClassFile.FieldType.boolean) ∈ gAll := gm 882 rfl rfl
set_option maxRecDepth 100000 in
theorem wd_883 : Jvm.Cond.constantLong "BodySolidsModel" (84 : Nat) (-5000 : Int64) ∈ gAll := gm 883 rfl rfl
set_option maxRecDepth 100000 in
theorem wd_884 : Jvm.Cond.constantLong "BodySolidsModel" (86 : Nat) (5000 : Int64) ∈ gAll := gm 884 rfl rfl
set_option maxRecDepth 100000 in
theorem wd_885 : Jvm.Cond.methodLink "BodySolidsModel" (88 : Nat) ({ cls := "BodySolidsModel", name := "within", desc := "(JJJ)Z" } : Jvm.MethodName) ∈ gAll := gm 885 rfl rfl
set_option maxRecDepth 100000 in
theorem wd_886 : Jvm.Cond.static ({ cls := "BodySolidsModel", name := "within", desc := "(JJJ)Z" } : Jvm.MethodName) ∈ gAll := gm 886 rfl rfl
set_option maxRecDepth 100000 in
theorem wd_887 : Jvm.Cond.code ({ cls := "BodySolidsModel", name := "within", desc := "(JJJ)Z" } : Jvm.MethodName) prog_9_method_3_code (6 : Nat) (Option.some Jvm.ClassFile.FieldType.boolean) ∈ gAll := gm 887 rfl rfl
set_option maxRecDepth 100000 in
theorem wd_888 : Jvm.Cond.methodLink "BodySolidsModel" (98 : Nat) ({ cls := "BodySolidsModel", name := "isLong", desc := "(J)Z" } : Jvm.MethodName) ∈ gAll := gm 888 rfl rfl
set_option maxRecDepth 100000 in
theorem wd_889 : Jvm.Cond.static ({ cls := "BodySolidsModel", name := "isLong", desc := "(J)Z" } : Jvm.MethodName) ∈ gAll := gm 889 rfl rfl
set_option maxRecDepth 100000 in
theorem wd_890 : Jvm.Cond.code ({ cls := "BodySolidsModel", name := "isLong", desc := "(J)Z" } : Jvm.MethodName) prog_9_method_11_code (2 : Nat) (Option.some Jvm.ClassFile.FieldType.boolean) ∈ gAll := gm 890 rfl rfl
set_option maxRecDepth 100000 in
theorem wd_891 : Jvm.Cond.methodLink "BodySolidsModel" (106 : Nat) ({ cls := "BodySolidsModel", name := "isUpright", desc := "(JJ)Z" } : Jvm.MethodName) ∈ gAll := gm 891 rfl rfl
set_option maxRecDepth 100000 in
theorem wd_892 : Jvm.Cond.static ({ cls := "BodySolidsModel", name := "isUpright", desc := "(JJ)Z" } : Jvm.MethodName) ∈ gAll := gm 892 rfl rfl
set_option maxRecDepth 100000 in
theorem wd_893 : Jvm.Cond.code ({ cls := "BodySolidsModel", name := "isUpright", desc := "(JJ)Z" } : Jvm.MethodName) prog_9_method_12_code (4 : Nat) (Option.some Jvm.ClassFile.FieldType.boolean) ∈ gAll := gm 893 rfl rfl
set_option maxRecDepth 100000 in
theorem wd_894 : Jvm.Cond.methodLink "BodySolidsModel" (109 : Nat) ({ cls := "BodySolidsModel", name := "isBody", desc := "(I)Z" } : Jvm.MethodName) ∈ gAll := gm 894 rfl rfl
set_option maxRecDepth 100000 in
theorem wd_896 : Jvm.Cond.instanceMethod ({ cls := "BodySolidsModel", name := "isBody", desc := "(I)Z" } : Jvm.MethodName) ∈ gAll := gm 896 rfl rfl
set_option maxRecDepth 100000 in
theorem wd_897 : Jvm.Cond.code ({ cls := "BodySolidsModel", name := "isBody", desc := "(I)Z" } : Jvm.MethodName) prog_9_method_5_code (2 : Nat) (Option.some Jvm.ClassFile.FieldType.boolean) ∈ gAll := gm 897 rfl rfl
set_option maxRecDepth 100000 in
theorem wd_898 : Jvm.Cond.methodLink "BodySolidsModel" (113 : Nat) ({ cls := "BodySolidsModel", name := "fresh", desc := "(II)I" } : Jvm.MethodName) ∈ gAll := gm 898 rfl rfl
set_option maxRecDepth 100000 in
theorem wd_900 : Jvm.Cond.instanceMethod ({ cls := "BodySolidsModel", name := "fresh", desc := "(II)I" } : Jvm.MethodName) ∈ gAll := gm 900 rfl rfl
set_option maxRecDepth 100000 in
theorem wd_901 : Jvm.Cond.code ({ cls := "BodySolidsModel", name := "fresh", desc := "(II)I" } : Jvm.MethodName) prog_9_method_8_code (4 : Nat) (Option.some Jvm.ClassFile.FieldType.int) ∈ gAll := gm 901 rfl rfl
set_option maxRecDepth 100000 in
theorem wd_902 : Jvm.Cond.methodLink "BodySolidsModel" (117 : Nat) ({ cls := "BodySolidsModel", name := "tell", desc := "(IIJ)V" } : Jvm.MethodName) ∈ gAll := gm 902 rfl rfl
set_option maxRecDepth 100000 in
theorem wd_904 : Jvm.Cond.instanceMethod ({ cls := "BodySolidsModel", name := "tell", desc := "(IIJ)V" } : Jvm.MethodName) ∈ gAll := gm 904 rfl rfl
set_option maxRecDepth 100000 in
theorem wd_905 : Jvm.Cond.code ({ cls := "BodySolidsModel", name := "tell", desc := "(IIJ)V" } : Jvm.MethodName) prog_9_method_9_code (5 : Nat) (Option.none : Option Jvm.ClassFile.FieldType) ∈ gAll := gm 905 rfl rfl
set_option maxRecDepth 100000 in
theorem wd_911 : Jvm.Cond.instanceMethod ({ cls := "BodySolidsModel", name := "corner", desc := "(JJ)Z" } : Jvm.MethodName) ∈ gAll := gm 911 rfl rfl
set_option maxRecDepth 100000 in
theorem wd_913 : Jvm.Cond.code ({ cls := "BodySolidsModel", name := "corner", desc := "(JJ)Z" } : Jvm.MethodName) prog_9_method_15_code (5 : Nat) (Option.some Jvm.ClassFile.FieldType.boolean) ∈ gAll := gm 913 rfl rfl
set_option maxRecDepth 100000 in
theorem wd_915 : Jvm.Cond.instanceMethod ({ cls := "BodySolidsModel", name := "prism", desc := "(IJJ)Z" } : Jvm.MethodName) ∈ gAll := gm 915 rfl rfl
set_option maxRecDepth 100000 in
theorem wd_917 : Jvm.Cond.code ({ cls := "BodySolidsModel", name := "prism", desc := "(IJJ)Z" } : Jvm.MethodName) prog_9_method_18_code (10 : Nat) (Option.some Jvm.ClassFile.FieldType.boolean) ∈ gAll := gm 917 rfl rfl
set_option maxRecDepth 100000 in
theorem wd_918 : Jvm.Cond.methodLink "BodySolidsModel" (128 : Nat) ({ cls := "BodySolidsModel", name := "isRound", desc := "()Z" } : Jvm.MethodName) ∈ gAll := gm 918 rfl rfl
set_option maxRecDepth 100000 in
theorem wd_920 : Jvm.Cond.instanceMethod ({ cls := "BodySolidsModel", name := "isRound", desc := "()Z" } : Jvm.MethodName) ∈ gAll := gm 920 rfl rfl
set_option maxRecDepth 100000 in
theorem wd_921 : Jvm.Cond.code ({ cls := "BodySolidsModel", name := "isRound", desc := "()Z" } : Jvm.MethodName) prog_9_method_17_code (4 : Nat) (Option.some Jvm.ClassFile.FieldType.boolean) ∈ gAll := gm 921 rfl rfl
set_option maxRecDepth 100000 in
theorem wd_922 : Jvm.Cond.methodLink "BodySolidsModel" (124 : Nat) ({ cls := "BodySolidsModel", name := "cross", desc := "(JJJJJJ)J" } : Jvm.MethodName) ∈ gAll := gm 922 rfl rfl
set_option maxRecDepth 100000 in
theorem wd_923 : Jvm.Cond.static ({ cls := "BodySolidsModel", name := "cross", desc := "(JJJJJJ)J" } : Jvm.MethodName) ∈ gAll := gm 923 rfl rfl
set_option maxRecDepth 100000 in
theorem wd_924 : Jvm.Cond.code ({ cls := "BodySolidsModel", name := "cross", desc := "(JJJJJJ)J" } : Jvm.MethodName) prog_9_method_16_code (12 : Nat) (Option.some Jvm.ClassFile.FieldType.long) ∈ gAll := gm 924 rfl rfl
set_option maxRecDepth 100000 in
theorem wd_933 : Jvm.Cond.instanceMethod ({ cls := "BodySolidsModel", name := "join", desc := "(II)I" } : Jvm.MethodName) ∈ gAll := gm 933 rfl rfl
set_option maxRecDepth 100000 in
theorem wd_935 : Jvm.Cond.code ({ cls := "BodySolidsModel", name := "join", desc := "(II)I" } : Jvm.MethodName) prog_9_method_21_code (5 : Nat) (Option.some Jvm.ClassFile.FieldType.int) ∈ gAll := gm 935 rfl rfl
set_option maxRecDepth 100000 in
theorem wd_936 : Jvm.Cond.methodLink "BodySolidsModel" (138 : Nat) ({ cls := "BodySolidsModel", name := "copy", desc := "(II)V" } : Jvm.MethodName) ∈ gAll := gm 936 rfl rfl
set_option maxRecDepth 100000 in
theorem wd_938 : Jvm.Cond.instanceMethod ({ cls := "BodySolidsModel", name := "copy", desc := "(II)V" } : Jvm.MethodName) ∈ gAll := gm 938 rfl rfl
set_option maxRecDepth 100000 in
theorem wd_939 : Jvm.Cond.code ({ cls := "BodySolidsModel", name := "copy", desc := "(II)V" } : Jvm.MethodName) prog_9_method_20_code (4 : Nat) (Option.none : Option Jvm.ClassFile.FieldType) ∈ gAll := gm 939 rfl rfl
set_option maxRecDepth 100000 in
theorem wd_1123 : Jvm.Cond.castable "BodySolids$Placement" "BodySolids$Placement" ∈ gAll := gm 1123 rfl rfl
set_option maxRecDepth 100000 in
theorem wd_1124 : Jvm.Cond.castable "BodySolids$Solid" "BodySolids$Solid" ∈ gAll := gm 1124 rfl rfl
set_option maxRecDepth 100000 in
theorem wd_1126 : Jvm.Cond.castable "BodySolids$Body" "BodySolids$Body" ∈ gAll := gm 1126 rfl rfl
set_option maxRecDepth 100000 in
theorem wd_1128 : Jvm.Cond.selects "[Ljava/lang/Object;" ({ cls := "java/lang/Object", name := "getClass", desc := "()Ljava/lang/Class;" } : Jvm.MethodName) ({ cls := "java/lang/Object", name := "getClass", desc := "()Ljava/lang/Class;" } : Jvm.MethodName) ∈ gAll := gm 1128 rfl rfl
set_option maxRecDepth 100000 in
theorem wd_1129 : Jvm.Cond.declares ({ cls := "java/lang/Object", name := "getClass", desc := "()Ljava/lang/Class;" } : Jvm.MethodName) ∈ gAll := gm 1129 rfl rfl
end
section
abbrev b_W_cell : ByteArray := method_2_code
def y_W_cell : MethodName := ⟨"BodySolidsLaw", "cell", "([II)I"⟩
theorem d_W_cell_0 : decode b_W_cell 0 = .ok (.iload_n 1, 1) := by decide +kernel
theorem d_W_cell_1 : decode b_W_cell 1 = .ok (.aload_n 0, 1) := by decide +kernel
theorem d_W_cell_2 : decode b_W_cell 2 = .ok (.arraylength, 1) := by decide +kernel
theorem d_W_cell_3 : decode b_W_cell 3 = .ok (.if_icmp .ge 9, 3) := by decide +kernel
theorem d_W_cell_6 : decode b_W_cell 6 = .ok (.aload_n 0, 1) := by decide +kernel
theorem d_W_cell_7 : decode b_W_cell 7 = .ok (.iload_n 1, 1) := by decide +kernel
theorem d_W_cell_8 : decode b_W_cell 8 = .ok (.iaload, 1) := by decide +kernel
theorem d_W_cell_9 : decode b_W_cell 9 = .ok (.goto 4, 3) := by decide +kernel
theorem d_W_cell_12 : decode b_W_cell 12 = .ok (.iconst 0, 1) := by decide +kernel
theorem d_W_cell_13 : decode b_W_cell 13 = .ok (.ireturn, 1) := by decide +kernel
abbrev rm_W_cell : Room := { frames := 0, cells := 0, slots := 0, locals := 0 }
theorem ce_W_cell : gCe y_W_cell (.code y_W_cell b_W_cell 2 (some .int)) 2 2 true := gCe.code wd_426 wd_48 wd_425 (by decide) (by decide +kernel)
def f_W_cell (g0 : gG) (a0 : Nat) (p1 : Int32) (w : gW) : gX Int32 := (gal w a0).bind fun v1 => gjoin (fun K13 => if v1 ≤ p1 then (K13 0 w) else ((gaI w a0 p1).bind fun v5 => K13 v5 w)) (fun (y3 : Int32) (w : gW) => some (.inr y3, w))
set_option maxHeartbeats 4000000 in
set_option maxRecDepth 100000 in
theorem m_W_cell (l : Launch) (hst : l.stackTraces = false) (D : gD) (g0 : gG) (a0 : Nat) (p1 : Int32) (w : gW) (r : (String ⊕ Int32) × gW) (h : f_W_cell g0 a0 p1 w = some r) : gMet l y_W_cell (.code y_W_cell b_W_cell 2 (some .int)) rm_W_cell D g0 [.ref a0, .int p1] w (goI r) := by
  refine gw_ofI (by decide +kernel) (Nat.le_of_ble_eq_true rfl) ?_
  intro p e s m below meth c ls args A Q hx hb hml hown hlocks hin hnt hT hK hZ hA hret hexc hthr hI hl
  obtain ⟨H, hH⟩ : ∃ H, H = s.heap := ⟨_, rfl⟩
  rw [← hH] at hI ⊢
  obtain ⟨locs, hlocs⟩ : ∃ z : List Loc, z = [] := ⟨_, rfl⟩
  rw [← hlocs] at hI ⊢
  have hl : lv_has ls 2 [(0, .ref a0), (1, .int p1)] := hl
  unfold f_W_cell at h
  refine lv_iload_n hx hb d_W_cell_0 rfl (lv_at hl 1 rfl) ?_
  refine lv_aload_n hx hb d_W_cell_1 rfl (lv_at hl 0 rfl) ?_
  obtain ⟨v1, e2, h⟩ := gb h
  refine gw_alen hx hb hK hI e2 d_W_cell_2 ?_
  obtain ⟨K13, eK13, h⟩ := gj h
  have hK13 : ∀ (y3 : Int32) (w : gW) (H : Heap) (locs : List Loc) (ls : Array Slot), K13 y3 w = some r → gI D s A w H locs → lv_has ls 2 [] → W p l e rm_W_cell s m args below meth c H locs 0 0 Q (F0 m 13 ls [.int y3]) := by
    intro y3 w H locs ls h hI hl
    have h := gk2 eK13 h
    exact W.widen (show 0 ≤ 0 by omega) (show 0 ≤ 0 by omega) (hret _ _ (Option.some.inj h).symm _ _ _ _ d_W_cell_13 hI)
  refine lv_icmp_ge (tgt := 12) hx hb d_W_cell_3 (by decide) (fun c4 => ?_) (fun c4 => ?_)
  · skip
    have h := git c4 h
    refine lv_iconst (v := 0) hx hb d_W_cell_12 (by decide) ?_
    exact hK13 _ w H locs ls h hI (lv_sub hl [] rfl)
  · skip
    have h := gie c4 h
    refine lv_aload_n hx hb d_W_cell_6 rfl (lv_at hl 0 rfl) ?_
    refine lv_iload_n hx hb d_W_cell_7 rfl (lv_at hl 1 rfl) ?_
    obtain ⟨v5, e6, h⟩ := gb h
    refine gw_aldI hx hb hK hI e6 d_W_cell_8 ?_
    refine lv_goto (tgt := 13) hx hb d_W_cell_9 (by decide) ?_
    exact hK13 _ w H locs ls h hI (lv_sub hl [] rfl)

abbrev b_Ma_min2 : ByteArray := prog_17_method_70_code
def y_Ma_min2 : MethodName := ⟨"java/lang/Math", "min", "(JJ)J"⟩
theorem d_Ma_min2_0 : decode b_Ma_min2 0 = .ok (.lload_n 0, 1) := by decide +kernel
theorem d_Ma_min2_1 : decode b_Ma_min2 1 = .ok (.lload_n 2, 1) := by decide +kernel
theorem d_Ma_min2_2 : decode b_Ma_min2 2 = .ok (.lcmp, 1) := by decide +kernel
theorem d_Ma_min2_3 : decode b_Ma_min2 3 = .ok (.ifCond .gt 7, 3) := by decide +kernel
theorem d_Ma_min2_6 : decode b_Ma_min2 6 = .ok (.lload_n 0, 1) := by decide +kernel
theorem d_Ma_min2_7 : decode b_Ma_min2 7 = .ok (.goto 4, 3) := by decide +kernel
theorem d_Ma_min2_10 : decode b_Ma_min2 10 = .ok (.lload_n 2, 1) := by decide +kernel
theorem d_Ma_min2_11 : decode b_Ma_min2 11 = .ok (.lreturn, 1) := by decide +kernel
abbrev rm_Ma_min2 : Room := { frames := 0, cells := 0, slots := 0, locals := 0 }
theorem ce_Ma_min2 : gCe y_Ma_min2 (.code y_Ma_min2 b_Ma_min2 4 (some .long)) 4 2 true := gCe.code wd_83 wd_50 wd_82 (by decide) (by decide +kernel)
def f_Ma_min2 (g0 : gG) (p0 : Int64) (p1 : Int64) (w : gW) : gX Int64 := gjoin (fun K11 => if p1 < p0 then (K11 p1 w) else (K11 p0 w)) (fun (y1 : Int64) (w : gW) => some (.inr y1, w))
set_option maxHeartbeats 4000000 in
set_option maxRecDepth 100000 in
theorem m_Ma_min2 (l : Launch) (hst : l.stackTraces = false) (D : gD) (g0 : gG) (p0 : Int64) (p1 : Int64) (w : gW) (r : (String ⊕ Int64) × gW) (h : f_Ma_min2 g0 p0 p1 w = some r) : gMet l y_Ma_min2 (.code y_Ma_min2 b_Ma_min2 4 (some .long)) rm_Ma_min2 D g0 [.long p0, .long p1] w (goJ r) := by
  refine gw_ofJ (by decide +kernel) (Nat.le_of_ble_eq_true rfl) ?_
  intro p e s m below meth c ls args A Q hx hb hml hown hlocks hin hnt hT hK hZ hA hret hexc hthr hI hl
  obtain ⟨H, hH⟩ : ∃ H, H = s.heap := ⟨_, rfl⟩
  rw [← hH] at hI ⊢
  obtain ⟨locs, hlocs⟩ : ∃ z : List Loc, z = [] := ⟨_, rfl⟩
  rw [← hlocs] at hI ⊢
  have hl : lv_has ls 4 [(0, .long p0), (2, .long p1)] := hl
  unfold f_Ma_min2 at h
  refine lv_lload_n hx hb d_Ma_min2_0 rfl (lv_at hl 0 rfl) ?_
  refine lv_lload_n hx hb d_Ma_min2_1 rfl (lv_at hl 1 rfl) ?_
  refine W.lcmp hx hb d_Ma_min2_2 ?_
  obtain ⟨K11, eK11, h⟩ := gj h
  have hK11 : ∀ (y1 : Int64) (w : gW) (H : Heap) (locs : List Loc) (ls : Array Slot), K11 y1 w = some r → gI D s A w H locs → lv_has ls 4 [] → W p l e rm_Ma_min2 s m args below meth c H locs 0 0 Q (F0 m 11 ls [.long y1]) := by
    intro y1 w H locs ls h hI hl
    have h := gk2 eK11 h
    exact W.widen (show 0 ≤ 0 by omega) (show 0 ≤ 0 by omega) (hret _ _ (Option.some.inj h).symm _ _ _ _ d_Ma_min2_11 hI)
  refine lv_if_gt (tgt := 10) hx hb d_Ma_min2_3 (by decide) (fun c2 => ?_) (fun c2 => ?_)
  · have c2 := (lg_cmp_gt _ _).mp c2
    have h := git c2 h
    refine lv_lload_n hx hb d_Ma_min2_10 rfl (lv_at hl 1 rfl) ?_
    exact hK11 _ w H locs ls h hI (lv_sub hl [] rfl)
  · have c2 := mt (lg_cmp_gt _ _).mpr c2
    have h := gie c2 h
    refine lv_lload_n hx hb d_Ma_min2_6 rfl (lv_at hl 0 rfl) ?_
    refine lv_goto (tgt := 11) hx hb d_Ma_min2_7 (by decide) ?_
    exact hK11 _ w H locs ls h hI (lv_sub hl [] rfl)

abbrev b_Ma_max2 : ByteArray := prog_17_method_66_code
def y_Ma_max2 : MethodName := ⟨"java/lang/Math", "max", "(JJ)J"⟩
theorem d_Ma_max2_0 : decode b_Ma_max2 0 = .ok (.lload_n 0, 1) := by decide +kernel
theorem d_Ma_max2_1 : decode b_Ma_max2 1 = .ok (.lload_n 2, 1) := by decide +kernel
theorem d_Ma_max2_2 : decode b_Ma_max2 2 = .ok (.lcmp, 1) := by decide +kernel
theorem d_Ma_max2_3 : decode b_Ma_max2 3 = .ok (.ifCond .lt 7, 3) := by decide +kernel
theorem d_Ma_max2_6 : decode b_Ma_max2 6 = .ok (.lload_n 0, 1) := by decide +kernel
theorem d_Ma_max2_7 : decode b_Ma_max2 7 = .ok (.goto 4, 3) := by decide +kernel
theorem d_Ma_max2_10 : decode b_Ma_max2 10 = .ok (.lload_n 2, 1) := by decide +kernel
theorem d_Ma_max2_11 : decode b_Ma_max2 11 = .ok (.lreturn, 1) := by decide +kernel
abbrev rm_Ma_max2 : Room := { frames := 0, cells := 0, slots := 0, locals := 0 }
theorem ce_Ma_max2 : gCe y_Ma_max2 (.code y_Ma_max2 b_Ma_max2 4 (some .long)) 4 2 true := gCe.code wd_86 wd_50 wd_85 (by decide) (by decide +kernel)
def f_Ma_max2 (g0 : gG) (p0 : Int64) (p1 : Int64) (w : gW) : gX Int64 := gjoin (fun K11 => if p0 < p1 then (K11 p1 w) else (K11 p0 w)) (fun (y1 : Int64) (w : gW) => some (.inr y1, w))
set_option maxHeartbeats 4000000 in
set_option maxRecDepth 100000 in
theorem m_Ma_max2 (l : Launch) (hst : l.stackTraces = false) (D : gD) (g0 : gG) (p0 : Int64) (p1 : Int64) (w : gW) (r : (String ⊕ Int64) × gW) (h : f_Ma_max2 g0 p0 p1 w = some r) : gMet l y_Ma_max2 (.code y_Ma_max2 b_Ma_max2 4 (some .long)) rm_Ma_max2 D g0 [.long p0, .long p1] w (goJ r) := by
  refine gw_ofJ (by decide +kernel) (Nat.le_of_ble_eq_true rfl) ?_
  intro p e s m below meth c ls args A Q hx hb hml hown hlocks hin hnt hT hK hZ hA hret hexc hthr hI hl
  obtain ⟨H, hH⟩ : ∃ H, H = s.heap := ⟨_, rfl⟩
  rw [← hH] at hI ⊢
  obtain ⟨locs, hlocs⟩ : ∃ z : List Loc, z = [] := ⟨_, rfl⟩
  rw [← hlocs] at hI ⊢
  have hl : lv_has ls 4 [(0, .long p0), (2, .long p1)] := hl
  unfold f_Ma_max2 at h
  refine lv_lload_n hx hb d_Ma_max2_0 rfl (lv_at hl 0 rfl) ?_
  refine lv_lload_n hx hb d_Ma_max2_1 rfl (lv_at hl 1 rfl) ?_
  refine W.lcmp hx hb d_Ma_max2_2 ?_
  obtain ⟨K11, eK11, h⟩ := gj h
  have hK11 : ∀ (y1 : Int64) (w : gW) (H : Heap) (locs : List Loc) (ls : Array Slot), K11 y1 w = some r → gI D s A w H locs → lv_has ls 4 [] → W p l e rm_Ma_max2 s m args below meth c H locs 0 0 Q (F0 m 11 ls [.long y1]) := by
    intro y1 w H locs ls h hI hl
    have h := gk2 eK11 h
    exact W.widen (show 0 ≤ 0 by omega) (show 0 ≤ 0 by omega) (hret _ _ (Option.some.inj h).symm _ _ _ _ d_Ma_max2_11 hI)
  refine lv_if_lt (tgt := 10) hx hb d_Ma_max2_3 (by decide) (fun c2 => ?_) (fun c2 => ?_)
  · have c2 := (lg_cmp_lt _ _).mp c2
    have h := git c2 h
    refine lv_lload_n hx hb d_Ma_max2_10 rfl (lv_at hl 1 rfl) ?_
    exact hK11 _ w H locs ls h hI (lv_sub hl [] rfl)
  · have c2 := mt (lg_cmp_lt _ _).mpr c2
    have h := gie c2 h
    refine lv_lload_n hx hb d_Ma_max2_6 rfl (lv_at hl 0 rfl) ?_
    refine lv_goto (tgt := 11) hx hb d_Ma_max2_7 (by decide) ?_
    exact hK11 _ w H locs ls h hI (lv_sub hl [] rfl)

abbrev b_AbC_init : ByteArray := prog_22_method_1_code
def y_AbC_init : MethodName := ⟨"java/util/AbstractCollection", "<init>", "()V"⟩
theorem d_AbC_init_0 : decode b_AbC_init 0 = .ok (.aload_n 0, 1) := by decide +kernel
theorem d_AbC_init_1 : decode b_AbC_init 1 = .ok (.invokespecial 1, 3) := by decide +kernel
theorem d_AbC_init_4 : decode b_AbC_init 4 = .ok (.return_, 1) := by decide +kernel
abbrev rm_AbC_init : Room := { frames := 1, cells := 0, slots := 0, locals := 22 }
theorem ce_AbC_init : gCe y_AbC_init (.code y_AbC_init b_AbC_init 1 none) 1 0 false := gCe.code wd_97 wd_51 wd_96 (by decide) (by decide +kernel)
def f_AbC_init (g0 : gG) (a0 : Nat) (w : gW) : gX Unit := some (.inr (), w)
set_option maxHeartbeats 4000000 in
set_option maxRecDepth 100000 in
theorem m_AbC_init (l : Launch) (hst : l.stackTraces = false) (D : gD) (g0 : gG) (a0 : Nat) (w : gW) (r : (String ⊕ Unit) × gW) (h : f_AbC_init g0 a0 w = some r) : gMet l y_AbC_init (.code y_AbC_init b_AbC_init 1 none) rm_AbC_init D g0 [.ref a0] w (goV r) := by
  refine gw_ofV (by decide +kernel) (Nat.le_of_ble_eq_true rfl) ?_
  intro p e s m below meth c ls args A Q hx hb hml hown hlocks hin hnt hT hK hZ hA hret hexc hthr hI hl
  obtain ⟨H, hH⟩ : ∃ H, H = s.heap := ⟨_, rfl⟩
  rw [← hH] at hI ⊢
  obtain ⟨locs, hlocs⟩ : ∃ z : List Loc, z = [] := ⟨_, rfl⟩
  rw [← hlocs] at hI ⊢
  have hl : lv_has ls 1 [(0, .ref a0)] := hl
  unfold f_AbC_init at h
  refine lv_aload_n hx hb d_AbC_init_0 rfl (lv_at hl 0 rfl) ?_
  refine W.objInit hx hb hown (hT _ wd_98 args) (hT _ wd_78 args) (hT _ wd_79 args) rfl (by rw [hml]; exact hl.1) rfl d_AbC_init_1 (Nat.le_of_ble_eq_true rfl) (Nat.le_of_ble_eq_true rfl) ?_
  refine W.eq (g2 := F0 m 4 ls []) rfl ?_
  exact W.widen (show 0 ≤ 0 by omega) (show 0 ≤ 0 by omega) (hret _ _ (Option.some.inj h).symm _ _ _ _ d_AbC_init_4 hI)

abbrev b_AbL_init : ByteArray := prog_23_method_1_code
def y_AbL_init : MethodName := ⟨"java/util/AbstractList", "<init>", "()V"⟩
theorem d_AbL_init_0 : decode b_AbL_init 0 = .ok (.aload_n 0, 1) := by decide +kernel
theorem d_AbL_init_1 : decode b_AbL_init 1 = .ok (.invokespecial 1, 3) := by decide +kernel
theorem d_AbL_init_4 : decode b_AbL_init 4 = .ok (.aload_n 0, 1) := by decide +kernel
theorem d_AbL_init_5 : decode b_AbL_init 5 = .ok (.iconst 0, 1) := by decide +kernel
theorem d_AbL_init_6 : decode b_AbL_init 6 = .ok (.putfield 7, 3) := by decide +kernel
theorem d_AbL_init_9 : decode b_AbL_init 9 = .ok (.return_, 1) := by decide +kernel
abbrev rm_AbL_init : Room := { frames := 2, cells := 0, slots := 0, locals := 42 }
theorem ce_AbL_init : gCe y_AbL_init (.code y_AbL_init b_AbL_init 1 none) 1 0 false := gCe.code wd_94 wd_52 wd_93 (by decide) (by decide +kernel)
def f_AbL_init (g0 : gG) (a0 : Nat) (w : gW) : gX Unit := gbind (f_AbC_init g0 a0 w) fun v3 w => (gp w a0 1 2 (.int 0)).bind fun w => some (.inr (), w)
set_option maxHeartbeats 4000000 in
set_option maxRecDepth 100000 in
theorem m_AbL_init (l : Launch) (hst : l.stackTraces = false) (D : gD) (g0 : gG) (a0 : Nat) (w : gW) (r : (String ⊕ Unit) × gW) (h : f_AbL_init g0 a0 w = some r) : gMet l y_AbL_init (.code y_AbL_init b_AbL_init 1 none) rm_AbL_init D g0 [.ref a0] w (goV r) := by
  refine gw_ofV (by decide +kernel) (Nat.le_of_ble_eq_true rfl) ?_
  intro p e s m below meth c ls args A Q hx hb hml hown hlocks hin hnt hT hK hZ hA hret hexc hthr hI hl
  obtain ⟨H, hH⟩ : ∃ H, H = s.heap := ⟨_, rfl⟩
  rw [← hH] at hI ⊢
  obtain ⟨locs, hlocs⟩ : ∃ z : List Loc, z = [] := ⟨_, rfl⟩
  rw [← hlocs] at hI ⊢
  have hl : lv_has ls 1 [(0, .ref a0)] := hl
  unfold f_AbL_init at h
  refine lv_aload_n hx hb d_AbL_init_0 rfl (lv_at hl 0 rfl) ?_
  obtain ⟨u1, e2⟩ := gsome h
  refine gw_callV e2 h (gw_runI (As := []) (rest := []) hx hb hml hown hT hK hZ hA hI (m_AbC_init l hst D g0 a0 w u1 e2) ce_AbC_init wd_95 rfl ⟨by decide, by decide⟩ rfl rfl hl.1 rfl (lv_room (Nat.le_of_ble_eq_true rfl)) d_AbL_init_1 ⟨(show 0 + 0 ≤ 0 by omega), (show 0 + 0 ≤ 0 by omega)⟩) hI hA hexc (show 0 + 0 ≤ 0 by omega) (show 0 + 0 ≤ 0 by omega) (fun v3 w H locs h hI => ?_)
  refine lv_aload_n hx hb d_AbL_init_4 rfl (lv_at hl 0 rfl) ?_
  refine lv_iconst (v := 0) hx hb d_AbL_init_5 (by decide) ?_
  obtain ⟨w, e4, h⟩ := gb h
  refine gw_put hx hb hT hown hK hI (ci := 1) rfl i_1 t_1 t_1_ok n_1 2 (by decide) wd_103 (fun _ h9 => h9) rfl (ty := .int) (by decide +kernel) rfl rfl e4 d_AbL_init_6 (fun H locs hI => ?_)
  exact W.widen (show 0 ≤ 0 by omega) (show 0 ≤ 0 by omega) (hret _ _ (Option.some.inj h).symm _ _ _ _ d_AbL_init_9 hI)

abbrev b_AL_init : ByteArray := prog_24_method_2_code
def y_AL_init : MethodName := ⟨"java/util/ArrayList", "<init>", "()V"⟩
theorem d_AL_init_0 : decode b_AL_init 0 = .ok (.aload_n 0, 1) := by decide +kernel
theorem d_AL_init_1 : decode b_AL_init 1 = .ok (.invokespecial 1, 3) := by decide +kernel
theorem d_AL_init_4 : decode b_AL_init 4 = .ok (.aload_n 0, 1) := by decide +kernel
theorem d_AL_init_5 : decode b_AL_init 5 = .ok (.getstatic 39, 3) := by decide +kernel
theorem d_AL_init_8 : decode b_AL_init 8 = .ok (.putfield 9, 3) := by decide +kernel
theorem d_AL_init_11 : decode b_AL_init 11 = .ok (.return_, 1) := by decide +kernel
abbrev rm_AL_init : Room := { frames := 3, cells := 0, slots := 0, locals := 62 }
theorem ce_AL_init : gCe y_AL_init (.code y_AL_init b_AL_init 1 none) 1 0 false := gCe.code wd_91 wd_53 wd_90 (by decide) (by decide +kernel)
def f_AL_init (g0 : gG) (a0 : Nat) (w : gW) : gX Unit := gbind (f_AbL_init g0 a0 w) fun v3 w => (gp w a0 1 0 (.ref (g0.1))).bind fun w => some (.inr (), w)
set_option maxHeartbeats 4000000 in
set_option maxRecDepth 100000 in
theorem m_AL_init (l : Launch) (hst : l.stackTraces = false) (D : gD) (g0 : gG) (a0 : Nat) (w : gW) (r : (String ⊕ Unit) × gW) (h : f_AL_init g0 a0 w = some r) : gMet l y_AL_init (.code y_AL_init b_AL_init 1 none) rm_AL_init D g0 [.ref a0] w (goV r) := by
  refine gw_ofV (by decide +kernel) (Nat.le_of_ble_eq_true rfl) ?_
  intro p e s m below meth c ls args A Q hx hb hml hown hlocks hin hnt hT hK hZ hA hret hexc hthr hI hl
  obtain ⟨H, hH⟩ : ∃ H, H = s.heap := ⟨_, rfl⟩
  rw [← hH] at hI ⊢
  obtain ⟨locs, hlocs⟩ : ∃ z : List Loc, z = [] := ⟨_, rfl⟩
  rw [← hlocs] at hI ⊢
  have hl : lv_has ls 1 [(0, .ref a0)] := hl
  unfold f_AL_init at h
  refine lv_aload_n hx hb d_AL_init_0 rfl (lv_at hl 0 rfl) ?_
  obtain ⟨u1, e2⟩ := gsome h
  refine gw_callV e2 h (gw_runI (As := []) (rest := []) hx hb hml hown hT hK hZ hA hI (m_AbL_init l hst D g0 a0 w u1 e2) ce_AbL_init wd_92 rfl ⟨by decide, by decide⟩ rfl rfl hl.1 rfl (lv_room (Nat.le_of_ble_eq_true rfl)) d_AL_init_1 ⟨(show 0 + 0 ≤ 0 by omega), (show 0 + 0 ≤ 0 by omega)⟩) hI hA hexc (show 0 + 0 ≤ 0 by omega) (show 0 + 0 ≤ 0 by omega) (fun v3 w H locs h hI => ?_)
  refine lv_aload_n hx hb d_AL_init_4 rfl (lv_at hl 0 rfl) ?_
  refine gw_gets hx hb hT hown hZ hI wd_99 d_AL_init_5 ?_
  obtain ⟨w, e4, h⟩ := gb h
  refine gw_put hx hb hT hown hK hI (ci := 1) rfl i_1 t_1 t_1_ok n_1 0 (by decide) wd_101 (fun _ h9 => h9) rfl (ty := .array (.object "java/lang/Object")) (by decide +kernel) rfl rfl e4 d_AL_init_8 (fun H locs hI => ?_)
  exact W.widen (show 0 ≤ 0 by omega) (show 0 ≤ 0 by omega) (hret _ _ (Option.some.inj h).symm _ _ _ _ d_AL_init_11 hI)

abbrev b_Ar_fill : ByteArray := prog_25_method_103_code
def y_Ar_fill : MethodName := ⟨"java/util/Arrays", "fill", "([II)V"⟩
theorem d_Ar_fill_0 : decode b_Ar_fill 0 = .ok (.iconst 0, 1) := by decide +kernel
theorem d_Ar_fill_1 : decode b_Ar_fill 1 = .ok (.istore_n 2, 1) := by decide +kernel
theorem d_Ar_fill_2 : decode b_Ar_fill 2 = .ok (.aload_n 0, 1) := by decide +kernel
theorem d_Ar_fill_3 : decode b_Ar_fill 3 = .ok (.arraylength, 1) := by decide +kernel
theorem d_Ar_fill_4 : decode b_Ar_fill 4 = .ok (.istore_n 3, 1) := by decide +kernel
theorem d_Ar_fill_5 : decode b_Ar_fill 5 = .ok (.iload_n 2, 1) := by decide +kernel
theorem d_Ar_fill_6 : decode b_Ar_fill 6 = .ok (.iload_n 3, 1) := by decide +kernel
theorem d_Ar_fill_7 : decode b_Ar_fill 7 = .ok (.if_icmp .ge 13, 3) := by decide +kernel
theorem d_Ar_fill_10 : decode b_Ar_fill 10 = .ok (.aload_n 0, 1) := by decide +kernel
theorem d_Ar_fill_11 : decode b_Ar_fill 11 = .ok (.iload_n 2, 1) := by decide +kernel
theorem d_Ar_fill_12 : decode b_Ar_fill 12 = .ok (.iload_n 1, 1) := by decide +kernel
theorem d_Ar_fill_13 : decode b_Ar_fill 13 = .ok (.iastore, 1) := by decide +kernel
theorem d_Ar_fill_14 : decode b_Ar_fill 14 = .ok (.iinc 2 1, 3) := by decide +kernel
theorem d_Ar_fill_17 : decode b_Ar_fill 17 = .ok (.goto (-12), 3) := by decide +kernel
theorem d_Ar_fill_20 : decode b_Ar_fill 20 = .ok (.return_, 1) := by decide +kernel
abbrev rm_Ar_fill : Room := { frames := 0, cells := 0, slots := 0, locals := 0 }
theorem ce_Ar_fill : gCe y_Ar_fill (.code y_Ar_fill b_Ar_fill 4 none) 4 2 true := gCe.code wd_115 wd_54 wd_114 (by decide) (by decide +kernel)
def f_Ar_fill_L5 (g0 : gG) (c0 : Nat) (c1 : Int32) (c3 : Int32) (K20 : gW → gX Unit) : Nat → Int32 → gW → gX Unit
  | 0, _, _ => none
  | n + 1, z2, w => if c3 ≤ z2 then (K20 w) else ((gsI w c0 z2 c1).bind fun w => f_Ar_fill_L5 g0 c0 c1 c3 K20 n (z2 + 1) w)
def f_Ar_fill (g0 : gG) (a0 : Nat) (p1 : Int32) (w : gW) : gX Unit := (gal w a0).bind fun v1 => gjoin (fun K20 => f_Ar_fill_L5 g0 a0 p1 v1 K20 1000 0 w) (fun (w : gW) => some (.inr (), w))
set_option maxHeartbeats 4000000 in
set_option maxRecDepth 100000 in
theorem m_Ar_fill (l : Launch) (hst : l.stackTraces = false) (D : gD) (g0 : gG) (a0 : Nat) (p1 : Int32) (w : gW) (r : (String ⊕ Unit) × gW) (h : f_Ar_fill g0 a0 p1 w = some r) : gMet l y_Ar_fill (.code y_Ar_fill b_Ar_fill 4 none) rm_Ar_fill D g0 [.ref a0, .int p1] w (goV r) := by
  refine gw_ofV (by decide +kernel) (Nat.le_of_ble_eq_true rfl) ?_
  intro p e s m below meth c ls args A Q hx hb hml hown hlocks hin hnt hT hK hZ hA hret hexc hthr hI hl
  obtain ⟨H, hH⟩ : ∃ H, H = s.heap := ⟨_, rfl⟩
  rw [← hH] at hI ⊢
  obtain ⟨locs, hlocs⟩ : ∃ z : List Loc, z = [] := ⟨_, rfl⟩
  rw [← hlocs] at hI ⊢
  have hl : lv_has ls 4 [(0, .ref a0), (1, .int p1)] := hl
  unfold f_Ar_fill at h
  refine lv_iconst (v := 0) hx hb d_Ar_fill_0 (by decide) ?_
  refine lv_istore_n (lv' := [(2, .int 0), (0, .ref a0), (1, .int p1)]) hx hb d_Ar_fill_1 rfl hl (by decide) rfl (fun ls hl => ?_)
  refine lv_aload_n hx hb d_Ar_fill_2 rfl (lv_at hl 1 rfl) ?_
  obtain ⟨v1, e2, h⟩ := gb h
  refine gw_alen hx hb hK hI e2 d_Ar_fill_3 ?_
  refine lv_istore_n (lv' := [(3, .int v1), (2, .int 0), (0, .ref a0), (1, .int p1)]) hx hb d_Ar_fill_4 rfl hl (by decide) rfl (fun ls hl => ?_)
  obtain ⟨K20, eK20, h⟩ := gj h
  have hK20 : ∀ (w : gW) (H : Heap) (locs : List Loc) (ls : Array Slot), K20 w = some r → gI D s A w H locs → lv_has ls 4 [] → W p l e rm_Ar_fill s m args below meth c H locs 0 0 Q (F0 m 20 ls []) := by
    intro w H locs ls h hI hl
    have h := gk1 eK20 h
    exact W.widen (show 0 ≤ 0 by omega) (show 0 ≤ 0 by omega) (hret _ _ (Option.some.inj h).symm _ _ _ _ d_Ar_fill_20 hI)
  have hL5 : ∀ (n : Nat), ∀ (z3 : Int32) (w : gW) (H : Heap) (locs : List Loc) (ls : Array Slot), f_Ar_fill_L5 g0 a0 p1 v1 K20 n z3 w = some r → gI D s A w H locs → lv_has ls 4 [(0, .ref a0), (1, .int p1), (3, .int v1), (2, .int z3)] → W p l e rm_Ar_fill s m args below meth c H locs 0 0 Q (F0 m 5 ls []) := by
    intro n
    induction n with
    | zero => intro z3 w H locs ls h hI hl; exact absurd h (by simp [f_Ar_fill_L5])
    | succ n ih =>
      intro z3 w H locs ls h hI hl
      rw [f_Ar_fill_L5] at h
      refine lv_iload_n hx hb d_Ar_fill_5 rfl (lv_at hl 3 rfl) ?_
      refine lv_iload_n hx hb d_Ar_fill_6 rfl (lv_at hl 2 rfl) ?_
      refine lv_icmp_ge (tgt := 20) hx hb d_Ar_fill_7 (by decide) (fun c4 => ?_) (fun c4 => ?_)
      · skip
        have h := git c4 h
        exact hK20 w H locs ls h hI (lv_sub hl [] rfl)
      · skip
        have h := gie c4 h
        refine lv_aload_n hx hb d_Ar_fill_10 rfl (lv_at hl 0 rfl) ?_
        refine lv_iload_n hx hb d_Ar_fill_11 rfl (lv_at hl 3 rfl) ?_
        refine lv_iload_n hx hb d_Ar_fill_12 rfl (lv_at hl 1 rfl) ?_
        obtain ⟨w, e5, h⟩ := gb h
        refine gw_astI hx hb hK hI e5 d_Ar_fill_13 (fun H locs hI => ?_)
        refine lv_iinc (v := z3 + 1) (lv' := [(2, .int (z3 + 1)), (0, .ref a0), (1, .int p1), (3, .int v1)]) hx hb d_Ar_fill_14 hl (k := 3) rfl rfl (by decide) rfl (fun ls hl => ?_)
        refine lv_goto (tgt := 5) hx hb d_Ar_fill_17 (by decide) ?_
        exact ih _ w H locs ls h hI (lv_sub hl [1, 2, 3, 0] rfl)
  exact hL5 1000 _ w H locs ls h hI (lv_sub hl [2, 3, 0, 1] rfl)

abbrev b_So_init : ByteArray := prog_7_method_1_code
def y_So_init : MethodName := ⟨"BodySolids$Solid", "<init>", "()V"⟩
theorem d_So_init_0 : decode b_So_init 0 = .ok (.aload_n 0, 1) := by decide +kernel
theorem d_So_init_1 : decode b_So_init 1 = .ok (.invokespecial 3, 3) := by decide +kernel
theorem d_So_init_4 : decode b_So_init 4 = .ok (.aload_n 0, 1) := by decide +kernel
theorem d_So_init_5 : decode b_So_init 5 = .ok (.bipush 8, 2) := by decide +kernel
theorem d_So_init_7 : decode b_So_init 7 = .ok (.newarray .long, 2) := by decide +kernel
theorem d_So_init_9 : decode b_So_init 9 = .ok (.putfield 9, 3) := by decide +kernel
theorem d_So_init_12 : decode b_So_init 12 = .ok (.aload_n 0, 1) := by decide +kernel
theorem d_So_init_13 : decode b_So_init 13 = .ok (.bipush 8, 2) := by decide +kernel
theorem d_So_init_15 : decode b_So_init 15 = .ok (.newarray .long, 2) := by decide +kernel
theorem d_So_init_17 : decode b_So_init 17 = .ok (.putfield 15, 3) := by decide +kernel
theorem d_So_init_20 : decode b_So_init 20 = .ok (.return_, 1) := by decide +kernel
abbrev rm_So_init : Room := { frames := 1, cells := 2, slots := 16, locals := 22 }
theorem ce_So_init : gCe y_So_init (.code y_So_init b_So_init 1 none) 1 0 false := gCe.code wd_127 wd_56 wd_126 (by decide) (by decide +kernel)
def f_So_init (g0 : gG) (a0 : Nat) (w : gW) : gX Unit := gb2f (gna w 1 8 8 (.long 0)) fun o1 w => (gp w a0 3 3 (.ref o1)).bind fun w => gb2f (gna w 1 8 8 (.long 0)) fun o4 w => (gp w a0 3 4 (.ref o4)).bind fun w => some (.inr (), w)
set_option maxHeartbeats 4000000 in
set_option maxRecDepth 100000 in
theorem m_So_init (l : Launch) (hst : l.stackTraces = false) (D : gD) (g0 : gG) (a0 : Nat) (w : gW) (r : (String ⊕ Unit) × gW) (h : f_So_init g0 a0 w = some r) : gMet l y_So_init (.code y_So_init b_So_init 1 none) rm_So_init D g0 [.ref a0] w (goV r) := by
  refine gw_ofV (by decide +kernel) (Nat.le_of_ble_eq_true rfl) ?_
  intro p e s m below meth c ls args A Q hx hb hml hown hlocks hin hnt hT hK hZ hA hret hexc hthr hI hl
  obtain ⟨H, hH⟩ : ∃ H, H = s.heap := ⟨_, rfl⟩
  rw [← hH] at hI ⊢
  obtain ⟨locs, hlocs⟩ : ∃ z : List Loc, z = [] := ⟨_, rfl⟩
  rw [← hlocs] at hI ⊢
  have hl : lv_has ls 1 [(0, .ref a0)] := hl
  unfold f_So_init at h
  refine lv_aload_n hx hb d_So_init_0 rfl (lv_at hl 0 rfl) ?_
  refine W.objInit hx hb hown (hT _ wd_128 args) (hT _ wd_78 args) (hT _ wd_79 args) rfl (by rw [hml]; exact hl.1) rfl d_So_init_1 (Nat.le_of_ble_eq_true rfl) (Nat.le_of_ble_eq_true rfl) ?_
  refine W.eq (g2 := F0 m 4 ls []) rfl ?_
  refine lv_aload_n hx hb d_So_init_4 rfl (lv_at hl 0 rfl) ?_
  refine lv_bipush (v := 8) hx hb d_So_init_5 (by decide) ?_
  obtain ⟨o1, w, e2, h⟩ := gb2 h
  refine gw_newa (atype := .long) (ty := .long) (M := 8) hx hb hK hI hA (hT _ wd_178 args) rfl (k := 1) rfl (fun h9 => h9) e2 (show 0 + 1 ≤ 2 by omega) (show 0 + 8 ≤ 16 by omega) (show 8 * 8 ≤ 536870912 by omega) d_So_init_7 (fun H hI => ?_)
  refine W.widen (k := 1) (n := 8) (show 0 + 1 ≤ 1 by omega) (show 0 + 8 ≤ 8 by omega) ?_
  obtain ⟨w, e3, h⟩ := gb h
  refine gw_putF hx hb hT hown hK hI (ci := 3) rfl i_3 t_3 t_3_ok n_3 3 (by decide) wd_135 (fun _ h9 => h9) rfl hin rfl (ty := .array .long) (by decide +kernel) rfl rfl e3 d_So_init_9 (fun H locs hI => ?_)
  refine lv_aload_n hx hb d_So_init_12 rfl (lv_at hl 0 rfl) ?_
  refine lv_bipush (v := 8) hx hb d_So_init_13 (by decide) ?_
  obtain ⟨o4, w, e5, h⟩ := gb2 h
  refine gw_newa (atype := .long) (ty := .long) (M := 8) hx hb hK hI hA (hT _ wd_178 args) rfl (k := 1) rfl (fun h9 => h9) e5 (show 1 + 1 ≤ 2 by omega) (show 8 + 8 ≤ 16 by omega) (show 8 * 8 ≤ 536870912 by omega) d_So_init_15 (fun H hI => ?_)
  refine W.widen (k := 2) (n := 16) (show 1 + 1 ≤ 2 by omega) (show 8 + 8 ≤ 16 by omega) ?_
  obtain ⟨w, e6, h⟩ := gb h
  refine gw_putF hx hb hT hown hK hI (ci := 3) rfl i_3 t_3 t_3_ok n_3 4 (by decide) wd_137 (fun _ h9 => h9) rfl hin rfl (ty := .array .long) (by decide +kernel) rfl rfl e6 d_So_init_17 (fun H locs hI => ?_)
  exact W.widen (show 2 ≤ 2 by omega) (show 16 ≤ 16 by omega) (hret _ _ (Option.some.inj h).symm _ _ _ _ d_So_init_20 hI)

abbrev b_La_init : ByteArray := prog_4_method_1_code
def y_La_init : MethodName := ⟨"BodySolids$Layout", "<init>", "()V"⟩
theorem d_La_init_0 : decode b_La_init 0 = .ok (.aload_n 0, 1) := by decide +kernel
theorem d_La_init_1 : decode b_La_init 1 = .ok (.invokespecial 3, 3) := by decide +kernel
theorem d_La_init_4 : decode b_La_init 4 = .ok (.aload_n 0, 1) := by decide +kernel
theorem d_La_init_5 : decode b_La_init 5 = .ok (.bipush 12, 2) := by decide +kernel
theorem d_La_init_7 : decode b_La_init 7 = .ok (.anewarray 9, 3) := by decide +kernel
theorem d_La_init_10 : decode b_La_init 10 = .ok (.putfield 11, 3) := by decide +kernel
theorem d_La_init_13 : decode b_La_init 13 = .ok (.aload_n 0, 1) := by decide +kernel
theorem d_La_init_14 : decode b_La_init 14 = .ok (.iconst 0, 1) := by decide +kernel
theorem d_La_init_15 : decode b_La_init 15 = .ok (.putfield 17, 3) := by decide +kernel
theorem d_La_init_18 : decode b_La_init 18 = .ok (.iconst 0, 1) := by decide +kernel
theorem d_La_init_19 : decode b_La_init 19 = .ok (.istore_n 1, 1) := by decide +kernel
theorem d_La_init_20 : decode b_La_init 20 = .ok (.iload_n 1, 1) := by decide +kernel
theorem d_La_init_21 : decode b_La_init 21 = .ok (.bipush 12, 2) := by decide +kernel
theorem d_La_init_23 : decode b_La_init 23 = .ok (.if_icmp .ge 22, 3) := by decide +kernel
theorem d_La_init_26 : decode b_La_init 26 = .ok (.aload_n 0, 1) := by decide +kernel
theorem d_La_init_27 : decode b_La_init 27 = .ok (.getfield 11, 3) := by decide +kernel
theorem d_La_init_30 : decode b_La_init 30 = .ok (.iload_n 1, 1) := by decide +kernel
theorem d_La_init_31 : decode b_La_init 31 = .ok (.new 9, 3) := by decide +kernel
theorem d_La_init_34 : decode b_La_init 34 = .ok (.dup, 1) := by decide +kernel
theorem d_La_init_35 : decode b_La_init 35 = .ok (.invokespecial 21, 3) := by decide +kernel
theorem d_La_init_38 : decode b_La_init 38 = .ok (.aastore, 1) := by decide +kernel
theorem d_La_init_39 : decode b_La_init 39 = .ok (.iinc 1 1, 3) := by decide +kernel
theorem d_La_init_42 : decode b_La_init 42 = .ok (.goto (-22), 3) := by decide +kernel
theorem d_La_init_45 : decode b_La_init 45 = .ok (.return_, 1) := by decide +kernel
abbrev rm_La_init : Room := { frames := 2, cells := 40, slots := 376, locals := 42 }
theorem ce_La_init : gCe y_La_init (.code y_La_init b_La_init 2 none) 2 0 false := gCe.code wd_120 wd_55 wd_119 (by decide) (by decide +kernel)
def f_La_init_L20 (g0 : gG) (c0 : Nat) (K45 : gW → gX Unit) : Nat → Int32 → gW → gX Unit
  | 0, _, _ => none
  | n + 1, z1, w => if 12 ≤ z1 then (K45 w) else ((gfA w c0 2 0).bind fun v6 => gb2f (gnw w 3 [.int 0, .long 0, .long 0, .null, .null, .int 0, .long 0, .long 0, .long 0, .long 0, .long 0, .long 0]) fun o8 w => gbind (f_So_init g0 o8 w) fun v12 w => (gsA w v6 z1 o8).bind fun w => f_La_init_L20 g0 c0 K45 n (z1 + 1) w)
def f_La_init (g0 : gG) (a0 : Nat) (w : gW) : gX Unit := gb2f (gna w 2 12 12 .null) fun o1 w => (gp w a0 2 0 (.ref o1)).bind fun w => (gp w a0 2 1 (.int 0)).bind fun w => gjoin (fun K45 => f_La_init_L20 g0 a0 K45 13 0 w) (fun (w : gW) => some (.inr (), w))
set_option maxHeartbeats 4000000 in
set_option maxRecDepth 100000 in
theorem m_La_init (l : Launch) (hst : l.stackTraces = false) (D : gD) (g0 : gG) (a0 : Nat) (w : gW) (r : (String ⊕ Unit) × gW) (h : f_La_init g0 a0 w = some r) : gMet l y_La_init (.code y_La_init b_La_init 2 none) rm_La_init D g0 [.ref a0] w (goV r) := by
  refine gw_ofV (by decide +kernel) (Nat.le_of_ble_eq_true rfl) ?_
  intro p e s m below meth c ls args A Q hx hb hml hown hlocks hin hnt hT hK hZ hA hret hexc hthr hI hl
  obtain ⟨H, hH⟩ : ∃ H, H = s.heap := ⟨_, rfl⟩
  rw [← hH] at hI ⊢
  obtain ⟨locs, hlocs⟩ : ∃ z : List Loc, z = [] := ⟨_, rfl⟩
  rw [← hlocs] at hI ⊢
  have hl : lv_has ls 2 [(0, .ref a0)] := hl
  unfold f_La_init at h
  refine lv_aload_n hx hb d_La_init_0 rfl (lv_at hl 0 rfl) ?_
  refine W.objInit hx hb hown (hT _ wd_121 args) (hT _ wd_78 args) (hT _ wd_79 args) rfl (by rw [hml]; exact hl.1) rfl d_La_init_1 (Nat.le_of_ble_eq_true rfl) (Nat.le_of_ble_eq_true rfl) ?_
  refine W.eq (g2 := F0 m 4 ls []) rfl ?_
  refine lv_aload_n hx hb d_La_init_4 rfl (lv_at hl 0 rfl) ?_
  refine lv_bipush (v := 12) hx hb d_La_init_5 (by decide) ?_
  obtain ⟨o1, w, e2, h⟩ := gb2 h
  refine gw_anew (M := 12) hx hb hown hK hI hA (hT _ wd_122 args) (hT _ wd_123 args) (k := 2) rfl e2 (show 0 + 1 ≤ 40 by omega) (show 0 + 12 ≤ 376 by omega) (show 12 * 4 ≤ 536870912 by omega) d_La_init_7 (fun H hI => ?_)
  refine W.widen (k := 1) (n := 12) (show 0 + 1 ≤ 1 by omega) (show 0 + 12 ≤ 12 by omega) ?_
  obtain ⟨w, e3, h⟩ := gb h
  refine gw_putF hx hb hT hown hK hI (ci := 2) rfl i_2 t_2 t_2_ok n_2 0 (by decide) wd_180 (fun _ h9 => h9) rfl hin rfl (ty := .array (.object "BodySolids$Solid")) (by decide +kernel) rfl rfl e3 d_La_init_10 (fun H locs hI => ?_)
  refine lv_aload_n hx hb d_La_init_13 rfl (lv_at hl 0 rfl) ?_
  refine lv_iconst (v := 0) hx hb d_La_init_14 (by decide) ?_
  obtain ⟨w, e4, h⟩ := gb h
  refine gw_put hx hb hT hown hK hI (ci := 2) rfl i_2 t_2 t_2_ok n_2 1 (by decide) wd_182 (fun _ h9 => h9) rfl (ty := .int) (by decide +kernel) rfl rfl e4 d_La_init_15 (fun H locs hI => ?_)
  refine lv_iconst (v := 0) hx hb d_La_init_18 (by decide) ?_
  refine lv_istore_n (lv' := [(1, .int 0), (0, .ref a0)]) hx hb d_La_init_19 rfl hl (by decide) rfl (fun ls hl => ?_)
  obtain ⟨K45, eK45, h⟩ := gj h
  have hK45 : ∀ (w : gW) (H : Heap) (locs : List Loc) (ls : Array Slot), K45 w = some r → gI D s A w H locs → lv_has ls 2 [] → W p l e rm_La_init s m args below meth c H locs 40 376 Q (F0 m 45 ls []) := by
    intro w H locs ls h hI hl
    have h := gk1 eK45 h
    exact W.widen (show 40 ≤ 40 by omega) (show 376 ≤ 376 by omega) (hret _ _ (Option.some.inj h).symm _ _ _ _ d_La_init_45 hI)
  have hL20 : ∀ (n : Nat), n ≤ 13 → ∀ (z5 : Int32) (w : gW) (H : Heap) (locs : List Loc) (ls : Array Slot), f_La_init_L20 g0 a0 K45 n z5 w = some r → gI D s A w H locs → lv_has ls 2 [(0, .ref a0), (1, .int z5)] → W p l e rm_La_init s m args below meth c H locs (40 - n * 3) (376 - n * 28) Q (F0 m 20 ls []) := by
    intro n
    induction n with
    | zero => intro hn z5 w H locs ls h hI hl; exact absurd h (by simp [f_La_init_L20])
    | succ n ih =>
      intro hn z5 w H locs ls h hI hl
      rw [f_La_init_L20] at h
      refine lv_iload_n hx hb d_La_init_20 rfl (lv_at hl 1 rfl) ?_
      refine lv_bipush (v := 12) hx hb d_La_init_21 (by decide) ?_
      refine lv_icmp_ge (tgt := 45) hx hb d_La_init_23 (by decide) (fun c6 => ?_) (fun c6 => ?_)
      · skip
        have h := git c6 h
        refine W.widen (k := 40) (n := 376) (show (40 - (n + 1) * 3) ≤ 40 by omega) (show (376 - (n + 1) * 28) ≤ 376 by omega) ?_
        exact hK45 w H locs ls h hI (lv_sub hl [] rfl)
      · skip
        have h := gie c6 h
        refine lv_aload_n hx hb d_La_init_26 rfl (lv_at hl 0 rfl) ?_
        obtain ⟨v7, e8, h⟩ := gb h
        refine gw_getA hx hb hT hown hK hI (ci := 2) rfl i_2 0 (by decide) wd_180 (fun _ h9 => h9) e8 d_La_init_27 ?_
        refine lv_iload_n hx hb d_La_init_30 rfl (lv_at hl 1 rfl) ?_
        obtain ⟨o9, w, e10, h⟩ := gb2 h
        refine gw_new hx hb hT hown hK hI hA (ci := 3) rfl i_3 t_3 t_3_ok wd_122 wd_124 wd_56 (fs := [.int 0, .long 0, .long 0, .null, .null, .int 0, .long 0, .long 0, .long 0, .long 0, .long 0, .long 0]) df_3 e10 (show (40 - (n + 1) * 3) + 1 ≤ 40 by omega) (show (376 - (n + 1) * 28) + 12 ≤ 376 by omega) d_La_init_31 (fun H hI => ?_)
        refine W.widen (k := ((40 - (n + 1) * 3) + 1)) (n := ((376 - (n + 1) * 28) + 12)) (show (40 - (n + 1) * 3) + 1 ≤ ((40 - (n + 1) * 3) + 1) by omega) (show (376 - (n + 1) * 28) + 12 ≤ ((376 - (n + 1) * 28) + 12) by omega) ?_
        refine lv_dup hx hb d_La_init_34 rfl ?_
        obtain ⟨u11, e12⟩ := gsome h
        refine gw_callV e12 h (gw_runIN (As := []) (rest := [.ref o9, .int z5, .ref v7]) hx hb hml hown hT hK hZ hA hI (m_So_init l hst D g0 o9 w u11 e12) ce_So_init wd_125 rfl ⟨by decide, by decide⟩ rfl rfl hl.1 rfl (lv_room (Nat.le_of_ble_eq_true rfl)) d_La_init_35 ⟨(show ((40 - (n + 1) * 3) + 1) + 2 ≤ 40 by omega), (show ((376 - (n + 1) * 28) + 12) + 16 ≤ 376 by omega)⟩) hI hA hexc (show ((40 - (n + 1) * 3) + 1) + 2 ≤ 40 by omega) (show ((376 - (n + 1) * 28) + 12) + 16 ≤ 376 by omega) (fun v13 w H locs h hI => ?_)
        refine W.widen (k := ((40 - (n + 1) * 3) + 3)) (n := ((376 - (n + 1) * 28) + 28)) (show ((40 - (n + 1) * 3) + 1) + 2 ≤ ((40 - (n + 1) * 3) + 3) by omega) (show ((376 - (n + 1) * 28) + 12) + 16 ≤ ((376 - (n + 1) * 28) + 28) by omega) ?_
        obtain ⟨w, e14, h⟩ := gb h
        refine gw_astA hx hb hT hK hI e14 d_La_init_38 (fun H locs hI => ?_)
        refine lv_iinc (v := z5 + 1) (lv' := [(1, .int (z5 + 1)), (0, .ref a0)]) hx hb d_La_init_39 hl (k := 1) rfl rfl (by decide) rfl (fun ls hl => ?_)
        refine lv_goto (tgt := 20) hx hb d_La_init_42 (by decide) ?_
        refine W.widen (k := (40 - n * 3)) (n := (376 - n * 28)) (show ((40 - (n + 1) * 3) + 3) ≤ (40 - n * 3) by omega) (show ((376 - (n + 1) * 28) + 28) ≤ (376 - n * 28) by omega) ?_
        exact ih (by omega) _ w H locs ls h hI (lv_sub hl [1, 0] rfl)
  refine W.widen (k := (40 - 13 * 3)) (n := (376 - 13 * 28)) (show 1 ≤ (40 - 13 * 3) by omega) (show 12 ≤ (376 - 13 * 28) by omega) ?_
  exact hL20 13 (Nat.le_refl _) _ w H locs ls h hI (lv_sub hl [1, 0] rfl)

abbrev b_B_init : ByteArray := prog_1_method_1_code
def y_B_init : MethodName := ⟨"BodySolids", "<init>", "(J)V"⟩
theorem d_B_init_0 : decode b_B_init 0 = .ok (.aload_n 0, 1) := by decide +kernel
theorem d_B_init_1 : decode b_B_init 1 = .ok (.invokespecial 1, 3) := by decide +kernel
theorem d_B_init_4 : decode b_B_init 4 = .ok (.aload_n 0, 1) := by decide +kernel
theorem d_B_init_5 : decode b_B_init 5 = .ok (.lconst 0, 1) := by decide +kernel
theorem d_B_init_6 : decode b_B_init 6 = .ok (.ldc2_w 9, 3) := by decide +kernel
theorem d_B_init_9 : decode b_B_init 9 = .ok (.lload_n 1, 1) := by decide +kernel
theorem d_B_init_10 : decode b_B_init 10 = .ok (.invokestatic 11, 3) := by decide +kernel
theorem d_B_init_13 : decode b_B_init 13 = .ok (.invokestatic 17, 3) := by decide +kernel
theorem d_B_init_16 : decode b_B_init 16 = .ok (.putfield 20, 3) := by decide +kernel
theorem d_B_init_19 : decode b_B_init 19 = .ok (.aload_n 0, 1) := by decide +kernel
theorem d_B_init_20 : decode b_B_init 20 = .ok (.new 24, 3) := by decide +kernel
theorem d_B_init_23 : decode b_B_init 23 = .ok (.dup, 1) := by decide +kernel
theorem d_B_init_24 : decode b_B_init 24 = .ok (.invokespecial 26, 3) := by decide +kernel
theorem d_B_init_27 : decode b_B_init 27 = .ok (.putfield 27, 3) := by decide +kernel
theorem d_B_init_30 : decode b_B_init 30 = .ok (.aload_n 0, 1) := by decide +kernel
theorem d_B_init_31 : decode b_B_init 31 = .ok (.new 24, 3) := by decide +kernel
theorem d_B_init_34 : decode b_B_init 34 = .ok (.dup, 1) := by decide +kernel
theorem d_B_init_35 : decode b_B_init 35 = .ok (.invokespecial 26, 3) := by decide +kernel
theorem d_B_init_38 : decode b_B_init 38 = .ok (.putfield 31, 3) := by decide +kernel
theorem d_B_init_41 : decode b_B_init 41 = .ok (.aload_n 0, 1) := by decide +kernel
theorem d_B_init_42 : decode b_B_init 42 = .ok (.new 24, 3) := by decide +kernel
theorem d_B_init_45 : decode b_B_init 45 = .ok (.dup, 1) := by decide +kernel
theorem d_B_init_46 : decode b_B_init 46 = .ok (.invokespecial 26, 3) := by decide +kernel
theorem d_B_init_49 : decode b_B_init 49 = .ok (.putfield 34, 3) := by decide +kernel
theorem d_B_init_52 : decode b_B_init 52 = .ok (.aload_n 0, 1) := by decide +kernel
theorem d_B_init_53 : decode b_B_init 53 = .ok (.bipush 8, 2) := by decide +kernel
theorem d_B_init_55 : decode b_B_init 55 = .ok (.newarray .long, 2) := by decide +kernel
theorem d_B_init_57 : decode b_B_init 57 = .ok (.putfield 37, 3) := by decide +kernel
theorem d_B_init_60 : decode b_B_init 60 = .ok (.aload_n 0, 1) := by decide +kernel
theorem d_B_init_61 : decode b_B_init 61 = .ok (.bipush 8, 2) := by decide +kernel
theorem d_B_init_63 : decode b_B_init 63 = .ok (.newarray .long, 2) := by decide +kernel
theorem d_B_init_65 : decode b_B_init 65 = .ok (.putfield 41, 3) := by decide +kernel
theorem d_B_init_68 : decode b_B_init 68 = .ok (.aload_n 0, 1) := by decide +kernel
theorem d_B_init_69 : decode b_B_init 69 = .ok (.iconst 0, 1) := by decide +kernel
theorem d_B_init_70 : decode b_B_init 70 = .ok (.putfield 44, 3) := by decide +kernel
theorem d_B_init_73 : decode b_B_init 73 = .ok (.aload_n 0, 1) := by decide +kernel
theorem d_B_init_74 : decode b_B_init 74 = .ok (.sipush 900, 3) := by decide +kernel
theorem d_B_init_77 : decode b_B_init 77 = .ok (.newarray .int, 2) := by decide +kernel
theorem d_B_init_79 : decode b_B_init 79 = .ok (.putfield 48, 3) := by decide +kernel
theorem d_B_init_82 : decode b_B_init 82 = .ok (.aload_n 0, 1) := by decide +kernel
theorem d_B_init_83 : decode b_B_init 83 = .ok (.getfield 48, 3) := by decide +kernel
theorem d_B_init_86 : decode b_B_init 86 = .ok (.iconst (-1), 1) := by decide +kernel
theorem d_B_init_87 : decode b_B_init 87 = .ok (.invokestatic 52, 3) := by decide +kernel
theorem d_B_init_90 : decode b_B_init 90 = .ok (.aload_n 0, 1) := by decide +kernel
theorem d_B_init_91 : decode b_B_init 91 = .ok (.new 58, 3) := by decide +kernel
theorem d_B_init_94 : decode b_B_init 94 = .ok (.dup, 1) := by decide +kernel
theorem d_B_init_95 : decode b_B_init 95 = .ok (.invokespecial 60, 3) := by decide +kernel
theorem d_B_init_98 : decode b_B_init 98 = .ok (.putfield 61, 3) := by decide +kernel
theorem d_B_init_101 : decode b_B_init 101 = .ok (.aload_n 0, 1) := by decide +kernel
theorem d_B_init_102 : decode b_B_init 102 = .ok (.new 58, 3) := by decide +kernel
theorem d_B_init_105 : decode b_B_init 105 = .ok (.dup, 1) := by decide +kernel
theorem d_B_init_106 : decode b_B_init 106 = .ok (.invokespecial 60, 3) := by decide +kernel
theorem d_B_init_109 : decode b_B_init 109 = .ok (.putfield 65, 3) := by decide +kernel
theorem d_B_init_112 : decode b_B_init 112 = .ok (.return_, 1) := by decide +kernel
abbrev rm_B_init : Room := { frames := 4, cells := 88, slots := 1681, locals := 82 }
theorem ce_B_init : gCe y_B_init (.code y_B_init b_B_init 3 none) 3 1 false := gCe.code wd_76 wd_49 wd_75 (by decide) (by decide +kernel)
def f_B_init (g0 : gG) (a0 : Nat) (p1 : Int64) (w : gW) : gX Unit := gbind (f_Ma_min2 g0 1000 p1 w) fun v3 w => gbind (f_Ma_max2 g0 0 v3 w) fun v6 w => (gp w a0 0 0 (.long v6)).bind fun w => gb2f (gnw w 1 [.null, .int 0, .int 0]) fun o8 w => gbind (f_AL_init g0 o8 w) fun v12 w => (gp w a0 0 1 (.ref o8)).bind fun w => gb2f (gnw w 1 [.null, .int 0, .int 0]) fun o14 w => gbind (f_AL_init g0 o14 w) fun v18 w => (gp w a0 0 2 (.ref o14)).bind fun w => gb2f (gnw w 1 [.null, .int 0, .int 0]) fun o20 w => gbind (f_AL_init g0 o20 w) fun v24 w => (gp w a0 0 3 (.ref o20)).bind fun w => gb2f (gna w 1 8 8 (.long 0)) fun o26 w => (gp w a0 0 4 (.ref o26)).bind fun w => gb2f (gna w 1 8 8 (.long 0)) fun o29 w => (gp w a0 0 5 (.ref o29)).bind fun w => (gp w a0 0 6 (.int 0)).bind fun w => gb2f (gna w 0 900 900 (.int 0)) fun o33 w => (gp w a0 0 7 (.ref o33)).bind fun w => (gfA w a0 0 7).bind fun v36 => gbind (f_Ar_fill g0 v36 (-1) w) fun v40 w => gb2f (gnw w 2 [.null, .int 0]) fun o41 w => gbind (f_La_init g0 o41 w) fun v45 w => (gp w a0 0 8 (.ref o41)).bind fun w => gb2f (gnw w 2 [.null, .int 0]) fun o47 w => gbind (f_La_init g0 o47 w) fun v51 w => (gp w a0 0 9 (.ref o47)).bind fun w => some (.inr (), w)
set_option maxHeartbeats 4000000 in
set_option maxRecDepth 100000 in
theorem m_B_init (l : Launch) (hst : l.stackTraces = false) (D : gD) (g0 : gG) (a0 : Nat) (p1 : Int64) (w : gW) (r : (String ⊕ Unit) × gW) (h : f_B_init g0 a0 p1 w = some r) : gMet l y_B_init (.code y_B_init b_B_init 3 none) rm_B_init D g0 [.ref a0, .long p1] w (goV r) := by
  refine gw_ofV (by decide +kernel) (Nat.le_of_ble_eq_true rfl) ?_
  intro p e s m below meth c ls args A Q hx hb hml hown hlocks hin hnt hT hK hZ hA hret hexc hthr hI hl
  obtain ⟨H, hH⟩ : ∃ H, H = s.heap := ⟨_, rfl⟩
  rw [← hH] at hI ⊢
  obtain ⟨locs, hlocs⟩ : ∃ z : List Loc, z = [] := ⟨_, rfl⟩
  rw [← hlocs] at hI ⊢
  have hl : lv_has ls 3 [(0, .ref a0), (1, .long p1)] := hl
  unfold f_B_init at h
  refine lv_aload_n hx hb d_B_init_0 rfl (lv_at hl 0 rfl) ?_
  refine W.objInit hx hb hown (hT _ wd_77 args) (hT _ wd_78 args) (hT _ wd_79 args) rfl (by rw [hml]; exact hl.1) rfl d_B_init_1 (Nat.le_of_ble_eq_true rfl) (Nat.le_of_ble_eq_true rfl) ?_
  refine W.eq (g2 := F0 m 4 ls []) rfl ?_
  refine lv_aload_n hx hb d_B_init_4 rfl (lv_at hl 0 rfl) ?_
  refine lv_lconst (v := 0) hx hb d_B_init_5 (by decide) ?_
  refine lv_ldc2 (v := 1000) hx hb hown (hT _ wd_80 args) d_B_init_6 ?_
  refine lv_lload_n hx hb d_B_init_9 rfl (lv_at hl 1 rfl) ?_
  obtain ⟨u1, e2⟩ := gsome h
  refine gw_callJ e2 h (gw_runS (As := [.long 1000, .long p1]) (rest := [.long 0, .ref a0]) hx hb hml hown hT hK hZ hA hI (m_Ma_min2 l hst D g0 1000 p1 w u1 e2) ce_Ma_min2 wd_81 ⟨by decide, by decide⟩ rfl rfl hl.1 rfl (lv_room (Nat.le_of_ble_eq_true rfl)) d_B_init_10 ⟨(show 0 + 0 ≤ 88 by omega), (show 0 + 0 ≤ 1681 by omega)⟩) hI hA hexc (show 0 + 0 ≤ 88 by omega) (show 0 + 0 ≤ 1681 by omega) (fun v3 w H locs h hI => ?_)
  obtain ⟨u4, e5⟩ := gsome h
  refine gw_callJ e5 h (gw_runS (As := [.long 0, .long v3]) (rest := [.ref a0]) hx hb hml hown hT hK hZ hA hI (m_Ma_max2 l hst D g0 0 v3 w u4 e5) ce_Ma_max2 wd_84 ⟨by decide, by decide⟩ rfl rfl hl.1 rfl (lv_room (Nat.le_of_ble_eq_true rfl)) d_B_init_13 ⟨(show 0 + 0 ≤ 88 by omega), (show 0 + 0 ≤ 1681 by omega)⟩) hI hA hexc (show 0 + 0 ≤ 88 by omega) (show 0 + 0 ≤ 1681 by omega) (fun v6 w H locs h hI => ?_)
  obtain ⟨w, e7, h⟩ := gb h
  refine gw_putF hx hb hT hown hK hI (ci := 0) rfl i_0 t_0 t_0_ok n_0 0 (by decide) wd_189 (fun _ h9 => h9) rfl hin rfl (ty := .long) (by decide +kernel) rfl rfl e7 d_B_init_16 (fun H locs hI => ?_)
  refine lv_aload_n hx hb d_B_init_19 rfl (lv_at hl 0 rfl) ?_
  obtain ⟨o8, w, e9, h⟩ := gb2 h
  refine gw_new hx hb hT hown hK hI hA (ci := 1) rfl i_1 t_1 t_1_ok wd_87 wd_88 wd_53 (fs := [.null, .int 0, .int 0]) df_1 e9 (show 0 + 1 ≤ 88 by omega) (show 0 + 3 ≤ 1681 by omega) d_B_init_20 (fun H hI => ?_)
  refine W.widen (k := 1) (n := 3) (show 0 + 1 ≤ 1 by omega) (show 0 + 3 ≤ 3 by omega) ?_
  refine lv_dup hx hb d_B_init_23 rfl ?_
  obtain ⟨u10, e11⟩ := gsome h
  refine gw_callV e11 h (gw_runI (As := []) (rest := [.ref o8, .ref a0]) hx hb hml hown hT hK hZ hA hI (m_AL_init l hst D g0 o8 w u10 e11) ce_AL_init wd_89 rfl ⟨by decide, by decide⟩ rfl rfl hl.1 rfl (lv_room (Nat.le_of_ble_eq_true rfl)) d_B_init_24 ⟨(show 1 + 0 ≤ 88 by omega), (show 3 + 0 ≤ 1681 by omega)⟩) hI hA hexc (show 1 + 0 ≤ 88 by omega) (show 3 + 0 ≤ 1681 by omega) (fun v12 w H locs h hI => ?_)
  obtain ⟨w, e13, h⟩ := gb h
  refine gw_putF hx hb hT hown hK hI (ci := 0) rfl i_0 t_0 t_0_ok n_0 1 (by decide) wd_190 (fun _ h9 => h9) rfl hin rfl (ty := .object "java/util/ArrayList") (by decide +kernel) rfl rfl e13 d_B_init_27 (fun H locs hI => ?_)
  refine lv_aload_n hx hb d_B_init_30 rfl (lv_at hl 0 rfl) ?_
  obtain ⟨o14, w, e15, h⟩ := gb2 h
  refine gw_new hx hb hT hown hK hI hA (ci := 1) rfl i_1 t_1 t_1_ok wd_87 wd_88 wd_53 (fs := [.null, .int 0, .int 0]) df_1 e15 (show 1 + 1 ≤ 88 by omega) (show 3 + 3 ≤ 1681 by omega) d_B_init_31 (fun H hI => ?_)
  refine W.widen (k := 2) (n := 6) (show 1 + 1 ≤ 2 by omega) (show 3 + 3 ≤ 6 by omega) ?_
  refine lv_dup hx hb d_B_init_34 rfl ?_
  obtain ⟨u16, e17⟩ := gsome h
  refine gw_callV e17 h (gw_runI (As := []) (rest := [.ref o14, .ref a0]) hx hb hml hown hT hK hZ hA hI (m_AL_init l hst D g0 o14 w u16 e17) ce_AL_init wd_89 rfl ⟨by decide, by decide⟩ rfl rfl hl.1 rfl (lv_room (Nat.le_of_ble_eq_true rfl)) d_B_init_35 ⟨(show 2 + 0 ≤ 88 by omega), (show 6 + 0 ≤ 1681 by omega)⟩) hI hA hexc (show 2 + 0 ≤ 88 by omega) (show 6 + 0 ≤ 1681 by omega) (fun v18 w H locs h hI => ?_)
  obtain ⟨w, e19, h⟩ := gb h
  refine gw_putF hx hb hT hown hK hI (ci := 0) rfl i_0 t_0 t_0_ok n_0 2 (by decide) wd_191 (fun _ h9 => h9) rfl hin rfl (ty := .object "java/util/ArrayList") (by decide +kernel) rfl rfl e19 d_B_init_38 (fun H locs hI => ?_)
  refine lv_aload_n hx hb d_B_init_41 rfl (lv_at hl 0 rfl) ?_
  obtain ⟨o20, w, e21, h⟩ := gb2 h
  refine gw_new hx hb hT hown hK hI hA (ci := 1) rfl i_1 t_1 t_1_ok wd_87 wd_88 wd_53 (fs := [.null, .int 0, .int 0]) df_1 e21 (show 2 + 1 ≤ 88 by omega) (show 6 + 3 ≤ 1681 by omega) d_B_init_42 (fun H hI => ?_)
  refine W.widen (k := 3) (n := 9) (show 2 + 1 ≤ 3 by omega) (show 6 + 3 ≤ 9 by omega) ?_
  refine lv_dup hx hb d_B_init_45 rfl ?_
  obtain ⟨u22, e23⟩ := gsome h
  refine gw_callV e23 h (gw_runI (As := []) (rest := [.ref o20, .ref a0]) hx hb hml hown hT hK hZ hA hI (m_AL_init l hst D g0 o20 w u22 e23) ce_AL_init wd_89 rfl ⟨by decide, by decide⟩ rfl rfl hl.1 rfl (lv_room (Nat.le_of_ble_eq_true rfl)) d_B_init_46 ⟨(show 3 + 0 ≤ 88 by omega), (show 9 + 0 ≤ 1681 by omega)⟩) hI hA hexc (show 3 + 0 ≤ 88 by omega) (show 9 + 0 ≤ 1681 by omega) (fun v24 w H locs h hI => ?_)
  obtain ⟨w, e25, h⟩ := gb h
  refine gw_putF hx hb hT hown hK hI (ci := 0) rfl i_0 t_0 t_0_ok n_0 3 (by decide) wd_192 (fun _ h9 => h9) rfl hin rfl (ty := .object "java/util/ArrayList") (by decide +kernel) rfl rfl e25 d_B_init_49 (fun H locs hI => ?_)
  refine lv_aload_n hx hb d_B_init_52 rfl (lv_at hl 0 rfl) ?_
  refine lv_bipush (v := 8) hx hb d_B_init_53 (by decide) ?_
  obtain ⟨o26, w, e27, h⟩ := gb2 h
  refine gw_newa (atype := .long) (ty := .long) (M := 8) hx hb hK hI hA (hT _ wd_178 args) rfl (k := 1) rfl (fun h9 => h9) e27 (show 3 + 1 ≤ 88 by omega) (show 9 + 8 ≤ 1681 by omega) (show 8 * 8 ≤ 536870912 by omega) d_B_init_55 (fun H hI => ?_)
  refine W.widen (k := 4) (n := 17) (show 3 + 1 ≤ 4 by omega) (show 9 + 8 ≤ 17 by omega) ?_
  obtain ⟨w, e28, h⟩ := gb h
  refine gw_putF hx hb hT hown hK hI (ci := 0) rfl i_0 t_0 t_0_ok n_0 4 (by decide) wd_193 (fun _ h9 => h9) rfl hin rfl (ty := .array .long) (by decide +kernel) rfl rfl e28 d_B_init_57 (fun H locs hI => ?_)
  refine lv_aload_n hx hb d_B_init_60 rfl (lv_at hl 0 rfl) ?_
  refine lv_bipush (v := 8) hx hb d_B_init_61 (by decide) ?_
  obtain ⟨o29, w, e30, h⟩ := gb2 h
  refine gw_newa (atype := .long) (ty := .long) (M := 8) hx hb hK hI hA (hT _ wd_178 args) rfl (k := 1) rfl (fun h9 => h9) e30 (show 4 + 1 ≤ 88 by omega) (show 17 + 8 ≤ 1681 by omega) (show 8 * 8 ≤ 536870912 by omega) d_B_init_63 (fun H hI => ?_)
  refine W.widen (k := 5) (n := 25) (show 4 + 1 ≤ 5 by omega) (show 17 + 8 ≤ 25 by omega) ?_
  obtain ⟨w, e31, h⟩ := gb h
  refine gw_putF hx hb hT hown hK hI (ci := 0) rfl i_0 t_0 t_0_ok n_0 5 (by decide) wd_194 (fun _ h9 => h9) rfl hin rfl (ty := .array .long) (by decide +kernel) rfl rfl e31 d_B_init_65 (fun H locs hI => ?_)
  refine lv_aload_n hx hb d_B_init_68 rfl (lv_at hl 0 rfl) ?_
  refine lv_iconst (v := 0) hx hb d_B_init_69 (by decide) ?_
  obtain ⟨w, e32, h⟩ := gb h
  refine gw_put hx hb hT hown hK hI (ci := 0) rfl i_0 t_0 t_0_ok n_0 6 (by decide) wd_195 (fun _ h9 => h9) rfl (ty := .int) (by decide +kernel) rfl rfl e32 d_B_init_70 (fun H locs hI => ?_)
  refine lv_aload_n hx hb d_B_init_73 rfl (lv_at hl 0 rfl) ?_
  refine lv_sipush (v := 900) hx hb d_B_init_74 (by decide) ?_
  obtain ⟨o33, w, e34, h⟩ := gb2 h
  refine gw_newa (atype := .int) (ty := .int) (M := 900) hx hb hK hI hA (hT _ wd_179 args) rfl (k := 0) rfl (fun h9 => h9) e34 (show 5 + 1 ≤ 88 by omega) (show 25 + 900 ≤ 1681 by omega) (show 900 * 4 ≤ 536870912 by omega) d_B_init_77 (fun H hI => ?_)
  refine W.widen (k := 6) (n := 925) (show 5 + 1 ≤ 6 by omega) (show 25 + 900 ≤ 925 by omega) ?_
  obtain ⟨w, e35, h⟩ := gb h
  refine gw_putF hx hb hT hown hK hI (ci := 0) rfl i_0 t_0 t_0_ok n_0 7 (by decide) wd_196 (fun _ h9 => h9) rfl hin rfl (ty := .array .int) (by decide +kernel) rfl rfl e35 d_B_init_79 (fun H locs hI => ?_)
  refine lv_aload_n hx hb d_B_init_82 rfl (lv_at hl 0 rfl) ?_
  obtain ⟨v36, e37, h⟩ := gb h
  refine gw_getA hx hb hT hown hK hI (ci := 0) rfl i_0 7 (by decide) wd_196 (fun _ h9 => h9) e37 d_B_init_83 ?_
  refine lv_iconst (v := -1) hx hb d_B_init_86 (by decide) ?_
  obtain ⟨u38, e39⟩ := gsome h
  refine gw_callV e39 h (gw_runS (As := [.ref v36, .int (-1)]) (rest := []) hx hb hml hown hT hK hZ hA hI (m_Ar_fill l hst D g0 v36 (-1) w u38 e39) ce_Ar_fill wd_113 ⟨by decide, by decide⟩ rfl rfl hl.1 rfl (lv_room (Nat.le_of_ble_eq_true rfl)) d_B_init_87 ⟨(show 6 + 0 ≤ 88 by omega), (show 925 + 0 ≤ 1681 by omega)⟩) hI hA hexc (show 6 + 0 ≤ 88 by omega) (show 925 + 0 ≤ 1681 by omega) (fun v40 w H locs h hI => ?_)
  refine lv_aload_n hx hb d_B_init_90 rfl (lv_at hl 0 rfl) ?_
  obtain ⟨o41, w, e42, h⟩ := gb2 h
  refine gw_new hx hb hT hown hK hI hA (ci := 2) rfl i_2 t_2 t_2_ok wd_116 wd_117 wd_55 (fs := [.null, .int 0]) df_2 e42 (show 6 + 1 ≤ 88 by omega) (show 925 + 2 ≤ 1681 by omega) d_B_init_91 (fun H hI => ?_)
  refine W.widen (k := 7) (n := 927) (show 6 + 1 ≤ 7 by omega) (show 925 + 2 ≤ 927 by omega) ?_
  refine lv_dup hx hb d_B_init_94 rfl ?_
  obtain ⟨u43, e44⟩ := gsome h
  refine gw_callV e44 h (gw_runI (As := []) (rest := [.ref o41, .ref a0]) hx hb hml hown hT hK hZ hA hI (m_La_init l hst D g0 o41 w u43 e44) ce_La_init wd_118 rfl ⟨by decide, by decide⟩ rfl rfl hl.1 rfl (lv_room (Nat.le_of_ble_eq_true rfl)) d_B_init_95 ⟨(show 7 + 40 ≤ 88 by omega), (show 927 + 376 ≤ 1681 by omega)⟩) hI hA hexc (show 7 + 40 ≤ 88 by omega) (show 927 + 376 ≤ 1681 by omega) (fun v45 w H locs h hI => ?_)
  refine W.widen (k := 47) (n := 1303) (show 7 + 40 ≤ 47 by omega) (show 927 + 376 ≤ 1303 by omega) ?_
  obtain ⟨w, e46, h⟩ := gb h
  refine gw_putF hx hb hT hown hK hI (ci := 0) rfl i_0 t_0 t_0_ok n_0 8 (by decide) wd_197 (fun _ h9 => h9) rfl hin rfl (ty := .object "BodySolids$Layout") (by decide +kernel) rfl rfl e46 d_B_init_98 (fun H locs hI => ?_)
  refine lv_aload_n hx hb d_B_init_101 rfl (lv_at hl 0 rfl) ?_
  obtain ⟨o47, w, e48, h⟩ := gb2 h
  refine gw_new hx hb hT hown hK hI hA (ci := 2) rfl i_2 t_2 t_2_ok wd_116 wd_117 wd_55 (fs := [.null, .int 0]) df_2 e48 (show 47 + 1 ≤ 88 by omega) (show 1303 + 2 ≤ 1681 by omega) d_B_init_102 (fun H hI => ?_)
  refine W.widen (k := 48) (n := 1305) (show 47 + 1 ≤ 48 by omega) (show 1303 + 2 ≤ 1305 by omega) ?_
  refine lv_dup hx hb d_B_init_105 rfl ?_
  obtain ⟨u49, e50⟩ := gsome h
  refine gw_callV e50 h (gw_runI (As := []) (rest := [.ref o47, .ref a0]) hx hb hml hown hT hK hZ hA hI (m_La_init l hst D g0 o47 w u49 e50) ce_La_init wd_118 rfl ⟨by decide, by decide⟩ rfl rfl hl.1 rfl (lv_room (Nat.le_of_ble_eq_true rfl)) d_B_init_106 ⟨(show 48 + 40 ≤ 88 by omega), (show 1305 + 376 ≤ 1681 by omega)⟩) hI hA hexc (show 48 + 40 ≤ 88 by omega) (show 1305 + 376 ≤ 1681 by omega) (fun v51 w H locs h hI => ?_)
  refine W.widen (k := 88) (n := 1681) (show 48 + 40 ≤ 88 by omega) (show 1305 + 376 ≤ 1681 by omega) ?_
  obtain ⟨w, e52, h⟩ := gb h
  refine gw_putF hx hb hT hown hK hI (ci := 0) rfl i_0 t_0 t_0_ok n_0 9 (by decide) wd_198 (fun _ h9 => h9) rfl hin rfl (ty := .object "BodySolids$Layout") (by decide +kernel) rfl rfl e52 d_B_init_109 (fun H locs hI => ?_)
  exact W.widen (show 88 ≤ 88 by omega) (show 1681 ≤ 1681 by omega) (hret _ _ (Option.some.inj h).symm _ _ _ _ d_B_init_112 hI)

abbrev b_M_init : ByteArray := prog_9_method_1_code
def y_M_init : MethodName := ⟨"BodySolidsModel", "<init>", "(J)V"⟩
theorem d_M_init_0 : decode b_M_init 0 = .ok (.aload_n 0, 1) := by decide +kernel
theorem d_M_init_1 : decode b_M_init 1 = .ok (.invokespecial 1, 3) := by decide +kernel
theorem d_M_init_4 : decode b_M_init 4 = .ok (.aload_n 0, 1) := by decide +kernel
theorem d_M_init_5 : decode b_M_init 5 = .ok (.bipush 30, 2) := by decide +kernel
theorem d_M_init_7 : decode b_M_init 7 = .ok (.newarray .int, 2) := by decide +kernel
theorem d_M_init_9 : decode b_M_init 9 = .ok (.putfield 7, 3) := by decide +kernel
theorem d_M_init_12 : decode b_M_init 12 = .ok (.aload_n 0, 1) := by decide +kernel
theorem d_M_init_13 : decode b_M_init 13 = .ok (.sipush 360, 3) := by decide +kernel
theorem d_M_init_16 : decode b_M_init 16 = .ok (.newarray .int, 2) := by decide +kernel
theorem d_M_init_18 : decode b_M_init 18 = .ok (.putfield 13, 3) := by decide +kernel
theorem d_M_init_21 : decode b_M_init 21 = .ok (.aload_n 0, 1) := by decide +kernel
theorem d_M_init_22 : decode b_M_init 22 = .ok (.sipush 2160, 3) := by decide +kernel
theorem d_M_init_25 : decode b_M_init 25 = .ok (.newarray .long, 2) := by decide +kernel
theorem d_M_init_27 : decode b_M_init 27 = .ok (.putfield 16, 3) := by decide +kernel
theorem d_M_init_30 : decode b_M_init 30 = .ok (.aload_n 0, 1) := by decide +kernel
theorem d_M_init_31 : decode b_M_init 31 = .ok (.sipush 360, 3) := by decide +kernel
theorem d_M_init_34 : decode b_M_init 34 = .ok (.newarray .int, 2) := by decide +kernel
theorem d_M_init_36 : decode b_M_init 36 = .ok (.putfield 20, 3) := by decide +kernel
theorem d_M_init_39 : decode b_M_init 39 = .ok (.aload_n 0, 1) := by decide +kernel
theorem d_M_init_40 : decode b_M_init 40 = .ok (.sipush 2880, 3) := by decide +kernel
theorem d_M_init_43 : decode b_M_init 43 = .ok (.newarray .long, 2) := by decide +kernel
theorem d_M_init_45 : decode b_M_init 45 = .ok (.putfield 23, 3) := by decide +kernel
theorem d_M_init_48 : decode b_M_init 48 = .ok (.aload_n 0, 1) := by decide +kernel
theorem d_M_init_49 : decode b_M_init 49 = .ok (.sipush 2880, 3) := by decide +kernel
theorem d_M_init_52 : decode b_M_init 52 = .ok (.newarray .long, 2) := by decide +kernel
theorem d_M_init_54 : decode b_M_init 54 = .ok (.putfield 26, 3) := by decide +kernel
theorem d_M_init_57 : decode b_M_init 57 = .ok (.aload_n 0, 1) := by decide +kernel
theorem d_M_init_58 : decode b_M_init 58 = .ok (.bipush 8, 2) := by decide +kernel
theorem d_M_init_60 : decode b_M_init 60 = .ok (.newarray .long, 2) := by decide +kernel
theorem d_M_init_62 : decode b_M_init 62 = .ok (.putfield 29, 3) := by decide +kernel
theorem d_M_init_65 : decode b_M_init 65 = .ok (.aload_n 0, 1) := by decide +kernel
theorem d_M_init_66 : decode b_M_init 66 = .ok (.bipush 8, 2) := by decide +kernel
theorem d_M_init_68 : decode b_M_init 68 = .ok (.newarray .long, 2) := by decide +kernel
theorem d_M_init_70 : decode b_M_init 70 = .ok (.putfield 32, 3) := by decide +kernel
theorem d_M_init_73 : decode b_M_init 73 = .ok (.aload_n 0, 1) := by decide +kernel
theorem d_M_init_74 : decode b_M_init 74 = .ok (.bipush 30, 2) := by decide +kernel
theorem d_M_init_76 : decode b_M_init 76 = .ok (.newarray .int, 2) := by decide +kernel
theorem d_M_init_78 : decode b_M_init 78 = .ok (.putfield 35, 3) := by decide +kernel
theorem d_M_init_81 : decode b_M_init 81 = .ok (.aload_n 0, 1) := by decide +kernel
theorem d_M_init_82 : decode b_M_init 82 = .ok (.bipush 30, 2) := by decide +kernel
theorem d_M_init_84 : decode b_M_init 84 = .ok (.newarray .long, 2) := by decide +kernel
theorem d_M_init_86 : decode b_M_init 86 = .ok (.putfield 38, 3) := by decide +kernel
theorem d_M_init_89 : decode b_M_init 89 = .ok (.aload_n 0, 1) := by decide +kernel
theorem d_M_init_90 : decode b_M_init 90 = .ok (.bipush 30, 2) := by decide +kernel
theorem d_M_init_92 : decode b_M_init 92 = .ok (.newarray .long, 2) := by decide +kernel
theorem d_M_init_94 : decode b_M_init 94 = .ok (.putfield 41, 3) := by decide +kernel
theorem d_M_init_97 : decode b_M_init 97 = .ok (.aload_n 0, 1) := by decide +kernel
theorem d_M_init_98 : decode b_M_init 98 = .ok (.bipush 30, 2) := by decide +kernel
theorem d_M_init_100 : decode b_M_init 100 = .ok (.newarray .int, 2) := by decide +kernel
theorem d_M_init_102 : decode b_M_init 102 = .ok (.putfield 44, 3) := by decide +kernel
theorem d_M_init_105 : decode b_M_init 105 = .ok (.aload_n 0, 1) := by decide +kernel
theorem d_M_init_106 : decode b_M_init 106 = .ok (.bipush 30, 2) := by decide +kernel
theorem d_M_init_108 : decode b_M_init 108 = .ok (.newarray .int, 2) := by decide +kernel
theorem d_M_init_110 : decode b_M_init 110 = .ok (.putfield 47, 3) := by decide +kernel
theorem d_M_init_113 : decode b_M_init 113 = .ok (.aload_n 0, 1) := by decide +kernel
theorem d_M_init_114 : decode b_M_init 114 = .ok (.bipush 60, 2) := by decide +kernel
theorem d_M_init_116 : decode b_M_init 116 = .ok (.newarray .long, 2) := by decide +kernel
theorem d_M_init_118 : decode b_M_init 118 = .ok (.putfield 50, 3) := by decide +kernel
theorem d_M_init_121 : decode b_M_init 121 = .ok (.aload_n 0, 1) := by decide +kernel
theorem d_M_init_122 : decode b_M_init 122 = .ok (.iconst 2, 1) := by decide +kernel
theorem d_M_init_123 : decode b_M_init 123 = .ok (.newarray .int, 2) := by decide +kernel
theorem d_M_init_125 : decode b_M_init 125 = .ok (.putfield 53, 3) := by decide +kernel
theorem d_M_init_128 : decode b_M_init 128 = .ok (.aload_n 0, 1) := by decide +kernel
theorem d_M_init_129 : decode b_M_init 129 = .ok (.iconst 2, 1) := by decide +kernel
theorem d_M_init_130 : decode b_M_init 130 = .ok (.newarray .int, 2) := by decide +kernel
theorem d_M_init_132 : decode b_M_init 132 = .ok (.putfield 56, 3) := by decide +kernel
theorem d_M_init_135 : decode b_M_init 135 = .ok (.aload_n 0, 1) := by decide +kernel
theorem d_M_init_136 : decode b_M_init 136 = .ok (.bipush 16, 2) := by decide +kernel
theorem d_M_init_138 : decode b_M_init 138 = .ok (.newarray .long, 2) := by decide +kernel
theorem d_M_init_140 : decode b_M_init 140 = .ok (.putfield 59, 3) := by decide +kernel
theorem d_M_init_143 : decode b_M_init 143 = .ok (.aload_n 0, 1) := by decide +kernel
theorem d_M_init_144 : decode b_M_init 144 = .ok (.bipush 16, 2) := by decide +kernel
theorem d_M_init_146 : decode b_M_init 146 = .ok (.newarray .long, 2) := by decide +kernel
theorem d_M_init_148 : decode b_M_init 148 = .ok (.putfield 62, 3) := by decide +kernel
theorem d_M_init_151 : decode b_M_init 151 = .ok (.aload_n 0, 1) := by decide +kernel
theorem d_M_init_152 : decode b_M_init 152 = .ok (.iconst 2, 1) := by decide +kernel
theorem d_M_init_153 : decode b_M_init 153 = .ok (.newarray .long, 2) := by decide +kernel
theorem d_M_init_155 : decode b_M_init 155 = .ok (.putfield 65, 3) := by decide +kernel
theorem d_M_init_158 : decode b_M_init 158 = .ok (.aload_n 0, 1) := by decide +kernel
theorem d_M_init_159 : decode b_M_init 159 = .ok (.iconst 2, 1) := by decide +kernel
theorem d_M_init_160 : decode b_M_init 160 = .ok (.newarray .long, 2) := by decide +kernel
theorem d_M_init_162 : decode b_M_init 162 = .ok (.putfield 68, 3) := by decide +kernel
theorem d_M_init_165 : decode b_M_init 165 = .ok (.aload_n 0, 1) := by decide +kernel
theorem d_M_init_166 : decode b_M_init 166 = .ok (.iconst 2, 1) := by decide +kernel
theorem d_M_init_167 : decode b_M_init 167 = .ok (.newarray .long, 2) := by decide +kernel
theorem d_M_init_169 : decode b_M_init 169 = .ok (.putfield 71, 3) := by decide +kernel
theorem d_M_init_172 : decode b_M_init 172 = .ok (.aload_n 0, 1) := by decide +kernel
theorem d_M_init_173 : decode b_M_init 173 = .ok (.lload_n 1, 1) := by decide +kernel
theorem d_M_init_174 : decode b_M_init 174 = .ok (.lconst 0, 1) := by decide +kernel
theorem d_M_init_175 : decode b_M_init 175 = .ok (.lcmp, 1) := by decide +kernel
theorem d_M_init_176 : decode b_M_init 176 = .ok (.ifCond .ge 7, 3) := by decide +kernel
theorem d_M_init_179 : decode b_M_init 179 = .ok (.lconst 0, 1) := by decide +kernel
theorem d_M_init_180 : decode b_M_init 180 = .ok (.goto 18, 3) := by decide +kernel
theorem d_M_init_183 : decode b_M_init 183 = .ok (.lload_n 1, 1) := by decide +kernel
theorem d_M_init_184 : decode b_M_init 184 = .ok (.ldc2_w 74, 3) := by decide +kernel
theorem d_M_init_187 : decode b_M_init 187 = .ok (.lcmp, 1) := by decide +kernel
theorem d_M_init_188 : decode b_M_init 188 = .ok (.ifCond .le 9, 3) := by decide +kernel
theorem d_M_init_191 : decode b_M_init 191 = .ok (.ldc2_w 74, 3) := by decide +kernel
theorem d_M_init_194 : decode b_M_init 194 = .ok (.goto 4, 3) := by decide +kernel
theorem d_M_init_197 : decode b_M_init 197 = .ok (.lload_n 1, 1) := by decide +kernel
theorem d_M_init_198 : decode b_M_init 198 = .ok (.putfield 76, 3) := by decide +kernel
theorem d_M_init_201 : decode b_M_init 201 = .ok (.return_, 1) := by decide +kernel
abbrev rm_M_init : Room := { frames := 1, cells := 21, slots := 8938, locals := 22 }
theorem ce_M_init : gCe y_M_init (.code y_M_init b_M_init 3 none) 3 1 false := gCe.code wd_783 wd_57 wd_782 (by decide) (by decide +kernel)
def f_M_init (g0 : gG) (a0 : Nat) (p1 : Int64) (w : gW) : gX Unit := gb2f (gna w 0 30 30 (.int 0)) fun o1 w => (gp w a0 7 3 (.ref o1)).bind fun w => gb2f (gna w 0 360 360 (.int 0)) fun o4 w => (gp w a0 7 4 (.ref o4)).bind fun w => gb2f (gna w 1 2160 2160 (.long 0)) fun o7 w => (gp w a0 7 5 (.ref o7)).bind fun w => gb2f (gna w 0 360 360 (.int 0)) fun o10 w => (gp w a0 7 6 (.ref o10)).bind fun w => gb2f (gna w 1 2880 2880 (.long 0)) fun o13 w => (gp w a0 7 7 (.ref o13)).bind fun w => gb2f (gna w 1 2880 2880 (.long 0)) fun o16 w => (gp w a0 7 8 (.ref o16)).bind fun w => gb2f (gna w 1 8 8 (.long 0)) fun o19 w => (gp w a0 7 10 (.ref o19)).bind fun w => gb2f (gna w 1 8 8 (.long 0)) fun o22 w => (gp w a0 7 11 (.ref o22)).bind fun w => gb2f (gna w 0 30 30 (.int 0)) fun o25 w => (gp w a0 7 13 (.ref o25)).bind fun w => gb2f (gna w 1 30 30 (.long 0)) fun o28 w => (gp w a0 7 14 (.ref o28)).bind fun w => gb2f (gna w 1 30 30 (.long 0)) fun o31 w => (gp w a0 7 15 (.ref o31)).bind fun w => gb2f (gna w 0 30 30 (.int 0)) fun o34 w => (gp w a0 7 16 (.ref o34)).bind fun w => gb2f (gna w 0 30 30 (.int 0)) fun o37 w => (gp w a0 7 17 (.ref o37)).bind fun w => gb2f (gna w 1 60 60 (.long 0)) fun o40 w => (gp w a0 7 19 (.ref o40)).bind fun w => gb2f (gna w 0 2 2 (.int 0)) fun o43 w => (gp w a0 7 20 (.ref o43)).bind fun w => gb2f (gna w 0 2 2 (.int 0)) fun o46 w => (gp w a0 7 21 (.ref o46)).bind fun w => gb2f (gna w 1 16 16 (.long 0)) fun o49 w => (gp w a0 7 22 (.ref o49)).bind fun w => gb2f (gna w 1 16 16 (.long 0)) fun o52 w => (gp w a0 7 23 (.ref o52)).bind fun w => gb2f (gna w 1 2 2 (.long 0)) fun o55 w => (gp w a0 7 24 (.ref o55)).bind fun w => gb2f (gna w 1 2 2 (.long 0)) fun o58 w => (gp w a0 7 25 (.ref o58)).bind fun w => gb2f (gna w 1 2 2 (.long 0)) fun o61 w => (gp w a0 7 26 (.ref o61)).bind fun w => gjoin (fun K198 => if 0 ≤ p1 then (if p1 ≤ 1000 then (K198 p1 w) else (K198 1000 w)) else (K198 0 w)) (fun (y64 : Int64) (w : gW) => (gp w a0 7 1 (.long y64)).bind fun w => some (.inr (), w))
set_option maxHeartbeats 4000000 in
set_option maxRecDepth 100000 in
theorem m_M_init (l : Launch) (hst : l.stackTraces = false) (D : gD) (g0 : gG) (a0 : Nat) (p1 : Int64) (w : gW) (r : (String ⊕ Unit) × gW) (h : f_M_init g0 a0 p1 w = some r) : gMet l y_M_init (.code y_M_init b_M_init 3 none) rm_M_init D g0 [.ref a0, .long p1] w (goV r) := by
  refine gw_ofV (by decide +kernel) (Nat.le_of_ble_eq_true rfl) ?_
  intro p e s m below meth c ls args A Q hx hb hml hown hlocks hin hnt hT hK hZ hA hret hexc hthr hI hl
  obtain ⟨H, hH⟩ : ∃ H, H = s.heap := ⟨_, rfl⟩
  rw [← hH] at hI ⊢
  obtain ⟨locs, hlocs⟩ : ∃ z : List Loc, z = [] := ⟨_, rfl⟩
  rw [← hlocs] at hI ⊢
  have hl : lv_has ls 3 [(0, .ref a0), (1, .long p1)] := hl
  unfold f_M_init at h
  refine lv_aload_n hx hb d_M_init_0 rfl (lv_at hl 0 rfl) ?_
  refine W.objInit hx hb hown (hT _ wd_784 args) (hT _ wd_78 args) (hT _ wd_79 args) rfl (by rw [hml]; exact hl.1) rfl d_M_init_1 (Nat.le_of_ble_eq_true rfl) (Nat.le_of_ble_eq_true rfl) ?_
  refine W.eq (g2 := F0 m 4 ls []) rfl ?_
  refine lv_aload_n hx hb d_M_init_4 rfl (lv_at hl 0 rfl) ?_
  refine lv_bipush (v := 30) hx hb d_M_init_5 (by decide) ?_
  obtain ⟨o1, w, e2, h⟩ := gb2 h
  refine gw_newa (atype := .int) (ty := .int) (M := 30) hx hb hK hI hA (hT _ wd_179 args) rfl (k := 0) rfl (fun h9 => h9) e2 (show 0 + 1 ≤ 21 by omega) (show 0 + 30 ≤ 8938 by omega) (show 30 * 4 ≤ 536870912 by omega) d_M_init_7 (fun H hI => ?_)
  refine W.widen (k := 1) (n := 30) (show 0 + 1 ≤ 1 by omega) (show 0 + 30 ≤ 30 by omega) ?_
  obtain ⟨w, e3, h⟩ := gb h
  refine gw_putF hx hb hT hown hK hI (ci := 7) rfl i_7 t_7 t_7_ok n_7 3 (by decide) wd_789 (fun _ h9 => h9) rfl hin rfl (ty := .array .int) (by decide +kernel) rfl rfl e3 d_M_init_9 (fun H locs hI => ?_)
  refine lv_aload_n hx hb d_M_init_12 rfl (lv_at hl 0 rfl) ?_
  refine lv_sipush (v := 360) hx hb d_M_init_13 (by decide) ?_
  obtain ⟨o4, w, e5, h⟩ := gb2 h
  refine gw_newa (atype := .int) (ty := .int) (M := 360) hx hb hK hI hA (hT _ wd_179 args) rfl (k := 0) rfl (fun h9 => h9) e5 (show 1 + 1 ≤ 21 by omega) (show 30 + 360 ≤ 8938 by omega) (show 360 * 4 ≤ 536870912 by omega) d_M_init_16 (fun H hI => ?_)
  refine W.widen (k := 2) (n := 390) (show 1 + 1 ≤ 2 by omega) (show 30 + 360 ≤ 390 by omega) ?_
  obtain ⟨w, e6, h⟩ := gb h
  refine gw_putF hx hb hT hown hK hI (ci := 7) rfl i_7 t_7 t_7_ok n_7 4 (by decide) wd_790 (fun _ h9 => h9) rfl hin rfl (ty := .array .int) (by decide +kernel) rfl rfl e6 d_M_init_18 (fun H locs hI => ?_)
  refine lv_aload_n hx hb d_M_init_21 rfl (lv_at hl 0 rfl) ?_
  refine lv_sipush (v := 2160) hx hb d_M_init_22 (by decide) ?_
  obtain ⟨o7, w, e8, h⟩ := gb2 h
  refine gw_newa (atype := .long) (ty := .long) (M := 2160) hx hb hK hI hA (hT _ wd_178 args) rfl (k := 1) rfl (fun h9 => h9) e8 (show 2 + 1 ≤ 21 by omega) (show 390 + 2160 ≤ 8938 by omega) (show 2160 * 8 ≤ 536870912 by omega) d_M_init_25 (fun H hI => ?_)
  refine W.widen (k := 3) (n := 2550) (show 2 + 1 ≤ 3 by omega) (show 390 + 2160 ≤ 2550 by omega) ?_
  obtain ⟨w, e9, h⟩ := gb h
  refine gw_putF hx hb hT hown hK hI (ci := 7) rfl i_7 t_7 t_7_ok n_7 5 (by decide) wd_791 (fun _ h9 => h9) rfl hin rfl (ty := .array .long) (by decide +kernel) rfl rfl e9 d_M_init_27 (fun H locs hI => ?_)
  refine lv_aload_n hx hb d_M_init_30 rfl (lv_at hl 0 rfl) ?_
  refine lv_sipush (v := 360) hx hb d_M_init_31 (by decide) ?_
  obtain ⟨o10, w, e11, h⟩ := gb2 h
  refine gw_newa (atype := .int) (ty := .int) (M := 360) hx hb hK hI hA (hT _ wd_179 args) rfl (k := 0) rfl (fun h9 => h9) e11 (show 3 + 1 ≤ 21 by omega) (show 2550 + 360 ≤ 8938 by omega) (show 360 * 4 ≤ 536870912 by omega) d_M_init_34 (fun H hI => ?_)
  refine W.widen (k := 4) (n := 2910) (show 3 + 1 ≤ 4 by omega) (show 2550 + 360 ≤ 2910 by omega) ?_
  obtain ⟨w, e12, h⟩ := gb h
  refine gw_putF hx hb hT hown hK hI (ci := 7) rfl i_7 t_7 t_7_ok n_7 6 (by decide) wd_792 (fun _ h9 => h9) rfl hin rfl (ty := .array .int) (by decide +kernel) rfl rfl e12 d_M_init_36 (fun H locs hI => ?_)
  refine lv_aload_n hx hb d_M_init_39 rfl (lv_at hl 0 rfl) ?_
  refine lv_sipush (v := 2880) hx hb d_M_init_40 (by decide) ?_
  obtain ⟨o13, w, e14, h⟩ := gb2 h
  refine gw_newa (atype := .long) (ty := .long) (M := 2880) hx hb hK hI hA (hT _ wd_178 args) rfl (k := 1) rfl (fun h9 => h9) e14 (show 4 + 1 ≤ 21 by omega) (show 2910 + 2880 ≤ 8938 by omega) (show 2880 * 8 ≤ 536870912 by omega) d_M_init_43 (fun H hI => ?_)
  refine W.widen (k := 5) (n := 5790) (show 4 + 1 ≤ 5 by omega) (show 2910 + 2880 ≤ 5790 by omega) ?_
  obtain ⟨w, e15, h⟩ := gb h
  refine gw_putF hx hb hT hown hK hI (ci := 7) rfl i_7 t_7 t_7_ok n_7 7 (by decide) wd_793 (fun _ h9 => h9) rfl hin rfl (ty := .array .long) (by decide +kernel) rfl rfl e15 d_M_init_45 (fun H locs hI => ?_)
  refine lv_aload_n hx hb d_M_init_48 rfl (lv_at hl 0 rfl) ?_
  refine lv_sipush (v := 2880) hx hb d_M_init_49 (by decide) ?_
  obtain ⟨o16, w, e17, h⟩ := gb2 h
  refine gw_newa (atype := .long) (ty := .long) (M := 2880) hx hb hK hI hA (hT _ wd_178 args) rfl (k := 1) rfl (fun h9 => h9) e17 (show 5 + 1 ≤ 21 by omega) (show 5790 + 2880 ≤ 8938 by omega) (show 2880 * 8 ≤ 536870912 by omega) d_M_init_52 (fun H hI => ?_)
  refine W.widen (k := 6) (n := 8670) (show 5 + 1 ≤ 6 by omega) (show 5790 + 2880 ≤ 8670 by omega) ?_
  obtain ⟨w, e18, h⟩ := gb h
  refine gw_putF hx hb hT hown hK hI (ci := 7) rfl i_7 t_7 t_7_ok n_7 8 (by decide) wd_794 (fun _ h9 => h9) rfl hin rfl (ty := .array .long) (by decide +kernel) rfl rfl e18 d_M_init_54 (fun H locs hI => ?_)
  refine lv_aload_n hx hb d_M_init_57 rfl (lv_at hl 0 rfl) ?_
  refine lv_bipush (v := 8) hx hb d_M_init_58 (by decide) ?_
  obtain ⟨o19, w, e20, h⟩ := gb2 h
  refine gw_newa (atype := .long) (ty := .long) (M := 8) hx hb hK hI hA (hT _ wd_178 args) rfl (k := 1) rfl (fun h9 => h9) e20 (show 6 + 1 ≤ 21 by omega) (show 8670 + 8 ≤ 8938 by omega) (show 8 * 8 ≤ 536870912 by omega) d_M_init_60 (fun H hI => ?_)
  refine W.widen (k := 7) (n := 8678) (show 6 + 1 ≤ 7 by omega) (show 8670 + 8 ≤ 8678 by omega) ?_
  obtain ⟨w, e21, h⟩ := gb h
  refine gw_putF hx hb hT hown hK hI (ci := 7) rfl i_7 t_7 t_7_ok n_7 10 (by decide) wd_796 (fun _ h9 => h9) rfl hin rfl (ty := .array .long) (by decide +kernel) rfl rfl e21 d_M_init_62 (fun H locs hI => ?_)
  refine lv_aload_n hx hb d_M_init_65 rfl (lv_at hl 0 rfl) ?_
  refine lv_bipush (v := 8) hx hb d_M_init_66 (by decide) ?_
  obtain ⟨o22, w, e23, h⟩ := gb2 h
  refine gw_newa (atype := .long) (ty := .long) (M := 8) hx hb hK hI hA (hT _ wd_178 args) rfl (k := 1) rfl (fun h9 => h9) e23 (show 7 + 1 ≤ 21 by omega) (show 8678 + 8 ≤ 8938 by omega) (show 8 * 8 ≤ 536870912 by omega) d_M_init_68 (fun H hI => ?_)
  refine W.widen (k := 8) (n := 8686) (show 7 + 1 ≤ 8 by omega) (show 8678 + 8 ≤ 8686 by omega) ?_
  obtain ⟨w, e24, h⟩ := gb h
  refine gw_putF hx hb hT hown hK hI (ci := 7) rfl i_7 t_7 t_7_ok n_7 11 (by decide) wd_797 (fun _ h9 => h9) rfl hin rfl (ty := .array .long) (by decide +kernel) rfl rfl e24 d_M_init_70 (fun H locs hI => ?_)
  refine lv_aload_n hx hb d_M_init_73 rfl (lv_at hl 0 rfl) ?_
  refine lv_bipush (v := 30) hx hb d_M_init_74 (by decide) ?_
  obtain ⟨o25, w, e26, h⟩ := gb2 h
  refine gw_newa (atype := .int) (ty := .int) (M := 30) hx hb hK hI hA (hT _ wd_179 args) rfl (k := 0) rfl (fun h9 => h9) e26 (show 8 + 1 ≤ 21 by omega) (show 8686 + 30 ≤ 8938 by omega) (show 30 * 4 ≤ 536870912 by omega) d_M_init_76 (fun H hI => ?_)
  refine W.widen (k := 9) (n := 8716) (show 8 + 1 ≤ 9 by omega) (show 8686 + 30 ≤ 8716 by omega) ?_
  obtain ⟨w, e27, h⟩ := gb h
  refine gw_putF hx hb hT hown hK hI (ci := 7) rfl i_7 t_7 t_7_ok n_7 13 (by decide) wd_799 (fun _ h9 => h9) rfl hin rfl (ty := .array .int) (by decide +kernel) rfl rfl e27 d_M_init_78 (fun H locs hI => ?_)
  refine lv_aload_n hx hb d_M_init_81 rfl (lv_at hl 0 rfl) ?_
  refine lv_bipush (v := 30) hx hb d_M_init_82 (by decide) ?_
  obtain ⟨o28, w, e29, h⟩ := gb2 h
  refine gw_newa (atype := .long) (ty := .long) (M := 30) hx hb hK hI hA (hT _ wd_178 args) rfl (k := 1) rfl (fun h9 => h9) e29 (show 9 + 1 ≤ 21 by omega) (show 8716 + 30 ≤ 8938 by omega) (show 30 * 8 ≤ 536870912 by omega) d_M_init_84 (fun H hI => ?_)
  refine W.widen (k := 10) (n := 8746) (show 9 + 1 ≤ 10 by omega) (show 8716 + 30 ≤ 8746 by omega) ?_
  obtain ⟨w, e30, h⟩ := gb h
  refine gw_putF hx hb hT hown hK hI (ci := 7) rfl i_7 t_7 t_7_ok n_7 14 (by decide) wd_800 (fun _ h9 => h9) rfl hin rfl (ty := .array .long) (by decide +kernel) rfl rfl e30 d_M_init_86 (fun H locs hI => ?_)
  refine lv_aload_n hx hb d_M_init_89 rfl (lv_at hl 0 rfl) ?_
  refine lv_bipush (v := 30) hx hb d_M_init_90 (by decide) ?_
  obtain ⟨o31, w, e32, h⟩ := gb2 h
  refine gw_newa (atype := .long) (ty := .long) (M := 30) hx hb hK hI hA (hT _ wd_178 args) rfl (k := 1) rfl (fun h9 => h9) e32 (show 10 + 1 ≤ 21 by omega) (show 8746 + 30 ≤ 8938 by omega) (show 30 * 8 ≤ 536870912 by omega) d_M_init_92 (fun H hI => ?_)
  refine W.widen (k := 11) (n := 8776) (show 10 + 1 ≤ 11 by omega) (show 8746 + 30 ≤ 8776 by omega) ?_
  obtain ⟨w, e33, h⟩ := gb h
  refine gw_putF hx hb hT hown hK hI (ci := 7) rfl i_7 t_7 t_7_ok n_7 15 (by decide) wd_801 (fun _ h9 => h9) rfl hin rfl (ty := .array .long) (by decide +kernel) rfl rfl e33 d_M_init_94 (fun H locs hI => ?_)
  refine lv_aload_n hx hb d_M_init_97 rfl (lv_at hl 0 rfl) ?_
  refine lv_bipush (v := 30) hx hb d_M_init_98 (by decide) ?_
  obtain ⟨o34, w, e35, h⟩ := gb2 h
  refine gw_newa (atype := .int) (ty := .int) (M := 30) hx hb hK hI hA (hT _ wd_179 args) rfl (k := 0) rfl (fun h9 => h9) e35 (show 11 + 1 ≤ 21 by omega) (show 8776 + 30 ≤ 8938 by omega) (show 30 * 4 ≤ 536870912 by omega) d_M_init_100 (fun H hI => ?_)
  refine W.widen (k := 12) (n := 8806) (show 11 + 1 ≤ 12 by omega) (show 8776 + 30 ≤ 8806 by omega) ?_
  obtain ⟨w, e36, h⟩ := gb h
  refine gw_putF hx hb hT hown hK hI (ci := 7) rfl i_7 t_7 t_7_ok n_7 16 (by decide) wd_802 (fun _ h9 => h9) rfl hin rfl (ty := .array .int) (by decide +kernel) rfl rfl e36 d_M_init_102 (fun H locs hI => ?_)
  refine lv_aload_n hx hb d_M_init_105 rfl (lv_at hl 0 rfl) ?_
  refine lv_bipush (v := 30) hx hb d_M_init_106 (by decide) ?_
  obtain ⟨o37, w, e38, h⟩ := gb2 h
  refine gw_newa (atype := .int) (ty := .int) (M := 30) hx hb hK hI hA (hT _ wd_179 args) rfl (k := 0) rfl (fun h9 => h9) e38 (show 12 + 1 ≤ 21 by omega) (show 8806 + 30 ≤ 8938 by omega) (show 30 * 4 ≤ 536870912 by omega) d_M_init_108 (fun H hI => ?_)
  refine W.widen (k := 13) (n := 8836) (show 12 + 1 ≤ 13 by omega) (show 8806 + 30 ≤ 8836 by omega) ?_
  obtain ⟨w, e39, h⟩ := gb h
  refine gw_putF hx hb hT hown hK hI (ci := 7) rfl i_7 t_7 t_7_ok n_7 17 (by decide) wd_803 (fun _ h9 => h9) rfl hin rfl (ty := .array .int) (by decide +kernel) rfl rfl e39 d_M_init_110 (fun H locs hI => ?_)
  refine lv_aload_n hx hb d_M_init_113 rfl (lv_at hl 0 rfl) ?_
  refine lv_bipush (v := 60) hx hb d_M_init_114 (by decide) ?_
  obtain ⟨o40, w, e41, h⟩ := gb2 h
  refine gw_newa (atype := .long) (ty := .long) (M := 60) hx hb hK hI hA (hT _ wd_178 args) rfl (k := 1) rfl (fun h9 => h9) e41 (show 13 + 1 ≤ 21 by omega) (show 8836 + 60 ≤ 8938 by omega) (show 60 * 8 ≤ 536870912 by omega) d_M_init_116 (fun H hI => ?_)
  refine W.widen (k := 14) (n := 8896) (show 13 + 1 ≤ 14 by omega) (show 8836 + 60 ≤ 8896 by omega) ?_
  obtain ⟨w, e42, h⟩ := gb h
  refine gw_putF hx hb hT hown hK hI (ci := 7) rfl i_7 t_7 t_7_ok n_7 19 (by decide) wd_805 (fun _ h9 => h9) rfl hin rfl (ty := .array .long) (by decide +kernel) rfl rfl e42 d_M_init_118 (fun H locs hI => ?_)
  refine lv_aload_n hx hb d_M_init_121 rfl (lv_at hl 0 rfl) ?_
  refine lv_iconst (v := 2) hx hb d_M_init_122 (by decide) ?_
  obtain ⟨o43, w, e44, h⟩ := gb2 h
  refine gw_newa (atype := .int) (ty := .int) (M := 2) hx hb hK hI hA (hT _ wd_179 args) rfl (k := 0) rfl (fun h9 => h9) e44 (show 14 + 1 ≤ 21 by omega) (show 8896 + 2 ≤ 8938 by omega) (show 2 * 4 ≤ 536870912 by omega) d_M_init_123 (fun H hI => ?_)
  refine W.widen (k := 15) (n := 8898) (show 14 + 1 ≤ 15 by omega) (show 8896 + 2 ≤ 8898 by omega) ?_
  obtain ⟨w, e45, h⟩ := gb h
  refine gw_putF hx hb hT hown hK hI (ci := 7) rfl i_7 t_7 t_7_ok n_7 20 (by decide) wd_806 (fun _ h9 => h9) rfl hin rfl (ty := .array .int) (by decide +kernel) rfl rfl e45 d_M_init_125 (fun H locs hI => ?_)
  refine lv_aload_n hx hb d_M_init_128 rfl (lv_at hl 0 rfl) ?_
  refine lv_iconst (v := 2) hx hb d_M_init_129 (by decide) ?_
  obtain ⟨o46, w, e47, h⟩ := gb2 h
  refine gw_newa (atype := .int) (ty := .int) (M := 2) hx hb hK hI hA (hT _ wd_179 args) rfl (k := 0) rfl (fun h9 => h9) e47 (show 15 + 1 ≤ 21 by omega) (show 8898 + 2 ≤ 8938 by omega) (show 2 * 4 ≤ 536870912 by omega) d_M_init_130 (fun H hI => ?_)
  refine W.widen (k := 16) (n := 8900) (show 15 + 1 ≤ 16 by omega) (show 8898 + 2 ≤ 8900 by omega) ?_
  obtain ⟨w, e48, h⟩ := gb h
  refine gw_putF hx hb hT hown hK hI (ci := 7) rfl i_7 t_7 t_7_ok n_7 21 (by decide) wd_807 (fun _ h9 => h9) rfl hin rfl (ty := .array .int) (by decide +kernel) rfl rfl e48 d_M_init_132 (fun H locs hI => ?_)
  refine lv_aload_n hx hb d_M_init_135 rfl (lv_at hl 0 rfl) ?_
  refine lv_bipush (v := 16) hx hb d_M_init_136 (by decide) ?_
  obtain ⟨o49, w, e50, h⟩ := gb2 h
  refine gw_newa (atype := .long) (ty := .long) (M := 16) hx hb hK hI hA (hT _ wd_178 args) rfl (k := 1) rfl (fun h9 => h9) e50 (show 16 + 1 ≤ 21 by omega) (show 8900 + 16 ≤ 8938 by omega) (show 16 * 8 ≤ 536870912 by omega) d_M_init_138 (fun H hI => ?_)
  refine W.widen (k := 17) (n := 8916) (show 16 + 1 ≤ 17 by omega) (show 8900 + 16 ≤ 8916 by omega) ?_
  obtain ⟨w, e51, h⟩ := gb h
  refine gw_putF hx hb hT hown hK hI (ci := 7) rfl i_7 t_7 t_7_ok n_7 22 (by decide) wd_808 (fun _ h9 => h9) rfl hin rfl (ty := .array .long) (by decide +kernel) rfl rfl e51 d_M_init_140 (fun H locs hI => ?_)
  refine lv_aload_n hx hb d_M_init_143 rfl (lv_at hl 0 rfl) ?_
  refine lv_bipush (v := 16) hx hb d_M_init_144 (by decide) ?_
  obtain ⟨o52, w, e53, h⟩ := gb2 h
  refine gw_newa (atype := .long) (ty := .long) (M := 16) hx hb hK hI hA (hT _ wd_178 args) rfl (k := 1) rfl (fun h9 => h9) e53 (show 17 + 1 ≤ 21 by omega) (show 8916 + 16 ≤ 8938 by omega) (show 16 * 8 ≤ 536870912 by omega) d_M_init_146 (fun H hI => ?_)
  refine W.widen (k := 18) (n := 8932) (show 17 + 1 ≤ 18 by omega) (show 8916 + 16 ≤ 8932 by omega) ?_
  obtain ⟨w, e54, h⟩ := gb h
  refine gw_putF hx hb hT hown hK hI (ci := 7) rfl i_7 t_7 t_7_ok n_7 23 (by decide) wd_809 (fun _ h9 => h9) rfl hin rfl (ty := .array .long) (by decide +kernel) rfl rfl e54 d_M_init_148 (fun H locs hI => ?_)
  refine lv_aload_n hx hb d_M_init_151 rfl (lv_at hl 0 rfl) ?_
  refine lv_iconst (v := 2) hx hb d_M_init_152 (by decide) ?_
  obtain ⟨o55, w, e56, h⟩ := gb2 h
  refine gw_newa (atype := .long) (ty := .long) (M := 2) hx hb hK hI hA (hT _ wd_178 args) rfl (k := 1) rfl (fun h9 => h9) e56 (show 18 + 1 ≤ 21 by omega) (show 8932 + 2 ≤ 8938 by omega) (show 2 * 8 ≤ 536870912 by omega) d_M_init_153 (fun H hI => ?_)
  refine W.widen (k := 19) (n := 8934) (show 18 + 1 ≤ 19 by omega) (show 8932 + 2 ≤ 8934 by omega) ?_
  obtain ⟨w, e57, h⟩ := gb h
  refine gw_putF hx hb hT hown hK hI (ci := 7) rfl i_7 t_7 t_7_ok n_7 24 (by decide) wd_810 (fun _ h9 => h9) rfl hin rfl (ty := .array .long) (by decide +kernel) rfl rfl e57 d_M_init_155 (fun H locs hI => ?_)
  refine lv_aload_n hx hb d_M_init_158 rfl (lv_at hl 0 rfl) ?_
  refine lv_iconst (v := 2) hx hb d_M_init_159 (by decide) ?_
  obtain ⟨o58, w, e59, h⟩ := gb2 h
  refine gw_newa (atype := .long) (ty := .long) (M := 2) hx hb hK hI hA (hT _ wd_178 args) rfl (k := 1) rfl (fun h9 => h9) e59 (show 19 + 1 ≤ 21 by omega) (show 8934 + 2 ≤ 8938 by omega) (show 2 * 8 ≤ 536870912 by omega) d_M_init_160 (fun H hI => ?_)
  refine W.widen (k := 20) (n := 8936) (show 19 + 1 ≤ 20 by omega) (show 8934 + 2 ≤ 8936 by omega) ?_
  obtain ⟨w, e60, h⟩ := gb h
  refine gw_putF hx hb hT hown hK hI (ci := 7) rfl i_7 t_7 t_7_ok n_7 25 (by decide) wd_811 (fun _ h9 => h9) rfl hin rfl (ty := .array .long) (by decide +kernel) rfl rfl e60 d_M_init_162 (fun H locs hI => ?_)
  refine lv_aload_n hx hb d_M_init_165 rfl (lv_at hl 0 rfl) ?_
  refine lv_iconst (v := 2) hx hb d_M_init_166 (by decide) ?_
  obtain ⟨o61, w, e62, h⟩ := gb2 h
  refine gw_newa (atype := .long) (ty := .long) (M := 2) hx hb hK hI hA (hT _ wd_178 args) rfl (k := 1) rfl (fun h9 => h9) e62 (show 20 + 1 ≤ 21 by omega) (show 8936 + 2 ≤ 8938 by omega) (show 2 * 8 ≤ 536870912 by omega) d_M_init_167 (fun H hI => ?_)
  refine W.widen (k := 21) (n := 8938) (show 20 + 1 ≤ 21 by omega) (show 8936 + 2 ≤ 8938 by omega) ?_
  obtain ⟨w, e63, h⟩ := gb h
  refine gw_putF hx hb hT hown hK hI (ci := 7) rfl i_7 t_7 t_7_ok n_7 26 (by decide) wd_812 (fun _ h9 => h9) rfl hin rfl (ty := .array .long) (by decide +kernel) rfl rfl e63 d_M_init_169 (fun H locs hI => ?_)
  refine lv_aload_n hx hb d_M_init_172 rfl (lv_at hl 0 rfl) ?_
  refine lv_lload_n hx hb d_M_init_173 rfl (lv_at hl 1 rfl) ?_
  refine lv_lconst (v := 0) hx hb d_M_init_174 (by decide) ?_
  refine W.lcmp hx hb d_M_init_175 ?_
  obtain ⟨K198, eK198, h⟩ := gj h
  have hK198 : ∀ (y64 : Int64) (w : gW) (H : Heap) (locs : List Loc) (ls : Array Slot), K198 y64 w = some r → gI D s A w H locs → lv_has ls 3 [] → W p l e rm_M_init s m args below meth c H locs 21 8938 Q (F0 m 198 ls [.long y64, .ref a0]) := by
    intro y64 w H locs ls h hI hl
    have h := gk2 eK198 h
    obtain ⟨w, e65, h⟩ := gb h
    refine gw_putF hx hb hT hown hK hI (ci := 7) rfl i_7 t_7 t_7_ok n_7 1 (by decide) wd_787 (fun _ h9 => h9) rfl hin rfl (ty := .long) (by decide +kernel) rfl rfl e65 d_M_init_198 (fun H locs hI => ?_)
    exact W.widen (show 21 ≤ 21 by omega) (show 8938 ≤ 8938 by omega) (hret _ _ (Option.some.inj h).symm _ _ _ _ d_M_init_201 hI)
  refine lv_if_ge (tgt := 183) hx hb d_M_init_176 (by decide) (fun c66 => ?_) (fun c66 => ?_)
  · have c66 := (lg_cmp_ge _ _).mp c66
    have h := git c66 h
    refine lv_lload_n hx hb d_M_init_183 rfl (lv_at hl 1 rfl) ?_
    refine lv_ldc2 (v := 1000) hx hb hown (hT _ wd_785 args) d_M_init_184 ?_
    refine W.lcmp hx hb d_M_init_187 ?_
    refine lv_if_le (tgt := 197) hx hb d_M_init_188 (by decide) (fun c67 => ?_) (fun c67 => ?_)
    · have c67 := (lg_cmp_le _ _).mp c67
      have h := git c67 h
      refine lv_lload_n hx hb d_M_init_197 rfl (lv_at hl 1 rfl) ?_
      exact hK198 _ w H locs ls h hI (lv_sub hl [] rfl)
    · have c67 := mt (lg_cmp_le _ _).mpr c67
      have h := gie c67 h
      refine lv_ldc2 (v := 1000) hx hb hown (hT _ wd_785 args) d_M_init_191 ?_
      refine lv_goto (tgt := 198) hx hb d_M_init_194 (by decide) ?_
      exact hK198 _ w H locs ls h hI (lv_sub hl [] rfl)
  · have c66 := mt (lg_cmp_ge _ _).mpr c66
    have h := gie c66 h
    refine lv_lconst (v := 0) hx hb d_M_init_179 (by decide) ?_
    refine lv_goto (tgt := 198) hx hb d_M_init_180 (by decide) ?_
    exact hK198 _ w H locs ls h hI (lv_sub hl [] rfl)

abbrev b_AL_size : ByteArray := prog_24_method_8_code
def y_AL_size : MethodName := ⟨"java/util/ArrayList", "size", "()I"⟩
theorem d_AL_size_0 : decode b_AL_size 0 = .ok (.aload_n 0, 1) := by decide +kernel
theorem d_AL_size_1 : decode b_AL_size 1 = .ok (.getfield 48, 3) := by decide +kernel
theorem d_AL_size_4 : decode b_AL_size 4 = .ok (.ireturn, 1) := by decide +kernel
abbrev rm_AL_size : Room := { frames := 0, cells := 0, slots := 0, locals := 0 }
theorem ce_AL_size : gCe y_AL_size (.code y_AL_size b_AL_size 1 (some .int)) 1 0 false := gCe.code wd_227 wd_53 wd_225 (by decide) (by decide +kernel)
def f_AL_size (g0 : gG) (a0 : Nat) (w : gW) : gX Int32 := (gfI w a0 1 1).bind fun v1 => some (.inr v1, w)
set_option maxHeartbeats 4000000 in
set_option maxRecDepth 100000 in
theorem m_AL_size (l : Launch) (hst : l.stackTraces = false) (D : gD) (g0 : gG) (a0 : Nat) (w : gW) (r : (String ⊕ Int32) × gW) (h : f_AL_size g0 a0 w = some r) : gMet l y_AL_size (.code y_AL_size b_AL_size 1 (some .int)) rm_AL_size D g0 [.ref a0] w (goI r) := by
  refine gw_ofI (by decide +kernel) (Nat.le_of_ble_eq_true rfl) ?_
  intro p e s m below meth c ls args A Q hx hb hml hown hlocks hin hnt hT hK hZ hA hret hexc hthr hI hl
  obtain ⟨H, hH⟩ : ∃ H, H = s.heap := ⟨_, rfl⟩
  rw [← hH] at hI ⊢
  obtain ⟨locs, hlocs⟩ : ∃ z : List Loc, z = [] := ⟨_, rfl⟩
  rw [← hlocs] at hI ⊢
  have hl : lv_has ls 1 [(0, .ref a0)] := hl
  unfold f_AL_size at h
  refine lv_aload_n hx hb d_AL_size_0 rfl (lv_at hl 0 rfl) ?_
  obtain ⟨v1, e2, h⟩ := gb h
  refine gw_getI hx hb hT hown hK hI (ci := 1) rfl i_1 1 (by decide) wd_102 (fun _ h9 => h9) e2 d_AL_size_1 ?_
  exact W.widen (show 0 ≤ 0 by omega) (show 0 ≤ 0 by omega) (hret _ _ (Option.some.inj h).symm _ _ _ _ d_AL_size_4 hI)

abbrev b_By_init : ByteArray := prog_2_method_1_code
def y_By_init : MethodName := ⟨"BodySolids$Body", "<init>", "()V"⟩
theorem d_By_init_0 : decode b_By_init 0 = .ok (.aload_n 0, 1) := by decide +kernel
theorem d_By_init_1 : decode b_By_init 1 = .ok (.invokespecial 3, 3) := by decide +kernel
theorem d_By_init_4 : decode b_By_init 4 = .ok (.aload_n 0, 1) := by decide +kernel
theorem d_By_init_5 : decode b_By_init 5 = .ok (.new 9, 3) := by decide +kernel
theorem d_By_init_8 : decode b_By_init 8 = .ok (.dup, 1) := by decide +kernel
theorem d_By_init_9 : decode b_By_init 9 = .ok (.invokespecial 11, 3) := by decide +kernel
theorem d_By_init_12 : decode b_By_init 12 = .ok (.putfield 12, 3) := by decide +kernel
theorem d_By_init_15 : decode b_By_init 15 = .ok (.aload_n 0, 1) := by decide +kernel
theorem d_By_init_16 : decode b_By_init 16 = .ok (.lconst 0, 1) := by decide +kernel
theorem d_By_init_17 : decode b_By_init 17 = .ok (.putfield 18, 3) := by decide +kernel
theorem d_By_init_20 : decode b_By_init 20 = .ok (.return_, 1) := by decide +kernel
abbrev rm_By_init : Room := { frames := 4, cells := 1, slots := 3, locals := 82 }
theorem ce_By_init : gCe y_By_init (.code y_By_init b_By_init 1 none) 1 0 false := gCe.code wd_232 wd_58 wd_231 (by decide) (by decide +kernel)
def f_By_init (g0 : gG) (a0 : Nat) (w : gW) : gX Unit := gb2f (gnw w 1 [.null, .int 0, .int 0]) fun o1 w => gbind (f_AL_init g0 o1 w) fun v5 w => (gp w a0 4 0 (.ref o1)).bind fun w => (gp w a0 4 1 (.long 0)).bind fun w => some (.inr (), w)
set_option maxHeartbeats 4000000 in
set_option maxRecDepth 100000 in
theorem m_By_init (l : Launch) (hst : l.stackTraces = false) (D : gD) (g0 : gG) (a0 : Nat) (w : gW) (r : (String ⊕ Unit) × gW) (h : f_By_init g0 a0 w = some r) : gMet l y_By_init (.code y_By_init b_By_init 1 none) rm_By_init D g0 [.ref a0] w (goV r) := by
  refine gw_ofV (by decide +kernel) (Nat.le_of_ble_eq_true rfl) ?_
  intro p e s m below meth c ls args A Q hx hb hml hown hlocks hin hnt hT hK hZ hA hret hexc hthr hI hl
  obtain ⟨H, hH⟩ : ∃ H, H = s.heap := ⟨_, rfl⟩
  rw [← hH] at hI ⊢
  obtain ⟨locs, hlocs⟩ : ∃ z : List Loc, z = [] := ⟨_, rfl⟩
  rw [← hlocs] at hI ⊢
  have hl : lv_has ls 1 [(0, .ref a0)] := hl
  unfold f_By_init at h
  refine lv_aload_n hx hb d_By_init_0 rfl (lv_at hl 0 rfl) ?_
  refine W.objInit hx hb hown (hT _ wd_233 args) (hT _ wd_78 args) (hT _ wd_79 args) rfl (by rw [hml]; exact hl.1) rfl d_By_init_1 (Nat.le_of_ble_eq_true rfl) (Nat.le_of_ble_eq_true rfl) ?_
  refine W.eq (g2 := F0 m 4 ls []) rfl ?_
  refine lv_aload_n hx hb d_By_init_4 rfl (lv_at hl 0 rfl) ?_
  obtain ⟨o1, w, e2, h⟩ := gb2 h
  refine gw_new hx hb hT hown hK hI hA (ci := 1) rfl i_1 t_1 t_1_ok wd_234 wd_88 wd_53 (fs := [.null, .int 0, .int 0]) df_1 e2 (show 0 + 1 ≤ 1 by omega) (show 0 + 3 ≤ 3 by omega) d_By_init_5 (fun H hI => ?_)
  refine W.widen (k := 1) (n := 3) (show 0 + 1 ≤ 1 by omega) (show 0 + 3 ≤ 3 by omega) ?_
  refine lv_dup hx hb d_By_init_8 rfl ?_
  obtain ⟨u3, e4⟩ := gsome h
  refine gw_callV e4 h (gw_runI (As := []) (rest := [.ref o1, .ref a0]) hx hb hml hown hT hK hZ hA hI (m_AL_init l hst D g0 o1 w u3 e4) ce_AL_init wd_235 rfl ⟨by decide, by decide⟩ rfl rfl hl.1 rfl (lv_room (Nat.le_of_ble_eq_true rfl)) d_By_init_9 ⟨(show 1 + 0 ≤ 1 by omega), (show 3 + 0 ≤ 3 by omega)⟩) hI hA hexc (show 1 + 0 ≤ 1 by omega) (show 3 + 0 ≤ 3 by omega) (fun v5 w H locs h hI => ?_)
  obtain ⟨w, e6, h⟩ := gb h
  refine gw_putF hx hb hT hown hK hI (ci := 4) rfl i_4 t_4 t_4_ok n_4 0 (by decide) wd_236 (fun _ h9 => h9) rfl hin rfl (ty := .object "java/util/ArrayList") (by decide +kernel) rfl rfl e6 d_By_init_12 (fun H locs hI => ?_)
  refine lv_aload_n hx hb d_By_init_15 rfl (lv_at hl 0 rfl) ?_
  refine lv_lconst (v := 0) hx hb d_By_init_16 (by decide) ?_
  obtain ⟨w, e7, h⟩ := gb h
  refine gw_put hx hb hT hown hK hI (ci := 4) rfl i_4 t_4 t_4_ok n_4 1 (by decide) wd_239 (fun _ h9 => h9) rfl (ty := .long) (by decide +kernel) rfl rfl e7 d_By_init_17 (fun H locs hI => ?_)
  exact W.widen (show 1 ≤ 1 by omega) (show 3 ≤ 3 by omega) (hret _ _ (Option.some.inj h).symm _ _ _ _ d_By_init_20 hI)

abbrev b_Ma_max : ByteArray := prog_17_method_65_code
def y_Ma_max : MethodName := ⟨"java/lang/Math", "max", "(II)I"⟩
theorem d_Ma_max_0 : decode b_Ma_max 0 = .ok (.iload_n 0, 1) := by decide +kernel
theorem d_Ma_max_1 : decode b_Ma_max 1 = .ok (.iload_n 1, 1) := by decide +kernel
theorem d_Ma_max_2 : decode b_Ma_max 2 = .ok (.if_icmp .lt 7, 3) := by decide +kernel
theorem d_Ma_max_5 : decode b_Ma_max 5 = .ok (.iload_n 0, 1) := by decide +kernel
theorem d_Ma_max_6 : decode b_Ma_max 6 = .ok (.goto 4, 3) := by decide +kernel
theorem d_Ma_max_9 : decode b_Ma_max 9 = .ok (.iload_n 1, 1) := by decide +kernel
theorem d_Ma_max_10 : decode b_Ma_max 10 = .ok (.ireturn, 1) := by decide +kernel
abbrev rm_Ma_max : Room := { frames := 0, cells := 0, slots := 0, locals := 0 }
theorem ce_Ma_max : gCe y_Ma_max (.code y_Ma_max b_Ma_max 2 (some .int)) 2 2 true := gCe.code wd_271 wd_50 wd_270 (by decide) (by decide +kernel)
def f_Ma_max (g0 : gG) (p0 : Int32) (p1 : Int32) (w : gW) : gX Int32 := gjoin (fun K10 => if p0 < p1 then (K10 p1 w) else (K10 p0 w)) (fun (y1 : Int32) (w : gW) => some (.inr y1, w))
set_option maxHeartbeats 4000000 in
set_option maxRecDepth 100000 in
theorem m_Ma_max (l : Launch) (hst : l.stackTraces = false) (D : gD) (g0 : gG) (p0 : Int32) (p1 : Int32) (w : gW) (r : (String ⊕ Int32) × gW) (h : f_Ma_max g0 p0 p1 w = some r) : gMet l y_Ma_max (.code y_Ma_max b_Ma_max 2 (some .int)) rm_Ma_max D g0 [.int p0, .int p1] w (goI r) := by
  refine gw_ofI (by decide +kernel) (Nat.le_of_ble_eq_true rfl) ?_
  intro p e s m below meth c ls args A Q hx hb hml hown hlocks hin hnt hT hK hZ hA hret hexc hthr hI hl
  obtain ⟨H, hH⟩ : ∃ H, H = s.heap := ⟨_, rfl⟩
  rw [← hH] at hI ⊢
  obtain ⟨locs, hlocs⟩ : ∃ z : List Loc, z = [] := ⟨_, rfl⟩
  rw [← hlocs] at hI ⊢
  have hl : lv_has ls 2 [(0, .int p0), (1, .int p1)] := hl
  unfold f_Ma_max at h
  refine lv_iload_n hx hb d_Ma_max_0 rfl (lv_at hl 0 rfl) ?_
  refine lv_iload_n hx hb d_Ma_max_1 rfl (lv_at hl 1 rfl) ?_
  obtain ⟨K10, eK10, h⟩ := gj h
  have hK10 : ∀ (y1 : Int32) (w : gW) (H : Heap) (locs : List Loc) (ls : Array Slot), K10 y1 w = some r → gI D s A w H locs → lv_has ls 2 [] → W p l e rm_Ma_max s m args below meth c H locs 0 0 Q (F0 m 10 ls [.int y1]) := by
    intro y1 w H locs ls h hI hl
    have h := gk2 eK10 h
    exact W.widen (show 0 ≤ 0 by omega) (show 0 ≤ 0 by omega) (hret _ _ (Option.some.inj h).symm _ _ _ _ d_Ma_max_10 hI)
  refine lv_icmp_lt (tgt := 9) hx hb d_Ma_max_2 (by decide) (fun c2 => ?_) (fun c2 => ?_)
  · skip
    have h := git c2 h
    refine lv_iload_n hx hb d_Ma_max_9 rfl (lv_at hl 1 rfl) ?_
    exact hK10 _ w H locs ls h hI (lv_sub hl [] rfl)
  · skip
    have h := gie c2 h
    refine lv_iload_n hx hb d_Ma_max_5 rfl (lv_at hl 0 rfl) ?_
    refine lv_goto (tgt := 10) hx hb d_Ma_max_6 (by decide) ?_
    exact hK10 _ w H locs ls h hI (lv_sub hl [] rfl)

abbrev b_As_hugeLength : ByteArray := prog_31_method_28_code
def y_As_hugeLength : MethodName := ⟨"jdk/internal/util/ArraysSupport", "hugeLength", "(II)I"⟩
theorem d_As_hugeLength_0 : decode b_As_hugeLength 0 = .ok (.iload_n 0, 1) := by decide +kernel
theorem d_As_hugeLength_1 : decode b_As_hugeLength 1 = .ok (.iload_n 1, 1) := by decide +kernel
theorem d_As_hugeLength_2 : decode b_As_hugeLength 2 = .ok (.iadd, 1) := by decide +kernel
theorem d_As_hugeLength_3 : decode b_As_hugeLength 3 = .ok (.istore_n 2, 1) := by decide +kernel
theorem d_As_hugeLength_4 : decode b_As_hugeLength 4 = .ok (.iload_n 2, 1) := by decide +kernel
theorem d_As_hugeLength_5 : decode b_As_hugeLength 5 = .ok (.ifCond .ge 44, 3) := by decide +kernel
theorem d_As_hugeLength_8 : decode b_As_hugeLength 8 = .ok (.new 204, 3) := by decide +kernel
theorem d_As_hugeLength_49 : decode b_As_hugeLength 49 = .ok (.iload_n 2, 1) := by decide +kernel
theorem d_As_hugeLength_50 : decode b_As_hugeLength 50 = .ok (.ldc 200, 2) := by decide +kernel
theorem d_As_hugeLength_52 : decode b_As_hugeLength 52 = .ok (.if_icmp .gt 6, 3) := by decide +kernel
theorem d_As_hugeLength_55 : decode b_As_hugeLength 55 = .ok (.ldc 200, 2) := by decide +kernel
theorem d_As_hugeLength_57 : decode b_As_hugeLength 57 = .ok (.ireturn, 1) := by decide +kernel
theorem d_As_hugeLength_58 : decode b_As_hugeLength 58 = .ok (.iload_n 2, 1) := by decide +kernel
theorem d_As_hugeLength_59 : decode b_As_hugeLength 59 = .ok (.ireturn, 1) := by decide +kernel
abbrev rm_As_hugeLength : Room := { frames := 0, cells := 0, slots := 0, locals := 0 }
theorem ce_As_hugeLength : gCe y_As_hugeLength (.code y_As_hugeLength b_As_hugeLength 3 (some .int)) 3 2 true := gCe.code wd_275 wd_59 wd_274 (by decide) (by decide +kernel)
def f_As_hugeLength (g0 : gG) (p0 : Int32) (p1 : Int32) (w : gW) : gX Int32 := if 0 ≤ (p0 + p1) then (if 2147483639 < (p0 + p1) then (some (.inr (p0 + p1), w)) else (some (.inr 2147483639, w))) else (none)
set_option maxHeartbeats 4000000 in
set_option maxRecDepth 100000 in
theorem m_As_hugeLength (l : Launch) (hst : l.stackTraces = false) (D : gD) (g0 : gG) (p0 : Int32) (p1 : Int32) (w : gW) (r : (String ⊕ Int32) × gW) (h : f_As_hugeLength g0 p0 p1 w = some r) : gMet l y_As_hugeLength (.code y_As_hugeLength b_As_hugeLength 3 (some .int)) rm_As_hugeLength D g0 [.int p0, .int p1] w (goI r) := by
  refine gw_ofI (by decide +kernel) (Nat.le_of_ble_eq_true rfl) ?_
  intro p e s m below meth c ls args A Q hx hb hml hown hlocks hin hnt hT hK hZ hA hret hexc hthr hI hl
  obtain ⟨H, hH⟩ : ∃ H, H = s.heap := ⟨_, rfl⟩
  rw [← hH] at hI ⊢
  obtain ⟨locs, hlocs⟩ : ∃ z : List Loc, z = [] := ⟨_, rfl⟩
  rw [← hlocs] at hI ⊢
  have hl : lv_has ls 3 [(0, .int p0), (1, .int p1)] := hl
  unfold f_As_hugeLength at h
  refine lv_iload_n hx hb d_As_hugeLength_0 rfl (lv_at hl 0 rfl) ?_
  refine lv_iload_n hx hb d_As_hugeLength_1 rfl (lv_at hl 1 rfl) ?_
  refine lv_iadd hx hb d_As_hugeLength_2 ?_
  refine lv_istore_n (lv' := [(2, .int (p0 + p1)), (0, .int p0), (1, .int p1)]) hx hb d_As_hugeLength_3 rfl hl (by decide) rfl (fun ls hl => ?_)
  refine lv_iload_n hx hb d_As_hugeLength_4 rfl (lv_at hl 0 rfl) ?_
  refine lv_if_ge (tgt := 49) hx hb d_As_hugeLength_5 (by decide) (fun c1 => ?_) (fun c1 => ?_)
  · skip
    have h := git c1 h
    refine lv_iload_n hx hb d_As_hugeLength_49 rfl (lv_at hl 0 rfl) ?_
    refine lv_ldc (v := 2147483639) hx hb hown (hT _ wd_272 args) d_As_hugeLength_50 ?_
    refine lv_icmp_gt (tgt := 58) hx hb d_As_hugeLength_52 (by decide) (fun c2 => ?_) (fun c2 => ?_)
    · skip
      have h := git c2 h
      refine lv_iload_n hx hb d_As_hugeLength_58 rfl (lv_at hl 0 rfl) ?_
      exact W.widen (show 0 ≤ 0 by omega) (show 0 ≤ 0 by omega) (hret _ _ (Option.some.inj h).symm _ _ _ _ d_As_hugeLength_59 hI)
    · skip
      have h := gie c2 h
      refine lv_ldc (v := 2147483639) hx hb hown (hT _ wd_272 args) d_As_hugeLength_55 ?_
      exact W.widen (show 0 ≤ 0 by omega) (show 0 ≤ 0 by omega) (hret _ _ (Option.some.inj h).symm _ _ _ _ d_As_hugeLength_57 hI)
  · skip
    have h := gie c1 h
    exact absurd h (by simp)

abbrev b_As_newLength : ByteArray := prog_31_method_27_code
def y_As_newLength : MethodName := ⟨"jdk/internal/util/ArraysSupport", "newLength", "(III)I"⟩
theorem d_As_newLength_0 : decode b_As_newLength 0 = .ok (.iload_n 0, 1) := by decide +kernel
theorem d_As_newLength_1 : decode b_As_newLength 1 = .ok (.iload_n 1, 1) := by decide +kernel
theorem d_As_newLength_2 : decode b_As_newLength 2 = .ok (.iload_n 2, 1) := by decide +kernel
theorem d_As_newLength_3 : decode b_As_newLength 3 = .ok (.invokestatic 194, 3) := by decide +kernel
theorem d_As_newLength_6 : decode b_As_newLength 6 = .ok (.iadd, 1) := by decide +kernel
theorem d_As_newLength_7 : decode b_As_newLength 7 = .ok (.istore_n 3, 1) := by decide +kernel
theorem d_As_newLength_8 : decode b_As_newLength 8 = .ok (.iconst 0, 1) := by decide +kernel
theorem d_As_newLength_9 : decode b_As_newLength 9 = .ok (.iload_n 3, 1) := by decide +kernel
theorem d_As_newLength_10 : decode b_As_newLength 10 = .ok (.if_icmp .ge 11, 3) := by decide +kernel
theorem d_As_newLength_13 : decode b_As_newLength 13 = .ok (.iload_n 3, 1) := by decide +kernel
theorem d_As_newLength_14 : decode b_As_newLength 14 = .ok (.ldc 200, 2) := by decide +kernel
theorem d_As_newLength_16 : decode b_As_newLength 16 = .ok (.if_icmp .gt 5, 3) := by decide +kernel
theorem d_As_newLength_19 : decode b_As_newLength 19 = .ok (.iload_n 3, 1) := by decide +kernel
theorem d_As_newLength_20 : decode b_As_newLength 20 = .ok (.ireturn, 1) := by decide +kernel
theorem d_As_newLength_21 : decode b_As_newLength 21 = .ok (.iload_n 0, 1) := by decide +kernel
theorem d_As_newLength_22 : decode b_As_newLength 22 = .ok (.iload_n 1, 1) := by decide +kernel
theorem d_As_newLength_23 : decode b_As_newLength 23 = .ok (.invokestatic 201, 3) := by decide +kernel
theorem d_As_newLength_26 : decode b_As_newLength 26 = .ok (.ireturn, 1) := by decide +kernel
abbrev rm_As_newLength : Room := { frames := 1, cells := 0, slots := 0, locals := 22 }
theorem ce_As_newLength : gCe y_As_newLength (.code y_As_newLength b_As_newLength 4 (some .int)) 4 3 true := gCe.code wd_268 wd_59 wd_267 (by decide) (by decide +kernel)
def f_As_newLength (g0 : gG) (p0 : Int32) (p1 : Int32) (p2 : Int32) (w : gW) : gX Int32 := gbind (f_Ma_max g0 p1 p2 w) fun v3 w => gjoin (fun K21 => if (p0 + v3) ≤ (0 : Int32) then (K21 w) else (if 2147483639 < (p0 + v3) then (K21 w) else (some (.inr (p0 + v3), w)))) (fun (w : gW) => gbind (f_As_hugeLength g0 p0 p1 w) fun v6 w => some (.inr v6, w))
set_option maxHeartbeats 4000000 in
set_option maxRecDepth 100000 in
theorem m_As_newLength (l : Launch) (hst : l.stackTraces = false) (D : gD) (g0 : gG) (p0 : Int32) (p1 : Int32) (p2 : Int32) (w : gW) (r : (String ⊕ Int32) × gW) (h : f_As_newLength g0 p0 p1 p2 w = some r) : gMet l y_As_newLength (.code y_As_newLength b_As_newLength 4 (some .int)) rm_As_newLength D g0 [.int p0, .int p1, .int p2] w (goI r) := by
  refine gw_ofI (by decide +kernel) (Nat.le_of_ble_eq_true rfl) ?_
  intro p e s m below meth c ls args A Q hx hb hml hown hlocks hin hnt hT hK hZ hA hret hexc hthr hI hl
  obtain ⟨H, hH⟩ : ∃ H, H = s.heap := ⟨_, rfl⟩
  rw [← hH] at hI ⊢
  obtain ⟨locs, hlocs⟩ : ∃ z : List Loc, z = [] := ⟨_, rfl⟩
  rw [← hlocs] at hI ⊢
  have hl : lv_has ls 4 [(0, .int p0), (1, .int p1), (2, .int p2)] := hl
  unfold f_As_newLength at h
  refine lv_iload_n hx hb d_As_newLength_0 rfl (lv_at hl 0 rfl) ?_
  refine lv_iload_n hx hb d_As_newLength_1 rfl (lv_at hl 1 rfl) ?_
  refine lv_iload_n hx hb d_As_newLength_2 rfl (lv_at hl 2 rfl) ?_
  obtain ⟨u1, e2⟩ := gsome h
  refine gw_callI e2 h (gw_runS (As := [.int p1, .int p2]) (rest := [.int p0]) hx hb hml hown hT hK hZ hA hI (m_Ma_max l hst D g0 p1 p2 w u1 e2) ce_Ma_max wd_269 ⟨by decide, by decide⟩ rfl rfl hl.1 rfl (lv_room (Nat.le_of_ble_eq_true rfl)) d_As_newLength_3 ⟨(show 0 + 0 ≤ 0 by omega), (show 0 + 0 ≤ 0 by omega)⟩) hI hA hexc (show 0 + 0 ≤ 0 by omega) (show 0 + 0 ≤ 0 by omega) (fun v3 w H locs h hI => ?_)
  refine lv_iadd hx hb d_As_newLength_6 ?_
  refine lv_istore_n (lv' := [(3, .int (p0 + v3)), (0, .int p0), (1, .int p1), (2, .int p2)]) hx hb d_As_newLength_7 rfl hl (by decide) rfl (fun ls hl => ?_)
  refine lv_iconst (v := 0) hx hb d_As_newLength_8 (by decide) ?_
  refine lv_iload_n hx hb d_As_newLength_9 rfl (lv_at hl 0 rfl) ?_
  obtain ⟨K21, eK21, h⟩ := gj h
  have hK21 : ∀ (w : gW) (H : Heap) (locs : List Loc) (ls : Array Slot), K21 w = some r → gI D s A w H locs → lv_has ls 4 [(0, .int p0), (1, .int p1)] → W p l e rm_As_newLength s m args below meth c H locs 0 0 Q (F0 m 21 ls []) := by
    intro w H locs ls h hI hl
    have h := gk1 eK21 h
    refine lv_iload_n hx hb d_As_newLength_21 rfl (lv_at hl 0 rfl) ?_
    refine lv_iload_n hx hb d_As_newLength_22 rfl (lv_at hl 1 rfl) ?_
    obtain ⟨u4, e5⟩ := gsome h
    refine gw_callI e5 h (gw_runS (As := [.int p0, .int p1]) (rest := []) hx hb hml hown hT hK hZ hA hI (m_As_hugeLength l hst D g0 p0 p1 w u4 e5) ce_As_hugeLength wd_273 ⟨by decide, by decide⟩ rfl rfl hl.1 rfl (lv_room (Nat.le_of_ble_eq_true rfl)) d_As_newLength_23 ⟨(show 0 + 0 ≤ 0 by omega), (show 0 + 0 ≤ 0 by omega)⟩) hI hA hexc (show 0 + 0 ≤ 0 by omega) (show 0 + 0 ≤ 0 by omega) (fun v6 w H locs h hI => ?_)
    exact W.widen (show 0 ≤ 0 by omega) (show 0 ≤ 0 by omega) (hret _ _ (Option.some.inj h).symm _ _ _ _ d_As_newLength_26 hI)
  refine lv_icmp_ge (tgt := 21) hx hb d_As_newLength_10 (by decide) (fun c7 => ?_) (fun c7 => ?_)
  · skip
    have h := git c7 h
    exact hK21 w H locs ls h hI (lv_sub hl [1, 2] rfl)
  · skip
    have h := gie c7 h
    refine lv_iload_n hx hb d_As_newLength_13 rfl (lv_at hl 0 rfl) ?_
    refine lv_ldc (v := 2147483639) hx hb hown (hT _ wd_272 args) d_As_newLength_14 ?_
    refine lv_icmp_gt (tgt := 21) hx hb d_As_newLength_16 (by decide) (fun c8 => ?_) (fun c8 => ?_)
    · skip
      have h := git c8 h
      exact hK21 w H locs ls h hI (lv_sub hl [1, 2] rfl)
    · skip
      have h := gie c8 h
      refine lv_iload_n hx hb d_As_newLength_19 rfl (lv_at hl 0 rfl) ?_
      exact W.widen (show 0 ≤ 0 by omega) (show 0 ≤ 0 by omega) (hret _ _ (Option.some.inj h).symm _ _ _ _ d_As_newLength_20 hI)

abbrev b_Ma_min : ByteArray := prog_17_method_69_code
def y_Ma_min : MethodName := ⟨"java/lang/Math", "min", "(II)I"⟩
theorem d_Ma_min_0 : decode b_Ma_min 0 = .ok (.iload_n 0, 1) := by decide +kernel
theorem d_Ma_min_1 : decode b_Ma_min 1 = .ok (.iload_n 1, 1) := by decide +kernel
theorem d_Ma_min_2 : decode b_Ma_min 2 = .ok (.if_icmp .gt 7, 3) := by decide +kernel
theorem d_Ma_min_5 : decode b_Ma_min 5 = .ok (.iload_n 0, 1) := by decide +kernel
theorem d_Ma_min_6 : decode b_Ma_min 6 = .ok (.goto 4, 3) := by decide +kernel
theorem d_Ma_min_9 : decode b_Ma_min 9 = .ok (.iload_n 1, 1) := by decide +kernel
theorem d_Ma_min_10 : decode b_Ma_min 10 = .ok (.ireturn, 1) := by decide +kernel
abbrev rm_Ma_min : Room := { frames := 0, cells := 0, slots := 0, locals := 0 }
theorem ce_Ma_min : gCe y_Ma_min (.code y_Ma_min b_Ma_min 2 (some .int)) 2 2 true := gCe.code wd_302 wd_50 wd_301 (by decide) (by decide +kernel)
def f_Ma_min (g0 : gG) (p0 : Int32) (p1 : Int32) (w : gW) : gX Int32 := gjoin (fun K10 => if p1 < p0 then (K10 p1 w) else (K10 p0 w)) (fun (y1 : Int32) (w : gW) => some (.inr y1, w))
set_option maxHeartbeats 4000000 in
set_option maxRecDepth 100000 in
theorem m_Ma_min (l : Launch) (hst : l.stackTraces = false) (D : gD) (g0 : gG) (p0 : Int32) (p1 : Int32) (w : gW) (r : (String ⊕ Int32) × gW) (h : f_Ma_min g0 p0 p1 w = some r) : gMet l y_Ma_min (.code y_Ma_min b_Ma_min 2 (some .int)) rm_Ma_min D g0 [.int p0, .int p1] w (goI r) := by
  refine gw_ofI (by decide +kernel) (Nat.le_of_ble_eq_true rfl) ?_
  intro p e s m below meth c ls args A Q hx hb hml hown hlocks hin hnt hT hK hZ hA hret hexc hthr hI hl
  obtain ⟨H, hH⟩ : ∃ H, H = s.heap := ⟨_, rfl⟩
  rw [← hH] at hI ⊢
  obtain ⟨locs, hlocs⟩ : ∃ z : List Loc, z = [] := ⟨_, rfl⟩
  rw [← hlocs] at hI ⊢
  have hl : lv_has ls 2 [(0, .int p0), (1, .int p1)] := hl
  unfold f_Ma_min at h
  refine lv_iload_n hx hb d_Ma_min_0 rfl (lv_at hl 0 rfl) ?_
  refine lv_iload_n hx hb d_Ma_min_1 rfl (lv_at hl 1 rfl) ?_
  obtain ⟨K10, eK10, h⟩ := gj h
  have hK10 : ∀ (y1 : Int32) (w : gW) (H : Heap) (locs : List Loc) (ls : Array Slot), K10 y1 w = some r → gI D s A w H locs → lv_has ls 2 [] → W p l e rm_Ma_min s m args below meth c H locs 0 0 Q (F0 m 10 ls [.int y1]) := by
    intro y1 w H locs ls h hI hl
    have h := gk2 eK10 h
    exact W.widen (show 0 ≤ 0 by omega) (show 0 ≤ 0 by omega) (hret _ _ (Option.some.inj h).symm _ _ _ _ d_Ma_min_10 hI)
  refine lv_icmp_gt (tgt := 9) hx hb d_Ma_min_2 (by decide) (fun c2 => ?_) (fun c2 => ?_)
  · skip
    have h := git c2 h
    refine lv_iload_n hx hb d_Ma_min_9 rfl (lv_at hl 1 rfl) ?_
    exact hK10 _ w H locs ls h hI (lv_sub hl [] rfl)
  · skip
    have h := gie c2 h
    refine lv_iload_n hx hb d_Ma_min_5 rfl (lv_at hl 0 rfl) ?_
    refine lv_goto (tgt := 10) hx hb d_Ma_min_6 (by decide) ?_
    exact hK10 _ w H locs ls h hI (lv_sub hl [] rfl)

abbrev b_Ar_copyOf2 : ByteArray := prog_25_method_120_code
def y_Ar_copyOf2 : MethodName := ⟨"java/util/Arrays", "copyOf", "([Ljava/lang/Object;ILjava/lang/Class;)[Ljava/lang/Object;"⟩
theorem d_Ar_copyOf2_0 : decode b_Ar_copyOf2 0 = .ok (.aload_n 2, 1) := by decide +kernel
theorem d_Ar_copyOf2_1 : decode b_Ar_copyOf2 1 = .ok (.ldc 110, 2) := by decide +kernel
theorem d_Ar_copyOf2_3 : decode b_Ar_copyOf2 3 = .ok (.if_acmp .ne 10, 3) := by decide +kernel
theorem d_Ar_copyOf2_6 : decode b_Ar_copyOf2 6 = .ok (.iload_n 1, 1) := by decide +kernel
theorem d_Ar_copyOf2_7 : decode b_Ar_copyOf2 7 = .ok (.anewarray 2, 3) := by decide +kernel
theorem d_Ar_copyOf2_10 : decode b_Ar_copyOf2 10 = .ok (.goto 14, 3) := by decide +kernel
theorem d_Ar_copyOf2_13 : decode b_Ar_copyOf2 13 = .ok (.aload_n 2, 1) := by decide +kernel
theorem d_Ar_copyOf2_14 : decode b_Ar_copyOf2 14 = .ok (.invokevirtual 90, 3) := by decide +kernel
theorem d_Ar_copyOf2_24 : decode b_Ar_copyOf2 24 = .ok (.astore_n 3, 1) := by decide +kernel
theorem d_Ar_copyOf2_25 : decode b_Ar_copyOf2 25 = .ok (.aload_n 0, 1) := by decide +kernel
theorem d_Ar_copyOf2_26 : decode b_Ar_copyOf2 26 = .ok (.iconst 0, 1) := by decide +kernel
theorem d_Ar_copyOf2_27 : decode b_Ar_copyOf2 27 = .ok (.aload_n 3, 1) := by decide +kernel
theorem d_Ar_copyOf2_28 : decode b_Ar_copyOf2 28 = .ok (.iconst 0, 1) := by decide +kernel
theorem d_Ar_copyOf2_29 : decode b_Ar_copyOf2 29 = .ok (.aload_n 0, 1) := by decide +kernel
theorem d_Ar_copyOf2_30 : decode b_Ar_copyOf2 30 = .ok (.arraylength, 1) := by decide +kernel
theorem d_Ar_copyOf2_31 : decode b_Ar_copyOf2 31 = .ok (.iload_n 1, 1) := by decide +kernel
theorem d_Ar_copyOf2_32 : decode b_Ar_copyOf2 32 = .ok (.invokestatic 304, 3) := by decide +kernel
theorem d_Ar_copyOf2_35 : decode b_Ar_copyOf2 35 = .ok (.invokestatic 150, 3) := by decide +kernel
theorem d_Ar_copyOf2_38 : decode b_Ar_copyOf2 38 = .ok (.aload_n 3, 1) := by decide +kernel
theorem d_Ar_copyOf2_39 : decode b_Ar_copyOf2 39 = .ok (.areturn, 1) := by decide +kernel
abbrev rm_Ar_copyOf2 : Room := { frames := 1, cells := 1, slots := 64, locals := 48 }
theorem ce_Ar_copyOf2 : gCe y_Ar_copyOf2 (.code y_Ar_copyOf2 b_Ar_copyOf2 4 (some (.array (.object "java/lang/Object")))) 4 3 true := gCe.code wd_296 wd_54 wd_295 (by decide) (by decide +kernel)
def f_Ar_copyOf2 (g0 : gG) (a0 : Nat) (p1 : Int32) (a2 : Nat) (w : gW) : gX Nat := if a2 = (g0.2) then (gb2f (gna w 3 p1 64 .null) fun o2 w => (gal w a0).bind fun v4 => gbind (f_Ma_min g0 v4 p1 w) fun v8 w => (gcp w a0 0 o2 0 v8).bind fun w => some (.inr o2, w)) else (none)
set_option maxHeartbeats 4000000 in
set_option maxRecDepth 100000 in
theorem m_Ar_copyOf2 (l : Launch) (hst : l.stackTraces = false) (D : gD) (g0 : gG) (a0 : Nat) (p1 : Int32) (a2 : Nat) (w : gW) (r : (String ⊕ Nat) × gW) (h : f_Ar_copyOf2 g0 a0 p1 a2 w = some r) : gMet l y_Ar_copyOf2 (.code y_Ar_copyOf2 b_Ar_copyOf2 4 (some (.array (.object "java/lang/Object")))) rm_Ar_copyOf2 D g0 [.ref a0, .int p1, .ref a2] w (goA r) := by
  refine gw_ofA (by decide +kernel) (Nat.le_of_ble_eq_true rfl) (Or.inr ⟨_, rfl⟩) ?_
  intro p e s m below meth c ls args A Q hx hb hml hown hlocks hin hnt hT hK hZ hA hret hexc hthr hI hl
  obtain ⟨H, hH⟩ : ∃ H, H = s.heap := ⟨_, rfl⟩
  rw [← hH] at hI ⊢
  obtain ⟨locs, hlocs⟩ : ∃ z : List Loc, z = [] := ⟨_, rfl⟩
  rw [← hlocs] at hI ⊢
  have hl : lv_has ls 4 [(0, .ref a0), (1, .int p1), (2, .ref a2)] := hl
  unfold f_Ar_copyOf2 at h
  refine lv_aload_n hx hb d_Ar_copyOf2_0 rfl (lv_at hl 2 rfl) ?_
  refine gw_ldcM hx hb hT hown hZ wd_297 d_Ar_copyOf2_1 ?_
  refine gw_acmp_ne (tgt := 13) hx hb d_Ar_copyOf2_3 (by decide) (fun c1 => ?_) (fun c1 => ?_)
  · skip
    have h := gie c1 h
    exact absurd h (by simp)
  · skip
    have h := git c1 h
    refine lv_iload_n hx hb d_Ar_copyOf2_6 rfl (lv_at hl 1 rfl) ?_
    obtain ⟨o2, w, e3, h⟩ := gb2 h
    refine gw_anew (M := 64) hx hb hown hK hI hA (hT _ wd_299 args) (hT _ wd_298 args) (k := 3) rfl e3 (show 0 + 1 ≤ 1 by omega) (show 0 + 64 ≤ 64 by omega) (show 64 * 4 ≤ 536870912 by omega) d_Ar_copyOf2_7 (fun H hI => ?_)
    refine W.widen (k := 1) (n := 64) (show 0 + 1 ≤ 1 by omega) (show 0 + 64 ≤ 64 by omega) ?_
    refine lv_goto (tgt := 24) hx hb d_Ar_copyOf2_10 (by decide) ?_
    refine lv_astore_n (lv' := [(3, .ref o2), (0, .ref a0), (1, .int p1), (2, .ref a2)]) hx hb d_Ar_copyOf2_24 rfl hl (by decide) rfl (fun ls hl => ?_)
    refine lv_aload_n hx hb d_Ar_copyOf2_25 rfl (lv_at hl 1 rfl) ?_
    refine lv_iconst (v := 0) hx hb d_Ar_copyOf2_26 (by decide) ?_
    refine lv_aload_n hx hb d_Ar_copyOf2_27 rfl (lv_at hl 0 rfl) ?_
    refine lv_iconst (v := 0) hx hb d_Ar_copyOf2_28 (by decide) ?_
    refine lv_aload_n hx hb d_Ar_copyOf2_29 rfl (lv_at hl 1 rfl) ?_
    obtain ⟨v4, e5, h⟩ := gb h
    refine gw_alen hx hb hK hI e5 d_Ar_copyOf2_30 ?_
    refine lv_iload_n hx hb d_Ar_copyOf2_31 rfl (lv_at hl 2 rfl) ?_
    obtain ⟨u6, e7⟩ := gsome h
    refine gw_callI e7 h (gw_runS (As := [.int v4, .int p1]) (rest := [.int 0, .ref o2, .int 0, .ref a0]) hx hb hml hown hT hK hZ hA hI (m_Ma_min l hst D g0 v4 p1 w u6 e7) ce_Ma_min wd_300 ⟨by decide, by decide⟩ rfl rfl hl.1 rfl (lv_room (Nat.le_of_ble_eq_true rfl)) d_Ar_copyOf2_32 ⟨(show 1 + 0 ≤ 1 by omega), (show 64 + 0 ≤ 64 by omega)⟩) hI hA hexc (show 1 + 0 ≤ 1 by omega) (show 64 + 0 ≤ 64 by omega) (fun v8 w H locs h hI => ?_)
    obtain ⟨w, e9, h⟩ := gb h
    refine gw_copy hx hb (hml.trans hl.1.symm) hT hown hK hI e9 wd_303 wd_305 wd_304 wd_60 (Nat.le_of_ble_eq_true rfl) (by decide) d_Ar_copyOf2_35 (fun H locs hI => ?_)
    refine lv_aload_n hx hb d_Ar_copyOf2_38 rfl (lv_at hl 0 rfl) ?_
    exact W.widen (show 1 ≤ 1 by omega) (show 64 ≤ 64 by omega) (hret _ _ (Option.some.inj h).symm _ _ _ _ d_Ar_copyOf2_39 hI)

abbrev b_Ar_copyOf : ByteArray := prog_25_method_119_code
def y_Ar_copyOf : MethodName := ⟨"java/util/Arrays", "copyOf", "([Ljava/lang/Object;I)[Ljava/lang/Object;"⟩
theorem d_Ar_copyOf_0 : decode b_Ar_copyOf 0 = .ok (.aload_n 0, 1) := by decide +kernel
theorem d_Ar_copyOf_1 : decode b_Ar_copyOf 1 = .ok (.iload_n 1, 1) := by decide +kernel
theorem d_Ar_copyOf_2 : decode b_Ar_copyOf 2 = .ok (.aload_n 0, 1) := by decide +kernel
theorem d_Ar_copyOf_3 : decode b_Ar_copyOf 3 = .ok (.invokevirtual 86, 3) := by decide +kernel
theorem d_Ar_copyOf_6 : decode b_Ar_copyOf 6 = .ok (.invokestatic 300, 3) := by decide +kernel
theorem d_Ar_copyOf_9 : decode b_Ar_copyOf 9 = .ok (.areturn, 1) := by decide +kernel
abbrev rm_Ar_copyOf : Room := { frames := 2, cells := 1, slots := 64, locals := 71 }
theorem ce_Ar_copyOf : gCe y_Ar_copyOf (.code y_Ar_copyOf b_Ar_copyOf 2 (some (.array (.object "java/lang/Object")))) 2 2 true := gCe.code wd_278 wd_54 wd_277 (by decide) (by decide +kernel)
def f_Ar_copyOf (g0 : gG) (a0 : Nat) (p1 : Int32) (w : gW) : gX Nat := (gkd w a0 3).bind fun _ => gbind (f_Ar_copyOf2 g0 a0 p1 (g0.2) w) fun v5 w => some (.inr v5, w)
set_option maxHeartbeats 4000000 in
set_option maxRecDepth 100000 in
theorem m_Ar_copyOf (l : Launch) (hst : l.stackTraces = false) (D : gD) (g0 : gG) (a0 : Nat) (p1 : Int32) (w : gW) (r : (String ⊕ Nat) × gW) (h : f_Ar_copyOf g0 a0 p1 w = some r) : gMet l y_Ar_copyOf (.code y_Ar_copyOf b_Ar_copyOf 2 (some (.array (.object "java/lang/Object")))) rm_Ar_copyOf D g0 [.ref a0, .int p1] w (goA r) := by
  refine gw_ofA (by decide +kernel) (Nat.le_of_ble_eq_true rfl) (Or.inr ⟨_, rfl⟩) ?_
  intro p e s m below meth c ls args A Q hx hb hml hown hlocks hin hnt hT hK hZ hA hret hexc hthr hI hl
  obtain ⟨H, hH⟩ : ∃ H, H = s.heap := ⟨_, rfl⟩
  rw [← hH] at hI ⊢
  obtain ⟨locs, hlocs⟩ : ∃ z : List Loc, z = [] := ⟨_, rfl⟩
  rw [← hlocs] at hI ⊢
  have hl : lv_has ls 2 [(0, .ref a0), (1, .int p1)] := hl
  unfold f_Ar_copyOf at h
  refine lv_aload_n hx hb d_Ar_copyOf_0 rfl (lv_at hl 0 rfl) ?_
  refine lv_iload_n hx hb d_Ar_copyOf_1 rfl (lv_at hl 1 rfl) ?_
  refine lv_aload_n hx hb d_Ar_copyOf_2 rfl (lv_at hl 0 rfl) ?_
  obtain ⟨q1, e2, h⟩ := gb h
  refine gw_getC hx hb (hml.trans hl.1.symm) hT hown hK hZ hI e2 wd_279 wd_1129 wd_1128 wd_280 wd_293 (Nat.le_of_ble_eq_true rfl) (Nat.le_of_ble_eq_true rfl) d_Ar_copyOf_3 ?_
  obtain ⟨u3, e4⟩ := gsome h
  refine gw_callA e4 h (gw_runS (As := [.ref a0, .int p1, .ref (g0.2)]) (rest := []) hx hb hml hown hT hK hZ hA hI (m_Ar_copyOf2 l hst D g0 a0 p1 (g0.2) w u3 e4) ce_Ar_copyOf2 wd_294 ⟨by decide, by decide⟩ rfl rfl hl.1 rfl (lv_room (Nat.le_of_ble_eq_true rfl)) d_Ar_copyOf_6 ⟨(show 0 + 1 ≤ 1 by omega), (show 0 + 64 ≤ 64 by omega)⟩) hI hA hexc (show 0 + 1 ≤ 1 by omega) (show 0 + 64 ≤ 64 by omega) (fun v5 w H locs h hI => ?_)
  refine W.widen (k := 1) (n := 64) (show 0 + 1 ≤ 1 by omega) (show 0 + 64 ≤ 64 by omega) ?_
  exact W.widen (show 1 ≤ 1 by omega) (show 64 ≤ 64 by omega) (hret _ _ (Option.some.inj h).symm _ _ _ _ d_Ar_copyOf_9 hI)

abbrev b_AL_grow2 : ByteArray := prog_24_method_6_code
def y_AL_grow2 : MethodName := ⟨"java/util/ArrayList", "grow", "(I)[Ljava/lang/Object;"⟩
theorem d_AL_grow2_0 : decode b_AL_grow2 0 = .ok (.aload_n 0, 1) := by decide +kernel
theorem d_AL_grow2_1 : decode b_AL_grow2 1 = .ok (.getfield 9, 3) := by decide +kernel
theorem d_AL_grow2_4 : decode b_AL_grow2 4 = .ok (.arraylength, 1) := by decide +kernel
theorem d_AL_grow2_5 : decode b_AL_grow2 5 = .ok (.istore_n 2, 1) := by decide +kernel
theorem d_AL_grow2_6 : decode b_AL_grow2 6 = .ok (.iload_n 2, 1) := by decide +kernel
theorem d_AL_grow2_7 : decode b_AL_grow2 7 = .ok (.ifCond .gt 13, 3) := by decide +kernel
theorem d_AL_grow2_10 : decode b_AL_grow2 10 = .ok (.aload_n 0, 1) := by decide +kernel
theorem d_AL_grow2_11 : decode b_AL_grow2 11 = .ok (.getfield 9, 3) := by decide +kernel
theorem d_AL_grow2_14 : decode b_AL_grow2 14 = .ok (.getstatic 39, 3) := by decide +kernel
theorem d_AL_grow2_17 : decode b_AL_grow2 17 = .ok (.if_acmp .eq 28, 3) := by decide +kernel
theorem d_AL_grow2_20 : decode b_AL_grow2 20 = .ok (.iload_n 2, 1) := by decide +kernel
theorem d_AL_grow2_21 : decode b_AL_grow2 21 = .ok (.iload_n 1, 1) := by decide +kernel
theorem d_AL_grow2_22 : decode b_AL_grow2 22 = .ok (.iload_n 2, 1) := by decide +kernel
theorem d_AL_grow2_23 : decode b_AL_grow2 23 = .ok (.isub, 1) := by decide +kernel
theorem d_AL_grow2_24 : decode b_AL_grow2 24 = .ok (.iload_n 2, 1) := by decide +kernel
theorem d_AL_grow2_25 : decode b_AL_grow2 25 = .ok (.iconst 1, 1) := by decide +kernel
theorem d_AL_grow2_26 : decode b_AL_grow2 26 = .ok (.ishr, 1) := by decide +kernel
theorem d_AL_grow2_27 : decode b_AL_grow2 27 = .ok (.invokestatic 73, 3) := by decide +kernel
theorem d_AL_grow2_30 : decode b_AL_grow2 30 = .ok (.istore_n 3, 1) := by decide +kernel
theorem d_AL_grow2_31 : decode b_AL_grow2 31 = .ok (.aload_n 0, 1) := by decide +kernel
theorem d_AL_grow2_32 : decode b_AL_grow2 32 = .ok (.aload_n 0, 1) := by decide +kernel
theorem d_AL_grow2_33 : decode b_AL_grow2 33 = .ok (.getfield 9, 3) := by decide +kernel
theorem d_AL_grow2_36 : decode b_AL_grow2 36 = .ok (.iload_n 3, 1) := by decide +kernel
theorem d_AL_grow2_37 : decode b_AL_grow2 37 = .ok (.invokestatic 66, 3) := by decide +kernel
theorem d_AL_grow2_40 : decode b_AL_grow2 40 = .ok (.dup_x1, 1) := by decide +kernel
theorem d_AL_grow2_41 : decode b_AL_grow2 41 = .ok (.putfield 9, 3) := by decide +kernel
theorem d_AL_grow2_44 : decode b_AL_grow2 44 = .ok (.areturn, 1) := by decide +kernel
theorem d_AL_grow2_45 : decode b_AL_grow2 45 = .ok (.aload_n 0, 1) := by decide +kernel
theorem d_AL_grow2_46 : decode b_AL_grow2 46 = .ok (.bipush 10, 2) := by decide +kernel
theorem d_AL_grow2_48 : decode b_AL_grow2 48 = .ok (.iload_n 1, 1) := by decide +kernel
theorem d_AL_grow2_49 : decode b_AL_grow2 49 = .ok (.invokestatic 79, 3) := by decide +kernel
theorem d_AL_grow2_52 : decode b_AL_grow2 52 = .ok (.anewarray 7, 3) := by decide +kernel
theorem d_AL_grow2_55 : decode b_AL_grow2 55 = .ok (.dup_x1, 1) := by decide +kernel
theorem d_AL_grow2_56 : decode b_AL_grow2 56 = .ok (.putfield 9, 3) := by decide +kernel
theorem d_AL_grow2_59 : decode b_AL_grow2 59 = .ok (.areturn, 1) := by decide +kernel
abbrev rm_AL_grow2 : Room := { frames := 3, cells := 1, slots := 64, locals := 92 }
theorem ce_AL_grow2 : gCe y_AL_grow2 (.code y_AL_grow2 b_AL_grow2 4 (some (.array (.object "java/lang/Object")))) 4 1 false := gCe.code wd_265 wd_53 wd_264 (by decide) (by decide +kernel)
def f_AL_grow2 (g0 : gG) (a0 : Nat) (p1 : Int32) (w : gW) : gX Nat := (gfA w a0 1 0).bind fun v1 => (gal w v1).bind fun v3 => gjoin (fun K20 => if 0 < v3 then (K20 w) else ((gfA w a0 1 0).bind fun v15 => if v15 = (g0.1) then (gbind (f_Ma_max g0 10 p1 w) fun v20 w => gb2f (gna w 3 v20 64 .null) fun o21 w => (gp w a0 1 0 (.ref o21)).bind fun w => some (.inr o21, w)) else (K20 w))) (fun (w : gW) => gbind (f_As_newLength g0 v3 (p1 - v3) (v3 >>> (1 &&& 31)) w) fun v7 w => (gfA w a0 1 0).bind fun v8 => gbind (f_Ar_copyOf g0 v8 v7 w) fun v12 w => (gp w a0 1 0 (.ref v12)).bind fun w => some (.inr v12, w))
set_option maxHeartbeats 4000000 in
set_option maxRecDepth 100000 in
theorem m_AL_grow2 (l : Launch) (hst : l.stackTraces = false) (D : gD) (g0 : gG) (a0 : Nat) (p1 : Int32) (w : gW) (r : (String ⊕ Nat) × gW) (h : f_AL_grow2 g0 a0 p1 w = some r) : gMet l y_AL_grow2 (.code y_AL_grow2 b_AL_grow2 4 (some (.array (.object "java/lang/Object")))) rm_AL_grow2 D g0 [.ref a0, .int p1] w (goA r) := by
  refine gw_ofA (by decide +kernel) (Nat.le_of_ble_eq_true rfl) (Or.inr ⟨_, rfl⟩) ?_
  intro p e s m below meth c ls args A Q hx hb hml hown hlocks hin hnt hT hK hZ hA hret hexc hthr hI hl
  obtain ⟨H, hH⟩ : ∃ H, H = s.heap := ⟨_, rfl⟩
  rw [← hH] at hI ⊢
  obtain ⟨locs, hlocs⟩ : ∃ z : List Loc, z = [] := ⟨_, rfl⟩
  rw [← hlocs] at hI ⊢
  have hl : lv_has ls 4 [(0, .ref a0), (1, .int p1)] := hl
  unfold f_AL_grow2 at h
  refine lv_aload_n hx hb d_AL_grow2_0 rfl (lv_at hl 0 rfl) ?_
  obtain ⟨v1, e2, h⟩ := gb h
  refine gw_getA hx hb hT hown hK hI (ci := 1) rfl i_1 0 (by decide) wd_101 (fun _ h9 => h9) e2 d_AL_grow2_1 ?_
  obtain ⟨v3, e4, h⟩ := gb h
  refine gw_alen hx hb hK hI e4 d_AL_grow2_4 ?_
  refine lv_istore_n (lv' := [(2, .int v3), (0, .ref a0), (1, .int p1)]) hx hb d_AL_grow2_5 rfl hl (by decide) rfl (fun ls hl => ?_)
  refine lv_iload_n hx hb d_AL_grow2_6 rfl (lv_at hl 0 rfl) ?_
  obtain ⟨K20, eK20, h⟩ := gj h
  have hK20 : ∀ (w : gW) (H : Heap) (locs : List Loc) (ls : Array Slot), K20 w = some r → gI D s A w H locs → lv_has ls 4 [(0, .ref a0), (1, .int p1), (2, .int v3)] → W p l e rm_AL_grow2 s m args below meth c H locs 0 0 Q (F0 m 20 ls []) := by
    intro w H locs ls h hI hl
    have h := gk1 eK20 h
    refine lv_iload_n hx hb d_AL_grow2_20 rfl (lv_at hl 2 rfl) ?_
    refine lv_iload_n hx hb d_AL_grow2_21 rfl (lv_at hl 1 rfl) ?_
    refine lv_iload_n hx hb d_AL_grow2_22 rfl (lv_at hl 2 rfl) ?_
    refine lv_isub hx hb d_AL_grow2_23 ?_
    refine lv_iload_n hx hb d_AL_grow2_24 rfl (lv_at hl 2 rfl) ?_
    refine lv_iconst (v := 1) hx hb d_AL_grow2_25 (by decide) ?_
    refine lv_ishr hx hb d_AL_grow2_26 ?_
    obtain ⟨u5, e6⟩ := gsome h
    refine gw_callI e6 h (gw_runS (As := [.int v3, .int (p1 - v3), .int (v3 >>> (1 &&& 31))]) (rest := []) hx hb hml hown hT hK hZ hA hI (m_As_newLength l hst D g0 v3 (p1 - v3) (v3 >>> (1 &&& 31)) w u5 e6) ce_As_newLength wd_266 ⟨by decide, by decide⟩ rfl rfl hl.1 rfl (lv_room (Nat.le_of_ble_eq_true rfl)) d_AL_grow2_27 ⟨(show 0 + 0 ≤ 1 by omega), (show 0 + 0 ≤ 64 by omega)⟩) hI hA hexc (show 0 + 0 ≤ 1 by omega) (show 0 + 0 ≤ 64 by omega) (fun v7 w H locs h hI => ?_)
    refine lv_istore_n (lv' := [(3, .int v7), (0, .ref a0), (1, .int p1), (2, .int v3)]) hx hb d_AL_grow2_30 rfl hl (by decide) rfl (fun ls hl => ?_)
    refine lv_aload_n hx hb d_AL_grow2_31 rfl (lv_at hl 1 rfl) ?_
    refine lv_aload_n hx hb d_AL_grow2_32 rfl (lv_at hl 1 rfl) ?_
    obtain ⟨v8, e9, h⟩ := gb h
    refine gw_getA hx hb hT hown hK hI (ci := 1) rfl i_1 0 (by decide) wd_101 (fun _ h9 => h9) e9 d_AL_grow2_33 ?_
    refine lv_iload_n hx hb d_AL_grow2_36 rfl (lv_at hl 0 rfl) ?_
    obtain ⟨u10, e11⟩ := gsome h
    refine gw_callA e11 h (gw_runS (As := [.ref v8, .int v7]) (rest := [.ref a0]) hx hb hml hown hT hK hZ hA hI (m_Ar_copyOf l hst D g0 v8 v7 w u10 e11) ce_Ar_copyOf wd_276 ⟨by decide, by decide⟩ rfl rfl hl.1 rfl (lv_room (Nat.le_of_ble_eq_true rfl)) d_AL_grow2_37 ⟨(show 0 + 1 ≤ 1 by omega), (show 0 + 64 ≤ 64 by omega)⟩) hI hA hexc (show 0 + 1 ≤ 1 by omega) (show 0 + 64 ≤ 64 by omega) (fun v12 w H locs h hI => ?_)
    refine W.widen (k := 1) (n := 64) (show 0 + 1 ≤ 1 by omega) (show 0 + 64 ≤ 64 by omega) ?_
    refine lv_dup_x1 hx hb d_AL_grow2_40 rfl rfl ?_
    obtain ⟨w, e13, h⟩ := gb h
    refine gw_put hx hb hT hown hK hI (ci := 1) rfl i_1 t_1 t_1_ok n_1 0 (by decide) wd_101 (fun _ h9 => h9) rfl (ty := .array (.object "java/lang/Object")) (by decide +kernel) rfl rfl e13 d_AL_grow2_41 (fun H locs hI => ?_)
    exact W.widen (show 1 ≤ 1 by omega) (show 64 ≤ 64 by omega) (hret _ _ (Option.some.inj h).symm _ _ _ _ d_AL_grow2_44 hI)
  refine lv_if_gt (tgt := 20) hx hb d_AL_grow2_7 (by decide) (fun c14 => ?_) (fun c14 => ?_)
  · skip
    have h := git c14 h
    exact hK20 w H locs ls h hI (lv_sub hl [1, 2, 0] rfl)
  · skip
    have h := gie c14 h
    refine lv_aload_n hx hb d_AL_grow2_10 rfl (lv_at hl 1 rfl) ?_
    obtain ⟨v15, e16, h⟩ := gb h
    refine gw_getA hx hb hT hown hK hI (ci := 1) rfl i_1 0 (by decide) wd_101 (fun _ h9 => h9) e16 d_AL_grow2_11 ?_
    refine gw_gets hx hb hT hown hZ hI wd_99 d_AL_grow2_14 ?_
    refine gw_acmp_eq (tgt := 45) hx hb d_AL_grow2_17 (by decide) (fun c17 => ?_) (fun c17 => ?_)
    · skip
      have h := git c17 h
      refine lv_aload_n hx hb d_AL_grow2_45 rfl (lv_at hl 1 rfl) ?_
      refine lv_bipush (v := 10) hx hb d_AL_grow2_46 (by decide) ?_
      refine lv_iload_n hx hb d_AL_grow2_48 rfl (lv_at hl 2 rfl) ?_
      obtain ⟨u18, e19⟩ := gsome h
      refine gw_callI e19 h (gw_runS (As := [.int 10, .int p1]) (rest := [.ref a0]) hx hb hml hown hT hK hZ hA hI (m_Ma_max l hst D g0 10 p1 w u18 e19) ce_Ma_max wd_306 ⟨by decide, by decide⟩ rfl rfl hl.1 rfl (lv_room (Nat.le_of_ble_eq_true rfl)) d_AL_grow2_49 ⟨(show 0 + 0 ≤ 1 by omega), (show 0 + 0 ≤ 64 by omega)⟩) hI hA hexc (show 0 + 0 ≤ 1 by omega) (show 0 + 0 ≤ 64 by omega) (fun v20 w H locs h hI => ?_)
      obtain ⟨o21, w, e22, h⟩ := gb2 h
      refine gw_anew (M := 64) hx hb hown hK hI hA (hT _ wd_307 args) (hT _ wd_298 args) (k := 3) rfl e22 (show 0 + 1 ≤ 1 by omega) (show 0 + 64 ≤ 64 by omega) (show 64 * 4 ≤ 536870912 by omega) d_AL_grow2_52 (fun H hI => ?_)
      refine W.widen (k := 1) (n := 64) (show 0 + 1 ≤ 1 by omega) (show 0 + 64 ≤ 64 by omega) ?_
      refine lv_dup_x1 hx hb d_AL_grow2_55 rfl rfl ?_
      obtain ⟨w, e23, h⟩ := gb h
      refine gw_put hx hb hT hown hK hI (ci := 1) rfl i_1 t_1 t_1_ok n_1 0 (by decide) wd_101 (fun _ h9 => h9) rfl (ty := .array (.object "java/lang/Object")) (by decide +kernel) rfl rfl e23 d_AL_grow2_56 (fun H locs hI => ?_)
      exact W.widen (show 1 ≤ 1 by omega) (show 64 ≤ 64 by omega) (hret _ _ (Option.some.inj h).symm _ _ _ _ d_AL_grow2_59 hI)
    · skip
      have h := gie c17 h
      exact hK20 w H locs ls h hI (lv_sub hl [1, 2, 0] rfl)

abbrev b_AL_grow : ByteArray := prog_24_method_7_code
def y_AL_grow : MethodName := ⟨"java/util/ArrayList", "grow", "()[Ljava/lang/Object;"⟩
theorem d_AL_grow_0 : decode b_AL_grow 0 = .ok (.aload_n 0, 1) := by decide +kernel
theorem d_AL_grow_1 : decode b_AL_grow 1 = .ok (.aload_n 0, 1) := by decide +kernel
theorem d_AL_grow_2 : decode b_AL_grow 2 = .ok (.getfield 48, 3) := by decide +kernel
theorem d_AL_grow_5 : decode b_AL_grow 5 = .ok (.iconst 1, 1) := by decide +kernel
theorem d_AL_grow_6 : decode b_AL_grow 6 = .ok (.iadd, 1) := by decide +kernel
theorem d_AL_grow_7 : decode b_AL_grow 7 = .ok (.invokevirtual 69, 3) := by decide +kernel
theorem d_AL_grow_10 : decode b_AL_grow 10 = .ok (.areturn, 1) := by decide +kernel
abbrev rm_AL_grow : Room := { frames := 4, cells := 1, slots := 64, locals := 115 }
theorem ce_AL_grow : gCe y_AL_grow (.code y_AL_grow b_AL_grow 1 (some (.array (.object "java/lang/Object")))) 1 0 false := gCe.code wd_261 wd_53 wd_260 (by decide) (by decide +kernel)
def f_AL_grow (g0 : gG) (a0 : Nat) (w : gW) : gX Nat := (gfI w a0 1 1).bind fun v1 => (gck w a0 1).bind fun _ => gbind (f_AL_grow2 g0 a0 (v1 + 1) w) fun v7 w => some (.inr v7, w)
set_option maxHeartbeats 4000000 in
set_option maxRecDepth 100000 in
theorem m_AL_grow (l : Launch) (hst : l.stackTraces = false) (D : gD) (g0 : gG) (a0 : Nat) (w : gW) (r : (String ⊕ Nat) × gW) (h : f_AL_grow g0 a0 w = some r) : gMet l y_AL_grow (.code y_AL_grow b_AL_grow 1 (some (.array (.object "java/lang/Object")))) rm_AL_grow D g0 [.ref a0] w (goA r) := by
  refine gw_ofA (by decide +kernel) (Nat.le_of_ble_eq_true rfl) (Or.inr ⟨_, rfl⟩) ?_
  intro p e s m below meth c ls args A Q hx hb hml hown hlocks hin hnt hT hK hZ hA hret hexc hthr hI hl
  obtain ⟨H, hH⟩ : ∃ H, H = s.heap := ⟨_, rfl⟩
  rw [← hH] at hI ⊢
  obtain ⟨locs, hlocs⟩ : ∃ z : List Loc, z = [] := ⟨_, rfl⟩
  rw [← hlocs] at hI ⊢
  have hl : lv_has ls 1 [(0, .ref a0)] := hl
  unfold f_AL_grow at h
  refine lv_aload_n hx hb d_AL_grow_0 rfl (lv_at hl 0 rfl) ?_
  refine lv_aload_n hx hb d_AL_grow_1 rfl (lv_at hl 0 rfl) ?_
  obtain ⟨v1, e2, h⟩ := gb h
  refine gw_getI hx hb hT hown hK hI (ci := 1) rfl i_1 1 (by decide) wd_102 (fun _ h9 => h9) e2 d_AL_grow_2 ?_
  refine lv_iconst (v := 1) hx hb d_AL_grow_5 (by decide) ?_
  refine lv_iadd hx hb d_AL_grow_6 ?_
  obtain ⟨q5, e6, h⟩ := gb h
  obtain ⟨u3, e4⟩ := gsome h
  refine gw_callA e4 h (gw_runV (As := [.int (v1 + 1)]) (rest := []) hx hb hml hown hT hK hZ hA hI (ci := 1) rfl e6 (m_AL_grow2 l hst D g0 a0 (v1 + 1) w u3 e4) ce_AL_grow2 wd_262 wd_3 ⟨by decide, by decide⟩ rfl rfl hl.1 rfl (lv_room (Nat.le_of_ble_eq_true rfl)) d_AL_grow_7 ⟨(show 0 + 1 ≤ 1 by omega), (show 0 + 64 ≤ 64 by omega)⟩) hI hA hexc (show 0 + 1 ≤ 1 by omega) (show 0 + 64 ≤ 64 by omega) (fun v7 w H locs h hI => ?_)
  refine W.widen (k := 1) (n := 64) (show 0 + 1 ≤ 1 by omega) (show 0 + 64 ≤ 64 by omega) ?_
  exact W.widen (show 1 ≤ 1 by omega) (show 64 ≤ 64 by omega) (hret _ _ (Option.some.inj h).symm _ _ _ _ d_AL_grow_10 hI)

abbrev b_AL_add2 : ByteArray := prog_24_method_24_code
def y_AL_add2 : MethodName := ⟨"java/util/ArrayList", "add", "(Ljava/lang/Object;[Ljava/lang/Object;I)V"⟩
theorem d_AL_add2_0 : decode b_AL_add2 0 = .ok (.iload_n 3, 1) := by decide +kernel
theorem d_AL_add2_1 : decode b_AL_add2 1 = .ok (.aload_n 2, 1) := by decide +kernel
theorem d_AL_add2_2 : decode b_AL_add2 2 = .ok (.arraylength, 1) := by decide +kernel
theorem d_AL_add2_3 : decode b_AL_add2 3 = .ok (.if_icmp .ne 8, 3) := by decide +kernel
theorem d_AL_add2_6 : decode b_AL_add2 6 = .ok (.aload_n 0, 1) := by decide +kernel
theorem d_AL_add2_7 : decode b_AL_add2 7 = .ok (.invokevirtual 129, 3) := by decide +kernel
theorem d_AL_add2_10 : decode b_AL_add2 10 = .ok (.astore_n 2, 1) := by decide +kernel
theorem d_AL_add2_11 : decode b_AL_add2 11 = .ok (.aload_n 2, 1) := by decide +kernel
theorem d_AL_add2_12 : decode b_AL_add2 12 = .ok (.iload_n 3, 1) := by decide +kernel
theorem d_AL_add2_13 : decode b_AL_add2 13 = .ok (.aload_n 1, 1) := by decide +kernel
theorem d_AL_add2_14 : decode b_AL_add2 14 = .ok (.aastore, 1) := by decide +kernel
theorem d_AL_add2_15 : decode b_AL_add2 15 = .ok (.aload_n 0, 1) := by decide +kernel
theorem d_AL_add2_16 : decode b_AL_add2 16 = .ok (.iload_n 3, 1) := by decide +kernel
theorem d_AL_add2_17 : decode b_AL_add2 17 = .ok (.iconst 1, 1) := by decide +kernel
theorem d_AL_add2_18 : decode b_AL_add2 18 = .ok (.iadd, 1) := by decide +kernel
theorem d_AL_add2_19 : decode b_AL_add2 19 = .ok (.putfield 48, 3) := by decide +kernel
theorem d_AL_add2_22 : decode b_AL_add2 22 = .ok (.return_, 1) := by decide +kernel
abbrev rm_AL_add2 : Room := { frames := 5, cells := 1, slots := 64, locals := 135 }
theorem ce_AL_add2 : gCe y_AL_add2 (.code y_AL_add2 b_AL_add2 4 none) 4 3 false := gCe.code wd_257 wd_53 wd_256 (by decide) (by decide +kernel)
def f_AL_add2 (g0 : gG) (a0 : Nat) (a1 : Nat) (a2 : Nat) (p3 : Int32) (w : gW) : gX Unit := (gal w a2).bind fun v1 => gjoin (fun K11 => if p3 = v1 then ((gck w a0 1).bind fun _ => gbind (f_AL_grow g0 a0 w) fun v11 w => K11 v11 w) else (K11 a2 w)) (fun (x3 : Nat) (w : gW) => (gsA w x3 p3 a1).bind fun w => (gp w a0 1 1 (.int (p3 + 1))).bind fun w => some (.inr (), w))
set_option maxHeartbeats 4000000 in
set_option maxRecDepth 100000 in
theorem m_AL_add2 (l : Launch) (hst : l.stackTraces = false) (D : gD) (g0 : gG) (a0 : Nat) (a1 : Nat) (a2 : Nat) (p3 : Int32) (w : gW) (r : (String ⊕ Unit) × gW) (h : f_AL_add2 g0 a0 a1 a2 p3 w = some r) : gMet l y_AL_add2 (.code y_AL_add2 b_AL_add2 4 none) rm_AL_add2 D g0 [.ref a0, .ref a1, .ref a2, .int p3] w (goV r) := by
  refine gw_ofV (by decide +kernel) (Nat.le_of_ble_eq_true rfl) ?_
  intro p e s m below meth c ls args A Q hx hb hml hown hlocks hin hnt hT hK hZ hA hret hexc hthr hI hl
  obtain ⟨H, hH⟩ : ∃ H, H = s.heap := ⟨_, rfl⟩
  rw [← hH] at hI ⊢
  obtain ⟨locs, hlocs⟩ : ∃ z : List Loc, z = [] := ⟨_, rfl⟩
  rw [← hlocs] at hI ⊢
  have hl : lv_has ls 4 [(0, .ref a0), (1, .ref a1), (2, .ref a2), (3, .int p3)] := hl
  unfold f_AL_add2 at h
  refine lv_iload_n hx hb d_AL_add2_0 rfl (lv_at hl 3 rfl) ?_
  refine lv_aload_n hx hb d_AL_add2_1 rfl (lv_at hl 2 rfl) ?_
  obtain ⟨v1, e2, h⟩ := gb h
  refine gw_alen hx hb hK hI e2 d_AL_add2_2 ?_
  obtain ⟨K11, eK11, h⟩ := gj h
  have hK11 : ∀ (x3 : Nat) (w : gW) (H : Heap) (locs : List Loc) (ls : Array Slot), K11 x3 w = some r → gI D s A w H locs → lv_has ls 4 [(0, .ref a0), (1, .ref a1), (2, .ref x3), (3, .int p3)] → W p l e rm_AL_add2 s m args below meth c H locs 1 64 Q (F0 m 11 ls []) := by
    intro x3 w H locs ls h hI hl
    have h := gk2 eK11 h
    refine lv_aload_n hx hb d_AL_add2_11 rfl (lv_at hl 2 rfl) ?_
    refine lv_iload_n hx hb d_AL_add2_12 rfl (lv_at hl 3 rfl) ?_
    refine lv_aload_n hx hb d_AL_add2_13 rfl (lv_at hl 1 rfl) ?_
    obtain ⟨w, e4, h⟩ := gb h
    refine gw_astA hx hb hT hK hI e4 d_AL_add2_14 (fun H locs hI => ?_)
    refine lv_aload_n hx hb d_AL_add2_15 rfl (lv_at hl 0 rfl) ?_
    refine lv_iload_n hx hb d_AL_add2_16 rfl (lv_at hl 3 rfl) ?_
    refine lv_iconst (v := 1) hx hb d_AL_add2_17 (by decide) ?_
    refine lv_iadd hx hb d_AL_add2_18 ?_
    obtain ⟨w, e5, h⟩ := gb h
    refine gw_put hx hb hT hown hK hI (ci := 1) rfl i_1 t_1 t_1_ok n_1 1 (by decide) wd_102 (fun _ h9 => h9) rfl (ty := .int) (by decide +kernel) rfl rfl e5 d_AL_add2_19 (fun H locs hI => ?_)
    exact W.widen (show 1 ≤ 1 by omega) (show 64 ≤ 64 by omega) (hret _ _ (Option.some.inj h).symm _ _ _ _ d_AL_add2_22 hI)
  refine lv_icmp_ne (tgt := 11) hx hb d_AL_add2_3 (by decide) (fun c6 => ?_) (fun c6 => ?_)
  · skip
    have h := gie c6 h
    refine W.widen (k := 1) (n := 64) (show 0 ≤ 1 by omega) (show 0 ≤ 64 by omega) ?_
    exact hK11 _ w H locs ls h hI (lv_sub hl [0, 1, 2, 3] rfl)
  · skip
    have h := git c6 h
    refine lv_aload_n hx hb d_AL_add2_6 rfl (lv_at hl 0 rfl) ?_
    obtain ⟨q9, e10, h⟩ := gb h
    obtain ⟨u7, e8⟩ := gsome h
    refine gw_callA e8 h (gw_runV (As := []) (rest := []) hx hb hml hown hT hK hZ hA hI (ci := 1) rfl e10 (m_AL_grow l hst D g0 a0 w u7 e8) ce_AL_grow wd_258 wd_2 ⟨by decide, by decide⟩ rfl rfl hl.1 rfl (lv_room (Nat.le_of_ble_eq_true rfl)) d_AL_add2_7 ⟨(show 0 + 1 ≤ 1 by omega), (show 0 + 64 ≤ 64 by omega)⟩) hI hA hexc (show 0 + 1 ≤ 1 by omega) (show 0 + 64 ≤ 64 by omega) (fun v11 w H locs h hI => ?_)
    refine W.widen (k := 1) (n := 64) (show 0 + 1 ≤ 1 by omega) (show 0 + 64 ≤ 64 by omega) ?_
    refine lv_astore_n (lv' := [(2, .ref v11), (0, .ref a0), (1, .ref a1), (3, .int p3)]) hx hb d_AL_add2_10 rfl hl (by decide) rfl (fun ls hl => ?_)
    exact hK11 _ w H locs ls h hI (lv_sub hl [1, 2, 0, 3] rfl)
end
section
abbrev b_AL_add : ByteArray := prog_24_method_25_code
def y_AL_add : MethodName := ⟨"java/util/ArrayList", "add", "(Ljava/lang/Object;)Z"⟩
theorem d_AL_add_0 : decode b_AL_add 0 = .ok (.aload_n 0, 1) := by decide +kernel
theorem d_AL_add_1 : decode b_AL_add 1 = .ok (.dup, 1) := by decide +kernel
theorem d_AL_add_2 : decode b_AL_add 2 = .ok (.getfield 63, 3) := by decide +kernel
theorem d_AL_add_5 : decode b_AL_add 5 = .ok (.iconst 1, 1) := by decide +kernel
theorem d_AL_add_6 : decode b_AL_add 6 = .ok (.iadd, 1) := by decide +kernel
theorem d_AL_add_7 : decode b_AL_add 7 = .ok (.putfield 63, 3) := by decide +kernel
theorem d_AL_add_10 : decode b_AL_add 10 = .ok (.aload_n 0, 1) := by decide +kernel
theorem d_AL_add_11 : decode b_AL_add 11 = .ok (.aload_n 1, 1) := by decide +kernel
theorem d_AL_add_12 : decode b_AL_add 12 = .ok (.aload_n 0, 1) := by decide +kernel
theorem d_AL_add_13 : decode b_AL_add 13 = .ok (.getfield 9, 3) := by decide +kernel
theorem d_AL_add_16 : decode b_AL_add 16 = .ok (.aload_n 0, 1) := by decide +kernel
theorem d_AL_add_17 : decode b_AL_add 17 = .ok (.getfield 48, 3) := by decide +kernel
theorem d_AL_add_20 : decode b_AL_add 20 = .ok (.invokevirtual 131, 3) := by decide +kernel
theorem d_AL_add_23 : decode b_AL_add 23 = .ok (.iconst 1, 1) := by decide +kernel
theorem d_AL_add_24 : decode b_AL_add 24 = .ok (.ireturn, 1) := by decide +kernel
abbrev rm_AL_add : Room := { frames := 6, cells := 1, slots := 64, locals := 158 }
theorem ce_AL_add : gCe y_AL_add (.code y_AL_add b_AL_add 2 (some .boolean)) 2 1 false := gCe.code wd_253 wd_53 wd_251 (by decide) (by decide +kernel)
def f_AL_add (g0 : gG) (a0 : Nat) (a1 : Nat) (w : gW) : gX Int32 := (gfI w a0 1 2).bind fun v1 => (gp w a0 1 2 (.int (v1 + 1))).bind fun w => (gfA w a0 1 0).bind fun v4 => (gfI w a0 1 1).bind fun v6 => (gck w a0 1).bind fun _ => gbind (f_AL_add2 g0 a0 a1 v4 v6 w) fun v12 w => gguard ((1 : Int32) = 0 ∨ (1 : Int32) = 1) (some (.inr 1, w))
set_option maxHeartbeats 4000000 in
set_option maxRecDepth 100000 in
theorem m_AL_add (l : Launch) (hst : l.stackTraces = false) (D : gD) (g0 : gG) (a0 : Nat) (a1 : Nat) (w : gW) (r : (String ⊕ Int32) × gW) (h : f_AL_add g0 a0 a1 w = some r) : gMet l y_AL_add (.code y_AL_add b_AL_add 2 (some .boolean)) rm_AL_add D g0 [.ref a0, .ref a1] w (goI r) := by
  refine gw_ofZ (by decide +kernel) (Nat.le_of_ble_eq_true rfl) ?_
  intro p e s m below meth c ls args A Q hx hb hml hown hlocks hin hnt hT hK hZ hA hret hexc hthr hI hl
  obtain ⟨H, hH⟩ : ∃ H, H = s.heap := ⟨_, rfl⟩
  rw [← hH] at hI ⊢
  obtain ⟨locs, hlocs⟩ : ∃ z : List Loc, z = [] := ⟨_, rfl⟩
  rw [← hlocs] at hI ⊢
  have hl : lv_has ls 2 [(0, .ref a0), (1, .ref a1)] := hl
  unfold f_AL_add at h
  refine lv_aload_n hx hb d_AL_add_0 rfl (lv_at hl 0 rfl) ?_
  refine lv_dup hx hb d_AL_add_1 rfl ?_
  obtain ⟨v1, e2, h⟩ := gb h
  refine gw_getI hx hb hT hown hK hI (ci := 1) rfl i_1 2 (by decide) wd_104 (u_same (hT _ wd_105 args)) e2 d_AL_add_2 ?_
  refine lv_iconst (v := 1) hx hb d_AL_add_5 (by decide) ?_
  refine lv_iadd hx hb d_AL_add_6 ?_
  obtain ⟨w, e3, h⟩ := gb h
  refine gw_put hx hb hT hown hK hI (ci := 1) rfl i_1 t_1 t_1_ok n_1 2 (by decide) wd_104 (u_same (hT _ wd_105 args)) rfl (ty := .int) (by decide +kernel) rfl rfl e3 d_AL_add_7 (fun H locs hI => ?_)
  refine lv_aload_n hx hb d_AL_add_10 rfl (lv_at hl 0 rfl) ?_
  refine lv_aload_n hx hb d_AL_add_11 rfl (lv_at hl 1 rfl) ?_
  refine lv_aload_n hx hb d_AL_add_12 rfl (lv_at hl 0 rfl) ?_
  obtain ⟨v4, e5, h⟩ := gb h
  refine gw_getA hx hb hT hown hK hI (ci := 1) rfl i_1 0 (by decide) wd_101 (fun _ h9 => h9) e5 d_AL_add_13 ?_
  refine lv_aload_n hx hb d_AL_add_16 rfl (lv_at hl 0 rfl) ?_
  obtain ⟨v6, e7, h⟩ := gb h
  refine gw_getI hx hb hT hown hK hI (ci := 1) rfl i_1 1 (by decide) wd_102 (fun _ h9 => h9) e7 d_AL_add_17 ?_
  obtain ⟨q10, e11, h⟩ := gb h
  obtain ⟨u8, e9⟩ := gsome h
  refine gw_callV e9 h (gw_runV (As := [.ref a1, .ref v4, .int v6]) (rest := []) hx hb hml hown hT hK hZ hA hI (ci := 1) rfl e11 (m_AL_add2 l hst D g0 a0 a1 v4 v6 w u8 e9) ce_AL_add2 wd_254 wd_1 ⟨by decide, by decide⟩ rfl rfl hl.1 rfl (lv_room (Nat.le_of_ble_eq_true rfl)) d_AL_add_20 ⟨(show 0 + 1 ≤ 1 by omega), (show 0 + 64 ≤ 64 by omega)⟩) hI hA hexc (show 0 + 1 ≤ 1 by omega) (show 0 + 64 ≤ 64 by omega) (fun v12 w H locs h hI => ?_)
  refine W.widen (k := 1) (n := 64) (show 0 + 1 ≤ 1 by omega) (show 0 + 64 ≤ 64 by omega) ?_
  refine lv_iconst (v := 1) hx hb d_AL_add_23 (by decide) ?_
  obtain ⟨g13, h⟩ := gif h
  exact W.widen (show 1 ≤ 1 by omega) (show 64 ≤ 64 by omega) (hret g13 0 _ (Option.some.inj h).symm _ _ _ _ d_AL_add_24 hI)

abbrev b_B_addBody : ByteArray := prog_1_method_27_code
def y_B_addBody : MethodName := ⟨"BodySolids", "addBody", "(LBodySolids$Body;)I"⟩
theorem d_B_addBody_0 : decode b_B_addBody 0 = .ok (.aload_n 0, 1) := by decide +kernel
theorem d_B_addBody_1 : decode b_B_addBody 1 = .ok (.getfield 27, 3) := by decide +kernel
theorem d_B_addBody_4 : decode b_B_addBody 4 = .ok (.aload_n 1, 1) := by decide +kernel
theorem d_B_addBody_5 : decode b_B_addBody 5 = .ok (.invokevirtual 171, 3) := by decide +kernel
theorem d_B_addBody_8 : decode b_B_addBody 8 = .ok (.pop, 1) := by decide +kernel
theorem d_B_addBody_9 : decode b_B_addBody 9 = .ok (.aload_n 0, 1) := by decide +kernel
theorem d_B_addBody_10 : decode b_B_addBody 10 = .ok (.getfield 27, 3) := by decide +kernel
theorem d_B_addBody_13 : decode b_B_addBody 13 = .ok (.invokevirtual 68, 3) := by decide +kernel
theorem d_B_addBody_16 : decode b_B_addBody 16 = .ok (.iconst 1, 1) := by decide +kernel
theorem d_B_addBody_17 : decode b_B_addBody 17 = .ok (.isub, 1) := by decide +kernel
theorem d_B_addBody_18 : decode b_B_addBody 18 = .ok (.ireturn, 1) := by decide +kernel
abbrev rm_B_addBody : Room := { frames := 7, cells := 1, slots := 64, locals := 179 }
theorem ce_B_addBody : gCe y_B_addBody (.code y_B_addBody b_B_addBody 2 (some .int)) 2 1 false := gCe.code wd_249 wd_49 wd_248 (by decide) (by decide +kernel)
def f_B_addBody (g0 : gG) (a0 : Nat) (a1 : Nat) (w : gW) : gX Int32 := (gfA w a0 0 1).bind fun v1 => (gck w v1 1).bind fun _ => gbind (f_AL_add g0 v1 a1 w) fun v7 w => (gfA w a0 0 1).bind fun v8 => (gck w v8 1).bind fun _ => gbind (f_AL_size g0 v8 w) fun v14 w => some (.inr (v14 - 1), w)
set_option maxHeartbeats 4000000 in
set_option maxRecDepth 100000 in
theorem m_B_addBody (l : Launch) (hst : l.stackTraces = false) (D : gD) (g0 : gG) (a0 : Nat) (a1 : Nat) (w : gW) (r : (String ⊕ Int32) × gW) (h : f_B_addBody g0 a0 a1 w = some r) : gMet l y_B_addBody (.code y_B_addBody b_B_addBody 2 (some .int)) rm_B_addBody D g0 [.ref a0, .ref a1] w (goI r) := by
  refine gw_ofI (by decide +kernel) (Nat.le_of_ble_eq_true rfl) ?_
  intro p e s m below meth c ls args A Q hx hb hml hown hlocks hin hnt hT hK hZ hA hret hexc hthr hI hl
  obtain ⟨H, hH⟩ : ∃ H, H = s.heap := ⟨_, rfl⟩
  rw [← hH] at hI ⊢
  obtain ⟨locs, hlocs⟩ : ∃ z : List Loc, z = [] := ⟨_, rfl⟩
  rw [← hlocs] at hI ⊢
  have hl : lv_has ls 2 [(0, .ref a0), (1, .ref a1)] := hl
  unfold f_B_addBody at h
  refine lv_aload_n hx hb d_B_addBody_0 rfl (lv_at hl 0 rfl) ?_
  obtain ⟨v1, e2, h⟩ := gb h
  refine gw_getA hx hb hT hown hK hI (ci := 0) rfl i_0 1 (by decide) wd_190 (fun _ h9 => h9) e2 d_B_addBody_1 ?_
  refine lv_aload_n hx hb d_B_addBody_4 rfl (lv_at hl 1 rfl) ?_
  obtain ⟨q5, e6, h⟩ := gb h
  obtain ⟨u3, e4⟩ := gsome h
  refine gw_callI e4 h (gw_runV (As := [.ref a1]) (rest := []) hx hb hml hown hT hK hZ hA hI (ci := 1) rfl e6 (m_AL_add l hst D g0 v1 a1 w u3 e4) ce_AL_add wd_250 wd_252 ⟨by decide, by decide⟩ rfl rfl hl.1 rfl (lv_room (Nat.le_of_ble_eq_true rfl)) d_B_addBody_5 ⟨(show 0 + 1 ≤ 1 by omega), (show 0 + 64 ≤ 64 by omega)⟩) hI hA hexc (show 0 + 1 ≤ 1 by omega) (show 0 + 64 ≤ 64 by omega) (fun v7 w H locs h hI => ?_)
  refine W.widen (k := 1) (n := 64) (show 0 + 1 ≤ 1 by omega) (show 0 + 64 ≤ 64 by omega) ?_
  refine lv_pop hx hb d_B_addBody_8 rfl ?_
  refine lv_aload_n hx hb d_B_addBody_9 rfl (lv_at hl 0 rfl) ?_
  obtain ⟨v8, e9, h⟩ := gb h
  refine gw_getA hx hb hT hown hK hI (ci := 0) rfl i_0 1 (by decide) wd_190 (fun _ h9 => h9) e9 d_B_addBody_10 ?_
  obtain ⟨q12, e13, h⟩ := gb h
  obtain ⟨u10, e11⟩ := gsome h
  refine gw_callI e11 h (gw_runV (As := []) (rest := []) hx hb hml hown hT hK hZ hA hI (ci := 1) rfl e13 (m_AL_size l hst D g0 v8 w u10 e11) ce_AL_size wd_224 wd_226 ⟨by decide, by decide⟩ rfl rfl hl.1 rfl (lv_room (Nat.le_of_ble_eq_true rfl)) d_B_addBody_13 ⟨(show 1 + 0 ≤ 1 by omega), (show 64 + 0 ≤ 64 by omega)⟩) hI hA hexc (show 1 + 0 ≤ 1 by omega) (show 64 + 0 ≤ 64 by omega) (fun v14 w H locs h hI => ?_)
  refine lv_iconst (v := 1) hx hb d_B_addBody_16 (by decide) ?_
  refine lv_isub hx hb d_B_addBody_17 ?_
  exact W.widen (show 1 ≤ 1 by omega) (show 64 ≤ 64 by omega) (hret _ _ (Option.some.inj h).symm _ _ _ _ d_B_addBody_18 hI)

abbrev b_B_body : ByteArray := prog_1_method_2_code
def y_B_body : MethodName := ⟨"BodySolids", "body", "()I"⟩
theorem d_B_body_0 : decode b_B_body 0 = .ok (.aload_n 0, 1) := by decide +kernel
theorem d_B_body_1 : decode b_B_body 1 = .ok (.getfield 27, 3) := by decide +kernel
theorem d_B_body_4 : decode b_B_body 4 = .ok (.invokevirtual 68, 3) := by decide +kernel
theorem d_B_body_7 : decode b_B_body 7 = .ok (.bipush 30, 2) := by decide +kernel
theorem d_B_body_9 : decode b_B_body 9 = .ok (.if_icmp .ge 17, 3) := by decide +kernel
theorem d_B_body_12 : decode b_B_body 12 = .ok (.aload_n 0, 1) := by decide +kernel
theorem d_B_body_13 : decode b_B_body 13 = .ok (.new 72, 3) := by decide +kernel
theorem d_B_body_16 : decode b_B_body 16 = .ok (.dup, 1) := by decide +kernel
theorem d_B_body_17 : decode b_B_body 17 = .ok (.invokespecial 74, 3) := by decide +kernel
theorem d_B_body_20 : decode b_B_body 20 = .ok (.invokevirtual 75, 3) := by decide +kernel
theorem d_B_body_23 : decode b_B_body 23 = .ok (.goto 4, 3) := by decide +kernel
theorem d_B_body_26 : decode b_B_body 26 = .ok (.iconst (-1), 1) := by decide +kernel
theorem d_B_body_27 : decode b_B_body 27 = .ok (.ireturn, 1) := by decide +kernel
abbrev rm_B_body : Room := { frames := 8, cells := 3, slots := 69, locals := 200 }
theorem ce_B_body : gCe y_B_body (.code y_B_body b_B_body 1 (some .int)) 1 0 false := gCe.code wd_223 wd_49 wd_221 (by decide) (by decide +kernel)
def f_B_body (g0 : gG) (a0 : Nat) (w : gW) : gX Int32 := (gfA w a0 0 1).bind fun v1 => (gck w v1 1).bind fun _ => gbind (f_AL_size g0 v1 w) fun v7 w => gjoin (fun K27 => if 30 ≤ v7 then (K27 (-1) w) else (gb2f (gnw w 4 [.null, .long 0]) fun o10 w => gbind (f_By_init g0 o10 w) fun v14 w => (gck w a0 0).bind fun _ => gbind (f_B_addBody g0 a0 o10 w) fun v19 w => K27 v19 w)) (fun (y8 : Int32) (w : gW) => some (.inr y8, w))
set_option maxHeartbeats 4000000 in
set_option maxRecDepth 100000 in
theorem m_B_body (l : Launch) (hst : l.stackTraces = false) (D : gD) (g0 : gG) (a0 : Nat) (w : gW) (r : (String ⊕ Int32) × gW) (h : f_B_body g0 a0 w = some r) : gMet l y_B_body (.code y_B_body b_B_body 1 (some .int)) rm_B_body D g0 [.ref a0] w (goI r) := by
  refine gw_ofI (by decide +kernel) (Nat.le_of_ble_eq_true rfl) ?_
  intro p e s m below meth c ls args A Q hx hb hml hown hlocks hin hnt hT hK hZ hA hret hexc hthr hI hl
  obtain ⟨H, hH⟩ : ∃ H, H = s.heap := ⟨_, rfl⟩
  rw [← hH] at hI ⊢
  obtain ⟨locs, hlocs⟩ : ∃ z : List Loc, z = [] := ⟨_, rfl⟩
  rw [← hlocs] at hI ⊢
  have hl : lv_has ls 1 [(0, .ref a0)] := hl
  unfold f_B_body at h
  refine lv_aload_n hx hb d_B_body_0 rfl (lv_at hl 0 rfl) ?_
  obtain ⟨v1, e2, h⟩ := gb h
  refine gw_getA hx hb hT hown hK hI (ci := 0) rfl i_0 1 (by decide) wd_190 (fun _ h9 => h9) e2 d_B_body_1 ?_
  obtain ⟨q5, e6, h⟩ := gb h
  obtain ⟨u3, e4⟩ := gsome h
  refine gw_callI e4 h (gw_runV (As := []) (rest := []) hx hb hml hown hT hK hZ hA hI (ci := 1) rfl e6 (m_AL_size l hst D g0 v1 w u3 e4) ce_AL_size wd_224 wd_226 ⟨by decide, by decide⟩ rfl rfl hl.1 rfl (lv_room (Nat.le_of_ble_eq_true rfl)) d_B_body_4 ⟨(show 0 + 0 ≤ 3 by omega), (show 0 + 0 ≤ 69 by omega)⟩) hI hA hexc (show 0 + 0 ≤ 3 by omega) (show 0 + 0 ≤ 69 by omega) (fun v7 w H locs h hI => ?_)
  refine lv_bipush (v := 30) hx hb d_B_body_7 (by decide) ?_
  obtain ⟨K27, eK27, h⟩ := gj h
  have hK27 : ∀ (y8 : Int32) (w : gW) (H : Heap) (locs : List Loc) (ls : Array Slot), K27 y8 w = some r → gI D s A w H locs → lv_has ls 1 [] → W p l e rm_B_body s m args below meth c H locs 3 69 Q (F0 m 27 ls [.int y8]) := by
    intro y8 w H locs ls h hI hl
    have h := gk2 eK27 h
    exact W.widen (show 3 ≤ 3 by omega) (show 69 ≤ 69 by omega) (hret _ _ (Option.some.inj h).symm _ _ _ _ d_B_body_27 hI)
  refine lv_icmp_ge (tgt := 26) hx hb d_B_body_9 (by decide) (fun c9 => ?_) (fun c9 => ?_)
  · skip
    have h := git c9 h
    refine lv_iconst (v := -1) hx hb d_B_body_26 (by decide) ?_
    refine W.widen (k := 3) (n := 69) (show 0 ≤ 3 by omega) (show 0 ≤ 69 by omega) ?_
    exact hK27 _ w H locs ls h hI (lv_sub hl [] rfl)
  · skip
    have h := gie c9 h
    refine lv_aload_n hx hb d_B_body_12 rfl (lv_at hl 0 rfl) ?_
    obtain ⟨o10, w, e11, h⟩ := gb2 h
    refine gw_new hx hb hT hown hK hI hA (ci := 4) rfl i_4 t_4 t_4_ok wd_228 wd_229 wd_58 (fs := [.null, .long 0]) df_4 e11 (show 0 + 1 ≤ 3 by omega) (show 0 + 2 ≤ 69 by omega) d_B_body_13 (fun H hI => ?_)
    refine W.widen (k := 1) (n := 2) (show 0 + 1 ≤ 1 by omega) (show 0 + 2 ≤ 2 by omega) ?_
    refine lv_dup hx hb d_B_body_16 rfl ?_
    obtain ⟨u12, e13⟩ := gsome h
    refine gw_callV e13 h (gw_runIN (As := []) (rest := [.ref o10, .ref a0]) hx hb hml hown hT hK hZ hA hI (m_By_init l hst D g0 o10 w u12 e13) ce_By_init wd_230 rfl ⟨by decide, by decide⟩ rfl rfl hl.1 rfl (lv_room (Nat.le_of_ble_eq_true rfl)) d_B_body_17 ⟨(show 1 + 1 ≤ 3 by omega), (show 2 + 3 ≤ 69 by omega)⟩) hI hA hexc (show 1 + 1 ≤ 3 by omega) (show 2 + 3 ≤ 69 by omega) (fun v14 w H locs h hI => ?_)
    refine W.widen (k := 2) (n := 5) (show 1 + 1 ≤ 2 by omega) (show 2 + 3 ≤ 5 by omega) ?_
    obtain ⟨q17, e18, h⟩ := gb h
    obtain ⟨u15, e16⟩ := gsome h
    refine gw_callI e16 h (gw_runV (As := [.ref o10]) (rest := []) hx hb hml hown hT hK hZ hA hI (ci := 0) rfl e18 (m_B_addBody l hst D g0 a0 o10 w u15 e16) ce_B_addBody wd_246 wd_0 ⟨by decide, by decide⟩ rfl rfl hl.1 rfl (lv_room (Nat.le_of_ble_eq_true rfl)) d_B_body_20 ⟨(show 2 + 1 ≤ 3 by omega), (show 5 + 64 ≤ 69 by omega)⟩) hI hA hexc (show 2 + 1 ≤ 3 by omega) (show 5 + 64 ≤ 69 by omega) (fun v19 w H locs h hI => ?_)
    refine W.widen (k := 3) (n := 69) (show 2 + 1 ≤ 3 by omega) (show 5 + 64 ≤ 69 by omega) ?_
    refine lv_goto (tgt := 27) hx hb d_B_body_23 (by decide) ?_
    exact hK27 _ w H locs ls h hI (lv_sub hl [] rfl)

abbrev b_M_body : ByteArray := prog_9_method_7_code
def y_M_body : MethodName := ⟨"BodySolidsModel", "body", "()I"⟩
theorem d_M_body_0 : decode b_M_body 0 = .ok (.aload_n 0, 1) := by decide +kernel
theorem d_M_body_1 : decode b_M_body 1 = .ok (.iconst 0, 1) := by decide +kernel
theorem d_M_body_2 : decode b_M_body 2 = .ok (.putfield 80, 3) := by decide +kernel
theorem d_M_body_5 : decode b_M_body 5 = .ok (.aload_n 0, 1) := by decide +kernel
theorem d_M_body_6 : decode b_M_body 6 = .ok (.getfield 92, 3) := by decide +kernel
theorem d_M_body_9 : decode b_M_body 9 = .ok (.bipush 30, 2) := by decide +kernel
theorem d_M_body_11 : decode b_M_body 11 = .ok (.if_icmp .ne 5, 3) := by decide +kernel
theorem d_M_body_14 : decode b_M_body 14 = .ok (.iconst (-1), 1) := by decide +kernel
theorem d_M_body_15 : decode b_M_body 15 = .ok (.ireturn, 1) := by decide +kernel
theorem d_M_body_16 : decode b_M_body 16 = .ok (.aload_n 0, 1) := by decide +kernel
theorem d_M_body_17 : decode b_M_body 17 = .ok (.dup, 1) := by decide +kernel
theorem d_M_body_18 : decode b_M_body 18 = .ok (.getfield 92, 3) := by decide +kernel
theorem d_M_body_21 : decode b_M_body 21 = .ok (.iconst 1, 1) := by decide +kernel
theorem d_M_body_22 : decode b_M_body 22 = .ok (.iadd, 1) := by decide +kernel
theorem d_M_body_23 : decode b_M_body 23 = .ok (.putfield 92, 3) := by decide +kernel
theorem d_M_body_26 : decode b_M_body 26 = .ok (.aload_n 0, 1) := by decide +kernel
theorem d_M_body_27 : decode b_M_body 27 = .ok (.getfield 92, 3) := by decide +kernel
theorem d_M_body_30 : decode b_M_body 30 = .ok (.iconst 1, 1) := by decide +kernel
theorem d_M_body_31 : decode b_M_body 31 = .ok (.isub, 1) := by decide +kernel
theorem d_M_body_32 : decode b_M_body 32 = .ok (.ireturn, 1) := by decide +kernel
abbrev rm_M_body : Room := { frames := 0, cells := 0, slots := 0, locals := 0 }
theorem ce_M_body : gCe y_M_body (.code y_M_body b_M_body 1 (some .int)) 1 0 false := gCe.code wd_875 wd_57 wd_873 (by decide) (by decide +kernel)
def f_M_body (g0 : gG) (a0 : Nat) (w : gW) : gX Int32 := (gp w a0 7 0 (.int 0)).bind fun w => (gfI w a0 7 2).bind fun v2 => if v2 = 30 then (some (.inr (-1), w)) else ((gfI w a0 7 2).bind fun v5 => (gp w a0 7 2 (.int (v5 + 1))).bind fun w => (gfI w a0 7 2).bind fun v8 => some (.inr (v8 - 1), w))
set_option maxHeartbeats 4000000 in
set_option maxRecDepth 100000 in
theorem m_M_body (l : Launch) (hst : l.stackTraces = false) (D : gD) (g0 : gG) (a0 : Nat) (w : gW) (r : (String ⊕ Int32) × gW) (h : f_M_body g0 a0 w = some r) : gMet l y_M_body (.code y_M_body b_M_body 1 (some .int)) rm_M_body D g0 [.ref a0] w (goI r) := by
  refine gw_ofI (by decide +kernel) (Nat.le_of_ble_eq_true rfl) ?_
  intro p e s m below meth c ls args A Q hx hb hml hown hlocks hin hnt hT hK hZ hA hret hexc hthr hI hl
  obtain ⟨H, hH⟩ : ∃ H, H = s.heap := ⟨_, rfl⟩
  rw [← hH] at hI ⊢
  obtain ⟨locs, hlocs⟩ : ∃ z : List Loc, z = [] := ⟨_, rfl⟩
  rw [← hlocs] at hI ⊢
  have hl : lv_has ls 1 [(0, .ref a0)] := hl
  unfold f_M_body at h
  refine lv_aload_n hx hb d_M_body_0 rfl (lv_at hl 0 rfl) ?_
  refine lv_iconst (v := 0) hx hb d_M_body_1 (by decide) ?_
  obtain ⟨w, e1, h⟩ := gb h
  refine gw_put hx hb hT hown hK hI (ci := 7) rfl i_7 t_7 t_7_ok n_7 0 (by decide) wd_786 (fun _ h9 => h9) rfl (ty := .int) (by decide +kernel) rfl rfl e1 d_M_body_2 (fun H locs hI => ?_)
  refine lv_aload_n hx hb d_M_body_5 rfl (lv_at hl 0 rfl) ?_
  obtain ⟨v2, e3, h⟩ := gb h
  refine gw_getI hx hb hT hown hK hI (ci := 7) rfl i_7 2 (by decide) wd_788 (fun _ h9 => h9) e3 d_M_body_6 ?_
  refine lv_bipush (v := 30) hx hb d_M_body_9 (by decide) ?_
  refine lv_icmp_ne (tgt := 16) hx hb d_M_body_11 (by decide) (fun c4 => ?_) (fun c4 => ?_)
  · skip
    have h := gie c4 h
    refine lv_aload_n hx hb d_M_body_16 rfl (lv_at hl 0 rfl) ?_
    refine lv_dup hx hb d_M_body_17 rfl ?_
    obtain ⟨v5, e6, h⟩ := gb h
    refine gw_getI hx hb hT hown hK hI (ci := 7) rfl i_7 2 (by decide) wd_788 (fun _ h9 => h9) e6 d_M_body_18 ?_
    refine lv_iconst (v := 1) hx hb d_M_body_21 (by decide) ?_
    refine lv_iadd hx hb d_M_body_22 ?_
    obtain ⟨w, e7, h⟩ := gb h
    refine gw_put hx hb hT hown hK hI (ci := 7) rfl i_7 t_7 t_7_ok n_7 2 (by decide) wd_788 (fun _ h9 => h9) rfl (ty := .int) (by decide +kernel) rfl rfl e7 d_M_body_23 (fun H locs hI => ?_)
    refine lv_aload_n hx hb d_M_body_26 rfl (lv_at hl 0 rfl) ?_
    obtain ⟨v8, e9, h⟩ := gb h
    refine gw_getI hx hb hT hown hK hI (ci := 7) rfl i_7 2 (by decide) wd_788 (fun _ h9 => h9) e9 d_M_body_27 ?_
    refine lv_iconst (v := 1) hx hb d_M_body_30 (by decide) ?_
    refine lv_isub hx hb d_M_body_31 ?_
    exact W.widen (show 0 ≤ 0 by omega) (show 0 ≤ 0 by omega) (hret _ _ (Option.some.inj h).symm _ _ _ _ d_M_body_32 hI)
  · skip
    have h := git c4 h
    refine lv_iconst (v := -1) hx hb d_M_body_14 (by decide) ?_
    exact W.widen (show 0 ≤ 0 by omega) (show 0 ≤ 0 by omega) (hret _ _ (Option.some.inj h).symm _ _ _ _ d_M_body_15 hI)

abbrev b_B_needIndex : ByteArray := prog_1_method_19_code
def y_B_needIndex : MethodName := ⟨"BodySolids", "needIndex", "(II)V"⟩
theorem d_B_needIndex_0 : decode b_B_needIndex 0 = .ok (.iload_n 0, 1) := by decide +kernel
theorem d_B_needIndex_1 : decode b_B_needIndex 1 = .ok (.ifCond .lt 8, 3) := by decide +kernel
theorem d_B_needIndex_4 : decode b_B_needIndex 4 = .ok (.iload_n 0, 1) := by decide +kernel
theorem d_B_needIndex_5 : decode b_B_needIndex 5 = .ok (.iload_n 1, 1) := by decide +kernel
theorem d_B_needIndex_6 : decode b_B_needIndex 6 = .ok (.if_icmp .lt 13, 3) := by decide +kernel
theorem d_B_needIndex_9 : decode b_B_needIndex 9 = .ok (.new 247, 3) := by decide +kernel
theorem d_B_needIndex_12 : decode b_B_needIndex 12 = .ok (.dup, 1) := by decide +kernel
theorem d_B_needIndex_13 : decode b_B_needIndex 13 = .ok (.ldc 249, 2) := by decide +kernel
theorem d_B_needIndex_15 : decode b_B_needIndex 15 = .ok (.invokespecial 251, 3) := by decide +kernel
theorem d_B_needIndex_18 : decode b_B_needIndex 18 = .ok (.athrow, 1) := by decide +kernel
theorem d_B_needIndex_19 : decode b_B_needIndex 19 = .ok (.return_, 1) := by decide +kernel
abbrev rm_B_needIndex : Room := { frames := 7, cells := 1, slots := 6, locals := 90 }
theorem ce_B_needIndex : gCe y_B_needIndex (.code y_B_needIndex b_B_needIndex 2 none) 2 2 true := gCe.code wd_442 wd_49 wd_441 (by decide) (by decide +kernel)
def f_B_needIndex (g0 : gG) (p0 : Int32) (p1 : Int32) (w : gW) : gX Unit := gjoin (fun K9 => if p0 < 0 then (K9 w) else (if p0 < p1 then (some (.inr (), w)) else (K9 w))) (fun (w : gW) => gthrow "java/lang/IndexOutOfBoundsException" w)
set_option maxHeartbeats 4000000 in
set_option maxRecDepth 100000 in
theorem m_B_needIndex (l : Launch) (hst : l.stackTraces = false) (D : gD) (g0 : gG) (p0 : Int32) (p1 : Int32) (w : gW) (r : (String ⊕ Unit) × gW) (h : f_B_needIndex g0 p0 p1 w = some r) : gMet l y_B_needIndex (.code y_B_needIndex b_B_needIndex 2 none) rm_B_needIndex D g0 [.int p0, .int p1] w (goV r) := by
  refine gw_ofV (by decide +kernel) (Nat.le_of_ble_eq_true rfl) ?_
  intro p e s m below meth c ls args A Q hx hb hml hown hlocks hin hnt hT hK hZ hA hret hexc hthr hI hl
  obtain ⟨H, hH⟩ : ∃ H, H = s.heap := ⟨_, rfl⟩
  rw [← hH] at hI ⊢
  obtain ⟨locs, hlocs⟩ : ∃ z : List Loc, z = [] := ⟨_, rfl⟩
  rw [← hlocs] at hI ⊢
  have hl : lv_has ls 2 [(0, .int p0), (1, .int p1)] := hl
  unfold f_B_needIndex at h
  refine lv_iload_n hx hb d_B_needIndex_0 rfl (lv_at hl 0 rfl) ?_
  obtain ⟨K9, eK9, h⟩ := gj h
  have hK9 : ∀ (w : gW) (H : Heap) (locs : List Loc) (ls : Array Slot), K9 w = some r → gI D s A w H locs → lv_has ls 2 [] → W p l e rm_B_needIndex s m args below meth c H locs 0 0 Q (F0 m 9 ls []) := by
    intro w H locs ls h hI hl
    have h := gk1 eK9 h
    exact gw_throwS (names := ["java/lang/RuntimeException", "java/lang/Exception"]) (text := "no such number") hx hb hst hown hT hZ hI hl.1 hml hnt hlocks (by decide +kernel) (by decide +kernel) wd_443 wd_64 (by decide) at_IOB d_B_needIndex_9 d_B_needIndex_12 d_B_needIndex_13 d_B_needIndex_15 d_B_needIndex_18 (by decide) (Nat.le_of_ble_eq_true rfl) (show 0 + 1 ≤ 1 by omega) (show 0 + 6 ≤ 6 by omega) hthr h
  refine lv_if_lt (tgt := 9) hx hb d_B_needIndex_1 (by decide) (fun c1 => ?_) (fun c1 => ?_)
  · skip
    have h := git c1 h
    exact hK9 w H locs ls h hI (lv_sub hl [] rfl)
  · skip
    have h := gie c1 h
    refine lv_iload_n hx hb d_B_needIndex_4 rfl (lv_at hl 0 rfl) ?_
    refine lv_iload_n hx hb d_B_needIndex_5 rfl (lv_at hl 1 rfl) ?_
    refine lv_icmp_lt (tgt := 19) hx hb d_B_needIndex_6 (by decide) (fun c2 => ?_) (fun c2 => ?_)
    · skip
      have h := git c2 h
      exact W.widen (show 0 ≤ 1 by omega) (show 0 ≤ 6 by omega) (hret _ _ (Option.some.inj h).symm _ _ _ _ d_B_needIndex_19 hI)
    · skip
      have h := gie c2 h
      exact hK9 w H locs ls h hI (lv_sub hl [] rfl)

abbrev b_Pc_checkIndex : ByteArray := prog_32_method_11_code
def y_Pc_checkIndex : MethodName := ⟨"jdk/internal/util/Preconditions", "checkIndex", "(IILjava/util/function/BiFunction;)I"⟩
theorem d_Pc_checkIndex_0 : decode b_Pc_checkIndex 0 = .ok (.iload_n 0, 1) := by decide +kernel
theorem d_Pc_checkIndex_1 : decode b_Pc_checkIndex 1 = .ok (.ifCond .lt 8, 3) := by decide +kernel
theorem d_Pc_checkIndex_4 : decode b_Pc_checkIndex 4 = .ok (.iload_n 0, 1) := by decide +kernel
theorem d_Pc_checkIndex_5 : decode b_Pc_checkIndex 5 = .ok (.iload_n 1, 1) := by decide +kernel
theorem d_Pc_checkIndex_6 : decode b_Pc_checkIndex 6 = .ok (.if_icmp .lt 10, 3) := by decide +kernel
theorem d_Pc_checkIndex_9 : decode b_Pc_checkIndex 9 = .ok (.aload_n 2, 1) := by decide +kernel
theorem d_Pc_checkIndex_10 : decode b_Pc_checkIndex 10 = .ok (.iload_n 0, 1) := by decide +kernel
theorem d_Pc_checkIndex_11 : decode b_Pc_checkIndex 11 = .ok (.iload_n 1, 1) := by decide +kernel
theorem d_Pc_checkIndex_12 : decode b_Pc_checkIndex 12 = .ok (.invokestatic 95, 3) := by decide +kernel
theorem d_Pc_checkIndex_16 : decode b_Pc_checkIndex 16 = .ok (.iload_n 0, 1) := by decide +kernel
theorem d_Pc_checkIndex_17 : decode b_Pc_checkIndex 17 = .ok (.ireturn, 1) := by decide +kernel
abbrev rm_Pc_checkIndex : Room := { frames := 0, cells := 0, slots := 0, locals := 0 }
theorem ce_Pc_checkIndex : gCe y_Pc_checkIndex (.code y_Pc_checkIndex b_Pc_checkIndex 3 (some .int)) 3 3 true := gCe.code wd_330 wd_66 wd_329 (by decide) (by decide +kernel)
def f_Pc_checkIndex (g0 : gG) (p0 : Int32) (p1 : Int32) (w : gW) : gX Int32 := gjoin (fun K9 => if p0 < 0 then (K9 w) else (if p0 < p1 then (some (.inr p0, w)) else (K9 w))) (fun (w : gW) => none)
set_option maxHeartbeats 4000000 in
set_option maxRecDepth 100000 in
theorem m_Pc_checkIndex (l : Launch) (hst : l.stackTraces = false) (D : gD) (g0 : gG) (p0 : Int32) (p1 : Int32) (w : gW) (r : (String ⊕ Int32) × gW) (h : f_Pc_checkIndex g0 p0 p1 w = some r) : gMet l y_Pc_checkIndex (.code y_Pc_checkIndex b_Pc_checkIndex 3 (some .int)) rm_Pc_checkIndex D g0 [.int p0, .int p1, .null] w (goI r) := by
  refine gw_ofI (by decide +kernel) (Nat.le_of_ble_eq_true rfl) ?_
  intro p e s m below meth c ls args A Q hx hb hml hown hlocks hin hnt hT hK hZ hA hret hexc hthr hI hl
  obtain ⟨H, hH⟩ : ∃ H, H = s.heap := ⟨_, rfl⟩
  rw [← hH] at hI ⊢
  obtain ⟨locs, hlocs⟩ : ∃ z : List Loc, z = [] := ⟨_, rfl⟩
  rw [← hlocs] at hI ⊢
  have hl : lv_has ls 3 [(0, .int p0), (1, .int p1), (2, .null)] := hl
  unfold f_Pc_checkIndex at h
  refine lv_iload_n hx hb d_Pc_checkIndex_0 rfl (lv_at hl 0 rfl) ?_
  obtain ⟨K9, eK9, h⟩ := gj h
  have hK9 : ∀ (w : gW) (H : Heap) (locs : List Loc) (ls : Array Slot), K9 w = some r → gI D s A w H locs → lv_has ls 3 [(0, .int p0), (1, .int p1), (2, .null)] → W p l e rm_Pc_checkIndex s m args below meth c H locs 0 0 Q (F0 m 9 ls []) := by
    intro w H locs ls h hI hl
    have h := gk1 eK9 h
    exact absurd h (by simp)
  refine lv_if_lt (tgt := 9) hx hb d_Pc_checkIndex_1 (by decide) (fun c1 => ?_) (fun c1 => ?_)
  · skip
    have h := git c1 h
    exact hK9 w H locs ls h hI (lv_sub hl [0, 1, 2] rfl)
  · skip
    have h := gie c1 h
    refine lv_iload_n hx hb d_Pc_checkIndex_4 rfl (lv_at hl 0 rfl) ?_
    refine lv_iload_n hx hb d_Pc_checkIndex_5 rfl (lv_at hl 1 rfl) ?_
    refine lv_icmp_lt (tgt := 16) hx hb d_Pc_checkIndex_6 (by decide) (fun c2 => ?_) (fun c2 => ?_)
    · skip
      have h := git c2 h
      refine lv_iload_n hx hb d_Pc_checkIndex_16 rfl (lv_at hl 0 rfl) ?_
      exact W.widen (show 0 ≤ 0 by omega) (show 0 ≤ 0 by omega) (hret _ _ (Option.some.inj h).symm _ _ _ _ d_Pc_checkIndex_17 hI)
    · skip
      have h := gie c2 h
      exact hK9 w H locs ls h hI (lv_sub hl [0, 1, 2] rfl)

abbrev b_Ob_checkIndex : ByteArray := prog_28_method_17_code
def y_Ob_checkIndex : MethodName := ⟨"java/util/Objects", "checkIndex", "(II)I"⟩
theorem d_Ob_checkIndex_0 : decode b_Ob_checkIndex 0 = .ok (.iload_n 0, 1) := by decide +kernel
theorem d_Ob_checkIndex_1 : decode b_Ob_checkIndex 1 = .ok (.iload_n 1, 1) := by decide +kernel
theorem d_Ob_checkIndex_2 : decode b_Ob_checkIndex 2 = .ok (.aconst_null, 1) := by decide +kernel
theorem d_Ob_checkIndex_3 : decode b_Ob_checkIndex 3 = .ok (.invokestatic 105, 3) := by decide +kernel
theorem d_Ob_checkIndex_6 : decode b_Ob_checkIndex 6 = .ok (.ireturn, 1) := by decide +kernel
abbrev rm_Ob_checkIndex : Room := { frames := 1, cells := 0, slots := 0, locals := 22 }
theorem ce_Ob_checkIndex : gCe y_Ob_checkIndex (.code y_Ob_checkIndex b_Ob_checkIndex 2 (some .int)) 2 2 true := gCe.code wd_327 wd_65 wd_326 (by decide) (by decide +kernel)
def f_Ob_checkIndex (g0 : gG) (p0 : Int32) (p1 : Int32) (w : gW) : gX Int32 := gbind (f_Pc_checkIndex g0 p0 p1 w) fun v3 w => some (.inr v3, w)
set_option maxHeartbeats 4000000 in
set_option maxRecDepth 100000 in
theorem m_Ob_checkIndex (l : Launch) (hst : l.stackTraces = false) (D : gD) (g0 : gG) (p0 : Int32) (p1 : Int32) (w : gW) (r : (String ⊕ Int32) × gW) (h : f_Ob_checkIndex g0 p0 p1 w = some r) : gMet l y_Ob_checkIndex (.code y_Ob_checkIndex b_Ob_checkIndex 2 (some .int)) rm_Ob_checkIndex D g0 [.int p0, .int p1] w (goI r) := by
  refine gw_ofI (by decide +kernel) (Nat.le_of_ble_eq_true rfl) ?_
  intro p e s m below meth c ls args A Q hx hb hml hown hlocks hin hnt hT hK hZ hA hret hexc hthr hI hl
  obtain ⟨H, hH⟩ : ∃ H, H = s.heap := ⟨_, rfl⟩
  rw [← hH] at hI ⊢
  obtain ⟨locs, hlocs⟩ : ∃ z : List Loc, z = [] := ⟨_, rfl⟩
  rw [← hlocs] at hI ⊢
  have hl : lv_has ls 2 [(0, .int p0), (1, .int p1)] := hl
  unfold f_Ob_checkIndex at h
  refine lv_iload_n hx hb d_Ob_checkIndex_0 rfl (lv_at hl 0 rfl) ?_
  refine lv_iload_n hx hb d_Ob_checkIndex_1 rfl (lv_at hl 1 rfl) ?_
  refine lv_null hx hb d_Ob_checkIndex_2 ?_
  obtain ⟨u1, e2⟩ := gsome h
  refine gw_callI e2 h (gw_runS (As := [.int p0, .int p1, .null]) (rest := []) hx hb hml hown hT hK hZ hA hI (m_Pc_checkIndex l hst D g0 p0 p1 w u1 e2) ce_Pc_checkIndex wd_328 ⟨by decide, by decide⟩ rfl rfl hl.1 rfl (lv_room (Nat.le_of_ble_eq_true rfl)) d_Ob_checkIndex_3 ⟨(show 0 + 0 ≤ 0 by omega), (show 0 + 0 ≤ 0 by omega)⟩) hI hA hexc (show 0 + 0 ≤ 0 by omega) (show 0 + 0 ≤ 0 by omega) (fun v3 w H locs h hI => ?_)
  exact W.widen (show 0 ≤ 0 by omega) (show 0 ≤ 0 by omega) (hret _ _ (Option.some.inj h).symm _ _ _ _ d_Ob_checkIndex_6 hI)

abbrev b_AL_elementData : ByteArray := prog_24_method_18_code
def y_AL_elementData : MethodName := ⟨"java/util/ArrayList", "elementData", "(I)Ljava/lang/Object;"⟩
theorem d_AL_elementData_0 : decode b_AL_elementData 0 = .ok (.aload_n 0, 1) := by decide +kernel
theorem d_AL_elementData_1 : decode b_AL_elementData 1 = .ok (.getfield 9, 3) := by decide +kernel
theorem d_AL_elementData_4 : decode b_AL_elementData 4 = .ok (.iload_n 1, 1) := by decide +kernel
theorem d_AL_elementData_5 : decode b_AL_elementData 5 = .ok (.aaload, 1) := by decide +kernel
theorem d_AL_elementData_6 : decode b_AL_elementData 6 = .ok (.areturn, 1) := by decide +kernel
abbrev rm_AL_elementData : Room := { frames := 0, cells := 0, slots := 0, locals := 0 }
theorem ce_AL_elementData : gCe y_AL_elementData (.code y_AL_elementData b_AL_elementData 2 (some (.object "java/lang/Object"))) 2 1 false := gCe.code wd_334 wd_53 wd_332 (by decide) (by decide +kernel)
def f_AL_elementData (g0 : gG) (a0 : Nat) (p1 : Int32) (w : gW) : gX Nat := (gfA w a0 1 0).bind fun v1 => (gaA w v1 p1).bind fun v3 => some (.inr v3, w)
set_option maxHeartbeats 4000000 in
set_option maxRecDepth 100000 in
theorem m_AL_elementData (l : Launch) (hst : l.stackTraces = false) (D : gD) (g0 : gG) (a0 : Nat) (p1 : Int32) (w : gW) (r : (String ⊕ Nat) × gW) (h : f_AL_elementData g0 a0 p1 w = some r) : gMet l y_AL_elementData (.code y_AL_elementData b_AL_elementData 2 (some (.object "java/lang/Object"))) rm_AL_elementData D g0 [.ref a0, .int p1] w (goA r) := by
  refine gw_ofA (by decide +kernel) (Nat.le_of_ble_eq_true rfl) (Or.inl ⟨_, rfl⟩) ?_
  intro p e s m below meth c ls args A Q hx hb hml hown hlocks hin hnt hT hK hZ hA hret hexc hthr hI hl
  obtain ⟨H, hH⟩ : ∃ H, H = s.heap := ⟨_, rfl⟩
  rw [← hH] at hI ⊢
  obtain ⟨locs, hlocs⟩ : ∃ z : List Loc, z = [] := ⟨_, rfl⟩
  rw [← hlocs] at hI ⊢
  have hl : lv_has ls 2 [(0, .ref a0), (1, .int p1)] := hl
  unfold f_AL_elementData at h
  refine lv_aload_n hx hb d_AL_elementData_0 rfl (lv_at hl 0 rfl) ?_
  obtain ⟨v1, e2, h⟩ := gb h
  refine gw_getA hx hb hT hown hK hI (ci := 1) rfl i_1 0 (by decide) wd_101 (fun _ h9 => h9) e2 d_AL_elementData_1 ?_
  refine lv_iload_n hx hb d_AL_elementData_4 rfl (lv_at hl 1 rfl) ?_
  obtain ⟨v3, e4, h⟩ := gb h
  refine gw_aldA hx hb hK hI e4 d_AL_elementData_5 ?_
  exact W.widen (show 0 ≤ 0 by omega) (show 0 ≤ 0 by omega) (hret _ _ (Option.some.inj h).symm _ _ _ _ d_AL_elementData_6 hI)

abbrev b_AL_get : ByteArray := prog_24_method_20_code
def y_AL_get : MethodName := ⟨"java/util/ArrayList", "get", "(I)Ljava/lang/Object;"⟩
theorem d_AL_get_0 : decode b_AL_get 0 = .ok (.iload_n 1, 1) := by decide +kernel
theorem d_AL_get_1 : decode b_AL_get 1 = .ok (.aload_n 0, 1) := by decide +kernel
theorem d_AL_get_2 : decode b_AL_get 2 = .ok (.getfield 48, 3) := by decide +kernel
theorem d_AL_get_5 : decode b_AL_get 5 = .ok (.invokestatic 118, 3) := by decide +kernel
theorem d_AL_get_8 : decode b_AL_get 8 = .ok (.pop, 1) := by decide +kernel
theorem d_AL_get_9 : decode b_AL_get 9 = .ok (.aload_n 0, 1) := by decide +kernel
theorem d_AL_get_10 : decode b_AL_get 10 = .ok (.iload_n 1, 1) := by decide +kernel
theorem d_AL_get_11 : decode b_AL_get 11 = .ok (.invokevirtual 123, 3) := by decide +kernel
theorem d_AL_get_14 : decode b_AL_get 14 = .ok (.areturn, 1) := by decide +kernel
abbrev rm_AL_get : Room := { frames := 2, cells := 0, slots := 0, locals := 43 }
theorem ce_AL_get : gCe y_AL_get (.code y_AL_get b_AL_get 2 (some (.object "java/lang/Object"))) 2 1 false := gCe.code wd_324 wd_53 wd_322 (by decide) (by decide +kernel)
def f_AL_get (g0 : gG) (a0 : Nat) (p1 : Int32) (w : gW) : gX Nat := (gfI w a0 1 1).bind fun v1 => gbind (f_Ob_checkIndex g0 p1 v1 w) fun v5 w => (gck w a0 1).bind fun _ => gbind (f_AL_elementData g0 a0 p1 w) fun v10 w => some (.inr v10, w)
set_option maxHeartbeats 4000000 in
set_option maxRecDepth 100000 in
theorem m_AL_get (l : Launch) (hst : l.stackTraces = false) (D : gD) (g0 : gG) (a0 : Nat) (p1 : Int32) (w : gW) (r : (String ⊕ Nat) × gW) (h : f_AL_get g0 a0 p1 w = some r) : gMet l y_AL_get (.code y_AL_get b_AL_get 2 (some (.object "java/lang/Object"))) rm_AL_get D g0 [.ref a0, .int p1] w (goA r) := by
  refine gw_ofA (by decide +kernel) (Nat.le_of_ble_eq_true rfl) (Or.inl ⟨_, rfl⟩) ?_
  intro p e s m below meth c ls args A Q hx hb hml hown hlocks hin hnt hT hK hZ hA hret hexc hthr hI hl
  obtain ⟨H, hH⟩ : ∃ H, H = s.heap := ⟨_, rfl⟩
  rw [← hH] at hI ⊢
  obtain ⟨locs, hlocs⟩ : ∃ z : List Loc, z = [] := ⟨_, rfl⟩
  rw [← hlocs] at hI ⊢
  have hl : lv_has ls 2 [(0, .ref a0), (1, .int p1)] := hl
  unfold f_AL_get at h
  refine lv_iload_n hx hb d_AL_get_0 rfl (lv_at hl 1 rfl) ?_
  refine lv_aload_n hx hb d_AL_get_1 rfl (lv_at hl 0 rfl) ?_
  obtain ⟨v1, e2, h⟩ := gb h
  refine gw_getI hx hb hT hown hK hI (ci := 1) rfl i_1 1 (by decide) wd_102 (fun _ h9 => h9) e2 d_AL_get_2 ?_
  obtain ⟨u3, e4⟩ := gsome h
  refine gw_callI e4 h (gw_runS (As := [.int p1, .int v1]) (rest := []) hx hb hml hown hT hK hZ hA hI (m_Ob_checkIndex l hst D g0 p1 v1 w u3 e4) ce_Ob_checkIndex wd_325 ⟨by decide, by decide⟩ rfl rfl hl.1 rfl (lv_room (Nat.le_of_ble_eq_true rfl)) d_AL_get_5 ⟨(show 0 + 0 ≤ 0 by omega), (show 0 + 0 ≤ 0 by omega)⟩) hI hA hexc (show 0 + 0 ≤ 0 by omega) (show 0 + 0 ≤ 0 by omega) (fun v5 w H locs h hI => ?_)
  refine lv_pop hx hb d_AL_get_8 rfl ?_
  refine lv_aload_n hx hb d_AL_get_9 rfl (lv_at hl 0 rfl) ?_
  refine lv_iload_n hx hb d_AL_get_10 rfl (lv_at hl 1 rfl) ?_
  obtain ⟨q8, e9, h⟩ := gb h
  obtain ⟨u6, e7⟩ := gsome h
  refine gw_callA e7 h (gw_runV (As := [.int p1]) (rest := []) hx hb hml hown hT hK hZ hA hI (ci := 1) rfl e9 (m_AL_elementData l hst D g0 a0 p1 w u6 e7) ce_AL_elementData wd_331 wd_333 ⟨by decide, by decide⟩ rfl rfl hl.1 rfl (lv_room (Nat.le_of_ble_eq_true rfl)) d_AL_get_11 ⟨(show 0 + 0 ≤ 0 by omega), (show 0 + 0 ≤ 0 by omega)⟩) hI hA hexc (show 0 + 0 ≤ 0 by omega) (show 0 + 0 ≤ 0 by omega) (fun v10 w H locs h hI => ?_)
  exact W.widen (show 0 ≤ 0 by omega) (show 0 ≤ 0 by omega) (hret _ _ (Option.some.inj h).symm _ _ _ _ d_AL_get_14 hI)

abbrev b_B_bodyAt : ByteArray := prog_1_method_25_code
def y_B_bodyAt : MethodName := ⟨"BodySolids", "bodyAt", "(I)LBodySolids$Body;"⟩
theorem d_B_bodyAt_0 : decode b_B_bodyAt 0 = .ok (.iload_n 1, 1) := by decide +kernel
theorem d_B_bodyAt_1 : decode b_B_bodyAt 1 = .ok (.aload_n 0, 1) := by decide +kernel
theorem d_B_bodyAt_2 : decode b_B_bodyAt 2 = .ok (.getfield 27, 3) := by decide +kernel
theorem d_B_bodyAt_5 : decode b_B_bodyAt 5 = .ok (.invokevirtual 68, 3) := by decide +kernel
theorem d_B_bodyAt_8 : decode b_B_bodyAt 8 = .ok (.invokestatic 190, 3) := by decide +kernel
theorem d_B_bodyAt_11 : decode b_B_bodyAt 11 = .ok (.aload_n 0, 1) := by decide +kernel
theorem d_B_bodyAt_12 : decode b_B_bodyAt 12 = .ok (.getfield 27, 3) := by decide +kernel
theorem d_B_bodyAt_15 : decode b_B_bodyAt 15 = .ok (.iload_n 1, 1) := by decide +kernel
theorem d_B_bodyAt_16 : decode b_B_bodyAt 16 = .ok (.invokevirtual 205, 3) := by decide +kernel
theorem d_B_bodyAt_19 : decode b_B_bodyAt 19 = .ok (.checkcast 72, 3) := by decide +kernel
theorem d_B_bodyAt_22 : decode b_B_bodyAt 22 = .ok (.areturn, 1) := by decide +kernel
abbrev rm_B_bodyAt : Room := { frames := 8, cells := 1, slots := 6, locals := 111 }
theorem ce_B_bodyAt : gCe y_B_bodyAt (.code y_B_bodyAt b_B_bodyAt 2 (some (.object "BodySolids$Body"))) 2 1 false := gCe.code wd_439 wd_49 wd_438 (by decide) (by decide +kernel)
def f_B_bodyAt (g0 : gG) (a0 : Nat) (p1 : Int32) (w : gW) : gX Nat := (gfA w a0 0 1).bind fun v1 => (gck w v1 1).bind fun _ => gbind (f_AL_size g0 v1 w) fun v7 w => gbind (f_B_needIndex g0 p1 v7 w) fun v10 w => (gfA w a0 0 1).bind fun v11 => (gck w v11 1).bind fun _ => gbind (f_AL_get g0 v11 p1 w) fun v17 w => (gck w v17 4).bind fun _ => some (.inr v17, w)
set_option maxHeartbeats 4000000 in
set_option maxRecDepth 100000 in
theorem m_B_bodyAt (l : Launch) (hst : l.stackTraces = false) (D : gD) (g0 : gG) (a0 : Nat) (p1 : Int32) (w : gW) (r : (String ⊕ Nat) × gW) (h : f_B_bodyAt g0 a0 p1 w = some r) : gMet l y_B_bodyAt (.code y_B_bodyAt b_B_bodyAt 2 (some (.object "BodySolids$Body"))) rm_B_bodyAt D g0 [.ref a0, .int p1] w (goA r) := by
  refine gw_ofA (by decide +kernel) (Nat.le_of_ble_eq_true rfl) (Or.inl ⟨_, rfl⟩) ?_
  intro p e s m below meth c ls args A Q hx hb hml hown hlocks hin hnt hT hK hZ hA hret hexc hthr hI hl
  obtain ⟨H, hH⟩ : ∃ H, H = s.heap := ⟨_, rfl⟩
  rw [← hH] at hI ⊢
  obtain ⟨locs, hlocs⟩ : ∃ z : List Loc, z = [] := ⟨_, rfl⟩
  rw [← hlocs] at hI ⊢
  have hl : lv_has ls 2 [(0, .ref a0), (1, .int p1)] := hl
  unfold f_B_bodyAt at h
  refine lv_iload_n hx hb d_B_bodyAt_0 rfl (lv_at hl 1 rfl) ?_
  refine lv_aload_n hx hb d_B_bodyAt_1 rfl (lv_at hl 0 rfl) ?_
  obtain ⟨v1, e2, h⟩ := gb h
  refine gw_getA hx hb hT hown hK hI (ci := 0) rfl i_0 1 (by decide) wd_190 (fun _ h9 => h9) e2 d_B_bodyAt_2 ?_
  obtain ⟨q5, e6, h⟩ := gb h
  obtain ⟨u3, e4⟩ := gsome h
  refine gw_callI e4 h (gw_runV (As := []) (rest := [.int p1]) hx hb hml hown hT hK hZ hA hI (ci := 1) rfl e6 (m_AL_size l hst D g0 v1 w u3 e4) ce_AL_size wd_224 wd_226 ⟨by decide, by decide⟩ rfl rfl hl.1 rfl (lv_room (Nat.le_of_ble_eq_true rfl)) d_B_bodyAt_5 ⟨(show 0 + 0 ≤ 1 by omega), (show 0 + 0 ≤ 6 by omega)⟩) hI hA hexc (show 0 + 0 ≤ 1 by omega) (show 0 + 0 ≤ 6 by omega) (fun v7 w H locs h hI => ?_)
  obtain ⟨u8, e9⟩ := gsome h
  refine gw_callV e9 h (gw_runS (As := [.int p1, .int v7]) (rest := []) hx hb hml hown hT hK hZ hA hI (m_B_needIndex l hst D g0 p1 v7 w u8 e9) ce_B_needIndex wd_440 ⟨by decide, by decide⟩ rfl rfl hl.1 rfl (lv_room (Nat.le_of_ble_eq_true rfl)) d_B_bodyAt_8 ⟨(show 0 + 1 ≤ 1 by omega), (show 0 + 6 ≤ 6 by omega)⟩) hI hA hexc (show 0 + 1 ≤ 1 by omega) (show 0 + 6 ≤ 6 by omega) (fun v10 w H locs h hI => ?_)
  refine W.widen (k := 1) (n := 6) (show 0 + 1 ≤ 1 by omega) (show 0 + 6 ≤ 6 by omega) ?_
  refine lv_aload_n hx hb d_B_bodyAt_11 rfl (lv_at hl 0 rfl) ?_
  obtain ⟨v11, e12, h⟩ := gb h
  refine gw_getA hx hb hT hown hK hI (ci := 0) rfl i_0 1 (by decide) wd_190 (fun _ h9 => h9) e12 d_B_bodyAt_12 ?_
  refine lv_iload_n hx hb d_B_bodyAt_15 rfl (lv_at hl 1 rfl) ?_
  obtain ⟨q15, e16, h⟩ := gb h
  obtain ⟨u13, e14⟩ := gsome h
  refine gw_callA e14 h (gw_runV (As := [.int p1]) (rest := []) hx hb hml hown hT hK hZ hA hI (ci := 1) rfl e16 (m_AL_get l hst D g0 v11 p1 w u13 e14) ce_AL_get wd_321 wd_323 ⟨by decide, by decide⟩ rfl rfl hl.1 rfl (lv_room (Nat.le_of_ble_eq_true rfl)) d_B_bodyAt_16 ⟨(show 1 + 0 ≤ 1 by omega), (show 6 + 0 ≤ 6 by omega)⟩) hI hA hexc (show 1 + 0 ≤ 1 by omega) (show 6 + 0 ≤ 6 by omega) (fun v17 w H locs h hI => ?_)
  obtain ⟨q19, e18, h⟩ := gb h
  refine gw_cast hx hb hT hown hK hI wd_228 (ci := 4) rfl wd_1126 e18 d_B_bodyAt_19 ?_
  exact W.widen (show 1 ≤ 1 by omega) (show 6 ≤ 6 by omega) (hret _ _ (Option.some.inj h).symm _ _ _ _ d_B_bodyAt_22 hI)

abbrev b_B_needWithin : ByteArray := prog_1_method_20_code
def y_B_needWithin : MethodName := ⟨"BodySolids", "needWithin", "(JJJ)V"⟩
theorem d_B_needWithin_0 : decode b_B_needWithin 0 = .ok (.lload_n 0, 1) := by decide +kernel
theorem d_B_needWithin_1 : decode b_B_needWithin 1 = .ok (.lload_n 2, 1) := by decide +kernel
theorem d_B_needWithin_2 : decode b_B_needWithin 2 = .ok (.lcmp, 1) := by decide +kernel
theorem d_B_needWithin_3 : decode b_B_needWithin 3 = .ok (.ifCond .lt 10, 3) := by decide +kernel
theorem d_B_needWithin_6 : decode b_B_needWithin 6 = .ok (.lload_n 0, 1) := by decide +kernel
theorem d_B_needWithin_7 : decode b_B_needWithin 7 = .ok (.lload 4, 2) := by decide +kernel
theorem d_B_needWithin_9 : decode b_B_needWithin 9 = .ok (.lcmp, 1) := by decide +kernel
theorem d_B_needWithin_10 : decode b_B_needWithin 10 = .ok (.ifCond .le 13, 3) := by decide +kernel
theorem d_B_needWithin_13 : decode b_B_needWithin 13 = .ok (.new 252, 3) := by decide +kernel
theorem d_B_needWithin_16 : decode b_B_needWithin 16 = .ok (.dup, 1) := by decide +kernel
theorem d_B_needWithin_17 : decode b_B_needWithin 17 = .ok (.ldc 254, 2) := by decide +kernel
theorem d_B_needWithin_19 : decode b_B_needWithin 19 = .ok (.invokespecial 256, 3) := by decide +kernel
theorem d_B_needWithin_22 : decode b_B_needWithin 22 = .ok (.athrow, 1) := by decide +kernel
theorem d_B_needWithin_23 : decode b_B_needWithin 23 = .ok (.return_, 1) := by decide +kernel
abbrev rm_B_needWithin : Room := { frames := 7, cells := 1, slots := 6, locals := 90 }
theorem ce_B_needWithin : gCe y_B_needWithin (.code y_B_needWithin b_B_needWithin 6 none) 6 3 true := gCe.code wd_518 wd_49 wd_517 (by decide) (by decide +kernel)
def f_B_needWithin (g0 : gG) (p0 : Int64) (p1 : Int64) (p2 : Int64) (w : gW) : gX Unit := gjoin (fun K13 => if p0 < p1 then (K13 w) else (if p0 ≤ p2 then (some (.inr (), w)) else (K13 w))) (fun (w : gW) => gthrow "java/lang/IllegalArgumentException" w)
set_option maxHeartbeats 4000000 in
set_option maxRecDepth 100000 in
theorem m_B_needWithin (l : Launch) (hst : l.stackTraces = false) (D : gD) (g0 : gG) (p0 : Int64) (p1 : Int64) (p2 : Int64) (w : gW) (r : (String ⊕ Unit) × gW) (h : f_B_needWithin g0 p0 p1 p2 w = some r) : gMet l y_B_needWithin (.code y_B_needWithin b_B_needWithin 6 none) rm_B_needWithin D g0 [.long p0, .long p1, .long p2] w (goV r) := by
  refine gw_ofV (by decide +kernel) (Nat.le_of_ble_eq_true rfl) ?_
  intro p e s m below meth c ls args A Q hx hb hml hown hlocks hin hnt hT hK hZ hA hret hexc hthr hI hl
  obtain ⟨H, hH⟩ : ∃ H, H = s.heap := ⟨_, rfl⟩
  rw [← hH] at hI ⊢
  obtain ⟨locs, hlocs⟩ : ∃ z : List Loc, z = [] := ⟨_, rfl⟩
  rw [← hlocs] at hI ⊢
  have hl : lv_has ls 6 [(0, .long p0), (2, .long p1), (4, .long p2)] := hl
  unfold f_B_needWithin at h
  refine lv_lload_n hx hb d_B_needWithin_0 rfl (lv_at hl 0 rfl) ?_
  refine lv_lload_n hx hb d_B_needWithin_1 rfl (lv_at hl 1 rfl) ?_
  refine W.lcmp hx hb d_B_needWithin_2 ?_
  obtain ⟨K13, eK13, h⟩ := gj h
  have hK13 : ∀ (w : gW) (H : Heap) (locs : List Loc) (ls : Array Slot), K13 w = some r → gI D s A w H locs → lv_has ls 6 [] → W p l e rm_B_needWithin s m args below meth c H locs 0 0 Q (F0 m 13 ls []) := by
    intro w H locs ls h hI hl
    have h := gk1 eK13 h
    exact gw_throwS (names := ["java/lang/RuntimeException", "java/lang/Exception"]) (text := "a value is out of its range") hx hb hst hown hT hZ hI hl.1 hml hnt hlocks (by decide +kernel) (by decide +kernel) wd_519 wd_67 (by decide) at_IAE d_B_needWithin_13 d_B_needWithin_16 d_B_needWithin_17 d_B_needWithin_19 d_B_needWithin_22 (by decide) (Nat.le_of_ble_eq_true rfl) (show 0 + 1 ≤ 1 by omega) (show 0 + 6 ≤ 6 by omega) hthr h
  refine lv_if_lt (tgt := 13) hx hb d_B_needWithin_3 (by decide) (fun c1 => ?_) (fun c1 => ?_)
  · have c1 := (lg_cmp_lt _ _).mp c1
    have h := git c1 h
    exact hK13 w H locs ls h hI (lv_sub hl [] rfl)
  · have c1 := mt (lg_cmp_lt _ _).mpr c1
    have h := gie c1 h
    refine lv_lload_n hx hb d_B_needWithin_6 rfl (lv_at hl 0 rfl) ?_
    refine lv_lload hx hb d_B_needWithin_7 (lv_at hl 2 rfl) ?_
    refine W.lcmp hx hb d_B_needWithin_9 ?_
    refine lv_if_le (tgt := 23) hx hb d_B_needWithin_10 (by decide) (fun c2 => ?_) (fun c2 => ?_)
    · have c2 := (lg_cmp_le _ _).mp c2
      have h := git c2 h
      exact W.widen (show 0 ≤ 1 by omega) (show 0 ≤ 6 by omega) (hret _ _ (Option.some.inj h).symm _ _ _ _ d_B_needWithin_23 hI)
    · have c2 := mt (lg_cmp_le _ _).mpr c2
      have h := gie c2 h
      exact hK13 w H locs ls h hI (lv_sub hl [] rfl)

abbrev b_B_needPlace : ByteArray := prog_1_method_21_code
def y_B_needPlace : MethodName := ⟨"BodySolids", "needPlace", "(JJ)V"⟩
theorem d_B_needPlace_0 : decode b_B_needPlace 0 = .ok (.lload_n 0, 1) := by decide +kernel
theorem d_B_needPlace_1 : decode b_B_needPlace 1 = .ok (.ldc2_w 257, 3) := by decide +kernel
theorem d_B_needPlace_4 : decode b_B_needPlace 4 = .ok (.ldc2_w 148, 3) := by decide +kernel
theorem d_B_needPlace_7 : decode b_B_needPlace 7 = .ok (.invokestatic 138, 3) := by decide +kernel
theorem d_B_needPlace_10 : decode b_B_needPlace 10 = .ok (.lload_n 2, 1) := by decide +kernel
theorem d_B_needPlace_11 : decode b_B_needPlace 11 = .ok (.ldc2_w 257, 3) := by decide +kernel
theorem d_B_needPlace_14 : decode b_B_needPlace 14 = .ok (.ldc2_w 148, 3) := by decide +kernel
theorem d_B_needPlace_17 : decode b_B_needPlace 17 = .ok (.invokestatic 138, 3) := by decide +kernel
theorem d_B_needPlace_20 : decode b_B_needPlace 20 = .ok (.return_, 1) := by decide +kernel
abbrev rm_B_needPlace : Room := { frames := 8, cells := 2, slots := 12, locals := 115 }
theorem ce_B_needPlace : gCe y_B_needPlace (.code y_B_needPlace b_B_needPlace 4 none) 4 2 true := gCe.code wd_513 wd_49 wd_512 (by decide) (by decide +kernel)
def f_B_needPlace (g0 : gG) (p0 : Int64) (p1 : Int64) (w : gW) : gX Unit := gbind (f_B_needWithin g0 p0 (-5000) 5000 w) fun v3 w => gbind (f_B_needWithin g0 p1 (-5000) 5000 w) fun v6 w => some (.inr (), w)
set_option maxHeartbeats 4000000 in
set_option maxRecDepth 100000 in
theorem m_B_needPlace (l : Launch) (hst : l.stackTraces = false) (D : gD) (g0 : gG) (p0 : Int64) (p1 : Int64) (w : gW) (r : (String ⊕ Unit) × gW) (h : f_B_needPlace g0 p0 p1 w = some r) : gMet l y_B_needPlace (.code y_B_needPlace b_B_needPlace 4 none) rm_B_needPlace D g0 [.long p0, .long p1] w (goV r) := by
  refine gw_ofV (by decide +kernel) (Nat.le_of_ble_eq_true rfl) ?_
  intro p e s m below meth c ls args A Q hx hb hml hown hlocks hin hnt hT hK hZ hA hret hexc hthr hI hl
  obtain ⟨H, hH⟩ : ∃ H, H = s.heap := ⟨_, rfl⟩
  rw [← hH] at hI ⊢
  obtain ⟨locs, hlocs⟩ : ∃ z : List Loc, z = [] := ⟨_, rfl⟩
  rw [← hlocs] at hI ⊢
  have hl : lv_has ls 4 [(0, .long p0), (2, .long p1)] := hl
  unfold f_B_needPlace at h
  refine lv_lload_n hx hb d_B_needPlace_0 rfl (lv_at hl 0 rfl) ?_
  refine lv_ldc2 (v := (-5000)) hx hb hown (hT _ wd_514 args) d_B_needPlace_1 ?_
  refine lv_ldc2 (v := 5000) hx hb hown (hT _ wd_515 args) d_B_needPlace_4 ?_
  obtain ⟨u1, e2⟩ := gsome h
  refine gw_callV e2 h (gw_runS (As := [.long p0, .long (-5000), .long 5000]) (rest := []) hx hb hml hown hT hK hZ hA hI (m_B_needWithin l hst D g0 p0 (-5000) 5000 w u1 e2) ce_B_needWithin wd_516 ⟨by decide, by decide⟩ rfl rfl hl.1 rfl (lv_room (Nat.le_of_ble_eq_true rfl)) d_B_needPlace_7 ⟨(show 0 + 1 ≤ 2 by omega), (show 0 + 6 ≤ 12 by omega)⟩) hI hA hexc (show 0 + 1 ≤ 2 by omega) (show 0 + 6 ≤ 12 by omega) (fun v3 w H locs h hI => ?_)
  refine W.widen (k := 1) (n := 6) (show 0 + 1 ≤ 1 by omega) (show 0 + 6 ≤ 6 by omega) ?_
  refine lv_lload_n hx hb d_B_needPlace_10 rfl (lv_at hl 1 rfl) ?_
  refine lv_ldc2 (v := (-5000)) hx hb hown (hT _ wd_514 args) d_B_needPlace_11 ?_
  refine lv_ldc2 (v := 5000) hx hb hown (hT _ wd_515 args) d_B_needPlace_14 ?_
  obtain ⟨u4, e5⟩ := gsome h
  refine gw_callV e5 h (gw_runS (As := [.long p1, .long (-5000), .long 5000]) (rest := []) hx hb hml hown hT hK hZ hA hI (m_B_needWithin l hst D g0 p1 (-5000) 5000 w u4 e5) ce_B_needWithin wd_516 ⟨by decide, by decide⟩ rfl rfl hl.1 rfl (lv_room (Nat.le_of_ble_eq_true rfl)) d_B_needPlace_17 ⟨(show 1 + 1 ≤ 2 by omega), (show 6 + 6 ≤ 12 by omega)⟩) hI hA hexc (show 1 + 1 ≤ 2 by omega) (show 6 + 6 ≤ 12 by omega) (fun v6 w H locs h hI => ?_)
  refine W.widen (k := 2) (n := 12) (show 1 + 1 ≤ 2 by omega) (show 6 + 6 ≤ 12 by omega) ?_
  exact W.widen (show 2 ≤ 2 by omega) (show 12 ≤ 12 by omega) (hret _ _ (Option.some.inj h).symm _ _ _ _ d_B_needPlace_20 hI)

abbrev b_B_needSize : ByteArray := prog_1_method_22_code
def y_B_needSize : MethodName := ⟨"BodySolids", "needSize", "(J)V"⟩
theorem d_B_needSize_0 : decode b_B_needSize 0 = .ok (.lload_n 0, 1) := by decide +kernel
theorem d_B_needSize_1 : decode b_B_needSize 1 = .ok (.lconst 1, 1) := by decide +kernel
theorem d_B_needSize_2 : decode b_B_needSize 2 = .ok (.ldc2_w 148, 3) := by decide +kernel
theorem d_B_needSize_5 : decode b_B_needSize 5 = .ok (.invokestatic 138, 3) := by decide +kernel
theorem d_B_needSize_8 : decode b_B_needSize 8 = .ok (.return_, 1) := by decide +kernel
abbrev rm_B_needSize : Room := { frames := 8, cells := 1, slots := 6, locals := 115 }
theorem ce_B_needSize : gCe y_B_needSize (.code y_B_needSize b_B_needSize 2 none) 2 1 true := gCe.code wd_537 wd_49 wd_536 (by decide) (by decide +kernel)
def f_B_needSize (g0 : gG) (p0 : Int64) (w : gW) : gX Unit := gbind (f_B_needWithin g0 p0 1 5000 w) fun v3 w => some (.inr (), w)
set_option maxHeartbeats 4000000 in
set_option maxRecDepth 100000 in
theorem m_B_needSize (l : Launch) (hst : l.stackTraces = false) (D : gD) (g0 : gG) (p0 : Int64) (w : gW) (r : (String ⊕ Unit) × gW) (h : f_B_needSize g0 p0 w = some r) : gMet l y_B_needSize (.code y_B_needSize b_B_needSize 2 none) rm_B_needSize D g0 [.long p0] w (goV r) := by
  refine gw_ofV (by decide +kernel) (Nat.le_of_ble_eq_true rfl) ?_
  intro p e s m below meth c ls args A Q hx hb hml hown hlocks hin hnt hT hK hZ hA hret hexc hthr hI hl
  obtain ⟨H, hH⟩ : ∃ H, H = s.heap := ⟨_, rfl⟩
  rw [← hH] at hI ⊢
  obtain ⟨locs, hlocs⟩ : ∃ z : List Loc, z = [] := ⟨_, rfl⟩
  rw [← hlocs] at hI ⊢
  have hl : lv_has ls 2 [(0, .long p0)] := hl
  unfold f_B_needSize at h
  refine lv_lload_n hx hb d_B_needSize_0 rfl (lv_at hl 0 rfl) ?_
  refine lv_lconst (v := 1) hx hb d_B_needSize_1 (by decide) ?_
  refine lv_ldc2 (v := 5000) hx hb hown (hT _ wd_515 args) d_B_needSize_2 ?_
  obtain ⟨u1, e2⟩ := gsome h
  refine gw_callV e2 h (gw_runS (As := [.long p0, .long 1, .long 5000]) (rest := []) hx hb hml hown hT hK hZ hA hI (m_B_needWithin l hst D g0 p0 1 5000 w u1 e2) ce_B_needWithin wd_516 ⟨by decide, by decide⟩ rfl rfl hl.1 rfl (lv_room (Nat.le_of_ble_eq_true rfl)) d_B_needSize_5 ⟨(show 0 + 1 ≤ 1 by omega), (show 0 + 6 ≤ 6 by omega)⟩) hI hA hexc (show 0 + 1 ≤ 1 by omega) (show 0 + 6 ≤ 6 by omega) (fun v3 w H locs h hI => ?_)
  refine W.widen (k := 1) (n := 6) (show 0 + 1 ≤ 1 by omega) (show 0 + 6 ≤ 6 by omega) ?_
  exact W.widen (show 1 ≤ 1 by omega) (show 6 ≤ 6 by omega) (hret _ _ (Option.some.inj h).symm _ _ _ _ d_B_needSize_8 hI)

abbrev b_B_needUpright : ByteArray := prog_1_method_23_code
def y_B_needUpright : MethodName := ⟨"BodySolids", "needUpright", "(JJ)V"⟩
theorem d_B_needUpright_0 : decode b_B_needUpright 0 = .ok (.lload_n 0, 1) := by decide +kernel
theorem d_B_needUpright_1 : decode b_B_needUpright 1 = .ok (.lconst 0, 1) := by decide +kernel
theorem d_B_needUpright_2 : decode b_B_needUpright 2 = .ok (.ldc2_w 148, 3) := by decide +kernel
theorem d_B_needUpright_5 : decode b_B_needUpright 5 = .ok (.invokestatic 138, 3) := by decide +kernel
theorem d_B_needUpright_8 : decode b_B_needUpright 8 = .ok (.lload_n 2, 1) := by decide +kernel
theorem d_B_needUpright_9 : decode b_B_needUpright 9 = .ok (.invokestatic 87, 3) := by decide +kernel
theorem d_B_needUpright_12 : decode b_B_needUpright 12 = .ok (.lload_n 0, 1) := by decide +kernel
theorem d_B_needUpright_13 : decode b_B_needUpright 13 = .ok (.lload_n 2, 1) := by decide +kernel
theorem d_B_needUpright_14 : decode b_B_needUpright 14 = .ok (.ladd, 1) := by decide +kernel
theorem d_B_needUpright_15 : decode b_B_needUpright 15 = .ok (.lconst 0, 1) := by decide +kernel
theorem d_B_needUpright_16 : decode b_B_needUpright 16 = .ok (.ldc2_w 148, 3) := by decide +kernel
theorem d_B_needUpright_19 : decode b_B_needUpright 19 = .ok (.invokestatic 138, 3) := by decide +kernel
theorem d_B_needUpright_22 : decode b_B_needUpright 22 = .ok (.return_, 1) := by decide +kernel
abbrev rm_B_needUpright : Room := { frames := 9, cells := 3, slots := 18, locals := 136 }
theorem ce_B_needUpright : gCe y_B_needUpright (.code y_B_needUpright b_B_needUpright 4 none) 4 2 true := gCe.code wd_540 wd_49 wd_539 (by decide) (by decide +kernel)
def f_B_needUpright (g0 : gG) (p0 : Int64) (p1 : Int64) (w : gW) : gX Unit := gbind (f_B_needWithin g0 p0 0 5000 w) fun v3 w => gbind (f_B_needSize g0 p1 w) fun v6 w => gbind (f_B_needWithin g0 (p0 + p1) 0 5000 w) fun v9 w => some (.inr (), w)
set_option maxHeartbeats 4000000 in
set_option maxRecDepth 100000 in
theorem m_B_needUpright (l : Launch) (hst : l.stackTraces = false) (D : gD) (g0 : gG) (p0 : Int64) (p1 : Int64) (w : gW) (r : (String ⊕ Unit) × gW) (h : f_B_needUpright g0 p0 p1 w = some r) : gMet l y_B_needUpright (.code y_B_needUpright b_B_needUpright 4 none) rm_B_needUpright D g0 [.long p0, .long p1] w (goV r) := by
  refine gw_ofV (by decide +kernel) (Nat.le_of_ble_eq_true rfl) ?_
  intro p e s m below meth c ls args A Q hx hb hml hown hlocks hin hnt hT hK hZ hA hret hexc hthr hI hl
  obtain ⟨H, hH⟩ : ∃ H, H = s.heap := ⟨_, rfl⟩
  rw [← hH] at hI ⊢
  obtain ⟨locs, hlocs⟩ : ∃ z : List Loc, z = [] := ⟨_, rfl⟩
  rw [← hlocs] at hI ⊢
  have hl : lv_has ls 4 [(0, .long p0), (2, .long p1)] := hl
  unfold f_B_needUpright at h
  refine lv_lload_n hx hb d_B_needUpright_0 rfl (lv_at hl 0 rfl) ?_
  refine lv_lconst (v := 0) hx hb d_B_needUpright_1 (by decide) ?_
  refine lv_ldc2 (v := 5000) hx hb hown (hT _ wd_515 args) d_B_needUpright_2 ?_
  obtain ⟨u1, e2⟩ := gsome h
  refine gw_callV e2 h (gw_runS (As := [.long p0, .long 0, .long 5000]) (rest := []) hx hb hml hown hT hK hZ hA hI (m_B_needWithin l hst D g0 p0 0 5000 w u1 e2) ce_B_needWithin wd_516 ⟨by decide, by decide⟩ rfl rfl hl.1 rfl (lv_room (Nat.le_of_ble_eq_true rfl)) d_B_needUpright_5 ⟨(show 0 + 1 ≤ 3 by omega), (show 0 + 6 ≤ 18 by omega)⟩) hI hA hexc (show 0 + 1 ≤ 3 by omega) (show 0 + 6 ≤ 18 by omega) (fun v3 w H locs h hI => ?_)
  refine W.widen (k := 1) (n := 6) (show 0 + 1 ≤ 1 by omega) (show 0 + 6 ≤ 6 by omega) ?_
  refine lv_lload_n hx hb d_B_needUpright_8 rfl (lv_at hl 1 rfl) ?_
  obtain ⟨u4, e5⟩ := gsome h
  refine gw_callV e5 h (gw_runS (As := [.long p1]) (rest := []) hx hb hml hown hT hK hZ hA hI (m_B_needSize l hst D g0 p1 w u4 e5) ce_B_needSize wd_535 ⟨by decide, by decide⟩ rfl rfl hl.1 rfl (lv_room (Nat.le_of_ble_eq_true rfl)) d_B_needUpright_9 ⟨(show 1 + 1 ≤ 3 by omega), (show 6 + 6 ≤ 18 by omega)⟩) hI hA hexc (show 1 + 1 ≤ 3 by omega) (show 6 + 6 ≤ 18 by omega) (fun v6 w H locs h hI => ?_)
  refine W.widen (k := 2) (n := 12) (show 1 + 1 ≤ 2 by omega) (show 6 + 6 ≤ 12 by omega) ?_
  refine lv_lload_n hx hb d_B_needUpright_12 rfl (lv_at hl 0 rfl) ?_
  refine lv_lload_n hx hb d_B_needUpright_13 rfl (lv_at hl 1 rfl) ?_
  refine lv_ladd hx hb d_B_needUpright_14 ?_
  refine lv_lconst (v := 0) hx hb d_B_needUpright_15 (by decide) ?_
  refine lv_ldc2 (v := 5000) hx hb hown (hT _ wd_515 args) d_B_needUpright_16 ?_
  obtain ⟨u7, e8⟩ := gsome h
  refine gw_callV e8 h (gw_runS (As := [.long (p0 + p1), .long 0, .long 5000]) (rest := []) hx hb hml hown hT hK hZ hA hI (m_B_needWithin l hst D g0 (p0 + p1) 0 5000 w u7 e8) ce_B_needWithin wd_516 ⟨by decide, by decide⟩ rfl rfl hl.1 rfl (lv_room (Nat.le_of_ble_eq_true rfl)) d_B_needUpright_19 ⟨(show 2 + 1 ≤ 3 by omega), (show 12 + 6 ≤ 18 by omega)⟩) hI hA hexc (show 2 + 1 ≤ 3 by omega) (show 12 + 6 ≤ 18 by omega) (fun v9 w H locs h hI => ?_)
  refine W.widen (k := 3) (n := 18) (show 2 + 1 ≤ 3 by omega) (show 12 + 6 ≤ 18 by omega) ?_
  exact W.widen (show 3 ≤ 3 by omega) (show 18 ≤ 18 by omega) (hret _ _ (Option.some.inj h).symm _ _ _ _ d_B_needUpright_22 hI)

abbrev b_By_isFull : ByteArray := prog_2_method_2_code
def y_By_isFull : MethodName := ⟨"BodySolids$Body", "isFull", "()Z"⟩
theorem d_By_isFull_0 : decode b_By_isFull 0 = .ok (.aload_n 0, 1) := by decide +kernel
theorem d_By_isFull_1 : decode b_By_isFull 1 = .ok (.getfield 12, 3) := by decide +kernel
theorem d_By_isFull_4 : decode b_By_isFull 4 = .ok (.invokevirtual 22, 3) := by decide +kernel
theorem d_By_isFull_7 : decode b_By_isFull 7 = .ok (.bipush 12, 2) := by decide +kernel
theorem d_By_isFull_9 : decode b_By_isFull 9 = .ok (.if_icmp .lt 7, 3) := by decide +kernel
theorem d_By_isFull_12 : decode b_By_isFull 12 = .ok (.iconst 1, 1) := by decide +kernel
theorem d_By_isFull_13 : decode b_By_isFull 13 = .ok (.goto 4, 3) := by decide +kernel
theorem d_By_isFull_16 : decode b_By_isFull 16 = .ok (.iconst 0, 1) := by decide +kernel
theorem d_By_isFull_17 : decode b_By_isFull 17 = .ok (.ireturn, 1) := by decide +kernel
abbrev rm_By_isFull : Room := { frames := 1, cells := 0, slots := 0, locals := 20 }
theorem ce_By_isFull : gCe y_By_isFull (.code y_By_isFull b_By_isFull 1 (some .boolean)) 1 0 false := gCe.code wd_544 wd_58 wd_542 (by decide) (by decide +kernel)
def f_By_isFull (g0 : gG) (a0 : Nat) (w : gW) : gX Int32 := (gfA w a0 4 0).bind fun v1 => (gck w v1 1).bind fun _ => gbind (f_AL_size g0 v1 w) fun v7 w => gjoin (fun K17 => if v7 < 12 then (K17 0 w) else (K17 1 w)) (fun (y8 : Int32) (w : gW) => gguard (y8 = 0 ∨ y8 = 1) (some (.inr y8, w)))
set_option maxHeartbeats 4000000 in
set_option maxRecDepth 100000 in
theorem m_By_isFull (l : Launch) (hst : l.stackTraces = false) (D : gD) (g0 : gG) (a0 : Nat) (w : gW) (r : (String ⊕ Int32) × gW) (h : f_By_isFull g0 a0 w = some r) : gMet l y_By_isFull (.code y_By_isFull b_By_isFull 1 (some .boolean)) rm_By_isFull D g0 [.ref a0] w (goI r) := by
  refine gw_ofZ (by decide +kernel) (Nat.le_of_ble_eq_true rfl) ?_
  intro p e s m below meth c ls args A Q hx hb hml hown hlocks hin hnt hT hK hZ hA hret hexc hthr hI hl
  obtain ⟨H, hH⟩ : ∃ H, H = s.heap := ⟨_, rfl⟩
  rw [← hH] at hI ⊢
  obtain ⟨locs, hlocs⟩ : ∃ z : List Loc, z = [] := ⟨_, rfl⟩
  rw [← hlocs] at hI ⊢
  have hl : lv_has ls 1 [(0, .ref a0)] := hl
  unfold f_By_isFull at h
  refine lv_aload_n hx hb d_By_isFull_0 rfl (lv_at hl 0 rfl) ?_
  obtain ⟨v1, e2, h⟩ := gb h
  refine gw_getA hx hb hT hown hK hI (ci := 4) rfl i_4 0 (by decide) wd_236 (fun _ h9 => h9) e2 d_By_isFull_1 ?_
  obtain ⟨q5, e6, h⟩ := gb h
  obtain ⟨u3, e4⟩ := gsome h
  refine gw_callI e4 h (gw_runV (As := []) (rest := []) hx hb hml hown hT hK hZ hA hI (ci := 1) rfl e6 (m_AL_size l hst D g0 v1 w u3 e4) ce_AL_size wd_545 wd_226 ⟨by decide, by decide⟩ rfl rfl hl.1 rfl (lv_room (Nat.le_of_ble_eq_true rfl)) d_By_isFull_4 ⟨(show 0 + 0 ≤ 0 by omega), (show 0 + 0 ≤ 0 by omega)⟩) hI hA hexc (show 0 + 0 ≤ 0 by omega) (show 0 + 0 ≤ 0 by omega) (fun v7 w H locs h hI => ?_)
  refine lv_bipush (v := 12) hx hb d_By_isFull_7 (by decide) ?_
  obtain ⟨K17, eK17, h⟩ := gj h
  have hK17 : ∀ (y8 : Int32) (w : gW) (H : Heap) (locs : List Loc) (ls : Array Slot), K17 y8 w = some r → gI D s A w H locs → lv_has ls 1 [] → W p l e rm_By_isFull s m args below meth c H locs 0 0 Q (F0 m 17 ls [.int y8]) := by
    intro y8 w H locs ls h hI hl
    have h := gk2 eK17 h
    obtain ⟨g9, h⟩ := gif h
    exact W.widen (show 0 ≤ 0 by omega) (show 0 ≤ 0 by omega) (hret g9 0 _ (Option.some.inj h).symm _ _ _ _ d_By_isFull_17 hI)
  refine lv_icmp_lt (tgt := 16) hx hb d_By_isFull_9 (by decide) (fun c10 => ?_) (fun c10 => ?_)
  · skip
    have h := git c10 h
    refine lv_iconst (v := 0) hx hb d_By_isFull_16 (by decide) ?_
    exact hK17 _ w H locs ls h hI (lv_sub hl [] rfl)
  · skip
    have h := gie c10 h
    refine lv_iconst (v := 1) hx hb d_By_isFull_12 (by decide) ?_
    refine lv_goto (tgt := 17) hx hb d_By_isFull_13 (by decide) ?_
    exact hK17 _ w H locs ls h hI (lv_sub hl [] rfl)

abbrev b_So_begin : ByteArray := prog_7_method_2_code
def y_So_begin : MethodName := ⟨"BodySolids$Solid", "begin", "(IJJ)V"⟩
theorem d_So_begin_0 : decode b_So_begin 0 = .ok (.aload_n 0, 1) := by decide +kernel
theorem d_So_begin_1 : decode b_So_begin 1 = .ok (.iload_n 1, 1) := by decide +kernel
theorem d_So_begin_2 : decode b_So_begin 2 = .ok (.putfield 18, 3) := by decide +kernel
theorem d_So_begin_5 : decode b_So_begin 5 = .ok (.aload_n 0, 1) := by decide +kernel
theorem d_So_begin_6 : decode b_So_begin 6 = .ok (.lload_n 2, 1) := by decide +kernel
theorem d_So_begin_7 : decode b_So_begin 7 = .ok (.putfield 22, 3) := by decide +kernel
theorem d_So_begin_10 : decode b_So_begin 10 = .ok (.aload_n 0, 1) := by decide +kernel
theorem d_So_begin_11 : decode b_So_begin 11 = .ok (.lload 4, 2) := by decide +kernel
theorem d_So_begin_13 : decode b_So_begin 13 = .ok (.putfield 26, 3) := by decide +kernel
theorem d_So_begin_16 : decode b_So_begin 16 = .ok (.aload_n 0, 1) := by decide +kernel
theorem d_So_begin_17 : decode b_So_begin 17 = .ok (.iconst 0, 1) := by decide +kernel
theorem d_So_begin_18 : decode b_So_begin 18 = .ok (.putfield 29, 3) := by decide +kernel
theorem d_So_begin_21 : decode b_So_begin 21 = .ok (.return_, 1) := by decide +kernel
abbrev rm_So_begin : Room := { frames := 0, cells := 0, slots := 0, locals := 0 }
theorem ce_So_begin : gCe y_So_begin (.code y_So_begin b_So_begin 6 none) 6 3 false := gCe.code wd_350 wd_56 wd_348 (by decide) (by decide +kernel)
def f_So_begin (g0 : gG) (a0 : Nat) (p1 : Int32) (p2 : Int64) (p3 : Int64) (w : gW) : gX Unit := (gp w a0 3 0 (.int p1)).bind fun w => (gp w a0 3 1 (.long p2)).bind fun w => (gp w a0 3 2 (.long p3)).bind fun w => (gp w a0 3 5 (.int 0)).bind fun w => some (.inr (), w)
set_option maxHeartbeats 4000000 in
set_option maxRecDepth 100000 in
theorem m_So_begin (l : Launch) (hst : l.stackTraces = false) (D : gD) (g0 : gG) (a0 : Nat) (p1 : Int32) (p2 : Int64) (p3 : Int64) (w : gW) (r : (String ⊕ Unit) × gW) (h : f_So_begin g0 a0 p1 p2 p3 w = some r) : gMet l y_So_begin (.code y_So_begin b_So_begin 6 none) rm_So_begin D g0 [.ref a0, .int p1, .long p2, .long p3] w (goV r) := by
  refine gw_ofV (by decide +kernel) (Nat.le_of_ble_eq_true rfl) ?_
  intro p e s m below meth c ls args A Q hx hb hml hown hlocks hin hnt hT hK hZ hA hret hexc hthr hI hl
  obtain ⟨H, hH⟩ : ∃ H, H = s.heap := ⟨_, rfl⟩
  rw [← hH] at hI ⊢
  obtain ⟨locs, hlocs⟩ : ∃ z : List Loc, z = [] := ⟨_, rfl⟩
  rw [← hlocs] at hI ⊢
  have hl : lv_has ls 6 [(0, .ref a0), (1, .int p1), (2, .long p2), (4, .long p3)] := hl
  unfold f_So_begin at h
  refine lv_aload_n hx hb d_So_begin_0 rfl (lv_at hl 0 rfl) ?_
  refine lv_iload_n hx hb d_So_begin_1 rfl (lv_at hl 1 rfl) ?_
  obtain ⟨w, e1, h⟩ := gb h
  refine gw_put hx hb hT hown hK hI (ci := 3) rfl i_3 t_3 t_3_ok n_3 0 (by decide) wd_129 (fun _ h9 => h9) rfl (ty := .int) (by decide +kernel) rfl rfl e1 d_So_begin_2 (fun H locs hI => ?_)
  refine lv_aload_n hx hb d_So_begin_5 rfl (lv_at hl 0 rfl) ?_
  refine lv_lload_n hx hb d_So_begin_6 rfl (lv_at hl 2 rfl) ?_
  obtain ⟨w, e2, h⟩ := gb h
  refine gw_put hx hb hT hown hK hI (ci := 3) rfl i_3 t_3 t_3_ok n_3 1 (by decide) wd_132 (fun _ h9 => h9) rfl (ty := .long) (by decide +kernel) rfl rfl e2 d_So_begin_7 (fun H locs hI => ?_)
  refine lv_aload_n hx hb d_So_begin_10 rfl (lv_at hl 0 rfl) ?_
  refine lv_lload hx hb d_So_begin_11 (lv_at hl 3 rfl) ?_
  obtain ⟨w, e3, h⟩ := gb h
  refine gw_put hx hb hT hown hK hI (ci := 3) rfl i_3 t_3 t_3_ok n_3 2 (by decide) wd_134 (fun _ h9 => h9) rfl (ty := .long) (by decide +kernel) rfl rfl e3 d_So_begin_13 (fun H locs hI => ?_)
  refine lv_aload_n hx hb d_So_begin_16 rfl (lv_at hl 0 rfl) ?_
  refine lv_iconst (v := 0) hx hb d_So_begin_17 (by decide) ?_
  obtain ⟨w, e4, h⟩ := gb h
  refine gw_put hx hb hT hown hK hI (ci := 3) rfl i_3 t_3 t_3_ok n_3 5 (by decide) wd_139 (fun _ h9 => h9) rfl (ty := .int) (by decide +kernel) rfl rfl e4 d_So_begin_18 (fun H locs hI => ?_)
  exact W.widen (show 0 ≤ 0 by omega) (show 0 ≤ 0 by omega) (hret _ _ (Option.some.inj h).symm _ _ _ _ d_So_begin_21 hI)

abbrev b_So_addCorner : ByteArray := prog_7_method_3_code
def y_So_addCorner : MethodName := ⟨"BodySolids$Solid", "addCorner", "(JJ)V"⟩
theorem d_So_addCorner_0 : decode b_So_addCorner 0 = .ok (.aload_n 0, 1) := by decide +kernel
theorem d_So_addCorner_1 : decode b_So_addCorner 1 = .ok (.getfield 29, 3) := by decide +kernel
theorem d_So_addCorner_4 : decode b_So_addCorner 4 = .ok (.bipush 8, 2) := by decide +kernel
theorem d_So_addCorner_6 : decode b_So_addCorner 6 = .ok (.if_icmp .lt 4, 3) := by decide +kernel
theorem d_So_addCorner_9 : decode b_So_addCorner 9 = .ok (.return_, 1) := by decide +kernel
theorem d_So_addCorner_10 : decode b_So_addCorner 10 = .ok (.aload_n 0, 1) := by decide +kernel
theorem d_So_addCorner_11 : decode b_So_addCorner 11 = .ok (.aload_n 0, 1) := by decide +kernel
theorem d_So_addCorner_12 : decode b_So_addCorner 12 = .ok (.getfield 29, 3) := by decide +kernel
theorem d_So_addCorner_15 : decode b_So_addCorner 15 = .ok (.ifCond .ne 7, 3) := by decide +kernel
theorem d_So_addCorner_18 : decode b_So_addCorner 18 = .ok (.lload_n 1, 1) := by decide +kernel
theorem d_So_addCorner_19 : decode b_So_addCorner 19 = .ok (.goto 11, 3) := by decide +kernel
theorem d_So_addCorner_22 : decode b_So_addCorner 22 = .ok (.aload_n 0, 1) := by decide +kernel
theorem d_So_addCorner_23 : decode b_So_addCorner 23 = .ok (.getfield 32, 3) := by decide +kernel
theorem d_So_addCorner_26 : decode b_So_addCorner 26 = .ok (.lload_n 1, 1) := by decide +kernel
theorem d_So_addCorner_27 : decode b_So_addCorner 27 = .ok (.invokestatic 35, 3) := by decide +kernel
theorem d_So_addCorner_30 : decode b_So_addCorner 30 = .ok (.putfield 32, 3) := by decide +kernel
theorem d_So_addCorner_33 : decode b_So_addCorner 33 = .ok (.aload_n 0, 1) := by decide +kernel
theorem d_So_addCorner_34 : decode b_So_addCorner 34 = .ok (.aload_n 0, 1) := by decide +kernel
theorem d_So_addCorner_35 : decode b_So_addCorner 35 = .ok (.getfield 29, 3) := by decide +kernel
theorem d_So_addCorner_38 : decode b_So_addCorner 38 = .ok (.ifCond .ne 7, 3) := by decide +kernel
theorem d_So_addCorner_41 : decode b_So_addCorner 41 = .ok (.lload_n 3, 1) := by decide +kernel
theorem d_So_addCorner_42 : decode b_So_addCorner 42 = .ok (.goto 11, 3) := by decide +kernel
theorem d_So_addCorner_45 : decode b_So_addCorner 45 = .ok (.aload_n 0, 1) := by decide +kernel
theorem d_So_addCorner_46 : decode b_So_addCorner 46 = .ok (.getfield 41, 3) := by decide +kernel
theorem d_So_addCorner_49 : decode b_So_addCorner 49 = .ok (.lload_n 3, 1) := by decide +kernel
theorem d_So_addCorner_50 : decode b_So_addCorner 50 = .ok (.invokestatic 35, 3) := by decide +kernel
theorem d_So_addCorner_53 : decode b_So_addCorner 53 = .ok (.putfield 41, 3) := by decide +kernel
theorem d_So_addCorner_56 : decode b_So_addCorner 56 = .ok (.aload_n 0, 1) := by decide +kernel
theorem d_So_addCorner_57 : decode b_So_addCorner 57 = .ok (.aload_n 0, 1) := by decide +kernel
theorem d_So_addCorner_58 : decode b_So_addCorner 58 = .ok (.getfield 29, 3) := by decide +kernel
theorem d_So_addCorner_61 : decode b_So_addCorner 61 = .ok (.ifCond .ne 7, 3) := by decide +kernel
theorem d_So_addCorner_64 : decode b_So_addCorner 64 = .ok (.lload_n 1, 1) := by decide +kernel
theorem d_So_addCorner_65 : decode b_So_addCorner 65 = .ok (.goto 11, 3) := by decide +kernel
theorem d_So_addCorner_68 : decode b_So_addCorner 68 = .ok (.aload_n 0, 1) := by decide +kernel
theorem d_So_addCorner_69 : decode b_So_addCorner 69 = .ok (.getfield 44, 3) := by decide +kernel
theorem d_So_addCorner_72 : decode b_So_addCorner 72 = .ok (.lload_n 1, 1) := by decide +kernel
theorem d_So_addCorner_73 : decode b_So_addCorner 73 = .ok (.invokestatic 47, 3) := by decide +kernel
theorem d_So_addCorner_76 : decode b_So_addCorner 76 = .ok (.putfield 44, 3) := by decide +kernel
theorem d_So_addCorner_79 : decode b_So_addCorner 79 = .ok (.aload_n 0, 1) := by decide +kernel
theorem d_So_addCorner_80 : decode b_So_addCorner 80 = .ok (.aload_n 0, 1) := by decide +kernel
theorem d_So_addCorner_81 : decode b_So_addCorner 81 = .ok (.getfield 29, 3) := by decide +kernel
theorem d_So_addCorner_84 : decode b_So_addCorner 84 = .ok (.ifCond .ne 7, 3) := by decide +kernel
theorem d_So_addCorner_87 : decode b_So_addCorner 87 = .ok (.lload_n 3, 1) := by decide +kernel
theorem d_So_addCorner_88 : decode b_So_addCorner 88 = .ok (.goto 11, 3) := by decide +kernel
theorem d_So_addCorner_91 : decode b_So_addCorner 91 = .ok (.aload_n 0, 1) := by decide +kernel
theorem d_So_addCorner_92 : decode b_So_addCorner 92 = .ok (.getfield 50, 3) := by decide +kernel
theorem d_So_addCorner_95 : decode b_So_addCorner 95 = .ok (.lload_n 3, 1) := by decide +kernel
theorem d_So_addCorner_96 : decode b_So_addCorner 96 = .ok (.invokestatic 47, 3) := by decide +kernel
theorem d_So_addCorner_99 : decode b_So_addCorner 99 = .ok (.putfield 50, 3) := by decide +kernel
theorem d_So_addCorner_102 : decode b_So_addCorner 102 = .ok (.aload_n 0, 1) := by decide +kernel
theorem d_So_addCorner_103 : decode b_So_addCorner 103 = .ok (.getfield 9, 3) := by decide +kernel
theorem d_So_addCorner_106 : decode b_So_addCorner 106 = .ok (.aload_n 0, 1) := by decide +kernel
theorem d_So_addCorner_107 : decode b_So_addCorner 107 = .ok (.getfield 29, 3) := by decide +kernel
theorem d_So_addCorner_110 : decode b_So_addCorner 110 = .ok (.lload_n 1, 1) := by decide +kernel
theorem d_So_addCorner_111 : decode b_So_addCorner 111 = .ok (.lastore, 1) := by decide +kernel
theorem d_So_addCorner_112 : decode b_So_addCorner 112 = .ok (.aload_n 0, 1) := by decide +kernel
theorem d_So_addCorner_113 : decode b_So_addCorner 113 = .ok (.getfield 15, 3) := by decide +kernel
theorem d_So_addCorner_116 : decode b_So_addCorner 116 = .ok (.aload_n 0, 1) := by decide +kernel
theorem d_So_addCorner_117 : decode b_So_addCorner 117 = .ok (.getfield 29, 3) := by decide +kernel
theorem d_So_addCorner_120 : decode b_So_addCorner 120 = .ok (.lload_n 3, 1) := by decide +kernel
theorem d_So_addCorner_121 : decode b_So_addCorner 121 = .ok (.lastore, 1) := by decide +kernel
theorem d_So_addCorner_122 : decode b_So_addCorner 122 = .ok (.aload_n 0, 1) := by decide +kernel
theorem d_So_addCorner_123 : decode b_So_addCorner 123 = .ok (.dup, 1) := by decide +kernel
theorem d_So_addCorner_124 : decode b_So_addCorner 124 = .ok (.getfield 29, 3) := by decide +kernel
theorem d_So_addCorner_127 : decode b_So_addCorner 127 = .ok (.iconst 1, 1) := by decide +kernel
theorem d_So_addCorner_128 : decode b_So_addCorner 128 = .ok (.iadd, 1) := by decide +kernel
theorem d_So_addCorner_129 : decode b_So_addCorner 129 = .ok (.putfield 29, 3) := by decide +kernel
theorem d_So_addCorner_132 : decode b_So_addCorner 132 = .ok (.return_, 1) := by decide +kernel
abbrev rm_So_addCorner : Room := { frames := 1, cells := 0, slots := 0, locals := 23 }
theorem ce_So_addCorner : gCe y_So_addCorner (.code y_So_addCorner b_So_addCorner 5 none) 5 2 false := gCe.code wd_362 wd_56 wd_360 (by decide) (by decide +kernel)
def f_So_addCorner (g0 : gG) (a0 : Nat) (p1 : Int64) (p2 : Int64) (w : gW) : gX Unit := (gfI w a0 3 5).bind fun v1 => if v1 < 8 then ((gfI w a0 3 5).bind fun v4 => gjoin (fun K30 => if v4 = 0 then (K30 p1 w) else ((gfJ w a0 3 6).bind fun v52 => gbind (f_Ma_min2 g0 v52 p1 w) fun v56 w => K30 v56 w)) (fun (y6 : Int64) (w : gW) => (gp w a0 3 6 (.long y6)).bind fun w => (gfI w a0 3 5).bind fun v8 => gjoin (fun K53 => if v8 = 0 then (K53 p2 w) else ((gfJ w a0 3 7).bind fun v46 => gbind (f_Ma_min2 g0 v46 p2 w) fun v50 w => K53 v50 w)) (fun (y10 : Int64) (w : gW) => (gp w a0 3 7 (.long y10)).bind fun w => (gfI w a0 3 5).bind fun v12 => gjoin (fun K76 => if v12 = 0 then (K76 p1 w) else ((gfJ w a0 3 9).bind fun v40 => gbind (f_Ma_max2 g0 v40 p1 w) fun v44 w => K76 v44 w)) (fun (y14 : Int64) (w : gW) => (gp w a0 3 9 (.long y14)).bind fun w => (gfI w a0 3 5).bind fun v16 => gjoin (fun K99 => if v16 = 0 then (K99 p2 w) else ((gfJ w a0 3 10).bind fun v34 => gbind (f_Ma_max2 g0 v34 p2 w) fun v38 w => K99 v38 w)) (fun (y18 : Int64) (w : gW) => (gp w a0 3 10 (.long y18)).bind fun w => (gfA w a0 3 3).bind fun v20 => (gfI w a0 3 5).bind fun v22 => (gsJ w v20 v22 p1).bind fun w => (gfA w a0 3 4).bind fun v25 => (gfI w a0 3 5).bind fun v27 => (gsJ w v25 v27 p2).bind fun w => (gfI w a0 3 5).bind fun v30 => (gp w a0 3 5 (.int (v30 + 1))).bind fun w => some (.inr (), w)))))) else (some (.inr (), w))
set_option maxHeartbeats 4000000 in
set_option maxRecDepth 100000 in
theorem m_So_addCorner (l : Launch) (hst : l.stackTraces = false) (D : gD) (g0 : gG) (a0 : Nat) (p1 : Int64) (p2 : Int64) (w : gW) (r : (String ⊕ Unit) × gW) (h : f_So_addCorner g0 a0 p1 p2 w = some r) : gMet l y_So_addCorner (.code y_So_addCorner b_So_addCorner 5 none) rm_So_addCorner D g0 [.ref a0, .long p1, .long p2] w (goV r) := by
  refine gw_ofV (by decide +kernel) (Nat.le_of_ble_eq_true rfl) ?_
  intro p e s m below meth c ls args A Q hx hb hml hown hlocks hin hnt hT hK hZ hA hret hexc hthr hI hl
  obtain ⟨H, hH⟩ : ∃ H, H = s.heap := ⟨_, rfl⟩
  rw [← hH] at hI ⊢
  obtain ⟨locs, hlocs⟩ : ∃ z : List Loc, z = [] := ⟨_, rfl⟩
  rw [← hlocs] at hI ⊢
  have hl : lv_has ls 5 [(0, .ref a0), (1, .long p1), (3, .long p2)] := hl
  unfold f_So_addCorner at h
  refine lv_aload_n hx hb d_So_addCorner_0 rfl (lv_at hl 0 rfl) ?_
  obtain ⟨v1, e2, h⟩ := gb h
  refine gw_getI hx hb hT hown hK hI (ci := 3) rfl i_3 5 (by decide) wd_139 (fun _ h9 => h9) e2 d_So_addCorner_1 ?_
  refine lv_bipush (v := 8) hx hb d_So_addCorner_4 (by decide) ?_
  refine lv_icmp_lt (tgt := 10) hx hb d_So_addCorner_6 (by decide) (fun c3 => ?_) (fun c3 => ?_)
  · skip
    have h := git c3 h
    refine lv_aload_n hx hb d_So_addCorner_10 rfl (lv_at hl 0 rfl) ?_
    refine lv_aload_n hx hb d_So_addCorner_11 rfl (lv_at hl 0 rfl) ?_
    obtain ⟨v4, e5, h⟩ := gb h
    refine gw_getI hx hb hT hown hK hI (ci := 3) rfl i_3 5 (by decide) wd_139 (fun _ h9 => h9) e5 d_So_addCorner_12 ?_
    obtain ⟨K30, eK30, h⟩ := gj h
    have hK30 : ∀ (y6 : Int64) (w : gW) (H : Heap) (locs : List Loc) (ls : Array Slot), K30 y6 w = some r → gI D s A w H locs → lv_has ls 5 [(0, .ref a0), (1, .long p1), (3, .long p2)] → W p l e rm_So_addCorner s m args below meth c H locs 0 0 Q (F0 m 30 ls [.long y6, .ref a0]) := by
      intro y6 w H locs ls h hI hl
      have h := gk2 eK30 h
      obtain ⟨w, e7, h⟩ := gb h
      refine gw_put hx hb hT hown hK hI (ci := 3) rfl i_3 t_3 t_3_ok n_3 6 (by decide) wd_142 (fun _ h9 => h9) rfl (ty := .long) (by decide +kernel) rfl rfl e7 d_So_addCorner_30 (fun H locs hI => ?_)
      refine lv_aload_n hx hb d_So_addCorner_33 rfl (lv_at hl 0 rfl) ?_
      refine lv_aload_n hx hb d_So_addCorner_34 rfl (lv_at hl 0 rfl) ?_
      obtain ⟨v8, e9, h⟩ := gb h
      refine gw_getI hx hb hT hown hK hI (ci := 3) rfl i_3 5 (by decide) wd_139 (fun _ h9 => h9) e9 d_So_addCorner_35 ?_
      obtain ⟨K53, eK53, h⟩ := gj h
      have hK53 : ∀ (y10 : Int64) (w : gW) (H : Heap) (locs : List Loc) (ls : Array Slot), K53 y10 w = some r → gI D s A w H locs → lv_has ls 5 [(0, .ref a0), (1, .long p1), (3, .long p2)] → W p l e rm_So_addCorner s m args below meth c H locs 0 0 Q (F0 m 53 ls [.long y10, .ref a0]) := by
        intro y10 w H locs ls h hI hl
        have h := gk2 eK53 h
        obtain ⟨w, e11, h⟩ := gb h
        refine gw_put hx hb hT hown hK hI (ci := 3) rfl i_3 t_3 t_3_ok n_3 7 (by decide) wd_144 (fun _ h9 => h9) rfl (ty := .long) (by decide +kernel) rfl rfl e11 d_So_addCorner_53 (fun H locs hI => ?_)
        refine lv_aload_n hx hb d_So_addCorner_56 rfl (lv_at hl 0 rfl) ?_
        refine lv_aload_n hx hb d_So_addCorner_57 rfl (lv_at hl 0 rfl) ?_
        obtain ⟨v12, e13, h⟩ := gb h
        refine gw_getI hx hb hT hown hK hI (ci := 3) rfl i_3 5 (by decide) wd_139 (fun _ h9 => h9) e13 d_So_addCorner_58 ?_
        obtain ⟨K76, eK76, h⟩ := gj h
        have hK76 : ∀ (y14 : Int64) (w : gW) (H : Heap) (locs : List Loc) (ls : Array Slot), K76 y14 w = some r → gI D s A w H locs → lv_has ls 5 [(0, .ref a0), (1, .long p1), (3, .long p2)] → W p l e rm_So_addCorner s m args below meth c H locs 0 0 Q (F0 m 76 ls [.long y14, .ref a0]) := by
          intro y14 w H locs ls h hI hl
          have h := gk2 eK76 h
          obtain ⟨w, e15, h⟩ := gb h
          refine gw_put hx hb hT hown hK hI (ci := 3) rfl i_3 t_3 t_3_ok n_3 9 (by decide) wd_148 (fun _ h9 => h9) rfl (ty := .long) (by decide +kernel) rfl rfl e15 d_So_addCorner_76 (fun H locs hI => ?_)
          refine lv_aload_n hx hb d_So_addCorner_79 rfl (lv_at hl 0 rfl) ?_
          refine lv_aload_n hx hb d_So_addCorner_80 rfl (lv_at hl 0 rfl) ?_
          obtain ⟨v16, e17, h⟩ := gb h
          refine gw_getI hx hb hT hown hK hI (ci := 3) rfl i_3 5 (by decide) wd_139 (fun _ h9 => h9) e17 d_So_addCorner_81 ?_
          obtain ⟨K99, eK99, h⟩ := gj h
          have hK99 : ∀ (y18 : Int64) (w : gW) (H : Heap) (locs : List Loc) (ls : Array Slot), K99 y18 w = some r → gI D s A w H locs → lv_has ls 5 [(0, .ref a0), (1, .long p1), (3, .long p2)] → W p l e rm_So_addCorner s m args below meth c H locs 0 0 Q (F0 m 99 ls [.long y18, .ref a0]) := by
            intro y18 w H locs ls h hI hl
            have h := gk2 eK99 h
            obtain ⟨w, e19, h⟩ := gb h
            refine gw_put hx hb hT hown hK hI (ci := 3) rfl i_3 t_3 t_3_ok n_3 10 (by decide) wd_150 (fun _ h9 => h9) rfl (ty := .long) (by decide +kernel) rfl rfl e19 d_So_addCorner_99 (fun H locs hI => ?_)
            refine lv_aload_n hx hb d_So_addCorner_102 rfl (lv_at hl 0 rfl) ?_
            obtain ⟨v20, e21, h⟩ := gb h
            refine gw_getA hx hb hT hown hK hI (ci := 3) rfl i_3 3 (by decide) wd_135 (fun _ h9 => h9) e21 d_So_addCorner_103 ?_
            refine lv_aload_n hx hb d_So_addCorner_106 rfl (lv_at hl 0 rfl) ?_
            obtain ⟨v22, e23, h⟩ := gb h
            refine gw_getI hx hb hT hown hK hI (ci := 3) rfl i_3 5 (by decide) wd_139 (fun _ h9 => h9) e23 d_So_addCorner_107 ?_
            refine lv_lload_n hx hb d_So_addCorner_110 rfl (lv_at hl 1 rfl) ?_
            obtain ⟨w, e24, h⟩ := gb h
            refine gw_astJ hx hb hK hI e24 d_So_addCorner_111 (fun H locs hI => ?_)
            refine lv_aload_n hx hb d_So_addCorner_112 rfl (lv_at hl 0 rfl) ?_
            obtain ⟨v25, e26, h⟩ := gb h
            refine gw_getA hx hb hT hown hK hI (ci := 3) rfl i_3 4 (by decide) wd_137 (fun _ h9 => h9) e26 d_So_addCorner_113 ?_
            refine lv_aload_n hx hb d_So_addCorner_116 rfl (lv_at hl 0 rfl) ?_
            obtain ⟨v27, e28, h⟩ := gb h
            refine gw_getI hx hb hT hown hK hI (ci := 3) rfl i_3 5 (by decide) wd_139 (fun _ h9 => h9) e28 d_So_addCorner_117 ?_
            refine lv_lload_n hx hb d_So_addCorner_120 rfl (lv_at hl 2 rfl) ?_
            obtain ⟨w, e29, h⟩ := gb h
            refine gw_astJ hx hb hK hI e29 d_So_addCorner_121 (fun H locs hI => ?_)
            refine lv_aload_n hx hb d_So_addCorner_122 rfl (lv_at hl 0 rfl) ?_
            refine lv_dup hx hb d_So_addCorner_123 rfl ?_
            obtain ⟨v30, e31, h⟩ := gb h
            refine gw_getI hx hb hT hown hK hI (ci := 3) rfl i_3 5 (by decide) wd_139 (fun _ h9 => h9) e31 d_So_addCorner_124 ?_
            refine lv_iconst (v := 1) hx hb d_So_addCorner_127 (by decide) ?_
            refine lv_iadd hx hb d_So_addCorner_128 ?_
            obtain ⟨w, e32, h⟩ := gb h
            refine gw_put hx hb hT hown hK hI (ci := 3) rfl i_3 t_3 t_3_ok n_3 5 (by decide) wd_139 (fun _ h9 => h9) rfl (ty := .int) (by decide +kernel) rfl rfl e32 d_So_addCorner_129 (fun H locs hI => ?_)
            exact W.widen (show 0 ≤ 0 by omega) (show 0 ≤ 0 by omega) (hret _ _ (Option.some.inj h).symm _ _ _ _ d_So_addCorner_132 hI)
          refine lv_if_ne (tgt := 91) hx hb d_So_addCorner_84 (by decide) (fun c33 => ?_) (fun c33 => ?_)
          · skip
            have h := gie c33 h
            refine lv_aload_n hx hb d_So_addCorner_91 rfl (lv_at hl 0 rfl) ?_
            obtain ⟨v34, e35, h⟩ := gb h
            refine gw_getJ hx hb hT hown hK hI (ci := 3) rfl i_3 10 (by decide) wd_150 (fun _ h9 => h9) e35 d_So_addCorner_92 ?_
            refine lv_lload_n hx hb d_So_addCorner_95 rfl (lv_at hl 2 rfl) ?_
            obtain ⟨u36, e37⟩ := gsome h
            refine gw_callJ e37 h (gw_runS (As := [.long v34, .long p2]) (rest := [.ref a0]) hx hb hml hown hT hK hZ hA hI (m_Ma_max2 l hst D g0 v34 p2 w u36 e37) ce_Ma_max2 wd_364 ⟨by decide, by decide⟩ rfl rfl hl.1 rfl (lv_room (Nat.le_of_ble_eq_true rfl)) d_So_addCorner_96 ⟨(show 0 + 0 ≤ 0 by omega), (show 0 + 0 ≤ 0 by omega)⟩) hI hA hexc (show 0 + 0 ≤ 0 by omega) (show 0 + 0 ≤ 0 by omega) (fun v38 w H locs h hI => ?_)
            exact hK99 _ w H locs ls h hI (lv_sub hl [0, 1, 2] rfl)
          · skip
            have h := git c33 h
            refine lv_lload_n hx hb d_So_addCorner_87 rfl (lv_at hl 2 rfl) ?_
            refine lv_goto (tgt := 99) hx hb d_So_addCorner_88 (by decide) ?_
            exact hK99 _ w H locs ls h hI (lv_sub hl [0, 1, 2] rfl)
        refine lv_if_ne (tgt := 68) hx hb d_So_addCorner_61 (by decide) (fun c39 => ?_) (fun c39 => ?_)
        · skip
          have h := gie c39 h
          refine lv_aload_n hx hb d_So_addCorner_68 rfl (lv_at hl 0 rfl) ?_
          obtain ⟨v40, e41, h⟩ := gb h
          refine gw_getJ hx hb hT hown hK hI (ci := 3) rfl i_3 9 (by decide) wd_148 (fun _ h9 => h9) e41 d_So_addCorner_69 ?_
          refine lv_lload_n hx hb d_So_addCorner_72 rfl (lv_at hl 1 rfl) ?_
          obtain ⟨u42, e43⟩ := gsome h
          refine gw_callJ e43 h (gw_runS (As := [.long v40, .long p1]) (rest := [.ref a0]) hx hb hml hown hT hK hZ hA hI (m_Ma_max2 l hst D g0 v40 p1 w u42 e43) ce_Ma_max2 wd_364 ⟨by decide, by decide⟩ rfl rfl hl.1 rfl (lv_room (Nat.le_of_ble_eq_true rfl)) d_So_addCorner_73 ⟨(show 0 + 0 ≤ 0 by omega), (show 0 + 0 ≤ 0 by omega)⟩) hI hA hexc (show 0 + 0 ≤ 0 by omega) (show 0 + 0 ≤ 0 by omega) (fun v44 w H locs h hI => ?_)
          exact hK76 _ w H locs ls h hI (lv_sub hl [0, 1, 2] rfl)
        · skip
          have h := git c39 h
          refine lv_lload_n hx hb d_So_addCorner_64 rfl (lv_at hl 1 rfl) ?_
          refine lv_goto (tgt := 76) hx hb d_So_addCorner_65 (by decide) ?_
          exact hK76 _ w H locs ls h hI (lv_sub hl [0, 1, 2] rfl)
      refine lv_if_ne (tgt := 45) hx hb d_So_addCorner_38 (by decide) (fun c45 => ?_) (fun c45 => ?_)
      · skip
        have h := gie c45 h
        refine lv_aload_n hx hb d_So_addCorner_45 rfl (lv_at hl 0 rfl) ?_
        obtain ⟨v46, e47, h⟩ := gb h
        refine gw_getJ hx hb hT hown hK hI (ci := 3) rfl i_3 7 (by decide) wd_144 (fun _ h9 => h9) e47 d_So_addCorner_46 ?_
        refine lv_lload_n hx hb d_So_addCorner_49 rfl (lv_at hl 2 rfl) ?_
        obtain ⟨u48, e49⟩ := gsome h
        refine gw_callJ e49 h (gw_runS (As := [.long v46, .long p2]) (rest := [.ref a0]) hx hb hml hown hT hK hZ hA hI (m_Ma_min2 l hst D g0 v46 p2 w u48 e49) ce_Ma_min2 wd_363 ⟨by decide, by decide⟩ rfl rfl hl.1 rfl (lv_room (Nat.le_of_ble_eq_true rfl)) d_So_addCorner_50 ⟨(show 0 + 0 ≤ 0 by omega), (show 0 + 0 ≤ 0 by omega)⟩) hI hA hexc (show 0 + 0 ≤ 0 by omega) (show 0 + 0 ≤ 0 by omega) (fun v50 w H locs h hI => ?_)
        exact hK53 _ w H locs ls h hI (lv_sub hl [0, 1, 2] rfl)
      · skip
        have h := git c45 h
        refine lv_lload_n hx hb d_So_addCorner_41 rfl (lv_at hl 2 rfl) ?_
        refine lv_goto (tgt := 53) hx hb d_So_addCorner_42 (by decide) ?_
        exact hK53 _ w H locs ls h hI (lv_sub hl [0, 1, 2] rfl)
    refine lv_if_ne (tgt := 22) hx hb d_So_addCorner_15 (by decide) (fun c51 => ?_) (fun c51 => ?_)
    · skip
      have h := gie c51 h
      refine lv_aload_n hx hb d_So_addCorner_22 rfl (lv_at hl 0 rfl) ?_
      obtain ⟨v52, e53, h⟩ := gb h
      refine gw_getJ hx hb hT hown hK hI (ci := 3) rfl i_3 6 (by decide) wd_142 (fun _ h9 => h9) e53 d_So_addCorner_23 ?_
      refine lv_lload_n hx hb d_So_addCorner_26 rfl (lv_at hl 1 rfl) ?_
      obtain ⟨u54, e55⟩ := gsome h
      refine gw_callJ e55 h (gw_runS (As := [.long v52, .long p1]) (rest := [.ref a0]) hx hb hml hown hT hK hZ hA hI (m_Ma_min2 l hst D g0 v52 p1 w u54 e55) ce_Ma_min2 wd_363 ⟨by decide, by decide⟩ rfl rfl hl.1 rfl (lv_room (Nat.le_of_ble_eq_true rfl)) d_So_addCorner_27 ⟨(show 0 + 0 ≤ 0 by omega), (show 0 + 0 ≤ 0 by omega)⟩) hI hA hexc (show 0 + 0 ≤ 0 by omega) (show 0 + 0 ≤ 0 by omega) (fun v56 w H locs h hI => ?_)
      exact hK30 _ w H locs ls h hI (lv_sub hl [0, 1, 2] rfl)
    · skip
      have h := git c51 h
      refine lv_lload_n hx hb d_So_addCorner_18 rfl (lv_at hl 1 rfl) ?_
      refine lv_goto (tgt := 30) hx hb d_So_addCorner_19 (by decide) ?_
      exact hK30 _ w H locs ls h hI (lv_sub hl [0, 1, 2] rfl)
  · skip
    have h := gie c3 h
    exact W.widen (show 0 ≤ 0 by omega) (show 0 ≤ 0 by omega) (hret _ _ (Option.some.inj h).symm _ _ _ _ d_So_addCorner_9 hI)

abbrev b_So_addRectangle : ByteArray := prog_7_method_4_code
def y_So_addRectangle : MethodName := ⟨"BodySolids$Solid", "addRectangle", "(JJJJ)V"⟩
theorem d_So_addRectangle_0 : decode b_So_addRectangle 0 = .ok (.aload_n 0, 1) := by decide +kernel
theorem d_So_addRectangle_1 : decode b_So_addRectangle 1 = .ok (.lload_n 1, 1) := by decide +kernel
theorem d_So_addRectangle_2 : decode b_So_addRectangle 2 = .ok (.lload_n 3, 1) := by decide +kernel
theorem d_So_addRectangle_3 : decode b_So_addRectangle 3 = .ok (.invokevirtual 53, 3) := by decide +kernel
theorem d_So_addRectangle_6 : decode b_So_addRectangle 6 = .ok (.aload_n 0, 1) := by decide +kernel
theorem d_So_addRectangle_7 : decode b_So_addRectangle 7 = .ok (.lload 5, 2) := by decide +kernel
theorem d_So_addRectangle_9 : decode b_So_addRectangle 9 = .ok (.lload_n 3, 1) := by decide +kernel
theorem d_So_addRectangle_10 : decode b_So_addRectangle 10 = .ok (.invokevirtual 53, 3) := by decide +kernel
theorem d_So_addRectangle_13 : decode b_So_addRectangle 13 = .ok (.aload_n 0, 1) := by decide +kernel
theorem d_So_addRectangle_14 : decode b_So_addRectangle 14 = .ok (.lload 5, 2) := by decide +kernel
theorem d_So_addRectangle_16 : decode b_So_addRectangle 16 = .ok (.lload 7, 2) := by decide +kernel
theorem d_So_addRectangle_18 : decode b_So_addRectangle 18 = .ok (.invokevirtual 53, 3) := by decide +kernel
theorem d_So_addRectangle_21 : decode b_So_addRectangle 21 = .ok (.aload_n 0, 1) := by decide +kernel
theorem d_So_addRectangle_22 : decode b_So_addRectangle 22 = .ok (.lload_n 1, 1) := by decide +kernel
theorem d_So_addRectangle_23 : decode b_So_addRectangle 23 = .ok (.lload 7, 2) := by decide +kernel
theorem d_So_addRectangle_25 : decode b_So_addRectangle 25 = .ok (.invokevirtual 53, 3) := by decide +kernel
theorem d_So_addRectangle_28 : decode b_So_addRectangle 28 = .ok (.return_, 1) := by decide +kernel
abbrev rm_So_addRectangle : Room := { frames := 2, cells := 0, slots := 0, locals := 47 }
theorem ce_So_addRectangle : gCe y_So_addRectangle (.code y_So_addRectangle b_So_addRectangle 9 none) 9 4 false := gCe.code wd_552 wd_56 wd_550 (by decide) (by decide +kernel)
def f_So_addRectangle (g0 : gG) (a0 : Nat) (p1 : Int64) (p2 : Int64) (p3 : Int64) (p4 : Int64) (w : gW) : gX Unit := (gck w a0 3).bind fun _ => gbind (f_So_addCorner g0 a0 p1 p2 w) fun v5 w => (gck w a0 3).bind fun _ => gbind (f_So_addCorner g0 a0 p3 p2 w) fun v10 w => (gck w a0 3).bind fun _ => gbind (f_So_addCorner g0 a0 p3 p4 w) fun v15 w => (gck w a0 3).bind fun _ => gbind (f_So_addCorner g0 a0 p1 p4 w) fun v20 w => some (.inr (), w)
set_option maxHeartbeats 4000000 in
set_option maxRecDepth 100000 in
theorem m_So_addRectangle (l : Launch) (hst : l.stackTraces = false) (D : gD) (g0 : gG) (a0 : Nat) (p1 : Int64) (p2 : Int64) (p3 : Int64) (p4 : Int64) (w : gW) (r : (String ⊕ Unit) × gW) (h : f_So_addRectangle g0 a0 p1 p2 p3 p4 w = some r) : gMet l y_So_addRectangle (.code y_So_addRectangle b_So_addRectangle 9 none) rm_So_addRectangle D g0 [.ref a0, .long p1, .long p2, .long p3, .long p4] w (goV r) := by
  refine gw_ofV (by decide +kernel) (Nat.le_of_ble_eq_true rfl) ?_
  intro p e s m below meth c ls args A Q hx hb hml hown hlocks hin hnt hT hK hZ hA hret hexc hthr hI hl
  obtain ⟨H, hH⟩ : ∃ H, H = s.heap := ⟨_, rfl⟩
  rw [← hH] at hI ⊢
  obtain ⟨locs, hlocs⟩ : ∃ z : List Loc, z = [] := ⟨_, rfl⟩
  rw [← hlocs] at hI ⊢
  have hl : lv_has ls 9 [(0, .ref a0), (1, .long p1), (3, .long p2), (5, .long p3), (7, .long p4)] := hl
  unfold f_So_addRectangle at h
  refine lv_aload_n hx hb d_So_addRectangle_0 rfl (lv_at hl 0 rfl) ?_
  refine lv_lload_n hx hb d_So_addRectangle_1 rfl (lv_at hl 1 rfl) ?_
  refine lv_lload_n hx hb d_So_addRectangle_2 rfl (lv_at hl 2 rfl) ?_
  obtain ⟨q3, e4, h⟩ := gb h
  obtain ⟨u1, e2⟩ := gsome h
  refine gw_callV e2 h (gw_runV (As := [.long p1, .long p2]) (rest := []) hx hb hml hown hT hK hZ hA hI (ci := 3) rfl e4 (m_So_addCorner l hst D g0 a0 p1 p2 w u1 e2) ce_So_addCorner wd_359 wd_361 ⟨by decide, by decide⟩ rfl rfl hl.1 rfl (lv_room (Nat.le_of_ble_eq_true rfl)) d_So_addRectangle_3 ⟨(show 0 + 0 ≤ 0 by omega), (show 0 + 0 ≤ 0 by omega)⟩) hI hA hexc (show 0 + 0 ≤ 0 by omega) (show 0 + 0 ≤ 0 by omega) (fun v5 w H locs h hI => ?_)
  refine lv_aload_n hx hb d_So_addRectangle_6 rfl (lv_at hl 0 rfl) ?_
  refine lv_lload hx hb d_So_addRectangle_7 (lv_at hl 3 rfl) ?_
  refine lv_lload_n hx hb d_So_addRectangle_9 rfl (lv_at hl 2 rfl) ?_
  obtain ⟨q8, e9, h⟩ := gb h
  obtain ⟨u6, e7⟩ := gsome h
  refine gw_callV e7 h (gw_runV (As := [.long p3, .long p2]) (rest := []) hx hb hml hown hT hK hZ hA hI (ci := 3) rfl e9 (m_So_addCorner l hst D g0 a0 p3 p2 w u6 e7) ce_So_addCorner wd_359 wd_361 ⟨by decide, by decide⟩ rfl rfl hl.1 rfl (lv_room (Nat.le_of_ble_eq_true rfl)) d_So_addRectangle_10 ⟨(show 0 + 0 ≤ 0 by omega), (show 0 + 0 ≤ 0 by omega)⟩) hI hA hexc (show 0 + 0 ≤ 0 by omega) (show 0 + 0 ≤ 0 by omega) (fun v10 w H locs h hI => ?_)
  refine lv_aload_n hx hb d_So_addRectangle_13 rfl (lv_at hl 0 rfl) ?_
  refine lv_lload hx hb d_So_addRectangle_14 (lv_at hl 3 rfl) ?_
  refine lv_lload hx hb d_So_addRectangle_16 (lv_at hl 4 rfl) ?_
  obtain ⟨q13, e14, h⟩ := gb h
  obtain ⟨u11, e12⟩ := gsome h
  refine gw_callV e12 h (gw_runV (As := [.long p3, .long p4]) (rest := []) hx hb hml hown hT hK hZ hA hI (ci := 3) rfl e14 (m_So_addCorner l hst D g0 a0 p3 p4 w u11 e12) ce_So_addCorner wd_359 wd_361 ⟨by decide, by decide⟩ rfl rfl hl.1 rfl (lv_room (Nat.le_of_ble_eq_true rfl)) d_So_addRectangle_18 ⟨(show 0 + 0 ≤ 0 by omega), (show 0 + 0 ≤ 0 by omega)⟩) hI hA hexc (show 0 + 0 ≤ 0 by omega) (show 0 + 0 ≤ 0 by omega) (fun v15 w H locs h hI => ?_)
  refine lv_aload_n hx hb d_So_addRectangle_21 rfl (lv_at hl 0 rfl) ?_
  refine lv_lload_n hx hb d_So_addRectangle_22 rfl (lv_at hl 1 rfl) ?_
  refine lv_lload hx hb d_So_addRectangle_23 (lv_at hl 4 rfl) ?_
  obtain ⟨q18, e19, h⟩ := gb h
  obtain ⟨u16, e17⟩ := gsome h
  refine gw_callV e17 h (gw_runV (As := [.long p1, .long p4]) (rest := []) hx hb hml hown hT hK hZ hA hI (ci := 3) rfl e19 (m_So_addCorner l hst D g0 a0 p1 p4 w u16 e17) ce_So_addCorner wd_359 wd_361 ⟨by decide, by decide⟩ rfl rfl hl.1 rfl (lv_room (Nat.le_of_ble_eq_true rfl)) d_So_addRectangle_25 ⟨(show 0 + 0 ≤ 0 by omega), (show 0 + 0 ≤ 0 by omega)⟩) hI hA hexc (show 0 + 0 ≤ 0 by omega) (show 0 + 0 ≤ 0 by omega) (fun v20 w H locs h hI => ?_)
  exact W.widen (show 0 ≤ 0 by omega) (show 0 ≤ 0 by omega) (hret _ _ (Option.some.inj h).symm _ _ _ _ d_So_addRectangle_28 hI)

abbrev b_So_setHeights : ByteArray := prog_7_method_5_code
def y_So_setHeights : MethodName := ⟨"BodySolids$Solid", "setHeights", "(JJ)V"⟩
theorem d_So_setHeights_0 : decode b_So_setHeights 0 = .ok (.aload_n 0, 1) := by decide +kernel
theorem d_So_setHeights_1 : decode b_So_setHeights 1 = .ok (.lload_n 1, 1) := by decide +kernel
theorem d_So_setHeights_2 : decode b_So_setHeights 2 = .ok (.putfield 57, 3) := by decide +kernel
theorem d_So_setHeights_5 : decode b_So_setHeights 5 = .ok (.aload_n 0, 1) := by decide +kernel
theorem d_So_setHeights_6 : decode b_So_setHeights 6 = .ok (.lload_n 3, 1) := by decide +kernel
theorem d_So_setHeights_7 : decode b_So_setHeights 7 = .ok (.putfield 60, 3) := by decide +kernel
theorem d_So_setHeights_10 : decode b_So_setHeights 10 = .ok (.return_, 1) := by decide +kernel
abbrev rm_So_setHeights : Room := { frames := 0, cells := 0, slots := 0, locals := 0 }
theorem ce_So_setHeights : gCe y_So_setHeights (.code y_So_setHeights b_So_setHeights 5 none) 5 2 false := gCe.code wd_368 wd_56 wd_366 (by decide) (by decide +kernel)
def f_So_setHeights (g0 : gG) (a0 : Nat) (p1 : Int64) (p2 : Int64) (w : gW) : gX Unit := (gp w a0 3 8 (.long p1)).bind fun w => (gp w a0 3 11 (.long p2)).bind fun w => some (.inr (), w)
set_option maxHeartbeats 4000000 in
set_option maxRecDepth 100000 in
theorem m_So_setHeights (l : Launch) (hst : l.stackTraces = false) (D : gD) (g0 : gG) (a0 : Nat) (p1 : Int64) (p2 : Int64) (w : gW) (r : (String ⊕ Unit) × gW) (h : f_So_setHeights g0 a0 p1 p2 w = some r) : gMet l y_So_setHeights (.code y_So_setHeights b_So_setHeights 5 none) rm_So_setHeights D g0 [.ref a0, .long p1, .long p2] w (goV r) := by
  refine gw_ofV (by decide +kernel) (Nat.le_of_ble_eq_true rfl) ?_
  intro p e s m below meth c ls args A Q hx hb hml hown hlocks hin hnt hT hK hZ hA hret hexc hthr hI hl
  obtain ⟨H, hH⟩ : ∃ H, H = s.heap := ⟨_, rfl⟩
  rw [← hH] at hI ⊢
  obtain ⟨locs, hlocs⟩ : ∃ z : List Loc, z = [] := ⟨_, rfl⟩
  rw [← hlocs] at hI ⊢
  have hl : lv_has ls 5 [(0, .ref a0), (1, .long p1), (3, .long p2)] := hl
  unfold f_So_setHeights at h
  refine lv_aload_n hx hb d_So_setHeights_0 rfl (lv_at hl 0 rfl) ?_
  refine lv_lload_n hx hb d_So_setHeights_1 rfl (lv_at hl 1 rfl) ?_
  obtain ⟨w, e1, h⟩ := gb h
  refine gw_put hx hb hT hown hK hI (ci := 3) rfl i_3 t_3 t_3_ok n_3 8 (by decide) wd_146 (fun _ h9 => h9) rfl (ty := .long) (by decide +kernel) rfl rfl e1 d_So_setHeights_2 (fun H locs hI => ?_)
  refine lv_aload_n hx hb d_So_setHeights_5 rfl (lv_at hl 0 rfl) ?_
  refine lv_lload_n hx hb d_So_setHeights_6 rfl (lv_at hl 2 rfl) ?_
  obtain ⟨w, e2, h⟩ := gb h
  refine gw_put hx hb hT hown hK hI (ci := 3) rfl i_3 t_3 t_3_ok n_3 11 (by decide) wd_152 (fun _ h9 => h9) rfl (ty := .long) (by decide +kernel) rfl rfl e2 d_So_setHeights_7 (fun H locs hI => ?_)
  exact W.widen (show 0 ≤ 0 by omega) (show 0 ≤ 0 by omega) (hret _ _ (Option.some.inj h).symm _ _ _ _ d_So_setHeights_10 hI)

abbrev b_By_add : ByteArray := prog_2_method_3_code
def y_By_add : MethodName := ⟨"BodySolids$Body", "add", "(LBodySolids$Solid;J)V"⟩
theorem d_By_add_0 : decode b_By_add 0 = .ok (.aload_n 0, 1) := by decide +kernel
theorem d_By_add_1 : decode b_By_add 1 = .ok (.getfield 12, 3) := by decide +kernel
theorem d_By_add_4 : decode b_By_add 4 = .ok (.aload_n 1, 1) := by decide +kernel
theorem d_By_add_5 : decode b_By_add 5 = .ok (.invokevirtual 26, 3) := by decide +kernel
theorem d_By_add_8 : decode b_By_add 8 = .ok (.pop, 1) := by decide +kernel
theorem d_By_add_9 : decode b_By_add 9 = .ok (.aload_n 0, 1) := by decide +kernel
theorem d_By_add_10 : decode b_By_add 10 = .ok (.dup, 1) := by decide +kernel
theorem d_By_add_11 : decode b_By_add 11 = .ok (.getfield 18, 3) := by decide +kernel
theorem d_By_add_14 : decode b_By_add 14 = .ok (.lload_n 2, 1) := by decide +kernel
theorem d_By_add_15 : decode b_By_add 15 = .ok (.ladd, 1) := by decide +kernel
theorem d_By_add_16 : decode b_By_add 16 = .ok (.putfield 18, 3) := by decide +kernel
theorem d_By_add_19 : decode b_By_add 19 = .ok (.return_, 1) := by decide +kernel
abbrev rm_By_add : Room := { frames := 7, cells := 1, slots := 64, locals := 179 }
theorem ce_By_add : gCe y_By_add (.code y_By_add b_By_add 4 none) 4 2 false := gCe.code wd_558 wd_58 wd_556 (by decide) (by decide +kernel)
def f_By_add (g0 : gG) (a0 : Nat) (a1 : Nat) (p2 : Int64) (w : gW) : gX Unit := (gfA w a0 4 0).bind fun v1 => (gck w v1 1).bind fun _ => gbind (f_AL_add g0 v1 a1 w) fun v7 w => (gfJ w a0 4 1).bind fun v8 => (gp w a0 4 1 (.long (v8 + p2))).bind fun w => some (.inr (), w)
set_option maxHeartbeats 4000000 in
set_option maxRecDepth 100000 in
theorem m_By_add (l : Launch) (hst : l.stackTraces = false) (D : gD) (g0 : gG) (a0 : Nat) (a1 : Nat) (p2 : Int64) (w : gW) (r : (String ⊕ Unit) × gW) (h : f_By_add g0 a0 a1 p2 w = some r) : gMet l y_By_add (.code y_By_add b_By_add 4 none) rm_By_add D g0 [.ref a0, .ref a1, .long p2] w (goV r) := by
  refine gw_ofV (by decide +kernel) (Nat.le_of_ble_eq_true rfl) ?_
  intro p e s m below meth c ls args A Q hx hb hml hown hlocks hin hnt hT hK hZ hA hret hexc hthr hI hl
  obtain ⟨H, hH⟩ : ∃ H, H = s.heap := ⟨_, rfl⟩
  rw [← hH] at hI ⊢
  obtain ⟨locs, hlocs⟩ : ∃ z : List Loc, z = [] := ⟨_, rfl⟩
  rw [← hlocs] at hI ⊢
  have hl : lv_has ls 4 [(0, .ref a0), (1, .ref a1), (2, .long p2)] := hl
  unfold f_By_add at h
  refine lv_aload_n hx hb d_By_add_0 rfl (lv_at hl 0 rfl) ?_
  obtain ⟨v1, e2, h⟩ := gb h
  refine gw_getA hx hb hT hown hK hI (ci := 4) rfl i_4 0 (by decide) wd_236 (fun _ h9 => h9) e2 d_By_add_1 ?_
  refine lv_aload_n hx hb d_By_add_4 rfl (lv_at hl 1 rfl) ?_
  obtain ⟨q5, e6, h⟩ := gb h
  obtain ⟨u3, e4⟩ := gsome h
  refine gw_callI e4 h (gw_runV (As := [.ref a1]) (rest := []) hx hb hml hown hT hK hZ hA hI (ci := 1) rfl e6 (m_AL_add l hst D g0 v1 a1 w u3 e4) ce_AL_add wd_559 wd_252 ⟨by decide, by decide⟩ rfl rfl hl.1 rfl (lv_room (Nat.le_of_ble_eq_true rfl)) d_By_add_5 ⟨(show 0 + 1 ≤ 1 by omega), (show 0 + 64 ≤ 64 by omega)⟩) hI hA hexc (show 0 + 1 ≤ 1 by omega) (show 0 + 64 ≤ 64 by omega) (fun v7 w H locs h hI => ?_)
  refine W.widen (k := 1) (n := 64) (show 0 + 1 ≤ 1 by omega) (show 0 + 64 ≤ 64 by omega) ?_
  refine lv_pop hx hb d_By_add_8 rfl ?_
  refine lv_aload_n hx hb d_By_add_9 rfl (lv_at hl 0 rfl) ?_
  refine lv_dup hx hb d_By_add_10 rfl ?_
  obtain ⟨v8, e9, h⟩ := gb h
  refine gw_getJ hx hb hT hown hK hI (ci := 4) rfl i_4 1 (by decide) wd_239 (fun _ h9 => h9) e9 d_By_add_11 ?_
  refine lv_lload_n hx hb d_By_add_14 rfl (lv_at hl 2 rfl) ?_
  refine lv_ladd hx hb d_By_add_15 ?_
  obtain ⟨w, e10, h⟩ := gb h
  refine gw_put hx hb hT hown hK hI (ci := 4) rfl i_4 t_4 t_4_ok n_4 1 (by decide) wd_239 (fun _ h9 => h9) rfl (ty := .long) (by decide +kernel) rfl rfl e10 d_By_add_16 (fun H locs hI => ?_)
  exact W.widen (show 1 ≤ 1 by omega) (show 64 ≤ 64 by omega) (hret _ _ (Option.some.inj h).symm _ _ _ _ d_By_add_19 hI)

abbrev b_B_relationSlot : ByteArray := prog_1_method_32_code
def y_B_relationSlot : MethodName := ⟨"BodySolids", "relationSlot", "(II)I"⟩
theorem d_B_relationSlot_0 : decode b_B_relationSlot 0 = .ok (.iload_n 0, 1) := by decide +kernel
theorem d_B_relationSlot_1 : decode b_B_relationSlot 1 = .ok (.iload_n 1, 1) := by decide +kernel
theorem d_B_relationSlot_2 : decode b_B_relationSlot 2 = .ok (.invokestatic 268, 3) := by decide +kernel
theorem d_B_relationSlot_5 : decode b_B_relationSlot 5 = .ok (.bipush 30, 2) := by decide +kernel
theorem d_B_relationSlot_7 : decode b_B_relationSlot 7 = .ok (.imul, 1) := by decide +kernel
theorem d_B_relationSlot_8 : decode b_B_relationSlot 8 = .ok (.iload_n 0, 1) := by decide +kernel
theorem d_B_relationSlot_9 : decode b_B_relationSlot 9 = .ok (.iload_n 1, 1) := by decide +kernel
theorem d_B_relationSlot_10 : decode b_B_relationSlot 10 = .ok (.invokestatic 270, 3) := by decide +kernel
theorem d_B_relationSlot_13 : decode b_B_relationSlot 13 = .ok (.iadd, 1) := by decide +kernel
theorem d_B_relationSlot_14 : decode b_B_relationSlot 14 = .ok (.ireturn, 1) := by decide +kernel
abbrev rm_B_relationSlot : Room := { frames := 1, cells := 0, slots := 0, locals := 21 }
theorem ce_B_relationSlot : gCe y_B_relationSlot (.code y_B_relationSlot b_B_relationSlot 2 (some .int)) 2 2 true := gCe.code wd_318 wd_49 wd_317 (by decide) (by decide +kernel)
def f_B_relationSlot (g0 : gG) (p0 : Int32) (p1 : Int32) (w : gW) : gX Int32 := gbind (f_Ma_min g0 p0 p1 w) fun v3 w => gbind (f_Ma_max g0 p0 p1 w) fun v6 w => some (.inr ((v3 * 30) + v6), w)
set_option maxHeartbeats 4000000 in
set_option maxRecDepth 100000 in
theorem m_B_relationSlot (l : Launch) (hst : l.stackTraces = false) (D : gD) (g0 : gG) (p0 : Int32) (p1 : Int32) (w : gW) (r : (String ⊕ Int32) × gW) (h : f_B_relationSlot g0 p0 p1 w = some r) : gMet l y_B_relationSlot (.code y_B_relationSlot b_B_relationSlot 2 (some .int)) rm_B_relationSlot D g0 [.int p0, .int p1] w (goI r) := by
  refine gw_ofI (by decide +kernel) (Nat.le_of_ble_eq_true rfl) ?_
  intro p e s m below meth c ls args A Q hx hb hml hown hlocks hin hnt hT hK hZ hA hret hexc hthr hI hl
  obtain ⟨H, hH⟩ : ∃ H, H = s.heap := ⟨_, rfl⟩
  rw [← hH] at hI ⊢
  obtain ⟨locs, hlocs⟩ : ∃ z : List Loc, z = [] := ⟨_, rfl⟩
  rw [← hlocs] at hI ⊢
  have hl : lv_has ls 2 [(0, .int p0), (1, .int p1)] := hl
  unfold f_B_relationSlot at h
  refine lv_iload_n hx hb d_B_relationSlot_0 rfl (lv_at hl 0 rfl) ?_
  refine lv_iload_n hx hb d_B_relationSlot_1 rfl (lv_at hl 1 rfl) ?_
  obtain ⟨u1, e2⟩ := gsome h
  refine gw_callI e2 h (gw_runS (As := [.int p0, .int p1]) (rest := []) hx hb hml hown hT hK hZ hA hI (m_Ma_min l hst D g0 p0 p1 w u1 e2) ce_Ma_min wd_319 ⟨by decide, by decide⟩ rfl rfl hl.1 rfl (lv_room (Nat.le_of_ble_eq_true rfl)) d_B_relationSlot_2 ⟨(show 0 + 0 ≤ 0 by omega), (show 0 + 0 ≤ 0 by omega)⟩) hI hA hexc (show 0 + 0 ≤ 0 by omega) (show 0 + 0 ≤ 0 by omega) (fun v3 w H locs h hI => ?_)
  refine lv_bipush (v := 30) hx hb d_B_relationSlot_5 (by decide) ?_
  refine lv_imul hx hb d_B_relationSlot_7 ?_
  refine lv_iload_n hx hb d_B_relationSlot_8 rfl (lv_at hl 0 rfl) ?_
  refine lv_iload_n hx hb d_B_relationSlot_9 rfl (lv_at hl 1 rfl) ?_
  obtain ⟨u4, e5⟩ := gsome h
  refine gw_callI e5 h (gw_runS (As := [.int p0, .int p1]) (rest := [.int (v3 * 30)]) hx hb hml hown hT hK hZ hA hI (m_Ma_max l hst D g0 p0 p1 w u4 e5) ce_Ma_max wd_320 ⟨by decide, by decide⟩ rfl rfl hl.1 rfl (lv_room (Nat.le_of_ble_eq_true rfl)) d_B_relationSlot_10 ⟨(show 0 + 0 ≤ 0 by omega), (show 0 + 0 ≤ 0 by omega)⟩) hI hA hexc (show 0 + 0 ≤ 0 by omega) (show 0 + 0 ≤ 0 by omega) (fun v6 w H locs h hI => ?_)
  refine lv_iadd hx hb d_B_relationSlot_13 ?_
  exact W.widen (show 0 ≤ 0 by omega) (show 0 ≤ 0 by omega) (hret _ _ (Option.some.inj h).symm _ _ _ _ d_B_relationSlot_14 hI)

abbrev b_B_forgetRelationsAt : ByteArray := prog_1_method_33_code
def y_B_forgetRelationsAt : MethodName := ⟨"BodySolids", "forgetRelationsAt", "(I)V"⟩
theorem d_B_forgetRelationsAt_0 : decode b_B_forgetRelationsAt 0 = .ok (.iconst 0, 1) := by decide +kernel
theorem d_B_forgetRelationsAt_1 : decode b_B_forgetRelationsAt 1 = .ok (.istore_n 2, 1) := by decide +kernel
theorem d_B_forgetRelationsAt_2 : decode b_B_forgetRelationsAt 2 = .ok (.iload_n 2, 1) := by decide +kernel
theorem d_B_forgetRelationsAt_3 : decode b_B_forgetRelationsAt 3 = .ok (.bipush 30, 2) := by decide +kernel
theorem d_B_forgetRelationsAt_5 : decode b_B_forgetRelationsAt 5 = .ok (.if_icmp .ge 20, 3) := by decide +kernel
theorem d_B_forgetRelationsAt_8 : decode b_B_forgetRelationsAt 8 = .ok (.aload_n 0, 1) := by decide +kernel
theorem d_B_forgetRelationsAt_9 : decode b_B_forgetRelationsAt 9 = .ok (.getfield 48, 3) := by decide +kernel
theorem d_B_forgetRelationsAt_12 : decode b_B_forgetRelationsAt 12 = .ok (.iload_n 1, 1) := by decide +kernel
theorem d_B_forgetRelationsAt_13 : decode b_B_forgetRelationsAt 13 = .ok (.iload_n 2, 1) := by decide +kernel
theorem d_B_forgetRelationsAt_14 : decode b_B_forgetRelationsAt 14 = .ok (.invokestatic 272, 3) := by decide +kernel
theorem d_B_forgetRelationsAt_17 : decode b_B_forgetRelationsAt 17 = .ok (.iconst (-1), 1) := by decide +kernel
theorem d_B_forgetRelationsAt_18 : decode b_B_forgetRelationsAt 18 = .ok (.iastore, 1) := by decide +kernel
theorem d_B_forgetRelationsAt_19 : decode b_B_forgetRelationsAt 19 = .ok (.iinc 2 1, 3) := by decide +kernel
theorem d_B_forgetRelationsAt_22 : decode b_B_forgetRelationsAt 22 = .ok (.goto (-20), 3) := by decide +kernel
theorem d_B_forgetRelationsAt_25 : decode b_B_forgetRelationsAt 25 = .ok (.return_, 1) := by decide +kernel
abbrev rm_B_forgetRelationsAt : Room := { frames := 2, cells := 0, slots := 0, locals := 42 }
theorem ce_B_forgetRelationsAt : gCe y_B_forgetRelationsAt (.code y_B_forgetRelationsAt b_B_forgetRelationsAt 3 none) 3 1 false := gCe.code wd_567 wd_49 wd_566 (by decide) (by decide +kernel)
def f_B_forgetRelationsAt_L2 (g0 : gG) (c0 : Nat) (c1 : Int32) (K25 : gW → gX Unit) : Nat → Int32 → gW → gX Unit
  | 0, _, _ => none
  | n + 1, z2, w => if 30 ≤ z2 then (K25 w) else ((gfA w c0 0 7).bind fun v2 => gbind (f_B_relationSlot g0 c1 z2 w) fun v6 w => (gsI w v2 v6 (-1)).bind fun w => f_B_forgetRelationsAt_L2 g0 c0 c1 K25 n (z2 + 1) w)
def f_B_forgetRelationsAt (g0 : gG) (a0 : Nat) (p1 : Int32) (w : gW) : gX Unit := gjoin (fun K25 => f_B_forgetRelationsAt_L2 g0 a0 p1 K25 64 0 w) (fun (w : gW) => some (.inr (), w))
set_option maxHeartbeats 4000000 in
set_option maxRecDepth 100000 in
theorem m_B_forgetRelationsAt (l : Launch) (hst : l.stackTraces = false) (D : gD) (g0 : gG) (a0 : Nat) (p1 : Int32) (w : gW) (r : (String ⊕ Unit) × gW) (h : f_B_forgetRelationsAt g0 a0 p1 w = some r) : gMet l y_B_forgetRelationsAt (.code y_B_forgetRelationsAt b_B_forgetRelationsAt 3 none) rm_B_forgetRelationsAt D g0 [.ref a0, .int p1] w (goV r) := by
  refine gw_ofV (by decide +kernel) (Nat.le_of_ble_eq_true rfl) ?_
  intro p e s m below meth c ls args A Q hx hb hml hown hlocks hin hnt hT hK hZ hA hret hexc hthr hI hl
  obtain ⟨H, hH⟩ : ∃ H, H = s.heap := ⟨_, rfl⟩
  rw [← hH] at hI ⊢
  obtain ⟨locs, hlocs⟩ : ∃ z : List Loc, z = [] := ⟨_, rfl⟩
  rw [← hlocs] at hI ⊢
  have hl : lv_has ls 3 [(0, .ref a0), (1, .int p1)] := hl
  unfold f_B_forgetRelationsAt at h
  refine lv_iconst (v := 0) hx hb d_B_forgetRelationsAt_0 (by decide) ?_
  refine lv_istore_n (lv' := [(2, .int 0), (0, .ref a0), (1, .int p1)]) hx hb d_B_forgetRelationsAt_1 rfl hl (by decide) rfl (fun ls hl => ?_)
  obtain ⟨K25, eK25, h⟩ := gj h
  have hK25 : ∀ (w : gW) (H : Heap) (locs : List Loc) (ls : Array Slot), K25 w = some r → gI D s A w H locs → lv_has ls 3 [] → W p l e rm_B_forgetRelationsAt s m args below meth c H locs 0 0 Q (F0 m 25 ls []) := by
    intro w H locs ls h hI hl
    have h := gk1 eK25 h
    exact W.widen (show 0 ≤ 0 by omega) (show 0 ≤ 0 by omega) (hret _ _ (Option.some.inj h).symm _ _ _ _ d_B_forgetRelationsAt_25 hI)
  have hL2 : ∀ (n : Nat), ∀ (z1 : Int32) (w : gW) (H : Heap) (locs : List Loc) (ls : Array Slot), f_B_forgetRelationsAt_L2 g0 a0 p1 K25 n z1 w = some r → gI D s A w H locs → lv_has ls 3 [(0, .ref a0), (1, .int p1), (2, .int z1)] → W p l e rm_B_forgetRelationsAt s m args below meth c H locs 0 0 Q (F0 m 2 ls []) := by
    intro n
    induction n with
    | zero => intro z1 w H locs ls h hI hl; exact absurd h (by simp [f_B_forgetRelationsAt_L2])
    | succ n ih =>
      intro z1 w H locs ls h hI hl
      rw [f_B_forgetRelationsAt_L2] at h
      refine lv_iload_n hx hb d_B_forgetRelationsAt_2 rfl (lv_at hl 2 rfl) ?_
      refine lv_bipush (v := 30) hx hb d_B_forgetRelationsAt_3 (by decide) ?_
      refine lv_icmp_ge (tgt := 25) hx hb d_B_forgetRelationsAt_5 (by decide) (fun c2 => ?_) (fun c2 => ?_)
      · skip
        have h := git c2 h
        exact hK25 w H locs ls h hI (lv_sub hl [] rfl)
      · skip
        have h := gie c2 h
        refine lv_aload_n hx hb d_B_forgetRelationsAt_8 rfl (lv_at hl 0 rfl) ?_
        obtain ⟨v3, e4, h⟩ := gb h
        refine gw_getA hx hb hT hown hK hI (ci := 0) rfl i_0 7 (by decide) wd_196 (fun _ h9 => h9) e4 d_B_forgetRelationsAt_9 ?_
        refine lv_iload_n hx hb d_B_forgetRelationsAt_12 rfl (lv_at hl 1 rfl) ?_
        refine lv_iload_n hx hb d_B_forgetRelationsAt_13 rfl (lv_at hl 2 rfl) ?_
        obtain ⟨u5, e6⟩ := gsome h
        refine gw_callI e6 h (gw_runS (As := [.int p1, .int z1]) (rest := [.ref v3]) hx hb hml hown hT hK hZ hA hI (m_B_relationSlot l hst D g0 p1 z1 w u5 e6) ce_B_relationSlot wd_316 ⟨by decide, by decide⟩ rfl rfl hl.1 rfl (lv_room (Nat.le_of_ble_eq_true rfl)) d_B_forgetRelationsAt_14 ⟨(show 0 + 0 ≤ 0 by omega), (show 0 + 0 ≤ 0 by omega)⟩) hI hA hexc (show 0 + 0 ≤ 0 by omega) (show 0 + 0 ≤ 0 by omega) (fun v7 w H locs h hI => ?_)
        refine lv_iconst (v := -1) hx hb d_B_forgetRelationsAt_17 (by decide) ?_
        obtain ⟨w, e8, h⟩ := gb h
        refine gw_astI hx hb hK hI e8 d_B_forgetRelationsAt_18 (fun H locs hI => ?_)
        refine lv_iinc (v := z1 + 1) (lv' := [(2, .int (z1 + 1)), (0, .ref a0), (1, .int p1)]) hx hb d_B_forgetRelationsAt_19 hl (k := 2) rfl rfl (by decide) rfl (fun ls hl => ?_)
        refine lv_goto (tgt := 2) hx hb d_B_forgetRelationsAt_22 (by decide) ?_
        exact ih _ w H locs ls h hI (lv_sub hl [1, 2, 0] rfl)
  exact hL2 64 _ w H locs ls h hI (lv_sub hl [1, 2, 0] rfl)

abbrev b_B_forgetRelationsOf : ByteArray := prog_1_method_34_code
def y_B_forgetRelationsOf : MethodName := ⟨"BodySolids", "forgetRelationsOf", "(LBodySolids$Body;)V"⟩
theorem d_B_forgetRelationsOf_0 : decode b_B_forgetRelationsOf 0 = .ok (.iconst 0, 1) := by decide +kernel
theorem d_B_forgetRelationsOf_1 : decode b_B_forgetRelationsOf 1 = .ok (.istore_n 2, 1) := by decide +kernel
theorem d_B_forgetRelationsOf_2 : decode b_B_forgetRelationsOf 2 = .ok (.iload_n 2, 1) := by decide +kernel
theorem d_B_forgetRelationsOf_3 : decode b_B_forgetRelationsOf 3 = .ok (.aload_n 0, 1) := by decide +kernel
theorem d_B_forgetRelationsOf_4 : decode b_B_forgetRelationsOf 4 = .ok (.getfield 31, 3) := by decide +kernel
theorem d_B_forgetRelationsOf_7 : decode b_B_forgetRelationsOf 7 = .ok (.invokevirtual 68, 3) := by decide +kernel
theorem d_B_forgetRelationsOf_10 : decode b_B_forgetRelationsOf 10 = .ok (.if_icmp .ge 32, 3) := by decide +kernel
theorem d_B_forgetRelationsOf_13 : decode b_B_forgetRelationsOf 13 = .ok (.aload_n 0, 1) := by decide +kernel
theorem d_B_forgetRelationsOf_14 : decode b_B_forgetRelationsOf 14 = .ok (.getfield 31, 3) := by decide +kernel
theorem d_B_forgetRelationsOf_17 : decode b_B_forgetRelationsOf 17 = .ok (.iload_n 2, 1) := by decide +kernel
theorem d_B_forgetRelationsOf_18 : decode b_B_forgetRelationsOf 18 = .ok (.invokevirtual 205, 3) := by decide +kernel
theorem d_B_forgetRelationsOf_21 : decode b_B_forgetRelationsOf 21 = .ok (.checkcast 164, 3) := by decide +kernel
theorem d_B_forgetRelationsOf_24 : decode b_B_forgetRelationsOf 24 = .ok (.getfield 275, 3) := by decide +kernel
theorem d_B_forgetRelationsOf_27 : decode b_B_forgetRelationsOf 27 = .ok (.aload_n 1, 1) := by decide +kernel
theorem d_B_forgetRelationsOf_28 : decode b_B_forgetRelationsOf 28 = .ok (.if_acmp .ne 8, 3) := by decide +kernel
theorem d_B_forgetRelationsOf_31 : decode b_B_forgetRelationsOf 31 = .ok (.aload_n 0, 1) := by decide +kernel
theorem d_B_forgetRelationsOf_32 : decode b_B_forgetRelationsOf 32 = .ok (.iload_n 2, 1) := by decide +kernel
theorem d_B_forgetRelationsOf_33 : decode b_B_forgetRelationsOf 33 = .ok (.invokevirtual 182, 3) := by decide +kernel
theorem d_B_forgetRelationsOf_36 : decode b_B_forgetRelationsOf 36 = .ok (.iinc 2 1, 3) := by decide +kernel
theorem d_B_forgetRelationsOf_39 : decode b_B_forgetRelationsOf 39 = .ok (.goto (-37), 3) := by decide +kernel
theorem d_B_forgetRelationsOf_42 : decode b_B_forgetRelationsOf 42 = .ok (.return_, 1) := by decide +kernel
abbrev rm_B_forgetRelationsOf : Room := { frames := 3, cells := 0, slots := 0, locals := 64 }
theorem ce_B_forgetRelationsOf : gCe y_B_forgetRelationsOf (.code y_B_forgetRelationsOf b_B_forgetRelationsOf 3 none) 3 1 false := gCe.code wd_563 wd_49 wd_562 (by decide) (by decide +kernel)
def f_B_forgetRelationsOf_L2 (g0 : gG) (c0 : Nat) (c1 : Nat) (K42 : gW → gX Unit) : Nat → Int32 → gW → gX Unit
  | 0, _, _ => none
  | n + 1, z2, w => (gfA w c0 0 2).bind fun v1 => (gck w v1 1).bind fun _ => gbind (f_AL_size g0 v1 w) fun v7 w => if v7 ≤ z2 then (K42 w) else ((gfA w c0 0 2).bind fun v9 => (gck w v9 1).bind fun _ => gbind (f_AL_get g0 v9 z2 w) fun v15 w => (gck w v15 5).bind fun _ => (gfA w v15 5 0).bind fun v18 => gjoin (fun K36 => if v18 = c1 then ((gck w c0 0).bind fun _ => gbind (f_B_forgetRelationsAt g0 c0 z2 w) fun v25 w => K36 w) else (K36 w)) (fun (w : gW) => f_B_forgetRelationsOf_L2 g0 c0 c1 K42 n (z2 + 1) w))
def f_B_forgetRelationsOf (g0 : gG) (a0 : Nat) (a1 : Nat) (w : gW) : gX Unit := gjoin (fun K42 => f_B_forgetRelationsOf_L2 g0 a0 a1 K42 64 0 w) (fun (w : gW) => some (.inr (), w))
set_option maxHeartbeats 4000000 in
set_option maxRecDepth 100000 in
theorem m_B_forgetRelationsOf (l : Launch) (hst : l.stackTraces = false) (D : gD) (g0 : gG) (a0 : Nat) (a1 : Nat) (w : gW) (r : (String ⊕ Unit) × gW) (h : f_B_forgetRelationsOf g0 a0 a1 w = some r) : gMet l y_B_forgetRelationsOf (.code y_B_forgetRelationsOf b_B_forgetRelationsOf 3 none) rm_B_forgetRelationsOf D g0 [.ref a0, .ref a1] w (goV r) := by
  refine gw_ofV (by decide +kernel) (Nat.le_of_ble_eq_true rfl) ?_
  intro p e s m below meth c ls args A Q hx hb hml hown hlocks hin hnt hT hK hZ hA hret hexc hthr hI hl
  obtain ⟨H, hH⟩ : ∃ H, H = s.heap := ⟨_, rfl⟩
  rw [← hH] at hI ⊢
  obtain ⟨locs, hlocs⟩ : ∃ z : List Loc, z = [] := ⟨_, rfl⟩
  rw [← hlocs] at hI ⊢
  have hl : lv_has ls 3 [(0, .ref a0), (1, .ref a1)] := hl
  unfold f_B_forgetRelationsOf at h
  refine lv_iconst (v := 0) hx hb d_B_forgetRelationsOf_0 (by decide) ?_
  refine lv_istore_n (lv' := [(2, .int 0), (0, .ref a0), (1, .ref a1)]) hx hb d_B_forgetRelationsOf_1 rfl hl (by decide) rfl (fun ls hl => ?_)
  obtain ⟨K42, eK42, h⟩ := gj h
  have hK42 : ∀ (w : gW) (H : Heap) (locs : List Loc) (ls : Array Slot), K42 w = some r → gI D s A w H locs → lv_has ls 3 [] → W p l e rm_B_forgetRelationsOf s m args below meth c H locs 0 0 Q (F0 m 42 ls []) := by
    intro w H locs ls h hI hl
    have h := gk1 eK42 h
    exact W.widen (show 0 ≤ 0 by omega) (show 0 ≤ 0 by omega) (hret _ _ (Option.some.inj h).symm _ _ _ _ d_B_forgetRelationsOf_42 hI)
  have hL2 : ∀ (n : Nat), ∀ (z1 : Int32) (w : gW) (H : Heap) (locs : List Loc) (ls : Array Slot), f_B_forgetRelationsOf_L2 g0 a0 a1 K42 n z1 w = some r → gI D s A w H locs → lv_has ls 3 [(0, .ref a0), (1, .ref a1), (2, .int z1)] → W p l e rm_B_forgetRelationsOf s m args below meth c H locs 0 0 Q (F0 m 2 ls []) := by
    intro n
    induction n with
    | zero => intro z1 w H locs ls h hI hl; exact absurd h (by simp [f_B_forgetRelationsOf_L2])
    | succ n ih =>
      intro z1 w H locs ls h hI hl
      rw [f_B_forgetRelationsOf_L2] at h
      refine lv_iload_n hx hb d_B_forgetRelationsOf_2 rfl (lv_at hl 2 rfl) ?_
      refine lv_aload_n hx hb d_B_forgetRelationsOf_3 rfl (lv_at hl 0 rfl) ?_
      obtain ⟨v2, e3, h⟩ := gb h
      refine gw_getA hx hb hT hown hK hI (ci := 0) rfl i_0 2 (by decide) wd_191 (fun _ h9 => h9) e3 d_B_forgetRelationsOf_4 ?_
      obtain ⟨q6, e7, h⟩ := gb h
      obtain ⟨u4, e5⟩ := gsome h
      refine gw_callI e5 h (gw_runV (As := []) (rest := [.int z1]) hx hb hml hown hT hK hZ hA hI (ci := 1) rfl e7 (m_AL_size l hst D g0 v2 w u4 e5) ce_AL_size wd_224 wd_226 ⟨by decide, by decide⟩ rfl rfl hl.1 rfl (lv_room (Nat.le_of_ble_eq_true rfl)) d_B_forgetRelationsOf_7 ⟨(show 0 + 0 ≤ 0 by omega), (show 0 + 0 ≤ 0 by omega)⟩) hI hA hexc (show 0 + 0 ≤ 0 by omega) (show 0 + 0 ≤ 0 by omega) (fun v8 w H locs h hI => ?_)
      refine lv_icmp_ge (tgt := 42) hx hb d_B_forgetRelationsOf_10 (by decide) (fun c9 => ?_) (fun c9 => ?_)
      · skip
        have h := git c9 h
        exact hK42 w H locs ls h hI (lv_sub hl [] rfl)
      · skip
        have h := gie c9 h
        refine lv_aload_n hx hb d_B_forgetRelationsOf_13 rfl (lv_at hl 0 rfl) ?_
        obtain ⟨v10, e11, h⟩ := gb h
        refine gw_getA hx hb hT hown hK hI (ci := 0) rfl i_0 2 (by decide) wd_191 (fun _ h9 => h9) e11 d_B_forgetRelationsOf_14 ?_
        refine lv_iload_n hx hb d_B_forgetRelationsOf_17 rfl (lv_at hl 2 rfl) ?_
        obtain ⟨q14, e15, h⟩ := gb h
        obtain ⟨u12, e13⟩ := gsome h
        refine gw_callA e13 h (gw_runV (As := [.int z1]) (rest := []) hx hb hml hown hT hK hZ hA hI (ci := 1) rfl e15 (m_AL_get l hst D g0 v10 z1 w u12 e13) ce_AL_get wd_321 wd_323 ⟨by decide, by decide⟩ rfl rfl hl.1 rfl (lv_room (Nat.le_of_ble_eq_true rfl)) d_B_forgetRelationsOf_18 ⟨(show 0 + 0 ≤ 0 by omega), (show 0 + 0 ≤ 0 by omega)⟩) hI hA hexc (show 0 + 0 ≤ 0 by omega) (show 0 + 0 ≤ 0 by omega) (fun v16 w H locs h hI => ?_)
        obtain ⟨q18, e17, h⟩ := gb h
        refine gw_cast hx hb hT hown hK hI wd_335 (ci := 5) rfl wd_1123 e17 d_B_forgetRelationsOf_21 ?_
        obtain ⟨v19, e20, h⟩ := gb h
        refine gw_getA hx hb hT hown hK hI (ci := 5) rfl i_5 0 (by decide) wd_653 (fun _ h9 => h9) e20 d_B_forgetRelationsOf_24 ?_
        refine lv_aload_n hx hb d_B_forgetRelationsOf_27 rfl (lv_at hl 1 rfl) ?_
        obtain ⟨K36, eK36, h⟩ := gj h
        have hK36 : ∀ (w : gW) (H : Heap) (locs : List Loc) (ls : Array Slot), K36 w = some r → gI D s A w H locs → lv_has ls 3 [(0, .ref a0), (1, .ref a1), (2, .int z1)] → W p l e rm_B_forgetRelationsOf s m args below meth c H locs 0 0 Q (F0 m 36 ls []) := by
          intro w H locs ls h hI hl
          have h := gk1 eK36 h
          refine lv_iinc (v := z1 + 1) (lv' := [(2, .int (z1 + 1)), (0, .ref a0), (1, .ref a1)]) hx hb d_B_forgetRelationsOf_36 hl (k := 2) rfl rfl (by decide) rfl (fun ls hl => ?_)
          refine lv_goto (tgt := 2) hx hb d_B_forgetRelationsOf_39 (by decide) ?_
          exact ih _ w H locs ls h hI (lv_sub hl [1, 2, 0] rfl)
        refine gw_acmp_ne (tgt := 36) hx hb d_B_forgetRelationsOf_28 (by decide) (fun c21 => ?_) (fun c21 => ?_)
        · skip
          have h := gie c21 h
          exact hK36 w H locs ls h hI (lv_sub hl [0, 1, 2] rfl)
        · skip
          have h := git c21 h
          refine lv_aload_n hx hb d_B_forgetRelationsOf_31 rfl (lv_at hl 0 rfl) ?_
          refine lv_iload_n hx hb d_B_forgetRelationsOf_32 rfl (lv_at hl 2 rfl) ?_
          obtain ⟨q24, e25, h⟩ := gb h
          obtain ⟨u22, e23⟩ := gsome h
          refine gw_callV e23 h (gw_runV (As := [.int z1]) (rest := []) hx hb hml hown hT hK hZ hA hI (ci := 0) rfl e25 (m_B_forgetRelationsAt l hst D g0 a0 z1 w u22 e23) ce_B_forgetRelationsAt wd_564 wd_10 ⟨by decide, by decide⟩ rfl rfl hl.1 rfl (lv_room (Nat.le_of_ble_eq_true rfl)) d_B_forgetRelationsOf_33 ⟨(show 0 + 0 ≤ 0 by omega), (show 0 + 0 ≤ 0 by omega)⟩) hI hA hexc (show 0 + 0 ≤ 0 by omega) (show 0 + 0 ≤ 0 by omega) (fun v26 w H locs h hI => ?_)
          exact hK36 w H locs ls h hI (lv_sub hl [0, 1, 2] rfl)
  exact hL2 64 _ w H locs ls h hI (lv_sub hl [1, 2, 0] rfl)

abbrev b_B_box : ByteArray := prog_1_method_3_code
def y_B_box : MethodName := ⟨"BodySolids", "box", "(IJJJJJJ)Z"⟩
theorem d_B_box_0 : decode b_B_box 0 = .ok (.aload_n 0, 1) := by decide +kernel
theorem d_B_box_1 : decode b_B_box 1 = .ok (.iload_n 1, 1) := by decide +kernel
theorem d_B_box_2 : decode b_B_box 2 = .ok (.invokevirtual 79, 3) := by decide +kernel
theorem d_B_box_5 : decode b_B_box 5 = .ok (.astore 14, 2) := by decide +kernel
theorem d_B_box_7 : decode b_B_box 7 = .ok (.lload_n 2, 1) := by decide +kernel
theorem d_B_box_8 : decode b_B_box 8 = .ok (.lload 4, 2) := by decide +kernel
theorem d_B_box_10 : decode b_B_box 10 = .ok (.invokestatic 83, 3) := by decide +kernel
theorem d_B_box_13 : decode b_B_box 13 = .ok (.lload 8, 2) := by decide +kernel
theorem d_B_box_15 : decode b_B_box 15 = .ok (.invokestatic 87, 3) := by decide +kernel
theorem d_B_box_18 : decode b_B_box 18 = .ok (.lload 10, 2) := by decide +kernel
theorem d_B_box_20 : decode b_B_box 20 = .ok (.invokestatic 87, 3) := by decide +kernel
theorem d_B_box_23 : decode b_B_box 23 = .ok (.lload_n 2, 1) := by decide +kernel
theorem d_B_box_24 : decode b_B_box 24 = .ok (.lload 8, 2) := by decide +kernel
theorem d_B_box_26 : decode b_B_box 26 = .ok (.ladd, 1) := by decide +kernel
theorem d_B_box_27 : decode b_B_box 27 = .ok (.lload 4, 2) := by decide +kernel
theorem d_B_box_29 : decode b_B_box 29 = .ok (.lload 10, 2) := by decide +kernel
theorem d_B_box_31 : decode b_B_box 31 = .ok (.ladd, 1) := by decide +kernel
theorem d_B_box_32 : decode b_B_box 32 = .ok (.invokestatic 83, 3) := by decide +kernel
theorem d_B_box_35 : decode b_B_box 35 = .ok (.lload 6, 2) := by decide +kernel
theorem d_B_box_37 : decode b_B_box 37 = .ok (.lload 12, 2) := by decide +kernel
theorem d_B_box_39 : decode b_B_box 39 = .ok (.invokestatic 91, 3) := by decide +kernel
theorem d_B_box_42 : decode b_B_box 42 = .ok (.aload 14, 2) := by decide +kernel
theorem d_B_box_44 : decode b_B_box 44 = .ok (.invokevirtual 94, 3) := by decide +kernel
theorem d_B_box_47 : decode b_B_box 47 = .ok (.ifCond .eq 5, 3) := by decide +kernel
theorem d_B_box_50 : decode b_B_box 50 = .ok (.iconst 0, 1) := by decide +kernel
theorem d_B_box_51 : decode b_B_box 51 = .ok (.ireturn, 1) := by decide +kernel
theorem d_B_box_52 : decode b_B_box 52 = .ok (.new 98, 3) := by decide +kernel
theorem d_B_box_55 : decode b_B_box 55 = .ok (.dup, 1) := by decide +kernel
theorem d_B_box_56 : decode b_B_box 56 = .ok (.invokespecial 100, 3) := by decide +kernel
theorem d_B_box_59 : decode b_B_box 59 = .ok (.astore 15, 2) := by decide +kernel
theorem d_B_box_61 : decode b_B_box 61 = .ok (.aload 15, 2) := by decide +kernel
theorem d_B_box_63 : decode b_B_box 63 = .ok (.iconst 0, 1) := by decide +kernel
theorem d_B_box_64 : decode b_B_box 64 = .ok (.lconst 0, 1) := by decide +kernel
theorem d_B_box_65 : decode b_B_box 65 = .ok (.lconst 0, 1) := by decide +kernel
theorem d_B_box_66 : decode b_B_box 66 = .ok (.invokevirtual 101, 3) := by decide +kernel
theorem d_B_box_69 : decode b_B_box 69 = .ok (.aload 15, 2) := by decide +kernel
theorem d_B_box_71 : decode b_B_box 71 = .ok (.lload_n 2, 1) := by decide +kernel
theorem d_B_box_72 : decode b_B_box 72 = .ok (.lload 4, 2) := by decide +kernel
theorem d_B_box_74 : decode b_B_box 74 = .ok (.lload_n 2, 1) := by decide +kernel
theorem d_B_box_75 : decode b_B_box 75 = .ok (.lload 8, 2) := by decide +kernel
theorem d_B_box_77 : decode b_B_box 77 = .ok (.ladd, 1) := by decide +kernel
theorem d_B_box_78 : decode b_B_box 78 = .ok (.lload 4, 2) := by decide +kernel
theorem d_B_box_80 : decode b_B_box 80 = .ok (.lload 10, 2) := by decide +kernel
theorem d_B_box_82 : decode b_B_box 82 = .ok (.ladd, 1) := by decide +kernel
theorem d_B_box_83 : decode b_B_box 83 = .ok (.invokevirtual 105, 3) := by decide +kernel
theorem d_B_box_86 : decode b_B_box 86 = .ok (.aload 15, 2) := by decide +kernel
theorem d_B_box_88 : decode b_B_box 88 = .ok (.lload 6, 2) := by decide +kernel
theorem d_B_box_90 : decode b_B_box 90 = .ok (.lload 6, 2) := by decide +kernel
theorem d_B_box_92 : decode b_B_box 92 = .ok (.lload 12, 2) := by decide +kernel
theorem d_B_box_94 : decode b_B_box 94 = .ok (.ladd, 1) := by decide +kernel
theorem d_B_box_95 : decode b_B_box 95 = .ok (.invokevirtual 109, 3) := by decide +kernel
theorem d_B_box_98 : decode b_B_box 98 = .ok (.aload 14, 2) := by decide +kernel
theorem d_B_box_100 : decode b_B_box 100 = .ok (.aload 15, 2) := by decide +kernel
theorem d_B_box_102 : decode b_B_box 102 = .ok (.ldc2_w 112, 3) := by decide +kernel
theorem d_B_box_105 : decode b_B_box 105 = .ok (.lload 8, 2) := by decide +kernel
theorem d_B_box_107 : decode b_B_box 107 = .ok (.lmul, 1) := by decide +kernel
theorem d_B_box_108 : decode b_B_box 108 = .ok (.lload 10, 2) := by decide +kernel
theorem d_B_box_110 : decode b_B_box 110 = .ok (.lmul, 1) := by decide +kernel
theorem d_B_box_111 : decode b_B_box 111 = .ok (.lload 12, 2) := by decide +kernel
theorem d_B_box_113 : decode b_B_box 113 = .ok (.lmul, 1) := by decide +kernel
theorem d_B_box_114 : decode b_B_box 114 = .ok (.invokevirtual 114, 3) := by decide +kernel
theorem d_B_box_117 : decode b_B_box 117 = .ok (.aload_n 0, 1) := by decide +kernel
theorem d_B_box_118 : decode b_B_box 118 = .ok (.aload 14, 2) := by decide +kernel
theorem d_B_box_120 : decode b_B_box 120 = .ok (.invokevirtual 118, 3) := by decide +kernel
theorem d_B_box_123 : decode b_B_box 123 = .ok (.iconst 1, 1) := by decide +kernel
theorem d_B_box_124 : decode b_B_box 124 = .ok (.ireturn, 1) := by decide +kernel
abbrev rm_B_box : Room := { frames := 10, cells := 14, slots := 152, locals := 202 }
theorem ce_B_box : gCe y_B_box (.code y_B_box b_B_box 16 (some .boolean)) 16 7 false := gCe.code wd_435 wd_49 wd_433 (by decide) (by decide +kernel)
def f_B_box (g0 : gG) (a0 : Nat) (p1 : Int32) (p2 : Int64) (p3 : Int64) (p4 : Int64) (p5 : Int64) (p6 : Int64) (p7 : Int64) (w : gW) : gX Int32 := (gck w a0 0).bind fun _ => gbind (f_B_bodyAt g0 a0 p1 w) fun v5 w => gbind (f_B_needPlace g0 p2 p3 w) fun v8 w => gbind (f_B_needSize g0 p5 w) fun v11 w => gbind (f_B_needSize g0 p6 w) fun v14 w => gbind (f_B_needPlace g0 (p2 + p5) (p3 + p6) w) fun v17 w => gbind (f_B_needUpright g0 p4 p7 w) fun v20 w => (gck w v5 4).bind fun _ => gbind (f_By_isFull g0 v5 w) fun v25 w => if v25 = 0 then (gb2f (gnw w 3 [.int 0, .long 0, .long 0, .null, .null, .int 0, .long 0, .long 0, .long 0, .long 0, .long 0, .long 0]) fun o27 w => gbind (f_So_init g0 o27 w) fun v31 w => (gck w o27 3).bind fun _ => gbind (f_So_begin g0 o27 0 0 0 w) fun v36 w => (gck w o27 3).bind fun _ => gbind (f_So_addRectangle g0 o27 p2 p3 (p2 + p5) (p3 + p6) w) fun v41 w => (gck w o27 3).bind fun _ => gbind (f_So_setHeights g0 o27 p4 (p4 + p7) w) fun v46 w => (gck w v5 4).bind fun _ => gbind (f_By_add g0 v5 o27 (((226 * p5) * p6) * p7) w) fun v51 w => (gck w a0 0).bind fun _ => gbind (f_B_forgetRelationsOf g0 a0 v5 w) fun v56 w => gguard ((1 : Int32) = 0 ∨ (1 : Int32) = 1) (some (.inr 1, w))) else (gguard ((0 : Int32) = 0 ∨ (0 : Int32) = 1) (some (.inr 0, w)))
set_option maxHeartbeats 4000000 in
set_option maxRecDepth 100000 in
theorem m_B_box (l : Launch) (hst : l.stackTraces = false) (D : gD) (g0 : gG) (a0 : Nat) (p1 : Int32) (p2 : Int64) (p3 : Int64) (p4 : Int64) (p5 : Int64) (p6 : Int64) (p7 : Int64) (w : gW) (r : (String ⊕ Int32) × gW) (h : f_B_box g0 a0 p1 p2 p3 p4 p5 p6 p7 w = some r) : gMet l y_B_box (.code y_B_box b_B_box 16 (some .boolean)) rm_B_box D g0 [.ref a0, .int p1, .long p2, .long p3, .long p4, .long p5, .long p6, .long p7] w (goI r) := by
  refine gw_ofZ (by decide +kernel) (Nat.le_of_ble_eq_true rfl) ?_
  intro p e s m below meth c ls args A Q hx hb hml hown hlocks hin hnt hT hK hZ hA hret hexc hthr hI hl
  obtain ⟨H, hH⟩ : ∃ H, H = s.heap := ⟨_, rfl⟩
  rw [← hH] at hI ⊢
  obtain ⟨locs, hlocs⟩ : ∃ z : List Loc, z = [] := ⟨_, rfl⟩
  rw [← hlocs] at hI ⊢
  have hl : lv_has ls 16 [(0, .ref a0), (1, .int p1), (2, .long p2), (4, .long p3), (6, .long p4), (8, .long p5), (10, .long p6), (12, .long p7)] := hl
  unfold f_B_box at h
  refine lv_aload_n hx hb d_B_box_0 rfl (lv_at hl 0 rfl) ?_
  refine lv_iload_n hx hb d_B_box_1 rfl (lv_at hl 1 rfl) ?_
  obtain ⟨q3, e4, h⟩ := gb h
  obtain ⟨u1, e2⟩ := gsome h
  refine gw_callA e2 h (gw_runV (As := [.int p1]) (rest := []) hx hb hml hown hT hK hZ hA hI (ci := 0) rfl e4 (m_B_bodyAt l hst D g0 a0 p1 w u1 e2) ce_B_bodyAt wd_436 wd_7 ⟨by decide, by decide⟩ rfl rfl hl.1 rfl (lv_room (Nat.le_of_ble_eq_true rfl)) d_B_box_2 ⟨(show 0 + 1 ≤ 14 by omega), (show 0 + 6 ≤ 152 by omega)⟩) hI hA hexc (show 0 + 1 ≤ 14 by omega) (show 0 + 6 ≤ 152 by omega) (fun v5 w H locs h hI => ?_)
  refine W.widen (k := 1) (n := 6) (show 0 + 1 ≤ 1 by omega) (show 0 + 6 ≤ 6 by omega) ?_
  refine lv_astore (lv' := [(14, .ref v5), (0, .ref a0), (1, .int p1), (2, .long p2), (4, .long p3), (6, .long p4), (8, .long p5), (10, .long p6), (12, .long p7)]) hx hb d_B_box_5 hl (by decide) rfl (fun ls hl => ?_)
  refine lv_lload_n hx hb d_B_box_7 rfl (lv_at hl 3 rfl) ?_
  refine lv_lload hx hb d_B_box_8 (lv_at hl 4 rfl) ?_
  obtain ⟨u6, e7⟩ := gsome h
  refine gw_callV e7 h (gw_runS (As := [.long p2, .long p3]) (rest := []) hx hb hml hown hT hK hZ hA hI (m_B_needPlace l hst D g0 p2 p3 w u6 e7) ce_B_needPlace wd_511 ⟨by decide, by decide⟩ rfl rfl hl.1 rfl (lv_room (Nat.le_of_ble_eq_true rfl)) d_B_box_10 ⟨(show 1 + 2 ≤ 14 by omega), (show 6 + 12 ≤ 152 by omega)⟩) hI hA hexc (show 1 + 2 ≤ 14 by omega) (show 6 + 12 ≤ 152 by omega) (fun v8 w H locs h hI => ?_)
  refine W.widen (k := 3) (n := 18) (show 1 + 2 ≤ 3 by omega) (show 6 + 12 ≤ 18 by omega) ?_
  refine lv_lload hx hb d_B_box_13 (lv_at hl 6 rfl) ?_
  obtain ⟨u9, e10⟩ := gsome h
  refine gw_callV e10 h (gw_runS (As := [.long p5]) (rest := []) hx hb hml hown hT hK hZ hA hI (m_B_needSize l hst D g0 p5 w u9 e10) ce_B_needSize wd_535 ⟨by decide, by decide⟩ rfl rfl hl.1 rfl (lv_room (Nat.le_of_ble_eq_true rfl)) d_B_box_15 ⟨(show 3 + 1 ≤ 14 by omega), (show 18 + 6 ≤ 152 by omega)⟩) hI hA hexc (show 3 + 1 ≤ 14 by omega) (show 18 + 6 ≤ 152 by omega) (fun v11 w H locs h hI => ?_)
  refine W.widen (k := 4) (n := 24) (show 3 + 1 ≤ 4 by omega) (show 18 + 6 ≤ 24 by omega) ?_
  refine lv_lload hx hb d_B_box_18 (lv_at hl 7 rfl) ?_
  obtain ⟨u12, e13⟩ := gsome h
  refine gw_callV e13 h (gw_runS (As := [.long p6]) (rest := []) hx hb hml hown hT hK hZ hA hI (m_B_needSize l hst D g0 p6 w u12 e13) ce_B_needSize wd_535 ⟨by decide, by decide⟩ rfl rfl hl.1 rfl (lv_room (Nat.le_of_ble_eq_true rfl)) d_B_box_20 ⟨(show 4 + 1 ≤ 14 by omega), (show 24 + 6 ≤ 152 by omega)⟩) hI hA hexc (show 4 + 1 ≤ 14 by omega) (show 24 + 6 ≤ 152 by omega) (fun v14 w H locs h hI => ?_)
  refine W.widen (k := 5) (n := 30) (show 4 + 1 ≤ 5 by omega) (show 24 + 6 ≤ 30 by omega) ?_
  refine lv_lload_n hx hb d_B_box_23 rfl (lv_at hl 3 rfl) ?_
  refine lv_lload hx hb d_B_box_24 (lv_at hl 6 rfl) ?_
  refine lv_ladd hx hb d_B_box_26 ?_
  refine lv_lload hx hb d_B_box_27 (lv_at hl 4 rfl) ?_
  refine lv_lload hx hb d_B_box_29 (lv_at hl 7 rfl) ?_
  refine lv_ladd hx hb d_B_box_31 ?_
  obtain ⟨u15, e16⟩ := gsome h
  refine gw_callV e16 h (gw_runS (As := [.long (p2 + p5), .long (p3 + p6)]) (rest := []) hx hb hml hown hT hK hZ hA hI (m_B_needPlace l hst D g0 (p2 + p5) (p3 + p6) w u15 e16) ce_B_needPlace wd_511 ⟨by decide, by decide⟩ rfl rfl hl.1 rfl (lv_room (Nat.le_of_ble_eq_true rfl)) d_B_box_32 ⟨(show 5 + 2 ≤ 14 by omega), (show 30 + 12 ≤ 152 by omega)⟩) hI hA hexc (show 5 + 2 ≤ 14 by omega) (show 30 + 12 ≤ 152 by omega) (fun v17 w H locs h hI => ?_)
  refine W.widen (k := 7) (n := 42) (show 5 + 2 ≤ 7 by omega) (show 30 + 12 ≤ 42 by omega) ?_
  refine lv_lload hx hb d_B_box_35 (lv_at hl 5 rfl) ?_
  refine lv_lload hx hb d_B_box_37 (lv_at hl 8 rfl) ?_
  obtain ⟨u18, e19⟩ := gsome h
  refine gw_callV e19 h (gw_runS (As := [.long p4, .long p7]) (rest := []) hx hb hml hown hT hK hZ hA hI (m_B_needUpright l hst D g0 p4 p7 w u18 e19) ce_B_needUpright wd_538 ⟨by decide, by decide⟩ rfl rfl hl.1 rfl (lv_room (Nat.le_of_ble_eq_true rfl)) d_B_box_39 ⟨(show 7 + 3 ≤ 14 by omega), (show 42 + 18 ≤ 152 by omega)⟩) hI hA hexc (show 7 + 3 ≤ 14 by omega) (show 42 + 18 ≤ 152 by omega) (fun v20 w H locs h hI => ?_)
  refine W.widen (k := 10) (n := 60) (show 7 + 3 ≤ 10 by omega) (show 42 + 18 ≤ 60 by omega) ?_
  refine lv_aload hx hb d_B_box_42 (lv_at hl 0 rfl) ?_
  obtain ⟨q23, e24, h⟩ := gb h
  obtain ⟨u21, e22⟩ := gsome h
  refine gw_callI e22 h (gw_runV (As := []) (rest := []) hx hb hml hown hT hK hZ hA hI (ci := 4) rfl e24 (m_By_isFull l hst D g0 v5 w u21 e22) ce_By_isFull wd_541 wd_543 ⟨by decide, by decide⟩ rfl rfl hl.1 rfl (lv_room (Nat.le_of_ble_eq_true rfl)) d_B_box_44 ⟨(show 10 + 0 ≤ 14 by omega), (show 60 + 0 ≤ 152 by omega)⟩) hI hA hexc (show 10 + 0 ≤ 14 by omega) (show 60 + 0 ≤ 152 by omega) (fun v25 w H locs h hI => ?_)
  refine lv_if_eq (tgt := 52) hx hb d_B_box_47 (by decide) (fun c26 => ?_) (fun c26 => ?_)
  · skip
    have h := git c26 h
    obtain ⟨o27, w, e28, h⟩ := gb2 h
    refine gw_new hx hb hT hown hK hI hA (ci := 3) rfl i_3 t_3 t_3_ok wd_546 wd_124 wd_56 (fs := [.int 0, .long 0, .long 0, .null, .null, .int 0, .long 0, .long 0, .long 0, .long 0, .long 0, .long 0]) df_3 e28 (show 10 + 1 ≤ 14 by omega) (show 60 + 12 ≤ 152 by omega) d_B_box_52 (fun H hI => ?_)
    refine W.widen (k := 11) (n := 72) (show 10 + 1 ≤ 11 by omega) (show 60 + 12 ≤ 72 by omega) ?_
    refine lv_dup hx hb d_B_box_55 rfl ?_
    obtain ⟨u29, e30⟩ := gsome h
    refine gw_callV e30 h (gw_runIN (As := []) (rest := [.ref o27]) hx hb hml hown hT hK hZ hA hI (m_So_init l hst D g0 o27 w u29 e30) ce_So_init wd_547 rfl ⟨by decide, by decide⟩ rfl rfl hl.1 rfl (lv_room (Nat.le_of_ble_eq_true rfl)) d_B_box_56 ⟨(show 11 + 2 ≤ 14 by omega), (show 72 + 16 ≤ 152 by omega)⟩) hI hA hexc (show 11 + 2 ≤ 14 by omega) (show 72 + 16 ≤ 152 by omega) (fun v31 w H locs h hI => ?_)
    refine W.widen (k := 13) (n := 88) (show 11 + 2 ≤ 13 by omega) (show 72 + 16 ≤ 88 by omega) ?_
    refine lv_astore (lv' := [(15, .ref o27), (14, .ref v5), (0, .ref a0), (1, .int p1), (2, .long p2), (4, .long p3), (6, .long p4), (8, .long p5), (10, .long p6), (12, .long p7)]) hx hb d_B_box_59 hl (by decide) rfl (fun ls hl => ?_)
    refine lv_aload hx hb d_B_box_61 (lv_at hl 0 rfl) ?_
    refine lv_iconst (v := 0) hx hb d_B_box_63 (by decide) ?_
    refine lv_lconst (v := 0) hx hb d_B_box_64 (by decide) ?_
    refine lv_lconst (v := 0) hx hb d_B_box_65 (by decide) ?_
    obtain ⟨q34, e35, h⟩ := gb h
    obtain ⟨u32, e33⟩ := gsome h
    refine gw_callV e33 h (gw_runV (As := [.int 0, .long 0, .long 0]) (rest := []) hx hb hml hown hT hK hZ hA hI (ci := 3) rfl e35 (m_So_begin l hst D g0 o27 0 0 0 w u32 e33) ce_So_begin wd_548 wd_349 ⟨by decide, by decide⟩ rfl rfl hl.1 rfl (lv_room (Nat.le_of_ble_eq_true rfl)) d_B_box_66 ⟨(show 13 + 0 ≤ 14 by omega), (show 88 + 0 ≤ 152 by omega)⟩) hI hA hexc (show 13 + 0 ≤ 14 by omega) (show 88 + 0 ≤ 152 by omega) (fun v36 w H locs h hI => ?_)
    refine lv_aload hx hb d_B_box_69 (lv_at hl 0 rfl) ?_
    refine lv_lload_n hx hb d_B_box_71 rfl (lv_at hl 4 rfl) ?_
    refine lv_lload hx hb d_B_box_72 (lv_at hl 5 rfl) ?_
    refine lv_lload_n hx hb d_B_box_74 rfl (lv_at hl 4 rfl) ?_
    refine lv_lload hx hb d_B_box_75 (lv_at hl 7 rfl) ?_
    refine lv_ladd hx hb d_B_box_77 ?_
    refine lv_lload hx hb d_B_box_78 (lv_at hl 5 rfl) ?_
    refine lv_lload hx hb d_B_box_80 (lv_at hl 8 rfl) ?_
    refine lv_ladd hx hb d_B_box_82 ?_
    obtain ⟨q39, e40, h⟩ := gb h
    obtain ⟨u37, e38⟩ := gsome h
    refine gw_callV e38 h (gw_runV (As := [.long p2, .long p3, .long (p2 + p5), .long (p3 + p6)]) (rest := []) hx hb hml hown hT hK hZ hA hI (ci := 3) rfl e40 (m_So_addRectangle l hst D g0 o27 p2 p3 (p2 + p5) (p3 + p6) w u37 e38) ce_So_addRectangle wd_549 wd_551 ⟨by decide, by decide⟩ rfl rfl hl.1 rfl (lv_room (Nat.le_of_ble_eq_true rfl)) d_B_box_83 ⟨(show 13 + 0 ≤ 14 by omega), (show 88 + 0 ≤ 152 by omega)⟩) hI hA hexc (show 13 + 0 ≤ 14 by omega) (show 88 + 0 ≤ 152 by omega) (fun v41 w H locs h hI => ?_)
    refine lv_aload hx hb d_B_box_86 (lv_at hl 0 rfl) ?_
    refine lv_lload hx hb d_B_box_88 (lv_at hl 6 rfl) ?_
    refine lv_lload hx hb d_B_box_90 (lv_at hl 6 rfl) ?_
    refine lv_lload hx hb d_B_box_92 (lv_at hl 9 rfl) ?_
    refine lv_ladd hx hb d_B_box_94 ?_
    obtain ⟨q44, e45, h⟩ := gb h
    obtain ⟨u42, e43⟩ := gsome h
    refine gw_callV e43 h (gw_runV (As := [.long p4, .long (p4 + p7)]) (rest := []) hx hb hml hown hT hK hZ hA hI (ci := 3) rfl e45 (m_So_setHeights l hst D g0 o27 p4 (p4 + p7) w u42 e43) ce_So_setHeights wd_553 wd_367 ⟨by decide, by decide⟩ rfl rfl hl.1 rfl (lv_room (Nat.le_of_ble_eq_true rfl)) d_B_box_95 ⟨(show 13 + 0 ≤ 14 by omega), (show 88 + 0 ≤ 152 by omega)⟩) hI hA hexc (show 13 + 0 ≤ 14 by omega) (show 88 + 0 ≤ 152 by omega) (fun v46 w H locs h hI => ?_)
    refine lv_aload hx hb d_B_box_98 (lv_at hl 1 rfl) ?_
    refine lv_aload hx hb d_B_box_100 (lv_at hl 0 rfl) ?_
    refine lv_ldc2 (v := 226) hx hb hown (hT _ wd_554 args) d_B_box_102 ?_
    refine lv_lload hx hb d_B_box_105 (lv_at hl 7 rfl) ?_
    refine lv_lmul hx hb d_B_box_107 ?_
    refine lv_lload hx hb d_B_box_108 (lv_at hl 8 rfl) ?_
    refine lv_lmul hx hb d_B_box_110 ?_
    refine lv_lload hx hb d_B_box_111 (lv_at hl 9 rfl) ?_
    refine lv_lmul hx hb d_B_box_113 ?_
    obtain ⟨q49, e50, h⟩ := gb h
    obtain ⟨u47, e48⟩ := gsome h
    refine gw_callV e48 h (gw_runV (As := [.ref o27, .long (((226 * p5) * p6) * p7)]) (rest := []) hx hb hml hown hT hK hZ hA hI (ci := 4) rfl e50 (m_By_add l hst D g0 v5 o27 (((226 * p5) * p6) * p7) w u47 e48) ce_By_add wd_555 wd_557 ⟨by decide, by decide⟩ rfl rfl hl.1 rfl (lv_room (Nat.le_of_ble_eq_true rfl)) d_B_box_114 ⟨(show 13 + 1 ≤ 14 by omega), (show 88 + 64 ≤ 152 by omega)⟩) hI hA hexc (show 13 + 1 ≤ 14 by omega) (show 88 + 64 ≤ 152 by omega) (fun v51 w H locs h hI => ?_)
    refine W.widen (k := 14) (n := 152) (show 13 + 1 ≤ 14 by omega) (show 88 + 64 ≤ 152 by omega) ?_
    refine lv_aload_n hx hb d_B_box_117 rfl (lv_at hl 2 rfl) ?_
    refine lv_aload hx hb d_B_box_118 (lv_at hl 1 rfl) ?_
    obtain ⟨q54, e55, h⟩ := gb h
    obtain ⟨u52, e53⟩ := gsome h
    refine gw_callV e53 h (gw_runV (As := [.ref v5]) (rest := []) hx hb hml hown hT hK hZ hA hI (ci := 0) rfl e55 (m_B_forgetRelationsOf l hst D g0 a0 v5 w u52 e53) ce_B_forgetRelationsOf wd_560 wd_9 ⟨by decide, by decide⟩ rfl rfl hl.1 rfl (lv_room (Nat.le_of_ble_eq_true rfl)) d_B_box_120 ⟨(show 14 + 0 ≤ 14 by omega), (show 152 + 0 ≤ 152 by omega)⟩) hI hA hexc (show 14 + 0 ≤ 14 by omega) (show 152 + 0 ≤ 152 by omega) (fun v56 w H locs h hI => ?_)
    refine lv_iconst (v := 1) hx hb d_B_box_123 (by decide) ?_
    obtain ⟨g57, h⟩ := gif h
    exact W.widen (show 14 ≤ 14 by omega) (show 152 ≤ 152 by omega) (hret g57 0 _ (Option.some.inj h).symm _ _ _ _ d_B_box_124 hI)
  · skip
    have h := gie c26 h
    refine lv_iconst (v := 0) hx hb d_B_box_50 (by decide) ?_
    obtain ⟨g58, h⟩ := gif h
    exact W.widen (show 10 ≤ 14 by omega) (show 60 ≤ 152 by omega) (hret g58 0 _ (Option.some.inj h).symm _ _ _ _ d_B_box_51 hI)
end
section
abbrev b_W_box : ByteArray := method_3_code
def y_W_box : MethodName := ⟨"BodySolidsLaw", "box", "(LBodySolids;IJJJJJJ[J)I"⟩
theorem d_W_box_0 : decode b_W_box 0 = .ok (.aload 14, 2) := by decide +kernel
theorem d_W_box_2 : decode b_W_box 2 = .ok (.iconst 0, 1) := by decide +kernel
theorem d_W_box_3 : decode b_W_box 3 = .ok (.aload_n 0, 1) := by decide +kernel
theorem d_W_box_4 : decode b_W_box 4 = .ok (.iload_n 1, 1) := by decide +kernel
theorem d_W_box_5 : decode b_W_box 5 = .ok (.lload_n 2, 1) := by decide +kernel
theorem d_W_box_6 : decode b_W_box 6 = .ok (.lload 4, 2) := by decide +kernel
theorem d_W_box_8 : decode b_W_box 8 = .ok (.lload 6, 2) := by decide +kernel
theorem d_W_box_10 : decode b_W_box 10 = .ok (.lload 8, 2) := by decide +kernel
theorem d_W_box_12 : decode b_W_box 12 = .ok (.lload 10, 2) := by decide +kernel
theorem d_W_box_14 : decode b_W_box 14 = .ok (.lload 12, 2) := by decide +kernel
theorem d_W_box_16 : decode b_W_box 16 = .ok (.invokevirtual 7, 3) := by decide +kernel
theorem d_W_box_19 : decode b_W_box 19 = .ok (.ifCond .eq 7, 3) := by decide +kernel
theorem d_W_box_22 : decode b_W_box 22 = .ok (.lconst 1, 1) := by decide +kernel
theorem d_W_box_23 : decode b_W_box 23 = .ok (.goto 4, 3) := by decide +kernel
theorem d_W_box_26 : decode b_W_box 26 = .ok (.lconst 0, 1) := by decide +kernel
theorem d_W_box_27 : decode b_W_box 27 = .ok (.lastore, 1) := by decide +kernel
theorem d_W_box_28 : decode b_W_box 28 = .ok (.goto 11, 3) := by decide +kernel
theorem d_W_box_31 : decode b_W_box 31 = .ok (.astore 15, 2) := by decide +kernel
theorem d_W_box_33 : decode b_W_box 33 = .ok (.iconst 1, 1) := by decide +kernel
theorem d_W_box_34 : decode b_W_box 34 = .ok (.ireturn, 1) := by decide +kernel
theorem d_W_box_35 : decode b_W_box 35 = .ok (.astore 15, 2) := by decide +kernel
theorem d_W_box_37 : decode b_W_box 37 = .ok (.iconst 2, 1) := by decide +kernel
theorem d_W_box_38 : decode b_W_box 38 = .ok (.ireturn, 1) := by decide +kernel
theorem d_W_box_39 : decode b_W_box 39 = .ok (.iconst 0, 1) := by decide +kernel
theorem d_W_box_40 : decode b_W_box 40 = .ok (.ireturn, 1) := by decide +kernel
abbrev rm_W_box : Room := { frames := 11, cells := 14, slots := 152, locals := 237 }
theorem ce_W_box : gCe y_W_box (.codeWith y_W_box b_W_box 16 (some .int) [(0, 28, 31, 13), (0, 28, 35, 15)]) 16 9 true := gCe.codeWith wd_429 wd_48 wd_428 (by decide) (by decide +kernel)
def f_W_box (g0 : gG) (a0 : Nat) (p1 : Int32) (p2 : Int64) (p3 : Int64) (p4 : Int64) (p5 : Int64) (p6 : Int64) (p7 : Int64) (a8 : Nat) (w : gW) : gX Int32 := (gck w a0 0).bind fun _ => gtry (f_B_box g0 a0 p1 p2 p3 p4 p5 p6 p7 w) (fun E w => if E = "java/lang/IndexOutOfBoundsException" then some (.inr 1, w) else if E = "java/lang/IllegalArgumentException" then some (.inr 2, w) else none) fun v5 w => gjoin (fun K27 => if v5 = 0 then (K27 0 w) else (K27 1 w)) (fun (y6 : Int64) (w : gW) => (gsJ w a8 0 y6).bind fun w => some (.inr 0, w))
set_option maxHeartbeats 4000000 in
set_option maxRecDepth 100000 in
theorem m_W_box (l : Launch) (hst : l.stackTraces = false) (D : gD) (g0 : gG) (a0 : Nat) (p1 : Int32) (p2 : Int64) (p3 : Int64) (p4 : Int64) (p5 : Int64) (p6 : Int64) (p7 : Int64) (a8 : Nat) (w : gW) (r : (String ⊕ Int32) × gW) (h : f_W_box g0 a0 p1 p2 p3 p4 p5 p6 p7 a8 w = some r) : gMet l y_W_box (.codeWith y_W_box b_W_box 16 (some .int) [(0, 28, 31, 13), (0, 28, 35, 15)]) rm_W_box D g0 [.ref a0, .int p1, .long p2, .long p3, .long p4, .long p5, .long p6, .long p7, .ref a8] w (goI r) := by
  refine gw_ofW (by decide +kernel) (Nat.le_of_ble_eq_true rfl) ?_
  intro p e s m below meth c ls args A Q hx hb hml hown htab hT hK hZ hA hret hI hl
  obtain ⟨H, hH⟩ : ∃ H, H = s.heap := ⟨_, rfl⟩
  rw [← hH] at hI ⊢
  obtain ⟨locs, hlocs⟩ : ∃ z : List Loc, z = [] := ⟨_, rfl⟩
  rw [← hlocs] at hI ⊢
  have hl : lv_has ls 16 [(0, .ref a0), (1, .int p1), (2, .long p2), (4, .long p3), (6, .long p4), (8, .long p5), (10, .long p6), (12, .long p7), (14, .ref a8)] := hl
  unfold f_W_box at h
  refine lv_aload hx hb d_W_box_0 (lv_at hl 8 rfl) ?_
  refine lv_iconst (v := 0) hx hb d_W_box_2 (by decide) ?_
  refine lv_aload_n hx hb d_W_box_3 rfl (lv_at hl 0 rfl) ?_
  refine lv_iload_n hx hb d_W_box_4 rfl (lv_at hl 1 rfl) ?_
  refine lv_lload_n hx hb d_W_box_5 rfl (lv_at hl 2 rfl) ?_
  refine lv_lload hx hb d_W_box_6 (lv_at hl 3 rfl) ?_
  refine lv_lload hx hb d_W_box_8 (lv_at hl 4 rfl) ?_
  refine lv_lload hx hb d_W_box_10 (lv_at hl 5 rfl) ?_
  refine lv_lload hx hb d_W_box_12 (lv_at hl 6 rfl) ?_
  refine lv_lload hx hb d_W_box_14 (lv_at hl 7 rfl) ?_
  obtain ⟨q3, e4, h⟩ := gb h
  obtain ⟨u1, e2⟩ := gsomeT h
  refine gw_tryI e2 h (gw_runV (As := [.int p1, .long p2, .long p3, .long p4, .long p5, .long p6, .long p7]) (rest := [.int 0, .ref a8]) hx hb hml hown hT hK hZ hA hI (ci := 0) rfl e4 (m_B_box l hst D g0 a0 p1 p2 p3 p4 p5 p6 p7 w u1 e2) ce_B_box wd_432 wd_434 ⟨by decide, by decide⟩ rfl rfl hl.1 rfl (lv_room (Nat.le_of_ble_eq_true rfl)) d_W_box_16 ⟨(show 0 + 14 ≤ 14 by omega), (show 0 + 152 ≤ 152 by omega)⟩) hI hA (fun E w H locs q ce h hI hq hv hE => ?_) (fun v5 w H locs h hI => ?_)
  · skip
    rcases gcs h with ⟨rfl, h⟩ | ⟨-, h⟩
    · refine gw_catch1 hown hT htab wd_430 (by decide) (by decide) hq hv hE ?_
      refine lv_astore (lv' := [(15, .ref q), (0, .ref a0), (1, .int p1), (2, .long p2), (4, .long p3), (6, .long p4), (8, .long p5), (10, .long p6), (12, .long p7), (14, .ref a8)]) hx hb d_W_box_31 hl (by decide) rfl (fun ls hl => ?_)
      refine lv_iconst (v := 1) hx hb d_W_box_33 (by decide) ?_
      exact W.widen (show 14 ≤ 14 by omega) (show 152 ≤ 152 by omega) (hret _ _ (Option.some.inj h).symm _ _ _ _ d_W_box_34 hI)
    rcases gcs h with ⟨rfl, h⟩ | ⟨-, h⟩
    · refine gw_catch2 hown hT hZ htab wd_430 (by decide) (by decide) wd_431 (by decide) (by decide) (by decide) hq hv hE ?_
      refine lv_astore (lv' := [(15, .ref q), (0, .ref a0), (1, .int p1), (2, .long p2), (4, .long p3), (6, .long p4), (8, .long p5), (10, .long p6), (12, .long p7), (14, .ref a8)]) hx hb d_W_box_35 hl (by decide) rfl (fun ls hl => ?_)
      refine lv_iconst (v := 2) hx hb d_W_box_37 (by decide) ?_
      exact W.widen (show 14 ≤ 14 by omega) (show 152 ≤ 152 by omega) (hret _ _ (Option.some.inj h).symm _ _ _ _ d_W_box_38 hI)
    exact absurd h (by simp)
  refine W.widen (k := 14) (n := 152) (show 0 + 14 ≤ 14 by omega) (show 0 + 152 ≤ 152 by omega) ?_
  obtain ⟨K27, eK27, h⟩ := gj h
  have hK27 : ∀ (y6 : Int64) (w : gW) (H : Heap) (locs : List Loc) (ls : Array Slot), K27 y6 w = some r → gI D s A w H locs → lv_has ls 16 [] → W p l e rm_W_box s m args below meth c H locs 14 152 Q (F0 m 27 ls [.long y6, .int 0, .ref a8]) := by
    intro y6 w H locs ls h hI hl
    have h := gk2 eK27 h
    obtain ⟨w, e7, h⟩ := gb h
    refine gw_astJ hx hb hK hI e7 d_W_box_27 (fun H locs hI => ?_)
    refine lv_goto (tgt := 39) hx hb d_W_box_28 (by decide) ?_
    refine lv_iconst (v := 0) hx hb d_W_box_39 (by decide) ?_
    exact W.widen (show 14 ≤ 14 by omega) (show 152 ≤ 152 by omega) (hret _ _ (Option.some.inj h).symm _ _ _ _ d_W_box_40 hI)
  refine lv_if_eq (tgt := 26) hx hb d_W_box_19 (by decide) (fun c8 => ?_) (fun c8 => ?_)
  · skip
    have h := git c8 h
    refine lv_lconst (v := 0) hx hb d_W_box_26 (by decide) ?_
    exact hK27 _ w H locs ls h hI (lv_sub hl [] rfl)
  · skip
    have h := gie c8 h
    refine lv_lconst (v := 1) hx hb d_W_box_22 (by decide) ?_
    refine lv_goto (tgt := 27) hx hb d_W_box_23 (by decide) ?_
    exact hK27 _ w H locs ls h hI (lv_sub hl [] rfl)
end
section
abbrev b_M_within : ByteArray := prog_9_method_3_code
def y_M_within : MethodName := ⟨"BodySolidsModel", "within", "(JJJ)Z"⟩
theorem d_M_within_0 : decode b_M_within 0 = .ok (.lload_n 0, 1) := by decide +kernel
theorem d_M_within_1 : decode b_M_within 1 = .ok (.lload_n 2, 1) := by decide +kernel
theorem d_M_within_2 : decode b_M_within 2 = .ok (.lcmp, 1) := by decide +kernel
theorem d_M_within_3 : decode b_M_within 3 = .ok (.ifCond .lt 14, 3) := by decide +kernel
theorem d_M_within_6 : decode b_M_within 6 = .ok (.lload_n 0, 1) := by decide +kernel
theorem d_M_within_7 : decode b_M_within 7 = .ok (.lload 4, 2) := by decide +kernel
theorem d_M_within_9 : decode b_M_within 9 = .ok (.lcmp, 1) := by decide +kernel
theorem d_M_within_10 : decode b_M_within 10 = .ok (.ifCond .gt 7, 3) := by decide +kernel
theorem d_M_within_13 : decode b_M_within 13 = .ok (.iconst 1, 1) := by decide +kernel
theorem d_M_within_14 : decode b_M_within 14 = .ok (.goto 4, 3) := by decide +kernel
theorem d_M_within_17 : decode b_M_within 17 = .ok (.iconst 0, 1) := by decide +kernel
theorem d_M_within_18 : decode b_M_within 18 = .ok (.ireturn, 1) := by decide +kernel
abbrev rm_M_within : Room := { frames := 0, cells := 0, slots := 0, locals := 0 }
theorem ce_M_within : gCe y_M_within (.code y_M_within b_M_within 6 (some .boolean)) 6 3 true := gCe.code wd_887 wd_57 wd_886 (by decide) (by decide +kernel)
def f_M_within (g0 : gG) (p0 : Int64) (p1 : Int64) (p2 : Int64) (w : gW) : gX Int32 := gjoin (fun K18 => gjoin (fun K17 => if p0 < p1 then (K17 w) else (if p2 < p0 then (K17 w) else (K18 1 w))) (fun (w : gW) => K18 0 w)) (fun (y1 : Int32) (w : gW) => gguard (y1 = 0 ∨ y1 = 1) (some (.inr y1, w)))
set_option maxHeartbeats 4000000 in
set_option maxRecDepth 100000 in
theorem m_M_within (l : Launch) (hst : l.stackTraces = false) (D : gD) (g0 : gG) (p0 : Int64) (p1 : Int64) (p2 : Int64) (w : gW) (r : (String ⊕ Int32) × gW) (h : f_M_within g0 p0 p1 p2 w = some r) : gMet l y_M_within (.code y_M_within b_M_within 6 (some .boolean)) rm_M_within D g0 [.long p0, .long p1, .long p2] w (goI r) := by
  refine gw_ofZ (by decide +kernel) (Nat.le_of_ble_eq_true rfl) ?_
  intro p e s m below meth c ls args A Q hx hb hml hown hlocks hin hnt hT hK hZ hA hret hexc hthr hI hl
  obtain ⟨H, hH⟩ : ∃ H, H = s.heap := ⟨_, rfl⟩
  rw [← hH] at hI ⊢
  obtain ⟨locs, hlocs⟩ : ∃ z : List Loc, z = [] := ⟨_, rfl⟩
  rw [← hlocs] at hI ⊢
  have hl : lv_has ls 6 [(0, .long p0), (2, .long p1), (4, .long p2)] := hl
  unfold f_M_within at h
  refine lv_lload_n hx hb d_M_within_0 rfl (lv_at hl 0 rfl) ?_
  refine lv_lload_n hx hb d_M_within_1 rfl (lv_at hl 1 rfl) ?_
  refine W.lcmp hx hb d_M_within_2 ?_
  obtain ⟨K18, eK18, h⟩ := gj h
  have hK18 : ∀ (y1 : Int32) (w : gW) (H : Heap) (locs : List Loc) (ls : Array Slot), K18 y1 w = some r → gI D s A w H locs → lv_has ls 6 [] → W p l e rm_M_within s m args below meth c H locs 0 0 Q (F0 m 18 ls [.int y1]) := by
    intro y1 w H locs ls h hI hl
    have h := gk2 eK18 h
    obtain ⟨g2, h⟩ := gif h
    exact W.widen (show 0 ≤ 0 by omega) (show 0 ≤ 0 by omega) (hret g2 0 _ (Option.some.inj h).symm _ _ _ _ d_M_within_18 hI)
  obtain ⟨K17, eK17, h⟩ := gj h
  have hK17 : ∀ (w : gW) (H : Heap) (locs : List Loc) (ls : Array Slot), K17 w = some r → gI D s A w H locs → lv_has ls 6 [] → W p l e rm_M_within s m args below meth c H locs 0 0 Q (F0 m 17 ls []) := by
    intro w H locs ls h hI hl
    have h := gk1 eK17 h
    refine lv_iconst (v := 0) hx hb d_M_within_17 (by decide) ?_
    exact hK18 _ w H locs ls h hI (lv_sub hl [] rfl)
  refine lv_if_lt (tgt := 17) hx hb d_M_within_3 (by decide) (fun c3 => ?_) (fun c3 => ?_)
  · have c3 := (lg_cmp_lt _ _).mp c3
    have h := git c3 h
    exact hK17 w H locs ls h hI (lv_sub hl [] rfl)
  · have c3 := mt (lg_cmp_lt _ _).mpr c3
    have h := gie c3 h
    refine lv_lload_n hx hb d_M_within_6 rfl (lv_at hl 0 rfl) ?_
    refine lv_lload hx hb d_M_within_7 (lv_at hl 2 rfl) ?_
    refine W.lcmp hx hb d_M_within_9 ?_
    refine lv_if_gt (tgt := 17) hx hb d_M_within_10 (by decide) (fun c4 => ?_) (fun c4 => ?_)
    · have c4 := (lg_cmp_gt _ _).mp c4
      have h := git c4 h
      exact hK17 w H locs ls h hI (lv_sub hl [] rfl)
    · have c4 := mt (lg_cmp_gt _ _).mpr c4
      have h := gie c4 h
      refine lv_iconst (v := 1) hx hb d_M_within_13 (by decide) ?_
      refine lv_goto (tgt := 18) hx hb d_M_within_14 (by decide) ?_
      exact hK18 _ w H locs ls h hI (lv_sub hl [] rfl)

abbrev b_M_isPlace : ByteArray := prog_9_method_4_code
def y_M_isPlace : MethodName := ⟨"BodySolidsModel", "isPlace", "(JJ)Z"⟩
theorem d_M_isPlace_0 : decode b_M_isPlace 0 = .ok (.lload_n 0, 1) := by decide +kernel
theorem d_M_isPlace_1 : decode b_M_isPlace 1 = .ok (.ldc2_w 84, 3) := by decide +kernel
theorem d_M_isPlace_4 : decode b_M_isPlace 4 = .ok (.ldc2_w 86, 3) := by decide +kernel
theorem d_M_isPlace_7 : decode b_M_isPlace 7 = .ok (.invokestatic 88, 3) := by decide +kernel
theorem d_M_isPlace_10 : decode b_M_isPlace 10 = .ok (.ifCond .eq 20, 3) := by decide +kernel
theorem d_M_isPlace_13 : decode b_M_isPlace 13 = .ok (.lload_n 2, 1) := by decide +kernel
theorem d_M_isPlace_14 : decode b_M_isPlace 14 = .ok (.ldc2_w 84, 3) := by decide +kernel
theorem d_M_isPlace_17 : decode b_M_isPlace 17 = .ok (.ldc2_w 86, 3) := by decide +kernel
theorem d_M_isPlace_20 : decode b_M_isPlace 20 = .ok (.invokestatic 88, 3) := by decide +kernel
theorem d_M_isPlace_23 : decode b_M_isPlace 23 = .ok (.ifCond .eq 7, 3) := by decide +kernel
theorem d_M_isPlace_26 : decode b_M_isPlace 26 = .ok (.iconst 1, 1) := by decide +kernel
theorem d_M_isPlace_27 : decode b_M_isPlace 27 = .ok (.goto 4, 3) := by decide +kernel
theorem d_M_isPlace_30 : decode b_M_isPlace 30 = .ok (.iconst 0, 1) := by decide +kernel
theorem d_M_isPlace_31 : decode b_M_isPlace 31 = .ok (.ireturn, 1) := by decide +kernel
abbrev rm_M_isPlace : Room := { frames := 1, cells := 0, slots := 0, locals := 25 }
theorem ce_M_isPlace : gCe y_M_isPlace (.code y_M_isPlace b_M_isPlace 4 (some .boolean)) 4 2 true := gCe.code wd_882 wd_57 wd_881 (by decide) (by decide +kernel)
def f_M_isPlace (g0 : gG) (p0 : Int64) (p1 : Int64) (w : gW) : gX Int32 := gbind (f_M_within g0 p0 (-5000) 5000 w) fun v3 w => gjoin (fun K31 => gjoin (fun K30 => if v3 = 0 then (K30 w) else (gbind (f_M_within g0 p1 (-5000) 5000 w) fun v9 w => if v9 = 0 then (K30 w) else (K31 1 w))) (fun (w : gW) => K31 0 w)) (fun (y4 : Int32) (w : gW) => gguard (y4 = 0 ∨ y4 = 1) (some (.inr y4, w)))
set_option maxHeartbeats 4000000 in
set_option maxRecDepth 100000 in
theorem m_M_isPlace (l : Launch) (hst : l.stackTraces = false) (D : gD) (g0 : gG) (p0 : Int64) (p1 : Int64) (w : gW) (r : (String ⊕ Int32) × gW) (h : f_M_isPlace g0 p0 p1 w = some r) : gMet l y_M_isPlace (.code y_M_isPlace b_M_isPlace 4 (some .boolean)) rm_M_isPlace D g0 [.long p0, .long p1] w (goI r) := by
  refine gw_ofZ (by decide +kernel) (Nat.le_of_ble_eq_true rfl) ?_
  intro p e s m below meth c ls args A Q hx hb hml hown hlocks hin hnt hT hK hZ hA hret hexc hthr hI hl
  obtain ⟨H, hH⟩ : ∃ H, H = s.heap := ⟨_, rfl⟩
  rw [← hH] at hI ⊢
  obtain ⟨locs, hlocs⟩ : ∃ z : List Loc, z = [] := ⟨_, rfl⟩
  rw [← hlocs] at hI ⊢
  have hl : lv_has ls 4 [(0, .long p0), (2, .long p1)] := hl
  unfold f_M_isPlace at h
  refine lv_lload_n hx hb d_M_isPlace_0 rfl (lv_at hl 0 rfl) ?_
  refine lv_ldc2 (v := (-5000)) hx hb hown (hT _ wd_883 args) d_M_isPlace_1 ?_
  refine lv_ldc2 (v := 5000) hx hb hown (hT _ wd_884 args) d_M_isPlace_4 ?_
  obtain ⟨u1, e2⟩ := gsome h
  refine gw_callI e2 h (gw_runS (As := [.long p0, .long (-5000), .long 5000]) (rest := []) hx hb hml hown hT hK hZ hA hI (m_M_within l hst D g0 p0 (-5000) 5000 w u1 e2) ce_M_within wd_885 ⟨by decide, by decide⟩ rfl rfl hl.1 rfl (lv_room (Nat.le_of_ble_eq_true rfl)) d_M_isPlace_7 ⟨(show 0 + 0 ≤ 0 by omega), (show 0 + 0 ≤ 0 by omega)⟩) hI hA hexc (show 0 + 0 ≤ 0 by omega) (show 0 + 0 ≤ 0 by omega) (fun v3 w H locs h hI => ?_)
  obtain ⟨K31, eK31, h⟩ := gj h
  have hK31 : ∀ (y4 : Int32) (w : gW) (H : Heap) (locs : List Loc) (ls : Array Slot), K31 y4 w = some r → gI D s A w H locs → lv_has ls 4 [] → W p l e rm_M_isPlace s m args below meth c H locs 0 0 Q (F0 m 31 ls [.int y4]) := by
    intro y4 w H locs ls h hI hl
    have h := gk2 eK31 h
    obtain ⟨g5, h⟩ := gif h
    exact W.widen (show 0 ≤ 0 by omega) (show 0 ≤ 0 by omega) (hret g5 0 _ (Option.some.inj h).symm _ _ _ _ d_M_isPlace_31 hI)
  obtain ⟨K30, eK30, h⟩ := gj h
  have hK30 : ∀ (w : gW) (H : Heap) (locs : List Loc) (ls : Array Slot), K30 w = some r → gI D s A w H locs → lv_has ls 4 [] → W p l e rm_M_isPlace s m args below meth c H locs 0 0 Q (F0 m 30 ls []) := by
    intro w H locs ls h hI hl
    have h := gk1 eK30 h
    refine lv_iconst (v := 0) hx hb d_M_isPlace_30 (by decide) ?_
    exact hK31 _ w H locs ls h hI (lv_sub hl [] rfl)
  refine lv_if_eq (tgt := 30) hx hb d_M_isPlace_10 (by decide) (fun c6 => ?_) (fun c6 => ?_)
  · skip
    have h := git c6 h
    exact hK30 w H locs ls h hI (lv_sub hl [] rfl)
  · skip
    have h := gie c6 h
    refine lv_lload_n hx hb d_M_isPlace_13 rfl (lv_at hl 1 rfl) ?_
    refine lv_ldc2 (v := (-5000)) hx hb hown (hT _ wd_883 args) d_M_isPlace_14 ?_
    refine lv_ldc2 (v := 5000) hx hb hown (hT _ wd_884 args) d_M_isPlace_17 ?_
    obtain ⟨u7, e8⟩ := gsome h
    refine gw_callI e8 h (gw_runS (As := [.long p1, .long (-5000), .long 5000]) (rest := []) hx hb hml hown hT hK hZ hA hI (m_M_within l hst D g0 p1 (-5000) 5000 w u7 e8) ce_M_within wd_885 ⟨by decide, by decide⟩ rfl rfl hl.1 rfl (lv_room (Nat.le_of_ble_eq_true rfl)) d_M_isPlace_20 ⟨(show 0 + 0 ≤ 0 by omega), (show 0 + 0 ≤ 0 by omega)⟩) hI hA hexc (show 0 + 0 ≤ 0 by omega) (show 0 + 0 ≤ 0 by omega) (fun v9 w H locs h hI => ?_)
    refine lv_if_eq (tgt := 30) hx hb d_M_isPlace_23 (by decide) (fun c10 => ?_) (fun c10 => ?_)
    · skip
      have h := git c10 h
      exact hK30 w H locs ls h hI (lv_sub hl [] rfl)
    · skip
      have h := gie c10 h
      refine lv_iconst (v := 1) hx hb d_M_isPlace_26 (by decide) ?_
      refine lv_goto (tgt := 31) hx hb d_M_isPlace_27 (by decide) ?_
      exact hK31 _ w H locs ls h hI (lv_sub hl [] rfl)

abbrev b_M_isLong : ByteArray := prog_9_method_11_code
def y_M_isLong : MethodName := ⟨"BodySolidsModel", "isLong", "(J)Z"⟩
theorem d_M_isLong_0 : decode b_M_isLong 0 = .ok (.lload_n 0, 1) := by decide +kernel
theorem d_M_isLong_1 : decode b_M_isLong 1 = .ok (.lconst 1, 1) := by decide +kernel
theorem d_M_isLong_2 : decode b_M_isLong 2 = .ok (.ldc2_w 86, 3) := by decide +kernel
theorem d_M_isLong_5 : decode b_M_isLong 5 = .ok (.invokestatic 88, 3) := by decide +kernel
theorem d_M_isLong_8 : decode b_M_isLong 8 = .ok (.ireturn, 1) := by decide +kernel
abbrev rm_M_isLong : Room := { frames := 1, cells := 0, slots := 0, locals := 25 }
theorem ce_M_isLong : gCe y_M_isLong (.code y_M_isLong b_M_isLong 2 (some .boolean)) 2 1 true := gCe.code wd_890 wd_57 wd_889 (by decide) (by decide +kernel)
def f_M_isLong (g0 : gG) (p0 : Int64) (w : gW) : gX Int32 := gbind (f_M_within g0 p0 1 5000 w) fun v3 w => gguard (v3 = 0 ∨ v3 = 1) (some (.inr v3, w))
set_option maxHeartbeats 4000000 in
set_option maxRecDepth 100000 in
theorem m_M_isLong (l : Launch) (hst : l.stackTraces = false) (D : gD) (g0 : gG) (p0 : Int64) (w : gW) (r : (String ⊕ Int32) × gW) (h : f_M_isLong g0 p0 w = some r) : gMet l y_M_isLong (.code y_M_isLong b_M_isLong 2 (some .boolean)) rm_M_isLong D g0 [.long p0] w (goI r) := by
  refine gw_ofZ (by decide +kernel) (Nat.le_of_ble_eq_true rfl) ?_
  intro p e s m below meth c ls args A Q hx hb hml hown hlocks hin hnt hT hK hZ hA hret hexc hthr hI hl
  obtain ⟨H, hH⟩ : ∃ H, H = s.heap := ⟨_, rfl⟩
  rw [← hH] at hI ⊢
  obtain ⟨locs, hlocs⟩ : ∃ z : List Loc, z = [] := ⟨_, rfl⟩
  rw [← hlocs] at hI ⊢
  have hl : lv_has ls 2 [(0, .long p0)] := hl
  unfold f_M_isLong at h
  refine lv_lload_n hx hb d_M_isLong_0 rfl (lv_at hl 0 rfl) ?_
  refine lv_lconst (v := 1) hx hb d_M_isLong_1 (by decide) ?_
  refine lv_ldc2 (v := 5000) hx hb hown (hT _ wd_884 args) d_M_isLong_2 ?_
  obtain ⟨u1, e2⟩ := gsome h
  refine gw_callI e2 h (gw_runS (As := [.long p0, .long 1, .long 5000]) (rest := []) hx hb hml hown hT hK hZ hA hI (m_M_within l hst D g0 p0 1 5000 w u1 e2) ce_M_within wd_885 ⟨by decide, by decide⟩ rfl rfl hl.1 rfl (lv_room (Nat.le_of_ble_eq_true rfl)) d_M_isLong_5 ⟨(show 0 + 0 ≤ 0 by omega), (show 0 + 0 ≤ 0 by omega)⟩) hI hA hexc (show 0 + 0 ≤ 0 by omega) (show 0 + 0 ≤ 0 by omega) (fun v3 w H locs h hI => ?_)
  obtain ⟨g4, h⟩ := gif h
  exact W.widen (show 0 ≤ 0 by omega) (show 0 ≤ 0 by omega) (hret g4 0 _ (Option.some.inj h).symm _ _ _ _ d_M_isLong_8 hI)

abbrev b_M_isUpright : ByteArray := prog_9_method_12_code
def y_M_isUpright : MethodName := ⟨"BodySolidsModel", "isUpright", "(JJ)Z"⟩
theorem d_M_isUpright_0 : decode b_M_isUpright 0 = .ok (.lload_n 0, 1) := by decide +kernel
theorem d_M_isUpright_1 : decode b_M_isUpright 1 = .ok (.lconst 0, 1) := by decide +kernel
theorem d_M_isUpright_2 : decode b_M_isUpright 2 = .ok (.ldc2_w 86, 3) := by decide +kernel
theorem d_M_isUpright_5 : decode b_M_isUpright 5 = .ok (.invokestatic 88, 3) := by decide +kernel
theorem d_M_isUpright_8 : decode b_M_isUpright 8 = .ok (.ifCond .eq 24, 3) := by decide +kernel
theorem d_M_isUpright_11 : decode b_M_isUpright 11 = .ok (.lload_n 2, 1) := by decide +kernel
theorem d_M_isUpright_12 : decode b_M_isUpright 12 = .ok (.invokestatic 98, 3) := by decide +kernel
theorem d_M_isUpright_15 : decode b_M_isUpright 15 = .ok (.ifCond .eq 17, 3) := by decide +kernel
theorem d_M_isUpright_18 : decode b_M_isUpright 18 = .ok (.lload_n 0, 1) := by decide +kernel
theorem d_M_isUpright_19 : decode b_M_isUpright 19 = .ok (.lload_n 2, 1) := by decide +kernel
theorem d_M_isUpright_20 : decode b_M_isUpright 20 = .ok (.ladd, 1) := by decide +kernel
theorem d_M_isUpright_21 : decode b_M_isUpright 21 = .ok (.ldc2_w 86, 3) := by decide +kernel
theorem d_M_isUpright_24 : decode b_M_isUpright 24 = .ok (.lcmp, 1) := by decide +kernel
theorem d_M_isUpright_25 : decode b_M_isUpright 25 = .ok (.ifCond .gt 7, 3) := by decide +kernel
theorem d_M_isUpright_28 : decode b_M_isUpright 28 = .ok (.iconst 1, 1) := by decide +kernel
theorem d_M_isUpright_29 : decode b_M_isUpright 29 = .ok (.goto 4, 3) := by decide +kernel
theorem d_M_isUpright_32 : decode b_M_isUpright 32 = .ok (.iconst 0, 1) := by decide +kernel
theorem d_M_isUpright_33 : decode b_M_isUpright 33 = .ok (.ireturn, 1) := by decide +kernel
abbrev rm_M_isUpright : Room := { frames := 2, cells := 0, slots := 0, locals := 46 }
theorem ce_M_isUpright : gCe y_M_isUpright (.code y_M_isUpright b_M_isUpright 4 (some .boolean)) 4 2 true := gCe.code wd_893 wd_57 wd_892 (by decide) (by decide +kernel)
def f_M_isUpright (g0 : gG) (p0 : Int64) (p1 : Int64) (w : gW) : gX Int32 := gbind (f_M_within g0 p0 0 5000 w) fun v3 w => gjoin (fun K33 => gjoin (fun K32 => if v3 = 0 then (K32 w) else (gbind (f_M_isLong g0 p1 w) fun v9 w => if v9 = 0 then (K32 w) else (if 5000 < (p0 + p1) then (K32 w) else (K33 1 w)))) (fun (w : gW) => K33 0 w)) (fun (y4 : Int32) (w : gW) => gguard (y4 = 0 ∨ y4 = 1) (some (.inr y4, w)))
set_option maxHeartbeats 4000000 in
set_option maxRecDepth 100000 in
theorem m_M_isUpright (l : Launch) (hst : l.stackTraces = false) (D : gD) (g0 : gG) (p0 : Int64) (p1 : Int64) (w : gW) (r : (String ⊕ Int32) × gW) (h : f_M_isUpright g0 p0 p1 w = some r) : gMet l y_M_isUpright (.code y_M_isUpright b_M_isUpright 4 (some .boolean)) rm_M_isUpright D g0 [.long p0, .long p1] w (goI r) := by
  refine gw_ofZ (by decide +kernel) (Nat.le_of_ble_eq_true rfl) ?_
  intro p e s m below meth c ls args A Q hx hb hml hown hlocks hin hnt hT hK hZ hA hret hexc hthr hI hl
  obtain ⟨H, hH⟩ : ∃ H, H = s.heap := ⟨_, rfl⟩
  rw [← hH] at hI ⊢
  obtain ⟨locs, hlocs⟩ : ∃ z : List Loc, z = [] := ⟨_, rfl⟩
  rw [← hlocs] at hI ⊢
  have hl : lv_has ls 4 [(0, .long p0), (2, .long p1)] := hl
  unfold f_M_isUpright at h
  refine lv_lload_n hx hb d_M_isUpright_0 rfl (lv_at hl 0 rfl) ?_
  refine lv_lconst (v := 0) hx hb d_M_isUpright_1 (by decide) ?_
  refine lv_ldc2 (v := 5000) hx hb hown (hT _ wd_884 args) d_M_isUpright_2 ?_
  obtain ⟨u1, e2⟩ := gsome h
  refine gw_callI e2 h (gw_runS (As := [.long p0, .long 0, .long 5000]) (rest := []) hx hb hml hown hT hK hZ hA hI (m_M_within l hst D g0 p0 0 5000 w u1 e2) ce_M_within wd_885 ⟨by decide, by decide⟩ rfl rfl hl.1 rfl (lv_room (Nat.le_of_ble_eq_true rfl)) d_M_isUpright_5 ⟨(show 0 + 0 ≤ 0 by omega), (show 0 + 0 ≤ 0 by omega)⟩) hI hA hexc (show 0 + 0 ≤ 0 by omega) (show 0 + 0 ≤ 0 by omega) (fun v3 w H locs h hI => ?_)
  obtain ⟨K33, eK33, h⟩ := gj h
  have hK33 : ∀ (y4 : Int32) (w : gW) (H : Heap) (locs : List Loc) (ls : Array Slot), K33 y4 w = some r → gI D s A w H locs → lv_has ls 4 [] → W p l e rm_M_isUpright s m args below meth c H locs 0 0 Q (F0 m 33 ls [.int y4]) := by
    intro y4 w H locs ls h hI hl
    have h := gk2 eK33 h
    obtain ⟨g5, h⟩ := gif h
    exact W.widen (show 0 ≤ 0 by omega) (show 0 ≤ 0 by omega) (hret g5 0 _ (Option.some.inj h).symm _ _ _ _ d_M_isUpright_33 hI)
  obtain ⟨K32, eK32, h⟩ := gj h
  have hK32 : ∀ (w : gW) (H : Heap) (locs : List Loc) (ls : Array Slot), K32 w = some r → gI D s A w H locs → lv_has ls 4 [] → W p l e rm_M_isUpright s m args below meth c H locs 0 0 Q (F0 m 32 ls []) := by
    intro w H locs ls h hI hl
    have h := gk1 eK32 h
    refine lv_iconst (v := 0) hx hb d_M_isUpright_32 (by decide) ?_
    exact hK33 _ w H locs ls h hI (lv_sub hl [] rfl)
  refine lv_if_eq (tgt := 32) hx hb d_M_isUpright_8 (by decide) (fun c6 => ?_) (fun c6 => ?_)
  · skip
    have h := git c6 h
    exact hK32 w H locs ls h hI (lv_sub hl [] rfl)
  · skip
    have h := gie c6 h
    refine lv_lload_n hx hb d_M_isUpright_11 rfl (lv_at hl 1 rfl) ?_
    obtain ⟨u7, e8⟩ := gsome h
    refine gw_callI e8 h (gw_runS (As := [.long p1]) (rest := []) hx hb hml hown hT hK hZ hA hI (m_M_isLong l hst D g0 p1 w u7 e8) ce_M_isLong wd_888 ⟨by decide, by decide⟩ rfl rfl hl.1 rfl (lv_room (Nat.le_of_ble_eq_true rfl)) d_M_isUpright_12 ⟨(show 0 + 0 ≤ 0 by omega), (show 0 + 0 ≤ 0 by omega)⟩) hI hA hexc (show 0 + 0 ≤ 0 by omega) (show 0 + 0 ≤ 0 by omega) (fun v9 w H locs h hI => ?_)
    refine lv_if_eq (tgt := 32) hx hb d_M_isUpright_15 (by decide) (fun c10 => ?_) (fun c10 => ?_)
    · skip
      have h := git c10 h
      exact hK32 w H locs ls h hI (lv_sub hl [] rfl)
    · skip
      have h := gie c10 h
      refine lv_lload_n hx hb d_M_isUpright_18 rfl (lv_at hl 0 rfl) ?_
      refine lv_lload_n hx hb d_M_isUpright_19 rfl (lv_at hl 1 rfl) ?_
      refine lv_ladd hx hb d_M_isUpright_20 ?_
      refine lv_ldc2 (v := 5000) hx hb hown (hT _ wd_884 args) d_M_isUpright_21 ?_
      refine W.lcmp hx hb d_M_isUpright_24 ?_
      refine lv_if_gt (tgt := 32) hx hb d_M_isUpright_25 (by decide) (fun c11 => ?_) (fun c11 => ?_)
      · have c11 := (lg_cmp_gt _ _).mp c11
        have h := git c11 h
        exact hK32 w H locs ls h hI (lv_sub hl [] rfl)
      · have c11 := mt (lg_cmp_gt _ _).mpr c11
        have h := gie c11 h
        refine lv_iconst (v := 1) hx hb d_M_isUpright_28 (by decide) ?_
        refine lv_goto (tgt := 33) hx hb d_M_isUpright_29 (by decide) ?_
        exact hK33 _ w H locs ls h hI (lv_sub hl [] rfl)

abbrev b_M_isBody : ByteArray := prog_9_method_5_code
def y_M_isBody : MethodName := ⟨"BodySolidsModel", "isBody", "(I)Z"⟩
theorem d_M_isBody_0 : decode b_M_isBody 0 = .ok (.iload_n 1, 1) := by decide +kernel
theorem d_M_isBody_1 : decode b_M_isBody 1 = .ok (.ifCond .lt 15, 3) := by decide +kernel
theorem d_M_isBody_4 : decode b_M_isBody 4 = .ok (.iload_n 1, 1) := by decide +kernel
theorem d_M_isBody_5 : decode b_M_isBody 5 = .ok (.aload_n 0, 1) := by decide +kernel
theorem d_M_isBody_6 : decode b_M_isBody 6 = .ok (.getfield 92, 3) := by decide +kernel
theorem d_M_isBody_9 : decode b_M_isBody 9 = .ok (.if_icmp .ge 7, 3) := by decide +kernel
theorem d_M_isBody_12 : decode b_M_isBody 12 = .ok (.iconst 1, 1) := by decide +kernel
theorem d_M_isBody_13 : decode b_M_isBody 13 = .ok (.goto 4, 3) := by decide +kernel
theorem d_M_isBody_16 : decode b_M_isBody 16 = .ok (.iconst 0, 1) := by decide +kernel
theorem d_M_isBody_17 : decode b_M_isBody 17 = .ok (.ireturn, 1) := by decide +kernel
abbrev rm_M_isBody : Room := { frames := 0, cells := 0, slots := 0, locals := 0 }
theorem ce_M_isBody : gCe y_M_isBody (.code y_M_isBody b_M_isBody 2 (some .boolean)) 2 1 false := gCe.code wd_897 wd_57 wd_896 (by decide) (by decide +kernel)
def f_M_isBody (g0 : gG) (a0 : Nat) (p1 : Int32) (w : gW) : gX Int32 := gjoin (fun K17 => gjoin (fun K16 => if p1 < 0 then (K16 w) else ((gfI w a0 7 2).bind fun v4 => if v4 ≤ p1 then (K16 w) else (K17 1 w))) (fun (w : gW) => K17 0 w)) (fun (y1 : Int32) (w : gW) => gguard (y1 = 0 ∨ y1 = 1) (some (.inr y1, w)))
set_option maxHeartbeats 4000000 in
set_option maxRecDepth 100000 in
theorem m_M_isBody (l : Launch) (hst : l.stackTraces = false) (D : gD) (g0 : gG) (a0 : Nat) (p1 : Int32) (w : gW) (r : (String ⊕ Int32) × gW) (h : f_M_isBody g0 a0 p1 w = some r) : gMet l y_M_isBody (.code y_M_isBody b_M_isBody 2 (some .boolean)) rm_M_isBody D g0 [.ref a0, .int p1] w (goI r) := by
  refine gw_ofZ (by decide +kernel) (Nat.le_of_ble_eq_true rfl) ?_
  intro p e s m below meth c ls args A Q hx hb hml hown hlocks hin hnt hT hK hZ hA hret hexc hthr hI hl
  obtain ⟨H, hH⟩ : ∃ H, H = s.heap := ⟨_, rfl⟩
  rw [← hH] at hI ⊢
  obtain ⟨locs, hlocs⟩ : ∃ z : List Loc, z = [] := ⟨_, rfl⟩
  rw [← hlocs] at hI ⊢
  have hl : lv_has ls 2 [(0, .ref a0), (1, .int p1)] := hl
  unfold f_M_isBody at h
  refine lv_iload_n hx hb d_M_isBody_0 rfl (lv_at hl 1 rfl) ?_
  obtain ⟨K17, eK17, h⟩ := gj h
  have hK17 : ∀ (y1 : Int32) (w : gW) (H : Heap) (locs : List Loc) (ls : Array Slot), K17 y1 w = some r → gI D s A w H locs → lv_has ls 2 [] → W p l e rm_M_isBody s m args below meth c H locs 0 0 Q (F0 m 17 ls [.int y1]) := by
    intro y1 w H locs ls h hI hl
    have h := gk2 eK17 h
    obtain ⟨g2, h⟩ := gif h
    exact W.widen (show 0 ≤ 0 by omega) (show 0 ≤ 0 by omega) (hret g2 0 _ (Option.some.inj h).symm _ _ _ _ d_M_isBody_17 hI)
  obtain ⟨K16, eK16, h⟩ := gj h
  have hK16 : ∀ (w : gW) (H : Heap) (locs : List Loc) (ls : Array Slot), K16 w = some r → gI D s A w H locs → lv_has ls 2 [] → W p l e rm_M_isBody s m args below meth c H locs 0 0 Q (F0 m 16 ls []) := by
    intro w H locs ls h hI hl
    have h := gk1 eK16 h
    refine lv_iconst (v := 0) hx hb d_M_isBody_16 (by decide) ?_
    exact hK17 _ w H locs ls h hI (lv_sub hl [] rfl)
  refine lv_if_lt (tgt := 16) hx hb d_M_isBody_1 (by decide) (fun c3 => ?_) (fun c3 => ?_)
  · skip
    have h := git c3 h
    exact hK16 w H locs ls h hI (lv_sub hl [] rfl)
  · skip
    have h := gie c3 h
    refine lv_iload_n hx hb d_M_isBody_4 rfl (lv_at hl 1 rfl) ?_
    refine lv_aload_n hx hb d_M_isBody_5 rfl (lv_at hl 0 rfl) ?_
    obtain ⟨v4, e5, h⟩ := gb h
    refine gw_getI hx hb hT hown hK hI (ci := 7) rfl i_7 2 (by decide) wd_788 (fun _ h9 => h9) e5 d_M_isBody_6 ?_
    refine lv_icmp_ge (tgt := 16) hx hb d_M_isBody_9 (by decide) (fun c6 => ?_) (fun c6 => ?_)
    · skip
      have h := git c6 h
      exact hK16 w H locs ls h hI (lv_sub hl [] rfl)
    · skip
      have h := gie c6 h
      refine lv_iconst (v := 1) hx hb d_M_isBody_12 (by decide) ?_
      refine lv_goto (tgt := 17) hx hb d_M_isBody_13 (by decide) ?_
      exact hK17 _ w H locs ls h hI (lv_sub hl [] rfl)

abbrev b_M_fresh : ByteArray := prog_9_method_8_code
def y_M_fresh : MethodName := ⟨"BodySolidsModel", "fresh", "(II)I"⟩
theorem d_M_fresh_0 : decode b_M_fresh 0 = .ok (.aload_n 0, 1) := by decide +kernel
theorem d_M_fresh_1 : decode b_M_fresh 1 = .ok (.getfield 7, 3) := by decide +kernel
theorem d_M_fresh_4 : decode b_M_fresh 4 = .ok (.iload_n 1, 1) := by decide +kernel
theorem d_M_fresh_5 : decode b_M_fresh 5 = .ok (.iaload, 1) := by decide +kernel
theorem d_M_fresh_6 : decode b_M_fresh 6 = .ok (.bipush 12, 2) := by decide +kernel
theorem d_M_fresh_8 : decode b_M_fresh 8 = .ok (.if_icmp .ne 5, 3) := by decide +kernel
theorem d_M_fresh_11 : decode b_M_fresh 11 = .ok (.iconst (-1), 1) := by decide +kernel
theorem d_M_fresh_12 : decode b_M_fresh 12 = .ok (.ireturn, 1) := by decide +kernel
theorem d_M_fresh_13 : decode b_M_fresh 13 = .ok (.bipush 12, 2) := by decide +kernel
theorem d_M_fresh_15 : decode b_M_fresh 15 = .ok (.iload_n 1, 1) := by decide +kernel
theorem d_M_fresh_16 : decode b_M_fresh 16 = .ok (.imul, 1) := by decide +kernel
theorem d_M_fresh_17 : decode b_M_fresh 17 = .ok (.aload_n 0, 1) := by decide +kernel
theorem d_M_fresh_18 : decode b_M_fresh 18 = .ok (.getfield 7, 3) := by decide +kernel
theorem d_M_fresh_21 : decode b_M_fresh 21 = .ok (.iload_n 1, 1) := by decide +kernel
theorem d_M_fresh_22 : decode b_M_fresh 22 = .ok (.iaload, 1) := by decide +kernel
theorem d_M_fresh_23 : decode b_M_fresh 23 = .ok (.iadd, 1) := by decide +kernel
theorem d_M_fresh_24 : decode b_M_fresh 24 = .ok (.istore_n 3, 1) := by decide +kernel
theorem d_M_fresh_25 : decode b_M_fresh 25 = .ok (.aload_n 0, 1) := by decide +kernel
theorem d_M_fresh_26 : decode b_M_fresh 26 = .ok (.getfield 13, 3) := by decide +kernel
theorem d_M_fresh_29 : decode b_M_fresh 29 = .ok (.iload_n 3, 1) := by decide +kernel
theorem d_M_fresh_30 : decode b_M_fresh 30 = .ok (.iload_n 2, 1) := by decide +kernel
theorem d_M_fresh_31 : decode b_M_fresh 31 = .ok (.iastore, 1) := by decide +kernel
theorem d_M_fresh_32 : decode b_M_fresh 32 = .ok (.aload_n 0, 1) := by decide +kernel
theorem d_M_fresh_33 : decode b_M_fresh 33 = .ok (.getfield 7, 3) := by decide +kernel
theorem d_M_fresh_36 : decode b_M_fresh 36 = .ok (.iload_n 1, 1) := by decide +kernel
theorem d_M_fresh_37 : decode b_M_fresh 37 = .ok (.dup2, 1) := by decide +kernel
theorem d_M_fresh_38 : decode b_M_fresh 38 = .ok (.iaload, 1) := by decide +kernel
theorem d_M_fresh_39 : decode b_M_fresh 39 = .ok (.iconst 1, 1) := by decide +kernel
theorem d_M_fresh_40 : decode b_M_fresh 40 = .ok (.iadd, 1) := by decide +kernel
theorem d_M_fresh_41 : decode b_M_fresh 41 = .ok (.iastore, 1) := by decide +kernel
theorem d_M_fresh_42 : decode b_M_fresh 42 = .ok (.iload_n 3, 1) := by decide +kernel
theorem d_M_fresh_43 : decode b_M_fresh 43 = .ok (.ireturn, 1) := by decide +kernel
abbrev rm_M_fresh : Room := { frames := 0, cells := 0, slots := 0, locals := 0 }
theorem ce_M_fresh : gCe y_M_fresh (.code y_M_fresh b_M_fresh 4 (some .int)) 4 2 false := gCe.code wd_901 wd_57 wd_900 (by decide) (by decide +kernel)
def f_M_fresh (g0 : gG) (a0 : Nat) (p1 : Int32) (p2 : Int32) (w : gW) : gX Int32 := (gfA w a0 7 3).bind fun v1 => (gaI w v1 p1).bind fun v3 => if v3 = 12 then (some (.inr (-1), w)) else ((gfA w a0 7 3).bind fun v6 => (gaI w v6 p1).bind fun v8 => (gfA w a0 7 4).bind fun v10 => (gsI w v10 ((12 * p1) + v8) p2).bind fun w => (gfA w a0 7 3).bind fun v13 => (gaI w v13 p1).bind fun v15 => (gsI w v13 p1 (v15 + 1)).bind fun w => some (.inr ((12 * p1) + v8), w))
set_option maxHeartbeats 4000000 in
set_option maxRecDepth 100000 in
theorem m_M_fresh (l : Launch) (hst : l.stackTraces = false) (D : gD) (g0 : gG) (a0 : Nat) (p1 : Int32) (p2 : Int32) (w : gW) (r : (String ⊕ Int32) × gW) (h : f_M_fresh g0 a0 p1 p2 w = some r) : gMet l y_M_fresh (.code y_M_fresh b_M_fresh 4 (some .int)) rm_M_fresh D g0 [.ref a0, .int p1, .int p2] w (goI r) := by
  refine gw_ofI (by decide +kernel) (Nat.le_of_ble_eq_true rfl) ?_
  intro p e s m below meth c ls args A Q hx hb hml hown hlocks hin hnt hT hK hZ hA hret hexc hthr hI hl
  obtain ⟨H, hH⟩ : ∃ H, H = s.heap := ⟨_, rfl⟩
  rw [← hH] at hI ⊢
  obtain ⟨locs, hlocs⟩ : ∃ z : List Loc, z = [] := ⟨_, rfl⟩
  rw [← hlocs] at hI ⊢
  have hl : lv_has ls 4 [(0, .ref a0), (1, .int p1), (2, .int p2)] := hl
  unfold f_M_fresh at h
  refine lv_aload_n hx hb d_M_fresh_0 rfl (lv_at hl 0 rfl) ?_
  obtain ⟨v1, e2, h⟩ := gb h
  refine gw_getA hx hb hT hown hK hI (ci := 7) rfl i_7 3 (by decide) wd_789 (fun _ h9 => h9) e2 d_M_fresh_1 ?_
  refine lv_iload_n hx hb d_M_fresh_4 rfl (lv_at hl 1 rfl) ?_
  obtain ⟨v3, e4, h⟩ := gb h
  refine gw_aldI hx hb hK hI e4 d_M_fresh_5 ?_
  refine lv_bipush (v := 12) hx hb d_M_fresh_6 (by decide) ?_
  refine lv_icmp_ne (tgt := 13) hx hb d_M_fresh_8 (by decide) (fun c5 => ?_) (fun c5 => ?_)
  · skip
    have h := gie c5 h
    refine lv_bipush (v := 12) hx hb d_M_fresh_13 (by decide) ?_
    refine lv_iload_n hx hb d_M_fresh_15 rfl (lv_at hl 1 rfl) ?_
    refine lv_imul hx hb d_M_fresh_16 ?_
    refine lv_aload_n hx hb d_M_fresh_17 rfl (lv_at hl 0 rfl) ?_
    obtain ⟨v6, e7, h⟩ := gb h
    refine gw_getA hx hb hT hown hK hI (ci := 7) rfl i_7 3 (by decide) wd_789 (fun _ h9 => h9) e7 d_M_fresh_18 ?_
    refine lv_iload_n hx hb d_M_fresh_21 rfl (lv_at hl 1 rfl) ?_
    obtain ⟨v8, e9, h⟩ := gb h
    refine gw_aldI hx hb hK hI e9 d_M_fresh_22 ?_
    refine lv_iadd hx hb d_M_fresh_23 ?_
    refine lv_istore_n (lv' := [(3, .int ((12 * p1) + v8)), (0, .ref a0), (1, .int p1), (2, .int p2)]) hx hb d_M_fresh_24 rfl hl (by decide) rfl (fun ls hl => ?_)
    refine lv_aload_n hx hb d_M_fresh_25 rfl (lv_at hl 1 rfl) ?_
    obtain ⟨v10, e11, h⟩ := gb h
    refine gw_getA hx hb hT hown hK hI (ci := 7) rfl i_7 4 (by decide) wd_790 (fun _ h9 => h9) e11 d_M_fresh_26 ?_
    refine lv_iload_n hx hb d_M_fresh_29 rfl (lv_at hl 0 rfl) ?_
    refine lv_iload_n hx hb d_M_fresh_30 rfl (lv_at hl 3 rfl) ?_
    obtain ⟨w, e12, h⟩ := gb h
    refine gw_astI hx hb hK hI e12 d_M_fresh_31 (fun H locs hI => ?_)
    refine lv_aload_n hx hb d_M_fresh_32 rfl (lv_at hl 1 rfl) ?_
    obtain ⟨v13, e14, h⟩ := gb h
    refine gw_getA hx hb hT hown hK hI (ci := 7) rfl i_7 3 (by decide) wd_789 (fun _ h9 => h9) e14 d_M_fresh_33 ?_
    refine lv_iload_n hx hb d_M_fresh_36 rfl (lv_at hl 2 rfl) ?_
    refine lv_dup2_11 hx hb d_M_fresh_37 rfl rfl ?_
    obtain ⟨v15, e16, h⟩ := gb h
    refine gw_aldI hx hb hK hI e16 d_M_fresh_38 ?_
    refine lv_iconst (v := 1) hx hb d_M_fresh_39 (by decide) ?_
    refine lv_iadd hx hb d_M_fresh_40 ?_
    obtain ⟨w, e17, h⟩ := gb h
    refine gw_astI hx hb hK hI e17 d_M_fresh_41 (fun H locs hI => ?_)
    refine lv_iload_n hx hb d_M_fresh_42 rfl (lv_at hl 0 rfl) ?_
    exact W.widen (show 0 ≤ 0 by omega) (show 0 ≤ 0 by omega) (hret _ _ (Option.some.inj h).symm _ _ _ _ d_M_fresh_43 hI)
  · skip
    have h := git c5 h
    refine lv_iconst (v := -1) hx hb d_M_fresh_11 (by decide) ?_
    exact W.widen (show 0 ≤ 0 by omega) (show 0 ≤ 0 by omega) (hret _ _ (Option.some.inj h).symm _ _ _ _ d_M_fresh_12 hI)

abbrev b_M_tell : ByteArray := prog_9_method_9_code
def y_M_tell : MethodName := ⟨"BodySolidsModel", "tell", "(IIJ)V"⟩
theorem d_M_tell_0 : decode b_M_tell 0 = .ok (.aload_n 0, 1) := by decide +kernel
theorem d_M_tell_1 : decode b_M_tell 1 = .ok (.getfield 16, 3) := by decide +kernel
theorem d_M_tell_4 : decode b_M_tell 4 = .ok (.bipush 6, 2) := by decide +kernel
theorem d_M_tell_6 : decode b_M_tell 6 = .ok (.iload_n 1, 1) := by decide +kernel
theorem d_M_tell_7 : decode b_M_tell 7 = .ok (.imul, 1) := by decide +kernel
theorem d_M_tell_8 : decode b_M_tell 8 = .ok (.iload_n 2, 1) := by decide +kernel
theorem d_M_tell_9 : decode b_M_tell 9 = .ok (.iadd, 1) := by decide +kernel
theorem d_M_tell_10 : decode b_M_tell 10 = .ok (.lload_n 3, 1) := by decide +kernel
theorem d_M_tell_11 : decode b_M_tell 11 = .ok (.lastore, 1) := by decide +kernel
theorem d_M_tell_12 : decode b_M_tell 12 = .ok (.return_, 1) := by decide +kernel
abbrev rm_M_tell : Room := { frames := 0, cells := 0, slots := 0, locals := 0 }
theorem ce_M_tell : gCe y_M_tell (.code y_M_tell b_M_tell 5 none) 5 3 false := gCe.code wd_905 wd_57 wd_904 (by decide) (by decide +kernel)
def f_M_tell (g0 : gG) (a0 : Nat) (p1 : Int32) (p2 : Int32) (p3 : Int64) (w : gW) : gX Unit := (gfA w a0 7 5).bind fun v1 => (gsJ w v1 ((6 * p1) + p2) p3).bind fun w => some (.inr (), w)
set_option maxHeartbeats 4000000 in
set_option maxRecDepth 100000 in
theorem m_M_tell (l : Launch) (hst : l.stackTraces = false) (D : gD) (g0 : gG) (a0 : Nat) (p1 : Int32) (p2 : Int32) (p3 : Int64) (w : gW) (r : (String ⊕ Unit) × gW) (h : f_M_tell g0 a0 p1 p2 p3 w = some r) : gMet l y_M_tell (.code y_M_tell b_M_tell 5 none) rm_M_tell D g0 [.ref a0, .int p1, .int p2, .long p3] w (goV r) := by
  refine gw_ofV (by decide +kernel) (Nat.le_of_ble_eq_true rfl) ?_
  intro p e s m below meth c ls args A Q hx hb hml hown hlocks hin hnt hT hK hZ hA hret hexc hthr hI hl
  obtain ⟨H, hH⟩ : ∃ H, H = s.heap := ⟨_, rfl⟩
  rw [← hH] at hI ⊢
  obtain ⟨locs, hlocs⟩ : ∃ z : List Loc, z = [] := ⟨_, rfl⟩
  rw [← hlocs] at hI ⊢
  have hl : lv_has ls 5 [(0, .ref a0), (1, .int p1), (2, .int p2), (3, .long p3)] := hl
  unfold f_M_tell at h
  refine lv_aload_n hx hb d_M_tell_0 rfl (lv_at hl 0 rfl) ?_
  obtain ⟨v1, e2, h⟩ := gb h
  refine gw_getA hx hb hT hown hK hI (ci := 7) rfl i_7 5 (by decide) wd_791 (fun _ h9 => h9) e2 d_M_tell_1 ?_
  refine lv_bipush (v := 6) hx hb d_M_tell_4 (by decide) ?_
  refine lv_iload_n hx hb d_M_tell_6 rfl (lv_at hl 1 rfl) ?_
  refine lv_imul hx hb d_M_tell_7 ?_
  refine lv_iload_n hx hb d_M_tell_8 rfl (lv_at hl 2 rfl) ?_
  refine lv_iadd hx hb d_M_tell_9 ?_
  refine lv_lload_n hx hb d_M_tell_10 rfl (lv_at hl 3 rfl) ?_
  obtain ⟨w, e3, h⟩ := gb h
  refine gw_astJ hx hb hK hI e3 d_M_tell_11 (fun H locs hI => ?_)
  exact W.widen (show 0 ≤ 0 by omega) (show 0 ≤ 0 by omega) (hret _ _ (Option.some.inj h).symm _ _ _ _ d_M_tell_12 hI)

abbrev b_M_box : ByteArray := prog_9_method_13_code
def y_M_box : MethodName := ⟨"BodySolidsModel", "box", "(IJJJJJJ)Z"⟩
theorem d_M_box_0 : decode b_M_box 0 = .ok (.lload_n 2, 1) := by decide +kernel
theorem d_M_box_1 : decode b_M_box 1 = .ok (.lload 4, 2) := by decide +kernel
theorem d_M_box_3 : decode b_M_box 3 = .ok (.invokestatic 102, 3) := by decide +kernel
theorem d_M_box_6 : decode b_M_box 6 = .ok (.ifCond .eq 48, 3) := by decide +kernel
theorem d_M_box_9 : decode b_M_box 9 = .ok (.lload 8, 2) := by decide +kernel
theorem d_M_box_11 : decode b_M_box 11 = .ok (.invokestatic 98, 3) := by decide +kernel
theorem d_M_box_14 : decode b_M_box 14 = .ok (.ifCond .eq 40, 3) := by decide +kernel
theorem d_M_box_17 : decode b_M_box 17 = .ok (.lload 10, 2) := by decide +kernel
theorem d_M_box_19 : decode b_M_box 19 = .ok (.invokestatic 98, 3) := by decide +kernel
theorem d_M_box_22 : decode b_M_box 22 = .ok (.ifCond .eq 32, 3) := by decide +kernel
theorem d_M_box_25 : decode b_M_box 25 = .ok (.lload_n 2, 1) := by decide +kernel
theorem d_M_box_26 : decode b_M_box 26 = .ok (.lload 8, 2) := by decide +kernel
theorem d_M_box_28 : decode b_M_box 28 = .ok (.ladd, 1) := by decide +kernel
theorem d_M_box_29 : decode b_M_box 29 = .ok (.lload 4, 2) := by decide +kernel
theorem d_M_box_31 : decode b_M_box 31 = .ok (.lload 10, 2) := by decide +kernel
theorem d_M_box_33 : decode b_M_box 33 = .ok (.ladd, 1) := by decide +kernel
theorem d_M_box_34 : decode b_M_box 34 = .ok (.invokestatic 102, 3) := by decide +kernel
theorem d_M_box_37 : decode b_M_box 37 = .ok (.ifCond .eq 17, 3) := by decide +kernel
theorem d_M_box_40 : decode b_M_box 40 = .ok (.lload 6, 2) := by decide +kernel
theorem d_M_box_42 : decode b_M_box 42 = .ok (.lload 12, 2) := by decide +kernel
theorem d_M_box_44 : decode b_M_box 44 = .ok (.invokestatic 106, 3) := by decide +kernel
theorem d_M_box_47 : decode b_M_box 47 = .ok (.ifCond .eq 7, 3) := by decide +kernel
theorem d_M_box_50 : decode b_M_box 50 = .ok (.iconst 1, 1) := by decide +kernel
theorem d_M_box_51 : decode b_M_box 51 = .ok (.goto 4, 3) := by decide +kernel
theorem d_M_box_54 : decode b_M_box 54 = .ok (.iconst 0, 1) := by decide +kernel
theorem d_M_box_55 : decode b_M_box 55 = .ok (.istore 14, 2) := by decide +kernel
theorem d_M_box_57 : decode b_M_box 57 = .ok (.aload_n 0, 1) := by decide +kernel
theorem d_M_box_58 : decode b_M_box 58 = .ok (.aload_n 0, 1) := by decide +kernel
theorem d_M_box_59 : decode b_M_box 59 = .ok (.iload_n 1, 1) := by decide +kernel
theorem d_M_box_60 : decode b_M_box 60 = .ok (.invokevirtual 109, 3) := by decide +kernel
theorem d_M_box_63 : decode b_M_box 63 = .ok (.ifCond .ne 7, 3) := by decide +kernel
theorem d_M_box_66 : decode b_M_box 66 = .ok (.iconst 1, 1) := by decide +kernel
theorem d_M_box_67 : decode b_M_box 67 = .ok (.goto 13, 3) := by decide +kernel
theorem d_M_box_70 : decode b_M_box 70 = .ok (.iload 14, 2) := by decide +kernel
theorem d_M_box_72 : decode b_M_box 72 = .ok (.ifCond .eq 7, 3) := by decide +kernel
theorem d_M_box_75 : decode b_M_box 75 = .ok (.iconst 0, 1) := by decide +kernel
theorem d_M_box_76 : decode b_M_box 76 = .ok (.goto 4, 3) := by decide +kernel
theorem d_M_box_79 : decode b_M_box 79 = .ok (.iconst 2, 1) := by decide +kernel
theorem d_M_box_80 : decode b_M_box 80 = .ok (.putfield 80, 3) := by decide +kernel
theorem d_M_box_83 : decode b_M_box 83 = .ok (.aload_n 0, 1) := by decide +kernel
theorem d_M_box_84 : decode b_M_box 84 = .ok (.getfield 80, 3) := by decide +kernel
theorem d_M_box_87 : decode b_M_box 87 = .ok (.ifCond .eq 5, 3) := by decide +kernel
theorem d_M_box_90 : decode b_M_box 90 = .ok (.iconst 0, 1) := by decide +kernel
theorem d_M_box_91 : decode b_M_box 91 = .ok (.ireturn, 1) := by decide +kernel
theorem d_M_box_92 : decode b_M_box 92 = .ok (.aload_n 0, 1) := by decide +kernel
theorem d_M_box_93 : decode b_M_box 93 = .ok (.iload_n 1, 1) := by decide +kernel
theorem d_M_box_94 : decode b_M_box 94 = .ok (.iconst 0, 1) := by decide +kernel
theorem d_M_box_95 : decode b_M_box 95 = .ok (.invokevirtual 113, 3) := by decide +kernel
theorem d_M_box_98 : decode b_M_box 98 = .ok (.istore 15, 2) := by decide +kernel
theorem d_M_box_100 : decode b_M_box 100 = .ok (.iload 15, 2) := by decide +kernel
theorem d_M_box_102 : decode b_M_box 102 = .ok (.iconst (-1), 1) := by decide +kernel
theorem d_M_box_103 : decode b_M_box 103 = .ok (.if_icmp .ne 5, 3) := by decide +kernel
theorem d_M_box_106 : decode b_M_box 106 = .ok (.iconst 0, 1) := by decide +kernel
theorem d_M_box_107 : decode b_M_box 107 = .ok (.ireturn, 1) := by decide +kernel
theorem d_M_box_108 : decode b_M_box 108 = .ok (.aload_n 0, 1) := by decide +kernel
theorem d_M_box_109 : decode b_M_box 109 = .ok (.iload 15, 2) := by decide +kernel
theorem d_M_box_111 : decode b_M_box 111 = .ok (.iconst 0, 1) := by decide +kernel
theorem d_M_box_112 : decode b_M_box 112 = .ok (.lload_n 2, 1) := by decide +kernel
theorem d_M_box_113 : decode b_M_box 113 = .ok (.invokevirtual 117, 3) := by decide +kernel
theorem d_M_box_116 : decode b_M_box 116 = .ok (.aload_n 0, 1) := by decide +kernel
theorem d_M_box_117 : decode b_M_box 117 = .ok (.iload 15, 2) := by decide +kernel
theorem d_M_box_119 : decode b_M_box 119 = .ok (.iconst 1, 1) := by decide +kernel
theorem d_M_box_120 : decode b_M_box 120 = .ok (.lload 4, 2) := by decide +kernel
theorem d_M_box_122 : decode b_M_box 122 = .ok (.invokevirtual 117, 3) := by decide +kernel
theorem d_M_box_125 : decode b_M_box 125 = .ok (.aload_n 0, 1) := by decide +kernel
theorem d_M_box_126 : decode b_M_box 126 = .ok (.iload 15, 2) := by decide +kernel
theorem d_M_box_128 : decode b_M_box 128 = .ok (.iconst 2, 1) := by decide +kernel
theorem d_M_box_129 : decode b_M_box 129 = .ok (.lload 6, 2) := by decide +kernel
theorem d_M_box_131 : decode b_M_box 131 = .ok (.invokevirtual 117, 3) := by decide +kernel
theorem d_M_box_134 : decode b_M_box 134 = .ok (.aload_n 0, 1) := by decide +kernel
theorem d_M_box_135 : decode b_M_box 135 = .ok (.iload 15, 2) := by decide +kernel
theorem d_M_box_137 : decode b_M_box 137 = .ok (.iconst 3, 1) := by decide +kernel
theorem d_M_box_138 : decode b_M_box 138 = .ok (.lload 8, 2) := by decide +kernel
theorem d_M_box_140 : decode b_M_box 140 = .ok (.invokevirtual 117, 3) := by decide +kernel
theorem d_M_box_143 : decode b_M_box 143 = .ok (.aload_n 0, 1) := by decide +kernel
theorem d_M_box_144 : decode b_M_box 144 = .ok (.iload 15, 2) := by decide +kernel
theorem d_M_box_146 : decode b_M_box 146 = .ok (.iconst 4, 1) := by decide +kernel
theorem d_M_box_147 : decode b_M_box 147 = .ok (.lload 10, 2) := by decide +kernel
theorem d_M_box_149 : decode b_M_box 149 = .ok (.invokevirtual 117, 3) := by decide +kernel
theorem d_M_box_152 : decode b_M_box 152 = .ok (.aload_n 0, 1) := by decide +kernel
theorem d_M_box_153 : decode b_M_box 153 = .ok (.iload 15, 2) := by decide +kernel
theorem d_M_box_155 : decode b_M_box 155 = .ok (.iconst 5, 1) := by decide +kernel
theorem d_M_box_156 : decode b_M_box 156 = .ok (.lload 12, 2) := by decide +kernel
theorem d_M_box_158 : decode b_M_box 158 = .ok (.invokevirtual 117, 3) := by decide +kernel
theorem d_M_box_161 : decode b_M_box 161 = .ok (.iconst 1, 1) := by decide +kernel
theorem d_M_box_162 : decode b_M_box 162 = .ok (.ireturn, 1) := by decide +kernel
abbrev rm_M_box : Room := { frames := 3, cells := 0, slots := 0, locals := 69 }
theorem ce_M_box : gCe y_M_box (.code y_M_box b_M_box 16 (some .boolean)) 16 7 false := gCe.code wd_879 wd_57 wd_877 (by decide) (by decide +kernel)
def f_M_box (g0 : gG) (a0 : Nat) (p1 : Int32) (p2 : Int64) (p3 : Int64) (p4 : Int64) (p5 : Int64) (p6 : Int64) (p7 : Int64) (w : gW) : gX Int32 := gbind (f_M_isPlace g0 p2 p3 w) fun v3 w => gjoin (fun K55 => gjoin (fun K54 => if v3 = 0 then (K54 w) else (gbind (f_M_isLong g0 p5 w) fun v59 w => if v59 = 0 then (K54 w) else (gbind (f_M_isLong g0 p6 w) fun v63 w => if v63 = 0 then (K54 w) else (gbind (f_M_isPlace g0 (p2 + p5) (p3 + p6) w) fun v67 w => if v67 = 0 then (K54 w) else (gbind (f_M_isUpright g0 p4 p7 w) fun v71 w => if v71 = 0 then (K54 w) else (K55 1 w)))))) (fun (w : gW) => K55 0 w)) (fun (y4 : Int32) (w : gW) => (gck w a0 7).bind fun _ => gbind (f_M_isBody g0 a0 p1 w) fun v9 w => gjoin (fun K80 => if v9 = 0 then (K80 1 w) else (if y4 = 0 then (K80 2 w) else (K80 0 w))) (fun (y10 : Int32) (w : gW) => (gp w a0 7 0 (.int y10)).bind fun w => (gfI w a0 7 0).bind fun v12 => if v12 = 0 then ((gck w a0 7).bind fun _ => gbind (f_M_fresh g0 a0 p1 0 w) fun v19 w => if v19 = (-1) then (gguard ((0 : Int32) = 0 ∨ (0 : Int32) = 1) (some (.inr 0, w))) else ((gck w a0 7).bind fun _ => gbind (f_M_tell g0 a0 v19 0 p2 w) fun v25 w => (gck w a0 7).bind fun _ => gbind (f_M_tell g0 a0 v19 1 p3 w) fun v30 w => (gck w a0 7).bind fun _ => gbind (f_M_tell g0 a0 v19 2 p4 w) fun v35 w => (gck w a0 7).bind fun _ => gbind (f_M_tell g0 a0 v19 3 p5 w) fun v40 w => (gck w a0 7).bind fun _ => gbind (f_M_tell g0 a0 v19 4 p6 w) fun v45 w => (gck w a0 7).bind fun _ => gbind (f_M_tell g0 a0 v19 5 p7 w) fun v50 w => gguard ((1 : Int32) = 0 ∨ (1 : Int32) = 1) (some (.inr 1, w)))) else (gguard ((0 : Int32) = 0 ∨ (0 : Int32) = 1) (some (.inr 0, w)))))
set_option maxHeartbeats 4000000 in
set_option maxRecDepth 100000 in
theorem m_M_box (l : Launch) (hst : l.stackTraces = false) (D : gD) (g0 : gG) (a0 : Nat) (p1 : Int32) (p2 : Int64) (p3 : Int64) (p4 : Int64) (p5 : Int64) (p6 : Int64) (p7 : Int64) (w : gW) (r : (String ⊕ Int32) × gW) (h : f_M_box g0 a0 p1 p2 p3 p4 p5 p6 p7 w = some r) : gMet l y_M_box (.code y_M_box b_M_box 16 (some .boolean)) rm_M_box D g0 [.ref a0, .int p1, .long p2, .long p3, .long p4, .long p5, .long p6, .long p7] w (goI r) := by
  refine gw_ofZ (by decide +kernel) (Nat.le_of_ble_eq_true rfl) ?_
  intro p e s m below meth c ls args A Q hx hb hml hown hlocks hin hnt hT hK hZ hA hret hexc hthr hI hl
  obtain ⟨H, hH⟩ : ∃ H, H = s.heap := ⟨_, rfl⟩
  rw [← hH] at hI ⊢
  obtain ⟨locs, hlocs⟩ : ∃ z : List Loc, z = [] := ⟨_, rfl⟩
  rw [← hlocs] at hI ⊢
  have hl : lv_has ls 16 [(0, .ref a0), (1, .int p1), (2, .long p2), (4, .long p3), (6, .long p4), (8, .long p5), (10, .long p6), (12, .long p7)] := hl
  unfold f_M_box at h
  refine lv_lload_n hx hb d_M_box_0 rfl (lv_at hl 2 rfl) ?_
  refine lv_lload hx hb d_M_box_1 (lv_at hl 3 rfl) ?_
  obtain ⟨u1, e2⟩ := gsome h
  refine gw_callI e2 h (gw_runS (As := [.long p2, .long p3]) (rest := []) hx hb hml hown hT hK hZ hA hI (m_M_isPlace l hst D g0 p2 p3 w u1 e2) ce_M_isPlace wd_880 ⟨by decide, by decide⟩ rfl rfl hl.1 rfl (lv_room (Nat.le_of_ble_eq_true rfl)) d_M_box_3 ⟨(show 0 + 0 ≤ 0 by omega), (show 0 + 0 ≤ 0 by omega)⟩) hI hA hexc (show 0 + 0 ≤ 0 by omega) (show 0 + 0 ≤ 0 by omega) (fun v3 w H locs h hI => ?_)
  obtain ⟨K55, eK55, h⟩ := gj h
  have hK55 : ∀ (y4 : Int32) (w : gW) (H : Heap) (locs : List Loc) (ls : Array Slot), K55 y4 w = some r → gI D s A w H locs → lv_has ls 16 [(0, .ref a0), (1, .int p1), (2, .long p2), (4, .long p3), (6, .long p4), (8, .long p5), (10, .long p6), (12, .long p7)] → W p l e rm_M_box s m args below meth c H locs 0 0 Q (F0 m 55 ls [.int y4]) := by
    intro y4 w H locs ls h hI hl
    have h := gk2 eK55 h
    refine lv_istore (lv' := [(14, .int y4), (0, .ref a0), (1, .int p1), (2, .long p2), (4, .long p3), (6, .long p4), (8, .long p5), (10, .long p6), (12, .long p7)]) hx hb d_M_box_55 hl (by decide) rfl (fun ls hl => ?_)
    refine lv_aload_n hx hb d_M_box_57 rfl (lv_at hl 1 rfl) ?_
    refine lv_aload_n hx hb d_M_box_58 rfl (lv_at hl 1 rfl) ?_
    refine lv_iload_n hx hb d_M_box_59 rfl (lv_at hl 2 rfl) ?_
    obtain ⟨q7, e8, h⟩ := gb h
    obtain ⟨u5, e6⟩ := gsome h
    refine gw_callI e6 h (gw_runV (As := [.int p1]) (rest := [.ref a0]) hx hb hml hown hT hK hZ hA hI (ci := 7) rfl e8 (m_M_isBody l hst D g0 a0 p1 w u5 e6) ce_M_isBody wd_894 wd_17 ⟨by decide, by decide⟩ rfl rfl hl.1 rfl (lv_room (Nat.le_of_ble_eq_true rfl)) d_M_box_60 ⟨(show 0 + 0 ≤ 0 by omega), (show 0 + 0 ≤ 0 by omega)⟩) hI hA hexc (show 0 + 0 ≤ 0 by omega) (show 0 + 0 ≤ 0 by omega) (fun v9 w H locs h hI => ?_)
    obtain ⟨K80, eK80, h⟩ := gj h
    have hK80 : ∀ (y10 : Int32) (w : gW) (H : Heap) (locs : List Loc) (ls : Array Slot), K80 y10 w = some r → gI D s A w H locs → lv_has ls 16 [(0, .ref a0), (1, .int p1), (2, .long p2), (4, .long p3), (6, .long p4), (8, .long p5), (10, .long p6), (12, .long p7)] → W p l e rm_M_box s m args below meth c H locs 0 0 Q (F0 m 80 ls [.int y10, .ref a0]) := by
      intro y10 w H locs ls h hI hl
      have h := gk2 eK80 h
      obtain ⟨w, e11, h⟩ := gb h
      refine gw_put hx hb hT hown hK hI (ci := 7) rfl i_7 t_7 t_7_ok n_7 0 (by decide) wd_786 (fun _ h9 => h9) rfl (ty := .int) (by decide +kernel) rfl rfl e11 d_M_box_80 (fun H locs hI => ?_)
      refine lv_aload_n hx hb d_M_box_83 rfl (lv_at hl 0 rfl) ?_
      obtain ⟨v12, e13, h⟩ := gb h
      refine gw_getI hx hb hT hown hK hI (ci := 7) rfl i_7 0 (by decide) wd_786 (fun _ h9 => h9) e13 d_M_box_84 ?_
      refine lv_if_eq (tgt := 92) hx hb d_M_box_87 (by decide) (fun c14 => ?_) (fun c14 => ?_)
      · skip
        have h := git c14 h
        refine lv_aload_n hx hb d_M_box_92 rfl (lv_at hl 0 rfl) ?_
        refine lv_iload_n hx hb d_M_box_93 rfl (lv_at hl 1 rfl) ?_
        refine lv_iconst (v := 0) hx hb d_M_box_94 (by decide) ?_
        obtain ⟨q17, e18, h⟩ := gb h
        obtain ⟨u15, e16⟩ := gsome h
        refine gw_callI e16 h (gw_runV (As := [.int p1, .int 0]) (rest := []) hx hb hml hown hT hK hZ hA hI (ci := 7) rfl e18 (m_M_fresh l hst D g0 a0 p1 0 w u15 e16) ce_M_fresh wd_898 wd_18 ⟨by decide, by decide⟩ rfl rfl hl.1 rfl (lv_room (Nat.le_of_ble_eq_true rfl)) d_M_box_95 ⟨(show 0 + 0 ≤ 0 by omega), (show 0 + 0 ≤ 0 by omega)⟩) hI hA hexc (show 0 + 0 ≤ 0 by omega) (show 0 + 0 ≤ 0 by omega) (fun v19 w H locs h hI => ?_)
        refine lv_istore (lv' := [(15, .int v19), (0, .ref a0), (1, .int p1), (2, .long p2), (4, .long p3), (6, .long p4), (8, .long p5), (10, .long p6), (12, .long p7)]) hx hb d_M_box_98 hl (by decide) rfl (fun ls hl => ?_)
        refine lv_iload hx hb d_M_box_100 (lv_at hl 0 rfl) ?_
        refine lv_iconst (v := -1) hx hb d_M_box_102 (by decide) ?_
        refine lv_icmp_ne (tgt := 108) hx hb d_M_box_103 (by decide) (fun c20 => ?_) (fun c20 => ?_)
        · skip
          have h := gie c20 h
          refine lv_aload_n hx hb d_M_box_108 rfl (lv_at hl 1 rfl) ?_
          refine lv_iload hx hb d_M_box_109 (lv_at hl 0 rfl) ?_
          refine lv_iconst (v := 0) hx hb d_M_box_111 (by decide) ?_
          refine lv_lload_n hx hb d_M_box_112 rfl (lv_at hl 3 rfl) ?_
          obtain ⟨q23, e24, h⟩ := gb h
          obtain ⟨u21, e22⟩ := gsome h
          refine gw_callV e22 h (gw_runV (As := [.int v19, .int 0, .long p2]) (rest := []) hx hb hml hown hT hK hZ hA hI (ci := 7) rfl e24 (m_M_tell l hst D g0 a0 v19 0 p2 w u21 e22) ce_M_tell wd_902 wd_19 ⟨by decide, by decide⟩ rfl rfl hl.1 rfl (lv_room (Nat.le_of_ble_eq_true rfl)) d_M_box_113 ⟨(show 0 + 0 ≤ 0 by omega), (show 0 + 0 ≤ 0 by omega)⟩) hI hA hexc (show 0 + 0 ≤ 0 by omega) (show 0 + 0 ≤ 0 by omega) (fun v25 w H locs h hI => ?_)
          refine lv_aload_n hx hb d_M_box_116 rfl (lv_at hl 1 rfl) ?_
          refine lv_iload hx hb d_M_box_117 (lv_at hl 0 rfl) ?_
          refine lv_iconst (v := 1) hx hb d_M_box_119 (by decide) ?_
          refine lv_lload hx hb d_M_box_120 (lv_at hl 4 rfl) ?_
          obtain ⟨q28, e29, h⟩ := gb h
          obtain ⟨u26, e27⟩ := gsome h
          refine gw_callV e27 h (gw_runV (As := [.int v19, .int 1, .long p3]) (rest := []) hx hb hml hown hT hK hZ hA hI (ci := 7) rfl e29 (m_M_tell l hst D g0 a0 v19 1 p3 w u26 e27) ce_M_tell wd_902 wd_19 ⟨by decide, by decide⟩ rfl rfl hl.1 rfl (lv_room (Nat.le_of_ble_eq_true rfl)) d_M_box_122 ⟨(show 0 + 0 ≤ 0 by omega), (show 0 + 0 ≤ 0 by omega)⟩) hI hA hexc (show 0 + 0 ≤ 0 by omega) (show 0 + 0 ≤ 0 by omega) (fun v30 w H locs h hI => ?_)
          refine lv_aload_n hx hb d_M_box_125 rfl (lv_at hl 1 rfl) ?_
          refine lv_iload hx hb d_M_box_126 (lv_at hl 0 rfl) ?_
          refine lv_iconst (v := 2) hx hb d_M_box_128 (by decide) ?_
          refine lv_lload hx hb d_M_box_129 (lv_at hl 5 rfl) ?_
          obtain ⟨q33, e34, h⟩ := gb h
          obtain ⟨u31, e32⟩ := gsome h
          refine gw_callV e32 h (gw_runV (As := [.int v19, .int 2, .long p4]) (rest := []) hx hb hml hown hT hK hZ hA hI (ci := 7) rfl e34 (m_M_tell l hst D g0 a0 v19 2 p4 w u31 e32) ce_M_tell wd_902 wd_19 ⟨by decide, by decide⟩ rfl rfl hl.1 rfl (lv_room (Nat.le_of_ble_eq_true rfl)) d_M_box_131 ⟨(show 0 + 0 ≤ 0 by omega), (show 0 + 0 ≤ 0 by omega)⟩) hI hA hexc (show 0 + 0 ≤ 0 by omega) (show 0 + 0 ≤ 0 by omega) (fun v35 w H locs h hI => ?_)
          refine lv_aload_n hx hb d_M_box_134 rfl (lv_at hl 1 rfl) ?_
          refine lv_iload hx hb d_M_box_135 (lv_at hl 0 rfl) ?_
          refine lv_iconst (v := 3) hx hb d_M_box_137 (by decide) ?_
          refine lv_lload hx hb d_M_box_138 (lv_at hl 6 rfl) ?_
          obtain ⟨q38, e39, h⟩ := gb h
          obtain ⟨u36, e37⟩ := gsome h
          refine gw_callV e37 h (gw_runV (As := [.int v19, .int 3, .long p5]) (rest := []) hx hb hml hown hT hK hZ hA hI (ci := 7) rfl e39 (m_M_tell l hst D g0 a0 v19 3 p5 w u36 e37) ce_M_tell wd_902 wd_19 ⟨by decide, by decide⟩ rfl rfl hl.1 rfl (lv_room (Nat.le_of_ble_eq_true rfl)) d_M_box_140 ⟨(show 0 + 0 ≤ 0 by omega), (show 0 + 0 ≤ 0 by omega)⟩) hI hA hexc (show 0 + 0 ≤ 0 by omega) (show 0 + 0 ≤ 0 by omega) (fun v40 w H locs h hI => ?_)
          refine lv_aload_n hx hb d_M_box_143 rfl (lv_at hl 1 rfl) ?_
          refine lv_iload hx hb d_M_box_144 (lv_at hl 0 rfl) ?_
          refine lv_iconst (v := 4) hx hb d_M_box_146 (by decide) ?_
          refine lv_lload hx hb d_M_box_147 (lv_at hl 7 rfl) ?_
          obtain ⟨q43, e44, h⟩ := gb h
          obtain ⟨u41, e42⟩ := gsome h
          refine gw_callV e42 h (gw_runV (As := [.int v19, .int 4, .long p6]) (rest := []) hx hb hml hown hT hK hZ hA hI (ci := 7) rfl e44 (m_M_tell l hst D g0 a0 v19 4 p6 w u41 e42) ce_M_tell wd_902 wd_19 ⟨by decide, by decide⟩ rfl rfl hl.1 rfl (lv_room (Nat.le_of_ble_eq_true rfl)) d_M_box_149 ⟨(show 0 + 0 ≤ 0 by omega), (show 0 + 0 ≤ 0 by omega)⟩) hI hA hexc (show 0 + 0 ≤ 0 by omega) (show 0 + 0 ≤ 0 by omega) (fun v45 w H locs h hI => ?_)
          refine lv_aload_n hx hb d_M_box_152 rfl (lv_at hl 1 rfl) ?_
          refine lv_iload hx hb d_M_box_153 (lv_at hl 0 rfl) ?_
          refine lv_iconst (v := 5) hx hb d_M_box_155 (by decide) ?_
          refine lv_lload hx hb d_M_box_156 (lv_at hl 8 rfl) ?_
          obtain ⟨q48, e49, h⟩ := gb h
          obtain ⟨u46, e47⟩ := gsome h
          refine gw_callV e47 h (gw_runV (As := [.int v19, .int 5, .long p7]) (rest := []) hx hb hml hown hT hK hZ hA hI (ci := 7) rfl e49 (m_M_tell l hst D g0 a0 v19 5 p7 w u46 e47) ce_M_tell wd_902 wd_19 ⟨by decide, by decide⟩ rfl rfl hl.1 rfl (lv_room (Nat.le_of_ble_eq_true rfl)) d_M_box_158 ⟨(show 0 + 0 ≤ 0 by omega), (show 0 + 0 ≤ 0 by omega)⟩) hI hA hexc (show 0 + 0 ≤ 0 by omega) (show 0 + 0 ≤ 0 by omega) (fun v50 w H locs h hI => ?_)
          refine lv_iconst (v := 1) hx hb d_M_box_161 (by decide) ?_
          obtain ⟨g51, h⟩ := gif h
          exact W.widen (show 0 ≤ 0 by omega) (show 0 ≤ 0 by omega) (hret g51 0 _ (Option.some.inj h).symm _ _ _ _ d_M_box_162 hI)
        · skip
          have h := git c20 h
          refine lv_iconst (v := 0) hx hb d_M_box_106 (by decide) ?_
          obtain ⟨g52, h⟩ := gif h
          exact W.widen (show 0 ≤ 0 by omega) (show 0 ≤ 0 by omega) (hret g52 0 _ (Option.some.inj h).symm _ _ _ _ d_M_box_107 hI)
      · skip
        have h := gie c14 h
        refine lv_iconst (v := 0) hx hb d_M_box_90 (by decide) ?_
        obtain ⟨g53, h⟩ := gif h
        exact W.widen (show 0 ≤ 0 by omega) (show 0 ≤ 0 by omega) (hret g53 0 _ (Option.some.inj h).symm _ _ _ _ d_M_box_91 hI)
    refine lv_if_ne (tgt := 70) hx hb d_M_box_63 (by decide) (fun c54 => ?_) (fun c54 => ?_)
    · skip
      have h := gie c54 h
      refine lv_iload hx hb d_M_box_70 (lv_at hl 0 rfl) ?_
      refine lv_if_eq (tgt := 79) hx hb d_M_box_72 (by decide) (fun c55 => ?_) (fun c55 => ?_)
      · skip
        have h := git c55 h
        refine lv_iconst (v := 2) hx hb d_M_box_79 (by decide) ?_
        exact hK80 _ w H locs ls h hI (lv_sub hl [1, 2, 3, 4, 5, 6, 7, 8] rfl)
      · skip
        have h := gie c55 h
        refine lv_iconst (v := 0) hx hb d_M_box_75 (by decide) ?_
        refine lv_goto (tgt := 80) hx hb d_M_box_76 (by decide) ?_
        exact hK80 _ w H locs ls h hI (lv_sub hl [1, 2, 3, 4, 5, 6, 7, 8] rfl)
    · skip
      have h := git c54 h
      refine lv_iconst (v := 1) hx hb d_M_box_66 (by decide) ?_
      refine lv_goto (tgt := 80) hx hb d_M_box_67 (by decide) ?_
      exact hK80 _ w H locs ls h hI (lv_sub hl [1, 2, 3, 4, 5, 6, 7, 8] rfl)
  obtain ⟨K54, eK54, h⟩ := gj h
  have hK54 : ∀ (w : gW) (H : Heap) (locs : List Loc) (ls : Array Slot), K54 w = some r → gI D s A w H locs → lv_has ls 16 [(0, .ref a0), (1, .int p1), (2, .long p2), (4, .long p3), (6, .long p4), (8, .long p5), (10, .long p6), (12, .long p7)] → W p l e rm_M_box s m args below meth c H locs 0 0 Q (F0 m 54 ls []) := by
    intro w H locs ls h hI hl
    have h := gk1 eK54 h
    refine lv_iconst (v := 0) hx hb d_M_box_54 (by decide) ?_
    exact hK55 _ w H locs ls h hI (lv_sub hl [0, 1, 2, 3, 4, 5, 6, 7] rfl)
  refine lv_if_eq (tgt := 54) hx hb d_M_box_6 (by decide) (fun c56 => ?_) (fun c56 => ?_)
  · skip
    have h := git c56 h
    exact hK54 w H locs ls h hI (lv_sub hl [0, 1, 2, 3, 4, 5, 6, 7] rfl)
  · skip
    have h := gie c56 h
    refine lv_lload hx hb d_M_box_9 (lv_at hl 5 rfl) ?_
    obtain ⟨u57, e58⟩ := gsome h
    refine gw_callI e58 h (gw_runS (As := [.long p5]) (rest := []) hx hb hml hown hT hK hZ hA hI (m_M_isLong l hst D g0 p5 w u57 e58) ce_M_isLong wd_888 ⟨by decide, by decide⟩ rfl rfl hl.1 rfl (lv_room (Nat.le_of_ble_eq_true rfl)) d_M_box_11 ⟨(show 0 + 0 ≤ 0 by omega), (show 0 + 0 ≤ 0 by omega)⟩) hI hA hexc (show 0 + 0 ≤ 0 by omega) (show 0 + 0 ≤ 0 by omega) (fun v59 w H locs h hI => ?_)
    refine lv_if_eq (tgt := 54) hx hb d_M_box_14 (by decide) (fun c60 => ?_) (fun c60 => ?_)
    · skip
      have h := git c60 h
      exact hK54 w H locs ls h hI (lv_sub hl [0, 1, 2, 3, 4, 5, 6, 7] rfl)
    · skip
      have h := gie c60 h
      refine lv_lload hx hb d_M_box_17 (lv_at hl 6 rfl) ?_
      obtain ⟨u61, e62⟩ := gsome h
      refine gw_callI e62 h (gw_runS (As := [.long p6]) (rest := []) hx hb hml hown hT hK hZ hA hI (m_M_isLong l hst D g0 p6 w u61 e62) ce_M_isLong wd_888 ⟨by decide, by decide⟩ rfl rfl hl.1 rfl (lv_room (Nat.le_of_ble_eq_true rfl)) d_M_box_19 ⟨(show 0 + 0 ≤ 0 by omega), (show 0 + 0 ≤ 0 by omega)⟩) hI hA hexc (show 0 + 0 ≤ 0 by omega) (show 0 + 0 ≤ 0 by omega) (fun v63 w H locs h hI => ?_)
      refine lv_if_eq (tgt := 54) hx hb d_M_box_22 (by decide) (fun c64 => ?_) (fun c64 => ?_)
      · skip
        have h := git c64 h
        exact hK54 w H locs ls h hI (lv_sub hl [0, 1, 2, 3, 4, 5, 6, 7] rfl)
      · skip
        have h := gie c64 h
        refine lv_lload_n hx hb d_M_box_25 rfl (lv_at hl 2 rfl) ?_
        refine lv_lload hx hb d_M_box_26 (lv_at hl 5 rfl) ?_
        refine lv_ladd hx hb d_M_box_28 ?_
        refine lv_lload hx hb d_M_box_29 (lv_at hl 3 rfl) ?_
        refine lv_lload hx hb d_M_box_31 (lv_at hl 6 rfl) ?_
        refine lv_ladd hx hb d_M_box_33 ?_
        obtain ⟨u65, e66⟩ := gsome h
        refine gw_callI e66 h (gw_runS (As := [.long (p2 + p5), .long (p3 + p6)]) (rest := []) hx hb hml hown hT hK hZ hA hI (m_M_isPlace l hst D g0 (p2 + p5) (p3 + p6) w u65 e66) ce_M_isPlace wd_880 ⟨by decide, by decide⟩ rfl rfl hl.1 rfl (lv_room (Nat.le_of_ble_eq_true rfl)) d_M_box_34 ⟨(show 0 + 0 ≤ 0 by omega), (show 0 + 0 ≤ 0 by omega)⟩) hI hA hexc (show 0 + 0 ≤ 0 by omega) (show 0 + 0 ≤ 0 by omega) (fun v67 w H locs h hI => ?_)
        refine lv_if_eq (tgt := 54) hx hb d_M_box_37 (by decide) (fun c68 => ?_) (fun c68 => ?_)
        · skip
          have h := git c68 h
          exact hK54 w H locs ls h hI (lv_sub hl [0, 1, 2, 3, 4, 5, 6, 7] rfl)
        · skip
          have h := gie c68 h
          refine lv_lload hx hb d_M_box_40 (lv_at hl 4 rfl) ?_
          refine lv_lload hx hb d_M_box_42 (lv_at hl 7 rfl) ?_
          obtain ⟨u69, e70⟩ := gsome h
          refine gw_callI e70 h (gw_runS (As := [.long p4, .long p7]) (rest := []) hx hb hml hown hT hK hZ hA hI (m_M_isUpright l hst D g0 p4 p7 w u69 e70) ce_M_isUpright wd_891 ⟨by decide, by decide⟩ rfl rfl hl.1 rfl (lv_room (Nat.le_of_ble_eq_true rfl)) d_M_box_44 ⟨(show 0 + 0 ≤ 0 by omega), (show 0 + 0 ≤ 0 by omega)⟩) hI hA hexc (show 0 + 0 ≤ 0 by omega) (show 0 + 0 ≤ 0 by omega) (fun v71 w H locs h hI => ?_)
          refine lv_if_eq (tgt := 54) hx hb d_M_box_47 (by decide) (fun c72 => ?_) (fun c72 => ?_)
          · skip
            have h := git c72 h
            exact hK54 w H locs ls h hI (lv_sub hl [0, 1, 2, 3, 4, 5, 6, 7] rfl)
          · skip
            have h := gie c72 h
            refine lv_iconst (v := 1) hx hb d_M_box_50 (by decide) ?_
            refine lv_goto (tgt := 55) hx hb d_M_box_51 (by decide) ?_
            exact hK55 _ w H locs ls h hI (lv_sub hl [0, 1, 2, 3, 4, 5, 6, 7] rfl)

abbrev b_M_thrown : ByteArray := prog_9_method_2_code
def y_M_thrown : MethodName := ⟨"BodySolidsModel", "thrown", "()I"⟩
theorem d_M_thrown_0 : decode b_M_thrown 0 = .ok (.aload_n 0, 1) := by decide +kernel
theorem d_M_thrown_1 : decode b_M_thrown 1 = .ok (.getfield 80, 3) := by decide +kernel
theorem d_M_thrown_4 : decode b_M_thrown 4 = .ok (.ireturn, 1) := by decide +kernel
abbrev rm_M_thrown : Room := { frames := 0, cells := 0, slots := 0, locals := 0 }
theorem ce_M_thrown : gCe y_M_thrown (.code y_M_thrown b_M_thrown 1 (some .int)) 1 0 false := gCe.code wd_871 wd_57 wd_869 (by decide) (by decide +kernel)
def f_M_thrown (g0 : gG) (a0 : Nat) (w : gW) : gX Int32 := (gfI w a0 7 0).bind fun v1 => some (.inr v1, w)
set_option maxHeartbeats 4000000 in
set_option maxRecDepth 100000 in
theorem m_M_thrown (l : Launch) (hst : l.stackTraces = false) (D : gD) (g0 : gG) (a0 : Nat) (w : gW) (r : (String ⊕ Int32) × gW) (h : f_M_thrown g0 a0 w = some r) : gMet l y_M_thrown (.code y_M_thrown b_M_thrown 1 (some .int)) rm_M_thrown D g0 [.ref a0] w (goI r) := by
  refine gw_ofI (by decide +kernel) (Nat.le_of_ble_eq_true rfl) ?_
  intro p e s m below meth c ls args A Q hx hb hml hown hlocks hin hnt hT hK hZ hA hret hexc hthr hI hl
  obtain ⟨H, hH⟩ : ∃ H, H = s.heap := ⟨_, rfl⟩
  rw [← hH] at hI ⊢
  obtain ⟨locs, hlocs⟩ : ∃ z : List Loc, z = [] := ⟨_, rfl⟩
  rw [← hlocs] at hI ⊢
  have hl : lv_has ls 1 [(0, .ref a0)] := hl
  unfold f_M_thrown at h
  refine lv_aload_n hx hb d_M_thrown_0 rfl (lv_at hl 0 rfl) ?_
  obtain ⟨v1, e2, h⟩ := gb h
  refine gw_getI hx hb hT hown hK hI (ci := 7) rfl i_7 0 (by decide) wd_786 (fun _ h9 => h9) e2 d_M_thrown_1 ?_
  exact W.widen (show 0 ≤ 0 by omega) (show 0 ≤ 0 by omega) (hret _ _ (Option.some.inj h).symm _ _ _ _ d_M_thrown_4 hI)

abbrev b_B_corner : ByteArray := prog_1_method_5_code
def y_B_corner : MethodName := ⟨"BodySolids", "corner", "(JJ)Z"⟩
theorem d_B_corner_0 : decode b_B_corner 0 = .ok (.lload_n 1, 1) := by decide +kernel
theorem d_B_corner_1 : decode b_B_corner 1 = .ok (.lload_n 3, 1) := by decide +kernel
theorem d_B_corner_2 : decode b_B_corner 2 = .ok (.invokestatic 83, 3) := by decide +kernel
theorem d_B_corner_5 : decode b_B_corner 5 = .ok (.aload_n 0, 1) := by decide +kernel
theorem d_B_corner_6 : decode b_B_corner 6 = .ok (.getfield 44, 3) := by decide +kernel
theorem d_B_corner_9 : decode b_B_corner 9 = .ok (.bipush 8, 2) := by decide +kernel
theorem d_B_corner_11 : decode b_B_corner 11 = .ok (.if_icmp .lt 5, 3) := by decide +kernel
theorem d_B_corner_14 : decode b_B_corner 14 = .ok (.iconst 0, 1) := by decide +kernel
theorem d_B_corner_15 : decode b_B_corner 15 = .ok (.ireturn, 1) := by decide +kernel
theorem d_B_corner_16 : decode b_B_corner 16 = .ok (.aload_n 0, 1) := by decide +kernel
theorem d_B_corner_17 : decode b_B_corner 17 = .ok (.getfield 37, 3) := by decide +kernel
theorem d_B_corner_20 : decode b_B_corner 20 = .ok (.aload_n 0, 1) := by decide +kernel
theorem d_B_corner_21 : decode b_B_corner 21 = .ok (.getfield 44, 3) := by decide +kernel
theorem d_B_corner_24 : decode b_B_corner 24 = .ok (.lload_n 1, 1) := by decide +kernel
theorem d_B_corner_25 : decode b_B_corner 25 = .ok (.lastore, 1) := by decide +kernel
theorem d_B_corner_26 : decode b_B_corner 26 = .ok (.aload_n 0, 1) := by decide +kernel
theorem d_B_corner_27 : decode b_B_corner 27 = .ok (.getfield 41, 3) := by decide +kernel
theorem d_B_corner_30 : decode b_B_corner 30 = .ok (.aload_n 0, 1) := by decide +kernel
theorem d_B_corner_31 : decode b_B_corner 31 = .ok (.getfield 44, 3) := by decide +kernel
theorem d_B_corner_34 : decode b_B_corner 34 = .ok (.lload_n 3, 1) := by decide +kernel
theorem d_B_corner_35 : decode b_B_corner 35 = .ok (.lastore, 1) := by decide +kernel
theorem d_B_corner_36 : decode b_B_corner 36 = .ok (.aload_n 0, 1) := by decide +kernel
theorem d_B_corner_37 : decode b_B_corner 37 = .ok (.dup, 1) := by decide +kernel
theorem d_B_corner_38 : decode b_B_corner 38 = .ok (.getfield 44, 3) := by decide +kernel
theorem d_B_corner_41 : decode b_B_corner 41 = .ok (.iconst 1, 1) := by decide +kernel
theorem d_B_corner_42 : decode b_B_corner 42 = .ok (.iadd, 1) := by decide +kernel
theorem d_B_corner_43 : decode b_B_corner 43 = .ok (.putfield 44, 3) := by decide +kernel
theorem d_B_corner_46 : decode b_B_corner 46 = .ok (.iconst 1, 1) := by decide +kernel
theorem d_B_corner_47 : decode b_B_corner 47 = .ok (.ireturn, 1) := by decide +kernel
abbrev rm_B_corner : Room := { frames := 9, cells := 2, slots := 12, locals := 138 }
theorem ce_B_corner : gCe y_B_corner (.code y_B_corner b_B_corner 5 (some .boolean)) 5 2 false := gCe.code wd_583 wd_49 wd_581 (by decide) (by decide +kernel)
def f_B_corner (g0 : gG) (a0 : Nat) (p1 : Int64) (p2 : Int64) (w : gW) : gX Int32 := gbind (f_B_needPlace g0 p1 p2 w) fun v3 w => (gfI w a0 0 6).bind fun v4 => if v4 < 8 then ((gfA w a0 0 4).bind fun v7 => (gfI w a0 0 6).bind fun v9 => (gsJ w v7 v9 p1).bind fun w => (gfA w a0 0 5).bind fun v12 => (gfI w a0 0 6).bind fun v14 => (gsJ w v12 v14 p2).bind fun w => (gfI w a0 0 6).bind fun v17 => (gp w a0 0 6 (.int (v17 + 1))).bind fun w => gguard ((1 : Int32) = 0 ∨ (1 : Int32) = 1) (some (.inr 1, w))) else (gguard ((0 : Int32) = 0 ∨ (0 : Int32) = 1) (some (.inr 0, w)))
set_option maxHeartbeats 4000000 in
set_option maxRecDepth 100000 in
theorem m_B_corner (l : Launch) (hst : l.stackTraces = false) (D : gD) (g0 : gG) (a0 : Nat) (p1 : Int64) (p2 : Int64) (w : gW) (r : (String ⊕ Int32) × gW) (h : f_B_corner g0 a0 p1 p2 w = some r) : gMet l y_B_corner (.code y_B_corner b_B_corner 5 (some .boolean)) rm_B_corner D g0 [.ref a0, .long p1, .long p2] w (goI r) := by
  refine gw_ofZ (by decide +kernel) (Nat.le_of_ble_eq_true rfl) ?_
  intro p e s m below meth c ls args A Q hx hb hml hown hlocks hin hnt hT hK hZ hA hret hexc hthr hI hl
  obtain ⟨H, hH⟩ : ∃ H, H = s.heap := ⟨_, rfl⟩
  rw [← hH] at hI ⊢
  obtain ⟨locs, hlocs⟩ : ∃ z : List Loc, z = [] := ⟨_, rfl⟩
  rw [← hlocs] at hI ⊢
  have hl : lv_has ls 5 [(0, .ref a0), (1, .long p1), (3, .long p2)] := hl
  unfold f_B_corner at h
  refine lv_lload_n hx hb d_B_corner_0 rfl (lv_at hl 1 rfl) ?_
  refine lv_lload_n hx hb d_B_corner_1 rfl (lv_at hl 2 rfl) ?_
  obtain ⟨u1, e2⟩ := gsome h
  refine gw_callV e2 h (gw_runS (As := [.long p1, .long p2]) (rest := []) hx hb hml hown hT hK hZ hA hI (m_B_needPlace l hst D g0 p1 p2 w u1 e2) ce_B_needPlace wd_511 ⟨by decide, by decide⟩ rfl rfl hl.1 rfl (lv_room (Nat.le_of_ble_eq_true rfl)) d_B_corner_2 ⟨(show 0 + 2 ≤ 2 by omega), (show 0 + 12 ≤ 12 by omega)⟩) hI hA hexc (show 0 + 2 ≤ 2 by omega) (show 0 + 12 ≤ 12 by omega) (fun v3 w H locs h hI => ?_)
  refine W.widen (k := 2) (n := 12) (show 0 + 2 ≤ 2 by omega) (show 0 + 12 ≤ 12 by omega) ?_
  refine lv_aload_n hx hb d_B_corner_5 rfl (lv_at hl 0 rfl) ?_
  obtain ⟨v4, e5, h⟩ := gb h
  refine gw_getI hx hb hT hown hK hI (ci := 0) rfl i_0 6 (by decide) wd_195 (fun _ h9 => h9) e5 d_B_corner_6 ?_
  refine lv_bipush (v := 8) hx hb d_B_corner_9 (by decide) ?_
  refine lv_icmp_lt (tgt := 16) hx hb d_B_corner_11 (by decide) (fun c6 => ?_) (fun c6 => ?_)
  · skip
    have h := git c6 h
    refine lv_aload_n hx hb d_B_corner_16 rfl (lv_at hl 0 rfl) ?_
    obtain ⟨v7, e8, h⟩ := gb h
    refine gw_getA hx hb hT hown hK hI (ci := 0) rfl i_0 4 (by decide) wd_193 (fun _ h9 => h9) e8 d_B_corner_17 ?_
    refine lv_aload_n hx hb d_B_corner_20 rfl (lv_at hl 0 rfl) ?_
    obtain ⟨v9, e10, h⟩ := gb h
    refine gw_getI hx hb hT hown hK hI (ci := 0) rfl i_0 6 (by decide) wd_195 (fun _ h9 => h9) e10 d_B_corner_21 ?_
    refine lv_lload_n hx hb d_B_corner_24 rfl (lv_at hl 1 rfl) ?_
    obtain ⟨w, e11, h⟩ := gb h
    refine gw_astJ hx hb hK hI e11 d_B_corner_25 (fun H locs hI => ?_)
    refine lv_aload_n hx hb d_B_corner_26 rfl (lv_at hl 0 rfl) ?_
    obtain ⟨v12, e13, h⟩ := gb h
    refine gw_getA hx hb hT hown hK hI (ci := 0) rfl i_0 5 (by decide) wd_194 (fun _ h9 => h9) e13 d_B_corner_27 ?_
    refine lv_aload_n hx hb d_B_corner_30 rfl (lv_at hl 0 rfl) ?_
    obtain ⟨v14, e15, h⟩ := gb h
    refine gw_getI hx hb hT hown hK hI (ci := 0) rfl i_0 6 (by decide) wd_195 (fun _ h9 => h9) e15 d_B_corner_31 ?_
    refine lv_lload_n hx hb d_B_corner_34 rfl (lv_at hl 2 rfl) ?_
    obtain ⟨w, e16, h⟩ := gb h
    refine gw_astJ hx hb hK hI e16 d_B_corner_35 (fun H locs hI => ?_)
    refine lv_aload_n hx hb d_B_corner_36 rfl (lv_at hl 0 rfl) ?_
    refine lv_dup hx hb d_B_corner_37 rfl ?_
    obtain ⟨v17, e18, h⟩ := gb h
    refine gw_getI hx hb hT hown hK hI (ci := 0) rfl i_0 6 (by decide) wd_195 (fun _ h9 => h9) e18 d_B_corner_38 ?_
    refine lv_iconst (v := 1) hx hb d_B_corner_41 (by decide) ?_
    refine lv_iadd hx hb d_B_corner_42 ?_
    obtain ⟨w, e19, h⟩ := gb h
    refine gw_put hx hb hT hown hK hI (ci := 0) rfl i_0 t_0 t_0_ok n_0 6 (by decide) wd_195 (fun _ h9 => h9) rfl (ty := .int) (by decide +kernel) rfl rfl e19 d_B_corner_43 (fun H locs hI => ?_)
    refine lv_iconst (v := 1) hx hb d_B_corner_46 (by decide) ?_
    obtain ⟨g20, h⟩ := gif h
    exact W.widen (show 2 ≤ 2 by omega) (show 12 ≤ 12 by omega) (hret g20 0 _ (Option.some.inj h).symm _ _ _ _ d_B_corner_47 hI)
  · skip
    have h := gie c6 h
    refine lv_iconst (v := 0) hx hb d_B_corner_14 (by decide) ?_
    obtain ⟨g21, h⟩ := gif h
    exact W.widen (show 2 ≤ 2 by omega) (show 12 ≤ 12 by omega) (hret g21 0 _ (Option.some.inj h).symm _ _ _ _ d_B_corner_15 hI)
end
section
abbrev b_W_corner : ByteArray := method_5_code
def y_W_corner : MethodName := ⟨"BodySolidsLaw", "corner", "(LBodySolids;JJ[J)I"⟩
theorem d_W_corner_0 : decode b_W_corner 0 = .ok (.aload 5, 2) := by decide +kernel
theorem d_W_corner_2 : decode b_W_corner 2 = .ok (.iconst 0, 1) := by decide +kernel
theorem d_W_corner_3 : decode b_W_corner 3 = .ok (.aload_n 0, 1) := by decide +kernel
theorem d_W_corner_4 : decode b_W_corner 4 = .ok (.lload_n 1, 1) := by decide +kernel
theorem d_W_corner_5 : decode b_W_corner 5 = .ok (.lload_n 3, 1) := by decide +kernel
theorem d_W_corner_6 : decode b_W_corner 6 = .ok (.invokevirtual 21, 3) := by decide +kernel
theorem d_W_corner_9 : decode b_W_corner 9 = .ok (.ifCond .eq 7, 3) := by decide +kernel
theorem d_W_corner_12 : decode b_W_corner 12 = .ok (.lconst 1, 1) := by decide +kernel
theorem d_W_corner_13 : decode b_W_corner 13 = .ok (.goto 4, 3) := by decide +kernel
theorem d_W_corner_16 : decode b_W_corner 16 = .ok (.lconst 0, 1) := by decide +kernel
theorem d_W_corner_17 : decode b_W_corner 17 = .ok (.lastore, 1) := by decide +kernel
theorem d_W_corner_18 : decode b_W_corner 18 = .ok (.goto 7, 3) := by decide +kernel
theorem d_W_corner_21 : decode b_W_corner 21 = .ok (.astore 6, 2) := by decide +kernel
theorem d_W_corner_23 : decode b_W_corner 23 = .ok (.iconst 1, 1) := by decide +kernel
theorem d_W_corner_24 : decode b_W_corner 24 = .ok (.ireturn, 1) := by decide +kernel
theorem d_W_corner_25 : decode b_W_corner 25 = .ok (.iconst 0, 1) := by decide +kernel
theorem d_W_corner_26 : decode b_W_corner 26 = .ok (.ireturn, 1) := by decide +kernel
abbrev rm_W_corner : Room := { frames := 10, cells := 2, slots := 12, locals := 162 }
theorem ce_W_corner : gCe y_W_corner (.codeWith y_W_corner b_W_corner 7 (some .int) [(0, 18, 21, 15)]) 7 4 true := gCe.codeWith wd_579 wd_48 wd_578 (by decide) (by decide +kernel)
def f_W_corner (g0 : gG) (a0 : Nat) (p1 : Int64) (p2 : Int64) (a3 : Nat) (w : gW) : gX Int32 := (gck w a0 0).bind fun _ => gtry (f_B_corner g0 a0 p1 p2 w) (fun E w => if E = "java/lang/IllegalArgumentException" then some (.inr 1, w) else none) fun v5 w => gjoin (fun K17 => if v5 = 0 then (K17 0 w) else (K17 1 w)) (fun (y6 : Int64) (w : gW) => (gsJ w a3 0 y6).bind fun w => some (.inr 0, w))
set_option maxHeartbeats 4000000 in
set_option maxRecDepth 100000 in
theorem m_W_corner (l : Launch) (hst : l.stackTraces = false) (D : gD) (g0 : gG) (a0 : Nat) (p1 : Int64) (p2 : Int64) (a3 : Nat) (w : gW) (r : (String ⊕ Int32) × gW) (h : f_W_corner g0 a0 p1 p2 a3 w = some r) : gMet l y_W_corner (.codeWith y_W_corner b_W_corner 7 (some .int) [(0, 18, 21, 15)]) rm_W_corner D g0 [.ref a0, .long p1, .long p2, .ref a3] w (goI r) := by
  refine gw_ofW (by decide +kernel) (Nat.le_of_ble_eq_true rfl) ?_
  intro p e s m below meth c ls args A Q hx hb hml hown htab hT hK hZ hA hret hI hl
  obtain ⟨H, hH⟩ : ∃ H, H = s.heap := ⟨_, rfl⟩
  rw [← hH] at hI ⊢
  obtain ⟨locs, hlocs⟩ : ∃ z : List Loc, z = [] := ⟨_, rfl⟩
  rw [← hlocs] at hI ⊢
  have hl : lv_has ls 7 [(0, .ref a0), (1, .long p1), (3, .long p2), (5, .ref a3)] := hl
  unfold f_W_corner at h
  refine lv_aload hx hb d_W_corner_0 (lv_at hl 3 rfl) ?_
  refine lv_iconst (v := 0) hx hb d_W_corner_2 (by decide) ?_
  refine lv_aload_n hx hb d_W_corner_3 rfl (lv_at hl 0 rfl) ?_
  refine lv_lload_n hx hb d_W_corner_4 rfl (lv_at hl 1 rfl) ?_
  refine lv_lload_n hx hb d_W_corner_5 rfl (lv_at hl 2 rfl) ?_
  obtain ⟨q3, e4, h⟩ := gb h
  obtain ⟨u1, e2⟩ := gsomeT h
  refine gw_tryI e2 h (gw_runV (As := [.long p1, .long p2]) (rest := [.int 0, .ref a3]) hx hb hml hown hT hK hZ hA hI (ci := 0) rfl e4 (m_B_corner l hst D g0 a0 p1 p2 w u1 e2) ce_B_corner wd_580 wd_582 ⟨by decide, by decide⟩ rfl rfl hl.1 rfl (lv_room (Nat.le_of_ble_eq_true rfl)) d_W_corner_6 ⟨(show 0 + 2 ≤ 2 by omega), (show 0 + 12 ≤ 12 by omega)⟩) hI hA (fun E w H locs q ce h hI hq hv hE => ?_) (fun v5 w H locs h hI => ?_)
  · skip
    rcases gcs h with ⟨rfl, h⟩ | ⟨-, h⟩
    · refine gw_catch1 hown hT htab wd_431 (by decide) (by decide) hq hv hE ?_
      refine lv_astore (lv' := [(6, .ref q), (0, .ref a0), (1, .long p1), (3, .long p2), (5, .ref a3)]) hx hb d_W_corner_21 hl (by decide) rfl (fun ls hl => ?_)
      refine lv_iconst (v := 1) hx hb d_W_corner_23 (by decide) ?_
      exact W.widen (show 2 ≤ 2 by omega) (show 12 ≤ 12 by omega) (hret _ _ (Option.some.inj h).symm _ _ _ _ d_W_corner_24 hI)
    exact absurd h (by simp)
  refine W.widen (k := 2) (n := 12) (show 0 + 2 ≤ 2 by omega) (show 0 + 12 ≤ 12 by omega) ?_
  obtain ⟨K17, eK17, h⟩ := gj h
  have hK17 : ∀ (y6 : Int64) (w : gW) (H : Heap) (locs : List Loc) (ls : Array Slot), K17 y6 w = some r → gI D s A w H locs → lv_has ls 7 [] → W p l e rm_W_corner s m args below meth c H locs 2 12 Q (F0 m 17 ls [.long y6, .int 0, .ref a3]) := by
    intro y6 w H locs ls h hI hl
    have h := gk2 eK17 h
    obtain ⟨w, e7, h⟩ := gb h
    refine gw_astJ hx hb hK hI e7 d_W_corner_17 (fun H locs hI => ?_)
    refine lv_goto (tgt := 25) hx hb d_W_corner_18 (by decide) ?_
    refine lv_iconst (v := 0) hx hb d_W_corner_25 (by decide) ?_
    exact W.widen (show 2 ≤ 2 by omega) (show 12 ≤ 12 by omega) (hret _ _ (Option.some.inj h).symm _ _ _ _ d_W_corner_26 hI)
  refine lv_if_eq (tgt := 16) hx hb d_W_corner_9 (by decide) (fun c8 => ?_) (fun c8 => ?_)
  · skip
    have h := git c8 h
    refine lv_lconst (v := 0) hx hb d_W_corner_16 (by decide) ?_
    exact hK17 _ w H locs ls h hI (lv_sub hl [] rfl)
  · skip
    have h := gie c8 h
    refine lv_lconst (v := 1) hx hb d_W_corner_12 (by decide) ?_
    refine lv_goto (tgt := 17) hx hb d_W_corner_13 (by decide) ?_
    exact hK17 _ w H locs ls h hI (lv_sub hl [] rfl)
end
section
abbrev b_M_corner : ByteArray := prog_9_method_15_code
def y_M_corner : MethodName := ⟨"BodySolidsModel", "corner", "(JJ)Z"⟩
theorem d_M_corner_0 : decode b_M_corner 0 = .ok (.aload_n 0, 1) := by decide +kernel
theorem d_M_corner_1 : decode b_M_corner 1 = .ok (.lload_n 1, 1) := by decide +kernel
theorem d_M_corner_2 : decode b_M_corner 2 = .ok (.lload_n 3, 1) := by decide +kernel
theorem d_M_corner_3 : decode b_M_corner 3 = .ok (.invokestatic 102, 3) := by decide +kernel
theorem d_M_corner_6 : decode b_M_corner 6 = .ok (.ifCond .eq 7, 3) := by decide +kernel
theorem d_M_corner_9 : decode b_M_corner 9 = .ok (.iconst 0, 1) := by decide +kernel
theorem d_M_corner_10 : decode b_M_corner 10 = .ok (.goto 4, 3) := by decide +kernel
theorem d_M_corner_13 : decode b_M_corner 13 = .ok (.iconst 1, 1) := by decide +kernel
theorem d_M_corner_14 : decode b_M_corner 14 = .ok (.putfield 80, 3) := by decide +kernel
theorem d_M_corner_17 : decode b_M_corner 17 = .ok (.aload_n 0, 1) := by decide +kernel
theorem d_M_corner_18 : decode b_M_corner 18 = .ok (.getfield 80, 3) := by decide +kernel
theorem d_M_corner_21 : decode b_M_corner 21 = .ok (.ifCond .ne 12, 3) := by decide +kernel
theorem d_M_corner_24 : decode b_M_corner 24 = .ok (.aload_n 0, 1) := by decide +kernel
theorem d_M_corner_25 : decode b_M_corner 25 = .ok (.getfield 121, 3) := by decide +kernel
theorem d_M_corner_28 : decode b_M_corner 28 = .ok (.bipush 8, 2) := by decide +kernel
theorem d_M_corner_30 : decode b_M_corner 30 = .ok (.if_icmp .ne 5, 3) := by decide +kernel
theorem d_M_corner_33 : decode b_M_corner 33 = .ok (.iconst 0, 1) := by decide +kernel
theorem d_M_corner_34 : decode b_M_corner 34 = .ok (.ireturn, 1) := by decide +kernel
theorem d_M_corner_35 : decode b_M_corner 35 = .ok (.aload_n 0, 1) := by decide +kernel
theorem d_M_corner_36 : decode b_M_corner 36 = .ok (.getfield 29, 3) := by decide +kernel
theorem d_M_corner_39 : decode b_M_corner 39 = .ok (.aload_n 0, 1) := by decide +kernel
theorem d_M_corner_40 : decode b_M_corner 40 = .ok (.getfield 121, 3) := by decide +kernel
theorem d_M_corner_43 : decode b_M_corner 43 = .ok (.lload_n 1, 1) := by decide +kernel
theorem d_M_corner_44 : decode b_M_corner 44 = .ok (.lastore, 1) := by decide +kernel
theorem d_M_corner_45 : decode b_M_corner 45 = .ok (.aload_n 0, 1) := by decide +kernel
theorem d_M_corner_46 : decode b_M_corner 46 = .ok (.getfield 32, 3) := by decide +kernel
theorem d_M_corner_49 : decode b_M_corner 49 = .ok (.aload_n 0, 1) := by decide +kernel
theorem d_M_corner_50 : decode b_M_corner 50 = .ok (.getfield 121, 3) := by decide +kernel
theorem d_M_corner_53 : decode b_M_corner 53 = .ok (.lload_n 3, 1) := by decide +kernel
theorem d_M_corner_54 : decode b_M_corner 54 = .ok (.lastore, 1) := by decide +kernel
theorem d_M_corner_55 : decode b_M_corner 55 = .ok (.aload_n 0, 1) := by decide +kernel
theorem d_M_corner_56 : decode b_M_corner 56 = .ok (.dup, 1) := by decide +kernel
theorem d_M_corner_57 : decode b_M_corner 57 = .ok (.getfield 121, 3) := by decide +kernel
theorem d_M_corner_60 : decode b_M_corner 60 = .ok (.iconst 1, 1) := by decide +kernel
theorem d_M_corner_61 : decode b_M_corner 61 = .ok (.iadd, 1) := by decide +kernel
theorem d_M_corner_62 : decode b_M_corner 62 = .ok (.putfield 121, 3) := by decide +kernel
theorem d_M_corner_65 : decode b_M_corner 65 = .ok (.iconst 1, 1) := by decide +kernel
theorem d_M_corner_66 : decode b_M_corner 66 = .ok (.ireturn, 1) := by decide +kernel
abbrev rm_M_corner : Room := { frames := 2, cells := 0, slots := 0, locals := 48 }
theorem ce_M_corner : gCe y_M_corner (.code y_M_corner b_M_corner 5 (some .boolean)) 5 2 false := gCe.code wd_913 wd_57 wd_911 (by decide) (by decide +kernel)
def f_M_corner (g0 : gG) (a0 : Nat) (p1 : Int64) (p2 : Int64) (w : gW) : gX Int32 := gbind (f_M_isPlace g0 p1 p2 w) fun v3 w => gjoin (fun K14 => if v3 = 0 then (K14 1 w) else (K14 0 w)) (fun (y4 : Int32) (w : gW) => (gp w a0 7 0 (.int y4)).bind fun w => (gfI w a0 7 0).bind fun v6 => gjoin (fun K33 => if v6 = 0 then ((gfI w a0 7 9).bind fun v10 => if v10 = 8 then (K33 w) else ((gfA w a0 7 10).bind fun v13 => (gfI w a0 7 9).bind fun v15 => (gsJ w v13 v15 p1).bind fun w => (gfA w a0 7 11).bind fun v18 => (gfI w a0 7 9).bind fun v20 => (gsJ w v18 v20 p2).bind fun w => (gfI w a0 7 9).bind fun v23 => (gp w a0 7 9 (.int (v23 + 1))).bind fun w => gguard ((1 : Int32) = 0 ∨ (1 : Int32) = 1) (some (.inr 1, w)))) else (K33 w)) (fun (w : gW) => gguard ((0 : Int32) = 0 ∨ (0 : Int32) = 1) (some (.inr 0, w))))
set_option maxHeartbeats 4000000 in
set_option maxRecDepth 100000 in
theorem m_M_corner (l : Launch) (hst : l.stackTraces = false) (D : gD) (g0 : gG) (a0 : Nat) (p1 : Int64) (p2 : Int64) (w : gW) (r : (String ⊕ Int32) × gW) (h : f_M_corner g0 a0 p1 p2 w = some r) : gMet l y_M_corner (.code y_M_corner b_M_corner 5 (some .boolean)) rm_M_corner D g0 [.ref a0, .long p1, .long p2] w (goI r) := by
  refine gw_ofZ (by decide +kernel) (Nat.le_of_ble_eq_true rfl) ?_
  intro p e s m below meth c ls args A Q hx hb hml hown hlocks hin hnt hT hK hZ hA hret hexc hthr hI hl
  obtain ⟨H, hH⟩ : ∃ H, H = s.heap := ⟨_, rfl⟩
  rw [← hH] at hI ⊢
  obtain ⟨locs, hlocs⟩ : ∃ z : List Loc, z = [] := ⟨_, rfl⟩
  rw [← hlocs] at hI ⊢
  have hl : lv_has ls 5 [(0, .ref a0), (1, .long p1), (3, .long p2)] := hl
  unfold f_M_corner at h
  refine lv_aload_n hx hb d_M_corner_0 rfl (lv_at hl 0 rfl) ?_
  refine lv_lload_n hx hb d_M_corner_1 rfl (lv_at hl 1 rfl) ?_
  refine lv_lload_n hx hb d_M_corner_2 rfl (lv_at hl 2 rfl) ?_
  obtain ⟨u1, e2⟩ := gsome h
  refine gw_callI e2 h (gw_runS (As := [.long p1, .long p2]) (rest := [.ref a0]) hx hb hml hown hT hK hZ hA hI (m_M_isPlace l hst D g0 p1 p2 w u1 e2) ce_M_isPlace wd_880 ⟨by decide, by decide⟩ rfl rfl hl.1 rfl (lv_room (Nat.le_of_ble_eq_true rfl)) d_M_corner_3 ⟨(show 0 + 0 ≤ 0 by omega), (show 0 + 0 ≤ 0 by omega)⟩) hI hA hexc (show 0 + 0 ≤ 0 by omega) (show 0 + 0 ≤ 0 by omega) (fun v3 w H locs h hI => ?_)
  obtain ⟨K14, eK14, h⟩ := gj h
  have hK14 : ∀ (y4 : Int32) (w : gW) (H : Heap) (locs : List Loc) (ls : Array Slot), K14 y4 w = some r → gI D s A w H locs → lv_has ls 5 [(0, .ref a0), (1, .long p1), (3, .long p2)] → W p l e rm_M_corner s m args below meth c H locs 0 0 Q (F0 m 14 ls [.int y4, .ref a0]) := by
    intro y4 w H locs ls h hI hl
    have h := gk2 eK14 h
    obtain ⟨w, e5, h⟩ := gb h
    refine gw_put hx hb hT hown hK hI (ci := 7) rfl i_7 t_7 t_7_ok n_7 0 (by decide) wd_786 (fun _ h9 => h9) rfl (ty := .int) (by decide +kernel) rfl rfl e5 d_M_corner_14 (fun H locs hI => ?_)
    refine lv_aload_n hx hb d_M_corner_17 rfl (lv_at hl 0 rfl) ?_
    obtain ⟨v6, e7, h⟩ := gb h
    refine gw_getI hx hb hT hown hK hI (ci := 7) rfl i_7 0 (by decide) wd_786 (fun _ h9 => h9) e7 d_M_corner_18 ?_
    obtain ⟨K33, eK33, h⟩ := gj h
    have hK33 : ∀ (w : gW) (H : Heap) (locs : List Loc) (ls : Array Slot), K33 w = some r → gI D s A w H locs → lv_has ls 5 [] → W p l e rm_M_corner s m args below meth c H locs 0 0 Q (F0 m 33 ls []) := by
      intro w H locs ls h hI hl
      have h := gk1 eK33 h
      refine lv_iconst (v := 0) hx hb d_M_corner_33 (by decide) ?_
      obtain ⟨g8, h⟩ := gif h
      exact W.widen (show 0 ≤ 0 by omega) (show 0 ≤ 0 by omega) (hret g8 0 _ (Option.some.inj h).symm _ _ _ _ d_M_corner_34 hI)
    refine lv_if_ne (tgt := 33) hx hb d_M_corner_21 (by decide) (fun c9 => ?_) (fun c9 => ?_)
    · skip
      have h := gie c9 h
      exact hK33 w H locs ls h hI (lv_sub hl [] rfl)
    · skip
      have h := git c9 h
      refine lv_aload_n hx hb d_M_corner_24 rfl (lv_at hl 0 rfl) ?_
      obtain ⟨v10, e11, h⟩ := gb h
      refine gw_getI hx hb hT hown hK hI (ci := 7) rfl i_7 9 (by decide) wd_795 (fun _ h9 => h9) e11 d_M_corner_25 ?_
      refine lv_bipush (v := 8) hx hb d_M_corner_28 (by decide) ?_
      refine lv_icmp_ne (tgt := 35) hx hb d_M_corner_30 (by decide) (fun c12 => ?_) (fun c12 => ?_)
      · skip
        have h := gie c12 h
        refine lv_aload_n hx hb d_M_corner_35 rfl (lv_at hl 0 rfl) ?_
        obtain ⟨v13, e14, h⟩ := gb h
        refine gw_getA hx hb hT hown hK hI (ci := 7) rfl i_7 10 (by decide) wd_796 (fun _ h9 => h9) e14 d_M_corner_36 ?_
        refine lv_aload_n hx hb d_M_corner_39 rfl (lv_at hl 0 rfl) ?_
        obtain ⟨v15, e16, h⟩ := gb h
        refine gw_getI hx hb hT hown hK hI (ci := 7) rfl i_7 9 (by decide) wd_795 (fun _ h9 => h9) e16 d_M_corner_40 ?_
        refine lv_lload_n hx hb d_M_corner_43 rfl (lv_at hl 1 rfl) ?_
        obtain ⟨w, e17, h⟩ := gb h
        refine gw_astJ hx hb hK hI e17 d_M_corner_44 (fun H locs hI => ?_)
        refine lv_aload_n hx hb d_M_corner_45 rfl (lv_at hl 0 rfl) ?_
        obtain ⟨v18, e19, h⟩ := gb h
        refine gw_getA hx hb hT hown hK hI (ci := 7) rfl i_7 11 (by decide) wd_797 (fun _ h9 => h9) e19 d_M_corner_46 ?_
        refine lv_aload_n hx hb d_M_corner_49 rfl (lv_at hl 0 rfl) ?_
        obtain ⟨v20, e21, h⟩ := gb h
        refine gw_getI hx hb hT hown hK hI (ci := 7) rfl i_7 9 (by decide) wd_795 (fun _ h9 => h9) e21 d_M_corner_50 ?_
        refine lv_lload_n hx hb d_M_corner_53 rfl (lv_at hl 2 rfl) ?_
        obtain ⟨w, e22, h⟩ := gb h
        refine gw_astJ hx hb hK hI e22 d_M_corner_54 (fun H locs hI => ?_)
        refine lv_aload_n hx hb d_M_corner_55 rfl (lv_at hl 0 rfl) ?_
        refine lv_dup hx hb d_M_corner_56 rfl ?_
        obtain ⟨v23, e24, h⟩ := gb h
        refine gw_getI hx hb hT hown hK hI (ci := 7) rfl i_7 9 (by decide) wd_795 (fun _ h9 => h9) e24 d_M_corner_57 ?_
        refine lv_iconst (v := 1) hx hb d_M_corner_60 (by decide) ?_
        refine lv_iadd hx hb d_M_corner_61 ?_
        obtain ⟨w, e25, h⟩ := gb h
        refine gw_put hx hb hT hown hK hI (ci := 7) rfl i_7 t_7 t_7_ok n_7 9 (by decide) wd_795 (fun _ h9 => h9) rfl (ty := .int) (by decide +kernel) rfl rfl e25 d_M_corner_62 (fun H locs hI => ?_)
        refine lv_iconst (v := 1) hx hb d_M_corner_65 (by decide) ?_
        obtain ⟨g26, h⟩ := gif h
        exact W.widen (show 0 ≤ 0 by omega) (show 0 ≤ 0 by omega) (hret g26 0 _ (Option.some.inj h).symm _ _ _ _ d_M_corner_66 hI)
      · skip
        have h := git c12 h
        exact hK33 w H locs ls h hI (lv_sub hl [] rfl)
  refine lv_if_eq (tgt := 13) hx hb d_M_corner_6 (by decide) (fun c27 => ?_) (fun c27 => ?_)
  · skip
    have h := git c27 h
    refine lv_iconst (v := 1) hx hb d_M_corner_13 (by decide) ?_
    exact hK14 _ w H locs ls h hI (lv_sub hl [0, 1, 2] rfl)
  · skip
    have h := gie c27 h
    refine lv_iconst (v := 0) hx hb d_M_corner_9 (by decide) ?_
    refine lv_goto (tgt := 14) hx hb d_M_corner_10 (by decide) ?_
    exact hK14 _ w H locs ls h hI (lv_sub hl [0, 1, 2] rfl)

abbrev b_B_turnAt : ByteArray := prog_1_method_31_code
def y_B_turnAt : MethodName := ⟨"BodySolids", "turnAt", "(III)J"⟩
theorem d_B_turnAt_0 : decode b_B_turnAt 0 = .ok (.aload_n 0, 1) := by decide +kernel
theorem d_B_turnAt_1 : decode b_B_turnAt 1 = .ok (.getfield 37, 3) := by decide +kernel
theorem d_B_turnAt_4 : decode b_B_turnAt 4 = .ok (.iload_n 2, 1) := by decide +kernel
theorem d_B_turnAt_5 : decode b_B_turnAt 5 = .ok (.laload, 1) := by decide +kernel
theorem d_B_turnAt_6 : decode b_B_turnAt 6 = .ok (.aload_n 0, 1) := by decide +kernel
theorem d_B_turnAt_7 : decode b_B_turnAt 7 = .ok (.getfield 37, 3) := by decide +kernel
theorem d_B_turnAt_10 : decode b_B_turnAt 10 = .ok (.iload_n 1, 1) := by decide +kernel
theorem d_B_turnAt_11 : decode b_B_turnAt 11 = .ok (.laload, 1) := by decide +kernel
theorem d_B_turnAt_12 : decode b_B_turnAt 12 = .ok (.lsub, 1) := by decide +kernel
theorem d_B_turnAt_13 : decode b_B_turnAt 13 = .ok (.aload_n 0, 1) := by decide +kernel
theorem d_B_turnAt_14 : decode b_B_turnAt 14 = .ok (.getfield 41, 3) := by decide +kernel
theorem d_B_turnAt_17 : decode b_B_turnAt 17 = .ok (.iload_n 3, 1) := by decide +kernel
theorem d_B_turnAt_18 : decode b_B_turnAt 18 = .ok (.laload, 1) := by decide +kernel
theorem d_B_turnAt_19 : decode b_B_turnAt 19 = .ok (.aload_n 0, 1) := by decide +kernel
theorem d_B_turnAt_20 : decode b_B_turnAt 20 = .ok (.getfield 41, 3) := by decide +kernel
theorem d_B_turnAt_23 : decode b_B_turnAt 23 = .ok (.iload_n 1, 1) := by decide +kernel
theorem d_B_turnAt_24 : decode b_B_turnAt 24 = .ok (.laload, 1) := by decide +kernel
theorem d_B_turnAt_25 : decode b_B_turnAt 25 = .ok (.lsub, 1) := by decide +kernel
theorem d_B_turnAt_26 : decode b_B_turnAt 26 = .ok (.lmul, 1) := by decide +kernel
theorem d_B_turnAt_27 : decode b_B_turnAt 27 = .ok (.aload_n 0, 1) := by decide +kernel
theorem d_B_turnAt_28 : decode b_B_turnAt 28 = .ok (.getfield 41, 3) := by decide +kernel
theorem d_B_turnAt_31 : decode b_B_turnAt 31 = .ok (.iload_n 2, 1) := by decide +kernel
theorem d_B_turnAt_32 : decode b_B_turnAt 32 = .ok (.laload, 1) := by decide +kernel
theorem d_B_turnAt_33 : decode b_B_turnAt 33 = .ok (.aload_n 0, 1) := by decide +kernel
theorem d_B_turnAt_34 : decode b_B_turnAt 34 = .ok (.getfield 41, 3) := by decide +kernel
theorem d_B_turnAt_37 : decode b_B_turnAt 37 = .ok (.iload_n 1, 1) := by decide +kernel
theorem d_B_turnAt_38 : decode b_B_turnAt 38 = .ok (.laload, 1) := by decide +kernel
theorem d_B_turnAt_39 : decode b_B_turnAt 39 = .ok (.lsub, 1) := by decide +kernel
theorem d_B_turnAt_40 : decode b_B_turnAt 40 = .ok (.aload_n 0, 1) := by decide +kernel
theorem d_B_turnAt_41 : decode b_B_turnAt 41 = .ok (.getfield 37, 3) := by decide +kernel
theorem d_B_turnAt_44 : decode b_B_turnAt 44 = .ok (.iload_n 3, 1) := by decide +kernel
theorem d_B_turnAt_45 : decode b_B_turnAt 45 = .ok (.laload, 1) := by decide +kernel
theorem d_B_turnAt_46 : decode b_B_turnAt 46 = .ok (.aload_n 0, 1) := by decide +kernel
theorem d_B_turnAt_47 : decode b_B_turnAt 47 = .ok (.getfield 37, 3) := by decide +kernel
theorem d_B_turnAt_50 : decode b_B_turnAt 50 = .ok (.iload_n 1, 1) := by decide +kernel
theorem d_B_turnAt_51 : decode b_B_turnAt 51 = .ok (.laload, 1) := by decide +kernel
theorem d_B_turnAt_52 : decode b_B_turnAt 52 = .ok (.lsub, 1) := by decide +kernel
theorem d_B_turnAt_53 : decode b_B_turnAt 53 = .ok (.lmul, 1) := by decide +kernel
theorem d_B_turnAt_54 : decode b_B_turnAt 54 = .ok (.lsub, 1) := by decide +kernel
theorem d_B_turnAt_55 : decode b_B_turnAt 55 = .ok (.lreturn, 1) := by decide +kernel
abbrev rm_B_turnAt : Room := { frames := 0, cells := 0, slots := 0, locals := 0 }
theorem ce_B_turnAt : gCe y_B_turnAt (.code y_B_turnAt b_B_turnAt 4 (some .long)) 4 3 false := gCe.code wd_602 wd_49 wd_601 (by decide) (by decide +kernel)
def f_B_turnAt (g0 : gG) (a0 : Nat) (p1 : Int32) (p2 : Int32) (p3 : Int32) (w : gW) : gX Int64 := (gfA w a0 0 4).bind fun v1 => (gaJ w v1 p2).bind fun v3 => (gfA w a0 0 4).bind fun v5 => (gaJ w v5 p1).bind fun v7 => (gfA w a0 0 5).bind fun v9 => (gaJ w v9 p3).bind fun v11 => (gfA w a0 0 5).bind fun v13 => (gaJ w v13 p1).bind fun v15 => (gfA w a0 0 5).bind fun v17 => (gaJ w v17 p2).bind fun v19 => (gfA w a0 0 5).bind fun v21 => (gaJ w v21 p1).bind fun v23 => (gfA w a0 0 4).bind fun v25 => (gaJ w v25 p3).bind fun v27 => (gfA w a0 0 4).bind fun v29 => (gaJ w v29 p1).bind fun v31 => some (.inr (((v3 - v7) * (v11 - v15)) - ((v19 - v23) * (v27 - v31))), w)
set_option maxHeartbeats 4000000 in
set_option maxRecDepth 100000 in
theorem m_B_turnAt (l : Launch) (hst : l.stackTraces = false) (D : gD) (g0 : gG) (a0 : Nat) (p1 : Int32) (p2 : Int32) (p3 : Int32) (w : gW) (r : (String ⊕ Int64) × gW) (h : f_B_turnAt g0 a0 p1 p2 p3 w = some r) : gMet l y_B_turnAt (.code y_B_turnAt b_B_turnAt 4 (some .long)) rm_B_turnAt D g0 [.ref a0, .int p1, .int p2, .int p3] w (goJ r) := by
  refine gw_ofJ (by decide +kernel) (Nat.le_of_ble_eq_true rfl) ?_
  intro p e s m below meth c ls args A Q hx hb hml hown hlocks hin hnt hT hK hZ hA hret hexc hthr hI hl
  obtain ⟨H, hH⟩ : ∃ H, H = s.heap := ⟨_, rfl⟩
  rw [← hH] at hI ⊢
  obtain ⟨locs, hlocs⟩ : ∃ z : List Loc, z = [] := ⟨_, rfl⟩
  rw [← hlocs] at hI ⊢
  have hl : lv_has ls 4 [(0, .ref a0), (1, .int p1), (2, .int p2), (3, .int p3)] := hl
  unfold f_B_turnAt at h
  refine lv_aload_n hx hb d_B_turnAt_0 rfl (lv_at hl 0 rfl) ?_
  obtain ⟨v1, e2, h⟩ := gb h
  refine gw_getA hx hb hT hown hK hI (ci := 0) rfl i_0 4 (by decide) wd_193 (fun _ h9 => h9) e2 d_B_turnAt_1 ?_
  refine lv_iload_n hx hb d_B_turnAt_4 rfl (lv_at hl 2 rfl) ?_
  obtain ⟨v3, e4, h⟩ := gb h
  refine gw_aldJ hx hb hK hI e4 d_B_turnAt_5 ?_
  refine lv_aload_n hx hb d_B_turnAt_6 rfl (lv_at hl 0 rfl) ?_
  obtain ⟨v5, e6, h⟩ := gb h
  refine gw_getA hx hb hT hown hK hI (ci := 0) rfl i_0 4 (by decide) wd_193 (fun _ h9 => h9) e6 d_B_turnAt_7 ?_
  refine lv_iload_n hx hb d_B_turnAt_10 rfl (lv_at hl 1 rfl) ?_
  obtain ⟨v7, e8, h⟩ := gb h
  refine gw_aldJ hx hb hK hI e8 d_B_turnAt_11 ?_
  refine lv_lsub hx hb d_B_turnAt_12 ?_
  refine lv_aload_n hx hb d_B_turnAt_13 rfl (lv_at hl 0 rfl) ?_
  obtain ⟨v9, e10, h⟩ := gb h
  refine gw_getA hx hb hT hown hK hI (ci := 0) rfl i_0 5 (by decide) wd_194 (fun _ h9 => h9) e10 d_B_turnAt_14 ?_
  refine lv_iload_n hx hb d_B_turnAt_17 rfl (lv_at hl 3 rfl) ?_
  obtain ⟨v11, e12, h⟩ := gb h
  refine gw_aldJ hx hb hK hI e12 d_B_turnAt_18 ?_
  refine lv_aload_n hx hb d_B_turnAt_19 rfl (lv_at hl 0 rfl) ?_
  obtain ⟨v13, e14, h⟩ := gb h
  refine gw_getA hx hb hT hown hK hI (ci := 0) rfl i_0 5 (by decide) wd_194 (fun _ h9 => h9) e14 d_B_turnAt_20 ?_
  refine lv_iload_n hx hb d_B_turnAt_23 rfl (lv_at hl 1 rfl) ?_
  obtain ⟨v15, e16, h⟩ := gb h
  refine gw_aldJ hx hb hK hI e16 d_B_turnAt_24 ?_
  refine lv_lsub hx hb d_B_turnAt_25 ?_
  refine lv_lmul hx hb d_B_turnAt_26 ?_
  refine lv_aload_n hx hb d_B_turnAt_27 rfl (lv_at hl 0 rfl) ?_
  obtain ⟨v17, e18, h⟩ := gb h
  refine gw_getA hx hb hT hown hK hI (ci := 0) rfl i_0 5 (by decide) wd_194 (fun _ h9 => h9) e18 d_B_turnAt_28 ?_
  refine lv_iload_n hx hb d_B_turnAt_31 rfl (lv_at hl 2 rfl) ?_
  obtain ⟨v19, e20, h⟩ := gb h
  refine gw_aldJ hx hb hK hI e20 d_B_turnAt_32 ?_
  refine lv_aload_n hx hb d_B_turnAt_33 rfl (lv_at hl 0 rfl) ?_
  obtain ⟨v21, e22, h⟩ := gb h
  refine gw_getA hx hb hT hown hK hI (ci := 0) rfl i_0 5 (by decide) wd_194 (fun _ h9 => h9) e22 d_B_turnAt_34 ?_
  refine lv_iload_n hx hb d_B_turnAt_37 rfl (lv_at hl 1 rfl) ?_
  obtain ⟨v23, e24, h⟩ := gb h
  refine gw_aldJ hx hb hK hI e24 d_B_turnAt_38 ?_
  refine lv_lsub hx hb d_B_turnAt_39 ?_
  refine lv_aload_n hx hb d_B_turnAt_40 rfl (lv_at hl 0 rfl) ?_
  obtain ⟨v25, e26, h⟩ := gb h
  refine gw_getA hx hb hT hown hK hI (ci := 0) rfl i_0 4 (by decide) wd_193 (fun _ h9 => h9) e26 d_B_turnAt_41 ?_
  refine lv_iload_n hx hb d_B_turnAt_44 rfl (lv_at hl 3 rfl) ?_
  obtain ⟨v27, e28, h⟩ := gb h
  refine gw_aldJ hx hb hK hI e28 d_B_turnAt_45 ?_
  refine lv_aload_n hx hb d_B_turnAt_46 rfl (lv_at hl 0 rfl) ?_
  obtain ⟨v29, e30, h⟩ := gb h
  refine gw_getA hx hb hT hown hK hI (ci := 0) rfl i_0 4 (by decide) wd_193 (fun _ h9 => h9) e30 d_B_turnAt_47 ?_
  refine lv_iload_n hx hb d_B_turnAt_50 rfl (lv_at hl 1 rfl) ?_
  obtain ⟨v31, e32, h⟩ := gb h
  refine gw_aldJ hx hb hK hI e32 d_B_turnAt_51 ?_
  refine lv_lsub hx hb d_B_turnAt_52 ?_
  refine lv_lmul hx hb d_B_turnAt_53 ?_
  refine lv_lsub hx hb d_B_turnAt_54 ?_
  exact W.widen (show 0 ≤ 0 by omega) (show 0 ≤ 0 by omega) (hret _ _ (Option.some.inj h).symm _ _ _ _ d_B_turnAt_55 hI)

abbrev b_B_othersLieLeftOfSide : ByteArray := prog_1_method_29_code
def y_B_othersLieLeftOfSide : MethodName := ⟨"BodySolids", "othersLieLeftOfSide", "(II)Z"⟩
theorem d_B_othersLieLeftOfSide_0 : decode b_B_othersLieLeftOfSide 0 = .ok (.iconst 0, 1) := by decide +kernel
theorem d_B_othersLieLeftOfSide_1 : decode b_B_othersLieLeftOfSide 1 = .ok (.istore_n 3, 1) := by decide +kernel
theorem d_B_othersLieLeftOfSide_2 : decode b_B_othersLieLeftOfSide 2 = .ok (.iload_n 3, 1) := by decide +kernel
theorem d_B_othersLieLeftOfSide_3 : decode b_B_othersLieLeftOfSide 3 = .ok (.aload_n 0, 1) := by decide +kernel
theorem d_B_othersLieLeftOfSide_4 : decode b_B_othersLieLeftOfSide 4 = .ok (.getfield 44, 3) := by decide +kernel
theorem d_B_othersLieLeftOfSide_7 : decode b_B_othersLieLeftOfSide 7 = .ok (.if_icmp .ge 33, 3) := by decide +kernel
theorem d_B_othersLieLeftOfSide_10 : decode b_B_othersLieLeftOfSide 10 = .ok (.iload_n 3, 1) := by decide +kernel
theorem d_B_othersLieLeftOfSide_11 : decode b_B_othersLieLeftOfSide 11 = .ok (.iload_n 1, 1) := by decide +kernel
theorem d_B_othersLieLeftOfSide_12 : decode b_B_othersLieLeftOfSide 12 = .ok (.if_icmp .eq 22, 3) := by decide +kernel
theorem d_B_othersLieLeftOfSide_15 : decode b_B_othersLieLeftOfSide 15 = .ok (.iload_n 3, 1) := by decide +kernel
theorem d_B_othersLieLeftOfSide_16 : decode b_B_othersLieLeftOfSide 16 = .ok (.iload_n 2, 1) := by decide +kernel
theorem d_B_othersLieLeftOfSide_17 : decode b_B_othersLieLeftOfSide 17 = .ok (.if_icmp .eq 17, 3) := by decide +kernel
theorem d_B_othersLieLeftOfSide_20 : decode b_B_othersLieLeftOfSide 20 = .ok (.aload_n 0, 1) := by decide +kernel
theorem d_B_othersLieLeftOfSide_21 : decode b_B_othersLieLeftOfSide 21 = .ok (.iload_n 1, 1) := by decide +kernel
theorem d_B_othersLieLeftOfSide_22 : decode b_B_othersLieLeftOfSide 22 = .ok (.iload_n 2, 1) := by decide +kernel
theorem d_B_othersLieLeftOfSide_23 : decode b_B_othersLieLeftOfSide 23 = .ok (.iload_n 3, 1) := by decide +kernel
theorem d_B_othersLieLeftOfSide_24 : decode b_B_othersLieLeftOfSide 24 = .ok (.invokevirtual 265, 3) := by decide +kernel
theorem d_B_othersLieLeftOfSide_27 : decode b_B_othersLieLeftOfSide 27 = .ok (.lconst 0, 1) := by decide +kernel
theorem d_B_othersLieLeftOfSide_28 : decode b_B_othersLieLeftOfSide 28 = .ok (.lcmp, 1) := by decide +kernel
theorem d_B_othersLieLeftOfSide_29 : decode b_B_othersLieLeftOfSide 29 = .ok (.ifCond .gt 5, 3) := by decide +kernel
theorem d_B_othersLieLeftOfSide_32 : decode b_B_othersLieLeftOfSide 32 = .ok (.iconst 0, 1) := by decide +kernel
theorem d_B_othersLieLeftOfSide_33 : decode b_B_othersLieLeftOfSide 33 = .ok (.ireturn, 1) := by decide +kernel
theorem d_B_othersLieLeftOfSide_34 : decode b_B_othersLieLeftOfSide 34 = .ok (.iinc 3 1, 3) := by decide +kernel
theorem d_B_othersLieLeftOfSide_37 : decode b_B_othersLieLeftOfSide 37 = .ok (.goto (-35), 3) := by decide +kernel
theorem d_B_othersLieLeftOfSide_40 : decode b_B_othersLieLeftOfSide 40 = .ok (.iconst 1, 1) := by decide +kernel
theorem d_B_othersLieLeftOfSide_41 : decode b_B_othersLieLeftOfSide 41 = .ok (.ireturn, 1) := by decide +kernel
abbrev rm_B_othersLieLeftOfSide : Room := { frames := 1, cells := 0, slots := 0, locals := 23 }
theorem ce_B_othersLieLeftOfSide : gCe y_B_othersLieLeftOfSide (.code y_B_othersLieLeftOfSide b_B_othersLieLeftOfSide 4 (some .boolean)) 4 2 false := gCe.code wd_598 wd_49 wd_597 (by decide) (by decide +kernel)
def f_B_othersLieLeftOfSide_L2 (g0 : gG) (c0 : Nat) (c1 : Int32) (c2 : Int32) (K40 : gW → gX Int32) (K32 : gW → gX Int32) : Nat → Int32 → gW → gX Int32
  | 0, _, _ => none
  | n + 1, z3, w => (gfI w c0 0 6).bind fun v3 => if v3 ≤ z3 then (K40 w) else (gjoin (fun K34 => if z3 = c1 then (K34 w) else (if z3 = c2 then (K34 w) else ((gck w c0 0).bind fun _ => gbind (f_B_turnAt g0 c0 c1 c2 z3 w) fun v12 w => if 0 < v12 then (K34 w) else (K32 w)))) (fun (w : gW) => f_B_othersLieLeftOfSide_L2 g0 c0 c1 c2 K40 K32 n (z3 + 1) w))
def f_B_othersLieLeftOfSide (g0 : gG) (a0 : Nat) (p1 : Int32) (p2 : Int32) (w : gW) : gX Int32 := gjoin (fun K40 => gjoin (fun K32 => f_B_othersLieLeftOfSide_L2 g0 a0 p1 p2 K40 K32 64 0 w) (fun (w : gW) => gguard ((0 : Int32) = 0 ∨ (0 : Int32) = 1) (some (.inr 0, w)))) (fun (w : gW) => gguard ((1 : Int32) = 0 ∨ (1 : Int32) = 1) (some (.inr 1, w)))
set_option maxHeartbeats 4000000 in
set_option maxRecDepth 100000 in
theorem m_B_othersLieLeftOfSide (l : Launch) (hst : l.stackTraces = false) (D : gD) (g0 : gG) (a0 : Nat) (p1 : Int32) (p2 : Int32) (w : gW) (r : (String ⊕ Int32) × gW) (h : f_B_othersLieLeftOfSide g0 a0 p1 p2 w = some r) : gMet l y_B_othersLieLeftOfSide (.code y_B_othersLieLeftOfSide b_B_othersLieLeftOfSide 4 (some .boolean)) rm_B_othersLieLeftOfSide D g0 [.ref a0, .int p1, .int p2] w (goI r) := by
  refine gw_ofZ (by decide +kernel) (Nat.le_of_ble_eq_true rfl) ?_
  intro p e s m below meth c ls args A Q hx hb hml hown hlocks hin hnt hT hK hZ hA hret hexc hthr hI hl
  obtain ⟨H, hH⟩ : ∃ H, H = s.heap := ⟨_, rfl⟩
  rw [← hH] at hI ⊢
  obtain ⟨locs, hlocs⟩ : ∃ z : List Loc, z = [] := ⟨_, rfl⟩
  rw [← hlocs] at hI ⊢
  have hl : lv_has ls 4 [(0, .ref a0), (1, .int p1), (2, .int p2)] := hl
  unfold f_B_othersLieLeftOfSide at h
  refine lv_iconst (v := 0) hx hb d_B_othersLieLeftOfSide_0 (by decide) ?_
  refine lv_istore_n (lv' := [(3, .int 0), (0, .ref a0), (1, .int p1), (2, .int p2)]) hx hb d_B_othersLieLeftOfSide_1 rfl hl (by decide) rfl (fun ls hl => ?_)
  obtain ⟨K40, eK40, h⟩ := gj h
  have hK40 : ∀ (w : gW) (H : Heap) (locs : List Loc) (ls : Array Slot), K40 w = some r → gI D s A w H locs → lv_has ls 4 [] → W p l e rm_B_othersLieLeftOfSide s m args below meth c H locs 0 0 Q (F0 m 40 ls []) := by
    intro w H locs ls h hI hl
    have h := gk1 eK40 h
    refine lv_iconst (v := 1) hx hb d_B_othersLieLeftOfSide_40 (by decide) ?_
    obtain ⟨g1, h⟩ := gif h
    exact W.widen (show 0 ≤ 0 by omega) (show 0 ≤ 0 by omega) (hret g1 0 _ (Option.some.inj h).symm _ _ _ _ d_B_othersLieLeftOfSide_41 hI)
  obtain ⟨K32, eK32, h⟩ := gj h
  have hK32 : ∀ (w : gW) (H : Heap) (locs : List Loc) (ls : Array Slot), K32 w = some r → gI D s A w H locs → lv_has ls 4 [] → W p l e rm_B_othersLieLeftOfSide s m args below meth c H locs 0 0 Q (F0 m 32 ls []) := by
    intro w H locs ls h hI hl
    have h := gk1 eK32 h
    refine lv_iconst (v := 0) hx hb d_B_othersLieLeftOfSide_32 (by decide) ?_
    obtain ⟨g2, h⟩ := gif h
    exact W.widen (show 0 ≤ 0 by omega) (show 0 ≤ 0 by omega) (hret g2 0 _ (Option.some.inj h).symm _ _ _ _ d_B_othersLieLeftOfSide_33 hI)
  have hL2 : ∀ (n : Nat), ∀ (z3 : Int32) (w : gW) (H : Heap) (locs : List Loc) (ls : Array Slot), f_B_othersLieLeftOfSide_L2 g0 a0 p1 p2 K40 K32 n z3 w = some r → gI D s A w H locs → lv_has ls 4 [(0, .ref a0), (1, .int p1), (2, .int p2), (3, .int z3)] → W p l e rm_B_othersLieLeftOfSide s m args below meth c H locs 0 0 Q (F0 m 2 ls []) := by
    intro n
    induction n with
    | zero => intro z3 w H locs ls h hI hl; exact absurd h (by simp [f_B_othersLieLeftOfSide_L2])
    | succ n ih =>
      intro z3 w H locs ls h hI hl
      rw [f_B_othersLieLeftOfSide_L2] at h
      refine lv_iload_n hx hb d_B_othersLieLeftOfSide_2 rfl (lv_at hl 3 rfl) ?_
      refine lv_aload_n hx hb d_B_othersLieLeftOfSide_3 rfl (lv_at hl 0 rfl) ?_
      obtain ⟨v4, e5, h⟩ := gb h
      refine gw_getI hx hb hT hown hK hI (ci := 0) rfl i_0 6 (by decide) wd_195 (fun _ h9 => h9) e5 d_B_othersLieLeftOfSide_4 ?_
      refine lv_icmp_ge (tgt := 40) hx hb d_B_othersLieLeftOfSide_7 (by decide) (fun c6 => ?_) (fun c6 => ?_)
      · skip
        have h := git c6 h
        exact hK40 w H locs ls h hI (lv_sub hl [] rfl)
      · skip
        have h := gie c6 h
        refine lv_iload_n hx hb d_B_othersLieLeftOfSide_10 rfl (lv_at hl 3 rfl) ?_
        refine lv_iload_n hx hb d_B_othersLieLeftOfSide_11 rfl (lv_at hl 1 rfl) ?_
        obtain ⟨K34, eK34, h⟩ := gj h
        have hK34 : ∀ (w : gW) (H : Heap) (locs : List Loc) (ls : Array Slot), K34 w = some r → gI D s A w H locs → lv_has ls 4 [(0, .ref a0), (1, .int p1), (2, .int p2), (3, .int z3)] → W p l e rm_B_othersLieLeftOfSide s m args below meth c H locs 0 0 Q (F0 m 34 ls []) := by
          intro w H locs ls h hI hl
          have h := gk1 eK34 h
          refine lv_iinc (v := z3 + 1) (lv' := [(3, .int (z3 + 1)), (0, .ref a0), (1, .int p1), (2, .int p2)]) hx hb d_B_othersLieLeftOfSide_34 hl (k := 3) rfl rfl (by decide) rfl (fun ls hl => ?_)
          refine lv_goto (tgt := 2) hx hb d_B_othersLieLeftOfSide_37 (by decide) ?_
          exact ih _ w H locs ls h hI (lv_sub hl [1, 2, 3, 0] rfl)
        refine lv_icmp_eq (tgt := 34) hx hb d_B_othersLieLeftOfSide_12 (by decide) (fun c7 => ?_) (fun c7 => ?_)
        · skip
          have h := git c7 h
          exact hK34 w H locs ls h hI (lv_sub hl [0, 1, 2, 3] rfl)
        · skip
          have h := gie c7 h
          refine lv_iload_n hx hb d_B_othersLieLeftOfSide_15 rfl (lv_at hl 3 rfl) ?_
          refine lv_iload_n hx hb d_B_othersLieLeftOfSide_16 rfl (lv_at hl 2 rfl) ?_
          refine lv_icmp_eq (tgt := 34) hx hb d_B_othersLieLeftOfSide_17 (by decide) (fun c8 => ?_) (fun c8 => ?_)
          · skip
            have h := git c8 h
            exact hK34 w H locs ls h hI (lv_sub hl [0, 1, 2, 3] rfl)
          · skip
            have h := gie c8 h
            refine lv_aload_n hx hb d_B_othersLieLeftOfSide_20 rfl (lv_at hl 0 rfl) ?_
            refine lv_iload_n hx hb d_B_othersLieLeftOfSide_21 rfl (lv_at hl 1 rfl) ?_
            refine lv_iload_n hx hb d_B_othersLieLeftOfSide_22 rfl (lv_at hl 2 rfl) ?_
            refine lv_iload_n hx hb d_B_othersLieLeftOfSide_23 rfl (lv_at hl 3 rfl) ?_
            obtain ⟨q11, e12, h⟩ := gb h
            obtain ⟨u9, e10⟩ := gsome h
            refine gw_callJ e10 h (gw_runV (As := [.int p1, .int p2, .int z3]) (rest := []) hx hb hml hown hT hK hZ hA hI (ci := 0) rfl e12 (m_B_turnAt l hst D g0 a0 p1 p2 z3 w u9 e10) ce_B_turnAt wd_599 wd_13 ⟨by decide, by decide⟩ rfl rfl hl.1 rfl (lv_room (Nat.le_of_ble_eq_true rfl)) d_B_othersLieLeftOfSide_24 ⟨(show 0 + 0 ≤ 0 by omega), (show 0 + 0 ≤ 0 by omega)⟩) hI hA hexc (show 0 + 0 ≤ 0 by omega) (show 0 + 0 ≤ 0 by omega) (fun v13 w H locs h hI => ?_)
            refine lv_lconst (v := 0) hx hb d_B_othersLieLeftOfSide_27 (by decide) ?_
            refine W.lcmp hx hb d_B_othersLieLeftOfSide_28 ?_
            refine lv_if_gt (tgt := 34) hx hb d_B_othersLieLeftOfSide_29 (by decide) (fun c14 => ?_) (fun c14 => ?_)
            · have c14 := (lg_cmp_gt _ _).mp c14
              have h := git c14 h
              exact hK34 w H locs ls h hI (lv_sub hl [0, 1, 2, 3] rfl)
            · have c14 := mt (lg_cmp_gt _ _).mpr c14
              have h := gie c14 h
              exact hK32 w H locs ls h hI (lv_sub hl [] rfl)
  exact hL2 64 _ w H locs ls h hI (lv_sub hl [1, 2, 3, 0] rfl)

abbrev b_B_cornersMakePolygon : ByteArray := prog_1_method_28_code
def y_B_cornersMakePolygon : MethodName := ⟨"BodySolids", "cornersMakePolygon", "()Z"⟩
theorem d_B_cornersMakePolygon_0 : decode b_B_cornersMakePolygon 0 = .ok (.aload_n 0, 1) := by decide +kernel
theorem d_B_cornersMakePolygon_1 : decode b_B_cornersMakePolygon 1 = .ok (.getfield 44, 3) := by decide +kernel
theorem d_B_cornersMakePolygon_4 : decode b_B_cornersMakePolygon 4 = .ok (.iconst 3, 1) := by decide +kernel
theorem d_B_cornersMakePolygon_5 : decode b_B_cornersMakePolygon 5 = .ok (.if_icmp .ge 5, 3) := by decide +kernel
theorem d_B_cornersMakePolygon_8 : decode b_B_cornersMakePolygon 8 = .ok (.iconst 0, 1) := by decide +kernel
theorem d_B_cornersMakePolygon_9 : decode b_B_cornersMakePolygon 9 = .ok (.ireturn, 1) := by decide +kernel
theorem d_B_cornersMakePolygon_10 : decode b_B_cornersMakePolygon 10 = .ok (.iconst 0, 1) := by decide +kernel
theorem d_B_cornersMakePolygon_11 : decode b_B_cornersMakePolygon 11 = .ok (.istore_n 1, 1) := by decide +kernel
theorem d_B_cornersMakePolygon_12 : decode b_B_cornersMakePolygon 12 = .ok (.iload_n 1, 1) := by decide +kernel
theorem d_B_cornersMakePolygon_13 : decode b_B_cornersMakePolygon 13 = .ok (.aload_n 0, 1) := by decide +kernel
theorem d_B_cornersMakePolygon_14 : decode b_B_cornersMakePolygon 14 = .ok (.getfield 44, 3) := by decide +kernel
theorem d_B_cornersMakePolygon_17 : decode b_B_cornersMakePolygon 17 = .ok (.if_icmp .ge 36, 3) := by decide +kernel
theorem d_B_cornersMakePolygon_20 : decode b_B_cornersMakePolygon 20 = .ok (.aload_n 0, 1) := by decide +kernel
theorem d_B_cornersMakePolygon_21 : decode b_B_cornersMakePolygon 21 = .ok (.iload_n 1, 1) := by decide +kernel
theorem d_B_cornersMakePolygon_22 : decode b_B_cornersMakePolygon 22 = .ok (.iload_n 1, 1) := by decide +kernel
theorem d_B_cornersMakePolygon_23 : decode b_B_cornersMakePolygon 23 = .ok (.iconst 1, 1) := by decide +kernel
theorem d_B_cornersMakePolygon_24 : decode b_B_cornersMakePolygon 24 = .ok (.iadd, 1) := by decide +kernel
theorem d_B_cornersMakePolygon_25 : decode b_B_cornersMakePolygon 25 = .ok (.aload_n 0, 1) := by decide +kernel
theorem d_B_cornersMakePolygon_26 : decode b_B_cornersMakePolygon 26 = .ok (.getfield 44, 3) := by decide +kernel
theorem d_B_cornersMakePolygon_29 : decode b_B_cornersMakePolygon 29 = .ok (.if_icmp .ge 9, 3) := by decide +kernel
theorem d_B_cornersMakePolygon_32 : decode b_B_cornersMakePolygon 32 = .ok (.iload_n 1, 1) := by decide +kernel
theorem d_B_cornersMakePolygon_33 : decode b_B_cornersMakePolygon 33 = .ok (.iconst 1, 1) := by decide +kernel
theorem d_B_cornersMakePolygon_34 : decode b_B_cornersMakePolygon 34 = .ok (.iadd, 1) := by decide +kernel
theorem d_B_cornersMakePolygon_35 : decode b_B_cornersMakePolygon 35 = .ok (.goto 4, 3) := by decide +kernel
theorem d_B_cornersMakePolygon_38 : decode b_B_cornersMakePolygon 38 = .ok (.iconst 0, 1) := by decide +kernel
theorem d_B_cornersMakePolygon_39 : decode b_B_cornersMakePolygon 39 = .ok (.invokevirtual 261, 3) := by decide +kernel
theorem d_B_cornersMakePolygon_42 : decode b_B_cornersMakePolygon 42 = .ok (.ifCond .ne 5, 3) := by decide +kernel
theorem d_B_cornersMakePolygon_45 : decode b_B_cornersMakePolygon 45 = .ok (.iconst 0, 1) := by decide +kernel
theorem d_B_cornersMakePolygon_46 : decode b_B_cornersMakePolygon 46 = .ok (.ireturn, 1) := by decide +kernel
theorem d_B_cornersMakePolygon_47 : decode b_B_cornersMakePolygon 47 = .ok (.iinc 1 1, 3) := by decide +kernel
theorem d_B_cornersMakePolygon_50 : decode b_B_cornersMakePolygon 50 = .ok (.goto (-38), 3) := by decide +kernel
theorem d_B_cornersMakePolygon_53 : decode b_B_cornersMakePolygon 53 = .ok (.iconst 1, 1) := by decide +kernel
theorem d_B_cornersMakePolygon_54 : decode b_B_cornersMakePolygon 54 = .ok (.ireturn, 1) := by decide +kernel
abbrev rm_B_cornersMakePolygon : Room := { frames := 2, cells := 0, slots := 0, locals := 46 }
theorem ce_B_cornersMakePolygon : gCe y_B_cornersMakePolygon (.code y_B_cornersMakePolygon b_B_cornersMakePolygon 2 (some .boolean)) 2 0 false := gCe.code wd_594 wd_49 wd_593 (by decide) (by decide +kernel)
def f_B_cornersMakePolygon_L12 (g0 : gG) (c0 : Nat) (K53 : gW → gX Int32) (K45 : gW → gX Int32) : Nat → Int32 → gW → gX Int32
  | 0, _, _ => none
  | n + 1, z1, w => (gfI w c0 0 6).bind fun v6 => if v6 ≤ z1 then (K53 w) else ((gfI w c0 0 6).bind fun v9 => gjoin (fun K39 => if v9 ≤ (z1 + 1) then (K39 0 w) else (K39 (z1 + 1) w)) (fun (y11 : Int32) (w : gW) => (gck w c0 0).bind fun _ => gbind (f_B_othersLieLeftOfSide g0 c0 z1 y11 w) fun v16 w => if v16 = 0 then (K45 w) else (f_B_cornersMakePolygon_L12 g0 c0 K53 K45 n (z1 + 1) w)))
def f_B_cornersMakePolygon (g0 : gG) (a0 : Nat) (w : gW) : gX Int32 := (gfI w a0 0 6).bind fun v1 => if 3 ≤ v1 then (gjoin (fun K53 => gjoin (fun K45 => f_B_cornersMakePolygon_L12 g0 a0 K53 K45 64 0 w) (fun (w : gW) => gguard ((0 : Int32) = 0 ∨ (0 : Int32) = 1) (some (.inr 0, w)))) (fun (w : gW) => gguard ((1 : Int32) = 0 ∨ (1 : Int32) = 1) (some (.inr 1, w)))) else (gguard ((0 : Int32) = 0 ∨ (0 : Int32) = 1) (some (.inr 0, w)))
set_option maxHeartbeats 4000000 in
set_option maxRecDepth 100000 in
theorem m_B_cornersMakePolygon (l : Launch) (hst : l.stackTraces = false) (D : gD) (g0 : gG) (a0 : Nat) (w : gW) (r : (String ⊕ Int32) × gW) (h : f_B_cornersMakePolygon g0 a0 w = some r) : gMet l y_B_cornersMakePolygon (.code y_B_cornersMakePolygon b_B_cornersMakePolygon 2 (some .boolean)) rm_B_cornersMakePolygon D g0 [.ref a0] w (goI r) := by
  refine gw_ofZ (by decide +kernel) (Nat.le_of_ble_eq_true rfl) ?_
  intro p e s m below meth c ls args A Q hx hb hml hown hlocks hin hnt hT hK hZ hA hret hexc hthr hI hl
  obtain ⟨H, hH⟩ : ∃ H, H = s.heap := ⟨_, rfl⟩
  rw [← hH] at hI ⊢
  obtain ⟨locs, hlocs⟩ : ∃ z : List Loc, z = [] := ⟨_, rfl⟩
  rw [← hlocs] at hI ⊢
  have hl : lv_has ls 2 [(0, .ref a0)] := hl
  unfold f_B_cornersMakePolygon at h
  refine lv_aload_n hx hb d_B_cornersMakePolygon_0 rfl (lv_at hl 0 rfl) ?_
  obtain ⟨v1, e2, h⟩ := gb h
  refine gw_getI hx hb hT hown hK hI (ci := 0) rfl i_0 6 (by decide) wd_195 (fun _ h9 => h9) e2 d_B_cornersMakePolygon_1 ?_
  refine lv_iconst (v := 3) hx hb d_B_cornersMakePolygon_4 (by decide) ?_
  refine lv_icmp_ge (tgt := 10) hx hb d_B_cornersMakePolygon_5 (by decide) (fun c3 => ?_) (fun c3 => ?_)
  · skip
    have h := git c3 h
    refine lv_iconst (v := 0) hx hb d_B_cornersMakePolygon_10 (by decide) ?_
    refine lv_istore_n (lv' := [(1, .int 0), (0, .ref a0)]) hx hb d_B_cornersMakePolygon_11 rfl hl (by decide) rfl (fun ls hl => ?_)
    obtain ⟨K53, eK53, h⟩ := gj h
    have hK53 : ∀ (w : gW) (H : Heap) (locs : List Loc) (ls : Array Slot), K53 w = some r → gI D s A w H locs → lv_has ls 2 [] → W p l e rm_B_cornersMakePolygon s m args below meth c H locs 0 0 Q (F0 m 53 ls []) := by
      intro w H locs ls h hI hl
      have h := gk1 eK53 h
      refine lv_iconst (v := 1) hx hb d_B_cornersMakePolygon_53 (by decide) ?_
      obtain ⟨g4, h⟩ := gif h
      exact W.widen (show 0 ≤ 0 by omega) (show 0 ≤ 0 by omega) (hret g4 0 _ (Option.some.inj h).symm _ _ _ _ d_B_cornersMakePolygon_54 hI)
    obtain ⟨K45, eK45, h⟩ := gj h
    have hK45 : ∀ (w : gW) (H : Heap) (locs : List Loc) (ls : Array Slot), K45 w = some r → gI D s A w H locs → lv_has ls 2 [] → W p l e rm_B_cornersMakePolygon s m args below meth c H locs 0 0 Q (F0 m 45 ls []) := by
      intro w H locs ls h hI hl
      have h := gk1 eK45 h
      refine lv_iconst (v := 0) hx hb d_B_cornersMakePolygon_45 (by decide) ?_
      obtain ⟨g5, h⟩ := gif h
      exact W.widen (show 0 ≤ 0 by omega) (show 0 ≤ 0 by omega) (hret g5 0 _ (Option.some.inj h).symm _ _ _ _ d_B_cornersMakePolygon_46 hI)
    have hL12 : ∀ (n : Nat), ∀ (z6 : Int32) (w : gW) (H : Heap) (locs : List Loc) (ls : Array Slot), f_B_cornersMakePolygon_L12 g0 a0 K53 K45 n z6 w = some r → gI D s A w H locs → lv_has ls 2 [(0, .ref a0), (1, .int z6)] → W p l e rm_B_cornersMakePolygon s m args below meth c H locs 0 0 Q (F0 m 12 ls []) := by
      intro n
      induction n with
      | zero => intro z6 w H locs ls h hI hl; exact absurd h (by simp [f_B_cornersMakePolygon_L12])
      | succ n ih =>
        intro z6 w H locs ls h hI hl
        rw [f_B_cornersMakePolygon_L12] at h
        refine lv_iload_n hx hb d_B_cornersMakePolygon_12 rfl (lv_at hl 1 rfl) ?_
        refine lv_aload_n hx hb d_B_cornersMakePolygon_13 rfl (lv_at hl 0 rfl) ?_
        obtain ⟨v7, e8, h⟩ := gb h
        refine gw_getI hx hb hT hown hK hI (ci := 0) rfl i_0 6 (by decide) wd_195 (fun _ h9 => h9) e8 d_B_cornersMakePolygon_14 ?_
        refine lv_icmp_ge (tgt := 53) hx hb d_B_cornersMakePolygon_17 (by decide) (fun c9 => ?_) (fun c9 => ?_)
        · skip
          have h := git c9 h
          exact hK53 w H locs ls h hI (lv_sub hl [] rfl)
        · skip
          have h := gie c9 h
          refine lv_aload_n hx hb d_B_cornersMakePolygon_20 rfl (lv_at hl 0 rfl) ?_
          refine lv_iload_n hx hb d_B_cornersMakePolygon_21 rfl (lv_at hl 1 rfl) ?_
          refine lv_iload_n hx hb d_B_cornersMakePolygon_22 rfl (lv_at hl 1 rfl) ?_
          refine lv_iconst (v := 1) hx hb d_B_cornersMakePolygon_23 (by decide) ?_
          refine lv_iadd hx hb d_B_cornersMakePolygon_24 ?_
          refine lv_aload_n hx hb d_B_cornersMakePolygon_25 rfl (lv_at hl 0 rfl) ?_
          obtain ⟨v10, e11, h⟩ := gb h
          refine gw_getI hx hb hT hown hK hI (ci := 0) rfl i_0 6 (by decide) wd_195 (fun _ h9 => h9) e11 d_B_cornersMakePolygon_26 ?_
          obtain ⟨K39, eK39, h⟩ := gj h
          have hK39 : ∀ (y12 : Int32) (w : gW) (H : Heap) (locs : List Loc) (ls : Array Slot), K39 y12 w = some r → gI D s A w H locs → lv_has ls 2 [(0, .ref a0), (1, .int z6)] → W p l e rm_B_cornersMakePolygon s m args below meth c H locs 0 0 Q (F0 m 39 ls [.int y12, .int z6, .ref a0]) := by
            intro y12 w H locs ls h hI hl
            have h := gk2 eK39 h
            obtain ⟨q15, e16, h⟩ := gb h
            obtain ⟨u13, e14⟩ := gsome h
            refine gw_callI e14 h (gw_runV (As := [.int z6, .int y12]) (rest := []) hx hb hml hown hT hK hZ hA hI (ci := 0) rfl e16 (m_B_othersLieLeftOfSide l hst D g0 a0 z6 y12 w u13 e14) ce_B_othersLieLeftOfSide wd_595 wd_12 ⟨by decide, by decide⟩ rfl rfl hl.1 rfl (lv_room (Nat.le_of_ble_eq_true rfl)) d_B_cornersMakePolygon_39 ⟨(show 0 + 0 ≤ 0 by omega), (show 0 + 0 ≤ 0 by omega)⟩) hI hA hexc (show 0 + 0 ≤ 0 by omega) (show 0 + 0 ≤ 0 by omega) (fun v17 w H locs h hI => ?_)
            refine lv_if_ne (tgt := 47) hx hb d_B_cornersMakePolygon_42 (by decide) (fun c18 => ?_) (fun c18 => ?_)
            · skip
              have h := gie c18 h
              refine lv_iinc (v := z6 + 1) (lv' := [(1, .int (z6 + 1)), (0, .ref a0)]) hx hb d_B_cornersMakePolygon_47 hl (k := 1) rfl rfl (by decide) rfl (fun ls hl => ?_)
              refine lv_goto (tgt := 12) hx hb d_B_cornersMakePolygon_50 (by decide) ?_
              exact ih _ w H locs ls h hI (lv_sub hl [1, 0] rfl)
            · skip
              have h := git c18 h
              exact hK45 w H locs ls h hI (lv_sub hl [] rfl)
          refine lv_icmp_ge (tgt := 38) hx hb d_B_cornersMakePolygon_29 (by decide) (fun c19 => ?_) (fun c19 => ?_)
          · skip
            have h := git c19 h
            refine lv_iconst (v := 0) hx hb d_B_cornersMakePolygon_38 (by decide) ?_
            exact hK39 _ w H locs ls h hI (lv_sub hl [0, 1] rfl)
          · skip
            have h := gie c19 h
            refine lv_iload_n hx hb d_B_cornersMakePolygon_32 rfl (lv_at hl 1 rfl) ?_
            refine lv_iconst (v := 1) hx hb d_B_cornersMakePolygon_33 (by decide) ?_
            refine lv_iadd hx hb d_B_cornersMakePolygon_34 ?_
            refine lv_goto (tgt := 39) hx hb d_B_cornersMakePolygon_35 (by decide) ?_
            exact hK39 _ w H locs ls h hI (lv_sub hl [0, 1] rfl)
    exact hL12 64 _ w H locs ls h hI (lv_sub hl [1, 0] rfl)
  · skip
    have h := gie c3 h
    refine lv_iconst (v := 0) hx hb d_B_cornersMakePolygon_8 (by decide) ?_
    obtain ⟨g20, h⟩ := gif h
    exact W.widen (show 0 ≤ 0 by omega) (show 0 ≤ 0 by omega) (hret g20 0 _ (Option.some.inj h).symm _ _ _ _ d_B_cornersMakePolygon_9 hI)

abbrev b_B_twiceAreaOfCorners : ByteArray := prog_1_method_30_code
def y_B_twiceAreaOfCorners : MethodName := ⟨"BodySolids", "twiceAreaOfCorners", "()J"⟩
theorem d_B_twiceAreaOfCorners_0 : decode b_B_twiceAreaOfCorners 0 = .ok (.lconst 0, 1) := by decide +kernel
theorem d_B_twiceAreaOfCorners_1 : decode b_B_twiceAreaOfCorners 1 = .ok (.lstore_n 1, 1) := by decide +kernel
theorem d_B_twiceAreaOfCorners_2 : decode b_B_twiceAreaOfCorners 2 = .ok (.iconst 2, 1) := by decide +kernel
theorem d_B_twiceAreaOfCorners_3 : decode b_B_twiceAreaOfCorners 3 = .ok (.istore_n 3, 1) := by decide +kernel
theorem d_B_twiceAreaOfCorners_4 : decode b_B_twiceAreaOfCorners 4 = .ok (.iload_n 3, 1) := by decide +kernel
theorem d_B_twiceAreaOfCorners_5 : decode b_B_twiceAreaOfCorners 5 = .ok (.aload_n 0, 1) := by decide +kernel
theorem d_B_twiceAreaOfCorners_6 : decode b_B_twiceAreaOfCorners 6 = .ok (.getfield 44, 3) := by decide +kernel
theorem d_B_twiceAreaOfCorners_9 : decode b_B_twiceAreaOfCorners 9 = .ok (.if_icmp .ge 21, 3) := by decide +kernel
theorem d_B_twiceAreaOfCorners_12 : decode b_B_twiceAreaOfCorners 12 = .ok (.lload_n 1, 1) := by decide +kernel
theorem d_B_twiceAreaOfCorners_13 : decode b_B_twiceAreaOfCorners 13 = .ok (.aload_n 0, 1) := by decide +kernel
theorem d_B_twiceAreaOfCorners_14 : decode b_B_twiceAreaOfCorners 14 = .ok (.iconst 0, 1) := by decide +kernel
theorem d_B_twiceAreaOfCorners_15 : decode b_B_twiceAreaOfCorners 15 = .ok (.iload_n 3, 1) := by decide +kernel
theorem d_B_twiceAreaOfCorners_16 : decode b_B_twiceAreaOfCorners 16 = .ok (.iconst 1, 1) := by decide +kernel
theorem d_B_twiceAreaOfCorners_17 : decode b_B_twiceAreaOfCorners 17 = .ok (.isub, 1) := by decide +kernel
theorem d_B_twiceAreaOfCorners_18 : decode b_B_twiceAreaOfCorners 18 = .ok (.iload_n 3, 1) := by decide +kernel
theorem d_B_twiceAreaOfCorners_19 : decode b_B_twiceAreaOfCorners 19 = .ok (.invokevirtual 265, 3) := by decide +kernel
theorem d_B_twiceAreaOfCorners_22 : decode b_B_twiceAreaOfCorners 22 = .ok (.ladd, 1) := by decide +kernel
theorem d_B_twiceAreaOfCorners_23 : decode b_B_twiceAreaOfCorners 23 = .ok (.lstore_n 1, 1) := by decide +kernel
theorem d_B_twiceAreaOfCorners_24 : decode b_B_twiceAreaOfCorners 24 = .ok (.iinc 3 1, 3) := by decide +kernel
theorem d_B_twiceAreaOfCorners_27 : decode b_B_twiceAreaOfCorners 27 = .ok (.goto (-23), 3) := by decide +kernel
theorem d_B_twiceAreaOfCorners_30 : decode b_B_twiceAreaOfCorners 30 = .ok (.lload_n 1, 1) := by decide +kernel
theorem d_B_twiceAreaOfCorners_31 : decode b_B_twiceAreaOfCorners 31 = .ok (.lreturn, 1) := by decide +kernel
abbrev rm_B_twiceAreaOfCorners : Room := { frames := 1, cells := 0, slots := 0, locals := 23 }
theorem ce_B_twiceAreaOfCorners : gCe y_B_twiceAreaOfCorners (.code y_B_twiceAreaOfCorners b_B_twiceAreaOfCorners 4 (some .long)) 4 0 false := gCe.code wd_607 wd_49 wd_606 (by decide) (by decide +kernel)
def f_B_twiceAreaOfCorners_L4 (g0 : gG) (c0 : Nat) (K30 : Int64 → gW → gX Int64) : Nat → Int64 → Int32 → gW → gX Int64
  | 0, _, _, _ => none
  | n + 1, z1, z3, w => (gfI w c0 0 6).bind fun v2 => if v2 ≤ z3 then (K30 z1 w) else ((gck w c0 0).bind fun _ => gbind (f_B_turnAt g0 c0 0 (z3 - 1) z3 w) fun v9 w => f_B_twiceAreaOfCorners_L4 g0 c0 K30 n (z1 + v9) (z3 + 1) w)
def f_B_twiceAreaOfCorners (g0 : gG) (a0 : Nat) (w : gW) : gX Int64 := gjoin (fun K30 => f_B_twiceAreaOfCorners_L4 g0 a0 K30 64 0 2 w) (fun (x1 : Int64) (w : gW) => some (.inr x1, w))
set_option maxHeartbeats 4000000 in
set_option maxRecDepth 100000 in
theorem m_B_twiceAreaOfCorners (l : Launch) (hst : l.stackTraces = false) (D : gD) (g0 : gG) (a0 : Nat) (w : gW) (r : (String ⊕ Int64) × gW) (h : f_B_twiceAreaOfCorners g0 a0 w = some r) : gMet l y_B_twiceAreaOfCorners (.code y_B_twiceAreaOfCorners b_B_twiceAreaOfCorners 4 (some .long)) rm_B_twiceAreaOfCorners D g0 [.ref a0] w (goJ r) := by
  refine gw_ofJ (by decide +kernel) (Nat.le_of_ble_eq_true rfl) ?_
  intro p e s m below meth c ls args A Q hx hb hml hown hlocks hin hnt hT hK hZ hA hret hexc hthr hI hl
  obtain ⟨H, hH⟩ : ∃ H, H = s.heap := ⟨_, rfl⟩
  rw [← hH] at hI ⊢
  obtain ⟨locs, hlocs⟩ : ∃ z : List Loc, z = [] := ⟨_, rfl⟩
  rw [← hlocs] at hI ⊢
  have hl : lv_has ls 4 [(0, .ref a0)] := hl
  unfold f_B_twiceAreaOfCorners at h
  refine lv_lconst (v := 0) hx hb d_B_twiceAreaOfCorners_0 (by decide) ?_
  refine lv_lstore_n (lv' := [(1, .long 0), (0, .ref a0)]) hx hb d_B_twiceAreaOfCorners_1 rfl hl (by decide) rfl (fun ls hl => ?_)
  refine lv_iconst (v := 2) hx hb d_B_twiceAreaOfCorners_2 (by decide) ?_
  refine lv_istore_n (lv' := [(3, .int 2), (1, .long 0), (0, .ref a0)]) hx hb d_B_twiceAreaOfCorners_3 rfl hl (by decide) rfl (fun ls hl => ?_)
  obtain ⟨K30, eK30, h⟩ := gj h
  have hK30 : ∀ (x1 : Int64) (w : gW) (H : Heap) (locs : List Loc) (ls : Array Slot), K30 x1 w = some r → gI D s A w H locs → lv_has ls 4 [(1, .long x1)] → W p l e rm_B_twiceAreaOfCorners s m args below meth c H locs 0 0 Q (F0 m 30 ls []) := by
    intro x1 w H locs ls h hI hl
    have h := gk2 eK30 h
    refine lv_lload_n hx hb d_B_twiceAreaOfCorners_30 rfl (lv_at hl 0 rfl) ?_
    exact W.widen (show 0 ≤ 0 by omega) (show 0 ≤ 0 by omega) (hret _ _ (Option.some.inj h).symm _ _ _ _ d_B_twiceAreaOfCorners_31 hI)
  have hL4 : ∀ (n : Nat), ∀ (z2 : Int64) (z3 : Int32) (w : gW) (H : Heap) (locs : List Loc) (ls : Array Slot), f_B_twiceAreaOfCorners_L4 g0 a0 K30 n z2 z3 w = some r → gI D s A w H locs → lv_has ls 4 [(0, .ref a0), (1, .long z2), (3, .int z3)] → W p l e rm_B_twiceAreaOfCorners s m args below meth c H locs 0 0 Q (F0 m 4 ls []) := by
    intro n
    induction n with
    | zero => intro z2 z3 w H locs ls h hI hl; exact absurd h (by simp [f_B_twiceAreaOfCorners_L4])
    | succ n ih =>
      intro z2 z3 w H locs ls h hI hl
      rw [f_B_twiceAreaOfCorners_L4] at h
      refine lv_iload_n hx hb d_B_twiceAreaOfCorners_4 rfl (lv_at hl 2 rfl) ?_
      refine lv_aload_n hx hb d_B_twiceAreaOfCorners_5 rfl (lv_at hl 0 rfl) ?_
      obtain ⟨v4, e5, h⟩ := gb h
      refine gw_getI hx hb hT hown hK hI (ci := 0) rfl i_0 6 (by decide) wd_195 (fun _ h9 => h9) e5 d_B_twiceAreaOfCorners_6 ?_
      refine lv_icmp_ge (tgt := 30) hx hb d_B_twiceAreaOfCorners_9 (by decide) (fun c6 => ?_) (fun c6 => ?_)
      · skip
        have h := git c6 h
        exact hK30 _ w H locs ls h hI (lv_sub hl [1] rfl)
      · skip
        have h := gie c6 h
        refine lv_lload_n hx hb d_B_twiceAreaOfCorners_12 rfl (lv_at hl 1 rfl) ?_
        refine lv_aload_n hx hb d_B_twiceAreaOfCorners_13 rfl (lv_at hl 0 rfl) ?_
        refine lv_iconst (v := 0) hx hb d_B_twiceAreaOfCorners_14 (by decide) ?_
        refine lv_iload_n hx hb d_B_twiceAreaOfCorners_15 rfl (lv_at hl 2 rfl) ?_
        refine lv_iconst (v := 1) hx hb d_B_twiceAreaOfCorners_16 (by decide) ?_
        refine lv_isub hx hb d_B_twiceAreaOfCorners_17 ?_
        refine lv_iload_n hx hb d_B_twiceAreaOfCorners_18 rfl (lv_at hl 2 rfl) ?_
        obtain ⟨q9, e10, h⟩ := gb h
        obtain ⟨u7, e8⟩ := gsome h
        refine gw_callJ e8 h (gw_runV (As := [.int 0, .int (z3 - 1), .int z3]) (rest := [.long z2]) hx hb hml hown hT hK hZ hA hI (ci := 0) rfl e10 (m_B_turnAt l hst D g0 a0 0 (z3 - 1) z3 w u7 e8) ce_B_turnAt wd_599 wd_13 ⟨by decide, by decide⟩ rfl rfl hl.1 rfl (lv_room (Nat.le_of_ble_eq_true rfl)) d_B_twiceAreaOfCorners_19 ⟨(show 0 + 0 ≤ 0 by omega), (show 0 + 0 ≤ 0 by omega)⟩) hI hA hexc (show 0 + 0 ≤ 0 by omega) (show 0 + 0 ≤ 0 by omega) (fun v11 w H locs h hI => ?_)
        refine lv_ladd hx hb d_B_twiceAreaOfCorners_22 ?_
        refine lv_lstore_n (lv' := [(1, .long (z2 + v11)), (0, .ref a0), (3, .int z3)]) hx hb d_B_twiceAreaOfCorners_23 rfl hl (by decide) rfl (fun ls hl => ?_)
        refine lv_iinc (v := z3 + 1) (lv' := [(3, .int (z3 + 1)), (1, .long (z2 + v11)), (0, .ref a0)]) hx hb d_B_twiceAreaOfCorners_24 hl (k := 2) rfl rfl (by decide) rfl (fun ls hl => ?_)
        refine lv_goto (tgt := 4) hx hb d_B_twiceAreaOfCorners_27 (by decide) ?_
        exact ih _ _ w H locs ls h hI (lv_sub hl [2, 1, 0] rfl)
  exact hL4 64 _ _ w H locs ls h hI (lv_sub hl [2, 1, 0] rfl)

abbrev b_B_prism : ByteArray := prog_1_method_6_code
def y_B_prism : MethodName := ⟨"BodySolids", "prism", "(IJJ)Z"⟩
theorem d_B_prism_0 : decode b_B_prism 0 = .ok (.aload_n 0, 1) := by decide +kernel
theorem d_B_prism_1 : decode b_B_prism 1 = .ok (.iload_n 1, 1) := by decide +kernel
theorem d_B_prism_2 : decode b_B_prism 2 = .ok (.invokevirtual 79, 3) := by decide +kernel
theorem d_B_prism_5 : decode b_B_prism 5 = .ok (.astore 6, 2) := by decide +kernel
theorem d_B_prism_7 : decode b_B_prism 7 = .ok (.lload_n 2, 1) := by decide +kernel
theorem d_B_prism_8 : decode b_B_prism 8 = .ok (.lload 4, 2) := by decide +kernel
theorem d_B_prism_10 : decode b_B_prism 10 = .ok (.invokestatic 91, 3) := by decide +kernel
theorem d_B_prism_13 : decode b_B_prism 13 = .ok (.aload_n 0, 1) := by decide +kernel
theorem d_B_prism_14 : decode b_B_prism 14 = .ok (.invokevirtual 127, 3) := by decide +kernel
theorem d_B_prism_17 : decode b_B_prism 17 = .ok (.ifCond .ne 10, 3) := by decide +kernel
theorem d_B_prism_20 : decode b_B_prism 20 = .ok (.aload_n 0, 1) := by decide +kernel
theorem d_B_prism_21 : decode b_B_prism 21 = .ok (.iconst 0, 1) := by decide +kernel
theorem d_B_prism_22 : decode b_B_prism 22 = .ok (.putfield 44, 3) := by decide +kernel
theorem d_B_prism_25 : decode b_B_prism 25 = .ok (.iconst 0, 1) := by decide +kernel
theorem d_B_prism_26 : decode b_B_prism 26 = .ok (.ireturn, 1) := by decide +kernel
theorem d_B_prism_27 : decode b_B_prism 27 = .ok (.aload 6, 2) := by decide +kernel
theorem d_B_prism_29 : decode b_B_prism 29 = .ok (.invokevirtual 94, 3) := by decide +kernel
theorem d_B_prism_32 : decode b_B_prism 32 = .ok (.ifCond .eq 5, 3) := by decide +kernel
theorem d_B_prism_35 : decode b_B_prism 35 = .ok (.iconst 0, 1) := by decide +kernel
theorem d_B_prism_36 : decode b_B_prism 36 = .ok (.ireturn, 1) := by decide +kernel
theorem d_B_prism_37 : decode b_B_prism 37 = .ok (.new 98, 3) := by decide +kernel
theorem d_B_prism_40 : decode b_B_prism 40 = .ok (.dup, 1) := by decide +kernel
theorem d_B_prism_41 : decode b_B_prism 41 = .ok (.invokespecial 100, 3) := by decide +kernel
theorem d_B_prism_44 : decode b_B_prism 44 = .ok (.astore 7, 2) := by decide +kernel
theorem d_B_prism_46 : decode b_B_prism 46 = .ok (.aload 7, 2) := by decide +kernel
theorem d_B_prism_48 : decode b_B_prism 48 = .ok (.iconst 2, 1) := by decide +kernel
theorem d_B_prism_49 : decode b_B_prism 49 = .ok (.lconst 0, 1) := by decide +kernel
theorem d_B_prism_50 : decode b_B_prism 50 = .ok (.lconst 0, 1) := by decide +kernel
theorem d_B_prism_51 : decode b_B_prism 51 = .ok (.invokevirtual 101, 3) := by decide +kernel
theorem d_B_prism_54 : decode b_B_prism 54 = .ok (.iconst 0, 1) := by decide +kernel
theorem d_B_prism_55 : decode b_B_prism 55 = .ok (.istore 8, 2) := by decide +kernel
theorem d_B_prism_57 : decode b_B_prism 57 = .ok (.iload 8, 2) := by decide +kernel
theorem d_B_prism_59 : decode b_B_prism 59 = .ok (.aload_n 0, 1) := by decide +kernel
theorem d_B_prism_60 : decode b_B_prism 60 = .ok (.getfield 44, 3) := by decide +kernel
theorem d_B_prism_63 : decode b_B_prism 63 = .ok (.if_icmp .ge 35, 3) := by decide +kernel
theorem d_B_prism_66 : decode b_B_prism 66 = .ok (.iload 8, 2) := by decide +kernel
theorem d_B_prism_68 : decode b_B_prism 68 = .ok (.bipush 8, 2) := by decide +kernel
theorem d_B_prism_70 : decode b_B_prism 70 = .ok (.if_icmp .ge 28, 3) := by decide +kernel
theorem d_B_prism_73 : decode b_B_prism 73 = .ok (.aload 7, 2) := by decide +kernel
theorem d_B_prism_75 : decode b_B_prism 75 = .ok (.aload_n 0, 1) := by decide +kernel
theorem d_B_prism_76 : decode b_B_prism 76 = .ok (.getfield 37, 3) := by decide +kernel
theorem d_B_prism_79 : decode b_B_prism 79 = .ok (.iload 8, 2) := by decide +kernel
theorem d_B_prism_81 : decode b_B_prism 81 = .ok (.laload, 1) := by decide +kernel
theorem d_B_prism_82 : decode b_B_prism 82 = .ok (.aload_n 0, 1) := by decide +kernel
theorem d_B_prism_83 : decode b_B_prism 83 = .ok (.getfield 41, 3) := by decide +kernel
theorem d_B_prism_86 : decode b_B_prism 86 = .ok (.iload 8, 2) := by decide +kernel
theorem d_B_prism_88 : decode b_B_prism 88 = .ok (.laload, 1) := by decide +kernel
theorem d_B_prism_89 : decode b_B_prism 89 = .ok (.invokevirtual 122, 3) := by decide +kernel
theorem d_B_prism_92 : decode b_B_prism 92 = .ok (.iinc 8 1, 3) := by decide +kernel
theorem d_B_prism_95 : decode b_B_prism 95 = .ok (.goto (-38), 3) := by decide +kernel
theorem d_B_prism_98 : decode b_B_prism 98 = .ok (.aload 7, 2) := by decide +kernel
theorem d_B_prism_100 : decode b_B_prism 100 = .ok (.lload_n 2, 1) := by decide +kernel
theorem d_B_prism_101 : decode b_B_prism 101 = .ok (.lload_n 2, 1) := by decide +kernel
theorem d_B_prism_102 : decode b_B_prism 102 = .ok (.lload 4, 2) := by decide +kernel
theorem d_B_prism_104 : decode b_B_prism 104 = .ok (.ladd, 1) := by decide +kernel
theorem d_B_prism_105 : decode b_B_prism 105 = .ok (.invokevirtual 109, 3) := by decide +kernel
theorem d_B_prism_108 : decode b_B_prism 108 = .ok (.aload 6, 2) := by decide +kernel
theorem d_B_prism_110 : decode b_B_prism 110 = .ok (.aload 7, 2) := by decide +kernel
theorem d_B_prism_112 : decode b_B_prism 112 = .ok (.ldc2_w 130, 3) := by decide +kernel
theorem d_B_prism_115 : decode b_B_prism 115 = .ok (.aload_n 0, 1) := by decide +kernel
theorem d_B_prism_116 : decode b_B_prism 116 = .ok (.invokevirtual 132, 3) := by decide +kernel
theorem d_B_prism_119 : decode b_B_prism 119 = .ok (.lmul, 1) := by decide +kernel
theorem d_B_prism_120 : decode b_B_prism 120 = .ok (.lload 4, 2) := by decide +kernel
theorem d_B_prism_122 : decode b_B_prism 122 = .ok (.lmul, 1) := by decide +kernel
theorem d_B_prism_123 : decode b_B_prism 123 = .ok (.invokevirtual 114, 3) := by decide +kernel
theorem d_B_prism_126 : decode b_B_prism 126 = .ok (.aload_n 0, 1) := by decide +kernel
theorem d_B_prism_127 : decode b_B_prism 127 = .ok (.aload 6, 2) := by decide +kernel
theorem d_B_prism_129 : decode b_B_prism 129 = .ok (.invokevirtual 118, 3) := by decide +kernel
theorem d_B_prism_132 : decode b_B_prism 132 = .ok (.aload_n 0, 1) := by decide +kernel
theorem d_B_prism_133 : decode b_B_prism 133 = .ok (.iconst 0, 1) := by decide +kernel
theorem d_B_prism_134 : decode b_B_prism 134 = .ok (.putfield 44, 3) := by decide +kernel
theorem d_B_prism_137 : decode b_B_prism 137 = .ok (.iconst 1, 1) := by decide +kernel
theorem d_B_prism_138 : decode b_B_prism 138 = .ok (.ireturn, 1) := by decide +kernel
abbrev rm_B_prism : Room := { frames := 10, cells := 8, slots := 116, locals := 202 }
theorem ce_B_prism : gCe y_B_prism (.code y_B_prism b_B_prism 9 (some .boolean)) 9 3 false := gCe.code wd_590 wd_49 wd_588 (by decide) (by decide +kernel)
def f_B_prism_L57 (g0 : gG) (c0 : Nat) (c2 : Int64) (c4 : Int64) (c6 : Nat) (c7 : Nat) (K98 : gW → gX Int32) : Nat → Int32 → gW → gX Int32
  | 0, _, _ => none
  | n + 1, z8, w => (gfI w c0 0 6).bind fun v53 => if v53 ≤ z8 then (K98 w) else (if 8 ≤ z8 then (K98 w) else ((gfA w c0 0 4).bind fun v57 => (gaJ w v57 z8).bind fun v59 => (gfA w c0 0 5).bind fun v61 => (gaJ w v61 z8).bind fun v63 => (gck w c7 3).bind fun _ => gbind (f_So_addCorner g0 c7 v59 v63 w) fun v69 w => f_B_prism_L57 g0 c0 c2 c4 c6 c7 K98 n (z8 + 1) w))
def f_B_prism (g0 : gG) (a0 : Nat) (p1 : Int32) (p2 : Int64) (p3 : Int64) (w : gW) : gX Int32 := (gck w a0 0).bind fun _ => gbind (f_B_bodyAt g0 a0 p1 w) fun v5 w => gbind (f_B_needUpright g0 p2 p3 w) fun v8 w => (gck w a0 0).bind fun _ => gbind (f_B_cornersMakePolygon g0 a0 w) fun v13 w => if v13 = 0 then ((gp w a0 0 6 (.int 0)).bind fun w => gguard ((0 : Int32) = 0 ∨ (0 : Int32) = 1) (some (.inr 0, w))) else ((gck w v5 4).bind fun _ => gbind (f_By_isFull g0 v5 w) fun v19 w => if v19 = 0 then (gb2f (gnw w 3 [.int 0, .long 0, .long 0, .null, .null, .int 0, .long 0, .long 0, .long 0, .long 0, .long 0, .long 0]) fun o21 w => gbind (f_So_init g0 o21 w) fun v25 w => (gck w o21 3).bind fun _ => gbind (f_So_begin g0 o21 2 0 0 w) fun v30 w => gjoin (fun K98 => f_B_prism_L57 g0 a0 p2 p3 v5 o21 K98 64 0 w) (fun (w : gW) => (gck w o21 3).bind fun _ => gbind (f_So_setHeights g0 o21 p2 (p2 + p3) w) fun v35 w => (gck w a0 0).bind fun _ => gbind (f_B_twiceAreaOfCorners g0 a0 w) fun v40 w => (gck w v5 4).bind fun _ => gbind (f_By_add g0 v5 o21 ((113 * v40) * p3) w) fun v45 w => (gck w a0 0).bind fun _ => gbind (f_B_forgetRelationsOf g0 a0 v5 w) fun v50 w => (gp w a0 0 6 (.int 0)).bind fun w => gguard ((1 : Int32) = 0 ∨ (1 : Int32) = 1) (some (.inr 1, w)))) else (gguard ((0 : Int32) = 0 ∨ (0 : Int32) = 1) (some (.inr 0, w))))
set_option maxHeartbeats 4000000 in
set_option maxRecDepth 100000 in
theorem m_B_prism (l : Launch) (hst : l.stackTraces = false) (D : gD) (g0 : gG) (a0 : Nat) (p1 : Int32) (p2 : Int64) (p3 : Int64) (w : gW) (r : (String ⊕ Int32) × gW) (h : f_B_prism g0 a0 p1 p2 p3 w = some r) : gMet l y_B_prism (.code y_B_prism b_B_prism 9 (some .boolean)) rm_B_prism D g0 [.ref a0, .int p1, .long p2, .long p3] w (goI r) := by
  refine gw_ofZ (by decide +kernel) (Nat.le_of_ble_eq_true rfl) ?_
  intro p e s m below meth c ls args A Q hx hb hml hown hlocks hin hnt hT hK hZ hA hret hexc hthr hI hl
  obtain ⟨H, hH⟩ : ∃ H, H = s.heap := ⟨_, rfl⟩
  rw [← hH] at hI ⊢
  obtain ⟨locs, hlocs⟩ : ∃ z : List Loc, z = [] := ⟨_, rfl⟩
  rw [← hlocs] at hI ⊢
  have hl : lv_has ls 9 [(0, .ref a0), (1, .int p1), (2, .long p2), (4, .long p3)] := hl
  unfold f_B_prism at h
  refine lv_aload_n hx hb d_B_prism_0 rfl (lv_at hl 0 rfl) ?_
  refine lv_iload_n hx hb d_B_prism_1 rfl (lv_at hl 1 rfl) ?_
  obtain ⟨q3, e4, h⟩ := gb h
  obtain ⟨u1, e2⟩ := gsome h
  refine gw_callA e2 h (gw_runV (As := [.int p1]) (rest := []) hx hb hml hown hT hK hZ hA hI (ci := 0) rfl e4 (m_B_bodyAt l hst D g0 a0 p1 w u1 e2) ce_B_bodyAt wd_436 wd_7 ⟨by decide, by decide⟩ rfl rfl hl.1 rfl (lv_room (Nat.le_of_ble_eq_true rfl)) d_B_prism_2 ⟨(show 0 + 1 ≤ 8 by omega), (show 0 + 6 ≤ 116 by omega)⟩) hI hA hexc (show 0 + 1 ≤ 8 by omega) (show 0 + 6 ≤ 116 by omega) (fun v5 w H locs h hI => ?_)
  refine W.widen (k := 1) (n := 6) (show 0 + 1 ≤ 1 by omega) (show 0 + 6 ≤ 6 by omega) ?_
  refine lv_astore (lv' := [(6, .ref v5), (0, .ref a0), (1, .int p1), (2, .long p2), (4, .long p3)]) hx hb d_B_prism_5 hl (by decide) rfl (fun ls hl => ?_)
  refine lv_lload_n hx hb d_B_prism_7 rfl (lv_at hl 3 rfl) ?_
  refine lv_lload hx hb d_B_prism_8 (lv_at hl 4 rfl) ?_
  obtain ⟨u6, e7⟩ := gsome h
  refine gw_callV e7 h (gw_runS (As := [.long p2, .long p3]) (rest := []) hx hb hml hown hT hK hZ hA hI (m_B_needUpright l hst D g0 p2 p3 w u6 e7) ce_B_needUpright wd_538 ⟨by decide, by decide⟩ rfl rfl hl.1 rfl (lv_room (Nat.le_of_ble_eq_true rfl)) d_B_prism_10 ⟨(show 1 + 3 ≤ 8 by omega), (show 6 + 18 ≤ 116 by omega)⟩) hI hA hexc (show 1 + 3 ≤ 8 by omega) (show 6 + 18 ≤ 116 by omega) (fun v8 w H locs h hI => ?_)
  refine W.widen (k := 4) (n := 24) (show 1 + 3 ≤ 4 by omega) (show 6 + 18 ≤ 24 by omega) ?_
  refine lv_aload_n hx hb d_B_prism_13 rfl (lv_at hl 1 rfl) ?_
  obtain ⟨q11, e12, h⟩ := gb h
  obtain ⟨u9, e10⟩ := gsome h
  refine gw_callI e10 h (gw_runV (As := []) (rest := []) hx hb hml hown hT hK hZ hA hI (ci := 0) rfl e12 (m_B_cornersMakePolygon l hst D g0 a0 w u9 e10) ce_B_cornersMakePolygon wd_591 wd_11 ⟨by decide, by decide⟩ rfl rfl hl.1 rfl (lv_room (Nat.le_of_ble_eq_true rfl)) d_B_prism_14 ⟨(show 4 + 0 ≤ 8 by omega), (show 24 + 0 ≤ 116 by omega)⟩) hI hA hexc (show 4 + 0 ≤ 8 by omega) (show 24 + 0 ≤ 116 by omega) (fun v13 w H locs h hI => ?_)
  refine lv_if_ne (tgt := 27) hx hb d_B_prism_17 (by decide) (fun c14 => ?_) (fun c14 => ?_)
  · skip
    have h := gie c14 h
    refine lv_aload hx hb d_B_prism_27 (lv_at hl 0 rfl) ?_
    obtain ⟨q17, e18, h⟩ := gb h
    obtain ⟨u15, e16⟩ := gsome h
    refine gw_callI e16 h (gw_runV (As := []) (rest := []) hx hb hml hown hT hK hZ hA hI (ci := 4) rfl e18 (m_By_isFull l hst D g0 v5 w u15 e16) ce_By_isFull wd_541 wd_543 ⟨by decide, by decide⟩ rfl rfl hl.1 rfl (lv_room (Nat.le_of_ble_eq_true rfl)) d_B_prism_29 ⟨(show 4 + 0 ≤ 8 by omega), (show 24 + 0 ≤ 116 by omega)⟩) hI hA hexc (show 4 + 0 ≤ 8 by omega) (show 24 + 0 ≤ 116 by omega) (fun v19 w H locs h hI => ?_)
    refine lv_if_eq (tgt := 37) hx hb d_B_prism_32 (by decide) (fun c20 => ?_) (fun c20 => ?_)
    · skip
      have h := git c20 h
      obtain ⟨o21, w, e22, h⟩ := gb2 h
      refine gw_new hx hb hT hown hK hI hA (ci := 3) rfl i_3 t_3 t_3_ok wd_546 wd_124 wd_56 (fs := [.int 0, .long 0, .long 0, .null, .null, .int 0, .long 0, .long 0, .long 0, .long 0, .long 0, .long 0]) df_3 e22 (show 4 + 1 ≤ 8 by omega) (show 24 + 12 ≤ 116 by omega) d_B_prism_37 (fun H hI => ?_)
      refine W.widen (k := 5) (n := 36) (show 4 + 1 ≤ 5 by omega) (show 24 + 12 ≤ 36 by omega) ?_
      refine lv_dup hx hb d_B_prism_40 rfl ?_
      obtain ⟨u23, e24⟩ := gsome h
      refine gw_callV e24 h (gw_runIN (As := []) (rest := [.ref o21]) hx hb hml hown hT hK hZ hA hI (m_So_init l hst D g0 o21 w u23 e24) ce_So_init wd_547 rfl ⟨by decide, by decide⟩ rfl rfl hl.1 rfl (lv_room (Nat.le_of_ble_eq_true rfl)) d_B_prism_41 ⟨(show 5 + 2 ≤ 8 by omega), (show 36 + 16 ≤ 116 by omega)⟩) hI hA hexc (show 5 + 2 ≤ 8 by omega) (show 36 + 16 ≤ 116 by omega) (fun v25 w H locs h hI => ?_)
      refine W.widen (k := 7) (n := 52) (show 5 + 2 ≤ 7 by omega) (show 36 + 16 ≤ 52 by omega) ?_
      refine lv_astore (lv' := [(7, .ref o21), (6, .ref v5), (0, .ref a0), (1, .int p1), (2, .long p2), (4, .long p3)]) hx hb d_B_prism_44 hl (by decide) rfl (fun ls hl => ?_)
      refine lv_aload hx hb d_B_prism_46 (lv_at hl 0 rfl) ?_
      refine lv_iconst (v := 2) hx hb d_B_prism_48 (by decide) ?_
      refine lv_lconst (v := 0) hx hb d_B_prism_49 (by decide) ?_
      refine lv_lconst (v := 0) hx hb d_B_prism_50 (by decide) ?_
      obtain ⟨q28, e29, h⟩ := gb h
      obtain ⟨u26, e27⟩ := gsome h
      refine gw_callV e27 h (gw_runV (As := [.int 2, .long 0, .long 0]) (rest := []) hx hb hml hown hT hK hZ hA hI (ci := 3) rfl e29 (m_So_begin l hst D g0 o21 2 0 0 w u26 e27) ce_So_begin wd_548 wd_349 ⟨by decide, by decide⟩ rfl rfl hl.1 rfl (lv_room (Nat.le_of_ble_eq_true rfl)) d_B_prism_51 ⟨(show 7 + 0 ≤ 8 by omega), (show 52 + 0 ≤ 116 by omega)⟩) hI hA hexc (show 7 + 0 ≤ 8 by omega) (show 52 + 0 ≤ 116 by omega) (fun v30 w H locs h hI => ?_)
      refine lv_iconst (v := 0) hx hb d_B_prism_54 (by decide) ?_
      refine lv_istore (lv' := [(8, .int 0), (7, .ref o21), (6, .ref v5), (0, .ref a0), (1, .int p1), (2, .long p2), (4, .long p3)]) hx hb d_B_prism_55 hl (by decide) rfl (fun ls hl => ?_)
      obtain ⟨K98, eK98, h⟩ := gj h
      have hK98 : ∀ (w : gW) (H : Heap) (locs : List Loc) (ls : Array Slot), K98 w = some r → gI D s A w H locs → lv_has ls 9 [(0, .ref a0), (2, .long p2), (4, .long p3), (6, .ref v5), (7, .ref o21)] → W p l e rm_B_prism s m args below meth c H locs 7 52 Q (F0 m 98 ls []) := by
        intro w H locs ls h hI hl
        have h := gk1 eK98 h
        refine lv_aload hx hb d_B_prism_98 (lv_at hl 4 rfl) ?_
        refine lv_lload_n hx hb d_B_prism_100 rfl (lv_at hl 1 rfl) ?_
        refine lv_lload_n hx hb d_B_prism_101 rfl (lv_at hl 1 rfl) ?_
        refine lv_lload hx hb d_B_prism_102 (lv_at hl 2 rfl) ?_
        refine lv_ladd hx hb d_B_prism_104 ?_
        obtain ⟨q33, e34, h⟩ := gb h
        obtain ⟨u31, e32⟩ := gsome h
        refine gw_callV e32 h (gw_runV (As := [.long p2, .long (p2 + p3)]) (rest := []) hx hb hml hown hT hK hZ hA hI (ci := 3) rfl e34 (m_So_setHeights l hst D g0 o21 p2 (p2 + p3) w u31 e32) ce_So_setHeights wd_553 wd_367 ⟨by decide, by decide⟩ rfl rfl hl.1 rfl (lv_room (Nat.le_of_ble_eq_true rfl)) d_B_prism_105 ⟨(show 7 + 0 ≤ 8 by omega), (show 52 + 0 ≤ 116 by omega)⟩) hI hA hexc (show 7 + 0 ≤ 8 by omega) (show 52 + 0 ≤ 116 by omega) (fun v35 w H locs h hI => ?_)
        refine lv_aload hx hb d_B_prism_108 (lv_at hl 3 rfl) ?_
        refine lv_aload hx hb d_B_prism_110 (lv_at hl 4 rfl) ?_
        refine lv_ldc2 (v := 113) hx hb hown (hT _ wd_603 args) d_B_prism_112 ?_
        refine lv_aload_n hx hb d_B_prism_115 rfl (lv_at hl 0 rfl) ?_
        obtain ⟨q38, e39, h⟩ := gb h
        obtain ⟨u36, e37⟩ := gsome h
        refine gw_callJ e37 h (gw_runV (As := []) (rest := [.long 113, .ref o21, .ref v5]) hx hb hml hown hT hK hZ hA hI (ci := 0) rfl e39 (m_B_twiceAreaOfCorners l hst D g0 a0 w u36 e37) ce_B_twiceAreaOfCorners wd_604 wd_14 ⟨by decide, by decide⟩ rfl rfl hl.1 rfl (lv_room (Nat.le_of_ble_eq_true rfl)) d_B_prism_116 ⟨(show 7 + 0 ≤ 8 by omega), (show 52 + 0 ≤ 116 by omega)⟩) hI hA hexc (show 7 + 0 ≤ 8 by omega) (show 52 + 0 ≤ 116 by omega) (fun v40 w H locs h hI => ?_)
        refine lv_lmul hx hb d_B_prism_119 ?_
        refine lv_lload hx hb d_B_prism_120 (lv_at hl 2 rfl) ?_
        refine lv_lmul hx hb d_B_prism_122 ?_
        obtain ⟨q43, e44, h⟩ := gb h
        obtain ⟨u41, e42⟩ := gsome h
        refine gw_callV e42 h (gw_runV (As := [.ref o21, .long ((113 * v40) * p3)]) (rest := []) hx hb hml hown hT hK hZ hA hI (ci := 4) rfl e44 (m_By_add l hst D g0 v5 o21 ((113 * v40) * p3) w u41 e42) ce_By_add wd_555 wd_557 ⟨by decide, by decide⟩ rfl rfl hl.1 rfl (lv_room (Nat.le_of_ble_eq_true rfl)) d_B_prism_123 ⟨(show 7 + 1 ≤ 8 by omega), (show 52 + 64 ≤ 116 by omega)⟩) hI hA hexc (show 7 + 1 ≤ 8 by omega) (show 52 + 64 ≤ 116 by omega) (fun v45 w H locs h hI => ?_)
        refine W.widen (k := 8) (n := 116) (show 7 + 1 ≤ 8 by omega) (show 52 + 64 ≤ 116 by omega) ?_
        refine lv_aload_n hx hb d_B_prism_126 rfl (lv_at hl 0 rfl) ?_
        refine lv_aload hx hb d_B_prism_127 (lv_at hl 3 rfl) ?_
        obtain ⟨q48, e49, h⟩ := gb h
        obtain ⟨u46, e47⟩ := gsome h
        refine gw_callV e47 h (gw_runV (As := [.ref v5]) (rest := []) hx hb hml hown hT hK hZ hA hI (ci := 0) rfl e49 (m_B_forgetRelationsOf l hst D g0 a0 v5 w u46 e47) ce_B_forgetRelationsOf wd_560 wd_9 ⟨by decide, by decide⟩ rfl rfl hl.1 rfl (lv_room (Nat.le_of_ble_eq_true rfl)) d_B_prism_129 ⟨(show 8 + 0 ≤ 8 by omega), (show 116 + 0 ≤ 116 by omega)⟩) hI hA hexc (show 8 + 0 ≤ 8 by omega) (show 116 + 0 ≤ 116 by omega) (fun v50 w H locs h hI => ?_)
        refine lv_aload_n hx hb d_B_prism_132 rfl (lv_at hl 0 rfl) ?_
        refine lv_iconst (v := 0) hx hb d_B_prism_133 (by decide) ?_
        obtain ⟨w, e51, h⟩ := gb h
        refine gw_put hx hb hT hown hK hI (ci := 0) rfl i_0 t_0 t_0_ok n_0 6 (by decide) wd_195 (fun _ h9 => h9) rfl (ty := .int) (by decide +kernel) rfl rfl e51 d_B_prism_134 (fun H locs hI => ?_)
        refine lv_iconst (v := 1) hx hb d_B_prism_137 (by decide) ?_
        obtain ⟨g52, h⟩ := gif h
        exact W.widen (show 8 ≤ 8 by omega) (show 116 ≤ 116 by omega) (hret g52 0 _ (Option.some.inj h).symm _ _ _ _ d_B_prism_138 hI)
      have hL57 : ∀ (n : Nat), ∀ (z53 : Int32) (w : gW) (H : Heap) (locs : List Loc) (ls : Array Slot), f_B_prism_L57 g0 a0 p2 p3 v5 o21 K98 n z53 w = some r → gI D s A w H locs → lv_has ls 9 [(0, .ref a0), (2, .long p2), (4, .long p3), (6, .ref v5), (7, .ref o21), (8, .int z53)] → W p l e rm_B_prism s m args below meth c H locs 7 52 Q (F0 m 57 ls []) := by
        intro n
        induction n with
        | zero => intro z53 w H locs ls h hI hl; exact absurd h (by simp [f_B_prism_L57])
        | succ n ih =>
          intro z53 w H locs ls h hI hl
          rw [f_B_prism_L57] at h
          refine lv_iload hx hb d_B_prism_57 (lv_at hl 5 rfl) ?_
          refine lv_aload_n hx hb d_B_prism_59 rfl (lv_at hl 0 rfl) ?_
          obtain ⟨v54, e55, h⟩ := gb h
          refine gw_getI hx hb hT hown hK hI (ci := 0) rfl i_0 6 (by decide) wd_195 (fun _ h9 => h9) e55 d_B_prism_60 ?_
          refine lv_icmp_ge (tgt := 98) hx hb d_B_prism_63 (by decide) (fun c56 => ?_) (fun c56 => ?_)
          · skip
            have h := git c56 h
            exact hK98 w H locs ls h hI (lv_sub hl [0, 1, 2, 3, 4] rfl)
          · skip
            have h := gie c56 h
            refine lv_iload hx hb d_B_prism_66 (lv_at hl 5 rfl) ?_
            refine lv_bipush (v := 8) hx hb d_B_prism_68 (by decide) ?_
            refine lv_icmp_ge (tgt := 98) hx hb d_B_prism_70 (by decide) (fun c57 => ?_) (fun c57 => ?_)
            · skip
              have h := git c57 h
              exact hK98 w H locs ls h hI (lv_sub hl [0, 1, 2, 3, 4] rfl)
            · skip
              have h := gie c57 h
              refine lv_aload hx hb d_B_prism_73 (lv_at hl 4 rfl) ?_
              refine lv_aload_n hx hb d_B_prism_75 rfl (lv_at hl 0 rfl) ?_
              obtain ⟨v58, e59, h⟩ := gb h
              refine gw_getA hx hb hT hown hK hI (ci := 0) rfl i_0 4 (by decide) wd_193 (fun _ h9 => h9) e59 d_B_prism_76 ?_
              refine lv_iload hx hb d_B_prism_79 (lv_at hl 5 rfl) ?_
              obtain ⟨v60, e61, h⟩ := gb h
              refine gw_aldJ hx hb hK hI e61 d_B_prism_81 ?_
              refine lv_aload_n hx hb d_B_prism_82 rfl (lv_at hl 0 rfl) ?_
              obtain ⟨v62, e63, h⟩ := gb h
              refine gw_getA hx hb hT hown hK hI (ci := 0) rfl i_0 5 (by decide) wd_194 (fun _ h9 => h9) e63 d_B_prism_83 ?_
              refine lv_iload hx hb d_B_prism_86 (lv_at hl 5 rfl) ?_
              obtain ⟨v64, e65, h⟩ := gb h
              refine gw_aldJ hx hb hK hI e65 d_B_prism_88 ?_
              obtain ⟨q68, e69, h⟩ := gb h
              obtain ⟨u66, e67⟩ := gsome h
              refine gw_callV e67 h (gw_runV (As := [.long v60, .long v64]) (rest := []) hx hb hml hown hT hK hZ hA hI (ci := 3) rfl e69 (m_So_addCorner l hst D g0 o21 v60 v64 w u66 e67) ce_So_addCorner wd_575 wd_361 ⟨by decide, by decide⟩ rfl rfl hl.1 rfl (lv_room (Nat.le_of_ble_eq_true rfl)) d_B_prism_89 ⟨(show 7 + 0 ≤ 8 by omega), (show 52 + 0 ≤ 116 by omega)⟩) hI hA hexc (show 7 + 0 ≤ 8 by omega) (show 52 + 0 ≤ 116 by omega) (fun v70 w H locs h hI => ?_)
              refine lv_iinc (v := z53 + 1) (lv' := [(8, .int (z53 + 1)), (0, .ref a0), (2, .long p2), (4, .long p3), (6, .ref v5), (7, .ref o21)]) hx hb d_B_prism_92 hl (k := 5) rfl rfl (by decide) rfl (fun ls hl => ?_)
              refine lv_goto (tgt := 57) hx hb d_B_prism_95 (by decide) ?_
              exact ih _ w H locs ls h hI (lv_sub hl [1, 2, 3, 4, 5, 0] rfl)
      exact hL57 64 _ w H locs ls h hI (lv_sub hl [3, 5, 6, 2, 1, 0] rfl)
    · skip
      have h := gie c20 h
      refine lv_iconst (v := 0) hx hb d_B_prism_35 (by decide) ?_
      obtain ⟨g71, h⟩ := gif h
      exact W.widen (show 4 ≤ 8 by omega) (show 24 ≤ 116 by omega) (hret g71 0 _ (Option.some.inj h).symm _ _ _ _ d_B_prism_36 hI)
  · skip
    have h := git c14 h
    refine lv_aload_n hx hb d_B_prism_20 rfl (lv_at hl 1 rfl) ?_
    refine lv_iconst (v := 0) hx hb d_B_prism_21 (by decide) ?_
    obtain ⟨w, e72, h⟩ := gb h
    refine gw_put hx hb hT hown hK hI (ci := 0) rfl i_0 t_0 t_0_ok n_0 6 (by decide) wd_195 (fun _ h9 => h9) rfl (ty := .int) (by decide +kernel) rfl rfl e72 d_B_prism_22 (fun H locs hI => ?_)
    refine lv_iconst (v := 0) hx hb d_B_prism_25 (by decide) ?_
    obtain ⟨g73, h⟩ := gif h
    exact W.widen (show 4 ≤ 8 by omega) (show 24 ≤ 116 by omega) (hret g73 0 _ (Option.some.inj h).symm _ _ _ _ d_B_prism_26 hI)
end
section
abbrev b_W_prism : ByteArray := method_6_code
def y_W_prism : MethodName := ⟨"BodySolidsLaw", "prism", "(LBodySolids;IJJ[J)I"⟩
theorem d_W_prism_0 : decode b_W_prism 0 = .ok (.aload 6, 2) := by decide +kernel
theorem d_W_prism_2 : decode b_W_prism 2 = .ok (.iconst 0, 1) := by decide +kernel
theorem d_W_prism_3 : decode b_W_prism 3 = .ok (.aload_n 0, 1) := by decide +kernel
theorem d_W_prism_4 : decode b_W_prism 4 = .ok (.iload_n 1, 1) := by decide +kernel
theorem d_W_prism_5 : decode b_W_prism 5 = .ok (.lload_n 2, 1) := by decide +kernel
theorem d_W_prism_6 : decode b_W_prism 6 = .ok (.lload 4, 2) := by decide +kernel
theorem d_W_prism_8 : decode b_W_prism 8 = .ok (.invokevirtual 25, 3) := by decide +kernel
theorem d_W_prism_11 : decode b_W_prism 11 = .ok (.ifCond .eq 7, 3) := by decide +kernel
theorem d_W_prism_14 : decode b_W_prism 14 = .ok (.lconst 1, 1) := by decide +kernel
theorem d_W_prism_15 : decode b_W_prism 15 = .ok (.goto 4, 3) := by decide +kernel
theorem d_W_prism_18 : decode b_W_prism 18 = .ok (.lconst 0, 1) := by decide +kernel
theorem d_W_prism_19 : decode b_W_prism 19 = .ok (.lastore, 1) := by decide +kernel
theorem d_W_prism_20 : decode b_W_prism 20 = .ok (.goto 11, 3) := by decide +kernel
theorem d_W_prism_23 : decode b_W_prism 23 = .ok (.astore 7, 2) := by decide +kernel
theorem d_W_prism_25 : decode b_W_prism 25 = .ok (.iconst 1, 1) := by decide +kernel
theorem d_W_prism_26 : decode b_W_prism 26 = .ok (.ireturn, 1) := by decide +kernel
theorem d_W_prism_27 : decode b_W_prism 27 = .ok (.astore 7, 2) := by decide +kernel
theorem d_W_prism_29 : decode b_W_prism 29 = .ok (.iconst 2, 1) := by decide +kernel
theorem d_W_prism_30 : decode b_W_prism 30 = .ok (.ireturn, 1) := by decide +kernel
theorem d_W_prism_31 : decode b_W_prism 31 = .ok (.iconst 0, 1) := by decide +kernel
theorem d_W_prism_32 : decode b_W_prism 32 = .ok (.ireturn, 1) := by decide +kernel
abbrev rm_W_prism : Room := { frames := 11, cells := 8, slots := 116, locals := 230 }
theorem ce_W_prism : gCe y_W_prism (.codeWith y_W_prism b_W_prism 8 (some .int) [(0, 20, 23, 13), (0, 20, 27, 15)]) 8 5 true := gCe.codeWith wd_586 wd_48 wd_585 (by decide) (by decide +kernel)
def f_W_prism (g0 : gG) (a0 : Nat) (p1 : Int32) (p2 : Int64) (p3 : Int64) (a4 : Nat) (w : gW) : gX Int32 := (gck w a0 0).bind fun _ => gtry (f_B_prism g0 a0 p1 p2 p3 w) (fun E w => if E = "java/lang/IndexOutOfBoundsException" then some (.inr 1, w) else if E = "java/lang/IllegalArgumentException" then some (.inr 2, w) else none) fun v5 w => gjoin (fun K19 => if v5 = 0 then (K19 0 w) else (K19 1 w)) (fun (y6 : Int64) (w : gW) => (gsJ w a4 0 y6).bind fun w => some (.inr 0, w))
set_option maxHeartbeats 4000000 in
set_option maxRecDepth 100000 in
theorem m_W_prism (l : Launch) (hst : l.stackTraces = false) (D : gD) (g0 : gG) (a0 : Nat) (p1 : Int32) (p2 : Int64) (p3 : Int64) (a4 : Nat) (w : gW) (r : (String ⊕ Int32) × gW) (h : f_W_prism g0 a0 p1 p2 p3 a4 w = some r) : gMet l y_W_prism (.codeWith y_W_prism b_W_prism 8 (some .int) [(0, 20, 23, 13), (0, 20, 27, 15)]) rm_W_prism D g0 [.ref a0, .int p1, .long p2, .long p3, .ref a4] w (goI r) := by
  refine gw_ofW (by decide +kernel) (Nat.le_of_ble_eq_true rfl) ?_
  intro p e s m below meth c ls args A Q hx hb hml hown htab hT hK hZ hA hret hI hl
  obtain ⟨H, hH⟩ : ∃ H, H = s.heap := ⟨_, rfl⟩
  rw [← hH] at hI ⊢
  obtain ⟨locs, hlocs⟩ : ∃ z : List Loc, z = [] := ⟨_, rfl⟩
  rw [← hlocs] at hI ⊢
  have hl : lv_has ls 8 [(0, .ref a0), (1, .int p1), (2, .long p2), (4, .long p3), (6, .ref a4)] := hl
  unfold f_W_prism at h
  refine lv_aload hx hb d_W_prism_0 (lv_at hl 4 rfl) ?_
  refine lv_iconst (v := 0) hx hb d_W_prism_2 (by decide) ?_
  refine lv_aload_n hx hb d_W_prism_3 rfl (lv_at hl 0 rfl) ?_
  refine lv_iload_n hx hb d_W_prism_4 rfl (lv_at hl 1 rfl) ?_
  refine lv_lload_n hx hb d_W_prism_5 rfl (lv_at hl 2 rfl) ?_
  refine lv_lload hx hb d_W_prism_6 (lv_at hl 3 rfl) ?_
  obtain ⟨q3, e4, h⟩ := gb h
  obtain ⟨u1, e2⟩ := gsomeT h
  refine gw_tryI e2 h (gw_runV (As := [.int p1, .long p2, .long p3]) (rest := [.int 0, .ref a4]) hx hb hml hown hT hK hZ hA hI (ci := 0) rfl e4 (m_B_prism l hst D g0 a0 p1 p2 p3 w u1 e2) ce_B_prism wd_587 wd_589 ⟨by decide, by decide⟩ rfl rfl hl.1 rfl (lv_room (Nat.le_of_ble_eq_true rfl)) d_W_prism_8 ⟨(show 0 + 8 ≤ 8 by omega), (show 0 + 116 ≤ 116 by omega)⟩) hI hA (fun E w H locs q ce h hI hq hv hE => ?_) (fun v5 w H locs h hI => ?_)
  · skip
    rcases gcs h with ⟨rfl, h⟩ | ⟨-, h⟩
    · refine gw_catch1 hown hT htab wd_430 (by decide) (by decide) hq hv hE ?_
      refine lv_astore (lv' := [(7, .ref q), (0, .ref a0), (1, .int p1), (2, .long p2), (4, .long p3), (6, .ref a4)]) hx hb d_W_prism_23 hl (by decide) rfl (fun ls hl => ?_)
      refine lv_iconst (v := 1) hx hb d_W_prism_25 (by decide) ?_
      exact W.widen (show 8 ≤ 8 by omega) (show 116 ≤ 116 by omega) (hret _ _ (Option.some.inj h).symm _ _ _ _ d_W_prism_26 hI)
    rcases gcs h with ⟨rfl, h⟩ | ⟨-, h⟩
    · refine gw_catch2 hown hT hZ htab wd_430 (by decide) (by decide) wd_431 (by decide) (by decide) (by decide) hq hv hE ?_
      refine lv_astore (lv' := [(7, .ref q), (0, .ref a0), (1, .int p1), (2, .long p2), (4, .long p3), (6, .ref a4)]) hx hb d_W_prism_27 hl (by decide) rfl (fun ls hl => ?_)
      refine lv_iconst (v := 2) hx hb d_W_prism_29 (by decide) ?_
      exact W.widen (show 8 ≤ 8 by omega) (show 116 ≤ 116 by omega) (hret _ _ (Option.some.inj h).symm _ _ _ _ d_W_prism_30 hI)
    exact absurd h (by simp)
  refine W.widen (k := 8) (n := 116) (show 0 + 8 ≤ 8 by omega) (show 0 + 116 ≤ 116 by omega) ?_
  obtain ⟨K19, eK19, h⟩ := gj h
  have hK19 : ∀ (y6 : Int64) (w : gW) (H : Heap) (locs : List Loc) (ls : Array Slot), K19 y6 w = some r → gI D s A w H locs → lv_has ls 8 [] → W p l e rm_W_prism s m args below meth c H locs 8 116 Q (F0 m 19 ls [.long y6, .int 0, .ref a4]) := by
    intro y6 w H locs ls h hI hl
    have h := gk2 eK19 h
    obtain ⟨w, e7, h⟩ := gb h
    refine gw_astJ hx hb hK hI e7 d_W_prism_19 (fun H locs hI => ?_)
    refine lv_goto (tgt := 31) hx hb d_W_prism_20 (by decide) ?_
    refine lv_iconst (v := 0) hx hb d_W_prism_31 (by decide) ?_
    exact W.widen (show 8 ≤ 8 by omega) (show 116 ≤ 116 by omega) (hret _ _ (Option.some.inj h).symm _ _ _ _ d_W_prism_32 hI)
  refine lv_if_eq (tgt := 18) hx hb d_W_prism_11 (by decide) (fun c8 => ?_) (fun c8 => ?_)
  · skip
    have h := git c8 h
    refine lv_lconst (v := 0) hx hb d_W_prism_18 (by decide) ?_
    exact hK19 _ w H locs ls h hI (lv_sub hl [] rfl)
  · skip
    have h := gie c8 h
    refine lv_lconst (v := 1) hx hb d_W_prism_14 (by decide) ?_
    refine lv_goto (tgt := 19) hx hb d_W_prism_15 (by decide) ?_
    exact hK19 _ w H locs ls h hI (lv_sub hl [] rfl)
end
section
abbrev b_M_cross : ByteArray := prog_9_method_16_code
def y_M_cross : MethodName := ⟨"BodySolidsModel", "cross", "(JJJJJJ)J"⟩
theorem d_M_cross_0 : decode b_M_cross 0 = .ok (.lload 4, 2) := by decide +kernel
theorem d_M_cross_2 : decode b_M_cross 2 = .ok (.lload_n 0, 1) := by decide +kernel
theorem d_M_cross_3 : decode b_M_cross 3 = .ok (.lsub, 1) := by decide +kernel
theorem d_M_cross_4 : decode b_M_cross 4 = .ok (.lload 10, 2) := by decide +kernel
theorem d_M_cross_6 : decode b_M_cross 6 = .ok (.lload_n 2, 1) := by decide +kernel
theorem d_M_cross_7 : decode b_M_cross 7 = .ok (.lsub, 1) := by decide +kernel
theorem d_M_cross_8 : decode b_M_cross 8 = .ok (.lmul, 1) := by decide +kernel
theorem d_M_cross_9 : decode b_M_cross 9 = .ok (.lload 6, 2) := by decide +kernel
theorem d_M_cross_11 : decode b_M_cross 11 = .ok (.lload_n 2, 1) := by decide +kernel
theorem d_M_cross_12 : decode b_M_cross 12 = .ok (.lsub, 1) := by decide +kernel
theorem d_M_cross_13 : decode b_M_cross 13 = .ok (.lload 8, 2) := by decide +kernel
theorem d_M_cross_15 : decode b_M_cross 15 = .ok (.lload_n 0, 1) := by decide +kernel
theorem d_M_cross_16 : decode b_M_cross 16 = .ok (.lsub, 1) := by decide +kernel
theorem d_M_cross_17 : decode b_M_cross 17 = .ok (.lmul, 1) := by decide +kernel
theorem d_M_cross_18 : decode b_M_cross 18 = .ok (.lsub, 1) := by decide +kernel
theorem d_M_cross_19 : decode b_M_cross 19 = .ok (.lreturn, 1) := by decide +kernel
abbrev rm_M_cross : Room := { frames := 0, cells := 0, slots := 0, locals := 0 }
theorem ce_M_cross : gCe y_M_cross (.code y_M_cross b_M_cross 12 (some .long)) 12 6 true := gCe.code wd_924 wd_57 wd_923 (by decide) (by decide +kernel)
def f_M_cross (g0 : gG) (p0 : Int64) (p1 : Int64) (p2 : Int64) (p3 : Int64) (p4 : Int64) (p5 : Int64) (w : gW) : gX Int64 := some (.inr (((p2 - p0) * (p5 - p1)) - ((p3 - p1) * (p4 - p0))), w)
set_option maxHeartbeats 4000000 in
set_option maxRecDepth 100000 in
theorem m_M_cross (l : Launch) (hst : l.stackTraces = false) (D : gD) (g0 : gG) (p0 : Int64) (p1 : Int64) (p2 : Int64) (p3 : Int64) (p4 : Int64) (p5 : Int64) (w : gW) (r : (String ⊕ Int64) × gW) (h : f_M_cross g0 p0 p1 p2 p3 p4 p5 w = some r) : gMet l y_M_cross (.code y_M_cross b_M_cross 12 (some .long)) rm_M_cross D g0 [.long p0, .long p1, .long p2, .long p3, .long p4, .long p5] w (goJ r) := by
  refine gw_ofJ (by decide +kernel) (Nat.le_of_ble_eq_true rfl) ?_
  intro p e s m below meth c ls args A Q hx hb hml hown hlocks hin hnt hT hK hZ hA hret hexc hthr hI hl
  obtain ⟨H, hH⟩ : ∃ H, H = s.heap := ⟨_, rfl⟩
  rw [← hH] at hI ⊢
  obtain ⟨locs, hlocs⟩ : ∃ z : List Loc, z = [] := ⟨_, rfl⟩
  rw [← hlocs] at hI ⊢
  have hl : lv_has ls 12 [(0, .long p0), (2, .long p1), (4, .long p2), (6, .long p3), (8, .long p4), (10, .long p5)] := hl
  unfold f_M_cross at h
  refine lv_lload hx hb d_M_cross_0 (lv_at hl 2 rfl) ?_
  refine lv_lload_n hx hb d_M_cross_2 rfl (lv_at hl 0 rfl) ?_
  refine lv_lsub hx hb d_M_cross_3 ?_
  refine lv_lload hx hb d_M_cross_4 (lv_at hl 5 rfl) ?_
  refine lv_lload_n hx hb d_M_cross_6 rfl (lv_at hl 1 rfl) ?_
  refine lv_lsub hx hb d_M_cross_7 ?_
  refine lv_lmul hx hb d_M_cross_8 ?_
  refine lv_lload hx hb d_M_cross_9 (lv_at hl 3 rfl) ?_
  refine lv_lload_n hx hb d_M_cross_11 rfl (lv_at hl 1 rfl) ?_
  refine lv_lsub hx hb d_M_cross_12 ?_
  refine lv_lload hx hb d_M_cross_13 (lv_at hl 4 rfl) ?_
  refine lv_lload_n hx hb d_M_cross_15 rfl (lv_at hl 0 rfl) ?_
  refine lv_lsub hx hb d_M_cross_16 ?_
  refine lv_lmul hx hb d_M_cross_17 ?_
  refine lv_lsub hx hb d_M_cross_18 ?_
  exact W.widen (show 0 ≤ 0 by omega) (show 0 ≤ 0 by omega) (hret _ _ (Option.some.inj h).symm _ _ _ _ d_M_cross_19 hI)

abbrev b_M_isRound : ByteArray := prog_9_method_17_code
def y_M_isRound : MethodName := ⟨"BodySolidsModel", "isRound", "()Z"⟩
theorem d_M_isRound_0 : decode b_M_isRound 0 = .ok (.aload_n 0, 1) := by decide +kernel
theorem d_M_isRound_1 : decode b_M_isRound 1 = .ok (.getfield 121, 3) := by decide +kernel
theorem d_M_isRound_4 : decode b_M_isRound 4 = .ok (.iconst 3, 1) := by decide +kernel
theorem d_M_isRound_5 : decode b_M_isRound 5 = .ok (.if_icmp .ge 5, 3) := by decide +kernel
theorem d_M_isRound_8 : decode b_M_isRound 8 = .ok (.iconst 0, 1) := by decide +kernel
theorem d_M_isRound_9 : decode b_M_isRound 9 = .ok (.ireturn, 1) := by decide +kernel
theorem d_M_isRound_10 : decode b_M_isRound 10 = .ok (.iconst 0, 1) := by decide +kernel
theorem d_M_isRound_11 : decode b_M_isRound 11 = .ok (.istore_n 1, 1) := by decide +kernel
theorem d_M_isRound_12 : decode b_M_isRound 12 = .ok (.iload_n 1, 1) := by decide +kernel
theorem d_M_isRound_13 : decode b_M_isRound 13 = .ok (.aload_n 0, 1) := by decide +kernel
theorem d_M_isRound_14 : decode b_M_isRound 14 = .ok (.getfield 121, 3) := by decide +kernel
theorem d_M_isRound_17 : decode b_M_isRound 17 = .ok (.if_icmp .ge 90, 3) := by decide +kernel
theorem d_M_isRound_20 : decode b_M_isRound 20 = .ok (.iload_n 1, 1) := by decide +kernel
theorem d_M_isRound_21 : decode b_M_isRound 21 = .ok (.iconst 1, 1) := by decide +kernel
theorem d_M_isRound_22 : decode b_M_isRound 22 = .ok (.iadd, 1) := by decide +kernel
theorem d_M_isRound_23 : decode b_M_isRound 23 = .ok (.aload_n 0, 1) := by decide +kernel
theorem d_M_isRound_24 : decode b_M_isRound 24 = .ok (.getfield 121, 3) := by decide +kernel
theorem d_M_isRound_27 : decode b_M_isRound 27 = .ok (.irem, 1) := by decide +kernel
theorem d_M_isRound_28 : decode b_M_isRound 28 = .ok (.istore_n 2, 1) := by decide +kernel
theorem d_M_isRound_29 : decode b_M_isRound 29 = .ok (.iconst 0, 1) := by decide +kernel
theorem d_M_isRound_30 : decode b_M_isRound 30 = .ok (.istore_n 3, 1) := by decide +kernel
theorem d_M_isRound_31 : decode b_M_isRound 31 = .ok (.iload_n 3, 1) := by decide +kernel
theorem d_M_isRound_32 : decode b_M_isRound 32 = .ok (.aload_n 0, 1) := by decide +kernel
theorem d_M_isRound_33 : decode b_M_isRound 33 = .ok (.getfield 121, 3) := by decide +kernel
theorem d_M_isRound_36 : decode b_M_isRound 36 = .ok (.if_icmp .ge 65, 3) := by decide +kernel
theorem d_M_isRound_39 : decode b_M_isRound 39 = .ok (.iload_n 3, 1) := by decide +kernel
theorem d_M_isRound_40 : decode b_M_isRound 40 = .ok (.iload_n 1, 1) := by decide +kernel
theorem d_M_isRound_41 : decode b_M_isRound 41 = .ok (.if_icmp .eq 54, 3) := by decide +kernel
theorem d_M_isRound_44 : decode b_M_isRound 44 = .ok (.iload_n 3, 1) := by decide +kernel
theorem d_M_isRound_45 : decode b_M_isRound 45 = .ok (.iload_n 2, 1) := by decide +kernel
theorem d_M_isRound_46 : decode b_M_isRound 46 = .ok (.if_icmp .eq 49, 3) := by decide +kernel
theorem d_M_isRound_49 : decode b_M_isRound 49 = .ok (.aload_n 0, 1) := by decide +kernel
theorem d_M_isRound_50 : decode b_M_isRound 50 = .ok (.getfield 29, 3) := by decide +kernel
theorem d_M_isRound_53 : decode b_M_isRound 53 = .ok (.iload_n 1, 1) := by decide +kernel
theorem d_M_isRound_54 : decode b_M_isRound 54 = .ok (.laload, 1) := by decide +kernel
theorem d_M_isRound_55 : decode b_M_isRound 55 = .ok (.aload_n 0, 1) := by decide +kernel
theorem d_M_isRound_56 : decode b_M_isRound 56 = .ok (.getfield 32, 3) := by decide +kernel
theorem d_M_isRound_59 : decode b_M_isRound 59 = .ok (.iload_n 1, 1) := by decide +kernel
theorem d_M_isRound_60 : decode b_M_isRound 60 = .ok (.laload, 1) := by decide +kernel
theorem d_M_isRound_61 : decode b_M_isRound 61 = .ok (.aload_n 0, 1) := by decide +kernel
theorem d_M_isRound_62 : decode b_M_isRound 62 = .ok (.getfield 29, 3) := by decide +kernel
theorem d_M_isRound_65 : decode b_M_isRound 65 = .ok (.iload_n 2, 1) := by decide +kernel
theorem d_M_isRound_66 : decode b_M_isRound 66 = .ok (.laload, 1) := by decide +kernel
theorem d_M_isRound_67 : decode b_M_isRound 67 = .ok (.aload_n 0, 1) := by decide +kernel
theorem d_M_isRound_68 : decode b_M_isRound 68 = .ok (.getfield 32, 3) := by decide +kernel
theorem d_M_isRound_71 : decode b_M_isRound 71 = .ok (.iload_n 2, 1) := by decide +kernel
theorem d_M_isRound_72 : decode b_M_isRound 72 = .ok (.laload, 1) := by decide +kernel
theorem d_M_isRound_73 : decode b_M_isRound 73 = .ok (.aload_n 0, 1) := by decide +kernel
theorem d_M_isRound_74 : decode b_M_isRound 74 = .ok (.getfield 29, 3) := by decide +kernel
theorem d_M_isRound_77 : decode b_M_isRound 77 = .ok (.iload_n 3, 1) := by decide +kernel
theorem d_M_isRound_78 : decode b_M_isRound 78 = .ok (.laload, 1) := by decide +kernel
theorem d_M_isRound_79 : decode b_M_isRound 79 = .ok (.aload_n 0, 1) := by decide +kernel
theorem d_M_isRound_80 : decode b_M_isRound 80 = .ok (.getfield 32, 3) := by decide +kernel
theorem d_M_isRound_83 : decode b_M_isRound 83 = .ok (.iload_n 3, 1) := by decide +kernel
theorem d_M_isRound_84 : decode b_M_isRound 84 = .ok (.laload, 1) := by decide +kernel
theorem d_M_isRound_85 : decode b_M_isRound 85 = .ok (.invokestatic 124, 3) := by decide +kernel
theorem d_M_isRound_88 : decode b_M_isRound 88 = .ok (.lconst 0, 1) := by decide +kernel
theorem d_M_isRound_89 : decode b_M_isRound 89 = .ok (.lcmp, 1) := by decide +kernel
theorem d_M_isRound_90 : decode b_M_isRound 90 = .ok (.ifCond .gt 5, 3) := by decide +kernel
theorem d_M_isRound_93 : decode b_M_isRound 93 = .ok (.iconst 0, 1) := by decide +kernel
theorem d_M_isRound_94 : decode b_M_isRound 94 = .ok (.ireturn, 1) := by decide +kernel
theorem d_M_isRound_95 : decode b_M_isRound 95 = .ok (.iinc 3 1, 3) := by decide +kernel
theorem d_M_isRound_98 : decode b_M_isRound 98 = .ok (.goto (-67), 3) := by decide +kernel
theorem d_M_isRound_101 : decode b_M_isRound 101 = .ok (.iinc 1 1, 3) := by decide +kernel
theorem d_M_isRound_104 : decode b_M_isRound 104 = .ok (.goto (-92), 3) := by decide +kernel
theorem d_M_isRound_107 : decode b_M_isRound 107 = .ok (.iconst 1, 1) := by decide +kernel
theorem d_M_isRound_108 : decode b_M_isRound 108 = .ok (.ireturn, 1) := by decide +kernel
abbrev rm_M_isRound : Room := { frames := 1, cells := 0, slots := 0, locals := 31 }
theorem ce_M_isRound : gCe y_M_isRound (.code y_M_isRound b_M_isRound 4 (some .boolean)) 4 0 false := gCe.code wd_921 wd_57 wd_920 (by decide) (by decide +kernel)
def f_M_isRound_L31 (g0 : gG) (c0 : Nat) (c1 : Int32) (c2 : Int32) (K101 : gW → gX Int32) (K93 : gW → gX Int32) : Nat → Int32 → gW → gX Int32
  | 0, _, _ => none
  | n + 1, z3, w => (gfI w c0 7 9).bind fun v12 => if v12 ≤ z3 then (K101 w) else (gjoin (fun K95 => if z3 = c1 then (K95 w) else (if z3 = c2 then (K95 w) else ((gfA w c0 7 10).bind fun v17 => (gaJ w v17 c1).bind fun v19 => (gfA w c0 7 11).bind fun v21 => (gaJ w v21 c1).bind fun v23 => (gfA w c0 7 10).bind fun v25 => (gaJ w v25 c2).bind fun v27 => (gfA w c0 7 11).bind fun v29 => (gaJ w v29 c2).bind fun v31 => (gfA w c0 7 10).bind fun v33 => (gaJ w v33 z3).bind fun v35 => (gfA w c0 7 11).bind fun v37 => (gaJ w v37 z3).bind fun v39 => gbind (f_M_cross g0 v19 v23 v27 v31 v35 v39 w) fun v43 w => if 0 < v43 then (K95 w) else (K93 w)))) (fun (w : gW) => f_M_isRound_L31 g0 c0 c1 c2 K101 K93 n (z3 + 1) w))
def f_M_isRound_L12 (g0 : gG) (c0 : Nat) (K107 : gW → gX Int32) (K93 : gW → gX Int32) : Nat → Int32 → gW → gX Int32
  | 0, _, _ => none
  | n + 1, z1, w => (gfI w c0 7 9).bind fun v6 => if v6 ≤ z1 then (K107 w) else ((gfI w c0 7 9).bind fun v9 => gguard (¬ v9 = 0) (gjoin (fun K101 => f_M_isRound_L31 g0 c0 z1 ((z1 + 1) - (z1 + 1) / v9 * v9) K101 K93 64 0 w) (fun (w : gW) => f_M_isRound_L12 g0 c0 K107 K93 n (z1 + 1) w)))
def f_M_isRound (g0 : gG) (a0 : Nat) (w : gW) : gX Int32 := (gfI w a0 7 9).bind fun v1 => if 3 ≤ v1 then (gjoin (fun K107 => gjoin (fun K93 => f_M_isRound_L12 g0 a0 K107 K93 64 0 w) (fun (w : gW) => gguard ((0 : Int32) = 0 ∨ (0 : Int32) = 1) (some (.inr 0, w)))) (fun (w : gW) => gguard ((1 : Int32) = 0 ∨ (1 : Int32) = 1) (some (.inr 1, w)))) else (gguard ((0 : Int32) = 0 ∨ (0 : Int32) = 1) (some (.inr 0, w)))
set_option maxHeartbeats 4000000 in
set_option maxRecDepth 100000 in
theorem m_M_isRound (l : Launch) (hst : l.stackTraces = false) (D : gD) (g0 : gG) (a0 : Nat) (w : gW) (r : (String ⊕ Int32) × gW) (h : f_M_isRound g0 a0 w = some r) : gMet l y_M_isRound (.code y_M_isRound b_M_isRound 4 (some .boolean)) rm_M_isRound D g0 [.ref a0] w (goI r) := by
  refine gw_ofZ (by decide +kernel) (Nat.le_of_ble_eq_true rfl) ?_
  intro p e s m below meth c ls args A Q hx hb hml hown hlocks hin hnt hT hK hZ hA hret hexc hthr hI hl
  obtain ⟨H, hH⟩ : ∃ H, H = s.heap := ⟨_, rfl⟩
  rw [← hH] at hI ⊢
  obtain ⟨locs, hlocs⟩ : ∃ z : List Loc, z = [] := ⟨_, rfl⟩
  rw [← hlocs] at hI ⊢
  have hl : lv_has ls 4 [(0, .ref a0)] := hl
  unfold f_M_isRound at h
  refine lv_aload_n hx hb d_M_isRound_0 rfl (lv_at hl 0 rfl) ?_
  obtain ⟨v1, e2, h⟩ := gb h
  refine gw_getI hx hb hT hown hK hI (ci := 7) rfl i_7 9 (by decide) wd_795 (fun _ h9 => h9) e2 d_M_isRound_1 ?_
  refine lv_iconst (v := 3) hx hb d_M_isRound_4 (by decide) ?_
  refine lv_icmp_ge (tgt := 10) hx hb d_M_isRound_5 (by decide) (fun c3 => ?_) (fun c3 => ?_)
  · skip
    have h := git c3 h
    refine lv_iconst (v := 0) hx hb d_M_isRound_10 (by decide) ?_
    refine lv_istore_n (lv' := [(1, .int 0), (0, .ref a0)]) hx hb d_M_isRound_11 rfl hl (by decide) rfl (fun ls hl => ?_)
    obtain ⟨K107, eK107, h⟩ := gj h
    have hK107 : ∀ (w : gW) (H : Heap) (locs : List Loc) (ls : Array Slot), K107 w = some r → gI D s A w H locs → lv_has ls 4 [] → W p l e rm_M_isRound s m args below meth c H locs 0 0 Q (F0 m 107 ls []) := by
      intro w H locs ls h hI hl
      have h := gk1 eK107 h
      refine lv_iconst (v := 1) hx hb d_M_isRound_107 (by decide) ?_
      obtain ⟨g4, h⟩ := gif h
      exact W.widen (show 0 ≤ 0 by omega) (show 0 ≤ 0 by omega) (hret g4 0 _ (Option.some.inj h).symm _ _ _ _ d_M_isRound_108 hI)
    obtain ⟨K93, eK93, h⟩ := gj h
    have hK93 : ∀ (w : gW) (H : Heap) (locs : List Loc) (ls : Array Slot), K93 w = some r → gI D s A w H locs → lv_has ls 4 [] → W p l e rm_M_isRound s m args below meth c H locs 0 0 Q (F0 m 93 ls []) := by
      intro w H locs ls h hI hl
      have h := gk1 eK93 h
      refine lv_iconst (v := 0) hx hb d_M_isRound_93 (by decide) ?_
      obtain ⟨g5, h⟩ := gif h
      exact W.widen (show 0 ≤ 0 by omega) (show 0 ≤ 0 by omega) (hret g5 0 _ (Option.some.inj h).symm _ _ _ _ d_M_isRound_94 hI)
    have hL12 : ∀ (n : Nat), ∀ (z6 : Int32) (w : gW) (H : Heap) (locs : List Loc) (ls : Array Slot), f_M_isRound_L12 g0 a0 K107 K93 n z6 w = some r → gI D s A w H locs → lv_has ls 4 [(0, .ref a0), (1, .int z6)] → W p l e rm_M_isRound s m args below meth c H locs 0 0 Q (F0 m 12 ls []) := by
      intro n
      induction n with
      | zero => intro z6 w H locs ls h hI hl; exact absurd h (by simp [f_M_isRound_L12])
      | succ n ih =>
        intro z6 w H locs ls h hI hl
        rw [f_M_isRound_L12] at h
        refine lv_iload_n hx hb d_M_isRound_12 rfl (lv_at hl 1 rfl) ?_
        refine lv_aload_n hx hb d_M_isRound_13 rfl (lv_at hl 0 rfl) ?_
        obtain ⟨v7, e8, h⟩ := gb h
        refine gw_getI hx hb hT hown hK hI (ci := 7) rfl i_7 9 (by decide) wd_795 (fun _ h9 => h9) e8 d_M_isRound_14 ?_
        refine lv_icmp_ge (tgt := 107) hx hb d_M_isRound_17 (by decide) (fun c9 => ?_) (fun c9 => ?_)
        · skip
          have h := git c9 h
          exact hK107 w H locs ls h hI (lv_sub hl [] rfl)
        · skip
          have h := gie c9 h
          refine lv_iload_n hx hb d_M_isRound_20 rfl (lv_at hl 1 rfl) ?_
          refine lv_iconst (v := 1) hx hb d_M_isRound_21 (by decide) ?_
          refine lv_iadd hx hb d_M_isRound_22 ?_
          refine lv_aload_n hx hb d_M_isRound_23 rfl (lv_at hl 0 rfl) ?_
          obtain ⟨v10, e11, h⟩ := gb h
          refine gw_getI hx hb hT hown hK hI (ci := 7) rfl i_7 9 (by decide) wd_795 (fun _ h9 => h9) e11 d_M_isRound_24 ?_
          obtain ⟨g12, h⟩ := gif h
          refine lv_irem hx hb d_M_isRound_27 g12 ?_
          refine lv_istore_n (lv' := [(2, .int ((z6 + 1) - (z6 + 1) / v10 * v10)), (0, .ref a0), (1, .int z6)]) hx hb d_M_isRound_28 rfl hl (by decide) rfl (fun ls hl => ?_)
          refine lv_iconst (v := 0) hx hb d_M_isRound_29 (by decide) ?_
          refine lv_istore_n (lv' := [(3, .int 0), (2, .int ((z6 + 1) - (z6 + 1) / v10 * v10)), (0, .ref a0), (1, .int z6)]) hx hb d_M_isRound_30 rfl hl (by decide) rfl (fun ls hl => ?_)
          obtain ⟨K101, eK101, h⟩ := gj h
          have hK101 : ∀ (w : gW) (H : Heap) (locs : List Loc) (ls : Array Slot), K101 w = some r → gI D s A w H locs → lv_has ls 4 [(0, .ref a0), (1, .int z6)] → W p l e rm_M_isRound s m args below meth c H locs 0 0 Q (F0 m 101 ls []) := by
            intro w H locs ls h hI hl
            have h := gk1 eK101 h
            refine lv_iinc (v := z6 + 1) (lv' := [(1, .int (z6 + 1)), (0, .ref a0)]) hx hb d_M_isRound_101 hl (k := 1) rfl rfl (by decide) rfl (fun ls hl => ?_)
            refine lv_goto (tgt := 12) hx hb d_M_isRound_104 (by decide) ?_
            exact ih _ w H locs ls h hI (lv_sub hl [1, 0] rfl)
          have hL31 : ∀ (n : Nat), ∀ (z13 : Int32) (w : gW) (H : Heap) (locs : List Loc) (ls : Array Slot), f_M_isRound_L31 g0 a0 z6 ((z6 + 1) - (z6 + 1) / v10 * v10) K101 K93 n z13 w = some r → gI D s A w H locs → lv_has ls 4 [(0, .ref a0), (1, .int z6), (2, .int ((z6 + 1) - (z6 + 1) / v10 * v10)), (3, .int z13)] → W p l e rm_M_isRound s m args below meth c H locs 0 0 Q (F0 m 31 ls []) := by
            intro n
            induction n with
            | zero => intro z13 w H locs ls h hI hl; exact absurd h (by simp [f_M_isRound_L31])
            | succ n ih =>
              intro z13 w H locs ls h hI hl
              rw [f_M_isRound_L31] at h
              refine lv_iload_n hx hb d_M_isRound_31 rfl (lv_at hl 3 rfl) ?_
              refine lv_aload_n hx hb d_M_isRound_32 rfl (lv_at hl 0 rfl) ?_
              obtain ⟨v14, e15, h⟩ := gb h
              refine gw_getI hx hb hT hown hK hI (ci := 7) rfl i_7 9 (by decide) wd_795 (fun _ h9 => h9) e15 d_M_isRound_33 ?_
              refine lv_icmp_ge (tgt := 101) hx hb d_M_isRound_36 (by decide) (fun c16 => ?_) (fun c16 => ?_)
              · skip
                have h := git c16 h
                exact hK101 w H locs ls h hI (lv_sub hl [0, 1] rfl)
              · skip
                have h := gie c16 h
                refine lv_iload_n hx hb d_M_isRound_39 rfl (lv_at hl 3 rfl) ?_
                refine lv_iload_n hx hb d_M_isRound_40 rfl (lv_at hl 1 rfl) ?_
                obtain ⟨K95, eK95, h⟩ := gj h
                have hK95 : ∀ (w : gW) (H : Heap) (locs : List Loc) (ls : Array Slot), K95 w = some r → gI D s A w H locs → lv_has ls 4 [(0, .ref a0), (1, .int z6), (2, .int ((z6 + 1) - (z6 + 1) / v10 * v10)), (3, .int z13)] → W p l e rm_M_isRound s m args below meth c H locs 0 0 Q (F0 m 95 ls []) := by
                  intro w H locs ls h hI hl
                  have h := gk1 eK95 h
                  refine lv_iinc (v := z13 + 1) (lv' := [(3, .int (z13 + 1)), (0, .ref a0), (1, .int z6), (2, .int ((z6 + 1) - (z6 + 1) / v10 * v10))]) hx hb d_M_isRound_95 hl (k := 3) rfl rfl (by decide) rfl (fun ls hl => ?_)
                  refine lv_goto (tgt := 31) hx hb d_M_isRound_98 (by decide) ?_
                  exact ih _ w H locs ls h hI (lv_sub hl [1, 2, 3, 0] rfl)
                refine lv_icmp_eq (tgt := 95) hx hb d_M_isRound_41 (by decide) (fun c17 => ?_) (fun c17 => ?_)
                · skip
                  have h := git c17 h
                  exact hK95 w H locs ls h hI (lv_sub hl [0, 1, 2, 3] rfl)
                · skip
                  have h := gie c17 h
                  refine lv_iload_n hx hb d_M_isRound_44 rfl (lv_at hl 3 rfl) ?_
                  refine lv_iload_n hx hb d_M_isRound_45 rfl (lv_at hl 2 rfl) ?_
                  refine lv_icmp_eq (tgt := 95) hx hb d_M_isRound_46 (by decide) (fun c18 => ?_) (fun c18 => ?_)
                  · skip
                    have h := git c18 h
                    exact hK95 w H locs ls h hI (lv_sub hl [0, 1, 2, 3] rfl)
                  · skip
                    have h := gie c18 h
                    refine lv_aload_n hx hb d_M_isRound_49 rfl (lv_at hl 0 rfl) ?_
                    obtain ⟨v19, e20, h⟩ := gb h
                    refine gw_getA hx hb hT hown hK hI (ci := 7) rfl i_7 10 (by decide) wd_796 (fun _ h9 => h9) e20 d_M_isRound_50 ?_
                    refine lv_iload_n hx hb d_M_isRound_53 rfl (lv_at hl 1 rfl) ?_
                    obtain ⟨v21, e22, h⟩ := gb h
                    refine gw_aldJ hx hb hK hI e22 d_M_isRound_54 ?_
                    refine lv_aload_n hx hb d_M_isRound_55 rfl (lv_at hl 0 rfl) ?_
                    obtain ⟨v23, e24, h⟩ := gb h
                    refine gw_getA hx hb hT hown hK hI (ci := 7) rfl i_7 11 (by decide) wd_797 (fun _ h9 => h9) e24 d_M_isRound_56 ?_
                    refine lv_iload_n hx hb d_M_isRound_59 rfl (lv_at hl 1 rfl) ?_
                    obtain ⟨v25, e26, h⟩ := gb h
                    refine gw_aldJ hx hb hK hI e26 d_M_isRound_60 ?_
                    refine lv_aload_n hx hb d_M_isRound_61 rfl (lv_at hl 0 rfl) ?_
                    obtain ⟨v27, e28, h⟩ := gb h
                    refine gw_getA hx hb hT hown hK hI (ci := 7) rfl i_7 10 (by decide) wd_796 (fun _ h9 => h9) e28 d_M_isRound_62 ?_
                    refine lv_iload_n hx hb d_M_isRound_65 rfl (lv_at hl 2 rfl) ?_
                    obtain ⟨v29, e30, h⟩ := gb h
                    refine gw_aldJ hx hb hK hI e30 d_M_isRound_66 ?_
                    refine lv_aload_n hx hb d_M_isRound_67 rfl (lv_at hl 0 rfl) ?_
                    obtain ⟨v31, e32, h⟩ := gb h
                    refine gw_getA hx hb hT hown hK hI (ci := 7) rfl i_7 11 (by decide) wd_797 (fun _ h9 => h9) e32 d_M_isRound_68 ?_
                    refine lv_iload_n hx hb d_M_isRound_71 rfl (lv_at hl 2 rfl) ?_
                    obtain ⟨v33, e34, h⟩ := gb h
                    refine gw_aldJ hx hb hK hI e34 d_M_isRound_72 ?_
                    refine lv_aload_n hx hb d_M_isRound_73 rfl (lv_at hl 0 rfl) ?_
                    obtain ⟨v35, e36, h⟩ := gb h
                    refine gw_getA hx hb hT hown hK hI (ci := 7) rfl i_7 10 (by decide) wd_796 (fun _ h9 => h9) e36 d_M_isRound_74 ?_
                    refine lv_iload_n hx hb d_M_isRound_77 rfl (lv_at hl 3 rfl) ?_
                    obtain ⟨v37, e38, h⟩ := gb h
                    refine gw_aldJ hx hb hK hI e38 d_M_isRound_78 ?_
                    refine lv_aload_n hx hb d_M_isRound_79 rfl (lv_at hl 0 rfl) ?_
                    obtain ⟨v39, e40, h⟩ := gb h
                    refine gw_getA hx hb hT hown hK hI (ci := 7) rfl i_7 11 (by decide) wd_797 (fun _ h9 => h9) e40 d_M_isRound_80 ?_
                    refine lv_iload_n hx hb d_M_isRound_83 rfl (lv_at hl 3 rfl) ?_
                    obtain ⟨v41, e42, h⟩ := gb h
                    refine gw_aldJ hx hb hK hI e42 d_M_isRound_84 ?_
                    obtain ⟨u43, e44⟩ := gsome h
                    refine gw_callJ e44 h (gw_runS (As := [.long v21, .long v25, .long v29, .long v33, .long v37, .long v41]) (rest := []) hx hb hml hown hT hK hZ hA hI (m_M_cross l hst D g0 v21 v25 v29 v33 v37 v41 w u43 e44) ce_M_cross wd_922 ⟨by decide, by decide⟩ rfl rfl hl.1 rfl (lv_room (Nat.le_of_ble_eq_true rfl)) d_M_isRound_85 ⟨(show 0 + 0 ≤ 0 by omega), (show 0 + 0 ≤ 0 by omega)⟩) hI hA hexc (show 0 + 0 ≤ 0 by omega) (show 0 + 0 ≤ 0 by omega) (fun v45 w H locs h hI => ?_)
                    refine lv_lconst (v := 0) hx hb d_M_isRound_88 (by decide) ?_
                    refine W.lcmp hx hb d_M_isRound_89 ?_
                    refine lv_if_gt (tgt := 95) hx hb d_M_isRound_90 (by decide) (fun c46 => ?_) (fun c46 => ?_)
                    · have c46 := (lg_cmp_gt _ _).mp c46
                      have h := git c46 h
                      exact hK95 w H locs ls h hI (lv_sub hl [0, 1, 2, 3] rfl)
                    · have c46 := mt (lg_cmp_gt _ _).mpr c46
                      have h := gie c46 h
                      exact hK93 w H locs ls h hI (lv_sub hl [] rfl)
          exact hL31 64 _ w H locs ls h hI (lv_sub hl [2, 3, 1, 0] rfl)
    exact hL12 64 _ w H locs ls h hI (lv_sub hl [1, 0] rfl)
  · skip
    have h := gie c3 h
    refine lv_iconst (v := 0) hx hb d_M_isRound_8 (by decide) ?_
    obtain ⟨g47, h⟩ := gif h
    exact W.widen (show 0 ≤ 0 by omega) (show 0 ≤ 0 by omega) (hret g47 0 _ (Option.some.inj h).symm _ _ _ _ d_M_isRound_9 hI)

abbrev b_M_prism : ByteArray := prog_9_method_18_code
def y_M_prism : MethodName := ⟨"BodySolidsModel", "prism", "(IJJ)Z"⟩
theorem d_M_prism_0 : decode b_M_prism 0 = .ok (.aload_n 0, 1) := by decide +kernel
theorem d_M_prism_1 : decode b_M_prism 1 = .ok (.aload_n 0, 1) := by decide +kernel
theorem d_M_prism_2 : decode b_M_prism 2 = .ok (.iload_n 1, 1) := by decide +kernel
theorem d_M_prism_3 : decode b_M_prism 3 = .ok (.invokevirtual 109, 3) := by decide +kernel
theorem d_M_prism_6 : decode b_M_prism 6 = .ok (.ifCond .ne 7, 3) := by decide +kernel
theorem d_M_prism_9 : decode b_M_prism 9 = .ok (.iconst 1, 1) := by decide +kernel
theorem d_M_prism_10 : decode b_M_prism 10 = .ok (.goto 17, 3) := by decide +kernel
theorem d_M_prism_13 : decode b_M_prism 13 = .ok (.lload_n 2, 1) := by decide +kernel
theorem d_M_prism_14 : decode b_M_prism 14 = .ok (.lload 4, 2) := by decide +kernel
theorem d_M_prism_16 : decode b_M_prism 16 = .ok (.invokestatic 106, 3) := by decide +kernel
theorem d_M_prism_19 : decode b_M_prism 19 = .ok (.ifCond .eq 7, 3) := by decide +kernel
theorem d_M_prism_22 : decode b_M_prism 22 = .ok (.iconst 0, 1) := by decide +kernel
theorem d_M_prism_23 : decode b_M_prism 23 = .ok (.goto 4, 3) := by decide +kernel
theorem d_M_prism_26 : decode b_M_prism 26 = .ok (.iconst 2, 1) := by decide +kernel
theorem d_M_prism_27 : decode b_M_prism 27 = .ok (.putfield 80, 3) := by decide +kernel
theorem d_M_prism_30 : decode b_M_prism 30 = .ok (.aload_n 0, 1) := by decide +kernel
theorem d_M_prism_31 : decode b_M_prism 31 = .ok (.getfield 80, 3) := by decide +kernel
theorem d_M_prism_34 : decode b_M_prism 34 = .ok (.ifCond .ne 14, 3) := by decide +kernel
theorem d_M_prism_37 : decode b_M_prism 37 = .ok (.aload_n 0, 1) := by decide +kernel
theorem d_M_prism_38 : decode b_M_prism 38 = .ok (.getfield 7, 3) := by decide +kernel
theorem d_M_prism_41 : decode b_M_prism 41 = .ok (.iload_n 1, 1) := by decide +kernel
theorem d_M_prism_42 : decode b_M_prism 42 = .ok (.iaload, 1) := by decide +kernel
theorem d_M_prism_43 : decode b_M_prism 43 = .ok (.bipush 12, 2) := by decide +kernel
theorem d_M_prism_45 : decode b_M_prism 45 = .ok (.if_icmp .ne 5, 3) := by decide +kernel
theorem d_M_prism_48 : decode b_M_prism 48 = .ok (.iconst 0, 1) := by decide +kernel
theorem d_M_prism_49 : decode b_M_prism 49 = .ok (.ireturn, 1) := by decide +kernel
theorem d_M_prism_50 : decode b_M_prism 50 = .ok (.aload_n 0, 1) := by decide +kernel
theorem d_M_prism_51 : decode b_M_prism 51 = .ok (.invokevirtual 128, 3) := by decide +kernel
theorem d_M_prism_54 : decode b_M_prism 54 = .ok (.istore 6, 2) := by decide +kernel
theorem d_M_prism_56 : decode b_M_prism 56 = .ok (.aload_n 0, 1) := by decide +kernel
theorem d_M_prism_57 : decode b_M_prism 57 = .ok (.getfield 121, 3) := by decide +kernel
theorem d_M_prism_60 : decode b_M_prism 60 = .ok (.istore 7, 2) := by decide +kernel
theorem d_M_prism_62 : decode b_M_prism 62 = .ok (.aload_n 0, 1) := by decide +kernel
theorem d_M_prism_63 : decode b_M_prism 63 = .ok (.iconst 0, 1) := by decide +kernel
theorem d_M_prism_64 : decode b_M_prism 64 = .ok (.putfield 121, 3) := by decide +kernel
theorem d_M_prism_67 : decode b_M_prism 67 = .ok (.iload 6, 2) := by decide +kernel
theorem d_M_prism_69 : decode b_M_prism 69 = .ok (.ifCond .ne 5, 3) := by decide +kernel
theorem d_M_prism_72 : decode b_M_prism 72 = .ok (.iconst 0, 1) := by decide +kernel
theorem d_M_prism_73 : decode b_M_prism 73 = .ok (.ireturn, 1) := by decide +kernel
theorem d_M_prism_74 : decode b_M_prism 74 = .ok (.aload_n 0, 1) := by decide +kernel
theorem d_M_prism_75 : decode b_M_prism 75 = .ok (.iload_n 1, 1) := by decide +kernel
theorem d_M_prism_76 : decode b_M_prism 76 = .ok (.iconst 2, 1) := by decide +kernel
theorem d_M_prism_77 : decode b_M_prism 77 = .ok (.invokevirtual 113, 3) := by decide +kernel
theorem d_M_prism_80 : decode b_M_prism 80 = .ok (.istore 8, 2) := by decide +kernel
theorem d_M_prism_82 : decode b_M_prism 82 = .ok (.aload_n 0, 1) := by decide +kernel
theorem d_M_prism_83 : decode b_M_prism 83 = .ok (.iload 8, 2) := by decide +kernel
theorem d_M_prism_85 : decode b_M_prism 85 = .ok (.iconst 2, 1) := by decide +kernel
theorem d_M_prism_86 : decode b_M_prism 86 = .ok (.lload_n 2, 1) := by decide +kernel
theorem d_M_prism_87 : decode b_M_prism 87 = .ok (.invokevirtual 117, 3) := by decide +kernel
theorem d_M_prism_90 : decode b_M_prism 90 = .ok (.aload_n 0, 1) := by decide +kernel
theorem d_M_prism_91 : decode b_M_prism 91 = .ok (.iload 8, 2) := by decide +kernel
theorem d_M_prism_93 : decode b_M_prism 93 = .ok (.iconst 5, 1) := by decide +kernel
theorem d_M_prism_94 : decode b_M_prism 94 = .ok (.lload 4, 2) := by decide +kernel
theorem d_M_prism_96 : decode b_M_prism 96 = .ok (.invokevirtual 117, 3) := by decide +kernel
theorem d_M_prism_99 : decode b_M_prism 99 = .ok (.aload_n 0, 1) := by decide +kernel
theorem d_M_prism_100 : decode b_M_prism 100 = .ok (.getfield 20, 3) := by decide +kernel
theorem d_M_prism_103 : decode b_M_prism 103 = .ok (.iload 8, 2) := by decide +kernel
theorem d_M_prism_105 : decode b_M_prism 105 = .ok (.iload 7, 2) := by decide +kernel
theorem d_M_prism_107 : decode b_M_prism 107 = .ok (.iastore, 1) := by decide +kernel
theorem d_M_prism_108 : decode b_M_prism 108 = .ok (.iconst 0, 1) := by decide +kernel
theorem d_M_prism_109 : decode b_M_prism 109 = .ok (.istore 9, 2) := by decide +kernel
theorem d_M_prism_111 : decode b_M_prism 111 = .ok (.iload 9, 2) := by decide +kernel
theorem d_M_prism_113 : decode b_M_prism 113 = .ok (.iload 7, 2) := by decide +kernel
theorem d_M_prism_115 : decode b_M_prism 115 = .ok (.if_icmp .ge 49, 3) := by decide +kernel
theorem d_M_prism_118 : decode b_M_prism 118 = .ok (.aload_n 0, 1) := by decide +kernel
theorem d_M_prism_119 : decode b_M_prism 119 = .ok (.getfield 23, 3) := by decide +kernel
theorem d_M_prism_122 : decode b_M_prism 122 = .ok (.bipush 8, 2) := by decide +kernel
theorem d_M_prism_124 : decode b_M_prism 124 = .ok (.iload 8, 2) := by decide +kernel
theorem d_M_prism_126 : decode b_M_prism 126 = .ok (.imul, 1) := by decide +kernel
theorem d_M_prism_127 : decode b_M_prism 127 = .ok (.iload 9, 2) := by decide +kernel
theorem d_M_prism_129 : decode b_M_prism 129 = .ok (.iadd, 1) := by decide +kernel
theorem d_M_prism_130 : decode b_M_prism 130 = .ok (.aload_n 0, 1) := by decide +kernel
theorem d_M_prism_131 : decode b_M_prism 131 = .ok (.getfield 29, 3) := by decide +kernel
theorem d_M_prism_134 : decode b_M_prism 134 = .ok (.iload 9, 2) := by decide +kernel
theorem d_M_prism_136 : decode b_M_prism 136 = .ok (.laload, 1) := by decide +kernel
theorem d_M_prism_137 : decode b_M_prism 137 = .ok (.lastore, 1) := by decide +kernel
theorem d_M_prism_138 : decode b_M_prism 138 = .ok (.aload_n 0, 1) := by decide +kernel
theorem d_M_prism_139 : decode b_M_prism 139 = .ok (.getfield 26, 3) := by decide +kernel
theorem d_M_prism_142 : decode b_M_prism 142 = .ok (.bipush 8, 2) := by decide +kernel
theorem d_M_prism_144 : decode b_M_prism 144 = .ok (.iload 8, 2) := by decide +kernel
theorem d_M_prism_146 : decode b_M_prism 146 = .ok (.imul, 1) := by decide +kernel
theorem d_M_prism_147 : decode b_M_prism 147 = .ok (.iload 9, 2) := by decide +kernel
theorem d_M_prism_149 : decode b_M_prism 149 = .ok (.iadd, 1) := by decide +kernel
theorem d_M_prism_150 : decode b_M_prism 150 = .ok (.aload_n 0, 1) := by decide +kernel
theorem d_M_prism_151 : decode b_M_prism 151 = .ok (.getfield 32, 3) := by decide +kernel
theorem d_M_prism_154 : decode b_M_prism 154 = .ok (.iload 9, 2) := by decide +kernel
theorem d_M_prism_156 : decode b_M_prism 156 = .ok (.laload, 1) := by decide +kernel
theorem d_M_prism_157 : decode b_M_prism 157 = .ok (.lastore, 1) := by decide +kernel
theorem d_M_prism_158 : decode b_M_prism 158 = .ok (.iinc 9 1, 3) := by decide +kernel
theorem d_M_prism_161 : decode b_M_prism 161 = .ok (.goto (-50), 3) := by decide +kernel
theorem d_M_prism_164 : decode b_M_prism 164 = .ok (.iconst 1, 1) := by decide +kernel
theorem d_M_prism_165 : decode b_M_prism 165 = .ok (.ireturn, 1) := by decide +kernel
abbrev rm_M_prism : Room := { frames := 3, cells := 0, slots := 0, locals := 69 }
theorem ce_M_prism : gCe y_M_prism (.code y_M_prism b_M_prism 10 (some .boolean)) 10 3 false := gCe.code wd_917 wd_57 wd_915 (by decide) (by decide +kernel)
def f_M_prism_L111 (g0 : gG) (c0 : Nat) (c7 : Int32) (c8 : Int32) (K164 : gW → gX Int32) : Nat → Int32 → gW → gX Int32
  | 0, _, _ => none
  | n + 1, z9, w => if c7 ≤ z9 then (K164 w) else ((gfA w c0 7 7).bind fun v46 => (gfA w c0 7 10).bind fun v48 => (gaJ w v48 z9).bind fun v50 => (gsJ w v46 ((8 * c8) + z9) v50).bind fun w => (gfA w c0 7 8).bind fun v53 => (gfA w c0 7 11).bind fun v55 => (gaJ w v55 z9).bind fun v57 => (gsJ w v53 ((8 * c8) + z9) v57).bind fun w => f_M_prism_L111 g0 c0 c7 c8 K164 n (z9 + 1) w)
def f_M_prism (g0 : gG) (a0 : Nat) (p1 : Int32) (p2 : Int64) (p3 : Int64) (w : gW) : gX Int32 := (gck w a0 7).bind fun _ => gbind (f_M_isBody g0 a0 p1 w) fun v5 w => gjoin (fun K27 => if v5 = 0 then (K27 1 w) else (gbind (f_M_isUpright g0 p2 p3 w) fun v65 w => if v65 = 0 then (K27 2 w) else (K27 0 w))) (fun (y6 : Int32) (w : gW) => (gp w a0 7 0 (.int y6)).bind fun w => (gfI w a0 7 0).bind fun v8 => gjoin (fun K48 => if v8 = 0 then ((gfA w a0 7 3).bind fun v12 => (gaI w v12 p1).bind fun v14 => if v14 = 12 then (K48 w) else ((gck w a0 7).bind fun _ => gbind (f_M_isRound g0 a0 w) fun v21 w => (gfI w a0 7 9).bind fun v22 => (gp w a0 7 9 (.int 0)).bind fun w => if v21 = 0 then (gguard ((0 : Int32) = 0 ∨ (0 : Int32) = 1) (some (.inr 0, w))) else ((gck w a0 7).bind fun _ => gbind (f_M_fresh g0 a0 p1 2 w) fun v30 w => (gck w a0 7).bind fun _ => gbind (f_M_tell g0 a0 v30 2 p2 w) fun v35 w => (gck w a0 7).bind fun _ => gbind (f_M_tell g0 a0 v30 5 p3 w) fun v40 w => (gfA w a0 7 6).bind fun v41 => (gsI w v41 v30 v22).bind fun w => gjoin (fun K164 => f_M_prism_L111 g0 a0 v22 v30 K164 64 0 w) (fun (w : gW) => gguard ((1 : Int32) = 0 ∨ (1 : Int32) = 1) (some (.inr 1, w)))))) else (K48 w)) (fun (w : gW) => gguard ((0 : Int32) = 0 ∨ (0 : Int32) = 1) (some (.inr 0, w))))
set_option maxHeartbeats 4000000 in
set_option maxRecDepth 100000 in
theorem m_M_prism (l : Launch) (hst : l.stackTraces = false) (D : gD) (g0 : gG) (a0 : Nat) (p1 : Int32) (p2 : Int64) (p3 : Int64) (w : gW) (r : (String ⊕ Int32) × gW) (h : f_M_prism g0 a0 p1 p2 p3 w = some r) : gMet l y_M_prism (.code y_M_prism b_M_prism 10 (some .boolean)) rm_M_prism D g0 [.ref a0, .int p1, .long p2, .long p3] w (goI r) := by
  refine gw_ofZ (by decide +kernel) (Nat.le_of_ble_eq_true rfl) ?_
  intro p e s m below meth c ls args A Q hx hb hml hown hlocks hin hnt hT hK hZ hA hret hexc hthr hI hl
  obtain ⟨H, hH⟩ : ∃ H, H = s.heap := ⟨_, rfl⟩
  rw [← hH] at hI ⊢
  obtain ⟨locs, hlocs⟩ : ∃ z : List Loc, z = [] := ⟨_, rfl⟩
  rw [← hlocs] at hI ⊢
  have hl : lv_has ls 10 [(0, .ref a0), (1, .int p1), (2, .long p2), (4, .long p3)] := hl
  unfold f_M_prism at h
  refine lv_aload_n hx hb d_M_prism_0 rfl (lv_at hl 0 rfl) ?_
  refine lv_aload_n hx hb d_M_prism_1 rfl (lv_at hl 0 rfl) ?_
  refine lv_iload_n hx hb d_M_prism_2 rfl (lv_at hl 1 rfl) ?_
  obtain ⟨q3, e4, h⟩ := gb h
  obtain ⟨u1, e2⟩ := gsome h
  refine gw_callI e2 h (gw_runV (As := [.int p1]) (rest := [.ref a0]) hx hb hml hown hT hK hZ hA hI (ci := 7) rfl e4 (m_M_isBody l hst D g0 a0 p1 w u1 e2) ce_M_isBody wd_894 wd_17 ⟨by decide, by decide⟩ rfl rfl hl.1 rfl (lv_room (Nat.le_of_ble_eq_true rfl)) d_M_prism_3 ⟨(show 0 + 0 ≤ 0 by omega), (show 0 + 0 ≤ 0 by omega)⟩) hI hA hexc (show 0 + 0 ≤ 0 by omega) (show 0 + 0 ≤ 0 by omega) (fun v5 w H locs h hI => ?_)
  obtain ⟨K27, eK27, h⟩ := gj h
  have hK27 : ∀ (y6 : Int32) (w : gW) (H : Heap) (locs : List Loc) (ls : Array Slot), K27 y6 w = some r → gI D s A w H locs → lv_has ls 10 [(0, .ref a0), (1, .int p1), (2, .long p2), (4, .long p3)] → W p l e rm_M_prism s m args below meth c H locs 0 0 Q (F0 m 27 ls [.int y6, .ref a0]) := by
    intro y6 w H locs ls h hI hl
    have h := gk2 eK27 h
    obtain ⟨w, e7, h⟩ := gb h
    refine gw_put hx hb hT hown hK hI (ci := 7) rfl i_7 t_7 t_7_ok n_7 0 (by decide) wd_786 (fun _ h9 => h9) rfl (ty := .int) (by decide +kernel) rfl rfl e7 d_M_prism_27 (fun H locs hI => ?_)
    refine lv_aload_n hx hb d_M_prism_30 rfl (lv_at hl 0 rfl) ?_
    obtain ⟨v8, e9, h⟩ := gb h
    refine gw_getI hx hb hT hown hK hI (ci := 7) rfl i_7 0 (by decide) wd_786 (fun _ h9 => h9) e9 d_M_prism_31 ?_
    obtain ⟨K48, eK48, h⟩ := gj h
    have hK48 : ∀ (w : gW) (H : Heap) (locs : List Loc) (ls : Array Slot), K48 w = some r → gI D s A w H locs → lv_has ls 10 [] → W p l e rm_M_prism s m args below meth c H locs 0 0 Q (F0 m 48 ls []) := by
      intro w H locs ls h hI hl
      have h := gk1 eK48 h
      refine lv_iconst (v := 0) hx hb d_M_prism_48 (by decide) ?_
      obtain ⟨g10, h⟩ := gif h
      exact W.widen (show 0 ≤ 0 by omega) (show 0 ≤ 0 by omega) (hret g10 0 _ (Option.some.inj h).symm _ _ _ _ d_M_prism_49 hI)
    refine lv_if_ne (tgt := 48) hx hb d_M_prism_34 (by decide) (fun c11 => ?_) (fun c11 => ?_)
    · skip
      have h := gie c11 h
      exact hK48 w H locs ls h hI (lv_sub hl [] rfl)
    · skip
      have h := git c11 h
      refine lv_aload_n hx hb d_M_prism_37 rfl (lv_at hl 0 rfl) ?_
      obtain ⟨v12, e13, h⟩ := gb h
      refine gw_getA hx hb hT hown hK hI (ci := 7) rfl i_7 3 (by decide) wd_789 (fun _ h9 => h9) e13 d_M_prism_38 ?_
      refine lv_iload_n hx hb d_M_prism_41 rfl (lv_at hl 1 rfl) ?_
      obtain ⟨v14, e15, h⟩ := gb h
      refine gw_aldI hx hb hK hI e15 d_M_prism_42 ?_
      refine lv_bipush (v := 12) hx hb d_M_prism_43 (by decide) ?_
      refine lv_icmp_ne (tgt := 50) hx hb d_M_prism_45 (by decide) (fun c16 => ?_) (fun c16 => ?_)
      · skip
        have h := gie c16 h
        refine lv_aload_n hx hb d_M_prism_50 rfl (lv_at hl 0 rfl) ?_
        obtain ⟨q19, e20, h⟩ := gb h
        obtain ⟨u17, e18⟩ := gsome h
        refine gw_callI e18 h (gw_runV (As := []) (rest := []) hx hb hml hown hT hK hZ hA hI (ci := 7) rfl e20 (m_M_isRound l hst D g0 a0 w u17 e18) ce_M_isRound wd_918 wd_20 ⟨by decide, by decide⟩ rfl rfl hl.1 rfl (lv_room (Nat.le_of_ble_eq_true rfl)) d_M_prism_51 ⟨(show 0 + 0 ≤ 0 by omega), (show 0 + 0 ≤ 0 by omega)⟩) hI hA hexc (show 0 + 0 ≤ 0 by omega) (show 0 + 0 ≤ 0 by omega) (fun v21 w H locs h hI => ?_)
        refine lv_istore (lv' := [(6, .int v21), (0, .ref a0), (1, .int p1), (2, .long p2), (4, .long p3)]) hx hb d_M_prism_54 hl (by decide) rfl (fun ls hl => ?_)
        refine lv_aload_n hx hb d_M_prism_56 rfl (lv_at hl 1 rfl) ?_
        obtain ⟨v22, e23, h⟩ := gb h
        refine gw_getI hx hb hT hown hK hI (ci := 7) rfl i_7 9 (by decide) wd_795 (fun _ h9 => h9) e23 d_M_prism_57 ?_
        refine lv_istore (lv' := [(7, .int v22), (6, .int v21), (0, .ref a0), (1, .int p1), (2, .long p2), (4, .long p3)]) hx hb d_M_prism_60 hl (by decide) rfl (fun ls hl => ?_)
        refine lv_aload_n hx hb d_M_prism_62 rfl (lv_at hl 2 rfl) ?_
        refine lv_iconst (v := 0) hx hb d_M_prism_63 (by decide) ?_
        obtain ⟨w, e24, h⟩ := gb h
        refine gw_put hx hb hT hown hK hI (ci := 7) rfl i_7 t_7 t_7_ok n_7 9 (by decide) wd_795 (fun _ h9 => h9) rfl (ty := .int) (by decide +kernel) rfl rfl e24 d_M_prism_64 (fun H locs hI => ?_)
        refine lv_iload hx hb d_M_prism_67 (lv_at hl 1 rfl) ?_
        refine lv_if_ne (tgt := 74) hx hb d_M_prism_69 (by decide) (fun c25 => ?_) (fun c25 => ?_)
        · skip
          have h := gie c25 h
          refine lv_aload_n hx hb d_M_prism_74 rfl (lv_at hl 2 rfl) ?_
          refine lv_iload_n hx hb d_M_prism_75 rfl (lv_at hl 3 rfl) ?_
          refine lv_iconst (v := 2) hx hb d_M_prism_76 (by decide) ?_
          obtain ⟨q28, e29, h⟩ := gb h
          obtain ⟨u26, e27⟩ := gsome h
          refine gw_callI e27 h (gw_runV (As := [.int p1, .int 2]) (rest := []) hx hb hml hown hT hK hZ hA hI (ci := 7) rfl e29 (m_M_fresh l hst D g0 a0 p1 2 w u26 e27) ce_M_fresh wd_898 wd_18 ⟨by decide, by decide⟩ rfl rfl hl.1 rfl (lv_room (Nat.le_of_ble_eq_true rfl)) d_M_prism_77 ⟨(show 0 + 0 ≤ 0 by omega), (show 0 + 0 ≤ 0 by omega)⟩) hI hA hexc (show 0 + 0 ≤ 0 by omega) (show 0 + 0 ≤ 0 by omega) (fun v30 w H locs h hI => ?_)
          refine lv_istore (lv' := [(8, .int v30), (7, .int v22), (6, .int v21), (0, .ref a0), (1, .int p1), (2, .long p2), (4, .long p3)]) hx hb d_M_prism_80 hl (by decide) rfl (fun ls hl => ?_)
          refine lv_aload_n hx hb d_M_prism_82 rfl (lv_at hl 3 rfl) ?_
          refine lv_iload hx hb d_M_prism_83 (lv_at hl 0 rfl) ?_
          refine lv_iconst (v := 2) hx hb d_M_prism_85 (by decide) ?_
          refine lv_lload_n hx hb d_M_prism_86 rfl (lv_at hl 5 rfl) ?_
          obtain ⟨q33, e34, h⟩ := gb h
          obtain ⟨u31, e32⟩ := gsome h
          refine gw_callV e32 h (gw_runV (As := [.int v30, .int 2, .long p2]) (rest := []) hx hb hml hown hT hK hZ hA hI (ci := 7) rfl e34 (m_M_tell l hst D g0 a0 v30 2 p2 w u31 e32) ce_M_tell wd_902 wd_19 ⟨by decide, by decide⟩ rfl rfl hl.1 rfl (lv_room (Nat.le_of_ble_eq_true rfl)) d_M_prism_87 ⟨(show 0 + 0 ≤ 0 by omega), (show 0 + 0 ≤ 0 by omega)⟩) hI hA hexc (show 0 + 0 ≤ 0 by omega) (show 0 + 0 ≤ 0 by omega) (fun v35 w H locs h hI => ?_)
          refine lv_aload_n hx hb d_M_prism_90 rfl (lv_at hl 3 rfl) ?_
          refine lv_iload hx hb d_M_prism_91 (lv_at hl 0 rfl) ?_
          refine lv_iconst (v := 5) hx hb d_M_prism_93 (by decide) ?_
          refine lv_lload hx hb d_M_prism_94 (lv_at hl 6 rfl) ?_
          obtain ⟨q38, e39, h⟩ := gb h
          obtain ⟨u36, e37⟩ := gsome h
          refine gw_callV e37 h (gw_runV (As := [.int v30, .int 5, .long p3]) (rest := []) hx hb hml hown hT hK hZ hA hI (ci := 7) rfl e39 (m_M_tell l hst D g0 a0 v30 5 p3 w u36 e37) ce_M_tell wd_902 wd_19 ⟨by decide, by decide⟩ rfl rfl hl.1 rfl (lv_room (Nat.le_of_ble_eq_true rfl)) d_M_prism_96 ⟨(show 0 + 0 ≤ 0 by omega), (show 0 + 0 ≤ 0 by omega)⟩) hI hA hexc (show 0 + 0 ≤ 0 by omega) (show 0 + 0 ≤ 0 by omega) (fun v40 w H locs h hI => ?_)
          refine lv_aload_n hx hb d_M_prism_99 rfl (lv_at hl 3 rfl) ?_
          obtain ⟨v41, e42, h⟩ := gb h
          refine gw_getA hx hb hT hown hK hI (ci := 7) rfl i_7 6 (by decide) wd_792 (fun _ h9 => h9) e42 d_M_prism_100 ?_
          refine lv_iload hx hb d_M_prism_103 (lv_at hl 0 rfl) ?_
          refine lv_iload hx hb d_M_prism_105 (lv_at hl 1 rfl) ?_
          obtain ⟨w, e43, h⟩ := gb h
          refine gw_astI hx hb hK hI e43 d_M_prism_107 (fun H locs hI => ?_)
          refine lv_iconst (v := 0) hx hb d_M_prism_108 (by decide) ?_
          refine lv_istore (lv' := [(9, .int 0), (8, .int v30), (7, .int v22), (6, .int v21), (0, .ref a0), (1, .int p1), (2, .long p2), (4, .long p3)]) hx hb d_M_prism_109 hl (by decide) rfl (fun ls hl => ?_)
          obtain ⟨K164, eK164, h⟩ := gj h
          have hK164 : ∀ (w : gW) (H : Heap) (locs : List Loc) (ls : Array Slot), K164 w = some r → gI D s A w H locs → lv_has ls 10 [] → W p l e rm_M_prism s m args below meth c H locs 0 0 Q (F0 m 164 ls []) := by
            intro w H locs ls h hI hl
            have h := gk1 eK164 h
            refine lv_iconst (v := 1) hx hb d_M_prism_164 (by decide) ?_
            obtain ⟨g44, h⟩ := gif h
            exact W.widen (show 0 ≤ 0 by omega) (show 0 ≤ 0 by omega) (hret g44 0 _ (Option.some.inj h).symm _ _ _ _ d_M_prism_165 hI)
          have hL111 : ∀ (n : Nat), ∀ (z45 : Int32) (w : gW) (H : Heap) (locs : List Loc) (ls : Array Slot), f_M_prism_L111 g0 a0 v22 v30 K164 n z45 w = some r → gI D s A w H locs → lv_has ls 10 [(0, .ref a0), (7, .int v22), (8, .int v30), (9, .int z45)] → W p l e rm_M_prism s m args below meth c H locs 0 0 Q (F0 m 111 ls []) := by
            intro n
            induction n with
            | zero => intro z45 w H locs ls h hI hl; exact absurd h (by simp [f_M_prism_L111])
            | succ n ih =>
              intro z45 w H locs ls h hI hl
              rw [f_M_prism_L111] at h
              refine lv_iload hx hb d_M_prism_111 (lv_at hl 3 rfl) ?_
              refine lv_iload hx hb d_M_prism_113 (lv_at hl 1 rfl) ?_
              refine lv_icmp_ge (tgt := 164) hx hb d_M_prism_115 (by decide) (fun c46 => ?_) (fun c46 => ?_)
              · skip
                have h := git c46 h
                exact hK164 w H locs ls h hI (lv_sub hl [] rfl)
              · skip
                have h := gie c46 h
                refine lv_aload_n hx hb d_M_prism_118 rfl (lv_at hl 0 rfl) ?_
                obtain ⟨v47, e48, h⟩ := gb h
                refine gw_getA hx hb hT hown hK hI (ci := 7) rfl i_7 7 (by decide) wd_793 (fun _ h9 => h9) e48 d_M_prism_119 ?_
                refine lv_bipush (v := 8) hx hb d_M_prism_122 (by decide) ?_
                refine lv_iload hx hb d_M_prism_124 (lv_at hl 2 rfl) ?_
                refine lv_imul hx hb d_M_prism_126 ?_
                refine lv_iload hx hb d_M_prism_127 (lv_at hl 3 rfl) ?_
                refine lv_iadd hx hb d_M_prism_129 ?_
                refine lv_aload_n hx hb d_M_prism_130 rfl (lv_at hl 0 rfl) ?_
                obtain ⟨v49, e50, h⟩ := gb h
                refine gw_getA hx hb hT hown hK hI (ci := 7) rfl i_7 10 (by decide) wd_796 (fun _ h9 => h9) e50 d_M_prism_131 ?_
                refine lv_iload hx hb d_M_prism_134 (lv_at hl 3 rfl) ?_
                obtain ⟨v51, e52, h⟩ := gb h
                refine gw_aldJ hx hb hK hI e52 d_M_prism_136 ?_
                obtain ⟨w, e53, h⟩ := gb h
                refine gw_astJ hx hb hK hI e53 d_M_prism_137 (fun H locs hI => ?_)
                refine lv_aload_n hx hb d_M_prism_138 rfl (lv_at hl 0 rfl) ?_
                obtain ⟨v54, e55, h⟩ := gb h
                refine gw_getA hx hb hT hown hK hI (ci := 7) rfl i_7 8 (by decide) wd_794 (fun _ h9 => h9) e55 d_M_prism_139 ?_
                refine lv_bipush (v := 8) hx hb d_M_prism_142 (by decide) ?_
                refine lv_iload hx hb d_M_prism_144 (lv_at hl 2 rfl) ?_
                refine lv_imul hx hb d_M_prism_146 ?_
                refine lv_iload hx hb d_M_prism_147 (lv_at hl 3 rfl) ?_
                refine lv_iadd hx hb d_M_prism_149 ?_
                refine lv_aload_n hx hb d_M_prism_150 rfl (lv_at hl 0 rfl) ?_
                obtain ⟨v56, e57, h⟩ := gb h
                refine gw_getA hx hb hT hown hK hI (ci := 7) rfl i_7 11 (by decide) wd_797 (fun _ h9 => h9) e57 d_M_prism_151 ?_
                refine lv_iload hx hb d_M_prism_154 (lv_at hl 3 rfl) ?_
                obtain ⟨v58, e59, h⟩ := gb h
                refine gw_aldJ hx hb hK hI e59 d_M_prism_156 ?_
                obtain ⟨w, e60, h⟩ := gb h
                refine gw_astJ hx hb hK hI e60 d_M_prism_157 (fun H locs hI => ?_)
                refine lv_iinc (v := z45 + 1) (lv' := [(9, .int (z45 + 1)), (0, .ref a0), (7, .int v22), (8, .int v30)]) hx hb d_M_prism_158 hl (k := 3) rfl rfl (by decide) rfl (fun ls hl => ?_)
                refine lv_goto (tgt := 111) hx hb d_M_prism_161 (by decide) ?_
                exact ih _ w H locs ls h hI (lv_sub hl [1, 2, 3, 0] rfl)
          exact hL111 64 _ w H locs ls h hI (lv_sub hl [4, 2, 1, 0] rfl)
        · skip
          have h := git c25 h
          refine lv_iconst (v := 0) hx hb d_M_prism_72 (by decide) ?_
          obtain ⟨g61, h⟩ := gif h
          exact W.widen (show 0 ≤ 0 by omega) (show 0 ≤ 0 by omega) (hret g61 0 _ (Option.some.inj h).symm _ _ _ _ d_M_prism_73 hI)
      · skip
        have h := git c16 h
        exact hK48 w H locs ls h hI (lv_sub hl [] rfl)
  refine lv_if_ne (tgt := 13) hx hb d_M_prism_6 (by decide) (fun c62 => ?_) (fun c62 => ?_)
  · skip
    have h := gie c62 h
    refine lv_lload_n hx hb d_M_prism_13 rfl (lv_at hl 2 rfl) ?_
    refine lv_lload hx hb d_M_prism_14 (lv_at hl 3 rfl) ?_
    obtain ⟨u63, e64⟩ := gsome h
    refine gw_callI e64 h (gw_runS (As := [.long p2, .long p3]) (rest := [.ref a0]) hx hb hml hown hT hK hZ hA hI (m_M_isUpright l hst D g0 p2 p3 w u63 e64) ce_M_isUpright wd_891 ⟨by decide, by decide⟩ rfl rfl hl.1 rfl (lv_room (Nat.le_of_ble_eq_true rfl)) d_M_prism_16 ⟨(show 0 + 0 ≤ 0 by omega), (show 0 + 0 ≤ 0 by omega)⟩) hI hA hexc (show 0 + 0 ≤ 0 by omega) (show 0 + 0 ≤ 0 by omega) (fun v65 w H locs h hI => ?_)
    refine lv_if_eq (tgt := 26) hx hb d_M_prism_19 (by decide) (fun c66 => ?_) (fun c66 => ?_)
    · skip
      have h := git c66 h
      refine lv_iconst (v := 2) hx hb d_M_prism_26 (by decide) ?_
      exact hK27 _ w H locs ls h hI (lv_sub hl [0, 1, 2, 3] rfl)
    · skip
      have h := gie c66 h
      refine lv_iconst (v := 0) hx hb d_M_prism_22 (by decide) ?_
      refine lv_goto (tgt := 27) hx hb d_M_prism_23 (by decide) ?_
      exact hK27 _ w H locs ls h hI (lv_sub hl [0, 1, 2, 3] rfl)
  · skip
    have h := git c62 h
    refine lv_iconst (v := 1) hx hb d_M_prism_9 (by decide) ?_
    refine lv_goto (tgt := 27) hx hb d_M_prism_10 (by decide) ?_
    exact hK27 _ w H locs ls h hI (lv_sub hl [0, 1, 2, 3] rfl)

abbrev b_By_addAllOf : ByteArray := prog_2_method_4_code
def y_By_addAllOf : MethodName := ⟨"BodySolids$Body", "addAllOf", "(LBodySolids$Body;)V"⟩
theorem d_By_addAllOf_0 : decode b_By_addAllOf 0 = .ok (.iconst 0, 1) := by decide +kernel
theorem d_By_addAllOf_1 : decode b_By_addAllOf 1 = .ok (.istore_n 2, 1) := by decide +kernel
theorem d_By_addAllOf_2 : decode b_By_addAllOf 2 = .ok (.iload_n 2, 1) := by decide +kernel
theorem d_By_addAllOf_3 : decode b_By_addAllOf 3 = .ok (.aload_n 1, 1) := by decide +kernel
theorem d_By_addAllOf_4 : decode b_By_addAllOf 4 = .ok (.getfield 12, 3) := by decide +kernel
theorem d_By_addAllOf_7 : decode b_By_addAllOf 7 = .ok (.invokevirtual 22, 3) := by decide +kernel
theorem d_By_addAllOf_10 : decode b_By_addAllOf 10 = .ok (.if_icmp .ge 28, 3) := by decide +kernel
theorem d_By_addAllOf_13 : decode b_By_addAllOf 13 = .ok (.aload_n 0, 1) := by decide +kernel
theorem d_By_addAllOf_14 : decode b_By_addAllOf 14 = .ok (.getfield 12, 3) := by decide +kernel
theorem d_By_addAllOf_17 : decode b_By_addAllOf 17 = .ok (.aload_n 1, 1) := by decide +kernel
theorem d_By_addAllOf_18 : decode b_By_addAllOf 18 = .ok (.getfield 12, 3) := by decide +kernel
theorem d_By_addAllOf_21 : decode b_By_addAllOf 21 = .ok (.iload_n 2, 1) := by decide +kernel
theorem d_By_addAllOf_22 : decode b_By_addAllOf 22 = .ok (.invokevirtual 30, 3) := by decide +kernel
theorem d_By_addAllOf_25 : decode b_By_addAllOf 25 = .ok (.checkcast 34, 3) := by decide +kernel
theorem d_By_addAllOf_28 : decode b_By_addAllOf 28 = .ok (.invokevirtual 26, 3) := by decide +kernel
theorem d_By_addAllOf_31 : decode b_By_addAllOf 31 = .ok (.pop, 1) := by decide +kernel
theorem d_By_addAllOf_32 : decode b_By_addAllOf 32 = .ok (.iinc 2 1, 3) := by decide +kernel
theorem d_By_addAllOf_35 : decode b_By_addAllOf 35 = .ok (.goto (-33), 3) := by decide +kernel
theorem d_By_addAllOf_38 : decode b_By_addAllOf 38 = .ok (.aload_n 0, 1) := by decide +kernel
theorem d_By_addAllOf_39 : decode b_By_addAllOf 39 = .ok (.dup, 1) := by decide +kernel
theorem d_By_addAllOf_40 : decode b_By_addAllOf 40 = .ok (.getfield 18, 3) := by decide +kernel
theorem d_By_addAllOf_43 : decode b_By_addAllOf 43 = .ok (.aload_n 1, 1) := by decide +kernel
theorem d_By_addAllOf_44 : decode b_By_addAllOf 44 = .ok (.getfield 18, 3) := by decide +kernel
theorem d_By_addAllOf_47 : decode b_By_addAllOf 47 = .ok (.ladd, 1) := by decide +kernel
theorem d_By_addAllOf_48 : decode b_By_addAllOf 48 = .ok (.putfield 18, 3) := by decide +kernel
theorem d_By_addAllOf_51 : decode b_By_addAllOf 51 = .ok (.return_, 1) := by decide +kernel
abbrev rm_By_addAllOf : Room := { frames := 7, cells := 13, slots := 832, locals := 179 }
theorem ce_By_addAllOf : gCe y_By_addAllOf (.code y_By_addAllOf b_By_addAllOf 3 none) 3 1 false := gCe.code wd_632 wd_58 wd_630 (by decide) (by decide +kernel)
def f_By_addAllOf_L2 (g0 : gG) (c0 : Nat) (c1 : Nat) (K38 : gW → gX Unit) : Nat → Int32 → gW → gX Unit
  | 0, _, _ => none
  | n + 1, z2, w => (gfA w c1 4 0).bind fun v6 => (gck w v6 1).bind fun _ => gbind (f_AL_size g0 v6 w) fun v12 w => if v12 ≤ z2 then (K38 w) else ((gfA w c0 4 0).bind fun v14 => (gfA w c1 4 0).bind fun v16 => (gck w v16 1).bind fun _ => gbind (f_AL_get g0 v16 z2 w) fun v22 w => (gck w v22 3).bind fun _ => (gck w v14 1).bind fun _ => gbind (f_AL_add g0 v14 v22 w) fun v29 w => f_By_addAllOf_L2 g0 c0 c1 K38 n (z2 + 1) w)
def f_By_addAllOf (g0 : gG) (a0 : Nat) (a1 : Nat) (w : gW) : gX Unit := gjoin (fun K38 => f_By_addAllOf_L2 g0 a0 a1 K38 13 0 w) (fun (w : gW) => (gfJ w a0 4 1).bind fun v1 => (gfJ w a1 4 1).bind fun v3 => (gp w a0 4 1 (.long (v1 + v3))).bind fun w => some (.inr (), w))
set_option maxHeartbeats 4000000 in
set_option maxRecDepth 100000 in
theorem m_By_addAllOf (l : Launch) (hst : l.stackTraces = false) (D : gD) (g0 : gG) (a0 : Nat) (a1 : Nat) (w : gW) (r : (String ⊕ Unit) × gW) (h : f_By_addAllOf g0 a0 a1 w = some r) : gMet l y_By_addAllOf (.code y_By_addAllOf b_By_addAllOf 3 none) rm_By_addAllOf D g0 [.ref a0, .ref a1] w (goV r) := by
  refine gw_ofV (by decide +kernel) (Nat.le_of_ble_eq_true rfl) ?_
  intro p e s m below meth c ls args A Q hx hb hml hown hlocks hin hnt hT hK hZ hA hret hexc hthr hI hl
  obtain ⟨H, hH⟩ : ∃ H, H = s.heap := ⟨_, rfl⟩
  rw [← hH] at hI ⊢
  obtain ⟨locs, hlocs⟩ : ∃ z : List Loc, z = [] := ⟨_, rfl⟩
  rw [← hlocs] at hI ⊢
  have hl : lv_has ls 3 [(0, .ref a0), (1, .ref a1)] := hl
  unfold f_By_addAllOf at h
  refine lv_iconst (v := 0) hx hb d_By_addAllOf_0 (by decide) ?_
  refine lv_istore_n (lv' := [(2, .int 0), (0, .ref a0), (1, .ref a1)]) hx hb d_By_addAllOf_1 rfl hl (by decide) rfl (fun ls hl => ?_)
  obtain ⟨K38, eK38, h⟩ := gj h
  have hK38 : ∀ (w : gW) (H : Heap) (locs : List Loc) (ls : Array Slot), K38 w = some r → gI D s A w H locs → lv_has ls 3 [(0, .ref a0), (1, .ref a1)] → W p l e rm_By_addAllOf s m args below meth c H locs 13 832 Q (F0 m 38 ls []) := by
    intro w H locs ls h hI hl
    have h := gk1 eK38 h
    refine lv_aload_n hx hb d_By_addAllOf_38 rfl (lv_at hl 0 rfl) ?_
    refine lv_dup hx hb d_By_addAllOf_39 rfl ?_
    obtain ⟨v1, e2, h⟩ := gb h
    refine gw_getJ hx hb hT hown hK hI (ci := 4) rfl i_4 1 (by decide) wd_239 (fun _ h9 => h9) e2 d_By_addAllOf_40 ?_
    refine lv_aload_n hx hb d_By_addAllOf_43 rfl (lv_at hl 1 rfl) ?_
    obtain ⟨v3, e4, h⟩ := gb h
    refine gw_getJ hx hb hT hown hK hI (ci := 4) rfl i_4 1 (by decide) wd_239 (fun _ h9 => h9) e4 d_By_addAllOf_44 ?_
    refine lv_ladd hx hb d_By_addAllOf_47 ?_
    obtain ⟨w, e5, h⟩ := gb h
    refine gw_put hx hb hT hown hK hI (ci := 4) rfl i_4 t_4 t_4_ok n_4 1 (by decide) wd_239 (fun _ h9 => h9) rfl (ty := .long) (by decide +kernel) rfl rfl e5 d_By_addAllOf_48 (fun H locs hI => ?_)
    exact W.widen (show 13 ≤ 13 by omega) (show 832 ≤ 832 by omega) (hret _ _ (Option.some.inj h).symm _ _ _ _ d_By_addAllOf_51 hI)
  have hL2 : ∀ (n : Nat), n ≤ 13 → ∀ (z6 : Int32) (w : gW) (H : Heap) (locs : List Loc) (ls : Array Slot), f_By_addAllOf_L2 g0 a0 a1 K38 n z6 w = some r → gI D s A w H locs → lv_has ls 3 [(0, .ref a0), (1, .ref a1), (2, .int z6)] → W p l e rm_By_addAllOf s m args below meth c H locs (13 - n * 1) (832 - n * 64) Q (F0 m 2 ls []) := by
    intro n
    induction n with
    | zero => intro hn z6 w H locs ls h hI hl; exact absurd h (by simp [f_By_addAllOf_L2])
    | succ n ih =>
      intro hn z6 w H locs ls h hI hl
      rw [f_By_addAllOf_L2] at h
      refine lv_iload_n hx hb d_By_addAllOf_2 rfl (lv_at hl 2 rfl) ?_
      refine lv_aload_n hx hb d_By_addAllOf_3 rfl (lv_at hl 1 rfl) ?_
      obtain ⟨v7, e8, h⟩ := gb h
      refine gw_getA hx hb hT hown hK hI (ci := 4) rfl i_4 0 (by decide) wd_236 (fun _ h9 => h9) e8 d_By_addAllOf_4 ?_
      obtain ⟨q11, e12, h⟩ := gb h
      obtain ⟨u9, e10⟩ := gsome h
      refine gw_callI e10 h (gw_runV (As := []) (rest := [.int z6]) hx hb hml hown hT hK hZ hA hI (ci := 1) rfl e12 (m_AL_size l hst D g0 v7 w u9 e10) ce_AL_size wd_545 wd_226 ⟨by decide, by decide⟩ rfl rfl hl.1 rfl (lv_room (Nat.le_of_ble_eq_true rfl)) d_By_addAllOf_7 ⟨(show (13 - (n + 1) * 1) + 0 ≤ 13 by omega), (show (832 - (n + 1) * 64) + 0 ≤ 832 by omega)⟩) hI hA hexc (show (13 - (n + 1) * 1) + 0 ≤ 13 by omega) (show (832 - (n + 1) * 64) + 0 ≤ 832 by omega) (fun v13 w H locs h hI => ?_)
      refine lv_icmp_ge (tgt := 38) hx hb d_By_addAllOf_10 (by decide) (fun c14 => ?_) (fun c14 => ?_)
      · skip
        have h := git c14 h
        refine W.widen (k := 13) (n := 832) (show (13 - (n + 1) * 1) ≤ 13 by omega) (show (832 - (n + 1) * 64) ≤ 832 by omega) ?_
        exact hK38 w H locs ls h hI (lv_sub hl [0, 1] rfl)
      · skip
        have h := gie c14 h
        refine lv_aload_n hx hb d_By_addAllOf_13 rfl (lv_at hl 0 rfl) ?_
        obtain ⟨v15, e16, h⟩ := gb h
        refine gw_getA hx hb hT hown hK hI (ci := 4) rfl i_4 0 (by decide) wd_236 (fun _ h9 => h9) e16 d_By_addAllOf_14 ?_
        refine lv_aload_n hx hb d_By_addAllOf_17 rfl (lv_at hl 1 rfl) ?_
        obtain ⟨v17, e18, h⟩ := gb h
        refine gw_getA hx hb hT hown hK hI (ci := 4) rfl i_4 0 (by decide) wd_236 (fun _ h9 => h9) e18 d_By_addAllOf_18 ?_
        refine lv_iload_n hx hb d_By_addAllOf_21 rfl (lv_at hl 2 rfl) ?_
        obtain ⟨q21, e22, h⟩ := gb h
        obtain ⟨u19, e20⟩ := gsome h
        refine gw_callA e20 h (gw_runV (As := [.int z6]) (rest := [.ref v15]) hx hb hml hown hT hK hZ hA hI (ci := 1) rfl e22 (m_AL_get l hst D g0 v17 z6 w u19 e20) ce_AL_get wd_633 wd_323 ⟨by decide, by decide⟩ rfl rfl hl.1 rfl (lv_room (Nat.le_of_ble_eq_true rfl)) d_By_addAllOf_22 ⟨(show (13 - (n + 1) * 1) + 0 ≤ 13 by omega), (show (832 - (n + 1) * 64) + 0 ≤ 832 by omega)⟩) hI hA hexc (show (13 - (n + 1) * 1) + 0 ≤ 13 by omega) (show (832 - (n + 1) * 64) + 0 ≤ 832 by omega) (fun v23 w H locs h hI => ?_)
        obtain ⟨q25, e24, h⟩ := gb h
        refine gw_cast hx hb hT hown hK hI wd_634 (ci := 3) rfl wd_1124 e24 d_By_addAllOf_25 ?_
        obtain ⟨q28, e29, h⟩ := gb h
        obtain ⟨u26, e27⟩ := gsome h
        refine gw_callI e27 h (gw_runV (As := [.ref v23]) (rest := []) hx hb hml hown hT hK hZ hA hI (ci := 1) rfl e29 (m_AL_add l hst D g0 v15 v23 w u26 e27) ce_AL_add wd_559 wd_252 ⟨by decide, by decide⟩ rfl rfl hl.1 rfl (lv_room (Nat.le_of_ble_eq_true rfl)) d_By_addAllOf_28 ⟨(show (13 - (n + 1) * 1) + 1 ≤ 13 by omega), (show (832 - (n + 1) * 64) + 64 ≤ 832 by omega)⟩) hI hA hexc (show (13 - (n + 1) * 1) + 1 ≤ 13 by omega) (show (832 - (n + 1) * 64) + 64 ≤ 832 by omega) (fun v30 w H locs h hI => ?_)
        refine W.widen (k := ((13 - (n + 1) * 1) + 1)) (n := ((832 - (n + 1) * 64) + 64)) (show (13 - (n + 1) * 1) + 1 ≤ ((13 - (n + 1) * 1) + 1) by omega) (show (832 - (n + 1) * 64) + 64 ≤ ((832 - (n + 1) * 64) + 64) by omega) ?_
        refine lv_pop hx hb d_By_addAllOf_31 rfl ?_
        refine lv_iinc (v := z6 + 1) (lv' := [(2, .int (z6 + 1)), (0, .ref a0), (1, .ref a1)]) hx hb d_By_addAllOf_32 hl (k := 2) rfl rfl (by decide) rfl (fun ls hl => ?_)
        refine lv_goto (tgt := 2) hx hb d_By_addAllOf_35 (by decide) ?_
        refine W.widen (k := (13 - n * 1)) (n := (832 - n * 64)) (show ((13 - (n + 1) * 1) + 1) ≤ (13 - n * 1) by omega) (show ((832 - (n + 1) * 64) + 64) ≤ (832 - n * 64) by omega) ?_
        exact ih (by omega) _ w H locs ls h hI (lv_sub hl [1, 2, 0] rfl)
  refine W.widen (k := (13 - 13 * 1)) (n := (832 - 13 * 64)) (show 0 ≤ (13 - 13 * 1) by omega) (show 0 ≤ (832 - 13 * 64) by omega) ?_
  exact hL2 13 (Nat.le_refl _) _ w H locs ls h hI (lv_sub hl [1, 2, 0] rfl)

abbrev b_B_join : ByteArray := prog_1_method_8_code
def y_B_join : MethodName := ⟨"BodySolids", "join", "(II)I"⟩
theorem d_B_join_0 : decode b_B_join 0 = .ok (.aload_n 0, 1) := by decide +kernel
theorem d_B_join_1 : decode b_B_join 1 = .ok (.iload_n 1, 1) := by decide +kernel
theorem d_B_join_2 : decode b_B_join 2 = .ok (.invokevirtual 79, 3) := by decide +kernel
theorem d_B_join_5 : decode b_B_join 5 = .ok (.astore_n 3, 1) := by decide +kernel
theorem d_B_join_6 : decode b_B_join 6 = .ok (.aload_n 0, 1) := by decide +kernel
theorem d_B_join_7 : decode b_B_join 7 = .ok (.iload_n 2, 1) := by decide +kernel
theorem d_B_join_8 : decode b_B_join 8 = .ok (.invokevirtual 79, 3) := by decide +kernel
theorem d_B_join_11 : decode b_B_join 11 = .ok (.astore 4, 2) := by decide +kernel
theorem d_B_join_13 : decode b_B_join 13 = .ok (.aload_n 0, 1) := by decide +kernel
theorem d_B_join_14 : decode b_B_join 14 = .ok (.getfield 27, 3) := by decide +kernel
theorem d_B_join_17 : decode b_B_join 17 = .ok (.invokevirtual 68, 3) := by decide +kernel
theorem d_B_join_20 : decode b_B_join 20 = .ok (.bipush 30, 2) := by decide +kernel
theorem d_B_join_22 : decode b_B_join 22 = .ok (.if_icmp .ge 24, 3) := by decide +kernel
theorem d_B_join_25 : decode b_B_join 25 = .ok (.aload_n 3, 1) := by decide +kernel
theorem d_B_join_26 : decode b_B_join 26 = .ok (.getfield 154, 3) := by decide +kernel
theorem d_B_join_29 : decode b_B_join 29 = .ok (.invokevirtual 68, 3) := by decide +kernel
theorem d_B_join_32 : decode b_B_join 32 = .ok (.aload 4, 2) := by decide +kernel
theorem d_B_join_34 : decode b_B_join 34 = .ok (.getfield 154, 3) := by decide +kernel
theorem d_B_join_37 : decode b_B_join 37 = .ok (.invokevirtual 68, 3) := by decide +kernel
theorem d_B_join_40 : decode b_B_join 40 = .ok (.iadd, 1) := by decide +kernel
theorem d_B_join_41 : decode b_B_join 41 = .ok (.bipush 12, 2) := by decide +kernel
theorem d_B_join_43 : decode b_B_join 43 = .ok (.if_icmp .le 5, 3) := by decide +kernel
theorem d_B_join_46 : decode b_B_join 46 = .ok (.iconst (-1), 1) := by decide +kernel
theorem d_B_join_47 : decode b_B_join 47 = .ok (.ireturn, 1) := by decide +kernel
theorem d_B_join_48 : decode b_B_join 48 = .ok (.new 72, 3) := by decide +kernel
theorem d_B_join_51 : decode b_B_join 51 = .ok (.dup, 1) := by decide +kernel
theorem d_B_join_52 : decode b_B_join 52 = .ok (.invokespecial 74, 3) := by decide +kernel
theorem d_B_join_55 : decode b_B_join 55 = .ok (.astore 5, 2) := by decide +kernel
theorem d_B_join_57 : decode b_B_join 57 = .ok (.aload 5, 2) := by decide +kernel
theorem d_B_join_59 : decode b_B_join 59 = .ok (.aload_n 3, 1) := by decide +kernel
theorem d_B_join_60 : decode b_B_join 60 = .ok (.invokevirtual 157, 3) := by decide +kernel
theorem d_B_join_63 : decode b_B_join 63 = .ok (.aload 5, 2) := by decide +kernel
theorem d_B_join_65 : decode b_B_join 65 = .ok (.aload 4, 2) := by decide +kernel
theorem d_B_join_67 : decode b_B_join 67 = .ok (.invokevirtual 157, 3) := by decide +kernel
theorem d_B_join_70 : decode b_B_join 70 = .ok (.aload_n 0, 1) := by decide +kernel
theorem d_B_join_71 : decode b_B_join 71 = .ok (.aload 5, 2) := by decide +kernel
theorem d_B_join_73 : decode b_B_join 73 = .ok (.invokevirtual 75, 3) := by decide +kernel
theorem d_B_join_76 : decode b_B_join 76 = .ok (.ireturn, 1) := by decide +kernel
abbrev rm_B_join : Room := { frames := 9, cells := 31, slots := 1745, locals := 201 }
theorem ce_B_join : gCe y_B_join (.code y_B_join b_B_join 6 (some .int)) 6 2 false := gCe.code wd_628 wd_49 wd_626 (by decide) (by decide +kernel)
def f_B_join (g0 : gG) (a0 : Nat) (p1 : Int32) (p2 : Int32) (w : gW) : gX Int32 := (gck w a0 0).bind fun _ => gbind (f_B_bodyAt g0 a0 p1 w) fun v5 w => (gck w a0 0).bind fun _ => gbind (f_B_bodyAt g0 a0 p2 w) fun v10 w => (gfA w a0 0 1).bind fun v11 => (gck w v11 1).bind fun _ => gbind (f_AL_size g0 v11 w) fun v17 w => gjoin (fun K46 => if 30 ≤ v17 then (K46 w) else ((gfA w v5 4 0).bind fun v19 => (gck w v19 1).bind fun _ => gbind (f_AL_size g0 v19 w) fun v25 w => (gfA w v10 4 0).bind fun v26 => (gck w v26 1).bind fun _ => gbind (f_AL_size g0 v26 w) fun v32 w => if (v25 + v32) ≤ 12 then (gb2f (gnw w 4 [.null, .long 0]) fun o34 w => gbind (f_By_init g0 o34 w) fun v38 w => (gck w o34 4).bind fun _ => gbind (f_By_addAllOf g0 o34 v5 w) fun v43 w => (gck w o34 4).bind fun _ => gbind (f_By_addAllOf g0 o34 v10 w) fun v48 w => (gck w a0 0).bind fun _ => gbind (f_B_addBody g0 a0 o34 w) fun v53 w => some (.inr v53, w)) else (K46 w))) (fun (w : gW) => some (.inr (-1), w))
set_option maxHeartbeats 4000000 in
set_option maxRecDepth 100000 in
theorem m_B_join (l : Launch) (hst : l.stackTraces = false) (D : gD) (g0 : gG) (a0 : Nat) (p1 : Int32) (p2 : Int32) (w : gW) (r : (String ⊕ Int32) × gW) (h : f_B_join g0 a0 p1 p2 w = some r) : gMet l y_B_join (.code y_B_join b_B_join 6 (some .int)) rm_B_join D g0 [.ref a0, .int p1, .int p2] w (goI r) := by
  refine gw_ofI (by decide +kernel) (Nat.le_of_ble_eq_true rfl) ?_
  intro p e s m below meth c ls args A Q hx hb hml hown hlocks hin hnt hT hK hZ hA hret hexc hthr hI hl
  obtain ⟨H, hH⟩ : ∃ H, H = s.heap := ⟨_, rfl⟩
  rw [← hH] at hI ⊢
  obtain ⟨locs, hlocs⟩ : ∃ z : List Loc, z = [] := ⟨_, rfl⟩
  rw [← hlocs] at hI ⊢
  have hl : lv_has ls 6 [(0, .ref a0), (1, .int p1), (2, .int p2)] := hl
  unfold f_B_join at h
  refine lv_aload_n hx hb d_B_join_0 rfl (lv_at hl 0 rfl) ?_
  refine lv_iload_n hx hb d_B_join_1 rfl (lv_at hl 1 rfl) ?_
  obtain ⟨q3, e4, h⟩ := gb h
  obtain ⟨u1, e2⟩ := gsome h
  refine gw_callA e2 h (gw_runV (As := [.int p1]) (rest := []) hx hb hml hown hT hK hZ hA hI (ci := 0) rfl e4 (m_B_bodyAt l hst D g0 a0 p1 w u1 e2) ce_B_bodyAt wd_436 wd_7 ⟨by decide, by decide⟩ rfl rfl hl.1 rfl (lv_room (Nat.le_of_ble_eq_true rfl)) d_B_join_2 ⟨(show 0 + 1 ≤ 31 by omega), (show 0 + 6 ≤ 1745 by omega)⟩) hI hA hexc (show 0 + 1 ≤ 31 by omega) (show 0 + 6 ≤ 1745 by omega) (fun v5 w H locs h hI => ?_)
  refine W.widen (k := 1) (n := 6) (show 0 + 1 ≤ 1 by omega) (show 0 + 6 ≤ 6 by omega) ?_
  refine lv_astore_n (lv' := [(3, .ref v5), (0, .ref a0), (1, .int p1), (2, .int p2)]) hx hb d_B_join_5 rfl hl (by decide) rfl (fun ls hl => ?_)
  refine lv_aload_n hx hb d_B_join_6 rfl (lv_at hl 1 rfl) ?_
  refine lv_iload_n hx hb d_B_join_7 rfl (lv_at hl 3 rfl) ?_
  obtain ⟨q8, e9, h⟩ := gb h
  obtain ⟨u6, e7⟩ := gsome h
  refine gw_callA e7 h (gw_runV (As := [.int p2]) (rest := []) hx hb hml hown hT hK hZ hA hI (ci := 0) rfl e9 (m_B_bodyAt l hst D g0 a0 p2 w u6 e7) ce_B_bodyAt wd_436 wd_7 ⟨by decide, by decide⟩ rfl rfl hl.1 rfl (lv_room (Nat.le_of_ble_eq_true rfl)) d_B_join_8 ⟨(show 1 + 1 ≤ 31 by omega), (show 6 + 6 ≤ 1745 by omega)⟩) hI hA hexc (show 1 + 1 ≤ 31 by omega) (show 6 + 6 ≤ 1745 by omega) (fun v10 w H locs h hI => ?_)
  refine W.widen (k := 2) (n := 12) (show 1 + 1 ≤ 2 by omega) (show 6 + 6 ≤ 12 by omega) ?_
  refine lv_astore (lv' := [(4, .ref v10), (3, .ref v5), (0, .ref a0), (1, .int p1), (2, .int p2)]) hx hb d_B_join_11 hl (by decide) rfl (fun ls hl => ?_)
  refine lv_aload_n hx hb d_B_join_13 rfl (lv_at hl 2 rfl) ?_
  obtain ⟨v11, e12, h⟩ := gb h
  refine gw_getA hx hb hT hown hK hI (ci := 0) rfl i_0 1 (by decide) wd_190 (fun _ h9 => h9) e12 d_B_join_14 ?_
  obtain ⟨q15, e16, h⟩ := gb h
  obtain ⟨u13, e14⟩ := gsome h
  refine gw_callI e14 h (gw_runV (As := []) (rest := []) hx hb hml hown hT hK hZ hA hI (ci := 1) rfl e16 (m_AL_size l hst D g0 v11 w u13 e14) ce_AL_size wd_224 wd_226 ⟨by decide, by decide⟩ rfl rfl hl.1 rfl (lv_room (Nat.le_of_ble_eq_true rfl)) d_B_join_17 ⟨(show 2 + 0 ≤ 31 by omega), (show 12 + 0 ≤ 1745 by omega)⟩) hI hA hexc (show 2 + 0 ≤ 31 by omega) (show 12 + 0 ≤ 1745 by omega) (fun v17 w H locs h hI => ?_)
  refine lv_bipush (v := 30) hx hb d_B_join_20 (by decide) ?_
  obtain ⟨K46, eK46, h⟩ := gj h
  have hK46 : ∀ (w : gW) (H : Heap) (locs : List Loc) (ls : Array Slot), K46 w = some r → gI D s A w H locs → lv_has ls 6 [] → W p l e rm_B_join s m args below meth c H locs 2 12 Q (F0 m 46 ls []) := by
    intro w H locs ls h hI hl
    have h := gk1 eK46 h
    refine lv_iconst (v := -1) hx hb d_B_join_46 (by decide) ?_
    exact W.widen (show 2 ≤ 31 by omega) (show 12 ≤ 1745 by omega) (hret _ _ (Option.some.inj h).symm _ _ _ _ d_B_join_47 hI)
  refine lv_icmp_ge (tgt := 46) hx hb d_B_join_22 (by decide) (fun c18 => ?_) (fun c18 => ?_)
  · skip
    have h := git c18 h
    exact hK46 w H locs ls h hI (lv_sub hl [] rfl)
  · skip
    have h := gie c18 h
    refine lv_aload_n hx hb d_B_join_25 rfl (lv_at hl 1 rfl) ?_
    obtain ⟨v19, e20, h⟩ := gb h
    refine gw_getA hx hb hT hown hK hI (ci := 4) rfl i_4 0 (by decide) wd_238 (fun _ h9 => h9) e20 d_B_join_26 ?_
    obtain ⟨q23, e24, h⟩ := gb h
    obtain ⟨u21, e22⟩ := gsome h
    refine gw_callI e22 h (gw_runV (As := []) (rest := []) hx hb hml hown hT hK hZ hA hI (ci := 1) rfl e24 (m_AL_size l hst D g0 v19 w u21 e22) ce_AL_size wd_224 wd_226 ⟨by decide, by decide⟩ rfl rfl hl.1 rfl (lv_room (Nat.le_of_ble_eq_true rfl)) d_B_join_29 ⟨(show 2 + 0 ≤ 31 by omega), (show 12 + 0 ≤ 1745 by omega)⟩) hI hA hexc (show 2 + 0 ≤ 31 by omega) (show 12 + 0 ≤ 1745 by omega) (fun v25 w H locs h hI => ?_)
    refine lv_aload hx hb d_B_join_32 (lv_at hl 0 rfl) ?_
    obtain ⟨v26, e27, h⟩ := gb h
    refine gw_getA hx hb hT hown hK hI (ci := 4) rfl i_4 0 (by decide) wd_238 (fun _ h9 => h9) e27 d_B_join_34 ?_
    obtain ⟨q30, e31, h⟩ := gb h
    obtain ⟨u28, e29⟩ := gsome h
    refine gw_callI e29 h (gw_runV (As := []) (rest := [.int v25]) hx hb hml hown hT hK hZ hA hI (ci := 1) rfl e31 (m_AL_size l hst D g0 v26 w u28 e29) ce_AL_size wd_224 wd_226 ⟨by decide, by decide⟩ rfl rfl hl.1 rfl (lv_room (Nat.le_of_ble_eq_true rfl)) d_B_join_37 ⟨(show 2 + 0 ≤ 31 by omega), (show 12 + 0 ≤ 1745 by omega)⟩) hI hA hexc (show 2 + 0 ≤ 31 by omega) (show 12 + 0 ≤ 1745 by omega) (fun v32 w H locs h hI => ?_)
    refine lv_iadd hx hb d_B_join_40 ?_
    refine lv_bipush (v := 12) hx hb d_B_join_41 (by decide) ?_
    refine lv_icmp_le (tgt := 48) hx hb d_B_join_43 (by decide) (fun c33 => ?_) (fun c33 => ?_)
    · skip
      have h := git c33 h
      obtain ⟨o34, w, e35, h⟩ := gb2 h
      refine gw_new hx hb hT hown hK hI hA (ci := 4) rfl i_4 t_4 t_4_ok wd_228 wd_229 wd_58 (fs := [.null, .long 0]) df_4 e35 (show 2 + 1 ≤ 31 by omega) (show 12 + 2 ≤ 1745 by omega) d_B_join_48 (fun H hI => ?_)
      refine W.widen (k := 3) (n := 14) (show 2 + 1 ≤ 3 by omega) (show 12 + 2 ≤ 14 by omega) ?_
      refine lv_dup hx hb d_B_join_51 rfl ?_
      obtain ⟨u36, e37⟩ := gsome h
      refine gw_callV e37 h (gw_runIN (As := []) (rest := [.ref o34]) hx hb hml hown hT hK hZ hA hI (m_By_init l hst D g0 o34 w u36 e37) ce_By_init wd_230 rfl ⟨by decide, by decide⟩ rfl rfl hl.1 rfl (lv_room (Nat.le_of_ble_eq_true rfl)) d_B_join_52 ⟨(show 3 + 1 ≤ 31 by omega), (show 14 + 3 ≤ 1745 by omega)⟩) hI hA hexc (show 3 + 1 ≤ 31 by omega) (show 14 + 3 ≤ 1745 by omega) (fun v38 w H locs h hI => ?_)
      refine W.widen (k := 4) (n := 17) (show 3 + 1 ≤ 4 by omega) (show 14 + 3 ≤ 17 by omega) ?_
      refine lv_astore (lv' := [(5, .ref o34), (4, .ref v10), (3, .ref v5), (0, .ref a0), (1, .int p1), (2, .int p2)]) hx hb d_B_join_55 hl (by decide) rfl (fun ls hl => ?_)
      refine lv_aload hx hb d_B_join_57 (lv_at hl 0 rfl) ?_
      refine lv_aload_n hx hb d_B_join_59 rfl (lv_at hl 2 rfl) ?_
      obtain ⟨q41, e42, h⟩ := gb h
      obtain ⟨u39, e40⟩ := gsome h
      refine gw_callV e40 h (gw_runV (As := [.ref v5]) (rest := []) hx hb hml hown hT hK hZ hA hI (ci := 4) rfl e42 (m_By_addAllOf l hst D g0 o34 v5 w u39 e40) ce_By_addAllOf wd_629 wd_631 ⟨by decide, by decide⟩ rfl rfl hl.1 rfl (lv_room (Nat.le_of_ble_eq_true rfl)) d_B_join_60 ⟨(show 4 + 13 ≤ 31 by omega), (show 17 + 832 ≤ 1745 by omega)⟩) hI hA hexc (show 4 + 13 ≤ 31 by omega) (show 17 + 832 ≤ 1745 by omega) (fun v43 w H locs h hI => ?_)
      refine W.widen (k := 17) (n := 849) (show 4 + 13 ≤ 17 by omega) (show 17 + 832 ≤ 849 by omega) ?_
      refine lv_aload hx hb d_B_join_63 (lv_at hl 0 rfl) ?_
      refine lv_aload hx hb d_B_join_65 (lv_at hl 1 rfl) ?_
      obtain ⟨q46, e47, h⟩ := gb h
      obtain ⟨u44, e45⟩ := gsome h
      refine gw_callV e45 h (gw_runV (As := [.ref v10]) (rest := []) hx hb hml hown hT hK hZ hA hI (ci := 4) rfl e47 (m_By_addAllOf l hst D g0 o34 v10 w u44 e45) ce_By_addAllOf wd_629 wd_631 ⟨by decide, by decide⟩ rfl rfl hl.1 rfl (lv_room (Nat.le_of_ble_eq_true rfl)) d_B_join_67 ⟨(show 17 + 13 ≤ 31 by omega), (show 849 + 832 ≤ 1745 by omega)⟩) hI hA hexc (show 17 + 13 ≤ 31 by omega) (show 849 + 832 ≤ 1745 by omega) (fun v48 w H locs h hI => ?_)
      refine W.widen (k := 30) (n := 1681) (show 17 + 13 ≤ 30 by omega) (show 849 + 832 ≤ 1681 by omega) ?_
      refine lv_aload_n hx hb d_B_join_70 rfl (lv_at hl 3 rfl) ?_
      refine lv_aload hx hb d_B_join_71 (lv_at hl 0 rfl) ?_
      obtain ⟨q51, e52, h⟩ := gb h
      obtain ⟨u49, e50⟩ := gsome h
      refine gw_callI e50 h (gw_runV (As := [.ref o34]) (rest := []) hx hb hml hown hT hK hZ hA hI (ci := 0) rfl e52 (m_B_addBody l hst D g0 a0 o34 w u49 e50) ce_B_addBody wd_246 wd_0 ⟨by decide, by decide⟩ rfl rfl hl.1 rfl (lv_room (Nat.le_of_ble_eq_true rfl)) d_B_join_73 ⟨(show 30 + 1 ≤ 31 by omega), (show 1681 + 64 ≤ 1745 by omega)⟩) hI hA hexc (show 30 + 1 ≤ 31 by omega) (show 1681 + 64 ≤ 1745 by omega) (fun v53 w H locs h hI => ?_)
      refine W.widen (k := 31) (n := 1745) (show 30 + 1 ≤ 31 by omega) (show 1681 + 64 ≤ 1745 by omega) ?_
      exact W.widen (show 31 ≤ 31 by omega) (show 1745 ≤ 1745 by omega) (hret _ _ (Option.some.inj h).symm _ _ _ _ d_B_join_76 hI)
    · skip
      have h := gie c33 h
      exact hK46 w H locs ls h hI (lv_sub hl [] rfl)
end
section
abbrev b_W_join : ByteArray := method_8_code
def y_W_join : MethodName := ⟨"BodySolidsLaw", "join", "(LBodySolids;II[J)I"⟩
theorem d_W_join_0 : decode b_W_join 0 = .ok (.aload_n 3, 1) := by decide +kernel
theorem d_W_join_1 : decode b_W_join 1 = .ok (.iconst 0, 1) := by decide +kernel
theorem d_W_join_2 : decode b_W_join 2 = .ok (.aload_n 0, 1) := by decide +kernel
theorem d_W_join_3 : decode b_W_join 3 = .ok (.iload_n 1, 1) := by decide +kernel
theorem d_W_join_4 : decode b_W_join 4 = .ok (.iload_n 2, 1) := by decide +kernel
theorem d_W_join_5 : decode b_W_join 5 = .ok (.invokevirtual 33, 3) := by decide +kernel
theorem d_W_join_8 : decode b_W_join 8 = .ok (.i2l, 1) := by decide +kernel
theorem d_W_join_9 : decode b_W_join 9 = .ok (.lastore, 1) := by decide +kernel
theorem d_W_join_10 : decode b_W_join 10 = .ok (.goto 7, 3) := by decide +kernel
theorem d_W_join_13 : decode b_W_join 13 = .ok (.astore 4, 2) := by decide +kernel
theorem d_W_join_15 : decode b_W_join 15 = .ok (.iconst 1, 1) := by decide +kernel
theorem d_W_join_16 : decode b_W_join 16 = .ok (.ireturn, 1) := by decide +kernel
theorem d_W_join_17 : decode b_W_join 17 = .ok (.iconst 0, 1) := by decide +kernel
theorem d_W_join_18 : decode b_W_join 18 = .ok (.ireturn, 1) := by decide +kernel
abbrev rm_W_join : Room := { frames := 10, cells := 31, slots := 1745, locals := 226 }
theorem ce_W_join : gCe y_W_join (.codeWith y_W_join b_W_join 5 (some .int) [(0, 10, 13, 13)]) 5 4 true := gCe.codeWith wd_624 wd_48 wd_623 (by decide) (by decide +kernel)
def f_W_join (g0 : gG) (a0 : Nat) (p1 : Int32) (p2 : Int32) (a3 : Nat) (w : gW) : gX Int32 := (gck w a0 0).bind fun _ => gtry (f_B_join g0 a0 p1 p2 w) (fun E w => if E = "java/lang/IndexOutOfBoundsException" then some (.inr 1, w) else none) fun v5 w => (gsJ w a3 0 (v5.toInt64)).bind fun w => some (.inr 0, w)
set_option maxHeartbeats 4000000 in
set_option maxRecDepth 100000 in
theorem m_W_join (l : Launch) (hst : l.stackTraces = false) (D : gD) (g0 : gG) (a0 : Nat) (p1 : Int32) (p2 : Int32) (a3 : Nat) (w : gW) (r : (String ⊕ Int32) × gW) (h : f_W_join g0 a0 p1 p2 a3 w = some r) : gMet l y_W_join (.codeWith y_W_join b_W_join 5 (some .int) [(0, 10, 13, 13)]) rm_W_join D g0 [.ref a0, .int p1, .int p2, .ref a3] w (goI r) := by
  refine gw_ofW (by decide +kernel) (Nat.le_of_ble_eq_true rfl) ?_
  intro p e s m below meth c ls args A Q hx hb hml hown htab hT hK hZ hA hret hI hl
  obtain ⟨H, hH⟩ : ∃ H, H = s.heap := ⟨_, rfl⟩
  rw [← hH] at hI ⊢
  obtain ⟨locs, hlocs⟩ : ∃ z : List Loc, z = [] := ⟨_, rfl⟩
  rw [← hlocs] at hI ⊢
  have hl : lv_has ls 5 [(0, .ref a0), (1, .int p1), (2, .int p2), (3, .ref a3)] := hl
  unfold f_W_join at h
  refine lv_aload_n hx hb d_W_join_0 rfl (lv_at hl 3 rfl) ?_
  refine lv_iconst (v := 0) hx hb d_W_join_1 (by decide) ?_
  refine lv_aload_n hx hb d_W_join_2 rfl (lv_at hl 0 rfl) ?_
  refine lv_iload_n hx hb d_W_join_3 rfl (lv_at hl 1 rfl) ?_
  refine lv_iload_n hx hb d_W_join_4 rfl (lv_at hl 2 rfl) ?_
  obtain ⟨q3, e4, h⟩ := gb h
  obtain ⟨u1, e2⟩ := gsomeT h
  refine gw_tryI e2 h (gw_runV (As := [.int p1, .int p2]) (rest := [.int 0, .ref a3]) hx hb hml hown hT hK hZ hA hI (ci := 0) rfl e4 (m_B_join l hst D g0 a0 p1 p2 w u1 e2) ce_B_join wd_625 wd_627 ⟨by decide, by decide⟩ rfl rfl hl.1 rfl (lv_room (Nat.le_of_ble_eq_true rfl)) d_W_join_5 ⟨(show 0 + 31 ≤ 31 by omega), (show 0 + 1745 ≤ 1745 by omega)⟩) hI hA (fun E w H locs q ce h hI hq hv hE => ?_) (fun v5 w H locs h hI => ?_)
  · skip
    rcases gcs h with ⟨rfl, h⟩ | ⟨-, h⟩
    · refine gw_catch1 hown hT htab wd_430 (by decide) (by decide) hq hv hE ?_
      refine lv_astore (lv' := [(4, .ref q), (0, .ref a0), (1, .int p1), (2, .int p2), (3, .ref a3)]) hx hb d_W_join_13 hl (by decide) rfl (fun ls hl => ?_)
      refine lv_iconst (v := 1) hx hb d_W_join_15 (by decide) ?_
      exact W.widen (show 31 ≤ 31 by omega) (show 1745 ≤ 1745 by omega) (hret _ _ (Option.some.inj h).symm _ _ _ _ d_W_join_16 hI)
    exact absurd h (by simp)
  refine W.widen (k := 31) (n := 1745) (show 0 + 31 ≤ 31 by omega) (show 0 + 1745 ≤ 1745 by omega) ?_
  refine lv_i2l (v := v5.toInt64) hx hb d_W_join_8 rfl ?_
  obtain ⟨w, e6, h⟩ := gb h
  refine gw_astJ hx hb hK hI e6 d_W_join_9 (fun H locs hI => ?_)
  refine lv_goto (tgt := 17) hx hb d_W_join_10 (by decide) ?_
  refine lv_iconst (v := 0) hx hb d_W_join_17 (by decide) ?_
  exact W.widen (show 31 ≤ 31 by omega) (show 1745 ≤ 1745 by omega) (hret _ _ (Option.some.inj h).symm _ _ _ _ d_W_join_18 hI)
end
section
abbrev b_M_copy : ByteArray := prog_9_method_20_code
def y_M_copy : MethodName := ⟨"BodySolidsModel", "copy", "(II)V"⟩
theorem d_M_copy_0 : decode b_M_copy 0 = .ok (.aload_n 0, 1) := by decide +kernel
theorem d_M_copy_1 : decode b_M_copy 1 = .ok (.getfield 13, 3) := by decide +kernel
theorem d_M_copy_4 : decode b_M_copy 4 = .ok (.iload_n 2, 1) := by decide +kernel
theorem d_M_copy_5 : decode b_M_copy 5 = .ok (.aload_n 0, 1) := by decide +kernel
theorem d_M_copy_6 : decode b_M_copy 6 = .ok (.getfield 13, 3) := by decide +kernel
theorem d_M_copy_9 : decode b_M_copy 9 = .ok (.iload_n 1, 1) := by decide +kernel
theorem d_M_copy_10 : decode b_M_copy 10 = .ok (.iaload, 1) := by decide +kernel
theorem d_M_copy_11 : decode b_M_copy 11 = .ok (.iastore, 1) := by decide +kernel
theorem d_M_copy_12 : decode b_M_copy 12 = .ok (.iconst 0, 1) := by decide +kernel
theorem d_M_copy_13 : decode b_M_copy 13 = .ok (.istore_n 3, 1) := by decide +kernel
theorem d_M_copy_14 : decode b_M_copy 14 = .ok (.iload_n 3, 1) := by decide +kernel
theorem d_M_copy_15 : decode b_M_copy 15 = .ok (.bipush 6, 2) := by decide +kernel
theorem d_M_copy_17 : decode b_M_copy 17 = .ok (.if_icmp .ge 31, 3) := by decide +kernel
theorem d_M_copy_20 : decode b_M_copy 20 = .ok (.aload_n 0, 1) := by decide +kernel
theorem d_M_copy_21 : decode b_M_copy 21 = .ok (.getfield 16, 3) := by decide +kernel
theorem d_M_copy_24 : decode b_M_copy 24 = .ok (.bipush 6, 2) := by decide +kernel
theorem d_M_copy_26 : decode b_M_copy 26 = .ok (.iload_n 2, 1) := by decide +kernel
theorem d_M_copy_27 : decode b_M_copy 27 = .ok (.imul, 1) := by decide +kernel
theorem d_M_copy_28 : decode b_M_copy 28 = .ok (.iload_n 3, 1) := by decide +kernel
theorem d_M_copy_29 : decode b_M_copy 29 = .ok (.iadd, 1) := by decide +kernel
theorem d_M_copy_30 : decode b_M_copy 30 = .ok (.aload_n 0, 1) := by decide +kernel
theorem d_M_copy_31 : decode b_M_copy 31 = .ok (.getfield 16, 3) := by decide +kernel
theorem d_M_copy_34 : decode b_M_copy 34 = .ok (.bipush 6, 2) := by decide +kernel
theorem d_M_copy_36 : decode b_M_copy 36 = .ok (.iload_n 1, 1) := by decide +kernel
theorem d_M_copy_37 : decode b_M_copy 37 = .ok (.imul, 1) := by decide +kernel
theorem d_M_copy_38 : decode b_M_copy 38 = .ok (.iload_n 3, 1) := by decide +kernel
theorem d_M_copy_39 : decode b_M_copy 39 = .ok (.iadd, 1) := by decide +kernel
theorem d_M_copy_40 : decode b_M_copy 40 = .ok (.laload, 1) := by decide +kernel
theorem d_M_copy_41 : decode b_M_copy 41 = .ok (.lastore, 1) := by decide +kernel
theorem d_M_copy_42 : decode b_M_copy 42 = .ok (.iinc 3 1, 3) := by decide +kernel
theorem d_M_copy_45 : decode b_M_copy 45 = .ok (.goto (-31), 3) := by decide +kernel
theorem d_M_copy_48 : decode b_M_copy 48 = .ok (.aload_n 0, 1) := by decide +kernel
theorem d_M_copy_49 : decode b_M_copy 49 = .ok (.getfield 20, 3) := by decide +kernel
theorem d_M_copy_52 : decode b_M_copy 52 = .ok (.iload_n 2, 1) := by decide +kernel
theorem d_M_copy_53 : decode b_M_copy 53 = .ok (.aload_n 0, 1) := by decide +kernel
theorem d_M_copy_54 : decode b_M_copy 54 = .ok (.getfield 20, 3) := by decide +kernel
theorem d_M_copy_57 : decode b_M_copy 57 = .ok (.iload_n 1, 1) := by decide +kernel
theorem d_M_copy_58 : decode b_M_copy 58 = .ok (.iaload, 1) := by decide +kernel
theorem d_M_copy_59 : decode b_M_copy 59 = .ok (.iastore, 1) := by decide +kernel
theorem d_M_copy_60 : decode b_M_copy 60 = .ok (.iconst 0, 1) := by decide +kernel
theorem d_M_copy_61 : decode b_M_copy 61 = .ok (.istore_n 3, 1) := by decide +kernel
theorem d_M_copy_62 : decode b_M_copy 62 = .ok (.iload_n 3, 1) := by decide +kernel
theorem d_M_copy_63 : decode b_M_copy 63 = .ok (.bipush 8, 2) := by decide +kernel
theorem d_M_copy_65 : decode b_M_copy 65 = .ok (.if_icmp .ge 53, 3) := by decide +kernel
theorem d_M_copy_68 : decode b_M_copy 68 = .ok (.aload_n 0, 1) := by decide +kernel
theorem d_M_copy_69 : decode b_M_copy 69 = .ok (.getfield 23, 3) := by decide +kernel
theorem d_M_copy_72 : decode b_M_copy 72 = .ok (.bipush 8, 2) := by decide +kernel
theorem d_M_copy_74 : decode b_M_copy 74 = .ok (.iload_n 2, 1) := by decide +kernel
theorem d_M_copy_75 : decode b_M_copy 75 = .ok (.imul, 1) := by decide +kernel
theorem d_M_copy_76 : decode b_M_copy 76 = .ok (.iload_n 3, 1) := by decide +kernel
theorem d_M_copy_77 : decode b_M_copy 77 = .ok (.iadd, 1) := by decide +kernel
theorem d_M_copy_78 : decode b_M_copy 78 = .ok (.aload_n 0, 1) := by decide +kernel
theorem d_M_copy_79 : decode b_M_copy 79 = .ok (.getfield 23, 3) := by decide +kernel
theorem d_M_copy_82 : decode b_M_copy 82 = .ok (.bipush 8, 2) := by decide +kernel
theorem d_M_copy_84 : decode b_M_copy 84 = .ok (.iload_n 1, 1) := by decide +kernel
theorem d_M_copy_85 : decode b_M_copy 85 = .ok (.imul, 1) := by decide +kernel
theorem d_M_copy_86 : decode b_M_copy 86 = .ok (.iload_n 3, 1) := by decide +kernel
theorem d_M_copy_87 : decode b_M_copy 87 = .ok (.iadd, 1) := by decide +kernel
theorem d_M_copy_88 : decode b_M_copy 88 = .ok (.laload, 1) := by decide +kernel
theorem d_M_copy_89 : decode b_M_copy 89 = .ok (.lastore, 1) := by decide +kernel
theorem d_M_copy_90 : decode b_M_copy 90 = .ok (.aload_n 0, 1) := by decide +kernel
theorem d_M_copy_91 : decode b_M_copy 91 = .ok (.getfield 26, 3) := by decide +kernel
theorem d_M_copy_94 : decode b_M_copy 94 = .ok (.bipush 8, 2) := by decide +kernel
theorem d_M_copy_96 : decode b_M_copy 96 = .ok (.iload_n 2, 1) := by decide +kernel
theorem d_M_copy_97 : decode b_M_copy 97 = .ok (.imul, 1) := by decide +kernel
theorem d_M_copy_98 : decode b_M_copy 98 = .ok (.iload_n 3, 1) := by decide +kernel
theorem d_M_copy_99 : decode b_M_copy 99 = .ok (.iadd, 1) := by decide +kernel
theorem d_M_copy_100 : decode b_M_copy 100 = .ok (.aload_n 0, 1) := by decide +kernel
theorem d_M_copy_101 : decode b_M_copy 101 = .ok (.getfield 26, 3) := by decide +kernel
theorem d_M_copy_104 : decode b_M_copy 104 = .ok (.bipush 8, 2) := by decide +kernel
theorem d_M_copy_106 : decode b_M_copy 106 = .ok (.iload_n 1, 1) := by decide +kernel
theorem d_M_copy_107 : decode b_M_copy 107 = .ok (.imul, 1) := by decide +kernel
theorem d_M_copy_108 : decode b_M_copy 108 = .ok (.iload_n 3, 1) := by decide +kernel
theorem d_M_copy_109 : decode b_M_copy 109 = .ok (.iadd, 1) := by decide +kernel
theorem d_M_copy_110 : decode b_M_copy 110 = .ok (.laload, 1) := by decide +kernel
theorem d_M_copy_111 : decode b_M_copy 111 = .ok (.lastore, 1) := by decide +kernel
theorem d_M_copy_112 : decode b_M_copy 112 = .ok (.iinc 3 1, 3) := by decide +kernel
theorem d_M_copy_115 : decode b_M_copy 115 = .ok (.goto (-53), 3) := by decide +kernel
theorem d_M_copy_118 : decode b_M_copy 118 = .ok (.return_, 1) := by decide +kernel
abbrev rm_M_copy : Room := { frames := 0, cells := 0, slots := 0, locals := 0 }
theorem ce_M_copy : gCe y_M_copy (.code y_M_copy b_M_copy 4 none) 4 2 false := gCe.code wd_939 wd_57 wd_938 (by decide) (by decide +kernel)
def f_M_copy_L62 (g0 : gG) (c0 : Nat) (c1 : Int32) (c2 : Int32) (K118 : gW → gX Unit) : Nat → Int32 → gW → gX Unit
  | 0, _, _ => none
  | n + 1, z3, w => if 8 ≤ z3 then (K118 w) else ((gfA w c0 7 7).bind fun v16 => (gfA w c0 7 7).bind fun v18 => (gaJ w v18 ((8 * c1) + z3)).bind fun v20 => (gsJ w v16 ((8 * c2) + z3) v20).bind fun w => (gfA w c0 7 8).bind fun v23 => (gfA w c0 7 8).bind fun v25 => (gaJ w v25 ((8 * c1) + z3)).bind fun v27 => (gsJ w v23 ((8 * c2) + z3) v27).bind fun w => f_M_copy_L62 g0 c0 c1 c2 K118 n (z3 + 1) w)
def f_M_copy_L14 (g0 : gG) (c0 : Nat) (c1 : Int32) (c2 : Int32) (K48 : gW → gX Unit) : Nat → Int32 → gW → gX Unit
  | 0, _, _ => none
  | n + 1, z3, w => if 6 ≤ z3 then (K48 w) else ((gfA w c0 7 5).bind fun v32 => (gfA w c0 7 5).bind fun v34 => (gaJ w v34 ((6 * c1) + z3)).bind fun v36 => (gsJ w v32 ((6 * c2) + z3) v36).bind fun w => f_M_copy_L14 g0 c0 c1 c2 K48 n (z3 + 1) w)
def f_M_copy (g0 : gG) (a0 : Nat) (p1 : Int32) (p2 : Int32) (w : gW) : gX Unit := (gfA w a0 7 4).bind fun v1 => (gfA w a0 7 4).bind fun v3 => (gaI w v3 p1).bind fun v5 => (gsI w v1 p2 v5).bind fun w => gjoin (fun K48 => f_M_copy_L14 g0 a0 p1 p2 K48 64 0 w) (fun (w : gW) => (gfA w a0 7 6).bind fun v8 => (gfA w a0 7 6).bind fun v10 => (gaI w v10 p1).bind fun v12 => (gsI w v8 p2 v12).bind fun w => gjoin (fun K118 => f_M_copy_L62 g0 a0 p1 p2 K118 64 0 w) (fun (w : gW) => some (.inr (), w)))
set_option maxHeartbeats 4000000 in
set_option maxRecDepth 100000 in
theorem m_M_copy (l : Launch) (hst : l.stackTraces = false) (D : gD) (g0 : gG) (a0 : Nat) (p1 : Int32) (p2 : Int32) (w : gW) (r : (String ⊕ Unit) × gW) (h : f_M_copy g0 a0 p1 p2 w = some r) : gMet l y_M_copy (.code y_M_copy b_M_copy 4 none) rm_M_copy D g0 [.ref a0, .int p1, .int p2] w (goV r) := by
  refine gw_ofV (by decide +kernel) (Nat.le_of_ble_eq_true rfl) ?_
  intro p e s m below meth c ls args A Q hx hb hml hown hlocks hin hnt hT hK hZ hA hret hexc hthr hI hl
  obtain ⟨H, hH⟩ : ∃ H, H = s.heap := ⟨_, rfl⟩
  rw [← hH] at hI ⊢
  obtain ⟨locs, hlocs⟩ : ∃ z : List Loc, z = [] := ⟨_, rfl⟩
  rw [← hlocs] at hI ⊢
  have hl : lv_has ls 4 [(0, .ref a0), (1, .int p1), (2, .int p2)] := hl
  unfold f_M_copy at h
  refine lv_aload_n hx hb d_M_copy_0 rfl (lv_at hl 0 rfl) ?_
  obtain ⟨v1, e2, h⟩ := gb h
  refine gw_getA hx hb hT hown hK hI (ci := 7) rfl i_7 4 (by decide) wd_790 (fun _ h9 => h9) e2 d_M_copy_1 ?_
  refine lv_iload_n hx hb d_M_copy_4 rfl (lv_at hl 2 rfl) ?_
  refine lv_aload_n hx hb d_M_copy_5 rfl (lv_at hl 0 rfl) ?_
  obtain ⟨v3, e4, h⟩ := gb h
  refine gw_getA hx hb hT hown hK hI (ci := 7) rfl i_7 4 (by decide) wd_790 (fun _ h9 => h9) e4 d_M_copy_6 ?_
  refine lv_iload_n hx hb d_M_copy_9 rfl (lv_at hl 1 rfl) ?_
  obtain ⟨v5, e6, h⟩ := gb h
  refine gw_aldI hx hb hK hI e6 d_M_copy_10 ?_
  obtain ⟨w, e7, h⟩ := gb h
  refine gw_astI hx hb hK hI e7 d_M_copy_11 (fun H locs hI => ?_)
  refine lv_iconst (v := 0) hx hb d_M_copy_12 (by decide) ?_
  refine lv_istore_n (lv' := [(3, .int 0), (0, .ref a0), (1, .int p1), (2, .int p2)]) hx hb d_M_copy_13 rfl hl (by decide) rfl (fun ls hl => ?_)
  obtain ⟨K48, eK48, h⟩ := gj h
  have hK48 : ∀ (w : gW) (H : Heap) (locs : List Loc) (ls : Array Slot), K48 w = some r → gI D s A w H locs → lv_has ls 4 [(0, .ref a0), (1, .int p1), (2, .int p2)] → W p l e rm_M_copy s m args below meth c H locs 0 0 Q (F0 m 48 ls []) := by
    intro w H locs ls h hI hl
    have h := gk1 eK48 h
    refine lv_aload_n hx hb d_M_copy_48 rfl (lv_at hl 0 rfl) ?_
    obtain ⟨v8, e9, h⟩ := gb h
    refine gw_getA hx hb hT hown hK hI (ci := 7) rfl i_7 6 (by decide) wd_792 (fun _ h9 => h9) e9 d_M_copy_49 ?_
    refine lv_iload_n hx hb d_M_copy_52 rfl (lv_at hl 2 rfl) ?_
    refine lv_aload_n hx hb d_M_copy_53 rfl (lv_at hl 0 rfl) ?_
    obtain ⟨v10, e11, h⟩ := gb h
    refine gw_getA hx hb hT hown hK hI (ci := 7) rfl i_7 6 (by decide) wd_792 (fun _ h9 => h9) e11 d_M_copy_54 ?_
    refine lv_iload_n hx hb d_M_copy_57 rfl (lv_at hl 1 rfl) ?_
    obtain ⟨v12, e13, h⟩ := gb h
    refine gw_aldI hx hb hK hI e13 d_M_copy_58 ?_
    obtain ⟨w, e14, h⟩ := gb h
    refine gw_astI hx hb hK hI e14 d_M_copy_59 (fun H locs hI => ?_)
    refine lv_iconst (v := 0) hx hb d_M_copy_60 (by decide) ?_
    refine lv_istore_n (lv' := [(3, .int 0), (0, .ref a0), (1, .int p1), (2, .int p2)]) hx hb d_M_copy_61 rfl hl (by decide) rfl (fun ls hl => ?_)
    obtain ⟨K118, eK118, h⟩ := gj h
    have hK118 : ∀ (w : gW) (H : Heap) (locs : List Loc) (ls : Array Slot), K118 w = some r → gI D s A w H locs → lv_has ls 4 [] → W p l e rm_M_copy s m args below meth c H locs 0 0 Q (F0 m 118 ls []) := by
      intro w H locs ls h hI hl
      have h := gk1 eK118 h
      exact W.widen (show 0 ≤ 0 by omega) (show 0 ≤ 0 by omega) (hret _ _ (Option.some.inj h).symm _ _ _ _ d_M_copy_118 hI)
    have hL62 : ∀ (n : Nat), ∀ (z15 : Int32) (w : gW) (H : Heap) (locs : List Loc) (ls : Array Slot), f_M_copy_L62 g0 a0 p1 p2 K118 n z15 w = some r → gI D s A w H locs → lv_has ls 4 [(0, .ref a0), (1, .int p1), (2, .int p2), (3, .int z15)] → W p l e rm_M_copy s m args below meth c H locs 0 0 Q (F0 m 62 ls []) := by
      intro n
      induction n with
      | zero => intro z15 w H locs ls h hI hl; exact absurd h (by simp [f_M_copy_L62])
      | succ n ih =>
        intro z15 w H locs ls h hI hl
        rw [f_M_copy_L62] at h
        refine lv_iload_n hx hb d_M_copy_62 rfl (lv_at hl 3 rfl) ?_
        refine lv_bipush (v := 8) hx hb d_M_copy_63 (by decide) ?_
        refine lv_icmp_ge (tgt := 118) hx hb d_M_copy_65 (by decide) (fun c16 => ?_) (fun c16 => ?_)
        · skip
          have h := git c16 h
          exact hK118 w H locs ls h hI (lv_sub hl [] rfl)
        · skip
          have h := gie c16 h
          refine lv_aload_n hx hb d_M_copy_68 rfl (lv_at hl 0 rfl) ?_
          obtain ⟨v17, e18, h⟩ := gb h
          refine gw_getA hx hb hT hown hK hI (ci := 7) rfl i_7 7 (by decide) wd_793 (fun _ h9 => h9) e18 d_M_copy_69 ?_
          refine lv_bipush (v := 8) hx hb d_M_copy_72 (by decide) ?_
          refine lv_iload_n hx hb d_M_copy_74 rfl (lv_at hl 2 rfl) ?_
          refine lv_imul hx hb d_M_copy_75 ?_
          refine lv_iload_n hx hb d_M_copy_76 rfl (lv_at hl 3 rfl) ?_
          refine lv_iadd hx hb d_M_copy_77 ?_
          refine lv_aload_n hx hb d_M_copy_78 rfl (lv_at hl 0 rfl) ?_
          obtain ⟨v19, e20, h⟩ := gb h
          refine gw_getA hx hb hT hown hK hI (ci := 7) rfl i_7 7 (by decide) wd_793 (fun _ h9 => h9) e20 d_M_copy_79 ?_
          refine lv_bipush (v := 8) hx hb d_M_copy_82 (by decide) ?_
          refine lv_iload_n hx hb d_M_copy_84 rfl (lv_at hl 1 rfl) ?_
          refine lv_imul hx hb d_M_copy_85 ?_
          refine lv_iload_n hx hb d_M_copy_86 rfl (lv_at hl 3 rfl) ?_
          refine lv_iadd hx hb d_M_copy_87 ?_
          obtain ⟨v21, e22, h⟩ := gb h
          refine gw_aldJ hx hb hK hI e22 d_M_copy_88 ?_
          obtain ⟨w, e23, h⟩ := gb h
          refine gw_astJ hx hb hK hI e23 d_M_copy_89 (fun H locs hI => ?_)
          refine lv_aload_n hx hb d_M_copy_90 rfl (lv_at hl 0 rfl) ?_
          obtain ⟨v24, e25, h⟩ := gb h
          refine gw_getA hx hb hT hown hK hI (ci := 7) rfl i_7 8 (by decide) wd_794 (fun _ h9 => h9) e25 d_M_copy_91 ?_
          refine lv_bipush (v := 8) hx hb d_M_copy_94 (by decide) ?_
          refine lv_iload_n hx hb d_M_copy_96 rfl (lv_at hl 2 rfl) ?_
          refine lv_imul hx hb d_M_copy_97 ?_
          refine lv_iload_n hx hb d_M_copy_98 rfl (lv_at hl 3 rfl) ?_
          refine lv_iadd hx hb d_M_copy_99 ?_
          refine lv_aload_n hx hb d_M_copy_100 rfl (lv_at hl 0 rfl) ?_
          obtain ⟨v26, e27, h⟩ := gb h
          refine gw_getA hx hb hT hown hK hI (ci := 7) rfl i_7 8 (by decide) wd_794 (fun _ h9 => h9) e27 d_M_copy_101 ?_
          refine lv_bipush (v := 8) hx hb d_M_copy_104 (by decide) ?_
          refine lv_iload_n hx hb d_M_copy_106 rfl (lv_at hl 1 rfl) ?_
          refine lv_imul hx hb d_M_copy_107 ?_
          refine lv_iload_n hx hb d_M_copy_108 rfl (lv_at hl 3 rfl) ?_
          refine lv_iadd hx hb d_M_copy_109 ?_
          obtain ⟨v28, e29, h⟩ := gb h
          refine gw_aldJ hx hb hK hI e29 d_M_copy_110 ?_
          obtain ⟨w, e30, h⟩ := gb h
          refine gw_astJ hx hb hK hI e30 d_M_copy_111 (fun H locs hI => ?_)
          refine lv_iinc (v := z15 + 1) (lv' := [(3, .int (z15 + 1)), (0, .ref a0), (1, .int p1), (2, .int p2)]) hx hb d_M_copy_112 hl (k := 3) rfl rfl (by decide) rfl (fun ls hl => ?_)
          refine lv_goto (tgt := 62) hx hb d_M_copy_115 (by decide) ?_
          exact ih _ w H locs ls h hI (lv_sub hl [1, 2, 3, 0] rfl)
    exact hL62 64 _ w H locs ls h hI (lv_sub hl [1, 2, 3, 0] rfl)
  have hL14 : ∀ (n : Nat), ∀ (z31 : Int32) (w : gW) (H : Heap) (locs : List Loc) (ls : Array Slot), f_M_copy_L14 g0 a0 p1 p2 K48 n z31 w = some r → gI D s A w H locs → lv_has ls 4 [(0, .ref a0), (1, .int p1), (2, .int p2), (3, .int z31)] → W p l e rm_M_copy s m args below meth c H locs 0 0 Q (F0 m 14 ls []) := by
    intro n
    induction n with
    | zero => intro z31 w H locs ls h hI hl; exact absurd h (by simp [f_M_copy_L14])
    | succ n ih =>
      intro z31 w H locs ls h hI hl
      rw [f_M_copy_L14] at h
      refine lv_iload_n hx hb d_M_copy_14 rfl (lv_at hl 3 rfl) ?_
      refine lv_bipush (v := 6) hx hb d_M_copy_15 (by decide) ?_
      refine lv_icmp_ge (tgt := 48) hx hb d_M_copy_17 (by decide) (fun c32 => ?_) (fun c32 => ?_)
      · skip
        have h := git c32 h
        exact hK48 w H locs ls h hI (lv_sub hl [0, 1, 2] rfl)
      · skip
        have h := gie c32 h
        refine lv_aload_n hx hb d_M_copy_20 rfl (lv_at hl 0 rfl) ?_
        obtain ⟨v33, e34, h⟩ := gb h
        refine gw_getA hx hb hT hown hK hI (ci := 7) rfl i_7 5 (by decide) wd_791 (fun _ h9 => h9) e34 d_M_copy_21 ?_
        refine lv_bipush (v := 6) hx hb d_M_copy_24 (by decide) ?_
        refine lv_iload_n hx hb d_M_copy_26 rfl (lv_at hl 2 rfl) ?_
        refine lv_imul hx hb d_M_copy_27 ?_
        refine lv_iload_n hx hb d_M_copy_28 rfl (lv_at hl 3 rfl) ?_
        refine lv_iadd hx hb d_M_copy_29 ?_
        refine lv_aload_n hx hb d_M_copy_30 rfl (lv_at hl 0 rfl) ?_
        obtain ⟨v35, e36, h⟩ := gb h
        refine gw_getA hx hb hT hown hK hI (ci := 7) rfl i_7 5 (by decide) wd_791 (fun _ h9 => h9) e36 d_M_copy_31 ?_
        refine lv_bipush (v := 6) hx hb d_M_copy_34 (by decide) ?_
        refine lv_iload_n hx hb d_M_copy_36 rfl (lv_at hl 1 rfl) ?_
        refine lv_imul hx hb d_M_copy_37 ?_
        refine lv_iload_n hx hb d_M_copy_38 rfl (lv_at hl 3 rfl) ?_
        refine lv_iadd hx hb d_M_copy_39 ?_
        obtain ⟨v37, e38, h⟩ := gb h
        refine gw_aldJ hx hb hK hI e38 d_M_copy_40 ?_
        obtain ⟨w, e39, h⟩ := gb h
        refine gw_astJ hx hb hK hI e39 d_M_copy_41 (fun H locs hI => ?_)
        refine lv_iinc (v := z31 + 1) (lv' := [(3, .int (z31 + 1)), (0, .ref a0), (1, .int p1), (2, .int p2)]) hx hb d_M_copy_42 hl (k := 3) rfl rfl (by decide) rfl (fun ls hl => ?_)
        refine lv_goto (tgt := 14) hx hb d_M_copy_45 (by decide) ?_
        exact ih _ w H locs ls h hI (lv_sub hl [1, 2, 3, 0] rfl)
  exact hL14 64 _ w H locs ls h hI (lv_sub hl [1, 2, 3, 0] rfl)

abbrev b_M_join : ByteArray := prog_9_method_21_code
def y_M_join : MethodName := ⟨"BodySolidsModel", "join", "(II)I"⟩
theorem d_M_join_0 : decode b_M_join 0 = .ok (.aload_n 0, 1) := by decide +kernel
theorem d_M_join_1 : decode b_M_join 1 = .ok (.aload_n 0, 1) := by decide +kernel
theorem d_M_join_2 : decode b_M_join 2 = .ok (.iload_n 1, 1) := by decide +kernel
theorem d_M_join_3 : decode b_M_join 3 = .ok (.invokevirtual 109, 3) := by decide +kernel
theorem d_M_join_6 : decode b_M_join 6 = .ok (.ifCond .eq 15, 3) := by decide +kernel
theorem d_M_join_9 : decode b_M_join 9 = .ok (.aload_n 0, 1) := by decide +kernel
theorem d_M_join_10 : decode b_M_join 10 = .ok (.iload_n 2, 1) := by decide +kernel
theorem d_M_join_11 : decode b_M_join 11 = .ok (.invokevirtual 109, 3) := by decide +kernel
theorem d_M_join_14 : decode b_M_join 14 = .ok (.ifCond .eq 7, 3) := by decide +kernel
theorem d_M_join_17 : decode b_M_join 17 = .ok (.iconst 0, 1) := by decide +kernel
theorem d_M_join_18 : decode b_M_join 18 = .ok (.goto 4, 3) := by decide +kernel
theorem d_M_join_21 : decode b_M_join 21 = .ok (.iconst 1, 1) := by decide +kernel
theorem d_M_join_22 : decode b_M_join 22 = .ok (.putfield 80, 3) := by decide +kernel
theorem d_M_join_25 : decode b_M_join 25 = .ok (.aload_n 0, 1) := by decide +kernel
theorem d_M_join_26 : decode b_M_join 26 = .ok (.getfield 80, 3) := by decide +kernel
theorem d_M_join_29 : decode b_M_join 29 = .ok (.ifCond .eq 5, 3) := by decide +kernel
theorem d_M_join_32 : decode b_M_join 32 = .ok (.iconst 0, 1) := by decide +kernel
theorem d_M_join_33 : decode b_M_join 33 = .ok (.ireturn, 1) := by decide +kernel
theorem d_M_join_34 : decode b_M_join 34 = .ok (.aload_n 0, 1) := by decide +kernel
theorem d_M_join_35 : decode b_M_join 35 = .ok (.getfield 92, 3) := by decide +kernel
theorem d_M_join_38 : decode b_M_join 38 = .ok (.bipush 30, 2) := by decide +kernel
theorem d_M_join_40 : decode b_M_join 40 = .ok (.if_icmp .eq 21, 3) := by decide +kernel
theorem d_M_join_43 : decode b_M_join 43 = .ok (.aload_n 0, 1) := by decide +kernel
theorem d_M_join_44 : decode b_M_join 44 = .ok (.getfield 7, 3) := by decide +kernel
theorem d_M_join_47 : decode b_M_join 47 = .ok (.iload_n 1, 1) := by decide +kernel
theorem d_M_join_48 : decode b_M_join 48 = .ok (.iaload, 1) := by decide +kernel
theorem d_M_join_49 : decode b_M_join 49 = .ok (.aload_n 0, 1) := by decide +kernel
theorem d_M_join_50 : decode b_M_join 50 = .ok (.getfield 7, 3) := by decide +kernel
theorem d_M_join_53 : decode b_M_join 53 = .ok (.iload_n 2, 1) := by decide +kernel
theorem d_M_join_54 : decode b_M_join 54 = .ok (.iaload, 1) := by decide +kernel
theorem d_M_join_55 : decode b_M_join 55 = .ok (.iadd, 1) := by decide +kernel
theorem d_M_join_56 : decode b_M_join 56 = .ok (.bipush 12, 2) := by decide +kernel
theorem d_M_join_58 : decode b_M_join 58 = .ok (.if_icmp .le 5, 3) := by decide +kernel
theorem d_M_join_61 : decode b_M_join 61 = .ok (.iconst (-1), 1) := by decide +kernel
theorem d_M_join_62 : decode b_M_join 62 = .ok (.ireturn, 1) := by decide +kernel
theorem d_M_join_63 : decode b_M_join 63 = .ok (.bipush 12, 2) := by decide +kernel
theorem d_M_join_65 : decode b_M_join 65 = .ok (.aload_n 0, 1) := by decide +kernel
theorem d_M_join_66 : decode b_M_join 66 = .ok (.getfield 92, 3) := by decide +kernel
theorem d_M_join_69 : decode b_M_join 69 = .ok (.imul, 1) := by decide +kernel
theorem d_M_join_70 : decode b_M_join 70 = .ok (.istore_n 3, 1) := by decide +kernel
theorem d_M_join_71 : decode b_M_join 71 = .ok (.iconst 0, 1) := by decide +kernel
theorem d_M_join_72 : decode b_M_join 72 = .ok (.istore 4, 2) := by decide +kernel
theorem d_M_join_74 : decode b_M_join 74 = .ok (.iload 4, 2) := by decide +kernel
theorem d_M_join_76 : decode b_M_join 76 = .ok (.aload_n 0, 1) := by decide +kernel
theorem d_M_join_77 : decode b_M_join 77 = .ok (.getfield 7, 3) := by decide +kernel
theorem d_M_join_80 : decode b_M_join 80 = .ok (.iload_n 1, 1) := by decide +kernel
theorem d_M_join_81 : decode b_M_join 81 = .ok (.iaload, 1) := by decide +kernel
theorem d_M_join_82 : decode b_M_join 82 = .ok (.if_icmp .ge 24, 3) := by decide +kernel
theorem d_M_join_85 : decode b_M_join 85 = .ok (.aload_n 0, 1) := by decide +kernel
theorem d_M_join_86 : decode b_M_join 86 = .ok (.bipush 12, 2) := by decide +kernel
theorem d_M_join_88 : decode b_M_join 88 = .ok (.iload_n 1, 1) := by decide +kernel
theorem d_M_join_89 : decode b_M_join 89 = .ok (.imul, 1) := by decide +kernel
theorem d_M_join_90 : decode b_M_join 90 = .ok (.iload 4, 2) := by decide +kernel
theorem d_M_join_92 : decode b_M_join 92 = .ok (.iadd, 1) := by decide +kernel
theorem d_M_join_93 : decode b_M_join 93 = .ok (.iload_n 3, 1) := by decide +kernel
theorem d_M_join_94 : decode b_M_join 94 = .ok (.iload 4, 2) := by decide +kernel
theorem d_M_join_96 : decode b_M_join 96 = .ok (.iadd, 1) := by decide +kernel
theorem d_M_join_97 : decode b_M_join 97 = .ok (.invokevirtual 138, 3) := by decide +kernel
theorem d_M_join_100 : decode b_M_join 100 = .ok (.iinc 4 1, 3) := by decide +kernel
theorem d_M_join_103 : decode b_M_join 103 = .ok (.goto (-29), 3) := by decide +kernel
theorem d_M_join_106 : decode b_M_join 106 = .ok (.iconst 0, 1) := by decide +kernel
theorem d_M_join_107 : decode b_M_join 107 = .ok (.istore 4, 2) := by decide +kernel
theorem d_M_join_109 : decode b_M_join 109 = .ok (.iload 4, 2) := by decide +kernel
theorem d_M_join_111 : decode b_M_join 111 = .ok (.aload_n 0, 1) := by decide +kernel
theorem d_M_join_112 : decode b_M_join 112 = .ok (.getfield 7, 3) := by decide +kernel
theorem d_M_join_115 : decode b_M_join 115 = .ok (.iload_n 2, 1) := by decide +kernel
theorem d_M_join_116 : decode b_M_join 116 = .ok (.iaload, 1) := by decide +kernel
theorem d_M_join_117 : decode b_M_join 117 = .ok (.if_icmp .ge 31, 3) := by decide +kernel
theorem d_M_join_120 : decode b_M_join 120 = .ok (.aload_n 0, 1) := by decide +kernel
theorem d_M_join_121 : decode b_M_join 121 = .ok (.bipush 12, 2) := by decide +kernel
theorem d_M_join_123 : decode b_M_join 123 = .ok (.iload_n 2, 1) := by decide +kernel
theorem d_M_join_124 : decode b_M_join 124 = .ok (.imul, 1) := by decide +kernel
theorem d_M_join_125 : decode b_M_join 125 = .ok (.iload 4, 2) := by decide +kernel
theorem d_M_join_127 : decode b_M_join 127 = .ok (.iadd, 1) := by decide +kernel
theorem d_M_join_128 : decode b_M_join 128 = .ok (.iload_n 3, 1) := by decide +kernel
theorem d_M_join_129 : decode b_M_join 129 = .ok (.aload_n 0, 1) := by decide +kernel
theorem d_M_join_130 : decode b_M_join 130 = .ok (.getfield 7, 3) := by decide +kernel
theorem d_M_join_133 : decode b_M_join 133 = .ok (.iload_n 1, 1) := by decide +kernel
theorem d_M_join_134 : decode b_M_join 134 = .ok (.iaload, 1) := by decide +kernel
theorem d_M_join_135 : decode b_M_join 135 = .ok (.iadd, 1) := by decide +kernel
theorem d_M_join_136 : decode b_M_join 136 = .ok (.iload 4, 2) := by decide +kernel
theorem d_M_join_138 : decode b_M_join 138 = .ok (.iadd, 1) := by decide +kernel
theorem d_M_join_139 : decode b_M_join 139 = .ok (.invokevirtual 138, 3) := by decide +kernel
theorem d_M_join_142 : decode b_M_join 142 = .ok (.iinc 4 1, 3) := by decide +kernel
theorem d_M_join_145 : decode b_M_join 145 = .ok (.goto (-36), 3) := by decide +kernel
theorem d_M_join_148 : decode b_M_join 148 = .ok (.aload_n 0, 1) := by decide +kernel
theorem d_M_join_149 : decode b_M_join 149 = .ok (.getfield 7, 3) := by decide +kernel
theorem d_M_join_152 : decode b_M_join 152 = .ok (.aload_n 0, 1) := by decide +kernel
theorem d_M_join_153 : decode b_M_join 153 = .ok (.getfield 92, 3) := by decide +kernel
theorem d_M_join_156 : decode b_M_join 156 = .ok (.aload_n 0, 1) := by decide +kernel
theorem d_M_join_157 : decode b_M_join 157 = .ok (.getfield 7, 3) := by decide +kernel
theorem d_M_join_160 : decode b_M_join 160 = .ok (.iload_n 1, 1) := by decide +kernel
theorem d_M_join_161 : decode b_M_join 161 = .ok (.iaload, 1) := by decide +kernel
theorem d_M_join_162 : decode b_M_join 162 = .ok (.aload_n 0, 1) := by decide +kernel
theorem d_M_join_163 : decode b_M_join 163 = .ok (.getfield 7, 3) := by decide +kernel
theorem d_M_join_166 : decode b_M_join 166 = .ok (.iload_n 2, 1) := by decide +kernel
theorem d_M_join_167 : decode b_M_join 167 = .ok (.iaload, 1) := by decide +kernel
theorem d_M_join_168 : decode b_M_join 168 = .ok (.iadd, 1) := by decide +kernel
theorem d_M_join_169 : decode b_M_join 169 = .ok (.iastore, 1) := by decide +kernel
theorem d_M_join_170 : decode b_M_join 170 = .ok (.aload_n 0, 1) := by decide +kernel
theorem d_M_join_171 : decode b_M_join 171 = .ok (.dup, 1) := by decide +kernel
theorem d_M_join_172 : decode b_M_join 172 = .ok (.getfield 92, 3) := by decide +kernel
theorem d_M_join_175 : decode b_M_join 175 = .ok (.iconst 1, 1) := by decide +kernel
theorem d_M_join_176 : decode b_M_join 176 = .ok (.iadd, 1) := by decide +kernel
theorem d_M_join_177 : decode b_M_join 177 = .ok (.putfield 92, 3) := by decide +kernel
theorem d_M_join_180 : decode b_M_join 180 = .ok (.aload_n 0, 1) := by decide +kernel
theorem d_M_join_181 : decode b_M_join 181 = .ok (.getfield 92, 3) := by decide +kernel
theorem d_M_join_184 : decode b_M_join 184 = .ok (.iconst 1, 1) := by decide +kernel
theorem d_M_join_185 : decode b_M_join 185 = .ok (.isub, 1) := by decide +kernel
theorem d_M_join_186 : decode b_M_join 186 = .ok (.ireturn, 1) := by decide +kernel
abbrev rm_M_join : Room := { frames := 1, cells := 0, slots := 0, locals := 23 }
theorem ce_M_join : gCe y_M_join (.code y_M_join b_M_join 5 (some .int)) 5 2 false := gCe.code wd_935 wd_57 wd_933 (by decide) (by decide +kernel)
def f_M_join_L109 (g0 : gG) (c0 : Nat) (c1 : Int32) (c2 : Int32) (c3 : Int32) (K148 : gW → gX Int32) : Nat → Int32 → gW → gX Int32
  | 0, _, _ => none
  | n + 1, z4, w => (gfA w c0 7 3).bind fun v43 => (gaI w v43 c2).bind fun v45 => if v45 ≤ z4 then (K148 w) else ((gfA w c0 7 3).bind fun v48 => (gaI w v48 c1).bind fun v50 => (gck w c0 7).bind fun _ => gbind (f_M_copy g0 c0 ((12 * c2) + z4) ((c3 + v50) + z4) w) fun v56 w => f_M_join_L109 g0 c0 c1 c2 c3 K148 n (z4 + 1) w)
def f_M_join_L74 (g0 : gG) (c0 : Nat) (c1 : Int32) (c2 : Int32) (c3 : Int32) (K106 : gW → gX Int32) : Nat → Int32 → gW → gX Int32
  | 0, _, _ => none
  | n + 1, z4, w => (gfA w c0 7 3).bind fun v58 => (gaI w v58 c1).bind fun v60 => if v60 ≤ z4 then (K106 w) else ((gck w c0 7).bind fun _ => gbind (f_M_copy g0 c0 ((12 * c1) + z4) (c3 + z4) w) fun v67 w => f_M_join_L74 g0 c0 c1 c2 c3 K106 n (z4 + 1) w)
def f_M_join (g0 : gG) (a0 : Nat) (p1 : Int32) (p2 : Int32) (w : gW) : gX Int32 := (gck w a0 7).bind fun _ => gbind (f_M_isBody g0 a0 p1 w) fun v5 w => gjoin (fun K22 => gjoin (fun K21 => if v5 = 0 then (K21 w) else ((gck w a0 7).bind fun _ => gbind (f_M_isBody g0 a0 p2 w) fun v74 w => if v74 = 0 then (K21 w) else (K22 0 w))) (fun (w : gW) => K22 1 w)) (fun (y6 : Int32) (w : gW) => (gp w a0 7 0 (.int y6)).bind fun w => (gfI w a0 7 0).bind fun v8 => if v8 = 0 then ((gfI w a0 7 2).bind fun v11 => gjoin (fun K61 => if v11 = 30 then (K61 w) else ((gfA w a0 7 3).bind fun v14 => (gaI w v14 p1).bind fun v16 => (gfA w a0 7 3).bind fun v18 => (gaI w v18 p2).bind fun v20 => if (v16 + v20) ≤ 12 then ((gfI w a0 7 2).bind fun v23 => gjoin (fun K106 => f_M_join_L74 g0 a0 p1 p2 (12 * v23) K106 64 0 w) (fun (w : gW) => gjoin (fun K148 => f_M_join_L109 g0 a0 p1 p2 (12 * v23) K148 64 0 w) (fun (w : gW) => (gfA w a0 7 3).bind fun v25 => (gfI w a0 7 2).bind fun v27 => (gfA w a0 7 3).bind fun v29 => (gaI w v29 p1).bind fun v31 => (gfA w a0 7 3).bind fun v33 => (gaI w v33 p2).bind fun v35 => (gsI w v25 v27 (v31 + v35)).bind fun w => (gfI w a0 7 2).bind fun v38 => (gp w a0 7 2 (.int (v38 + 1))).bind fun w => (gfI w a0 7 2).bind fun v41 => some (.inr (v41 - 1), w)))) else (K61 w))) (fun (w : gW) => some (.inr (-1), w))) else (some (.inr 0, w)))
set_option maxHeartbeats 4000000 in
set_option maxRecDepth 100000 in
theorem m_M_join (l : Launch) (hst : l.stackTraces = false) (D : gD) (g0 : gG) (a0 : Nat) (p1 : Int32) (p2 : Int32) (w : gW) (r : (String ⊕ Int32) × gW) (h : f_M_join g0 a0 p1 p2 w = some r) : gMet l y_M_join (.code y_M_join b_M_join 5 (some .int)) rm_M_join D g0 [.ref a0, .int p1, .int p2] w (goI r) := by
  refine gw_ofI (by decide +kernel) (Nat.le_of_ble_eq_true rfl) ?_
  intro p e s m below meth c ls args A Q hx hb hml hown hlocks hin hnt hT hK hZ hA hret hexc hthr hI hl
  obtain ⟨H, hH⟩ : ∃ H, H = s.heap := ⟨_, rfl⟩
  rw [← hH] at hI ⊢
  obtain ⟨locs, hlocs⟩ : ∃ z : List Loc, z = [] := ⟨_, rfl⟩
  rw [← hlocs] at hI ⊢
  have hl : lv_has ls 5 [(0, .ref a0), (1, .int p1), (2, .int p2)] := hl
  unfold f_M_join at h
  refine lv_aload_n hx hb d_M_join_0 rfl (lv_at hl 0 rfl) ?_
  refine lv_aload_n hx hb d_M_join_1 rfl (lv_at hl 0 rfl) ?_
  refine lv_iload_n hx hb d_M_join_2 rfl (lv_at hl 1 rfl) ?_
  obtain ⟨q3, e4, h⟩ := gb h
  obtain ⟨u1, e2⟩ := gsome h
  refine gw_callI e2 h (gw_runV (As := [.int p1]) (rest := [.ref a0]) hx hb hml hown hT hK hZ hA hI (ci := 7) rfl e4 (m_M_isBody l hst D g0 a0 p1 w u1 e2) ce_M_isBody wd_894 wd_17 ⟨by decide, by decide⟩ rfl rfl hl.1 rfl (lv_room (Nat.le_of_ble_eq_true rfl)) d_M_join_3 ⟨(show 0 + 0 ≤ 0 by omega), (show 0 + 0 ≤ 0 by omega)⟩) hI hA hexc (show 0 + 0 ≤ 0 by omega) (show 0 + 0 ≤ 0 by omega) (fun v5 w H locs h hI => ?_)
  obtain ⟨K22, eK22, h⟩ := gj h
  have hK22 : ∀ (y6 : Int32) (w : gW) (H : Heap) (locs : List Loc) (ls : Array Slot), K22 y6 w = some r → gI D s A w H locs → lv_has ls 5 [(0, .ref a0), (1, .int p1), (2, .int p2)] → W p l e rm_M_join s m args below meth c H locs 0 0 Q (F0 m 22 ls [.int y6, .ref a0]) := by
    intro y6 w H locs ls h hI hl
    have h := gk2 eK22 h
    obtain ⟨w, e7, h⟩ := gb h
    refine gw_put hx hb hT hown hK hI (ci := 7) rfl i_7 t_7 t_7_ok n_7 0 (by decide) wd_786 (fun _ h9 => h9) rfl (ty := .int) (by decide +kernel) rfl rfl e7 d_M_join_22 (fun H locs hI => ?_)
    refine lv_aload_n hx hb d_M_join_25 rfl (lv_at hl 0 rfl) ?_
    obtain ⟨v8, e9, h⟩ := gb h
    refine gw_getI hx hb hT hown hK hI (ci := 7) rfl i_7 0 (by decide) wd_786 (fun _ h9 => h9) e9 d_M_join_26 ?_
    refine lv_if_eq (tgt := 34) hx hb d_M_join_29 (by decide) (fun c10 => ?_) (fun c10 => ?_)
    · skip
      have h := git c10 h
      refine lv_aload_n hx hb d_M_join_34 rfl (lv_at hl 0 rfl) ?_
      obtain ⟨v11, e12, h⟩ := gb h
      refine gw_getI hx hb hT hown hK hI (ci := 7) rfl i_7 2 (by decide) wd_788 (fun _ h9 => h9) e12 d_M_join_35 ?_
      refine lv_bipush (v := 30) hx hb d_M_join_38 (by decide) ?_
      obtain ⟨K61, eK61, h⟩ := gj h
      have hK61 : ∀ (w : gW) (H : Heap) (locs : List Loc) (ls : Array Slot), K61 w = some r → gI D s A w H locs → lv_has ls 5 [] → W p l e rm_M_join s m args below meth c H locs 0 0 Q (F0 m 61 ls []) := by
        intro w H locs ls h hI hl
        have h := gk1 eK61 h
        refine lv_iconst (v := -1) hx hb d_M_join_61 (by decide) ?_
        exact W.widen (show 0 ≤ 0 by omega) (show 0 ≤ 0 by omega) (hret _ _ (Option.some.inj h).symm _ _ _ _ d_M_join_62 hI)
      refine lv_icmp_eq (tgt := 61) hx hb d_M_join_40 (by decide) (fun c13 => ?_) (fun c13 => ?_)
      · skip
        have h := git c13 h
        exact hK61 w H locs ls h hI (lv_sub hl [] rfl)
      · skip
        have h := gie c13 h
        refine lv_aload_n hx hb d_M_join_43 rfl (lv_at hl 0 rfl) ?_
        obtain ⟨v14, e15, h⟩ := gb h
        refine gw_getA hx hb hT hown hK hI (ci := 7) rfl i_7 3 (by decide) wd_789 (fun _ h9 => h9) e15 d_M_join_44 ?_
        refine lv_iload_n hx hb d_M_join_47 rfl (lv_at hl 1 rfl) ?_
        obtain ⟨v16, e17, h⟩ := gb h
        refine gw_aldI hx hb hK hI e17 d_M_join_48 ?_
        refine lv_aload_n hx hb d_M_join_49 rfl (lv_at hl 0 rfl) ?_
        obtain ⟨v18, e19, h⟩ := gb h
        refine gw_getA hx hb hT hown hK hI (ci := 7) rfl i_7 3 (by decide) wd_789 (fun _ h9 => h9) e19 d_M_join_50 ?_
        refine lv_iload_n hx hb d_M_join_53 rfl (lv_at hl 2 rfl) ?_
        obtain ⟨v20, e21, h⟩ := gb h
        refine gw_aldI hx hb hK hI e21 d_M_join_54 ?_
        refine lv_iadd hx hb d_M_join_55 ?_
        refine lv_bipush (v := 12) hx hb d_M_join_56 (by decide) ?_
        refine lv_icmp_le (tgt := 63) hx hb d_M_join_58 (by decide) (fun c22 => ?_) (fun c22 => ?_)
        · skip
          have h := git c22 h
          refine lv_bipush (v := 12) hx hb d_M_join_63 (by decide) ?_
          refine lv_aload_n hx hb d_M_join_65 rfl (lv_at hl 0 rfl) ?_
          obtain ⟨v23, e24, h⟩ := gb h
          refine gw_getI hx hb hT hown hK hI (ci := 7) rfl i_7 2 (by decide) wd_788 (fun _ h9 => h9) e24 d_M_join_66 ?_
          refine lv_imul hx hb d_M_join_69 ?_
          refine lv_istore_n (lv' := [(3, .int (12 * v23)), (0, .ref a0), (1, .int p1), (2, .int p2)]) hx hb d_M_join_70 rfl hl (by decide) rfl (fun ls hl => ?_)
          refine lv_iconst (v := 0) hx hb d_M_join_71 (by decide) ?_
          refine lv_istore (lv' := [(4, .int 0), (3, .int (12 * v23)), (0, .ref a0), (1, .int p1), (2, .int p2)]) hx hb d_M_join_72 hl (by decide) rfl (fun ls hl => ?_)
          obtain ⟨K106, eK106, h⟩ := gj h
          have hK106 : ∀ (w : gW) (H : Heap) (locs : List Loc) (ls : Array Slot), K106 w = some r → gI D s A w H locs → lv_has ls 5 [(0, .ref a0), (1, .int p1), (2, .int p2), (3, .int (12 * v23))] → W p l e rm_M_join s m args below meth c H locs 0 0 Q (F0 m 106 ls []) := by
            intro w H locs ls h hI hl
            have h := gk1 eK106 h
            refine lv_iconst (v := 0) hx hb d_M_join_106 (by decide) ?_
            refine lv_istore (lv' := [(4, .int 0), (0, .ref a0), (1, .int p1), (2, .int p2), (3, .int (12 * v23))]) hx hb d_M_join_107 hl (by decide) rfl (fun ls hl => ?_)
            obtain ⟨K148, eK148, h⟩ := gj h
            have hK148 : ∀ (w : gW) (H : Heap) (locs : List Loc) (ls : Array Slot), K148 w = some r → gI D s A w H locs → lv_has ls 5 [(0, .ref a0), (1, .int p1), (2, .int p2)] → W p l e rm_M_join s m args below meth c H locs 0 0 Q (F0 m 148 ls []) := by
              intro w H locs ls h hI hl
              have h := gk1 eK148 h
              refine lv_aload_n hx hb d_M_join_148 rfl (lv_at hl 0 rfl) ?_
              obtain ⟨v25, e26, h⟩ := gb h
              refine gw_getA hx hb hT hown hK hI (ci := 7) rfl i_7 3 (by decide) wd_789 (fun _ h9 => h9) e26 d_M_join_149 ?_
              refine lv_aload_n hx hb d_M_join_152 rfl (lv_at hl 0 rfl) ?_
              obtain ⟨v27, e28, h⟩ := gb h
              refine gw_getI hx hb hT hown hK hI (ci := 7) rfl i_7 2 (by decide) wd_788 (fun _ h9 => h9) e28 d_M_join_153 ?_
              refine lv_aload_n hx hb d_M_join_156 rfl (lv_at hl 0 rfl) ?_
              obtain ⟨v29, e30, h⟩ := gb h
              refine gw_getA hx hb hT hown hK hI (ci := 7) rfl i_7 3 (by decide) wd_789 (fun _ h9 => h9) e30 d_M_join_157 ?_
              refine lv_iload_n hx hb d_M_join_160 rfl (lv_at hl 1 rfl) ?_
              obtain ⟨v31, e32, h⟩ := gb h
              refine gw_aldI hx hb hK hI e32 d_M_join_161 ?_
              refine lv_aload_n hx hb d_M_join_162 rfl (lv_at hl 0 rfl) ?_
              obtain ⟨v33, e34, h⟩ := gb h
              refine gw_getA hx hb hT hown hK hI (ci := 7) rfl i_7 3 (by decide) wd_789 (fun _ h9 => h9) e34 d_M_join_163 ?_
              refine lv_iload_n hx hb d_M_join_166 rfl (lv_at hl 2 rfl) ?_
              obtain ⟨v35, e36, h⟩ := gb h
              refine gw_aldI hx hb hK hI e36 d_M_join_167 ?_
              refine lv_iadd hx hb d_M_join_168 ?_
              obtain ⟨w, e37, h⟩ := gb h
              refine gw_astI hx hb hK hI e37 d_M_join_169 (fun H locs hI => ?_)
              refine lv_aload_n hx hb d_M_join_170 rfl (lv_at hl 0 rfl) ?_
              refine lv_dup hx hb d_M_join_171 rfl ?_
              obtain ⟨v38, e39, h⟩ := gb h
              refine gw_getI hx hb hT hown hK hI (ci := 7) rfl i_7 2 (by decide) wd_788 (fun _ h9 => h9) e39 d_M_join_172 ?_
              refine lv_iconst (v := 1) hx hb d_M_join_175 (by decide) ?_
              refine lv_iadd hx hb d_M_join_176 ?_
              obtain ⟨w, e40, h⟩ := gb h
              refine gw_put hx hb hT hown hK hI (ci := 7) rfl i_7 t_7 t_7_ok n_7 2 (by decide) wd_788 (fun _ h9 => h9) rfl (ty := .int) (by decide +kernel) rfl rfl e40 d_M_join_177 (fun H locs hI => ?_)
              refine lv_aload_n hx hb d_M_join_180 rfl (lv_at hl 0 rfl) ?_
              obtain ⟨v41, e42, h⟩ := gb h
              refine gw_getI hx hb hT hown hK hI (ci := 7) rfl i_7 2 (by decide) wd_788 (fun _ h9 => h9) e42 d_M_join_181 ?_
              refine lv_iconst (v := 1) hx hb d_M_join_184 (by decide) ?_
              refine lv_isub hx hb d_M_join_185 ?_
              exact W.widen (show 0 ≤ 0 by omega) (show 0 ≤ 0 by omega) (hret _ _ (Option.some.inj h).symm _ _ _ _ d_M_join_186 hI)
            have hL109 : ∀ (n : Nat), ∀ (z43 : Int32) (w : gW) (H : Heap) (locs : List Loc) (ls : Array Slot), f_M_join_L109 g0 a0 p1 p2 (12 * v23) K148 n z43 w = some r → gI D s A w H locs → lv_has ls 5 [(0, .ref a0), (1, .int p1), (2, .int p2), (3, .int (12 * v23)), (4, .int z43)] → W p l e rm_M_join s m args below meth c H locs 0 0 Q (F0 m 109 ls []) := by
              intro n
              induction n with
              | zero => intro z43 w H locs ls h hI hl; exact absurd h (by simp [f_M_join_L109])
              | succ n ih =>
                intro z43 w H locs ls h hI hl
                rw [f_M_join_L109] at h
                refine lv_iload hx hb d_M_join_109 (lv_at hl 4 rfl) ?_
                refine lv_aload_n hx hb d_M_join_111 rfl (lv_at hl 0 rfl) ?_
                obtain ⟨v44, e45, h⟩ := gb h
                refine gw_getA hx hb hT hown hK hI (ci := 7) rfl i_7 3 (by decide) wd_789 (fun _ h9 => h9) e45 d_M_join_112 ?_
                refine lv_iload_n hx hb d_M_join_115 rfl (lv_at hl 2 rfl) ?_
                obtain ⟨v46, e47, h⟩ := gb h
                refine gw_aldI hx hb hK hI e47 d_M_join_116 ?_
                refine lv_icmp_ge (tgt := 148) hx hb d_M_join_117 (by decide) (fun c48 => ?_) (fun c48 => ?_)
                · skip
                  have h := git c48 h
                  exact hK148 w H locs ls h hI (lv_sub hl [0, 1, 2] rfl)
                · skip
                  have h := gie c48 h
                  refine lv_aload_n hx hb d_M_join_120 rfl (lv_at hl 0 rfl) ?_
                  refine lv_bipush (v := 12) hx hb d_M_join_121 (by decide) ?_
                  refine lv_iload_n hx hb d_M_join_123 rfl (lv_at hl 2 rfl) ?_
                  refine lv_imul hx hb d_M_join_124 ?_
                  refine lv_iload hx hb d_M_join_125 (lv_at hl 4 rfl) ?_
                  refine lv_iadd hx hb d_M_join_127 ?_
                  refine lv_iload_n hx hb d_M_join_128 rfl (lv_at hl 3 rfl) ?_
                  refine lv_aload_n hx hb d_M_join_129 rfl (lv_at hl 0 rfl) ?_
                  obtain ⟨v49, e50, h⟩ := gb h
                  refine gw_getA hx hb hT hown hK hI (ci := 7) rfl i_7 3 (by decide) wd_789 (fun _ h9 => h9) e50 d_M_join_130 ?_
                  refine lv_iload_n hx hb d_M_join_133 rfl (lv_at hl 1 rfl) ?_
                  obtain ⟨v51, e52, h⟩ := gb h
                  refine gw_aldI hx hb hK hI e52 d_M_join_134 ?_
                  refine lv_iadd hx hb d_M_join_135 ?_
                  refine lv_iload hx hb d_M_join_136 (lv_at hl 4 rfl) ?_
                  refine lv_iadd hx hb d_M_join_138 ?_
                  obtain ⟨q55, e56, h⟩ := gb h
                  obtain ⟨u53, e54⟩ := gsome h
                  refine gw_callV e54 h (gw_runV (As := [.int ((12 * p2) + z43), .int (((12 * v23) + v51) + z43)]) (rest := []) hx hb hml hown hT hK hZ hA hI (ci := 7) rfl e56 (m_M_copy l hst D g0 a0 ((12 * p2) + z43) (((12 * v23) + v51) + z43) w u53 e54) ce_M_copy wd_936 wd_21 ⟨by decide, by decide⟩ rfl rfl hl.1 rfl (lv_room (Nat.le_of_ble_eq_true rfl)) d_M_join_139 ⟨(show 0 + 0 ≤ 0 by omega), (show 0 + 0 ≤ 0 by omega)⟩) hI hA hexc (show 0 + 0 ≤ 0 by omega) (show 0 + 0 ≤ 0 by omega) (fun v57 w H locs h hI => ?_)
                  refine lv_iinc (v := z43 + 1) (lv' := [(4, .int (z43 + 1)), (0, .ref a0), (1, .int p1), (2, .int p2), (3, .int (12 * v23))]) hx hb d_M_join_142 hl (k := 4) rfl rfl (by decide) rfl (fun ls hl => ?_)
                  refine lv_goto (tgt := 109) hx hb d_M_join_145 (by decide) ?_
                  exact ih _ w H locs ls h hI (lv_sub hl [1, 2, 3, 4, 0] rfl)
            exact hL109 64 _ w H locs ls h hI (lv_sub hl [1, 2, 3, 4, 0] rfl)
          have hL74 : ∀ (n : Nat), ∀ (z58 : Int32) (w : gW) (H : Heap) (locs : List Loc) (ls : Array Slot), f_M_join_L74 g0 a0 p1 p2 (12 * v23) K106 n z58 w = some r → gI D s A w H locs → lv_has ls 5 [(0, .ref a0), (1, .int p1), (2, .int p2), (3, .int (12 * v23)), (4, .int z58)] → W p l e rm_M_join s m args below meth c H locs 0 0 Q (F0 m 74 ls []) := by
            intro n
            induction n with
            | zero => intro z58 w H locs ls h hI hl; exact absurd h (by simp [f_M_join_L74])
            | succ n ih =>
              intro z58 w H locs ls h hI hl
              rw [f_M_join_L74] at h
              refine lv_iload hx hb d_M_join_74 (lv_at hl 4 rfl) ?_
              refine lv_aload_n hx hb d_M_join_76 rfl (lv_at hl 0 rfl) ?_
              obtain ⟨v59, e60, h⟩ := gb h
              refine gw_getA hx hb hT hown hK hI (ci := 7) rfl i_7 3 (by decide) wd_789 (fun _ h9 => h9) e60 d_M_join_77 ?_
              refine lv_iload_n hx hb d_M_join_80 rfl (lv_at hl 1 rfl) ?_
              obtain ⟨v61, e62, h⟩ := gb h
              refine gw_aldI hx hb hK hI e62 d_M_join_81 ?_
              refine lv_icmp_ge (tgt := 106) hx hb d_M_join_82 (by decide) (fun c63 => ?_) (fun c63 => ?_)
              · skip
                have h := git c63 h
                exact hK106 w H locs ls h hI (lv_sub hl [0, 1, 2, 3] rfl)
              · skip
                have h := gie c63 h
                refine lv_aload_n hx hb d_M_join_85 rfl (lv_at hl 0 rfl) ?_
                refine lv_bipush (v := 12) hx hb d_M_join_86 (by decide) ?_
                refine lv_iload_n hx hb d_M_join_88 rfl (lv_at hl 1 rfl) ?_
                refine lv_imul hx hb d_M_join_89 ?_
                refine lv_iload hx hb d_M_join_90 (lv_at hl 4 rfl) ?_
                refine lv_iadd hx hb d_M_join_92 ?_
                refine lv_iload_n hx hb d_M_join_93 rfl (lv_at hl 3 rfl) ?_
                refine lv_iload hx hb d_M_join_94 (lv_at hl 4 rfl) ?_
                refine lv_iadd hx hb d_M_join_96 ?_
                obtain ⟨q66, e67, h⟩ := gb h
                obtain ⟨u64, e65⟩ := gsome h
                refine gw_callV e65 h (gw_runV (As := [.int ((12 * p1) + z58), .int ((12 * v23) + z58)]) (rest := []) hx hb hml hown hT hK hZ hA hI (ci := 7) rfl e67 (m_M_copy l hst D g0 a0 ((12 * p1) + z58) ((12 * v23) + z58) w u64 e65) ce_M_copy wd_936 wd_21 ⟨by decide, by decide⟩ rfl rfl hl.1 rfl (lv_room (Nat.le_of_ble_eq_true rfl)) d_M_join_97 ⟨(show 0 + 0 ≤ 0 by omega), (show 0 + 0 ≤ 0 by omega)⟩) hI hA hexc (show 0 + 0 ≤ 0 by omega) (show 0 + 0 ≤ 0 by omega) (fun v68 w H locs h hI => ?_)
                refine lv_iinc (v := z58 + 1) (lv' := [(4, .int (z58 + 1)), (0, .ref a0), (1, .int p1), (2, .int p2), (3, .int (12 * v23))]) hx hb d_M_join_100 hl (k := 4) rfl rfl (by decide) rfl (fun ls hl => ?_)
                refine lv_goto (tgt := 74) hx hb d_M_join_103 (by decide) ?_
                exact ih _ w H locs ls h hI (lv_sub hl [1, 2, 3, 4, 0] rfl)
          exact hL74 64 _ w H locs ls h hI (lv_sub hl [2, 3, 4, 1, 0] rfl)
        · skip
          have h := gie c22 h
          exact hK61 w H locs ls h hI (lv_sub hl [] rfl)
    · skip
      have h := gie c10 h
      refine lv_iconst (v := 0) hx hb d_M_join_32 (by decide) ?_
      exact W.widen (show 0 ≤ 0 by omega) (show 0 ≤ 0 by omega) (hret _ _ (Option.some.inj h).symm _ _ _ _ d_M_join_33 hI)
  obtain ⟨K21, eK21, h⟩ := gj h
  have hK21 : ∀ (w : gW) (H : Heap) (locs : List Loc) (ls : Array Slot), K21 w = some r → gI D s A w H locs → lv_has ls 5 [(0, .ref a0), (1, .int p1), (2, .int p2)] → W p l e rm_M_join s m args below meth c H locs 0 0 Q (F0 m 21 ls [.ref a0]) := by
    intro w H locs ls h hI hl
    have h := gk1 eK21 h
    refine lv_iconst (v := 1) hx hb d_M_join_21 (by decide) ?_
    exact hK22 _ w H locs ls h hI (lv_sub hl [0, 1, 2] rfl)
  refine lv_if_eq (tgt := 21) hx hb d_M_join_6 (by decide) (fun c69 => ?_) (fun c69 => ?_)
  · skip
    have h := git c69 h
    exact hK21 w H locs ls h hI (lv_sub hl [0, 1, 2] rfl)
  · skip
    have h := gie c69 h
    refine lv_aload_n hx hb d_M_join_9 rfl (lv_at hl 0 rfl) ?_
    refine lv_iload_n hx hb d_M_join_10 rfl (lv_at hl 2 rfl) ?_
    obtain ⟨q72, e73, h⟩ := gb h
    obtain ⟨u70, e71⟩ := gsome h
    refine gw_callI e71 h (gw_runV (As := [.int p2]) (rest := [.ref a0]) hx hb hml hown hT hK hZ hA hI (ci := 7) rfl e73 (m_M_isBody l hst D g0 a0 p2 w u70 e71) ce_M_isBody wd_894 wd_17 ⟨by decide, by decide⟩ rfl rfl hl.1 rfl (lv_room (Nat.le_of_ble_eq_true rfl)) d_M_join_11 ⟨(show 0 + 0 ≤ 0 by omega), (show 0 + 0 ≤ 0 by omega)⟩) hI hA hexc (show 0 + 0 ≤ 0 by omega) (show 0 + 0 ≤ 0 by omega) (fun v74 w H locs h hI => ?_)
    refine lv_if_eq (tgt := 21) hx hb d_M_join_14 (by decide) (fun c75 => ?_) (fun c75 => ?_)
    · skip
      have h := git c75 h
      exact hK21 w H locs ls h hI (lv_sub hl [0, 1, 2] rfl)
    · skip
      have h := gie c75 h
      refine lv_iconst (v := 0) hx hb d_M_join_17 (by decide) ?_
      refine lv_goto (tgt := 22) hx hb d_M_join_18 (by decide) ?_
      exact hK22 _ w H locs ls h hI (lv_sub hl [0, 1, 2] rfl)
end
section
def f_law_L35 (g0 : gG) (c0 : Nat) (c1 : Nat) (c2 : Nat) (c3 : Nat) (K2110 : gW → gX Int32) (K492 : Int32 → gW → gX Int32) (K972 : Int32 → gW → gX Int32) (K1286 : Int32 → gW → gX Int32) (K1430 : Int32 → gW → gX Int32) (K1574 : Int32 → gW → gX Int32) (K1614 : gW → gX Int32) (K1627 : Int32 → gW → gX Int32) (K1667 : Int32 → gW → gX Int32) (K1927 : Int32 → gW → gX Int32) (K1952 : Int32 → gW → gX Int32) (K1992 : Int32 → gW → gX Int32) (K2076 : Int32 → gW → gX Int32) (K463 : gW → gX Int32) (K487 : gW → gX Int32) : Nat → Int32 → gW → gX Int32
  | 0, _, _ => none
  | n + 1, z4, w => (gal w c0).bind fun v33 => if (v33 - 14) < z4 then (K2110 w) else ((gaI w c0 z4).bind fun v36 => gjoin (fun K2104 => if (v36 &&& 31) = 0 then ((gck w c1 0).bind fun _ => gbind (f_B_body g0 c1 w) fun v43 w => (gck w c2 7).bind fun _ => gbind (f_M_body g0 c2 w) fun v48 w => K2104 w) else (if (v36 &&& 31) = 1 then ((gaI w c0 (z4 + 1)).bind fun v50 => (gaI w c0 (z4 + 2)).bind fun v52 => (gaI w c0 (z4 + 3)).bind fun v54 => (gaI w c0 (z4 + 4)).bind fun v56 => (gaI w c0 (z4 + 5)).bind fun v58 => (gaI w c0 (z4 + 6)).bind fun v60 => (gaI w c0 (z4 + 7)).bind fun v62 => (gaI w c0 (z4 + 8)).bind fun v64 => (gaI w c0 (z4 + 9)).bind fun v66 => (gaI w c0 (z4 + 10)).bind fun v68 => (gaI w c0 (z4 + 11)).bind fun v70 => (gaI w c0 (z4 + 12)).bind fun v72 => (gaI w c0 (z4 + 13)).bind fun v74 => gbind (f_W_box g0 c1 v50 (((v52.toInt64) <<< ((32 : Int32).toInt64 &&& 63)) ||| ((v54.toInt64) &&& 4294967295)) (((v56.toInt64) <<< ((32 : Int32).toInt64 &&& 63)) ||| ((v58.toInt64) &&& 4294967295)) (((v60.toInt64) <<< ((32 : Int32).toInt64 &&& 63)) ||| ((v62.toInt64) &&& 4294967295)) (((v64.toInt64) <<< ((32 : Int32).toInt64 &&& 63)) ||| ((v66.toInt64) &&& 4294967295)) (((v68.toInt64) <<< ((32 : Int32).toInt64 &&& 63)) ||| ((v70.toInt64) &&& 4294967295)) (((v72.toInt64) <<< ((32 : Int32).toInt64 &&& 63)) ||| ((v74.toInt64) &&& 4294967295)) c3 w) fun v78 w => (gaI w c0 (z4 + 1)).bind fun v79 => (gaI w c0 (z4 + 2)).bind fun v81 => (gaI w c0 (z4 + 3)).bind fun v83 => (gaI w c0 (z4 + 4)).bind fun v85 => (gaI w c0 (z4 + 5)).bind fun v87 => (gaI w c0 (z4 + 6)).bind fun v89 => (gaI w c0 (z4 + 7)).bind fun v91 => (gaI w c0 (z4 + 8)).bind fun v93 => (gaI w c0 (z4 + 9)).bind fun v95 => (gaI w c0 (z4 + 10)).bind fun v97 => (gaI w c0 (z4 + 11)).bind fun v99 => (gaI w c0 (z4 + 12)).bind fun v101 => (gaI w c0 (z4 + 13)).bind fun v103 => (gck w c2 7).bind fun _ => gbind (f_M_box g0 c2 v79 (((v81.toInt64) <<< ((32 : Int32).toInt64 &&& 63)) ||| ((v83.toInt64) &&& 4294967295)) (((v85.toInt64) <<< ((32 : Int32).toInt64 &&& 63)) ||| ((v87.toInt64) &&& 4294967295)) (((v89.toInt64) <<< ((32 : Int32).toInt64 &&& 63)) ||| ((v91.toInt64) &&& 4294967295)) (((v93.toInt64) <<< ((32 : Int32).toInt64 &&& 63)) ||| ((v95.toInt64) &&& 4294967295)) (((v97.toInt64) <<< ((32 : Int32).toInt64 &&& 63)) ||| ((v99.toInt64) &&& 4294967295)) (((v101.toInt64) <<< ((32 : Int32).toInt64 &&& 63)) ||| ((v103.toInt64) &&& 4294967295)) w) fun v109 w => (gck w c2 7).bind fun _ => gbind (f_M_thrown g0 c2 w) fun v114 w => if v114 = v78 then (gjoin (fun K489 => if v78 = 0 then ((gaJ w c3 0).bind fun v117 => gjoin (fun K483 => if v109 = 0 then (K483 0 w) else (K483 1 w)) (fun (y119 : Int64) (w : gW) => if v117 = y119 then (K489 w) else (K487 w))) else (K489 w)) (fun (w : gW) => K2104 w)) else (K463 w)) else (if (v36 &&& 31) = 2 then (K492 z4 w) else (if (v36 &&& 31) = 3 then ((gaI w c0 (z4 + 1)).bind fun v124 => (gaI w c0 (z4 + 2)).bind fun v126 => (gaI w c0 (z4 + 3)).bind fun v128 => (gaI w c0 (z4 + 4)).bind fun v130 => gbind (f_W_corner g0 c1 (((v124.toInt64) <<< ((32 : Int32).toInt64 &&& 63)) ||| ((v126.toInt64) &&& 4294967295)) (((v128.toInt64) <<< ((32 : Int32).toInt64 &&& 63)) ||| ((v130.toInt64) &&& 4294967295)) c3 w) fun v134 w => (gaI w c0 (z4 + 1)).bind fun v135 => (gaI w c0 (z4 + 2)).bind fun v137 => (gaI w c0 (z4 + 3)).bind fun v139 => (gaI w c0 (z4 + 4)).bind fun v141 => (gck w c2 7).bind fun _ => gbind (f_M_corner g0 c2 (((v135.toInt64) <<< ((32 : Int32).toInt64 &&& 63)) ||| ((v137.toInt64) &&& 4294967295)) (((v139.toInt64) <<< ((32 : Int32).toInt64 &&& 63)) ||| ((v141.toInt64) &&& 4294967295)) w) fun v147 w => K2104 w) else (if (v36 &&& 31) = 4 then ((gaI w c0 (z4 + 1)).bind fun v149 => (gaI w c0 (z4 + 2)).bind fun v151 => (gaI w c0 (z4 + 3)).bind fun v153 => (gaI w c0 (z4 + 4)).bind fun v155 => (gaI w c0 (z4 + 5)).bind fun v157 => gbind (f_W_prism g0 c1 v149 (((v151.toInt64) <<< ((32 : Int32).toInt64 &&& 63)) ||| ((v153.toInt64) &&& 4294967295)) (((v155.toInt64) <<< ((32 : Int32).toInt64 &&& 63)) ||| ((v157.toInt64) &&& 4294967295)) c3 w) fun v161 w => (gaI w c0 (z4 + 1)).bind fun v162 => (gaI w c0 (z4 + 2)).bind fun v164 => (gaI w c0 (z4 + 3)).bind fun v166 => (gaI w c0 (z4 + 4)).bind fun v168 => (gaI w c0 (z4 + 5)).bind fun v170 => (gck w c2 7).bind fun _ => gbind (f_M_prism g0 c2 v162 (((v164.toInt64) <<< ((32 : Int32).toInt64 &&& 63)) ||| ((v166.toInt64) &&& 4294967295)) (((v168.toInt64) <<< ((32 : Int32).toInt64 &&& 63)) ||| ((v170.toInt64) &&& 4294967295)) w) fun v176 w => K2104 w) else (if (v36 &&& 31) = 5 then (K972 z4 w) else (if (v36 &&& 31) = 6 then ((gaI w c0 (z4 + 1)).bind fun v179 => (gaI w c0 (z4 + 2)).bind fun v181 => gbind (f_W_join g0 c1 v179 v181 c3 w) fun v185 w => (gaI w c0 (z4 + 1)).bind fun v186 => (gaI w c0 (z4 + 2)).bind fun v188 => (gck w c2 7).bind fun _ => gbind (f_M_join g0 c2 v186 v188 w) fun v194 w => K2104 w) else (if (v36 &&& 31) = 7 then (K1286 z4 w) else (if (v36 &&& 31) = 8 then (K1430 z4 w) else (if (v36 &&& 31) = 9 then (K1574 z4 w) else (if (v36 &&& 31) = 10 then (K1614 w) else (if (v36 &&& 31) = 11 then (K1627 z4 w) else (if (v36 &&& 31) = 12 then (K1667 z4 w) else (if (v36 &&& 31) = 13 then (K1927 z4 w) else (if (v36 &&& 31) = 14 then (K1952 z4 w) else (if (v36 &&& 31) = 15 then (K1992 z4 w) else (if (v36 &&& 31) = 16 then (K2076 z4 w) else (K2104 w)))))))))))))))))) (fun (w : gW) => f_law_L35 g0 c0 c1 c2 c3 K2110 K492 K972 K1286 K1430 K1574 K1614 K1627 K1667 K1927 K1952 K1992 K2076 K463 K487 n (z4 + 14) w))
def f_law (g0 : gG) (a0 : Nat) (w : gW) : gX Int32 := gb2f (gnw w 0 [.long 0, .null, .null, .null, .null, .null, .int 0, .null, .null, .null]) fun o1 w => gbind (f_W_cell g0 a0 0 w) fun v5 w => gbind (f_B_init g0 o1 (v5.toInt64) w) fun v8 w => gb2f (gnw w 7 [.int 0, .long 0, .int 0, .null, .null, .null, .null, .null, .null, .int 0, .null, .null, .int 0, .null, .null, .null, .null, .null, .int 0, .null, .null, .null, .null, .null, .null, .null, .null]) fun o9 w => gbind (f_W_cell g0 a0 0 w) fun v13 w => gbind (f_M_init g0 o9 (v13.toInt64) w) fun v16 w => gb2f (gna w 1 1 1 (.long 0)) fun o17 w => gjoin (fun K2110 => gjoin (fun K487 => gjoin (fun K463 => gjoin (fun K492 => gjoin (fun K972 => gjoin (fun K1286 => gjoin (fun K1430 => gjoin (fun K1574 => gjoin (fun K1614 => gjoin (fun K1627 => gjoin (fun K1667 => gjoin (fun K1927 => gjoin (fun K1952 => gjoin (fun K1992 => gjoin (fun K2076 => f_law_L35 g0 a0 o1 o9 o17 K2110 K492 K972 K1286 K1430 K1574 K1614 K1627 K1667 K1927 K1952 K1992 K2076 K463 K487 513 1 w) (fun (x32 : Int32) (w : gW) => none)) (fun (x31 : Int32) (w : gW) => none)) (fun (x30 : Int32) (w : gW) => none)) (fun (x29 : Int32) (w : gW) => none)) (fun (x28 : Int32) (w : gW) => none)) (fun (x27 : Int32) (w : gW) => none)) (fun (w : gW) => none)) (fun (x26 : Int32) (w : gW) => none)) (fun (x25 : Int32) (w : gW) => none)) (fun (x24 : Int32) (w : gW) => none)) (fun (x23 : Int32) (w : gW) => none)) (fun (x22 : Int32) (w : gW) => none)) (fun (w : gW) => gguard ((0 : Int32) = 0 ∨ (0 : Int32) = 1) (some (.inr 0, w)))) (fun (w : gW) => gguard ((0 : Int32) = 0 ∨ (0 : Int32) = 1) (some (.inr 0, w)))) (fun (w : gW) => gguard ((1 : Int32) = 0 ∨ (1 : Int32) = 1) (some (.inr 1, w)))
def gw0 (b L e n : Nat) (xs : Nat → Int32) : gW := (fun q => if q = b then some (.inl (4, L, fun j => .int (xs j))) else if q = e then some (.inl (5, 0, fun _ => .null)) else none, n)
end
section
/-! ===== a refutation: the script, and what the law's pure function answers on it (evaluated by the kernel) ===== -/
def rf_xs : List Int32 := [0, 0, 0, 0, 0, 0, 0, 0, 0, 0, 0, 0, 0, 0, 0, 1, 0, 0, 0, 0, 0, 0, 0, 0, 1, 0, 1, 0, 1, 1, 0, 0, 0, 0, 0, 0, 0, 0, 1, 0, 1, 0, 1, 1, 0, 0, 0, 0, 0, 0, 0, 0, 1, 0, 1, 0, 1, 6, 0, 0, 0, 0, 0, 0, 0, 0, 0, 0, 0, 0, 0, 6, 1, 1, 0, 0, 0, 0, 0, 0, 0, 0, 0, 0, 0, 3, 0, 0, 0, 0, 0, 0, 0, 0, 0, 0, 0, 0, 0, 3, 0, 1, 0, 0, 0, 0, 0, 0, 0, 0, 0, 0, 0, 4, 2, 0, 0, 0, 2, 0, 0, 0, 0, 0, 0, 0, 0, 3, 0, 0, 0, 1, 0, 0, 0, 0, 0, 0, 0, 0, 0, 4, 1, 0, 0, 0, 2, 0, 0, 0, 0, 0, 0, 0, 0, 1, 1, 0, 0, 0, 0, 0, 0, 0, 1, 0, 1, 0, 1, 1, 1, 0, 0, 0, 0, 0, 0, 0, 1, 0, 1, 0, 1, 1, 1, 0, 0, 0, 0, 0, 0, 0, 1, 0, 1, 0, 1, 1, 1, 0, 0, 0, 0, 0, 0, 0, 1, 0, 1, 0, 1, 1, 1, 0, 0, 0, 0, 0, 0, 0, 1, 0, 1, 0, 1, 1, 1, 0, 0, 0, 0, 0, 0, 0, 1, 0, 1, 0, 1]
def rf_is (r : gX Int32) : Bool := match r with
  | some (.inr v, _) => decide (v = 0)
  | _ => false
theorem rf_is_spec : ∀ r : gX Int32, rf_is r = true → ∃ w1, r = some (.inr 0, w1)
  | some (.inr v, w1), h => ⟨w1, by rw [of_decide_eq_true h]⟩
  | some (.inl _, _), h => by cases h
  | none, h => by cases h
theorem rf_ev : rf_is (f_law (3, 10) 0 (gw0 0 rf_xs.length 3 11 (fun j => rf_xs.getD j 0))) = true := by decide +kernel
theorem rf_f : ∃ w1, f_law (3, 10) 0 (gw0 0 rf_xs.length 3 11 (fun j => rf_xs.getD j 0)) = some (.inr 0, w1) := rf_is_spec _ rf_ev
end
section
/-! ===== a refutation: the script, the start (the witness's, with this script), and what holds there ===== -/
def rf_cells : Array Value := ⟨rf_xs.map Value.int⟩
def rf_s : State := start1.aboutOf rf_cells
theorem rf_vm (A B : Array Value) : (start1.aboutOf A).vm = (start1.aboutOf B).vm := rfl
theorem rf_warm : start1.about.WarmedH rf_s.vm := by
  have h : rf_s.vm = start1.about.vm := rf_vm _ _
  rw [h]
  exact State.WarmedH.refl start1.about
theorem rf_nest {w : Cond} (h : gNest w = true) {s U : State} (hW : s.WarmedH U.vm) {a : Array Value} (hb : w.before a s = true) (a' : Array Value) : w.before a' U = true := by
  cases w
  case fieldLinkNest => exact va_Nw.use rfl (va_Nw.warmF hW hb)
  case methodLinkNest => exact va_Nw.use rfl (va_Nw.warmM hW hb)
  case castable => exact va_Nw.use rfl (va_Nw.warmC hW hb)
  case declares => exact va_Nw.use rfl (va_Nw.warmD hW hb)
  case arrayOver f =>
    cases f with
    | object C => exact va_AO.use (va_AO.moved hW.alike (va_AO.of hb))
    | _ => exact word_at hW (good_of_word h) hb
  all_goals exact word_at hW (good_of_word h) hb
theorem rf_others : ((Cond.code x code maxLocals ret :: tables_1).filter (fun c => !gNest c)).all (fun c => c.before start1.args0 rf_s) = true := by decide +kernel
theorem rf_words : ∀ c ∈ (Cond.code x code maxLocals ret :: tables_1), c.before start1.args0 rf_s = true := by
  intro c hc
  have hb := start1.words c hc
  cases hg : gNest c with
  | true => exact rf_nest hg rf_warm hb start1.args0
  | false => exact List.all_eq_true.mp rf_others c (List.mem_filter.mpr ⟨hc, by rw [hg]; rfl⟩)
theorem rf_pre : (Cond.and given_1 narrow_1).before start1.args0 rf_s = true := by decide +kernel
theorem rf_rest : rest_1_c.before start1.args0 rf_s = true := by decide +kernel
theorem rf_app : (headSpec (Cond.code x code maxLocals ret :: tables_1) room_1).applies x start1.e0.platform rf_s = true :=
  (Spec.applies_iff rfl).mpr ⟨rfl, rfl, rfl, by decide +kernel, by decide +kernel, by decide +kernel, launch0.hasRoom_least _ room_1 (by decide +kernel) (by decide +kernel) (by decide +kernel) (by decide +kernel) (by decide +kernel) (by decide +kernel), atoms_intro rf_words⟩
theorem rf_atStart : AtStart classFile x code maxLocals ret World_1 tables_1 room_1 Calls_1 rest_1 Pre_1 launch0 start1.p0 start1.e0 rf_s ⟨0, 0⟩ start1.args0 Lib.HandBits.below0 :=
  ⟨lists_1, trivial, launch0.admits_env _ _ _, launch0.least_env, fairChoices_fair.cas, fairChoices_fair.clock, rfl, by decide +kernel, by decide +kernel, rf_app, trivial, rf_rest, rf_pre⟩
theorem rf_size : rf_s.heap.size = 11 := rfl
theorem rf_mi {mi : Nat} (h : va_Mi "[Ljava/lang/Object;" mi rf_s) : mi = 10 := by
  obtain ⟨c, k, h1, h2, h3⟩ := h
  have h4 : ((rf_s.vm.findClass "[Ljava/lang/Object;").bind fun c => (rf_s.vm.classes[c]?).bind fun k => k.mirror) = some 10 := by decide +kernel
  rw [h1, Option.bind_some, h2, Option.bind_some, h3] at h4
  exact Option.some.inj h4
def rf_ref : Option Value → Nat
  | some (.ref a) => a
  | _ => 0
theorem rf_d {d : Nat} {A : Nat → Prop} (h : va_Z "java/util/ArrayList" "DEFAULTCAPACITY_EMPTY_ELEMENTDATA" "[Ljava/lang/Object;" (.ref d) A rf_s rf_s.heap) : d = 3 := by
  obtain ⟨cf, kf, fi, f, a, cell, h1, h2, h3, h4, h5, h6, h7, h8⟩ := h
  have h9 : rf_ref ((rf_s.fieldFound? "java/util/ArrayList" "DEFAULTCAPACITY_EMPTY_ELEMENTDATA" "[Ljava/lang/Object;").bind fun q => q.2.1.statics.bind fun a => (rf_s.heap[a]?).bind fun cell => cell.slots[q.2.2.2.slot]?) = 3 := by decide +kernel
  rw [h1, Option.bind_some, h4, Option.bind_some, h5, Option.bind_some, h7] at h9
  exact h9
theorem rf_ints : rf_s.IntsAt 0 rf_xs := by
  have h0 := flat_of_before _ rf_pre
  have h1 := flat_of_before _ rf_rest
  have harr : (Cond.arrayOf (.arg 0) .int).before start1.args0 rf_s = true := h0 _ (by decide +kernel)
  have hlen : (Cond.isInt (.length (.arg 0))).before start1.args0 rf_s = true := h1 _ (by decide +kernel)
  have hall : (Cond.all (.arg 0) (.isInt (.elem (.arg 0) (.index 0)))).before start1.args0 rf_s = true := h1 _ (by decide +kernel)
  obtain ⟨b, xs, hb, hx⟩ := State.ints_of_pre rfl harr hlen hall
  have hb0 : b = 0 := by
    have h2 : start1.args0[0]? = some (.ref 0) := rfl
    have h3 : start1.args0[0]? = some (.ref b) := hb
    rw [h2] at h3
    cases h3
    rfl
  subst hb0
  obtain ⟨cell, g1, g2, g3, g4⟩ := hx
  obtain ⟨k1, -, -, -⟩ := State.arrayAt?_spec g1
  have k2 : cell.slots.toList = rf_xs.map Value.int := by
    have k3 : rf_s.heap[0]? = some { cls := 34, slots := rf_cells, vm := .none } := rfl
    rw [k3] at k1
    cases k1
    rfl
  have hm : (xs.map Value.int).length = (rf_xs.map Value.int).length := by rw [← g2, k2]
  exact ⟨cell, g1, k2, g3, by rw [List.length_map, List.length_map] at hm; omega⟩
end
section
set_option maxRecDepth 100000 in
theorem wd_72 : Jvm.Cond.classLink "BodySolidsLaw" (8 : Nat) "BodySolids" ∈ gAll := gm 72 rfl rfl
set_option maxRecDepth 100000 in
theorem wd_74 : Jvm.Cond.methodLink "BodySolidsLaw" (75 : Nat) ({ cls := "BodySolids", name := "<init>", desc := "(J)V" } : Jvm.MethodName) ∈ gAll := gm 74 rfl rfl
set_option maxRecDepth 100000 in
theorem wd_220 : Jvm.Cond.methodLink "BodySolidsLaw" (81 : Nat) ({ cls := "BodySolids", name := "body", desc := "()I" } : Jvm.MethodName) ∈ gAll := gm 220 rfl rfl
set_option maxRecDepth 100000 in
theorem wd_222 : Jvm.Cond.selects "BodySolids" ({ cls := "BodySolids", name := "body", desc := "()I" } : Jvm.MethodName) ({ cls := "BodySolids", name := "body", desc := "()I" } : Jvm.MethodName) ∈ gAll := gm 222 rfl rfl
set_option maxRecDepth 100000 in
theorem wd_424 : Jvm.Cond.methodLink "BodySolidsLaw" (69 : Nat) ({ cls := "BodySolidsLaw", name := "cell", desc := "([II)I" } : Jvm.MethodName) ∈ gAll := gm 424 rfl rfl
set_option maxRecDepth 100000 in
theorem wd_427 : Jvm.Cond.methodLink "BodySolidsLaw" (88 : Nat) ({ cls := "BodySolidsLaw", name := "box", desc := "(LBodySolids;IJJJJJJ[J)I" } : Jvm.MethodName) ∈ gAll := gm 427 rfl rfl
set_option maxRecDepth 100000 in
theorem wd_577 : Jvm.Cond.methodLink "BodySolidsLaw" (99 : Nat) ({ cls := "BodySolidsLaw", name := "corner", desc := "(LBodySolids;JJ[J)I" } : Jvm.MethodName) ∈ gAll := gm 577 rfl rfl
set_option maxRecDepth 100000 in
theorem wd_584 : Jvm.Cond.methodLink "BodySolidsLaw" (103 : Nat) ({ cls := "BodySolidsLaw", name := "prism", desc := "(LBodySolids;IJJ[J)I" } : Jvm.MethodName) ∈ gAll := gm 584 rfl rfl
set_option maxRecDepth 100000 in
theorem wd_622 : Jvm.Cond.methodLink "BodySolidsLaw" (111 : Nat) ({ cls := "BodySolidsLaw", name := "join", desc := "(LBodySolids;II[J)I" } : Jvm.MethodName) ∈ gAll := gm 622 rfl rfl
set_option maxRecDepth 100000 in
theorem wd_779 : Jvm.Cond.classLink "BodySolidsLaw" (78 : Nat) "BodySolidsModel" ∈ gAll := gm 779 rfl rfl
set_option maxRecDepth 100000 in
theorem wd_781 : Jvm.Cond.methodLink "BodySolidsLaw" (80 : Nat) ({ cls := "BodySolidsModel", name := "<init>", desc := "(J)V" } : Jvm.MethodName) ∈ gAll := gm 781 rfl rfl
set_option maxRecDepth 100000 in
theorem wd_868 : Jvm.Cond.methodLink "BodySolidsLaw" (92 : Nat) ({ cls := "BodySolidsModel", name := "thrown", desc := "()I" } : Jvm.MethodName) ∈ gAll := gm 868 rfl rfl
set_option maxRecDepth 100000 in
theorem wd_870 : Jvm.Cond.selects "BodySolidsModel" ({ cls := "BodySolidsModel", name := "thrown", desc := "()I" } : Jvm.MethodName) ({ cls := "BodySolidsModel", name := "thrown", desc := "()I" } : Jvm.MethodName) ∈ gAll := gm 870 rfl rfl
set_option maxRecDepth 100000 in
theorem wd_872 : Jvm.Cond.methodLink "BodySolidsLaw" (85 : Nat) ({ cls := "BodySolidsModel", name := "body", desc := "()I" } : Jvm.MethodName) ∈ gAll := gm 872 rfl rfl
set_option maxRecDepth 100000 in
theorem wd_874 : Jvm.Cond.selects "BodySolidsModel" ({ cls := "BodySolidsModel", name := "body", desc := "()I" } : Jvm.MethodName) ({ cls := "BodySolidsModel", name := "body", desc := "()I" } : Jvm.MethodName) ∈ gAll := gm 874 rfl rfl
set_option maxRecDepth 100000 in
theorem wd_876 : Jvm.Cond.methodLink "BodySolidsLaw" (91 : Nat) ({ cls := "BodySolidsModel", name := "box", desc := "(IJJJJJJ)Z" } : Jvm.MethodName) ∈ gAll := gm 876 rfl rfl
set_option maxRecDepth 100000 in
theorem wd_878 : Jvm.Cond.selects "BodySolidsModel" ({ cls := "BodySolidsModel", name := "box", desc := "(IJJJJJJ)Z" } : Jvm.MethodName) ({ cls := "BodySolidsModel", name := "box", desc := "(IJJJJJJ)Z" } : Jvm.MethodName) ∈ gAll := gm 878 rfl rfl
set_option maxRecDepth 100000 in
theorem wd_910 : Jvm.Cond.methodLink "BodySolidsLaw" (102 : Nat) ({ cls := "BodySolidsModel", name := "corner", desc := "(JJ)Z" } : Jvm.MethodName) ∈ gAll := gm 910 rfl rfl
set_option maxRecDepth 100000 in
theorem wd_912 : Jvm.Cond.selects "BodySolidsModel" ({ cls := "BodySolidsModel", name := "corner", desc := "(JJ)Z" } : Jvm.MethodName) ({ cls := "BodySolidsModel", name := "corner", desc := "(JJ)Z" } : Jvm.MethodName) ∈ gAll := gm 912 rfl rfl
set_option maxRecDepth 100000 in
theorem wd_914 : Jvm.Cond.methodLink "BodySolidsLaw" (106 : Nat) ({ cls := "BodySolidsModel", name := "prism", desc := "(IJJ)Z" } : Jvm.MethodName) ∈ gAll := gm 914 rfl rfl
set_option maxRecDepth 100000 in
theorem wd_916 : Jvm.Cond.selects "BodySolidsModel" ({ cls := "BodySolidsModel", name := "prism", desc := "(IJJ)Z" } : Jvm.MethodName) ({ cls := "BodySolidsModel", name := "prism", desc := "(IJJ)Z" } : Jvm.MethodName) ∈ gAll := gm 916 rfl rfl
set_option maxRecDepth 100000 in
theorem wd_932 : Jvm.Cond.methodLink "BodySolidsLaw" (114 : Nat) ({ cls := "BodySolidsModel", name := "join", desc := "(II)I" } : Jvm.MethodName) ∈ gAll := gm 932 rfl rfl
set_option maxRecDepth 100000 in
theorem wd_934 : Jvm.Cond.selects "BodySolidsModel" ({ cls := "BodySolidsModel", name := "join", desc := "(II)I" } : Jvm.MethodName) ({ cls := "BodySolidsModel", name := "join", desc := "(II)I" } : Jvm.MethodName) ∈ gAll := gm 934 rfl rfl
set_option maxRecDepth 100000 in
theorem wd_1121 : Jvm.Cond.constantLong "BodySolidsLaw" (86 : Nat) (4294967295 : Int64) ∈ gAll := gm 1121 rfl rfl
abbrev b_law : ByteArray := code
def y_law : MethodName := ⟨"BodySolidsLaw", "law", "([I)Z"⟩
theorem d_law_0 : decode b_law 0 = .ok (.new 8, 3) := by decide +kernel
theorem d_law_3 : decode b_law 3 = .ok (.dup, 1) := by decide +kernel
theorem d_law_4 : decode b_law 4 = .ok (.aload_n 0, 1) := by decide +kernel
theorem d_law_5 : decode b_law 5 = .ok (.iconst 0, 1) := by decide +kernel
theorem d_law_6 : decode b_law 6 = .ok (.invokestatic 69, 3) := by decide +kernel
theorem d_law_9 : decode b_law 9 = .ok (.i2l, 1) := by decide +kernel
theorem d_law_10 : decode b_law 10 = .ok (.invokespecial 75, 3) := by decide +kernel
theorem d_law_13 : decode b_law 13 = .ok (.astore_n 1, 1) := by decide +kernel
theorem d_law_14 : decode b_law 14 = .ok (.new 78, 3) := by decide +kernel
theorem d_law_17 : decode b_law 17 = .ok (.dup, 1) := by decide +kernel
theorem d_law_18 : decode b_law 18 = .ok (.aload_n 0, 1) := by decide +kernel
theorem d_law_19 : decode b_law 19 = .ok (.iconst 0, 1) := by decide +kernel
theorem d_law_20 : decode b_law 20 = .ok (.invokestatic 69, 3) := by decide +kernel
theorem d_law_23 : decode b_law 23 = .ok (.i2l, 1) := by decide +kernel
theorem d_law_24 : decode b_law 24 = .ok (.invokespecial 80, 3) := by decide +kernel
theorem d_law_27 : decode b_law 27 = .ok (.astore_n 2, 1) := by decide +kernel
theorem d_law_28 : decode b_law 28 = .ok (.iconst 1, 1) := by decide +kernel
theorem d_law_29 : decode b_law 29 = .ok (.newarray .long, 2) := by decide +kernel
theorem d_law_31 : decode b_law 31 = .ok (.astore_n 3, 1) := by decide +kernel
theorem d_law_32 : decode b_law 32 = .ok (.iconst 1, 1) := by decide +kernel
theorem d_law_33 : decode b_law 33 = .ok (.istore 4, 2) := by decide +kernel
theorem d_law_35 : decode b_law 35 = .ok (.iload 4, 2) := by decide +kernel
theorem d_law_37 : decode b_law 37 = .ok (.aload_n 0, 1) := by decide +kernel
theorem d_law_38 : decode b_law 38 = .ok (.arraylength, 1) := by decide +kernel
theorem d_law_39 : decode b_law 39 = .ok (.bipush 14, 2) := by decide +kernel
theorem d_law_41 : decode b_law 41 = .ok (.isub, 1) := by decide +kernel
theorem d_law_42 : decode b_law 42 = .ok (.if_icmp .gt 2068, 3) := by decide +kernel
theorem d_law_45 : decode b_law 45 = .ok (.aload_n 0, 1) := by decide +kernel
theorem d_law_46 : decode b_law 46 = .ok (.iload 4, 2) := by decide +kernel
theorem d_law_48 : decode b_law 48 = .ok (.iaload, 1) := by decide +kernel
theorem d_law_49 : decode b_law 49 = .ok (.bipush 31, 2) := by decide +kernel
theorem d_law_51 : decode b_law 51 = .ok (.iand, 1) := by decide +kernel
theorem d_law_52 : decode b_law 52 = .ok (.tableswitch 2052 0 16 #[84, 97, 440, 700, 804, 920, 1194, 1234, 1378, 1522, 1562, 1575, 1615, 1875, 1900, 1940, 2024], 84) := by decide +kernel
theorem d_law_136 : decode b_law 136 = .ok (.aload_n 1, 1) := by decide +kernel
theorem d_law_137 : decode b_law 137 = .ok (.invokevirtual 81, 3) := by decide +kernel
theorem d_law_140 : decode b_law 140 = .ok (.pop, 1) := by decide +kernel
theorem d_law_141 : decode b_law 141 = .ok (.aload_n 2, 1) := by decide +kernel
theorem d_law_142 : decode b_law 142 = .ok (.invokevirtual 85, 3) := by decide +kernel
theorem d_law_145 : decode b_law 145 = .ok (.pop, 1) := by decide +kernel
theorem d_law_146 : decode b_law 146 = .ok (.goto 1958, 3) := by decide +kernel
theorem d_law_149 : decode b_law 149 = .ok (.aload_n 1, 1) := by decide +kernel
theorem d_law_150 : decode b_law 150 = .ok (.aload_n 0, 1) := by decide +kernel
theorem d_law_151 : decode b_law 151 = .ok (.iload 4, 2) := by decide +kernel
theorem d_law_153 : decode b_law 153 = .ok (.iconst 1, 1) := by decide +kernel
theorem d_law_154 : decode b_law 154 = .ok (.iadd, 1) := by decide +kernel
theorem d_law_155 : decode b_law 155 = .ok (.iaload, 1) := by decide +kernel
theorem d_law_156 : decode b_law 156 = .ok (.aload_n 0, 1) := by decide +kernel
theorem d_law_157 : decode b_law 157 = .ok (.iload 4, 2) := by decide +kernel
theorem d_law_159 : decode b_law 159 = .ok (.iconst 2, 1) := by decide +kernel
theorem d_law_160 : decode b_law 160 = .ok (.iadd, 1) := by decide +kernel
theorem d_law_161 : decode b_law 161 = .ok (.iaload, 1) := by decide +kernel
theorem d_law_162 : decode b_law 162 = .ok (.i2l, 1) := by decide +kernel
theorem d_law_163 : decode b_law 163 = .ok (.bipush 32, 2) := by decide +kernel
theorem d_law_165 : decode b_law 165 = .ok (.lshl, 1) := by decide +kernel
theorem d_law_166 : decode b_law 166 = .ok (.aload_n 0, 1) := by decide +kernel
theorem d_law_167 : decode b_law 167 = .ok (.iload 4, 2) := by decide +kernel
theorem d_law_169 : decode b_law 169 = .ok (.iconst 3, 1) := by decide +kernel
theorem d_law_170 : decode b_law 170 = .ok (.iadd, 1) := by decide +kernel
theorem d_law_171 : decode b_law 171 = .ok (.iaload, 1) := by decide +kernel
theorem d_law_172 : decode b_law 172 = .ok (.i2l, 1) := by decide +kernel
theorem d_law_173 : decode b_law 173 = .ok (.ldc2_w 86, 3) := by decide +kernel
theorem d_law_176 : decode b_law 176 = .ok (.land, 1) := by decide +kernel
theorem d_law_177 : decode b_law 177 = .ok (.lor, 1) := by decide +kernel
theorem d_law_178 : decode b_law 178 = .ok (.aload_n 0, 1) := by decide +kernel
theorem d_law_179 : decode b_law 179 = .ok (.iload 4, 2) := by decide +kernel
theorem d_law_181 : decode b_law 181 = .ok (.iconst 4, 1) := by decide +kernel
theorem d_law_182 : decode b_law 182 = .ok (.iadd, 1) := by decide +kernel
theorem d_law_183 : decode b_law 183 = .ok (.iaload, 1) := by decide +kernel
theorem d_law_184 : decode b_law 184 = .ok (.i2l, 1) := by decide +kernel
theorem d_law_185 : decode b_law 185 = .ok (.bipush 32, 2) := by decide +kernel
theorem d_law_187 : decode b_law 187 = .ok (.lshl, 1) := by decide +kernel
theorem d_law_188 : decode b_law 188 = .ok (.aload_n 0, 1) := by decide +kernel
theorem d_law_189 : decode b_law 189 = .ok (.iload 4, 2) := by decide +kernel
theorem d_law_191 : decode b_law 191 = .ok (.iconst 5, 1) := by decide +kernel
theorem d_law_192 : decode b_law 192 = .ok (.iadd, 1) := by decide +kernel
theorem d_law_193 : decode b_law 193 = .ok (.iaload, 1) := by decide +kernel
theorem d_law_194 : decode b_law 194 = .ok (.i2l, 1) := by decide +kernel
theorem d_law_195 : decode b_law 195 = .ok (.ldc2_w 86, 3) := by decide +kernel
theorem d_law_198 : decode b_law 198 = .ok (.land, 1) := by decide +kernel
theorem d_law_199 : decode b_law 199 = .ok (.lor, 1) := by decide +kernel
theorem d_law_200 : decode b_law 200 = .ok (.aload_n 0, 1) := by decide +kernel
theorem d_law_201 : decode b_law 201 = .ok (.iload 4, 2) := by decide +kernel
theorem d_law_203 : decode b_law 203 = .ok (.bipush 6, 2) := by decide +kernel
theorem d_law_205 : decode b_law 205 = .ok (.iadd, 1) := by decide +kernel
theorem d_law_206 : decode b_law 206 = .ok (.iaload, 1) := by decide +kernel
theorem d_law_207 : decode b_law 207 = .ok (.i2l, 1) := by decide +kernel
theorem d_law_208 : decode b_law 208 = .ok (.bipush 32, 2) := by decide +kernel
theorem d_law_210 : decode b_law 210 = .ok (.lshl, 1) := by decide +kernel
theorem d_law_211 : decode b_law 211 = .ok (.aload_n 0, 1) := by decide +kernel
theorem d_law_212 : decode b_law 212 = .ok (.iload 4, 2) := by decide +kernel
theorem d_law_214 : decode b_law 214 = .ok (.bipush 7, 2) := by decide +kernel
theorem d_law_216 : decode b_law 216 = .ok (.iadd, 1) := by decide +kernel
theorem d_law_217 : decode b_law 217 = .ok (.iaload, 1) := by decide +kernel
theorem d_law_218 : decode b_law 218 = .ok (.i2l, 1) := by decide +kernel
theorem d_law_219 : decode b_law 219 = .ok (.ldc2_w 86, 3) := by decide +kernel
theorem d_law_222 : decode b_law 222 = .ok (.land, 1) := by decide +kernel
theorem d_law_223 : decode b_law 223 = .ok (.lor, 1) := by decide +kernel
theorem d_law_224 : decode b_law 224 = .ok (.aload_n 0, 1) := by decide +kernel
theorem d_law_225 : decode b_law 225 = .ok (.iload 4, 2) := by decide +kernel
theorem d_law_227 : decode b_law 227 = .ok (.bipush 8, 2) := by decide +kernel
theorem d_law_229 : decode b_law 229 = .ok (.iadd, 1) := by decide +kernel
theorem d_law_230 : decode b_law 230 = .ok (.iaload, 1) := by decide +kernel
theorem d_law_231 : decode b_law 231 = .ok (.i2l, 1) := by decide +kernel
theorem d_law_232 : decode b_law 232 = .ok (.bipush 32, 2) := by decide +kernel
theorem d_law_234 : decode b_law 234 = .ok (.lshl, 1) := by decide +kernel
theorem d_law_235 : decode b_law 235 = .ok (.aload_n 0, 1) := by decide +kernel
theorem d_law_236 : decode b_law 236 = .ok (.iload 4, 2) := by decide +kernel
theorem d_law_238 : decode b_law 238 = .ok (.bipush 9, 2) := by decide +kernel
theorem d_law_240 : decode b_law 240 = .ok (.iadd, 1) := by decide +kernel
theorem d_law_241 : decode b_law 241 = .ok (.iaload, 1) := by decide +kernel
theorem d_law_242 : decode b_law 242 = .ok (.i2l, 1) := by decide +kernel
theorem d_law_243 : decode b_law 243 = .ok (.ldc2_w 86, 3) := by decide +kernel
theorem d_law_246 : decode b_law 246 = .ok (.land, 1) := by decide +kernel
theorem d_law_247 : decode b_law 247 = .ok (.lor, 1) := by decide +kernel
theorem d_law_248 : decode b_law 248 = .ok (.aload_n 0, 1) := by decide +kernel
theorem d_law_249 : decode b_law 249 = .ok (.iload 4, 2) := by decide +kernel
theorem d_law_251 : decode b_law 251 = .ok (.bipush 10, 2) := by decide +kernel
theorem d_law_253 : decode b_law 253 = .ok (.iadd, 1) := by decide +kernel
theorem d_law_254 : decode b_law 254 = .ok (.iaload, 1) := by decide +kernel
theorem d_law_255 : decode b_law 255 = .ok (.i2l, 1) := by decide +kernel
theorem d_law_256 : decode b_law 256 = .ok (.bipush 32, 2) := by decide +kernel
theorem d_law_258 : decode b_law 258 = .ok (.lshl, 1) := by decide +kernel
theorem d_law_259 : decode b_law 259 = .ok (.aload_n 0, 1) := by decide +kernel
theorem d_law_260 : decode b_law 260 = .ok (.iload 4, 2) := by decide +kernel
theorem d_law_262 : decode b_law 262 = .ok (.bipush 11, 2) := by decide +kernel
theorem d_law_264 : decode b_law 264 = .ok (.iadd, 1) := by decide +kernel
theorem d_law_265 : decode b_law 265 = .ok (.iaload, 1) := by decide +kernel
theorem d_law_266 : decode b_law 266 = .ok (.i2l, 1) := by decide +kernel
theorem d_law_267 : decode b_law 267 = .ok (.ldc2_w 86, 3) := by decide +kernel
theorem d_law_270 : decode b_law 270 = .ok (.land, 1) := by decide +kernel
theorem d_law_271 : decode b_law 271 = .ok (.lor, 1) := by decide +kernel
theorem d_law_272 : decode b_law 272 = .ok (.aload_n 0, 1) := by decide +kernel
theorem d_law_273 : decode b_law 273 = .ok (.iload 4, 2) := by decide +kernel
theorem d_law_275 : decode b_law 275 = .ok (.bipush 12, 2) := by decide +kernel
theorem d_law_277 : decode b_law 277 = .ok (.iadd, 1) := by decide +kernel
theorem d_law_278 : decode b_law 278 = .ok (.iaload, 1) := by decide +kernel
theorem d_law_279 : decode b_law 279 = .ok (.i2l, 1) := by decide +kernel
theorem d_law_280 : decode b_law 280 = .ok (.bipush 32, 2) := by decide +kernel
theorem d_law_282 : decode b_law 282 = .ok (.lshl, 1) := by decide +kernel
theorem d_law_283 : decode b_law 283 = .ok (.aload_n 0, 1) := by decide +kernel
theorem d_law_284 : decode b_law 284 = .ok (.iload 4, 2) := by decide +kernel
theorem d_law_286 : decode b_law 286 = .ok (.bipush 13, 2) := by decide +kernel
theorem d_law_288 : decode b_law 288 = .ok (.iadd, 1) := by decide +kernel
theorem d_law_289 : decode b_law 289 = .ok (.iaload, 1) := by decide +kernel
theorem d_law_290 : decode b_law 290 = .ok (.i2l, 1) := by decide +kernel
theorem d_law_291 : decode b_law 291 = .ok (.ldc2_w 86, 3) := by decide +kernel
theorem d_law_294 : decode b_law 294 = .ok (.land, 1) := by decide +kernel
theorem d_law_295 : decode b_law 295 = .ok (.lor, 1) := by decide +kernel
theorem d_law_296 : decode b_law 296 = .ok (.aload_n 3, 1) := by decide +kernel
theorem d_law_297 : decode b_law 297 = .ok (.invokestatic 88, 3) := by decide +kernel
theorem d_law_300 : decode b_law 300 = .ok (.istore 5, 2) := by decide +kernel
theorem d_law_302 : decode b_law 302 = .ok (.aload_n 2, 1) := by decide +kernel
theorem d_law_303 : decode b_law 303 = .ok (.aload_n 0, 1) := by decide +kernel
theorem d_law_304 : decode b_law 304 = .ok (.iload 4, 2) := by decide +kernel
theorem d_law_306 : decode b_law 306 = .ok (.iconst 1, 1) := by decide +kernel
theorem d_law_307 : decode b_law 307 = .ok (.iadd, 1) := by decide +kernel
theorem d_law_308 : decode b_law 308 = .ok (.iaload, 1) := by decide +kernel
theorem d_law_309 : decode b_law 309 = .ok (.aload_n 0, 1) := by decide +kernel
theorem d_law_310 : decode b_law 310 = .ok (.iload 4, 2) := by decide +kernel
theorem d_law_312 : decode b_law 312 = .ok (.iconst 2, 1) := by decide +kernel
theorem d_law_313 : decode b_law 313 = .ok (.iadd, 1) := by decide +kernel
theorem d_law_314 : decode b_law 314 = .ok (.iaload, 1) := by decide +kernel
theorem d_law_315 : decode b_law 315 = .ok (.i2l, 1) := by decide +kernel
theorem d_law_316 : decode b_law 316 = .ok (.bipush 32, 2) := by decide +kernel
theorem d_law_318 : decode b_law 318 = .ok (.lshl, 1) := by decide +kernel
theorem d_law_319 : decode b_law 319 = .ok (.aload_n 0, 1) := by decide +kernel
theorem d_law_320 : decode b_law 320 = .ok (.iload 4, 2) := by decide +kernel
theorem d_law_322 : decode b_law 322 = .ok (.iconst 3, 1) := by decide +kernel
theorem d_law_323 : decode b_law 323 = .ok (.iadd, 1) := by decide +kernel
theorem d_law_324 : decode b_law 324 = .ok (.iaload, 1) := by decide +kernel
theorem d_law_325 : decode b_law 325 = .ok (.i2l, 1) := by decide +kernel
theorem d_law_326 : decode b_law 326 = .ok (.ldc2_w 86, 3) := by decide +kernel
theorem d_law_329 : decode b_law 329 = .ok (.land, 1) := by decide +kernel
theorem d_law_330 : decode b_law 330 = .ok (.lor, 1) := by decide +kernel
theorem d_law_331 : decode b_law 331 = .ok (.aload_n 0, 1) := by decide +kernel
theorem d_law_332 : decode b_law 332 = .ok (.iload 4, 2) := by decide +kernel
theorem d_law_334 : decode b_law 334 = .ok (.iconst 4, 1) := by decide +kernel
theorem d_law_335 : decode b_law 335 = .ok (.iadd, 1) := by decide +kernel
theorem d_law_336 : decode b_law 336 = .ok (.iaload, 1) := by decide +kernel
theorem d_law_337 : decode b_law 337 = .ok (.i2l, 1) := by decide +kernel
theorem d_law_338 : decode b_law 338 = .ok (.bipush 32, 2) := by decide +kernel
theorem d_law_340 : decode b_law 340 = .ok (.lshl, 1) := by decide +kernel
theorem d_law_341 : decode b_law 341 = .ok (.aload_n 0, 1) := by decide +kernel
theorem d_law_342 : decode b_law 342 = .ok (.iload 4, 2) := by decide +kernel
theorem d_law_344 : decode b_law 344 = .ok (.iconst 5, 1) := by decide +kernel
theorem d_law_345 : decode b_law 345 = .ok (.iadd, 1) := by decide +kernel
theorem d_law_346 : decode b_law 346 = .ok (.iaload, 1) := by decide +kernel
theorem d_law_347 : decode b_law 347 = .ok (.i2l, 1) := by decide +kernel
theorem d_law_348 : decode b_law 348 = .ok (.ldc2_w 86, 3) := by decide +kernel
theorem d_law_351 : decode b_law 351 = .ok (.land, 1) := by decide +kernel
theorem d_law_352 : decode b_law 352 = .ok (.lor, 1) := by decide +kernel
theorem d_law_353 : decode b_law 353 = .ok (.aload_n 0, 1) := by decide +kernel
theorem d_law_354 : decode b_law 354 = .ok (.iload 4, 2) := by decide +kernel
theorem d_law_356 : decode b_law 356 = .ok (.bipush 6, 2) := by decide +kernel
theorem d_law_358 : decode b_law 358 = .ok (.iadd, 1) := by decide +kernel
theorem d_law_359 : decode b_law 359 = .ok (.iaload, 1) := by decide +kernel
theorem d_law_360 : decode b_law 360 = .ok (.i2l, 1) := by decide +kernel
theorem d_law_361 : decode b_law 361 = .ok (.bipush 32, 2) := by decide +kernel
theorem d_law_363 : decode b_law 363 = .ok (.lshl, 1) := by decide +kernel
theorem d_law_364 : decode b_law 364 = .ok (.aload_n 0, 1) := by decide +kernel
theorem d_law_365 : decode b_law 365 = .ok (.iload 4, 2) := by decide +kernel
theorem d_law_367 : decode b_law 367 = .ok (.bipush 7, 2) := by decide +kernel
theorem d_law_369 : decode b_law 369 = .ok (.iadd, 1) := by decide +kernel
theorem d_law_370 : decode b_law 370 = .ok (.iaload, 1) := by decide +kernel
theorem d_law_371 : decode b_law 371 = .ok (.i2l, 1) := by decide +kernel
theorem d_law_372 : decode b_law 372 = .ok (.ldc2_w 86, 3) := by decide +kernel
theorem d_law_375 : decode b_law 375 = .ok (.land, 1) := by decide +kernel
theorem d_law_376 : decode b_law 376 = .ok (.lor, 1) := by decide +kernel
theorem d_law_377 : decode b_law 377 = .ok (.aload_n 0, 1) := by decide +kernel
theorem d_law_378 : decode b_law 378 = .ok (.iload 4, 2) := by decide +kernel
theorem d_law_380 : decode b_law 380 = .ok (.bipush 8, 2) := by decide +kernel
theorem d_law_382 : decode b_law 382 = .ok (.iadd, 1) := by decide +kernel
theorem d_law_383 : decode b_law 383 = .ok (.iaload, 1) := by decide +kernel
theorem d_law_384 : decode b_law 384 = .ok (.i2l, 1) := by decide +kernel
theorem d_law_385 : decode b_law 385 = .ok (.bipush 32, 2) := by decide +kernel
theorem d_law_387 : decode b_law 387 = .ok (.lshl, 1) := by decide +kernel
theorem d_law_388 : decode b_law 388 = .ok (.aload_n 0, 1) := by decide +kernel
theorem d_law_389 : decode b_law 389 = .ok (.iload 4, 2) := by decide +kernel
theorem d_law_391 : decode b_law 391 = .ok (.bipush 9, 2) := by decide +kernel
theorem d_law_393 : decode b_law 393 = .ok (.iadd, 1) := by decide +kernel
theorem d_law_394 : decode b_law 394 = .ok (.iaload, 1) := by decide +kernel
theorem d_law_395 : decode b_law 395 = .ok (.i2l, 1) := by decide +kernel
theorem d_law_396 : decode b_law 396 = .ok (.ldc2_w 86, 3) := by decide +kernel
theorem d_law_399 : decode b_law 399 = .ok (.land, 1) := by decide +kernel
theorem d_law_400 : decode b_law 400 = .ok (.lor, 1) := by decide +kernel
theorem d_law_401 : decode b_law 401 = .ok (.aload_n 0, 1) := by decide +kernel
theorem d_law_402 : decode b_law 402 = .ok (.iload 4, 2) := by decide +kernel
theorem d_law_404 : decode b_law 404 = .ok (.bipush 10, 2) := by decide +kernel
theorem d_law_406 : decode b_law 406 = .ok (.iadd, 1) := by decide +kernel
theorem d_law_407 : decode b_law 407 = .ok (.iaload, 1) := by decide +kernel
theorem d_law_408 : decode b_law 408 = .ok (.i2l, 1) := by decide +kernel
theorem d_law_409 : decode b_law 409 = .ok (.bipush 32, 2) := by decide +kernel
theorem d_law_411 : decode b_law 411 = .ok (.lshl, 1) := by decide +kernel
theorem d_law_412 : decode b_law 412 = .ok (.aload_n 0, 1) := by decide +kernel
theorem d_law_413 : decode b_law 413 = .ok (.iload 4, 2) := by decide +kernel
theorem d_law_415 : decode b_law 415 = .ok (.bipush 11, 2) := by decide +kernel
theorem d_law_417 : decode b_law 417 = .ok (.iadd, 1) := by decide +kernel
theorem d_law_418 : decode b_law 418 = .ok (.iaload, 1) := by decide +kernel
theorem d_law_419 : decode b_law 419 = .ok (.i2l, 1) := by decide +kernel
theorem d_law_420 : decode b_law 420 = .ok (.ldc2_w 86, 3) := by decide +kernel
theorem d_law_423 : decode b_law 423 = .ok (.land, 1) := by decide +kernel
theorem d_law_424 : decode b_law 424 = .ok (.lor, 1) := by decide +kernel
theorem d_law_425 : decode b_law 425 = .ok (.aload_n 0, 1) := by decide +kernel
theorem d_law_426 : decode b_law 426 = .ok (.iload 4, 2) := by decide +kernel
theorem d_law_428 : decode b_law 428 = .ok (.bipush 12, 2) := by decide +kernel
theorem d_law_430 : decode b_law 430 = .ok (.iadd, 1) := by decide +kernel
theorem d_law_431 : decode b_law 431 = .ok (.iaload, 1) := by decide +kernel
theorem d_law_432 : decode b_law 432 = .ok (.i2l, 1) := by decide +kernel
theorem d_law_433 : decode b_law 433 = .ok (.bipush 32, 2) := by decide +kernel
theorem d_law_435 : decode b_law 435 = .ok (.lshl, 1) := by decide +kernel
theorem d_law_436 : decode b_law 436 = .ok (.aload_n 0, 1) := by decide +kernel
theorem d_law_437 : decode b_law 437 = .ok (.iload 4, 2) := by decide +kernel
theorem d_law_439 : decode b_law 439 = .ok (.bipush 13, 2) := by decide +kernel
theorem d_law_441 : decode b_law 441 = .ok (.iadd, 1) := by decide +kernel
theorem d_law_442 : decode b_law 442 = .ok (.iaload, 1) := by decide +kernel
theorem d_law_443 : decode b_law 443 = .ok (.i2l, 1) := by decide +kernel
theorem d_law_444 : decode b_law 444 = .ok (.ldc2_w 86, 3) := by decide +kernel
theorem d_law_447 : decode b_law 447 = .ok (.land, 1) := by decide +kernel
theorem d_law_448 : decode b_law 448 = .ok (.lor, 1) := by decide +kernel
theorem d_law_449 : decode b_law 449 = .ok (.invokevirtual 91, 3) := by decide +kernel
theorem d_law_452 : decode b_law 452 = .ok (.istore 6, 2) := by decide +kernel
theorem d_law_454 : decode b_law 454 = .ok (.aload_n 2, 1) := by decide +kernel
theorem d_law_455 : decode b_law 455 = .ok (.invokevirtual 92, 3) := by decide +kernel
theorem d_law_458 : decode b_law 458 = .ok (.iload 5, 2) := by decide +kernel
theorem d_law_460 : decode b_law 460 = .ok (.if_icmp .eq 5, 3) := by decide +kernel
theorem d_law_463 : decode b_law 463 = .ok (.iconst 0, 1) := by decide +kernel
theorem d_law_464 : decode b_law 464 = .ok (.ireturn, 1) := by decide +kernel
theorem d_law_465 : decode b_law 465 = .ok (.iload 5, 2) := by decide +kernel
theorem d_law_467 : decode b_law 467 = .ok (.ifCond .ne 22, 3) := by decide +kernel
theorem d_law_470 : decode b_law 470 = .ok (.aload_n 3, 1) := by decide +kernel
theorem d_law_471 : decode b_law 471 = .ok (.iconst 0, 1) := by decide +kernel
theorem d_law_472 : decode b_law 472 = .ok (.laload, 1) := by decide +kernel
theorem d_law_473 : decode b_law 473 = .ok (.iload 6, 2) := by decide +kernel
theorem d_law_475 : decode b_law 475 = .ok (.ifCond .eq 7, 3) := by decide +kernel
theorem d_law_478 : decode b_law 478 = .ok (.lconst 1, 1) := by decide +kernel
theorem d_law_479 : decode b_law 479 = .ok (.goto 4, 3) := by decide +kernel
theorem d_law_482 : decode b_law 482 = .ok (.lconst 0, 1) := by decide +kernel
theorem d_law_483 : decode b_law 483 = .ok (.lcmp, 1) := by decide +kernel
theorem d_law_484 : decode b_law 484 = .ok (.ifCond .eq 5, 3) := by decide +kernel
theorem d_law_487 : decode b_law 487 = .ok (.iconst 0, 1) := by decide +kernel
theorem d_law_488 : decode b_law 488 = .ok (.ireturn, 1) := by decide +kernel
theorem d_law_489 : decode b_law 489 = .ok (.goto 1615, 3) := by decide +kernel
theorem d_law_492 : decode b_law 492 = .ok (.aload_n 1, 1) := by decide +kernel
theorem d_law_493 : decode b_law 493 = .ok (.aload_n 0, 1) := by decide +kernel
theorem d_law_494 : decode b_law 494 = .ok (.iload 4, 2) := by decide +kernel
theorem d_law_496 : decode b_law 496 = .ok (.iconst 1, 1) := by decide +kernel
theorem d_law_497 : decode b_law 497 = .ok (.iadd, 1) := by decide +kernel
theorem d_law_498 : decode b_law 498 = .ok (.iaload, 1) := by decide +kernel
theorem d_law_499 : decode b_law 499 = .ok (.aload_n 0, 1) := by decide +kernel
theorem d_law_500 : decode b_law 500 = .ok (.iload 4, 2) := by decide +kernel
theorem d_law_502 : decode b_law 502 = .ok (.iconst 2, 1) := by decide +kernel
theorem d_law_503 : decode b_law 503 = .ok (.iadd, 1) := by decide +kernel
theorem d_law_504 : decode b_law 504 = .ok (.iaload, 1) := by decide +kernel
theorem d_law_505 : decode b_law 505 = .ok (.i2l, 1) := by decide +kernel
theorem d_law_506 : decode b_law 506 = .ok (.bipush 32, 2) := by decide +kernel
theorem d_law_508 : decode b_law 508 = .ok (.lshl, 1) := by decide +kernel
theorem d_law_509 : decode b_law 509 = .ok (.aload_n 0, 1) := by decide +kernel
theorem d_law_510 : decode b_law 510 = .ok (.iload 4, 2) := by decide +kernel
theorem d_law_512 : decode b_law 512 = .ok (.iconst 3, 1) := by decide +kernel
theorem d_law_513 : decode b_law 513 = .ok (.iadd, 1) := by decide +kernel
theorem d_law_514 : decode b_law 514 = .ok (.iaload, 1) := by decide +kernel
theorem d_law_515 : decode b_law 515 = .ok (.i2l, 1) := by decide +kernel
theorem d_law_516 : decode b_law 516 = .ok (.ldc2_w 86, 3) := by decide +kernel
theorem d_law_519 : decode b_law 519 = .ok (.land, 1) := by decide +kernel
theorem d_law_520 : decode b_law 520 = .ok (.lor, 1) := by decide +kernel
theorem d_law_521 : decode b_law 521 = .ok (.aload_n 0, 1) := by decide +kernel
theorem d_law_522 : decode b_law 522 = .ok (.iload 4, 2) := by decide +kernel
theorem d_law_524 : decode b_law 524 = .ok (.iconst 4, 1) := by decide +kernel
theorem d_law_525 : decode b_law 525 = .ok (.iadd, 1) := by decide +kernel
theorem d_law_526 : decode b_law 526 = .ok (.iaload, 1) := by decide +kernel
theorem d_law_527 : decode b_law 527 = .ok (.i2l, 1) := by decide +kernel
theorem d_law_528 : decode b_law 528 = .ok (.bipush 32, 2) := by decide +kernel
theorem d_law_530 : decode b_law 530 = .ok (.lshl, 1) := by decide +kernel
theorem d_law_531 : decode b_law 531 = .ok (.aload_n 0, 1) := by decide +kernel
theorem d_law_532 : decode b_law 532 = .ok (.iload 4, 2) := by decide +kernel
theorem d_law_534 : decode b_law 534 = .ok (.iconst 5, 1) := by decide +kernel
theorem d_law_535 : decode b_law 535 = .ok (.iadd, 1) := by decide +kernel
theorem d_law_536 : decode b_law 536 = .ok (.iaload, 1) := by decide +kernel
theorem d_law_537 : decode b_law 537 = .ok (.i2l, 1) := by decide +kernel
theorem d_law_538 : decode b_law 538 = .ok (.ldc2_w 86, 3) := by decide +kernel
theorem d_law_541 : decode b_law 541 = .ok (.land, 1) := by decide +kernel
theorem d_law_542 : decode b_law 542 = .ok (.lor, 1) := by decide +kernel
theorem d_law_543 : decode b_law 543 = .ok (.aload_n 0, 1) := by decide +kernel
theorem d_law_544 : decode b_law 544 = .ok (.iload 4, 2) := by decide +kernel
theorem d_law_546 : decode b_law 546 = .ok (.bipush 6, 2) := by decide +kernel
theorem d_law_548 : decode b_law 548 = .ok (.iadd, 1) := by decide +kernel
theorem d_law_549 : decode b_law 549 = .ok (.iaload, 1) := by decide +kernel
theorem d_law_550 : decode b_law 550 = .ok (.i2l, 1) := by decide +kernel
theorem d_law_551 : decode b_law 551 = .ok (.bipush 32, 2) := by decide +kernel
theorem d_law_553 : decode b_law 553 = .ok (.lshl, 1) := by decide +kernel
theorem d_law_554 : decode b_law 554 = .ok (.aload_n 0, 1) := by decide +kernel
theorem d_law_555 : decode b_law 555 = .ok (.iload 4, 2) := by decide +kernel
theorem d_law_557 : decode b_law 557 = .ok (.bipush 7, 2) := by decide +kernel
theorem d_law_559 : decode b_law 559 = .ok (.iadd, 1) := by decide +kernel
theorem d_law_560 : decode b_law 560 = .ok (.iaload, 1) := by decide +kernel
theorem d_law_561 : decode b_law 561 = .ok (.i2l, 1) := by decide +kernel
theorem d_law_562 : decode b_law 562 = .ok (.ldc2_w 86, 3) := by decide +kernel
theorem d_law_565 : decode b_law 565 = .ok (.land, 1) := by decide +kernel
theorem d_law_566 : decode b_law 566 = .ok (.lor, 1) := by decide +kernel
theorem d_law_567 : decode b_law 567 = .ok (.aload_n 0, 1) := by decide +kernel
theorem d_law_568 : decode b_law 568 = .ok (.iload 4, 2) := by decide +kernel
theorem d_law_570 : decode b_law 570 = .ok (.bipush 8, 2) := by decide +kernel
theorem d_law_572 : decode b_law 572 = .ok (.iadd, 1) := by decide +kernel
theorem d_law_573 : decode b_law 573 = .ok (.iaload, 1) := by decide +kernel
theorem d_law_574 : decode b_law 574 = .ok (.i2l, 1) := by decide +kernel
theorem d_law_575 : decode b_law 575 = .ok (.bipush 32, 2) := by decide +kernel
theorem d_law_577 : decode b_law 577 = .ok (.lshl, 1) := by decide +kernel
theorem d_law_578 : decode b_law 578 = .ok (.aload_n 0, 1) := by decide +kernel
theorem d_law_579 : decode b_law 579 = .ok (.iload 4, 2) := by decide +kernel
theorem d_law_581 : decode b_law 581 = .ok (.bipush 9, 2) := by decide +kernel
theorem d_law_583 : decode b_law 583 = .ok (.iadd, 1) := by decide +kernel
theorem d_law_584 : decode b_law 584 = .ok (.iaload, 1) := by decide +kernel
theorem d_law_585 : decode b_law 585 = .ok (.i2l, 1) := by decide +kernel
theorem d_law_586 : decode b_law 586 = .ok (.ldc2_w 86, 3) := by decide +kernel
theorem d_law_589 : decode b_law 589 = .ok (.land, 1) := by decide +kernel
theorem d_law_590 : decode b_law 590 = .ok (.lor, 1) := by decide +kernel
theorem d_law_591 : decode b_law 591 = .ok (.aload_n 0, 1) := by decide +kernel
theorem d_law_592 : decode b_law 592 = .ok (.iload 4, 2) := by decide +kernel
theorem d_law_594 : decode b_law 594 = .ok (.bipush 10, 2) := by decide +kernel
theorem d_law_596 : decode b_law 596 = .ok (.iadd, 1) := by decide +kernel
theorem d_law_597 : decode b_law 597 = .ok (.iaload, 1) := by decide +kernel
theorem d_law_598 : decode b_law 598 = .ok (.i2l, 1) := by decide +kernel
theorem d_law_599 : decode b_law 599 = .ok (.bipush 32, 2) := by decide +kernel
theorem d_law_601 : decode b_law 601 = .ok (.lshl, 1) := by decide +kernel
theorem d_law_602 : decode b_law 602 = .ok (.aload_n 0, 1) := by decide +kernel
theorem d_law_603 : decode b_law 603 = .ok (.iload 4, 2) := by decide +kernel
theorem d_law_605 : decode b_law 605 = .ok (.bipush 11, 2) := by decide +kernel
theorem d_law_607 : decode b_law 607 = .ok (.iadd, 1) := by decide +kernel
theorem d_law_608 : decode b_law 608 = .ok (.iaload, 1) := by decide +kernel
theorem d_law_609 : decode b_law 609 = .ok (.i2l, 1) := by decide +kernel
theorem d_law_610 : decode b_law 610 = .ok (.ldc2_w 86, 3) := by decide +kernel
theorem d_law_613 : decode b_law 613 = .ok (.land, 1) := by decide +kernel
theorem d_law_614 : decode b_law 614 = .ok (.lor, 1) := by decide +kernel
theorem d_law_615 : decode b_law 615 = .ok (.aload_n 3, 1) := by decide +kernel
theorem d_law_616 : decode b_law 616 = .ok (.invokestatic 95, 3) := by decide +kernel
theorem d_law_752 : decode b_law 752 = .ok (.aload_n 1, 1) := by decide +kernel
theorem d_law_753 : decode b_law 753 = .ok (.aload_n 0, 1) := by decide +kernel
theorem d_law_754 : decode b_law 754 = .ok (.iload 4, 2) := by decide +kernel
theorem d_law_756 : decode b_law 756 = .ok (.iconst 1, 1) := by decide +kernel
theorem d_law_757 : decode b_law 757 = .ok (.iadd, 1) := by decide +kernel
theorem d_law_758 : decode b_law 758 = .ok (.iaload, 1) := by decide +kernel
theorem d_law_759 : decode b_law 759 = .ok (.i2l, 1) := by decide +kernel
theorem d_law_760 : decode b_law 760 = .ok (.bipush 32, 2) := by decide +kernel
theorem d_law_762 : decode b_law 762 = .ok (.lshl, 1) := by decide +kernel
theorem d_law_763 : decode b_law 763 = .ok (.aload_n 0, 1) := by decide +kernel
theorem d_law_764 : decode b_law 764 = .ok (.iload 4, 2) := by decide +kernel
theorem d_law_766 : decode b_law 766 = .ok (.iconst 2, 1) := by decide +kernel
theorem d_law_767 : decode b_law 767 = .ok (.iadd, 1) := by decide +kernel
theorem d_law_768 : decode b_law 768 = .ok (.iaload, 1) := by decide +kernel
theorem d_law_769 : decode b_law 769 = .ok (.i2l, 1) := by decide +kernel
theorem d_law_770 : decode b_law 770 = .ok (.ldc2_w 86, 3) := by decide +kernel
theorem d_law_773 : decode b_law 773 = .ok (.land, 1) := by decide +kernel
theorem d_law_774 : decode b_law 774 = .ok (.lor, 1) := by decide +kernel
theorem d_law_775 : decode b_law 775 = .ok (.aload_n 0, 1) := by decide +kernel
theorem d_law_776 : decode b_law 776 = .ok (.iload 4, 2) := by decide +kernel
theorem d_law_778 : decode b_law 778 = .ok (.iconst 3, 1) := by decide +kernel
theorem d_law_779 : decode b_law 779 = .ok (.iadd, 1) := by decide +kernel
theorem d_law_780 : decode b_law 780 = .ok (.iaload, 1) := by decide +kernel
theorem d_law_781 : decode b_law 781 = .ok (.i2l, 1) := by decide +kernel
theorem d_law_782 : decode b_law 782 = .ok (.bipush 32, 2) := by decide +kernel
theorem d_law_784 : decode b_law 784 = .ok (.lshl, 1) := by decide +kernel
theorem d_law_785 : decode b_law 785 = .ok (.aload_n 0, 1) := by decide +kernel
theorem d_law_786 : decode b_law 786 = .ok (.iload 4, 2) := by decide +kernel
theorem d_law_788 : decode b_law 788 = .ok (.iconst 4, 1) := by decide +kernel
theorem d_law_789 : decode b_law 789 = .ok (.iadd, 1) := by decide +kernel
theorem d_law_790 : decode b_law 790 = .ok (.iaload, 1) := by decide +kernel
theorem d_law_791 : decode b_law 791 = .ok (.i2l, 1) := by decide +kernel
theorem d_law_792 : decode b_law 792 = .ok (.ldc2_w 86, 3) := by decide +kernel
theorem d_law_795 : decode b_law 795 = .ok (.land, 1) := by decide +kernel
theorem d_law_796 : decode b_law 796 = .ok (.lor, 1) := by decide +kernel
theorem d_law_797 : decode b_law 797 = .ok (.aload_n 3, 1) := by decide +kernel
theorem d_law_798 : decode b_law 798 = .ok (.invokestatic 99, 3) := by decide +kernel
theorem d_law_801 : decode b_law 801 = .ok (.istore 5, 2) := by decide +kernel
theorem d_law_803 : decode b_law 803 = .ok (.aload_n 2, 1) := by decide +kernel
theorem d_law_804 : decode b_law 804 = .ok (.aload_n 0, 1) := by decide +kernel
theorem d_law_805 : decode b_law 805 = .ok (.iload 4, 2) := by decide +kernel
theorem d_law_807 : decode b_law 807 = .ok (.iconst 1, 1) := by decide +kernel
theorem d_law_808 : decode b_law 808 = .ok (.iadd, 1) := by decide +kernel
theorem d_law_809 : decode b_law 809 = .ok (.iaload, 1) := by decide +kernel
theorem d_law_810 : decode b_law 810 = .ok (.i2l, 1) := by decide +kernel
theorem d_law_811 : decode b_law 811 = .ok (.bipush 32, 2) := by decide +kernel
theorem d_law_813 : decode b_law 813 = .ok (.lshl, 1) := by decide +kernel
theorem d_law_814 : decode b_law 814 = .ok (.aload_n 0, 1) := by decide +kernel
theorem d_law_815 : decode b_law 815 = .ok (.iload 4, 2) := by decide +kernel
theorem d_law_817 : decode b_law 817 = .ok (.iconst 2, 1) := by decide +kernel
theorem d_law_818 : decode b_law 818 = .ok (.iadd, 1) := by decide +kernel
theorem d_law_819 : decode b_law 819 = .ok (.iaload, 1) := by decide +kernel
theorem d_law_820 : decode b_law 820 = .ok (.i2l, 1) := by decide +kernel
theorem d_law_821 : decode b_law 821 = .ok (.ldc2_w 86, 3) := by decide +kernel
theorem d_law_824 : decode b_law 824 = .ok (.land, 1) := by decide +kernel
theorem d_law_825 : decode b_law 825 = .ok (.lor, 1) := by decide +kernel
theorem d_law_826 : decode b_law 826 = .ok (.aload_n 0, 1) := by decide +kernel
theorem d_law_827 : decode b_law 827 = .ok (.iload 4, 2) := by decide +kernel
theorem d_law_829 : decode b_law 829 = .ok (.iconst 3, 1) := by decide +kernel
theorem d_law_830 : decode b_law 830 = .ok (.iadd, 1) := by decide +kernel
theorem d_law_831 : decode b_law 831 = .ok (.iaload, 1) := by decide +kernel
theorem d_law_832 : decode b_law 832 = .ok (.i2l, 1) := by decide +kernel
theorem d_law_833 : decode b_law 833 = .ok (.bipush 32, 2) := by decide +kernel
theorem d_law_835 : decode b_law 835 = .ok (.lshl, 1) := by decide +kernel
theorem d_law_836 : decode b_law 836 = .ok (.aload_n 0, 1) := by decide +kernel
theorem d_law_837 : decode b_law 837 = .ok (.iload 4, 2) := by decide +kernel
theorem d_law_839 : decode b_law 839 = .ok (.iconst 4, 1) := by decide +kernel
theorem d_law_840 : decode b_law 840 = .ok (.iadd, 1) := by decide +kernel
theorem d_law_841 : decode b_law 841 = .ok (.iaload, 1) := by decide +kernel
theorem d_law_842 : decode b_law 842 = .ok (.i2l, 1) := by decide +kernel
theorem d_law_843 : decode b_law 843 = .ok (.ldc2_w 86, 3) := by decide +kernel
theorem d_law_846 : decode b_law 846 = .ok (.land, 1) := by decide +kernel
theorem d_law_847 : decode b_law 847 = .ok (.lor, 1) := by decide +kernel
theorem d_law_848 : decode b_law 848 = .ok (.invokevirtual 102, 3) := by decide +kernel
theorem d_law_851 : decode b_law 851 = .ok (.istore 6, 2) := by decide +kernel
theorem d_law_853 : decode b_law 853 = .ok (.goto 1251, 3) := by decide +kernel
theorem d_law_856 : decode b_law 856 = .ok (.aload_n 1, 1) := by decide +kernel
theorem d_law_857 : decode b_law 857 = .ok (.aload_n 0, 1) := by decide +kernel
theorem d_law_858 : decode b_law 858 = .ok (.iload 4, 2) := by decide +kernel
theorem d_law_860 : decode b_law 860 = .ok (.iconst 1, 1) := by decide +kernel
theorem d_law_861 : decode b_law 861 = .ok (.iadd, 1) := by decide +kernel
theorem d_law_862 : decode b_law 862 = .ok (.iaload, 1) := by decide +kernel
theorem d_law_863 : decode b_law 863 = .ok (.aload_n 0, 1) := by decide +kernel
theorem d_law_864 : decode b_law 864 = .ok (.iload 4, 2) := by decide +kernel
theorem d_law_866 : decode b_law 866 = .ok (.iconst 2, 1) := by decide +kernel
theorem d_law_867 : decode b_law 867 = .ok (.iadd, 1) := by decide +kernel
theorem d_law_868 : decode b_law 868 = .ok (.iaload, 1) := by decide +kernel
theorem d_law_869 : decode b_law 869 = .ok (.i2l, 1) := by decide +kernel
theorem d_law_870 : decode b_law 870 = .ok (.bipush 32, 2) := by decide +kernel
theorem d_law_872 : decode b_law 872 = .ok (.lshl, 1) := by decide +kernel
theorem d_law_873 : decode b_law 873 = .ok (.aload_n 0, 1) := by decide +kernel
theorem d_law_874 : decode b_law 874 = .ok (.iload 4, 2) := by decide +kernel
theorem d_law_876 : decode b_law 876 = .ok (.iconst 3, 1) := by decide +kernel
theorem d_law_877 : decode b_law 877 = .ok (.iadd, 1) := by decide +kernel
theorem d_law_878 : decode b_law 878 = .ok (.iaload, 1) := by decide +kernel
theorem d_law_879 : decode b_law 879 = .ok (.i2l, 1) := by decide +kernel
theorem d_law_880 : decode b_law 880 = .ok (.ldc2_w 86, 3) := by decide +kernel
theorem d_law_883 : decode b_law 883 = .ok (.land, 1) := by decide +kernel
theorem d_law_884 : decode b_law 884 = .ok (.lor, 1) := by decide +kernel
theorem d_law_885 : decode b_law 885 = .ok (.aload_n 0, 1) := by decide +kernel
theorem d_law_886 : decode b_law 886 = .ok (.iload 4, 2) := by decide +kernel
theorem d_law_888 : decode b_law 888 = .ok (.iconst 4, 1) := by decide +kernel
theorem d_law_889 : decode b_law 889 = .ok (.iadd, 1) := by decide +kernel
theorem d_law_890 : decode b_law 890 = .ok (.iaload, 1) := by decide +kernel
theorem d_law_891 : decode b_law 891 = .ok (.i2l, 1) := by decide +kernel
theorem d_law_892 : decode b_law 892 = .ok (.bipush 32, 2) := by decide +kernel
theorem d_law_894 : decode b_law 894 = .ok (.lshl, 1) := by decide +kernel
theorem d_law_895 : decode b_law 895 = .ok (.aload_n 0, 1) := by decide +kernel
theorem d_law_896 : decode b_law 896 = .ok (.iload 4, 2) := by decide +kernel
theorem d_law_898 : decode b_law 898 = .ok (.iconst 5, 1) := by decide +kernel
theorem d_law_899 : decode b_law 899 = .ok (.iadd, 1) := by decide +kernel
theorem d_law_900 : decode b_law 900 = .ok (.iaload, 1) := by decide +kernel
theorem d_law_901 : decode b_law 901 = .ok (.i2l, 1) := by decide +kernel
theorem d_law_902 : decode b_law 902 = .ok (.ldc2_w 86, 3) := by decide +kernel
theorem d_law_905 : decode b_law 905 = .ok (.land, 1) := by decide +kernel
theorem d_law_906 : decode b_law 906 = .ok (.lor, 1) := by decide +kernel
theorem d_law_907 : decode b_law 907 = .ok (.aload_n 3, 1) := by decide +kernel
theorem d_law_908 : decode b_law 908 = .ok (.invokestatic 103, 3) := by decide +kernel
theorem d_law_911 : decode b_law 911 = .ok (.istore 5, 2) := by decide +kernel
theorem d_law_913 : decode b_law 913 = .ok (.aload_n 2, 1) := by decide +kernel
theorem d_law_914 : decode b_law 914 = .ok (.aload_n 0, 1) := by decide +kernel
theorem d_law_915 : decode b_law 915 = .ok (.iload 4, 2) := by decide +kernel
theorem d_law_917 : decode b_law 917 = .ok (.iconst 1, 1) := by decide +kernel
theorem d_law_918 : decode b_law 918 = .ok (.iadd, 1) := by decide +kernel
theorem d_law_919 : decode b_law 919 = .ok (.iaload, 1) := by decide +kernel
theorem d_law_920 : decode b_law 920 = .ok (.aload_n 0, 1) := by decide +kernel
theorem d_law_921 : decode b_law 921 = .ok (.iload 4, 2) := by decide +kernel
theorem d_law_923 : decode b_law 923 = .ok (.iconst 2, 1) := by decide +kernel
theorem d_law_924 : decode b_law 924 = .ok (.iadd, 1) := by decide +kernel
theorem d_law_925 : decode b_law 925 = .ok (.iaload, 1) := by decide +kernel
theorem d_law_926 : decode b_law 926 = .ok (.i2l, 1) := by decide +kernel
theorem d_law_927 : decode b_law 927 = .ok (.bipush 32, 2) := by decide +kernel
theorem d_law_929 : decode b_law 929 = .ok (.lshl, 1) := by decide +kernel
theorem d_law_930 : decode b_law 930 = .ok (.aload_n 0, 1) := by decide +kernel
theorem d_law_931 : decode b_law 931 = .ok (.iload 4, 2) := by decide +kernel
theorem d_law_933 : decode b_law 933 = .ok (.iconst 3, 1) := by decide +kernel
theorem d_law_934 : decode b_law 934 = .ok (.iadd, 1) := by decide +kernel
theorem d_law_935 : decode b_law 935 = .ok (.iaload, 1) := by decide +kernel
theorem d_law_936 : decode b_law 936 = .ok (.i2l, 1) := by decide +kernel
theorem d_law_937 : decode b_law 937 = .ok (.ldc2_w 86, 3) := by decide +kernel
theorem d_law_940 : decode b_law 940 = .ok (.land, 1) := by decide +kernel
theorem d_law_941 : decode b_law 941 = .ok (.lor, 1) := by decide +kernel
theorem d_law_942 : decode b_law 942 = .ok (.aload_n 0, 1) := by decide +kernel
theorem d_law_943 : decode b_law 943 = .ok (.iload 4, 2) := by decide +kernel
theorem d_law_945 : decode b_law 945 = .ok (.iconst 4, 1) := by decide +kernel
theorem d_law_946 : decode b_law 946 = .ok (.iadd, 1) := by decide +kernel
theorem d_law_947 : decode b_law 947 = .ok (.iaload, 1) := by decide +kernel
theorem d_law_948 : decode b_law 948 = .ok (.i2l, 1) := by decide +kernel
theorem d_law_949 : decode b_law 949 = .ok (.bipush 32, 2) := by decide +kernel
theorem d_law_951 : decode b_law 951 = .ok (.lshl, 1) := by decide +kernel
theorem d_law_952 : decode b_law 952 = .ok (.aload_n 0, 1) := by decide +kernel
theorem d_law_953 : decode b_law 953 = .ok (.iload 4, 2) := by decide +kernel
theorem d_law_955 : decode b_law 955 = .ok (.iconst 5, 1) := by decide +kernel
theorem d_law_956 : decode b_law 956 = .ok (.iadd, 1) := by decide +kernel
theorem d_law_957 : decode b_law 957 = .ok (.iaload, 1) := by decide +kernel
theorem d_law_958 : decode b_law 958 = .ok (.i2l, 1) := by decide +kernel
theorem d_law_959 : decode b_law 959 = .ok (.ldc2_w 86, 3) := by decide +kernel
theorem d_law_962 : decode b_law 962 = .ok (.land, 1) := by decide +kernel
theorem d_law_963 : decode b_law 963 = .ok (.lor, 1) := by decide +kernel
theorem d_law_964 : decode b_law 964 = .ok (.invokevirtual 106, 3) := by decide +kernel
theorem d_law_967 : decode b_law 967 = .ok (.istore 6, 2) := by decide +kernel
theorem d_law_969 : decode b_law 969 = .ok (.goto 1135, 3) := by decide +kernel
theorem d_law_972 : decode b_law 972 = .ok (.aload_n 1, 1) := by decide +kernel
theorem d_law_973 : decode b_law 973 = .ok (.aload_n 0, 1) := by decide +kernel
theorem d_law_974 : decode b_law 974 = .ok (.iload 4, 2) := by decide +kernel
theorem d_law_976 : decode b_law 976 = .ok (.iconst 1, 1) := by decide +kernel
theorem d_law_977 : decode b_law 977 = .ok (.iadd, 1) := by decide +kernel
theorem d_law_978 : decode b_law 978 = .ok (.iaload, 1) := by decide +kernel
theorem d_law_979 : decode b_law 979 = .ok (.aload_n 0, 1) := by decide +kernel
theorem d_law_980 : decode b_law 980 = .ok (.iload 4, 2) := by decide +kernel
theorem d_law_982 : decode b_law 982 = .ok (.iconst 2, 1) := by decide +kernel
theorem d_law_983 : decode b_law 983 = .ok (.iadd, 1) := by decide +kernel
theorem d_law_984 : decode b_law 984 = .ok (.iaload, 1) := by decide +kernel
theorem d_law_985 : decode b_law 985 = .ok (.i2l, 1) := by decide +kernel
theorem d_law_986 : decode b_law 986 = .ok (.bipush 32, 2) := by decide +kernel
theorem d_law_988 : decode b_law 988 = .ok (.lshl, 1) := by decide +kernel
theorem d_law_989 : decode b_law 989 = .ok (.aload_n 0, 1) := by decide +kernel
theorem d_law_990 : decode b_law 990 = .ok (.iload 4, 2) := by decide +kernel
theorem d_law_992 : decode b_law 992 = .ok (.iconst 3, 1) := by decide +kernel
theorem d_law_993 : decode b_law 993 = .ok (.iadd, 1) := by decide +kernel
theorem d_law_994 : decode b_law 994 = .ok (.iaload, 1) := by decide +kernel
theorem d_law_995 : decode b_law 995 = .ok (.i2l, 1) := by decide +kernel
theorem d_law_996 : decode b_law 996 = .ok (.ldc2_w 86, 3) := by decide +kernel
theorem d_law_999 : decode b_law 999 = .ok (.land, 1) := by decide +kernel
theorem d_law_1000 : decode b_law 1000 = .ok (.lor, 1) := by decide +kernel
theorem d_law_1001 : decode b_law 1001 = .ok (.aload_n 0, 1) := by decide +kernel
theorem d_law_1002 : decode b_law 1002 = .ok (.iload 4, 2) := by decide +kernel
theorem d_law_1004 : decode b_law 1004 = .ok (.iconst 4, 1) := by decide +kernel
theorem d_law_1005 : decode b_law 1005 = .ok (.iadd, 1) := by decide +kernel
theorem d_law_1006 : decode b_law 1006 = .ok (.iaload, 1) := by decide +kernel
theorem d_law_1007 : decode b_law 1007 = .ok (.i2l, 1) := by decide +kernel
theorem d_law_1008 : decode b_law 1008 = .ok (.bipush 32, 2) := by decide +kernel
theorem d_law_1010 : decode b_law 1010 = .ok (.lshl, 1) := by decide +kernel
theorem d_law_1011 : decode b_law 1011 = .ok (.aload_n 0, 1) := by decide +kernel
theorem d_law_1012 : decode b_law 1012 = .ok (.iload 4, 2) := by decide +kernel
theorem d_law_1014 : decode b_law 1014 = .ok (.iconst 5, 1) := by decide +kernel
theorem d_law_1015 : decode b_law 1015 = .ok (.iadd, 1) := by decide +kernel
theorem d_law_1016 : decode b_law 1016 = .ok (.iaload, 1) := by decide +kernel
theorem d_law_1017 : decode b_law 1017 = .ok (.i2l, 1) := by decide +kernel
theorem d_law_1018 : decode b_law 1018 = .ok (.ldc2_w 86, 3) := by decide +kernel
theorem d_law_1021 : decode b_law 1021 = .ok (.land, 1) := by decide +kernel
theorem d_law_1022 : decode b_law 1022 = .ok (.lor, 1) := by decide +kernel
theorem d_law_1023 : decode b_law 1023 = .ok (.aload_n 0, 1) := by decide +kernel
theorem d_law_1024 : decode b_law 1024 = .ok (.iload 4, 2) := by decide +kernel
theorem d_law_1026 : decode b_law 1026 = .ok (.bipush 6, 2) := by decide +kernel
theorem d_law_1028 : decode b_law 1028 = .ok (.iadd, 1) := by decide +kernel
theorem d_law_1029 : decode b_law 1029 = .ok (.iaload, 1) := by decide +kernel
theorem d_law_1030 : decode b_law 1030 = .ok (.i2l, 1) := by decide +kernel
theorem d_law_1031 : decode b_law 1031 = .ok (.bipush 32, 2) := by decide +kernel
theorem d_law_1033 : decode b_law 1033 = .ok (.lshl, 1) := by decide +kernel
theorem d_law_1034 : decode b_law 1034 = .ok (.aload_n 0, 1) := by decide +kernel
theorem d_law_1035 : decode b_law 1035 = .ok (.iload 4, 2) := by decide +kernel
theorem d_law_1037 : decode b_law 1037 = .ok (.bipush 7, 2) := by decide +kernel
theorem d_law_1039 : decode b_law 1039 = .ok (.iadd, 1) := by decide +kernel
theorem d_law_1040 : decode b_law 1040 = .ok (.iaload, 1) := by decide +kernel
theorem d_law_1041 : decode b_law 1041 = .ok (.i2l, 1) := by decide +kernel
theorem d_law_1042 : decode b_law 1042 = .ok (.ldc2_w 86, 3) := by decide +kernel
theorem d_law_1045 : decode b_law 1045 = .ok (.land, 1) := by decide +kernel
theorem d_law_1046 : decode b_law 1046 = .ok (.lor, 1) := by decide +kernel
theorem d_law_1047 : decode b_law 1047 = .ok (.aload_n 0, 1) := by decide +kernel
theorem d_law_1048 : decode b_law 1048 = .ok (.iload 4, 2) := by decide +kernel
theorem d_law_1050 : decode b_law 1050 = .ok (.bipush 8, 2) := by decide +kernel
theorem d_law_1052 : decode b_law 1052 = .ok (.iadd, 1) := by decide +kernel
theorem d_law_1053 : decode b_law 1053 = .ok (.iaload, 1) := by decide +kernel
theorem d_law_1054 : decode b_law 1054 = .ok (.i2l, 1) := by decide +kernel
theorem d_law_1055 : decode b_law 1055 = .ok (.bipush 32, 2) := by decide +kernel
theorem d_law_1057 : decode b_law 1057 = .ok (.lshl, 1) := by decide +kernel
theorem d_law_1058 : decode b_law 1058 = .ok (.aload_n 0, 1) := by decide +kernel
theorem d_law_1059 : decode b_law 1059 = .ok (.iload 4, 2) := by decide +kernel
theorem d_law_1061 : decode b_law 1061 = .ok (.bipush 9, 2) := by decide +kernel
theorem d_law_1063 : decode b_law 1063 = .ok (.iadd, 1) := by decide +kernel
theorem d_law_1064 : decode b_law 1064 = .ok (.iaload, 1) := by decide +kernel
theorem d_law_1065 : decode b_law 1065 = .ok (.i2l, 1) := by decide +kernel
theorem d_law_1066 : decode b_law 1066 = .ok (.ldc2_w 86, 3) := by decide +kernel
theorem d_law_1069 : decode b_law 1069 = .ok (.land, 1) := by decide +kernel
theorem d_law_1070 : decode b_law 1070 = .ok (.lor, 1) := by decide +kernel
theorem d_law_1071 : decode b_law 1071 = .ok (.aload_n 0, 1) := by decide +kernel
theorem d_law_1072 : decode b_law 1072 = .ok (.iload 4, 2) := by decide +kernel
theorem d_law_1074 : decode b_law 1074 = .ok (.bipush 10, 2) := by decide +kernel
theorem d_law_1076 : decode b_law 1076 = .ok (.iadd, 1) := by decide +kernel
theorem d_law_1077 : decode b_law 1077 = .ok (.iaload, 1) := by decide +kernel
theorem d_law_1078 : decode b_law 1078 = .ok (.aload_n 0, 1) := by decide +kernel
theorem d_law_1079 : decode b_law 1079 = .ok (.iload 4, 2) := by decide +kernel
theorem d_law_1081 : decode b_law 1081 = .ok (.bipush 11, 2) := by decide +kernel
theorem d_law_1083 : decode b_law 1083 = .ok (.iadd, 1) := by decide +kernel
theorem d_law_1084 : decode b_law 1084 = .ok (.iaload, 1) := by decide +kernel
theorem d_law_1085 : decode b_law 1085 = .ok (.i2l, 1) := by decide +kernel
theorem d_law_1086 : decode b_law 1086 = .ok (.bipush 32, 2) := by decide +kernel
theorem d_law_1088 : decode b_law 1088 = .ok (.lshl, 1) := by decide +kernel
theorem d_law_1089 : decode b_law 1089 = .ok (.aload_n 0, 1) := by decide +kernel
theorem d_law_1090 : decode b_law 1090 = .ok (.iload 4, 2) := by decide +kernel
theorem d_law_1092 : decode b_law 1092 = .ok (.bipush 12, 2) := by decide +kernel
theorem d_law_1094 : decode b_law 1094 = .ok (.iadd, 1) := by decide +kernel
theorem d_law_1095 : decode b_law 1095 = .ok (.iaload, 1) := by decide +kernel
theorem d_law_1096 : decode b_law 1096 = .ok (.i2l, 1) := by decide +kernel
theorem d_law_1097 : decode b_law 1097 = .ok (.ldc2_w 86, 3) := by decide +kernel
theorem d_law_1100 : decode b_law 1100 = .ok (.land, 1) := by decide +kernel
theorem d_law_1101 : decode b_law 1101 = .ok (.lor, 1) := by decide +kernel
theorem d_law_1102 : decode b_law 1102 = .ok (.aload_n 3, 1) := by decide +kernel
theorem d_law_1103 : decode b_law 1103 = .ok (.invokestatic 107, 3) := by decide +kernel
theorem d_law_1246 : decode b_law 1246 = .ok (.aload_n 1, 1) := by decide +kernel
theorem d_law_1247 : decode b_law 1247 = .ok (.aload_n 0, 1) := by decide +kernel
theorem d_law_1248 : decode b_law 1248 = .ok (.iload 4, 2) := by decide +kernel
theorem d_law_1250 : decode b_law 1250 = .ok (.iconst 1, 1) := by decide +kernel
theorem d_law_1251 : decode b_law 1251 = .ok (.iadd, 1) := by decide +kernel
theorem d_law_1252 : decode b_law 1252 = .ok (.iaload, 1) := by decide +kernel
theorem d_law_1253 : decode b_law 1253 = .ok (.aload_n 0, 1) := by decide +kernel
theorem d_law_1254 : decode b_law 1254 = .ok (.iload 4, 2) := by decide +kernel
theorem d_law_1256 : decode b_law 1256 = .ok (.iconst 2, 1) := by decide +kernel
theorem d_law_1257 : decode b_law 1257 = .ok (.iadd, 1) := by decide +kernel
theorem d_law_1258 : decode b_law 1258 = .ok (.iaload, 1) := by decide +kernel
theorem d_law_1259 : decode b_law 1259 = .ok (.aload_n 3, 1) := by decide +kernel
theorem d_law_1260 : decode b_law 1260 = .ok (.invokestatic 111, 3) := by decide +kernel
theorem d_law_1263 : decode b_law 1263 = .ok (.istore 5, 2) := by decide +kernel
theorem d_law_1265 : decode b_law 1265 = .ok (.aload_n 2, 1) := by decide +kernel
theorem d_law_1266 : decode b_law 1266 = .ok (.aload_n 0, 1) := by decide +kernel
theorem d_law_1267 : decode b_law 1267 = .ok (.iload 4, 2) := by decide +kernel
theorem d_law_1269 : decode b_law 1269 = .ok (.iconst 1, 1) := by decide +kernel
theorem d_law_1270 : decode b_law 1270 = .ok (.iadd, 1) := by decide +kernel
theorem d_law_1271 : decode b_law 1271 = .ok (.iaload, 1) := by decide +kernel
theorem d_law_1272 : decode b_law 1272 = .ok (.aload_n 0, 1) := by decide +kernel
theorem d_law_1273 : decode b_law 1273 = .ok (.iload 4, 2) := by decide +kernel
theorem d_law_1275 : decode b_law 1275 = .ok (.iconst 2, 1) := by decide +kernel
theorem d_law_1276 : decode b_law 1276 = .ok (.iadd, 1) := by decide +kernel
theorem d_law_1277 : decode b_law 1277 = .ok (.iaload, 1) := by decide +kernel
theorem d_law_1278 : decode b_law 1278 = .ok (.invokevirtual 114, 3) := by decide +kernel
theorem d_law_1281 : decode b_law 1281 = .ok (.istore 6, 2) := by decide +kernel
theorem d_law_1283 : decode b_law 1283 = .ok (.goto 821, 3) := by decide +kernel
theorem d_law_1286 : decode b_law 1286 = .ok (.aload_n 1, 1) := by decide +kernel
theorem d_law_1287 : decode b_law 1287 = .ok (.aload_n 0, 1) := by decide +kernel
theorem d_law_1288 : decode b_law 1288 = .ok (.iload 4, 2) := by decide +kernel
theorem d_law_1290 : decode b_law 1290 = .ok (.iconst 1, 1) := by decide +kernel
theorem d_law_1291 : decode b_law 1291 = .ok (.iadd, 1) := by decide +kernel
theorem d_law_1292 : decode b_law 1292 = .ok (.iaload, 1) := by decide +kernel
theorem d_law_1293 : decode b_law 1293 = .ok (.aload_n 0, 1) := by decide +kernel
theorem d_law_1294 : decode b_law 1294 = .ok (.iload 4, 2) := by decide +kernel
theorem d_law_1296 : decode b_law 1296 = .ok (.iconst 2, 1) := by decide +kernel
theorem d_law_1297 : decode b_law 1297 = .ok (.iadd, 1) := by decide +kernel
theorem d_law_1298 : decode b_law 1298 = .ok (.iaload, 1) := by decide +kernel
theorem d_law_1299 : decode b_law 1299 = .ok (.i2l, 1) := by decide +kernel
theorem d_law_1300 : decode b_law 1300 = .ok (.bipush 32, 2) := by decide +kernel
theorem d_law_1302 : decode b_law 1302 = .ok (.lshl, 1) := by decide +kernel
theorem d_law_1303 : decode b_law 1303 = .ok (.aload_n 0, 1) := by decide +kernel
theorem d_law_1304 : decode b_law 1304 = .ok (.iload 4, 2) := by decide +kernel
theorem d_law_1306 : decode b_law 1306 = .ok (.iconst 3, 1) := by decide +kernel
theorem d_law_1307 : decode b_law 1307 = .ok (.iadd, 1) := by decide +kernel
theorem d_law_1308 : decode b_law 1308 = .ok (.iaload, 1) := by decide +kernel
theorem d_law_1309 : decode b_law 1309 = .ok (.i2l, 1) := by decide +kernel
theorem d_law_1310 : decode b_law 1310 = .ok (.ldc2_w 86, 3) := by decide +kernel
theorem d_law_1313 : decode b_law 1313 = .ok (.land, 1) := by decide +kernel
theorem d_law_1314 : decode b_law 1314 = .ok (.lor, 1) := by decide +kernel
theorem d_law_1315 : decode b_law 1315 = .ok (.aload_n 0, 1) := by decide +kernel
theorem d_law_1316 : decode b_law 1316 = .ok (.iload 4, 2) := by decide +kernel
theorem d_law_1318 : decode b_law 1318 = .ok (.iconst 4, 1) := by decide +kernel
theorem d_law_1319 : decode b_law 1319 = .ok (.iadd, 1) := by decide +kernel
theorem d_law_1320 : decode b_law 1320 = .ok (.iaload, 1) := by decide +kernel
theorem d_law_1321 : decode b_law 1321 = .ok (.i2l, 1) := by decide +kernel
theorem d_law_1322 : decode b_law 1322 = .ok (.bipush 32, 2) := by decide +kernel
theorem d_law_1324 : decode b_law 1324 = .ok (.lshl, 1) := by decide +kernel
theorem d_law_1325 : decode b_law 1325 = .ok (.aload_n 0, 1) := by decide +kernel
theorem d_law_1326 : decode b_law 1326 = .ok (.iload 4, 2) := by decide +kernel
theorem d_law_1328 : decode b_law 1328 = .ok (.iconst 5, 1) := by decide +kernel
theorem d_law_1329 : decode b_law 1329 = .ok (.iadd, 1) := by decide +kernel
theorem d_law_1330 : decode b_law 1330 = .ok (.iaload, 1) := by decide +kernel
theorem d_law_1331 : decode b_law 1331 = .ok (.i2l, 1) := by decide +kernel
theorem d_law_1332 : decode b_law 1332 = .ok (.ldc2_w 86, 3) := by decide +kernel
theorem d_law_1335 : decode b_law 1335 = .ok (.land, 1) := by decide +kernel
theorem d_law_1336 : decode b_law 1336 = .ok (.lor, 1) := by decide +kernel
theorem d_law_1337 : decode b_law 1337 = .ok (.aload_n 0, 1) := by decide +kernel
theorem d_law_1338 : decode b_law 1338 = .ok (.iload 4, 2) := by decide +kernel
theorem d_law_1340 : decode b_law 1340 = .ok (.bipush 6, 2) := by decide +kernel
theorem d_law_1342 : decode b_law 1342 = .ok (.iadd, 1) := by decide +kernel
theorem d_law_1343 : decode b_law 1343 = .ok (.iaload, 1) := by decide +kernel
theorem d_law_1344 : decode b_law 1344 = .ok (.aload_n 0, 1) := by decide +kernel
theorem d_law_1345 : decode b_law 1345 = .ok (.iload 4, 2) := by decide +kernel
theorem d_law_1347 : decode b_law 1347 = .ok (.bipush 7, 2) := by decide +kernel
theorem d_law_1349 : decode b_law 1349 = .ok (.iadd, 1) := by decide +kernel
theorem d_law_1350 : decode b_law 1350 = .ok (.iaload, 1) := by decide +kernel
theorem d_law_1351 : decode b_law 1351 = .ok (.aload_n 3, 1) := by decide +kernel
theorem d_law_1352 : decode b_law 1352 = .ok (.invokestatic 115, 3) := by decide +kernel
theorem d_law_1430 : decode b_law 1430 = .ok (.aload_n 1, 1) := by decide +kernel
theorem d_law_1431 : decode b_law 1431 = .ok (.aload_n 0, 1) := by decide +kernel
theorem d_law_1432 : decode b_law 1432 = .ok (.iload 4, 2) := by decide +kernel
theorem d_law_1434 : decode b_law 1434 = .ok (.iconst 1, 1) := by decide +kernel
theorem d_law_1435 : decode b_law 1435 = .ok (.iadd, 1) := by decide +kernel
theorem d_law_1436 : decode b_law 1436 = .ok (.iaload, 1) := by decide +kernel
theorem d_law_1437 : decode b_law 1437 = .ok (.aload_n 0, 1) := by decide +kernel
theorem d_law_1438 : decode b_law 1438 = .ok (.iload 4, 2) := by decide +kernel
theorem d_law_1440 : decode b_law 1440 = .ok (.iconst 2, 1) := by decide +kernel
theorem d_law_1441 : decode b_law 1441 = .ok (.iadd, 1) := by decide +kernel
theorem d_law_1442 : decode b_law 1442 = .ok (.iaload, 1) := by decide +kernel
theorem d_law_1443 : decode b_law 1443 = .ok (.i2l, 1) := by decide +kernel
theorem d_law_1444 : decode b_law 1444 = .ok (.bipush 32, 2) := by decide +kernel
theorem d_law_1446 : decode b_law 1446 = .ok (.lshl, 1) := by decide +kernel
theorem d_law_1447 : decode b_law 1447 = .ok (.aload_n 0, 1) := by decide +kernel
theorem d_law_1448 : decode b_law 1448 = .ok (.iload 4, 2) := by decide +kernel
theorem d_law_1450 : decode b_law 1450 = .ok (.iconst 3, 1) := by decide +kernel
theorem d_law_1451 : decode b_law 1451 = .ok (.iadd, 1) := by decide +kernel
theorem d_law_1452 : decode b_law 1452 = .ok (.iaload, 1) := by decide +kernel
theorem d_law_1453 : decode b_law 1453 = .ok (.i2l, 1) := by decide +kernel
theorem d_law_1454 : decode b_law 1454 = .ok (.ldc2_w 86, 3) := by decide +kernel
theorem d_law_1457 : decode b_law 1457 = .ok (.land, 1) := by decide +kernel
theorem d_law_1458 : decode b_law 1458 = .ok (.lor, 1) := by decide +kernel
theorem d_law_1459 : decode b_law 1459 = .ok (.aload_n 0, 1) := by decide +kernel
theorem d_law_1460 : decode b_law 1460 = .ok (.iload 4, 2) := by decide +kernel
theorem d_law_1462 : decode b_law 1462 = .ok (.iconst 4, 1) := by decide +kernel
theorem d_law_1463 : decode b_law 1463 = .ok (.iadd, 1) := by decide +kernel
theorem d_law_1464 : decode b_law 1464 = .ok (.iaload, 1) := by decide +kernel
theorem d_law_1465 : decode b_law 1465 = .ok (.i2l, 1) := by decide +kernel
theorem d_law_1466 : decode b_law 1466 = .ok (.bipush 32, 2) := by decide +kernel
theorem d_law_1468 : decode b_law 1468 = .ok (.lshl, 1) := by decide +kernel
theorem d_law_1469 : decode b_law 1469 = .ok (.aload_n 0, 1) := by decide +kernel
theorem d_law_1470 : decode b_law 1470 = .ok (.iload 4, 2) := by decide +kernel
theorem d_law_1472 : decode b_law 1472 = .ok (.iconst 5, 1) := by decide +kernel
theorem d_law_1473 : decode b_law 1473 = .ok (.iadd, 1) := by decide +kernel
theorem d_law_1474 : decode b_law 1474 = .ok (.iaload, 1) := by decide +kernel
theorem d_law_1475 : decode b_law 1475 = .ok (.i2l, 1) := by decide +kernel
theorem d_law_1476 : decode b_law 1476 = .ok (.ldc2_w 86, 3) := by decide +kernel
theorem d_law_1479 : decode b_law 1479 = .ok (.land, 1) := by decide +kernel
theorem d_law_1480 : decode b_law 1480 = .ok (.lor, 1) := by decide +kernel
theorem d_law_1481 : decode b_law 1481 = .ok (.aload_n 0, 1) := by decide +kernel
theorem d_law_1482 : decode b_law 1482 = .ok (.iload 4, 2) := by decide +kernel
theorem d_law_1484 : decode b_law 1484 = .ok (.bipush 6, 2) := by decide +kernel
theorem d_law_1486 : decode b_law 1486 = .ok (.iadd, 1) := by decide +kernel
theorem d_law_1487 : decode b_law 1487 = .ok (.iaload, 1) := by decide +kernel
theorem d_law_1488 : decode b_law 1488 = .ok (.aload_n 0, 1) := by decide +kernel
theorem d_law_1489 : decode b_law 1489 = .ok (.iload 4, 2) := by decide +kernel
theorem d_law_1491 : decode b_law 1491 = .ok (.bipush 7, 2) := by decide +kernel
theorem d_law_1493 : decode b_law 1493 = .ok (.iadd, 1) := by decide +kernel
theorem d_law_1494 : decode b_law 1494 = .ok (.iaload, 1) := by decide +kernel
theorem d_law_1495 : decode b_law 1495 = .ok (.aload_n 3, 1) := by decide +kernel
theorem d_law_1496 : decode b_law 1496 = .ok (.invokestatic 119, 3) := by decide +kernel
theorem d_law_1574 : decode b_law 1574 = .ok (.aload_n 1, 1) := by decide +kernel
theorem d_law_1575 : decode b_law 1575 = .ok (.aload_n 0, 1) := by decide +kernel
theorem d_law_1576 : decode b_law 1576 = .ok (.iload 4, 2) := by decide +kernel
theorem d_law_1578 : decode b_law 1578 = .ok (.iconst 1, 1) := by decide +kernel
theorem d_law_1579 : decode b_law 1579 = .ok (.iadd, 1) := by decide +kernel
theorem d_law_1580 : decode b_law 1580 = .ok (.iaload, 1) := by decide +kernel
theorem d_law_1581 : decode b_law 1581 = .ok (.aload_n 0, 1) := by decide +kernel
theorem d_law_1582 : decode b_law 1582 = .ok (.iload 4, 2) := by decide +kernel
theorem d_law_1584 : decode b_law 1584 = .ok (.iconst 2, 1) := by decide +kernel
theorem d_law_1585 : decode b_law 1585 = .ok (.iadd, 1) := by decide +kernel
theorem d_law_1586 : decode b_law 1586 = .ok (.iaload, 1) := by decide +kernel
theorem d_law_1587 : decode b_law 1587 = .ok (.aload_n 3, 1) := by decide +kernel
theorem d_law_1588 : decode b_law 1588 = .ok (.invokestatic 122, 3) := by decide +kernel
theorem d_law_1614 : decode b_law 1614 = .ok (.aload_n 1, 1) := by decide +kernel
theorem d_law_1615 : decode b_law 1615 = .ok (.invokevirtual 125, 3) := by decide +kernel
theorem d_law_1627 : decode b_law 1627 = .ok (.aload_n 1, 1) := by decide +kernel
theorem d_law_1628 : decode b_law 1628 = .ok (.aload_n 0, 1) := by decide +kernel
theorem d_law_1629 : decode b_law 1629 = .ok (.iload 4, 2) := by decide +kernel
theorem d_law_1631 : decode b_law 1631 = .ok (.iconst 1, 1) := by decide +kernel
theorem d_law_1632 : decode b_law 1632 = .ok (.iadd, 1) := by decide +kernel
theorem d_law_1633 : decode b_law 1633 = .ok (.iaload, 1) := by decide +kernel
theorem d_law_1634 : decode b_law 1634 = .ok (.aload_n 0, 1) := by decide +kernel
theorem d_law_1635 : decode b_law 1635 = .ok (.iload 4, 2) := by decide +kernel
theorem d_law_1637 : decode b_law 1637 = .ok (.iconst 2, 1) := by decide +kernel
theorem d_law_1638 : decode b_law 1638 = .ok (.iadd, 1) := by decide +kernel
theorem d_law_1639 : decode b_law 1639 = .ok (.iaload, 1) := by decide +kernel
theorem d_law_1640 : decode b_law 1640 = .ok (.aload_n 3, 1) := by decide +kernel
theorem d_law_1641 : decode b_law 1641 = .ok (.invokestatic 129, 3) := by decide +kernel
theorem d_law_1667 : decode b_law 1667 = .ok (.aload_n 1, 1) := by decide +kernel
theorem d_law_1668 : decode b_law 1668 = .ok (.aload_n 0, 1) := by decide +kernel
theorem d_law_1669 : decode b_law 1669 = .ok (.iload 4, 2) := by decide +kernel
theorem d_law_1671 : decode b_law 1671 = .ok (.iconst 1, 1) := by decide +kernel
theorem d_law_1672 : decode b_law 1672 = .ok (.iadd, 1) := by decide +kernel
theorem d_law_1673 : decode b_law 1673 = .ok (.iaload, 1) := by decide +kernel
theorem d_law_1674 : decode b_law 1674 = .ok (.i2l, 1) := by decide +kernel
theorem d_law_1675 : decode b_law 1675 = .ok (.bipush 32, 2) := by decide +kernel
theorem d_law_1677 : decode b_law 1677 = .ok (.lshl, 1) := by decide +kernel
theorem d_law_1678 : decode b_law 1678 = .ok (.aload_n 0, 1) := by decide +kernel
theorem d_law_1679 : decode b_law 1679 = .ok (.iload 4, 2) := by decide +kernel
theorem d_law_1681 : decode b_law 1681 = .ok (.iconst 2, 1) := by decide +kernel
theorem d_law_1682 : decode b_law 1682 = .ok (.iadd, 1) := by decide +kernel
theorem d_law_1683 : decode b_law 1683 = .ok (.iaload, 1) := by decide +kernel
theorem d_law_1684 : decode b_law 1684 = .ok (.i2l, 1) := by decide +kernel
theorem d_law_1685 : decode b_law 1685 = .ok (.ldc2_w 86, 3) := by decide +kernel
theorem d_law_1688 : decode b_law 1688 = .ok (.land, 1) := by decide +kernel
theorem d_law_1689 : decode b_law 1689 = .ok (.lor, 1) := by decide +kernel
theorem d_law_1690 : decode b_law 1690 = .ok (.aload_n 0, 1) := by decide +kernel
theorem d_law_1691 : decode b_law 1691 = .ok (.iload 4, 2) := by decide +kernel
theorem d_law_1693 : decode b_law 1693 = .ok (.iconst 3, 1) := by decide +kernel
theorem d_law_1694 : decode b_law 1694 = .ok (.iadd, 1) := by decide +kernel
theorem d_law_1695 : decode b_law 1695 = .ok (.iaload, 1) := by decide +kernel
theorem d_law_1696 : decode b_law 1696 = .ok (.i2l, 1) := by decide +kernel
theorem d_law_1697 : decode b_law 1697 = .ok (.bipush 32, 2) := by decide +kernel
theorem d_law_1699 : decode b_law 1699 = .ok (.lshl, 1) := by decide +kernel
theorem d_law_1700 : decode b_law 1700 = .ok (.aload_n 0, 1) := by decide +kernel
theorem d_law_1701 : decode b_law 1701 = .ok (.iload 4, 2) := by decide +kernel
theorem d_law_1703 : decode b_law 1703 = .ok (.iconst 4, 1) := by decide +kernel
theorem d_law_1704 : decode b_law 1704 = .ok (.iadd, 1) := by decide +kernel
theorem d_law_1705 : decode b_law 1705 = .ok (.iaload, 1) := by decide +kernel
theorem d_law_1706 : decode b_law 1706 = .ok (.i2l, 1) := by decide +kernel
theorem d_law_1707 : decode b_law 1707 = .ok (.ldc2_w 86, 3) := by decide +kernel
theorem d_law_1710 : decode b_law 1710 = .ok (.land, 1) := by decide +kernel
theorem d_law_1711 : decode b_law 1711 = .ok (.lor, 1) := by decide +kernel
theorem d_law_1712 : decode b_law 1712 = .ok (.aload_n 0, 1) := by decide +kernel
theorem d_law_1713 : decode b_law 1713 = .ok (.iload 4, 2) := by decide +kernel
theorem d_law_1715 : decode b_law 1715 = .ok (.iconst 5, 1) := by decide +kernel
theorem d_law_1716 : decode b_law 1716 = .ok (.iadd, 1) := by decide +kernel
theorem d_law_1717 : decode b_law 1717 = .ok (.iaload, 1) := by decide +kernel
theorem d_law_1718 : decode b_law 1718 = .ok (.i2l, 1) := by decide +kernel
theorem d_law_1719 : decode b_law 1719 = .ok (.bipush 32, 2) := by decide +kernel
theorem d_law_1721 : decode b_law 1721 = .ok (.lshl, 1) := by decide +kernel
theorem d_law_1722 : decode b_law 1722 = .ok (.aload_n 0, 1) := by decide +kernel
theorem d_law_1723 : decode b_law 1723 = .ok (.iload 4, 2) := by decide +kernel
theorem d_law_1725 : decode b_law 1725 = .ok (.bipush 6, 2) := by decide +kernel
theorem d_law_1727 : decode b_law 1727 = .ok (.iadd, 1) := by decide +kernel
theorem d_law_1728 : decode b_law 1728 = .ok (.iaload, 1) := by decide +kernel
theorem d_law_1729 : decode b_law 1729 = .ok (.i2l, 1) := by decide +kernel
theorem d_law_1730 : decode b_law 1730 = .ok (.ldc2_w 86, 3) := by decide +kernel
theorem d_law_1733 : decode b_law 1733 = .ok (.land, 1) := by decide +kernel
theorem d_law_1734 : decode b_law 1734 = .ok (.lor, 1) := by decide +kernel
theorem d_law_1735 : decode b_law 1735 = .ok (.aload_n 0, 1) := by decide +kernel
theorem d_law_1736 : decode b_law 1736 = .ok (.iload 4, 2) := by decide +kernel
theorem d_law_1738 : decode b_law 1738 = .ok (.bipush 7, 2) := by decide +kernel
theorem d_law_1740 : decode b_law 1740 = .ok (.iadd, 1) := by decide +kernel
theorem d_law_1741 : decode b_law 1741 = .ok (.iaload, 1) := by decide +kernel
theorem d_law_1742 : decode b_law 1742 = .ok (.i2l, 1) := by decide +kernel
theorem d_law_1743 : decode b_law 1743 = .ok (.bipush 32, 2) := by decide +kernel
theorem d_law_1745 : decode b_law 1745 = .ok (.lshl, 1) := by decide +kernel
theorem d_law_1746 : decode b_law 1746 = .ok (.aload_n 0, 1) := by decide +kernel
theorem d_law_1747 : decode b_law 1747 = .ok (.iload 4, 2) := by decide +kernel
theorem d_law_1749 : decode b_law 1749 = .ok (.bipush 8, 2) := by decide +kernel
theorem d_law_1751 : decode b_law 1751 = .ok (.iadd, 1) := by decide +kernel
theorem d_law_1752 : decode b_law 1752 = .ok (.iaload, 1) := by decide +kernel
theorem d_law_1753 : decode b_law 1753 = .ok (.i2l, 1) := by decide +kernel
theorem d_law_1754 : decode b_law 1754 = .ok (.ldc2_w 86, 3) := by decide +kernel
theorem d_law_1757 : decode b_law 1757 = .ok (.land, 1) := by decide +kernel
theorem d_law_1758 : decode b_law 1758 = .ok (.lor, 1) := by decide +kernel
theorem d_law_1759 : decode b_law 1759 = .ok (.aload_n 0, 1) := by decide +kernel
theorem d_law_1760 : decode b_law 1760 = .ok (.iload 4, 2) := by decide +kernel
theorem d_law_1762 : decode b_law 1762 = .ok (.bipush 9, 2) := by decide +kernel
theorem d_law_1764 : decode b_law 1764 = .ok (.iadd, 1) := by decide +kernel
theorem d_law_1765 : decode b_law 1765 = .ok (.iaload, 1) := by decide +kernel
theorem d_law_1766 : decode b_law 1766 = .ok (.aload_n 0, 1) := by decide +kernel
theorem d_law_1767 : decode b_law 1767 = .ok (.iload 4, 2) := by decide +kernel
theorem d_law_1769 : decode b_law 1769 = .ok (.bipush 10, 2) := by decide +kernel
theorem d_law_1771 : decode b_law 1771 = .ok (.iadd, 1) := by decide +kernel
theorem d_law_1772 : decode b_law 1772 = .ok (.iaload, 1) := by decide +kernel
theorem d_law_1773 : decode b_law 1773 = .ok (.i2l, 1) := by decide +kernel
theorem d_law_1774 : decode b_law 1774 = .ok (.bipush 32, 2) := by decide +kernel
theorem d_law_1776 : decode b_law 1776 = .ok (.lshl, 1) := by decide +kernel
theorem d_law_1777 : decode b_law 1777 = .ok (.aload_n 0, 1) := by decide +kernel
theorem d_law_1778 : decode b_law 1778 = .ok (.iload 4, 2) := by decide +kernel
theorem d_law_1780 : decode b_law 1780 = .ok (.bipush 11, 2) := by decide +kernel
theorem d_law_1782 : decode b_law 1782 = .ok (.iadd, 1) := by decide +kernel
theorem d_law_1783 : decode b_law 1783 = .ok (.iaload, 1) := by decide +kernel
theorem d_law_1784 : decode b_law 1784 = .ok (.i2l, 1) := by decide +kernel
theorem d_law_1785 : decode b_law 1785 = .ok (.ldc2_w 86, 3) := by decide +kernel
theorem d_law_1788 : decode b_law 1788 = .ok (.land, 1) := by decide +kernel
theorem d_law_1789 : decode b_law 1789 = .ok (.lor, 1) := by decide +kernel
theorem d_law_1790 : decode b_law 1790 = .ok (.aload_n 3, 1) := by decide +kernel
theorem d_law_1791 : decode b_law 1791 = .ok (.invokestatic 132, 3) := by decide +kernel
theorem d_law_1927 : decode b_law 1927 = .ok (.aload_n 1, 1) := by decide +kernel
theorem d_law_1928 : decode b_law 1928 = .ok (.aload_n 0, 1) := by decide +kernel
theorem d_law_1929 : decode b_law 1929 = .ok (.iload 4, 2) := by decide +kernel
theorem d_law_1931 : decode b_law 1931 = .ok (.iconst 1, 1) := by decide +kernel
theorem d_law_1932 : decode b_law 1932 = .ok (.iadd, 1) := by decide +kernel
theorem d_law_1933 : decode b_law 1933 = .ok (.iaload, 1) := by decide +kernel
theorem d_law_1934 : decode b_law 1934 = .ok (.invokevirtual 136, 3) := by decide +kernel
theorem d_law_1952 : decode b_law 1952 = .ok (.aload_n 1, 1) := by decide +kernel
theorem d_law_1953 : decode b_law 1953 = .ok (.aload_n 0, 1) := by decide +kernel
theorem d_law_1954 : decode b_law 1954 = .ok (.iload 4, 2) := by decide +kernel
theorem d_law_1956 : decode b_law 1956 = .ok (.iconst 1, 1) := by decide +kernel
theorem d_law_1957 : decode b_law 1957 = .ok (.iadd, 1) := by decide +kernel
theorem d_law_1958 : decode b_law 1958 = .ok (.iaload, 1) := by decide +kernel
theorem d_law_1959 : decode b_law 1959 = .ok (.aload_n 0, 1) := by decide +kernel
theorem d_law_1960 : decode b_law 1960 = .ok (.iload 4, 2) := by decide +kernel
theorem d_law_1962 : decode b_law 1962 = .ok (.iconst 2, 1) := by decide +kernel
theorem d_law_1963 : decode b_law 1963 = .ok (.iadd, 1) := by decide +kernel
theorem d_law_1964 : decode b_law 1964 = .ok (.iaload, 1) := by decide +kernel
theorem d_law_1965 : decode b_law 1965 = .ok (.aload_n 3, 1) := by decide +kernel
theorem d_law_1966 : decode b_law 1966 = .ok (.invokestatic 141, 3) := by decide +kernel
theorem d_law_1992 : decode b_law 1992 = .ok (.aload_n 1, 1) := by decide +kernel
theorem d_law_1993 : decode b_law 1993 = .ok (.aload_n 0, 1) := by decide +kernel
theorem d_law_1994 : decode b_law 1994 = .ok (.iload 4, 2) := by decide +kernel
theorem d_law_1996 : decode b_law 1996 = .ok (.iconst 1, 1) := by decide +kernel
theorem d_law_1997 : decode b_law 1997 = .ok (.iadd, 1) := by decide +kernel
theorem d_law_1998 : decode b_law 1998 = .ok (.iaload, 1) := by decide +kernel
theorem d_law_1999 : decode b_law 1999 = .ok (.i2l, 1) := by decide +kernel
theorem d_law_2000 : decode b_law 2000 = .ok (.bipush 32, 2) := by decide +kernel
theorem d_law_2002 : decode b_law 2002 = .ok (.lshl, 1) := by decide +kernel
theorem d_law_2003 : decode b_law 2003 = .ok (.aload_n 0, 1) := by decide +kernel
theorem d_law_2004 : decode b_law 2004 = .ok (.iload 4, 2) := by decide +kernel
theorem d_law_2006 : decode b_law 2006 = .ok (.iconst 2, 1) := by decide +kernel
theorem d_law_2007 : decode b_law 2007 = .ok (.iadd, 1) := by decide +kernel
theorem d_law_2008 : decode b_law 2008 = .ok (.iaload, 1) := by decide +kernel
theorem d_law_2009 : decode b_law 2009 = .ok (.i2l, 1) := by decide +kernel
theorem d_law_2010 : decode b_law 2010 = .ok (.ldc2_w 86, 3) := by decide +kernel
theorem d_law_2013 : decode b_law 2013 = .ok (.land, 1) := by decide +kernel
theorem d_law_2014 : decode b_law 2014 = .ok (.lor, 1) := by decide +kernel
theorem d_law_2015 : decode b_law 2015 = .ok (.aload_n 0, 1) := by decide +kernel
theorem d_law_2016 : decode b_law 2016 = .ok (.iload 4, 2) := by decide +kernel
theorem d_law_2018 : decode b_law 2018 = .ok (.iconst 3, 1) := by decide +kernel
theorem d_law_2019 : decode b_law 2019 = .ok (.iadd, 1) := by decide +kernel
theorem d_law_2020 : decode b_law 2020 = .ok (.iaload, 1) := by decide +kernel
theorem d_law_2021 : decode b_law 2021 = .ok (.aload_n 0, 1) := by decide +kernel
theorem d_law_2022 : decode b_law 2022 = .ok (.iload 4, 2) := by decide +kernel
theorem d_law_2024 : decode b_law 2024 = .ok (.iconst 4, 1) := by decide +kernel
theorem d_law_2025 : decode b_law 2025 = .ok (.iadd, 1) := by decide +kernel
theorem d_law_2026 : decode b_law 2026 = .ok (.iaload, 1) := by decide +kernel
theorem d_law_2027 : decode b_law 2027 = .ok (.aload_n 3, 1) := by decide +kernel
theorem d_law_2028 : decode b_law 2028 = .ok (.invokestatic 144, 3) := by decide +kernel
theorem d_law_2076 : decode b_law 2076 = .ok (.aload_n 1, 1) := by decide +kernel
theorem d_law_2077 : decode b_law 2077 = .ok (.aload_n 0, 1) := by decide +kernel
theorem d_law_2078 : decode b_law 2078 = .ok (.iload 4, 2) := by decide +kernel
theorem d_law_2080 : decode b_law 2080 = .ok (.iconst 1, 1) := by decide +kernel
theorem d_law_2081 : decode b_law 2081 = .ok (.iadd, 1) := by decide +kernel
theorem d_law_2082 : decode b_law 2082 = .ok (.iaload, 1) := by decide +kernel
theorem d_law_2083 : decode b_law 2083 = .ok (.aload_n 3, 1) := by decide +kernel
theorem d_law_2084 : decode b_law 2084 = .ok (.invokestatic 148, 3) := by decide +kernel
theorem d_law_2104 : decode b_law 2104 = .ok (.iinc 4 14, 3) := by decide +kernel
theorem d_law_2107 : decode b_law 2107 = .ok (.goto (-2072), 3) := by decide +kernel
theorem d_law_2110 : decode b_law 2110 = .ok (.iconst 1, 1) := by decide +kernel
theorem d_law_2111 : decode b_law 2111 = .ok (.ireturn, 1) := by decide +kernel
abbrev rm_law : Room := room_1
set_option maxHeartbeats 4000000 in
set_option maxRecDepth 100000 in
theorem m_law {p : Program} {l : Launch} {e : Env} {s : State} {m : MethodId} {below : List Frame} {meth : Method} {c : Code} {ls : Array Slot} {args : Array Value} {A : Nat → Prop} {Q : State → Prop} (hst : l.stackTraces = false) (D : gD) (g0 : gG) (a0 : Nat) (w : gW) (r : (String ⊕ Int32) × gW) (h : f_law g0 a0 w = some r) (hx : p.tables.exec = Jvm.exec) (hb : c.code = b_law) (hml : c.maxLocals = 8) (hown : s.vm.findClass "BodySolidsLaw" = some m.cls) (hT : gT s) (hK : gK D s) (hZ : gZ A s s.heap g0) (hA : ∀ q : Nat, s.heap.size ≤ q → A q) (hret : ∀ {v : Int32}, (v = 0 ∨ v = 1) → ∀ (v9 : Int32) (w1 : gW), r = (.inr v, w1) → ∀ (pc : Nat) (ls : Array Slot) (H : Heap) (locs : List Loc), decode b_law pc = .ok (.ireturn, 1) → gI D s A w1 H locs → W p l e rm_law s m args below meth c H locs 601024 7293000 Q (F0 m pc ls [.int v])) (hexc : gEx p l e rm_law s m args below meth c Q D A r) (hI : gI D s A w s.heap []) (hl : lv_has ls 8 [(0, .ref a0)]) : W p l e rm_law s m args below meth c s.heap [] 0 0 Q (F0 m 0 ls []) := by
  obtain ⟨H, hH⟩ : ∃ H, H = s.heap := ⟨_, rfl⟩
  rw [← hH] at hI ⊢
  obtain ⟨locs, hlocs⟩ : ∃ z : List Loc, z = [] := ⟨_, rfl⟩
  rw [← hlocs] at hI ⊢
  have hl : lv_has ls 8 [(0, .ref a0)] := hl
  unfold f_law at h
  obtain ⟨o1, w, e2, h⟩ := gb2 h
  refine gw_new hx hb hT hown hK hI hA (ci := 0) rfl i_0 t_0 t_0_ok wd_72 wd_73 wd_49 (fs := [.long 0, .null, .null, .null, .null, .null, .int 0, .null, .null, .null]) df_0 e2 (show 0 + 1 ≤ 601024 by omega) (show 0 + 10 ≤ 7293000 by omega) d_law_0 (fun H hI => ?_)
  refine W.widen (k := 1) (n := 10) (show 0 + 1 ≤ 1 by omega) (show 0 + 10 ≤ 10 by omega) ?_
  refine lv_dup hx hb d_law_3 rfl ?_
  refine lv_aload_n hx hb d_law_4 rfl (lv_at hl 0 rfl) ?_
  refine lv_iconst (v := 0) hx hb d_law_5 (by decide) ?_
  obtain ⟨u3, e4⟩ := gsome h
  refine gw_callI e4 h (gw_runS (As := [.ref a0, .int 0]) (rest := [.ref o1, .ref o1]) hx hb hml hown hT hK hZ hA hI (m_W_cell l hst D g0 a0 0 w u3 e4) ce_W_cell wd_424 ⟨by decide, by decide⟩ rfl rfl hl.1 rfl (lv_room (Nat.le_of_ble_eq_true rfl)) d_law_6 ⟨(show 1 + 0 ≤ 601024 by omega), (show 10 + 0 ≤ 7293000 by omega)⟩) hI hA hexc (show 1 + 0 ≤ 601024 by omega) (show 10 + 0 ≤ 7293000 by omega) (fun v5 w H locs h hI => ?_)
  refine lv_i2l (v := v5.toInt64) hx hb d_law_9 rfl ?_
  obtain ⟨u6, e7⟩ := gsome h
  refine gw_callV e7 h (gw_runI (As := [.long (v5.toInt64)]) (rest := [.ref o1]) hx hb hml hown hT hK hZ hA hI (m_B_init l hst D g0 o1 (v5.toInt64) w u6 e7) ce_B_init wd_74 rfl ⟨by decide, by decide⟩ rfl rfl hl.1 rfl (lv_room (Nat.le_of_ble_eq_true rfl)) d_law_10 ⟨(show 1 + 88 ≤ 601024 by omega), (show 10 + 1681 ≤ 7293000 by omega)⟩) hI hA hexc (show 1 + 88 ≤ 601024 by omega) (show 10 + 1681 ≤ 7293000 by omega) (fun v8 w H locs h hI => ?_)
  refine W.widen (k := 89) (n := 1691) (show 1 + 88 ≤ 89 by omega) (show 10 + 1681 ≤ 1691 by omega) ?_
  refine lv_astore_n (lv' := [(1, .ref o1), (0, .ref a0)]) hx hb d_law_13 rfl hl (by decide) rfl (fun ls hl => ?_)
  obtain ⟨o9, w, e10, h⟩ := gb2 h
  refine gw_new hx hb hT hown hK hI hA (ci := 7) rfl i_7 t_7 t_7_ok wd_779 wd_780 wd_57 (fs := [.int 0, .long 0, .int 0, .null, .null, .null, .null, .null, .null, .int 0, .null, .null, .int 0, .null, .null, .null, .null, .null, .int 0, .null, .null, .null, .null, .null, .null, .null, .null]) df_7 e10 (show 89 + 1 ≤ 601024 by omega) (show 1691 + 27 ≤ 7293000 by omega) d_law_14 (fun H hI => ?_)
  refine W.widen (k := 90) (n := 1718) (show 89 + 1 ≤ 90 by omega) (show 1691 + 27 ≤ 1718 by omega) ?_
  refine lv_dup hx hb d_law_17 rfl ?_
  refine lv_aload_n hx hb d_law_18 rfl (lv_at hl 1 rfl) ?_
  refine lv_iconst (v := 0) hx hb d_law_19 (by decide) ?_
  obtain ⟨u11, e12⟩ := gsome h
  refine gw_callI e12 h (gw_runS (As := [.ref a0, .int 0]) (rest := [.ref o9, .ref o9]) hx hb hml hown hT hK hZ hA hI (m_W_cell l hst D g0 a0 0 w u11 e12) ce_W_cell wd_424 ⟨by decide, by decide⟩ rfl rfl hl.1 rfl (lv_room (Nat.le_of_ble_eq_true rfl)) d_law_20 ⟨(show 90 + 0 ≤ 601024 by omega), (show 1718 + 0 ≤ 7293000 by omega)⟩) hI hA hexc (show 90 + 0 ≤ 601024 by omega) (show 1718 + 0 ≤ 7293000 by omega) (fun v13 w H locs h hI => ?_)
  refine lv_i2l (v := v13.toInt64) hx hb d_law_23 rfl ?_
  obtain ⟨u14, e15⟩ := gsome h
  refine gw_callV e15 h (gw_runI (As := [.long (v13.toInt64)]) (rest := [.ref o9]) hx hb hml hown hT hK hZ hA hI (m_M_init l hst D g0 o9 (v13.toInt64) w u14 e15) ce_M_init wd_781 rfl ⟨by decide, by decide⟩ rfl rfl hl.1 rfl (lv_room (Nat.le_of_ble_eq_true rfl)) d_law_24 ⟨(show 90 + 21 ≤ 601024 by omega), (show 1718 + 8938 ≤ 7293000 by omega)⟩) hI hA hexc (show 90 + 21 ≤ 601024 by omega) (show 1718 + 8938 ≤ 7293000 by omega) (fun v16 w H locs h hI => ?_)
  refine W.widen (k := 111) (n := 10656) (show 90 + 21 ≤ 111 by omega) (show 1718 + 8938 ≤ 10656 by omega) ?_
  refine lv_astore_n (lv' := [(2, .ref o9), (1, .ref o1), (0, .ref a0)]) hx hb d_law_27 rfl hl (by decide) rfl (fun ls hl => ?_)
  refine lv_iconst (v := 1) hx hb d_law_28 (by decide) ?_
  obtain ⟨o17, w, e18, h⟩ := gb2 h
  refine gw_newa (atype := .long) (ty := .long) (M := 1) hx hb hK hI hA (hT _ wd_178 args) rfl (k := 1) rfl (fun h9 => h9) e18 (show 111 + 1 ≤ 601024 by omega) (show 10656 + 1 ≤ 7293000 by omega) (show 1 * 8 ≤ 536870912 by omega) d_law_29 (fun H hI => ?_)
  refine W.widen (k := 112) (n := 10657) (show 111 + 1 ≤ 112 by omega) (show 10656 + 1 ≤ 10657 by omega) ?_
  refine lv_astore_n (lv' := [(3, .ref o17), (2, .ref o9), (1, .ref o1), (0, .ref a0)]) hx hb d_law_31 rfl hl (by decide) rfl (fun ls hl => ?_)
  refine lv_iconst (v := 1) hx hb d_law_32 (by decide) ?_
  refine lv_istore (lv' := [(4, .int 1), (3, .ref o17), (2, .ref o9), (1, .ref o1), (0, .ref a0)]) hx hb d_law_33 hl (by decide) rfl (fun ls hl => ?_)
  obtain ⟨K2110, eK2110, h⟩ := gj h
  have hK2110 : ∀ (w : gW) (H : Heap) (locs : List Loc) (ls : Array Slot), K2110 w = some r → gI D s A w H locs → lv_has ls 8 [] → W p l e rm_law s m args below meth c H locs 16015 905842 Q (F0 m 2110 ls []) := by
    intro w H locs ls h hI hl
    have h := gk1 eK2110 h
    refine lv_iconst (v := 1) hx hb d_law_2110 (by decide) ?_
    obtain ⟨g19, h⟩ := gif h
    exact W.widen (show 16015 ≤ 601024 by omega) (show 905842 ≤ 7293000 by omega) (hret g19 0 _ (Option.some.inj h).symm _ _ _ _ d_law_2111 hI)
  obtain ⟨K487, eK487, h⟩ := gj h
  have hK487 : ∀ (w : gW) (H : Heap) (locs : List Loc) (ls : Array Slot), K487 w = some r → gI D s A w H locs → lv_has ls 8 [] → W p l e rm_law s m args below meth c H locs 16015 905842 Q (F0 m 487 ls []) := by
    intro w H locs ls h hI hl
    have h := gk1 eK487 h
    refine lv_iconst (v := 0) hx hb d_law_487 (by decide) ?_
    obtain ⟨g20, h⟩ := gif h
    exact W.widen (show 16015 ≤ 601024 by omega) (show 905842 ≤ 7293000 by omega) (hret g20 0 _ (Option.some.inj h).symm _ _ _ _ d_law_488 hI)
  obtain ⟨K463, eK463, h⟩ := gj h
  have hK463 : ∀ (w : gW) (H : Heap) (locs : List Loc) (ls : Array Slot), K463 w = some r → gI D s A w H locs → lv_has ls 8 [] → W p l e rm_law s m args below meth c H locs 16015 905842 Q (F0 m 463 ls []) := by
    intro w H locs ls h hI hl
    have h := gk1 eK463 h
    refine lv_iconst (v := 0) hx hb d_law_463 (by decide) ?_
    obtain ⟨g21, h⟩ := gif h
    exact W.widen (show 16015 ≤ 601024 by omega) (show 905842 ≤ 7293000 by omega) (hret g21 0 _ (Option.some.inj h).symm _ _ _ _ d_law_464 hI)
  obtain ⟨K492, eK492, h⟩ := gj h
  have hK492 : ∀ (x22 : Int32) (w : gW) (H : Heap) (locs : List Loc) (ls : Array Slot), K492 x22 w = some r → gI D s A w H locs → lv_has ls 8 [(0, .ref a0), (1, .ref o1), (3, .ref o17), (4, .int x22)] → W p l e rm_law s m args below meth c H locs 16015 905842 Q (F0 m 492 ls []) := by
    intro x22 w H locs ls h hI hl
    have h := gk2 eK492 h
    exact absurd h (by simp)
  obtain ⟨K972, eK972, h⟩ := gj h
  have hK972 : ∀ (x23 : Int32) (w : gW) (H : Heap) (locs : List Loc) (ls : Array Slot), K972 x23 w = some r → gI D s A w H locs → lv_has ls 8 [(0, .ref a0), (1, .ref o1), (3, .ref o17), (4, .int x23)] → W p l e rm_law s m args below meth c H locs 16015 905842 Q (F0 m 972 ls []) := by
    intro x23 w H locs ls h hI hl
    have h := gk2 eK972 h
    exact absurd h (by simp)
  obtain ⟨K1286, eK1286, h⟩ := gj h
  have hK1286 : ∀ (x24 : Int32) (w : gW) (H : Heap) (locs : List Loc) (ls : Array Slot), K1286 x24 w = some r → gI D s A w H locs → lv_has ls 8 [(0, .ref a0), (1, .ref o1), (3, .ref o17), (4, .int x24)] → W p l e rm_law s m args below meth c H locs 16015 905842 Q (F0 m 1286 ls []) := by
    intro x24 w H locs ls h hI hl
    have h := gk2 eK1286 h
    exact absurd h (by simp)
  obtain ⟨K1430, eK1430, h⟩ := gj h
  have hK1430 : ∀ (x25 : Int32) (w : gW) (H : Heap) (locs : List Loc) (ls : Array Slot), K1430 x25 w = some r → gI D s A w H locs → lv_has ls 8 [(0, .ref a0), (1, .ref o1), (3, .ref o17), (4, .int x25)] → W p l e rm_law s m args below meth c H locs 16015 905842 Q (F0 m 1430 ls []) := by
    intro x25 w H locs ls h hI hl
    have h := gk2 eK1430 h
    exact absurd h (by simp)
  obtain ⟨K1574, eK1574, h⟩ := gj h
  have hK1574 : ∀ (x26 : Int32) (w : gW) (H : Heap) (locs : List Loc) (ls : Array Slot), K1574 x26 w = some r → gI D s A w H locs → lv_has ls 8 [(0, .ref a0), (1, .ref o1), (3, .ref o17), (4, .int x26)] → W p l e rm_law s m args below meth c H locs 16015 905842 Q (F0 m 1574 ls []) := by
    intro x26 w H locs ls h hI hl
    have h := gk2 eK1574 h
    exact absurd h (by simp)
  obtain ⟨K1614, eK1614, h⟩ := gj h
  have hK1614 : ∀ (w : gW) (H : Heap) (locs : List Loc) (ls : Array Slot), K1614 w = some r → gI D s A w H locs → lv_has ls 8 [(1, .ref o1)] → W p l e rm_law s m args below meth c H locs 16015 905842 Q (F0 m 1614 ls []) := by
    intro w H locs ls h hI hl
    have h := gk1 eK1614 h
    exact absurd h (by simp)
  obtain ⟨K1627, eK1627, h⟩ := gj h
  have hK1627 : ∀ (x27 : Int32) (w : gW) (H : Heap) (locs : List Loc) (ls : Array Slot), K1627 x27 w = some r → gI D s A w H locs → lv_has ls 8 [(0, .ref a0), (1, .ref o1), (3, .ref o17), (4, .int x27)] → W p l e rm_law s m args below meth c H locs 16015 905842 Q (F0 m 1627 ls []) := by
    intro x27 w H locs ls h hI hl
    have h := gk2 eK1627 h
    exact absurd h (by simp)
  obtain ⟨K1667, eK1667, h⟩ := gj h
  have hK1667 : ∀ (x28 : Int32) (w : gW) (H : Heap) (locs : List Loc) (ls : Array Slot), K1667 x28 w = some r → gI D s A w H locs → lv_has ls 8 [(0, .ref a0), (1, .ref o1), (3, .ref o17), (4, .int x28)] → W p l e rm_law s m args below meth c H locs 16015 905842 Q (F0 m 1667 ls []) := by
    intro x28 w H locs ls h hI hl
    have h := gk2 eK1667 h
    exact absurd h (by simp)
  obtain ⟨K1927, eK1927, h⟩ := gj h
  have hK1927 : ∀ (x29 : Int32) (w : gW) (H : Heap) (locs : List Loc) (ls : Array Slot), K1927 x29 w = some r → gI D s A w H locs → lv_has ls 8 [(0, .ref a0), (1, .ref o1), (4, .int x29)] → W p l e rm_law s m args below meth c H locs 16015 905842 Q (F0 m 1927 ls []) := by
    intro x29 w H locs ls h hI hl
    have h := gk2 eK1927 h
    exact absurd h (by simp)
  obtain ⟨K1952, eK1952, h⟩ := gj h
  have hK1952 : ∀ (x30 : Int32) (w : gW) (H : Heap) (locs : List Loc) (ls : Array Slot), K1952 x30 w = some r → gI D s A w H locs → lv_has ls 8 [(0, .ref a0), (1, .ref o1), (3, .ref o17), (4, .int x30)] → W p l e rm_law s m args below meth c H locs 16015 905842 Q (F0 m 1952 ls []) := by
    intro x30 w H locs ls h hI hl
    have h := gk2 eK1952 h
    exact absurd h (by simp)
  obtain ⟨K1992, eK1992, h⟩ := gj h
  have hK1992 : ∀ (x31 : Int32) (w : gW) (H : Heap) (locs : List Loc) (ls : Array Slot), K1992 x31 w = some r → gI D s A w H locs → lv_has ls 8 [(0, .ref a0), (1, .ref o1), (3, .ref o17), (4, .int x31)] → W p l e rm_law s m args below meth c H locs 16015 905842 Q (F0 m 1992 ls []) := by
    intro x31 w H locs ls h hI hl
    have h := gk2 eK1992 h
    exact absurd h (by simp)
  obtain ⟨K2076, eK2076, h⟩ := gj h
  have hK2076 : ∀ (x32 : Int32) (w : gW) (H : Heap) (locs : List Loc) (ls : Array Slot), K2076 x32 w = some r → gI D s A w H locs → lv_has ls 8 [(0, .ref a0), (1, .ref o1), (3, .ref o17), (4, .int x32)] → W p l e rm_law s m args below meth c H locs 16015 905842 Q (F0 m 2076 ls []) := by
    intro x32 w H locs ls h hI hl
    have h := gk2 eK2076 h
    exact absurd h (by simp)
  have hL35 : ∀ (n : Nat), n ≤ 513 → ∀ (z33 : Int32) (w : gW) (H : Heap) (locs : List Loc) (ls : Array Slot), f_law_L35 g0 a0 o1 o9 o17 K2110 K492 K972 K1286 K1430 K1574 K1614 K1627 K1667 K1927 K1952 K1992 K2076 K463 K487 n z33 w = some r → gI D s A w H locs → lv_has ls 8 [(0, .ref a0), (1, .ref o1), (2, .ref o9), (3, .ref o17), (4, .int z33)] → W p l e rm_law s m args below meth c H locs (16015 - n * 31) (905842 - n * 1745) Q (F0 m 35 ls []) := by
    intro n
    induction n with
    | zero => intro hn z33 w H locs ls h hI hl; exact absurd h (by simp [f_law_L35])
    | succ n ih =>
      intro hn z33 w H locs ls h hI hl
      rw [f_law_L35] at h
      refine lv_iload hx hb d_law_35 (lv_at hl 4 rfl) ?_
      refine lv_aload_n hx hb d_law_37 rfl (lv_at hl 0 rfl) ?_
      obtain ⟨v34, e35, h⟩ := gb h
      refine gw_alen hx hb hK hI e35 d_law_38 ?_
      refine lv_bipush (v := 14) hx hb d_law_39 (by decide) ?_
      refine lv_isub hx hb d_law_41 ?_
      refine lv_icmp_gt (tgt := 2110) hx hb d_law_42 (by decide) (fun c36 => ?_) (fun c36 => ?_)
      · skip
        have h := git c36 h
        refine W.widen (k := 16015) (n := 905842) (show (16015 - (n + 1) * 31) ≤ 16015 by omega) (show (905842 - (n + 1) * 1745) ≤ 905842 by omega) ?_
        exact hK2110 w H locs ls h hI (lv_sub hl [] rfl)
      · skip
        have h := gie c36 h
        refine lv_aload_n hx hb d_law_45 rfl (lv_at hl 0 rfl) ?_
        refine lv_iload hx hb d_law_46 (lv_at hl 4 rfl) ?_
        obtain ⟨v37, e38, h⟩ := gb h
        refine gw_aldI hx hb hK hI e38 d_law_48 ?_
        refine lv_bipush (v := 31) hx hb d_law_49 (by decide) ?_
        refine lv_iand hx hb d_law_51 ?_
        obtain ⟨K2104, eK2104, h⟩ := gj h
        have hK2104 : ∀ (w : gW) (H : Heap) (locs : List Loc) (ls : Array Slot), K2104 w = some r → gI D s A w H locs → lv_has ls 8 [(0, .ref a0), (1, .ref o1), (2, .ref o9), (3, .ref o17), (4, .int z33)] → W p l e rm_law s m args below meth c H locs ((16015 - (n + 1) * 31) + 31) ((905842 - (n + 1) * 1745) + 1745) Q (F0 m 2104 ls []) := by
          intro w H locs ls h hI hl
          have h := gk1 eK2104 h
          refine lv_iinc (v := z33 + 14) (lv' := [(4, .int (z33 + 14)), (0, .ref a0), (1, .ref o1), (2, .ref o9), (3, .ref o17)]) hx hb d_law_2104 hl (k := 4) rfl rfl (by decide) rfl (fun ls hl => ?_)
          refine lv_goto (tgt := 35) hx hb d_law_2107 (by decide) ?_
          refine W.widen (k := (16015 - n * 31)) (n := (905842 - n * 1745)) (show ((16015 - (n + 1) * 31) + 31) ≤ (16015 - n * 31) by omega) (show ((905842 - (n + 1) * 1745) + 1745) ≤ (905842 - n * 1745) by omega) ?_
          exact ih (by omega) _ w H locs ls h hI (lv_sub hl [1, 2, 3, 4, 0] rfl)
        rcases Decidable.em ((v37 &&& 31) = 0) with c39 | c39
        · have h := git c39 h
          refine lv_tableIn (off := 84) (tgt := 136) hx hb d_law_52 (by rw [c39]; decide) (by rw [c39]; decide) (by rw [c39]; decide) (by decide) ?_
          refine lv_aload_n hx hb d_law_136 rfl (lv_at hl 1 rfl) ?_
          obtain ⟨q42, e43, h⟩ := gb h
          obtain ⟨u40, e41⟩ := gsome h
          refine gw_callI e41 h (gw_runV (As := []) (rest := []) hx hb hml hown hT hK hZ hA hI (ci := 0) rfl e43 (m_B_body l hst D g0 o1 w u40 e41) ce_B_body wd_220 wd_222 ⟨by decide, by decide⟩ rfl rfl hl.1 rfl (lv_room (Nat.le_of_ble_eq_true rfl)) d_law_137 ⟨(show (16015 - (n + 1) * 31) + 3 ≤ 601024 by omega), (show (905842 - (n + 1) * 1745) + 69 ≤ 7293000 by omega)⟩) hI hA hexc (show (16015 - (n + 1) * 31) + 3 ≤ 601024 by omega) (show (905842 - (n + 1) * 1745) + 69 ≤ 7293000 by omega) (fun v44 w H locs h hI => ?_)
          refine W.widen (k := ((16015 - (n + 1) * 31) + 3)) (n := ((905842 - (n + 1) * 1745) + 69)) (show (16015 - (n + 1) * 31) + 3 ≤ ((16015 - (n + 1) * 31) + 3) by omega) (show (905842 - (n + 1) * 1745) + 69 ≤ ((905842 - (n + 1) * 1745) + 69) by omega) ?_
          refine lv_pop hx hb d_law_140 rfl ?_
          refine lv_aload_n hx hb d_law_141 rfl (lv_at hl 2 rfl) ?_
          obtain ⟨q47, e48, h⟩ := gb h
          obtain ⟨u45, e46⟩ := gsome h
          refine gw_callI e46 h (gw_runV (As := []) (rest := []) hx hb hml hown hT hK hZ hA hI (ci := 7) rfl e48 (m_M_body l hst D g0 o9 w u45 e46) ce_M_body wd_872 wd_874 ⟨by decide, by decide⟩ rfl rfl hl.1 rfl (lv_room (Nat.le_of_ble_eq_true rfl)) d_law_142 ⟨(show ((16015 - (n + 1) * 31) + 3) + 0 ≤ 601024 by omega), (show ((905842 - (n + 1) * 1745) + 69) + 0 ≤ 7293000 by omega)⟩) hI hA hexc (show ((16015 - (n + 1) * 31) + 3) + 0 ≤ 601024 by omega) (show ((905842 - (n + 1) * 1745) + 69) + 0 ≤ 7293000 by omega) (fun v49 w H locs h hI => ?_)
          refine lv_pop hx hb d_law_145 rfl ?_
          refine lv_goto (tgt := 2104) hx hb d_law_146 (by decide) ?_
          refine W.widen (k := ((16015 - (n + 1) * 31) + 31)) (n := ((905842 - (n + 1) * 1745) + 1745)) (show ((16015 - (n + 1) * 31) + 3) ≤ ((16015 - (n + 1) * 31) + 31) by omega) (show ((905842 - (n + 1) * 1745) + 69) ≤ ((905842 - (n + 1) * 1745) + 1745) by omega) ?_
          exact hK2104 w H locs ls h hI (lv_sub hl [0, 1, 2, 3, 4] rfl)
        have h := gie c39 h
        rcases Decidable.em ((v37 &&& 31) = 1) with c50 | c50
        · have h := git c50 h
          refine lv_tableIn (off := 97) (tgt := 149) hx hb d_law_52 (by rw [c50]; decide) (by rw [c50]; decide) (by rw [c50]; decide) (by decide) ?_
          refine lv_aload_n hx hb d_law_149 rfl (lv_at hl 1 rfl) ?_
          refine lv_aload_n hx hb d_law_150 rfl (lv_at hl 0 rfl) ?_
          refine lv_iload hx hb d_law_151 (lv_at hl 4 rfl) ?_
          refine lv_iconst (v := 1) hx hb d_law_153 (by decide) ?_
          refine lv_iadd hx hb d_law_154 ?_
          obtain ⟨v51, e52, h⟩ := gb h
          refine gw_aldI hx hb hK hI e52 d_law_155 ?_
          refine lv_aload_n hx hb d_law_156 rfl (lv_at hl 0 rfl) ?_
          refine lv_iload hx hb d_law_157 (lv_at hl 4 rfl) ?_
          refine lv_iconst (v := 2) hx hb d_law_159 (by decide) ?_
          refine lv_iadd hx hb d_law_160 ?_
          obtain ⟨v53, e54, h⟩ := gb h
          refine gw_aldI hx hb hK hI e54 d_law_161 ?_
          refine lv_i2l (v := v53.toInt64) hx hb d_law_162 rfl ?_
          refine lv_bipush (v := 32) hx hb d_law_163 (by decide) ?_
          refine lv_lshl (v := (v53.toInt64) <<< ((32 : Int32).toInt64 &&& 63)) hx hb d_law_165 rfl ?_
          refine lv_aload_n hx hb d_law_166 rfl (lv_at hl 0 rfl) ?_
          refine lv_iload hx hb d_law_167 (lv_at hl 4 rfl) ?_
          refine lv_iconst (v := 3) hx hb d_law_169 (by decide) ?_
          refine lv_iadd hx hb d_law_170 ?_
          obtain ⟨v55, e56, h⟩ := gb h
          refine gw_aldI hx hb hK hI e56 d_law_171 ?_
          refine lv_i2l (v := v55.toInt64) hx hb d_law_172 rfl ?_
          refine lv_ldc2 (v := 4294967295) hx hb hown (hT _ wd_1121 args) d_law_173 ?_
          refine lv_land hx hb d_law_176 ?_
          refine lv_lor hx hb d_law_177 ?_
          refine lv_aload_n hx hb d_law_178 rfl (lv_at hl 0 rfl) ?_
          refine lv_iload hx hb d_law_179 (lv_at hl 4 rfl) ?_
          refine lv_iconst (v := 4) hx hb d_law_181 (by decide) ?_
          refine lv_iadd hx hb d_law_182 ?_
          obtain ⟨v57, e58, h⟩ := gb h
          refine gw_aldI hx hb hK hI e58 d_law_183 ?_
          refine lv_i2l (v := v57.toInt64) hx hb d_law_184 rfl ?_
          refine lv_bipush (v := 32) hx hb d_law_185 (by decide) ?_
          refine lv_lshl (v := (v57.toInt64) <<< ((32 : Int32).toInt64 &&& 63)) hx hb d_law_187 rfl ?_
          refine lv_aload_n hx hb d_law_188 rfl (lv_at hl 0 rfl) ?_
          refine lv_iload hx hb d_law_189 (lv_at hl 4 rfl) ?_
          refine lv_iconst (v := 5) hx hb d_law_191 (by decide) ?_
          refine lv_iadd hx hb d_law_192 ?_
          obtain ⟨v59, e60, h⟩ := gb h
          refine gw_aldI hx hb hK hI e60 d_law_193 ?_
          refine lv_i2l (v := v59.toInt64) hx hb d_law_194 rfl ?_
          refine lv_ldc2 (v := 4294967295) hx hb hown (hT _ wd_1121 args) d_law_195 ?_
          refine lv_land hx hb d_law_198 ?_
          refine lv_lor hx hb d_law_199 ?_
          refine lv_aload_n hx hb d_law_200 rfl (lv_at hl 0 rfl) ?_
          refine lv_iload hx hb d_law_201 (lv_at hl 4 rfl) ?_
          refine lv_bipush (v := 6) hx hb d_law_203 (by decide) ?_
          refine lv_iadd hx hb d_law_205 ?_
          obtain ⟨v61, e62, h⟩ := gb h
          refine gw_aldI hx hb hK hI e62 d_law_206 ?_
          refine lv_i2l (v := v61.toInt64) hx hb d_law_207 rfl ?_
          refine lv_bipush (v := 32) hx hb d_law_208 (by decide) ?_
          refine lv_lshl (v := (v61.toInt64) <<< ((32 : Int32).toInt64 &&& 63)) hx hb d_law_210 rfl ?_
          refine lv_aload_n hx hb d_law_211 rfl (lv_at hl 0 rfl) ?_
          refine lv_iload hx hb d_law_212 (lv_at hl 4 rfl) ?_
          refine lv_bipush (v := 7) hx hb d_law_214 (by decide) ?_
          refine lv_iadd hx hb d_law_216 ?_
          obtain ⟨v63, e64, h⟩ := gb h
          refine gw_aldI hx hb hK hI e64 d_law_217 ?_
          refine lv_i2l (v := v63.toInt64) hx hb d_law_218 rfl ?_
          refine lv_ldc2 (v := 4294967295) hx hb hown (hT _ wd_1121 args) d_law_219 ?_
          refine lv_land hx hb d_law_222 ?_
          refine lv_lor hx hb d_law_223 ?_
          refine lv_aload_n hx hb d_law_224 rfl (lv_at hl 0 rfl) ?_
          refine lv_iload hx hb d_law_225 (lv_at hl 4 rfl) ?_
          refine lv_bipush (v := 8) hx hb d_law_227 (by decide) ?_
          refine lv_iadd hx hb d_law_229 ?_
          obtain ⟨v65, e66, h⟩ := gb h
          refine gw_aldI hx hb hK hI e66 d_law_230 ?_
          refine lv_i2l (v := v65.toInt64) hx hb d_law_231 rfl ?_
          refine lv_bipush (v := 32) hx hb d_law_232 (by decide) ?_
          refine lv_lshl (v := (v65.toInt64) <<< ((32 : Int32).toInt64 &&& 63)) hx hb d_law_234 rfl ?_
          refine lv_aload_n hx hb d_law_235 rfl (lv_at hl 0 rfl) ?_
          refine lv_iload hx hb d_law_236 (lv_at hl 4 rfl) ?_
          refine lv_bipush (v := 9) hx hb d_law_238 (by decide) ?_
          refine lv_iadd hx hb d_law_240 ?_
          obtain ⟨v67, e68, h⟩ := gb h
          refine gw_aldI hx hb hK hI e68 d_law_241 ?_
          refine lv_i2l (v := v67.toInt64) hx hb d_law_242 rfl ?_
          refine lv_ldc2 (v := 4294967295) hx hb hown (hT _ wd_1121 args) d_law_243 ?_
          refine lv_land hx hb d_law_246 ?_
          refine lv_lor hx hb d_law_247 ?_
          refine lv_aload_n hx hb d_law_248 rfl (lv_at hl 0 rfl) ?_
          refine lv_iload hx hb d_law_249 (lv_at hl 4 rfl) ?_
          refine lv_bipush (v := 10) hx hb d_law_251 (by decide) ?_
          refine lv_iadd hx hb d_law_253 ?_
          obtain ⟨v69, e70, h⟩ := gb h
          refine gw_aldI hx hb hK hI e70 d_law_254 ?_
          refine lv_i2l (v := v69.toInt64) hx hb d_law_255 rfl ?_
          refine lv_bipush (v := 32) hx hb d_law_256 (by decide) ?_
          refine lv_lshl (v := (v69.toInt64) <<< ((32 : Int32).toInt64 &&& 63)) hx hb d_law_258 rfl ?_
          refine lv_aload_n hx hb d_law_259 rfl (lv_at hl 0 rfl) ?_
          refine lv_iload hx hb d_law_260 (lv_at hl 4 rfl) ?_
          refine lv_bipush (v := 11) hx hb d_law_262 (by decide) ?_
          refine lv_iadd hx hb d_law_264 ?_
          obtain ⟨v71, e72, h⟩ := gb h
          refine gw_aldI hx hb hK hI e72 d_law_265 ?_
          refine lv_i2l (v := v71.toInt64) hx hb d_law_266 rfl ?_
          refine lv_ldc2 (v := 4294967295) hx hb hown (hT _ wd_1121 args) d_law_267 ?_
          refine lv_land hx hb d_law_270 ?_
          refine lv_lor hx hb d_law_271 ?_
          refine lv_aload_n hx hb d_law_272 rfl (lv_at hl 0 rfl) ?_
          refine lv_iload hx hb d_law_273 (lv_at hl 4 rfl) ?_
          refine lv_bipush (v := 12) hx hb d_law_275 (by decide) ?_
          refine lv_iadd hx hb d_law_277 ?_
          obtain ⟨v73, e74, h⟩ := gb h
          refine gw_aldI hx hb hK hI e74 d_law_278 ?_
          refine lv_i2l (v := v73.toInt64) hx hb d_law_279 rfl ?_
          refine lv_bipush (v := 32) hx hb d_law_280 (by decide) ?_
          refine lv_lshl (v := (v73.toInt64) <<< ((32 : Int32).toInt64 &&& 63)) hx hb d_law_282 rfl ?_
          refine lv_aload_n hx hb d_law_283 rfl (lv_at hl 0 rfl) ?_
          refine lv_iload hx hb d_law_284 (lv_at hl 4 rfl) ?_
          refine lv_bipush (v := 13) hx hb d_law_286 (by decide) ?_
          refine lv_iadd hx hb d_law_288 ?_
          obtain ⟨v75, e76, h⟩ := gb h
          refine gw_aldI hx hb hK hI e76 d_law_289 ?_
          refine lv_i2l (v := v75.toInt64) hx hb d_law_290 rfl ?_
          refine lv_ldc2 (v := 4294967295) hx hb hown (hT _ wd_1121 args) d_law_291 ?_
          refine lv_land hx hb d_law_294 ?_
          refine lv_lor hx hb d_law_295 ?_
          refine lv_aload_n hx hb d_law_296 rfl (lv_at hl 3 rfl) ?_
          obtain ⟨u77, e78⟩ := gsome h
          refine gw_callI e78 h (gw_runS (As := [.ref o1, .int v51, .long (((v53.toInt64) <<< ((32 : Int32).toInt64 &&& 63)) ||| ((v55.toInt64) &&& 4294967295)), .long (((v57.toInt64) <<< ((32 : Int32).toInt64 &&& 63)) ||| ((v59.toInt64) &&& 4294967295)), .long (((v61.toInt64) <<< ((32 : Int32).toInt64 &&& 63)) ||| ((v63.toInt64) &&& 4294967295)), .long (((v65.toInt64) <<< ((32 : Int32).toInt64 &&& 63)) ||| ((v67.toInt64) &&& 4294967295)), .long (((v69.toInt64) <<< ((32 : Int32).toInt64 &&& 63)) ||| ((v71.toInt64) &&& 4294967295)), .long (((v73.toInt64) <<< ((32 : Int32).toInt64 &&& 63)) ||| ((v75.toInt64) &&& 4294967295)), .ref o17]) (rest := []) hx hb hml hown hT hK hZ hA hI (m_W_box l hst D g0 o1 v51 (((v53.toInt64) <<< ((32 : Int32).toInt64 &&& 63)) ||| ((v55.toInt64) &&& 4294967295)) (((v57.toInt64) <<< ((32 : Int32).toInt64 &&& 63)) ||| ((v59.toInt64) &&& 4294967295)) (((v61.toInt64) <<< ((32 : Int32).toInt64 &&& 63)) ||| ((v63.toInt64) &&& 4294967295)) (((v65.toInt64) <<< ((32 : Int32).toInt64 &&& 63)) ||| ((v67.toInt64) &&& 4294967295)) (((v69.toInt64) <<< ((32 : Int32).toInt64 &&& 63)) ||| ((v71.toInt64) &&& 4294967295)) (((v73.toInt64) <<< ((32 : Int32).toInt64 &&& 63)) ||| ((v75.toInt64) &&& 4294967295)) o17 w u77 e78) ce_W_box wd_427 ⟨by decide, by decide⟩ rfl rfl hl.1 rfl (lv_room (Nat.le_of_ble_eq_true rfl)) d_law_297 ⟨(show (16015 - (n + 1) * 31) + 14 ≤ 601024 by omega), (show (905842 - (n + 1) * 1745) + 152 ≤ 7293000 by omega)⟩) hI hA hexc (show (16015 - (n + 1) * 31) + 14 ≤ 601024 by omega) (show (905842 - (n + 1) * 1745) + 152 ≤ 7293000 by omega) (fun v79 w H locs h hI => ?_)
          refine W.widen (k := ((16015 - (n + 1) * 31) + 14)) (n := ((905842 - (n + 1) * 1745) + 152)) (show (16015 - (n + 1) * 31) + 14 ≤ ((16015 - (n + 1) * 31) + 14) by omega) (show (905842 - (n + 1) * 1745) + 152 ≤ ((905842 - (n + 1) * 1745) + 152) by omega) ?_
          refine lv_istore (lv' := [(5, .int v79), (0, .ref a0), (1, .ref o1), (2, .ref o9), (3, .ref o17), (4, .int z33)]) hx hb d_law_300 hl (by decide) rfl (fun ls hl => ?_)
          refine lv_aload_n hx hb d_law_302 rfl (lv_at hl 3 rfl) ?_
          refine lv_aload_n hx hb d_law_303 rfl (lv_at hl 1 rfl) ?_
          refine lv_iload hx hb d_law_304 (lv_at hl 5 rfl) ?_
          refine lv_iconst (v := 1) hx hb d_law_306 (by decide) ?_
          refine lv_iadd hx hb d_law_307 ?_
          obtain ⟨v80, e81, h⟩ := gb h
          refine gw_aldI hx hb hK hI e81 d_law_308 ?_
          refine lv_aload_n hx hb d_law_309 rfl (lv_at hl 1 rfl) ?_
          refine lv_iload hx hb d_law_310 (lv_at hl 5 rfl) ?_
          refine lv_iconst (v := 2) hx hb d_law_312 (by decide) ?_
          refine lv_iadd hx hb d_law_313 ?_
          obtain ⟨v82, e83, h⟩ := gb h
          refine gw_aldI hx hb hK hI e83 d_law_314 ?_
          refine lv_i2l (v := v82.toInt64) hx hb d_law_315 rfl ?_
          refine lv_bipush (v := 32) hx hb d_law_316 (by decide) ?_
          refine lv_lshl (v := (v82.toInt64) <<< ((32 : Int32).toInt64 &&& 63)) hx hb d_law_318 rfl ?_
          refine lv_aload_n hx hb d_law_319 rfl (lv_at hl 1 rfl) ?_
          refine lv_iload hx hb d_law_320 (lv_at hl 5 rfl) ?_
          refine lv_iconst (v := 3) hx hb d_law_322 (by decide) ?_
          refine lv_iadd hx hb d_law_323 ?_
          obtain ⟨v84, e85, h⟩ := gb h
          refine gw_aldI hx hb hK hI e85 d_law_324 ?_
          refine lv_i2l (v := v84.toInt64) hx hb d_law_325 rfl ?_
          refine lv_ldc2 (v := 4294967295) hx hb hown (hT _ wd_1121 args) d_law_326 ?_
          refine lv_land hx hb d_law_329 ?_
          refine lv_lor hx hb d_law_330 ?_
          refine lv_aload_n hx hb d_law_331 rfl (lv_at hl 1 rfl) ?_
          refine lv_iload hx hb d_law_332 (lv_at hl 5 rfl) ?_
          refine lv_iconst (v := 4) hx hb d_law_334 (by decide) ?_
          refine lv_iadd hx hb d_law_335 ?_
          obtain ⟨v86, e87, h⟩ := gb h
          refine gw_aldI hx hb hK hI e87 d_law_336 ?_
          refine lv_i2l (v := v86.toInt64) hx hb d_law_337 rfl ?_
          refine lv_bipush (v := 32) hx hb d_law_338 (by decide) ?_
          refine lv_lshl (v := (v86.toInt64) <<< ((32 : Int32).toInt64 &&& 63)) hx hb d_law_340 rfl ?_
          refine lv_aload_n hx hb d_law_341 rfl (lv_at hl 1 rfl) ?_
          refine lv_iload hx hb d_law_342 (lv_at hl 5 rfl) ?_
          refine lv_iconst (v := 5) hx hb d_law_344 (by decide) ?_
          refine lv_iadd hx hb d_law_345 ?_
          obtain ⟨v88, e89, h⟩ := gb h
          refine gw_aldI hx hb hK hI e89 d_law_346 ?_
          refine lv_i2l (v := v88.toInt64) hx hb d_law_347 rfl ?_
          refine lv_ldc2 (v := 4294967295) hx hb hown (hT _ wd_1121 args) d_law_348 ?_
          refine lv_land hx hb d_law_351 ?_
          refine lv_lor hx hb d_law_352 ?_
          refine lv_aload_n hx hb d_law_353 rfl (lv_at hl 1 rfl) ?_
          refine lv_iload hx hb d_law_354 (lv_at hl 5 rfl) ?_
          refine lv_bipush (v := 6) hx hb d_law_356 (by decide) ?_
          refine lv_iadd hx hb d_law_358 ?_
          obtain ⟨v90, e91, h⟩ := gb h
          refine gw_aldI hx hb hK hI e91 d_law_359 ?_
          refine lv_i2l (v := v90.toInt64) hx hb d_law_360 rfl ?_
          refine lv_bipush (v := 32) hx hb d_law_361 (by decide) ?_
          refine lv_lshl (v := (v90.toInt64) <<< ((32 : Int32).toInt64 &&& 63)) hx hb d_law_363 rfl ?_
          refine lv_aload_n hx hb d_law_364 rfl (lv_at hl 1 rfl) ?_
          refine lv_iload hx hb d_law_365 (lv_at hl 5 rfl) ?_
          refine lv_bipush (v := 7) hx hb d_law_367 (by decide) ?_
          refine lv_iadd hx hb d_law_369 ?_
          obtain ⟨v92, e93, h⟩ := gb h
          refine gw_aldI hx hb hK hI e93 d_law_370 ?_
          refine lv_i2l (v := v92.toInt64) hx hb d_law_371 rfl ?_
          refine lv_ldc2 (v := 4294967295) hx hb hown (hT _ wd_1121 args) d_law_372 ?_
          refine lv_land hx hb d_law_375 ?_
          refine lv_lor hx hb d_law_376 ?_
          refine lv_aload_n hx hb d_law_377 rfl (lv_at hl 1 rfl) ?_
          refine lv_iload hx hb d_law_378 (lv_at hl 5 rfl) ?_
          refine lv_bipush (v := 8) hx hb d_law_380 (by decide) ?_
          refine lv_iadd hx hb d_law_382 ?_
          obtain ⟨v94, e95, h⟩ := gb h
          refine gw_aldI hx hb hK hI e95 d_law_383 ?_
          refine lv_i2l (v := v94.toInt64) hx hb d_law_384 rfl ?_
          refine lv_bipush (v := 32) hx hb d_law_385 (by decide) ?_
          refine lv_lshl (v := (v94.toInt64) <<< ((32 : Int32).toInt64 &&& 63)) hx hb d_law_387 rfl ?_
          refine lv_aload_n hx hb d_law_388 rfl (lv_at hl 1 rfl) ?_
          refine lv_iload hx hb d_law_389 (lv_at hl 5 rfl) ?_
          refine lv_bipush (v := 9) hx hb d_law_391 (by decide) ?_
          refine lv_iadd hx hb d_law_393 ?_
          obtain ⟨v96, e97, h⟩ := gb h
          refine gw_aldI hx hb hK hI e97 d_law_394 ?_
          refine lv_i2l (v := v96.toInt64) hx hb d_law_395 rfl ?_
          refine lv_ldc2 (v := 4294967295) hx hb hown (hT _ wd_1121 args) d_law_396 ?_
          refine lv_land hx hb d_law_399 ?_
          refine lv_lor hx hb d_law_400 ?_
          refine lv_aload_n hx hb d_law_401 rfl (lv_at hl 1 rfl) ?_
          refine lv_iload hx hb d_law_402 (lv_at hl 5 rfl) ?_
          refine lv_bipush (v := 10) hx hb d_law_404 (by decide) ?_
          refine lv_iadd hx hb d_law_406 ?_
          obtain ⟨v98, e99, h⟩ := gb h
          refine gw_aldI hx hb hK hI e99 d_law_407 ?_
          refine lv_i2l (v := v98.toInt64) hx hb d_law_408 rfl ?_
          refine lv_bipush (v := 32) hx hb d_law_409 (by decide) ?_
          refine lv_lshl (v := (v98.toInt64) <<< ((32 : Int32).toInt64 &&& 63)) hx hb d_law_411 rfl ?_
          refine lv_aload_n hx hb d_law_412 rfl (lv_at hl 1 rfl) ?_
          refine lv_iload hx hb d_law_413 (lv_at hl 5 rfl) ?_
          refine lv_bipush (v := 11) hx hb d_law_415 (by decide) ?_
          refine lv_iadd hx hb d_law_417 ?_
          obtain ⟨v100, e101, h⟩ := gb h
          refine gw_aldI hx hb hK hI e101 d_law_418 ?_
          refine lv_i2l (v := v100.toInt64) hx hb d_law_419 rfl ?_
          refine lv_ldc2 (v := 4294967295) hx hb hown (hT _ wd_1121 args) d_law_420 ?_
          refine lv_land hx hb d_law_423 ?_
          refine lv_lor hx hb d_law_424 ?_
          refine lv_aload_n hx hb d_law_425 rfl (lv_at hl 1 rfl) ?_
          refine lv_iload hx hb d_law_426 (lv_at hl 5 rfl) ?_
          refine lv_bipush (v := 12) hx hb d_law_428 (by decide) ?_
          refine lv_iadd hx hb d_law_430 ?_
          obtain ⟨v102, e103, h⟩ := gb h
          refine gw_aldI hx hb hK hI e103 d_law_431 ?_
          refine lv_i2l (v := v102.toInt64) hx hb d_law_432 rfl ?_
          refine lv_bipush (v := 32) hx hb d_law_433 (by decide) ?_
          refine lv_lshl (v := (v102.toInt64) <<< ((32 : Int32).toInt64 &&& 63)) hx hb d_law_435 rfl ?_
          refine lv_aload_n hx hb d_law_436 rfl (lv_at hl 1 rfl) ?_
          refine lv_iload hx hb d_law_437 (lv_at hl 5 rfl) ?_
          refine lv_bipush (v := 13) hx hb d_law_439 (by decide) ?_
          refine lv_iadd hx hb d_law_441 ?_
          obtain ⟨v104, e105, h⟩ := gb h
          refine gw_aldI hx hb hK hI e105 d_law_442 ?_
          refine lv_i2l (v := v104.toInt64) hx hb d_law_443 rfl ?_
          refine lv_ldc2 (v := 4294967295) hx hb hown (hT _ wd_1121 args) d_law_444 ?_
          refine lv_land hx hb d_law_447 ?_
          refine lv_lor hx hb d_law_448 ?_
          obtain ⟨q108, e109, h⟩ := gb h
          obtain ⟨u106, e107⟩ := gsome h
          refine gw_callI e107 h (gw_runV (As := [.int v80, .long (((v82.toInt64) <<< ((32 : Int32).toInt64 &&& 63)) ||| ((v84.toInt64) &&& 4294967295)), .long (((v86.toInt64) <<< ((32 : Int32).toInt64 &&& 63)) ||| ((v88.toInt64) &&& 4294967295)), .long (((v90.toInt64) <<< ((32 : Int32).toInt64 &&& 63)) ||| ((v92.toInt64) &&& 4294967295)), .long (((v94.toInt64) <<< ((32 : Int32).toInt64 &&& 63)) ||| ((v96.toInt64) &&& 4294967295)), .long (((v98.toInt64) <<< ((32 : Int32).toInt64 &&& 63)) ||| ((v100.toInt64) &&& 4294967295)), .long (((v102.toInt64) <<< ((32 : Int32).toInt64 &&& 63)) ||| ((v104.toInt64) &&& 4294967295))]) (rest := []) hx hb hml hown hT hK hZ hA hI (ci := 7) rfl e109 (m_M_box l hst D g0 o9 v80 (((v82.toInt64) <<< ((32 : Int32).toInt64 &&& 63)) ||| ((v84.toInt64) &&& 4294967295)) (((v86.toInt64) <<< ((32 : Int32).toInt64 &&& 63)) ||| ((v88.toInt64) &&& 4294967295)) (((v90.toInt64) <<< ((32 : Int32).toInt64 &&& 63)) ||| ((v92.toInt64) &&& 4294967295)) (((v94.toInt64) <<< ((32 : Int32).toInt64 &&& 63)) ||| ((v96.toInt64) &&& 4294967295)) (((v98.toInt64) <<< ((32 : Int32).toInt64 &&& 63)) ||| ((v100.toInt64) &&& 4294967295)) (((v102.toInt64) <<< ((32 : Int32).toInt64 &&& 63)) ||| ((v104.toInt64) &&& 4294967295)) w u106 e107) ce_M_box wd_876 wd_878 ⟨by decide, by decide⟩ rfl rfl hl.1 rfl (lv_room (Nat.le_of_ble_eq_true rfl)) d_law_449 ⟨(show ((16015 - (n + 1) * 31) + 14) + 0 ≤ 601024 by omega), (show ((905842 - (n + 1) * 1745) + 152) + 0 ≤ 7293000 by omega)⟩) hI hA hexc (show ((16015 - (n + 1) * 31) + 14) + 0 ≤ 601024 by omega) (show ((905842 - (n + 1) * 1745) + 152) + 0 ≤ 7293000 by omega) (fun v110 w H locs h hI => ?_)
          refine lv_istore (lv' := [(6, .int v110), (5, .int v79), (0, .ref a0), (1, .ref o1), (2, .ref o9), (3, .ref o17), (4, .int z33)]) hx hb d_law_452 hl (by decide) rfl (fun ls hl => ?_)
          refine lv_aload_n hx hb d_law_454 rfl (lv_at hl 4 rfl) ?_
          obtain ⟨q113, e114, h⟩ := gb h
          obtain ⟨u111, e112⟩ := gsome h
          refine gw_callI e112 h (gw_runV (As := []) (rest := []) hx hb hml hown hT hK hZ hA hI (ci := 7) rfl e114 (m_M_thrown l hst D g0 o9 w u111 e112) ce_M_thrown wd_868 wd_870 ⟨by decide, by decide⟩ rfl rfl hl.1 rfl (lv_room (Nat.le_of_ble_eq_true rfl)) d_law_455 ⟨(show ((16015 - (n + 1) * 31) + 14) + 0 ≤ 601024 by omega), (show ((905842 - (n + 1) * 1745) + 152) + 0 ≤ 7293000 by omega)⟩) hI hA hexc (show ((16015 - (n + 1) * 31) + 14) + 0 ≤ 601024 by omega) (show ((905842 - (n + 1) * 1745) + 152) + 0 ≤ 7293000 by omega) (fun v115 w H locs h hI => ?_)
          refine lv_iload hx hb d_law_458 (lv_at hl 1 rfl) ?_
          refine lv_icmp_eq (tgt := 465) hx hb d_law_460 (by decide) (fun c116 => ?_) (fun c116 => ?_)
          · skip
            have h := git c116 h
            refine lv_iload hx hb d_law_465 (lv_at hl 1 rfl) ?_
            obtain ⟨K489, eK489, h⟩ := gj h
            have hK489 : ∀ (w : gW) (H : Heap) (locs : List Loc) (ls : Array Slot), K489 w = some r → gI D s A w H locs → lv_has ls 8 [(0, .ref a0), (1, .ref o1), (2, .ref o9), (3, .ref o17), (4, .int z33)] → W p l e rm_law s m args below meth c H locs ((16015 - (n + 1) * 31) + 14) ((905842 - (n + 1) * 1745) + 152) Q (F0 m 489 ls []) := by
              intro w H locs ls h hI hl
              have h := gk1 eK489 h
              refine lv_goto (tgt := 2104) hx hb d_law_489 (by decide) ?_
              refine W.widen (k := ((16015 - (n + 1) * 31) + 31)) (n := ((905842 - (n + 1) * 1745) + 1745)) (show ((16015 - (n + 1) * 31) + 14) ≤ ((16015 - (n + 1) * 31) + 31) by omega) (show ((905842 - (n + 1) * 1745) + 152) ≤ ((905842 - (n + 1) * 1745) + 1745) by omega) ?_
              exact hK2104 w H locs ls h hI (lv_sub hl [0, 1, 2, 3, 4] rfl)
            refine lv_if_ne (tgt := 489) hx hb d_law_467 (by decide) (fun c117 => ?_) (fun c117 => ?_)
            · skip
              have h := gie c117 h
              exact hK489 w H locs ls h hI (lv_sub hl [2, 3, 4, 5, 6] rfl)
            · skip
              have h := git c117 h
              refine lv_aload_n hx hb d_law_470 rfl (lv_at hl 5 rfl) ?_
              refine lv_iconst (v := 0) hx hb d_law_471 (by decide) ?_
              obtain ⟨v118, e119, h⟩ := gb h
              refine gw_aldJ hx hb hK hI e119 d_law_472 ?_
              refine lv_iload hx hb d_law_473 (lv_at hl 0 rfl) ?_
              obtain ⟨K483, eK483, h⟩ := gj h
              have hK483 : ∀ (y120 : Int64) (w : gW) (H : Heap) (locs : List Loc) (ls : Array Slot), K483 y120 w = some r → gI D s A w H locs → lv_has ls 8 [(0, .ref a0), (1, .ref o1), (2, .ref o9), (3, .ref o17), (4, .int z33)] → W p l e rm_law s m args below meth c H locs ((16015 - (n + 1) * 31) + 14) ((905842 - (n + 1) * 1745) + 152) Q (F0 m 483 ls [.long y120, .long v118]) := by
                intro y120 w H locs ls h hI hl
                have h := gk2 eK483 h
                refine W.lcmp hx hb d_law_483 ?_
                refine lv_if_eq (tgt := 489) hx hb d_law_484 (by decide) (fun c121 => ?_) (fun c121 => ?_)
                · have c121 := (lg_cmp_eq _ _).mp c121
                  have h := git c121 h
                  exact hK489 w H locs ls h hI (lv_sub hl [0, 1, 2, 3, 4] rfl)
                · have c121 := mt (lg_cmp_eq _ _).mpr c121
                  have h := gie c121 h
                  refine W.widen (k := 16015) (n := 905842) (show ((16015 - (n + 1) * 31) + 14) ≤ 16015 by omega) (show ((905842 - (n + 1) * 1745) + 152) ≤ 905842 by omega) ?_
                  exact hK487 w H locs ls h hI (lv_sub hl [] rfl)
              refine lv_if_eq (tgt := 482) hx hb d_law_475 (by decide) (fun c122 => ?_) (fun c122 => ?_)
              · skip
                have h := git c122 h
                refine lv_lconst (v := 0) hx hb d_law_482 (by decide) ?_
                exact hK483 _ w H locs ls h hI (lv_sub hl [2, 3, 4, 5, 6] rfl)
              · skip
                have h := gie c122 h
                refine lv_lconst (v := 1) hx hb d_law_478 (by decide) ?_
                refine lv_goto (tgt := 483) hx hb d_law_479 (by decide) ?_
                exact hK483 _ w H locs ls h hI (lv_sub hl [2, 3, 4, 5, 6] rfl)
          · skip
            have h := gie c116 h
            refine W.widen (k := 16015) (n := 905842) (show ((16015 - (n + 1) * 31) + 14) ≤ 16015 by omega) (show ((905842 - (n + 1) * 1745) + 152) ≤ 905842 by omega) ?_
            exact hK463 w H locs ls h hI (lv_sub hl [] rfl)
        have h := gie c50 h
        rcases Decidable.em ((v37 &&& 31) = 2) with c123 | c123
        · have h := git c123 h
          refine lv_tableIn (off := 440) (tgt := 492) hx hb d_law_52 (by rw [c123]; decide) (by rw [c123]; decide) (by rw [c123]; decide) (by decide) ?_
          refine W.widen (k := 16015) (n := 905842) (show (16015 - (n + 1) * 31) ≤ 16015 by omega) (show (905842 - (n + 1) * 1745) ≤ 905842 by omega) ?_
          exact hK492 _ w H locs ls h hI (lv_sub hl [0, 1, 3, 4] rfl)
        have h := gie c123 h
        rcases Decidable.em ((v37 &&& 31) = 3) with c124 | c124
        · have h := git c124 h
          refine lv_tableIn (off := 700) (tgt := 752) hx hb d_law_52 (by rw [c124]; decide) (by rw [c124]; decide) (by rw [c124]; decide) (by decide) ?_
          refine lv_aload_n hx hb d_law_752 rfl (lv_at hl 1 rfl) ?_
          refine lv_aload_n hx hb d_law_753 rfl (lv_at hl 0 rfl) ?_
          refine lv_iload hx hb d_law_754 (lv_at hl 4 rfl) ?_
          refine lv_iconst (v := 1) hx hb d_law_756 (by decide) ?_
          refine lv_iadd hx hb d_law_757 ?_
          obtain ⟨v125, e126, h⟩ := gb h
          refine gw_aldI hx hb hK hI e126 d_law_758 ?_
          refine lv_i2l (v := v125.toInt64) hx hb d_law_759 rfl ?_
          refine lv_bipush (v := 32) hx hb d_law_760 (by decide) ?_
          refine lv_lshl (v := (v125.toInt64) <<< ((32 : Int32).toInt64 &&& 63)) hx hb d_law_762 rfl ?_
          refine lv_aload_n hx hb d_law_763 rfl (lv_at hl 0 rfl) ?_
          refine lv_iload hx hb d_law_764 (lv_at hl 4 rfl) ?_
          refine lv_iconst (v := 2) hx hb d_law_766 (by decide) ?_
          refine lv_iadd hx hb d_law_767 ?_
          obtain ⟨v127, e128, h⟩ := gb h
          refine gw_aldI hx hb hK hI e128 d_law_768 ?_
          refine lv_i2l (v := v127.toInt64) hx hb d_law_769 rfl ?_
          refine lv_ldc2 (v := 4294967295) hx hb hown (hT _ wd_1121 args) d_law_770 ?_
          refine lv_land hx hb d_law_773 ?_
          refine lv_lor hx hb d_law_774 ?_
          refine lv_aload_n hx hb d_law_775 rfl (lv_at hl 0 rfl) ?_
          refine lv_iload hx hb d_law_776 (lv_at hl 4 rfl) ?_
          refine lv_iconst (v := 3) hx hb d_law_778 (by decide) ?_
          refine lv_iadd hx hb d_law_779 ?_
          obtain ⟨v129, e130, h⟩ := gb h
          refine gw_aldI hx hb hK hI e130 d_law_780 ?_
          refine lv_i2l (v := v129.toInt64) hx hb d_law_781 rfl ?_
          refine lv_bipush (v := 32) hx hb d_law_782 (by decide) ?_
          refine lv_lshl (v := (v129.toInt64) <<< ((32 : Int32).toInt64 &&& 63)) hx hb d_law_784 rfl ?_
          refine lv_aload_n hx hb d_law_785 rfl (lv_at hl 0 rfl) ?_
          refine lv_iload hx hb d_law_786 (lv_at hl 4 rfl) ?_
          refine lv_iconst (v := 4) hx hb d_law_788 (by decide) ?_
          refine lv_iadd hx hb d_law_789 ?_
          obtain ⟨v131, e132, h⟩ := gb h
          refine gw_aldI hx hb hK hI e132 d_law_790 ?_
          refine lv_i2l (v := v131.toInt64) hx hb d_law_791 rfl ?_
          refine lv_ldc2 (v := 4294967295) hx hb hown (hT _ wd_1121 args) d_law_792 ?_
          refine lv_land hx hb d_law_795 ?_
          refine lv_lor hx hb d_law_796 ?_
          refine lv_aload_n hx hb d_law_797 rfl (lv_at hl 3 rfl) ?_
          obtain ⟨u133, e134⟩ := gsome h
          refine gw_callI e134 h (gw_runS (As := [.ref o1, .long (((v125.toInt64) <<< ((32 : Int32).toInt64 &&& 63)) ||| ((v127.toInt64) &&& 4294967295)), .long (((v129.toInt64) <<< ((32 : Int32).toInt64 &&& 63)) ||| ((v131.toInt64) &&& 4294967295)), .ref o17]) (rest := []) hx hb hml hown hT hK hZ hA hI (m_W_corner l hst D g0 o1 (((v125.toInt64) <<< ((32 : Int32).toInt64 &&& 63)) ||| ((v127.toInt64) &&& 4294967295)) (((v129.toInt64) <<< ((32 : Int32).toInt64 &&& 63)) ||| ((v131.toInt64) &&& 4294967295)) o17 w u133 e134) ce_W_corner wd_577 ⟨by decide, by decide⟩ rfl rfl hl.1 rfl (lv_room (Nat.le_of_ble_eq_true rfl)) d_law_798 ⟨(show (16015 - (n + 1) * 31) + 2 ≤ 601024 by omega), (show (905842 - (n + 1) * 1745) + 12 ≤ 7293000 by omega)⟩) hI hA hexc (show (16015 - (n + 1) * 31) + 2 ≤ 601024 by omega) (show (905842 - (n + 1) * 1745) + 12 ≤ 7293000 by omega) (fun v135 w H locs h hI => ?_)
          refine W.widen (k := ((16015 - (n + 1) * 31) + 2)) (n := ((905842 - (n + 1) * 1745) + 12)) (show (16015 - (n + 1) * 31) + 2 ≤ ((16015 - (n + 1) * 31) + 2) by omega) (show (905842 - (n + 1) * 1745) + 12 ≤ ((905842 - (n + 1) * 1745) + 12) by omega) ?_
          refine lv_istore (lv' := [(5, .int v135), (0, .ref a0), (1, .ref o1), (2, .ref o9), (3, .ref o17), (4, .int z33)]) hx hb d_law_801 hl (by decide) rfl (fun ls hl => ?_)
          refine lv_aload_n hx hb d_law_803 rfl (lv_at hl 3 rfl) ?_
          refine lv_aload_n hx hb d_law_804 rfl (lv_at hl 1 rfl) ?_
          refine lv_iload hx hb d_law_805 (lv_at hl 5 rfl) ?_
          refine lv_iconst (v := 1) hx hb d_law_807 (by decide) ?_
          refine lv_iadd hx hb d_law_808 ?_
          obtain ⟨v136, e137, h⟩ := gb h
          refine gw_aldI hx hb hK hI e137 d_law_809 ?_
          refine lv_i2l (v := v136.toInt64) hx hb d_law_810 rfl ?_
          refine lv_bipush (v := 32) hx hb d_law_811 (by decide) ?_
          refine lv_lshl (v := (v136.toInt64) <<< ((32 : Int32).toInt64 &&& 63)) hx hb d_law_813 rfl ?_
          refine lv_aload_n hx hb d_law_814 rfl (lv_at hl 1 rfl) ?_
          refine lv_iload hx hb d_law_815 (lv_at hl 5 rfl) ?_
          refine lv_iconst (v := 2) hx hb d_law_817 (by decide) ?_
          refine lv_iadd hx hb d_law_818 ?_
          obtain ⟨v138, e139, h⟩ := gb h
          refine gw_aldI hx hb hK hI e139 d_law_819 ?_
          refine lv_i2l (v := v138.toInt64) hx hb d_law_820 rfl ?_
          refine lv_ldc2 (v := 4294967295) hx hb hown (hT _ wd_1121 args) d_law_821 ?_
          refine lv_land hx hb d_law_824 ?_
          refine lv_lor hx hb d_law_825 ?_
          refine lv_aload_n hx hb d_law_826 rfl (lv_at hl 1 rfl) ?_
          refine lv_iload hx hb d_law_827 (lv_at hl 5 rfl) ?_
          refine lv_iconst (v := 3) hx hb d_law_829 (by decide) ?_
          refine lv_iadd hx hb d_law_830 ?_
          obtain ⟨v140, e141, h⟩ := gb h
          refine gw_aldI hx hb hK hI e141 d_law_831 ?_
          refine lv_i2l (v := v140.toInt64) hx hb d_law_832 rfl ?_
          refine lv_bipush (v := 32) hx hb d_law_833 (by decide) ?_
          refine lv_lshl (v := (v140.toInt64) <<< ((32 : Int32).toInt64 &&& 63)) hx hb d_law_835 rfl ?_
          refine lv_aload_n hx hb d_law_836 rfl (lv_at hl 1 rfl) ?_
          refine lv_iload hx hb d_law_837 (lv_at hl 5 rfl) ?_
          refine lv_iconst (v := 4) hx hb d_law_839 (by decide) ?_
          refine lv_iadd hx hb d_law_840 ?_
          obtain ⟨v142, e143, h⟩ := gb h
          refine gw_aldI hx hb hK hI e143 d_law_841 ?_
          refine lv_i2l (v := v142.toInt64) hx hb d_law_842 rfl ?_
          refine lv_ldc2 (v := 4294967295) hx hb hown (hT _ wd_1121 args) d_law_843 ?_
          refine lv_land hx hb d_law_846 ?_
          refine lv_lor hx hb d_law_847 ?_
          obtain ⟨q146, e147, h⟩ := gb h
          obtain ⟨u144, e145⟩ := gsome h
          refine gw_callI e145 h (gw_runV (As := [.long (((v136.toInt64) <<< ((32 : Int32).toInt64 &&& 63)) ||| ((v138.toInt64) &&& 4294967295)), .long (((v140.toInt64) <<< ((32 : Int32).toInt64 &&& 63)) ||| ((v142.toInt64) &&& 4294967295))]) (rest := []) hx hb hml hown hT hK hZ hA hI (ci := 7) rfl e147 (m_M_corner l hst D g0 o9 (((v136.toInt64) <<< ((32 : Int32).toInt64 &&& 63)) ||| ((v138.toInt64) &&& 4294967295)) (((v140.toInt64) <<< ((32 : Int32).toInt64 &&& 63)) ||| ((v142.toInt64) &&& 4294967295)) w u144 e145) ce_M_corner wd_910 wd_912 ⟨by decide, by decide⟩ rfl rfl hl.1 rfl (lv_room (Nat.le_of_ble_eq_true rfl)) d_law_848 ⟨(show ((16015 - (n + 1) * 31) + 2) + 0 ≤ 601024 by omega), (show ((905842 - (n + 1) * 1745) + 12) + 0 ≤ 7293000 by omega)⟩) hI hA hexc (show ((16015 - (n + 1) * 31) + 2) + 0 ≤ 601024 by omega) (show ((905842 - (n + 1) * 1745) + 12) + 0 ≤ 7293000 by omega) (fun v148 w H locs h hI => ?_)
          refine lv_istore (lv' := [(6, .int v148), (5, .int v135), (0, .ref a0), (1, .ref o1), (2, .ref o9), (3, .ref o17), (4, .int z33)]) hx hb d_law_851 hl (by decide) rfl (fun ls hl => ?_)
          refine lv_goto (tgt := 2104) hx hb d_law_853 (by decide) ?_
          refine W.widen (k := ((16015 - (n + 1) * 31) + 31)) (n := ((905842 - (n + 1) * 1745) + 1745)) (show ((16015 - (n + 1) * 31) + 2) ≤ ((16015 - (n + 1) * 31) + 31) by omega) (show ((905842 - (n + 1) * 1745) + 12) ≤ ((905842 - (n + 1) * 1745) + 1745) by omega) ?_
          exact hK2104 w H locs ls h hI (lv_sub hl [2, 3, 4, 5, 6] rfl)
        have h := gie c124 h
        rcases Decidable.em ((v37 &&& 31) = 4) with c149 | c149
        · have h := git c149 h
          refine lv_tableIn (off := 804) (tgt := 856) hx hb d_law_52 (by rw [c149]; decide) (by rw [c149]; decide) (by rw [c149]; decide) (by decide) ?_
          refine lv_aload_n hx hb d_law_856 rfl (lv_at hl 1 rfl) ?_
          refine lv_aload_n hx hb d_law_857 rfl (lv_at hl 0 rfl) ?_
          refine lv_iload hx hb d_law_858 (lv_at hl 4 rfl) ?_
          refine lv_iconst (v := 1) hx hb d_law_860 (by decide) ?_
          refine lv_iadd hx hb d_law_861 ?_
          obtain ⟨v150, e151, h⟩ := gb h
          refine gw_aldI hx hb hK hI e151 d_law_862 ?_
          refine lv_aload_n hx hb d_law_863 rfl (lv_at hl 0 rfl) ?_
          refine lv_iload hx hb d_law_864 (lv_at hl 4 rfl) ?_
          refine lv_iconst (v := 2) hx hb d_law_866 (by decide) ?_
          refine lv_iadd hx hb d_law_867 ?_
          obtain ⟨v152, e153, h⟩ := gb h
          refine gw_aldI hx hb hK hI e153 d_law_868 ?_
          refine lv_i2l (v := v152.toInt64) hx hb d_law_869 rfl ?_
          refine lv_bipush (v := 32) hx hb d_law_870 (by decide) ?_
          refine lv_lshl (v := (v152.toInt64) <<< ((32 : Int32).toInt64 &&& 63)) hx hb d_law_872 rfl ?_
          refine lv_aload_n hx hb d_law_873 rfl (lv_at hl 0 rfl) ?_
          refine lv_iload hx hb d_law_874 (lv_at hl 4 rfl) ?_
          refine lv_iconst (v := 3) hx hb d_law_876 (by decide) ?_
          refine lv_iadd hx hb d_law_877 ?_
          obtain ⟨v154, e155, h⟩ := gb h
          refine gw_aldI hx hb hK hI e155 d_law_878 ?_
          refine lv_i2l (v := v154.toInt64) hx hb d_law_879 rfl ?_
          refine lv_ldc2 (v := 4294967295) hx hb hown (hT _ wd_1121 args) d_law_880 ?_
          refine lv_land hx hb d_law_883 ?_
          refine lv_lor hx hb d_law_884 ?_
          refine lv_aload_n hx hb d_law_885 rfl (lv_at hl 0 rfl) ?_
          refine lv_iload hx hb d_law_886 (lv_at hl 4 rfl) ?_
          refine lv_iconst (v := 4) hx hb d_law_888 (by decide) ?_
          refine lv_iadd hx hb d_law_889 ?_
          obtain ⟨v156, e157, h⟩ := gb h
          refine gw_aldI hx hb hK hI e157 d_law_890 ?_
          refine lv_i2l (v := v156.toInt64) hx hb d_law_891 rfl ?_
          refine lv_bipush (v := 32) hx hb d_law_892 (by decide) ?_
          refine lv_lshl (v := (v156.toInt64) <<< ((32 : Int32).toInt64 &&& 63)) hx hb d_law_894 rfl ?_
          refine lv_aload_n hx hb d_law_895 rfl (lv_at hl 0 rfl) ?_
          refine lv_iload hx hb d_law_896 (lv_at hl 4 rfl) ?_
          refine lv_iconst (v := 5) hx hb d_law_898 (by decide) ?_
          refine lv_iadd hx hb d_law_899 ?_
          obtain ⟨v158, e159, h⟩ := gb h
          refine gw_aldI hx hb hK hI e159 d_law_900 ?_
          refine lv_i2l (v := v158.toInt64) hx hb d_law_901 rfl ?_
          refine lv_ldc2 (v := 4294967295) hx hb hown (hT _ wd_1121 args) d_law_902 ?_
          refine lv_land hx hb d_law_905 ?_
          refine lv_lor hx hb d_law_906 ?_
          refine lv_aload_n hx hb d_law_907 rfl (lv_at hl 3 rfl) ?_
          obtain ⟨u160, e161⟩ := gsome h
          refine gw_callI e161 h (gw_runS (As := [.ref o1, .int v150, .long (((v152.toInt64) <<< ((32 : Int32).toInt64 &&& 63)) ||| ((v154.toInt64) &&& 4294967295)), .long (((v156.toInt64) <<< ((32 : Int32).toInt64 &&& 63)) ||| ((v158.toInt64) &&& 4294967295)), .ref o17]) (rest := []) hx hb hml hown hT hK hZ hA hI (m_W_prism l hst D g0 o1 v150 (((v152.toInt64) <<< ((32 : Int32).toInt64 &&& 63)) ||| ((v154.toInt64) &&& 4294967295)) (((v156.toInt64) <<< ((32 : Int32).toInt64 &&& 63)) ||| ((v158.toInt64) &&& 4294967295)) o17 w u160 e161) ce_W_prism wd_584 ⟨by decide, by decide⟩ rfl rfl hl.1 rfl (lv_room (Nat.le_of_ble_eq_true rfl)) d_law_908 ⟨(show (16015 - (n + 1) * 31) + 8 ≤ 601024 by omega), (show (905842 - (n + 1) * 1745) + 116 ≤ 7293000 by omega)⟩) hI hA hexc (show (16015 - (n + 1) * 31) + 8 ≤ 601024 by omega) (show (905842 - (n + 1) * 1745) + 116 ≤ 7293000 by omega) (fun v162 w H locs h hI => ?_)
          refine W.widen (k := ((16015 - (n + 1) * 31) + 8)) (n := ((905842 - (n + 1) * 1745) + 116)) (show (16015 - (n + 1) * 31) + 8 ≤ ((16015 - (n + 1) * 31) + 8) by omega) (show (905842 - (n + 1) * 1745) + 116 ≤ ((905842 - (n + 1) * 1745) + 116) by omega) ?_
          refine lv_istore (lv' := [(5, .int v162), (0, .ref a0), (1, .ref o1), (2, .ref o9), (3, .ref o17), (4, .int z33)]) hx hb d_law_911 hl (by decide) rfl (fun ls hl => ?_)
          refine lv_aload_n hx hb d_law_913 rfl (lv_at hl 3 rfl) ?_
          refine lv_aload_n hx hb d_law_914 rfl (lv_at hl 1 rfl) ?_
          refine lv_iload hx hb d_law_915 (lv_at hl 5 rfl) ?_
          refine lv_iconst (v := 1) hx hb d_law_917 (by decide) ?_
          refine lv_iadd hx hb d_law_918 ?_
          obtain ⟨v163, e164, h⟩ := gb h
          refine gw_aldI hx hb hK hI e164 d_law_919 ?_
          refine lv_aload_n hx hb d_law_920 rfl (lv_at hl 1 rfl) ?_
          refine lv_iload hx hb d_law_921 (lv_at hl 5 rfl) ?_
          refine lv_iconst (v := 2) hx hb d_law_923 (by decide) ?_
          refine lv_iadd hx hb d_law_924 ?_
          obtain ⟨v165, e166, h⟩ := gb h
          refine gw_aldI hx hb hK hI e166 d_law_925 ?_
          refine lv_i2l (v := v165.toInt64) hx hb d_law_926 rfl ?_
          refine lv_bipush (v := 32) hx hb d_law_927 (by decide) ?_
          refine lv_lshl (v := (v165.toInt64) <<< ((32 : Int32).toInt64 &&& 63)) hx hb d_law_929 rfl ?_
          refine lv_aload_n hx hb d_law_930 rfl (lv_at hl 1 rfl) ?_
          refine lv_iload hx hb d_law_931 (lv_at hl 5 rfl) ?_
          refine lv_iconst (v := 3) hx hb d_law_933 (by decide) ?_
          refine lv_iadd hx hb d_law_934 ?_
          obtain ⟨v167, e168, h⟩ := gb h
          refine gw_aldI hx hb hK hI e168 d_law_935 ?_
          refine lv_i2l (v := v167.toInt64) hx hb d_law_936 rfl ?_
          refine lv_ldc2 (v := 4294967295) hx hb hown (hT _ wd_1121 args) d_law_937 ?_
          refine lv_land hx hb d_law_940 ?_
          refine lv_lor hx hb d_law_941 ?_
          refine lv_aload_n hx hb d_law_942 rfl (lv_at hl 1 rfl) ?_
          refine lv_iload hx hb d_law_943 (lv_at hl 5 rfl) ?_
          refine lv_iconst (v := 4) hx hb d_law_945 (by decide) ?_
          refine lv_iadd hx hb d_law_946 ?_
          obtain ⟨v169, e170, h⟩ := gb h
          refine gw_aldI hx hb hK hI e170 d_law_947 ?_
          refine lv_i2l (v := v169.toInt64) hx hb d_law_948 rfl ?_
          refine lv_bipush (v := 32) hx hb d_law_949 (by decide) ?_
          refine lv_lshl (v := (v169.toInt64) <<< ((32 : Int32).toInt64 &&& 63)) hx hb d_law_951 rfl ?_
          refine lv_aload_n hx hb d_law_952 rfl (lv_at hl 1 rfl) ?_
          refine lv_iload hx hb d_law_953 (lv_at hl 5 rfl) ?_
          refine lv_iconst (v := 5) hx hb d_law_955 (by decide) ?_
          refine lv_iadd hx hb d_law_956 ?_
          obtain ⟨v171, e172, h⟩ := gb h
          refine gw_aldI hx hb hK hI e172 d_law_957 ?_
          refine lv_i2l (v := v171.toInt64) hx hb d_law_958 rfl ?_
          refine lv_ldc2 (v := 4294967295) hx hb hown (hT _ wd_1121 args) d_law_959 ?_
          refine lv_land hx hb d_law_962 ?_
          refine lv_lor hx hb d_law_963 ?_
          obtain ⟨q175, e176, h⟩ := gb h
          obtain ⟨u173, e174⟩ := gsome h
          refine gw_callI e174 h (gw_runV (As := [.int v163, .long (((v165.toInt64) <<< ((32 : Int32).toInt64 &&& 63)) ||| ((v167.toInt64) &&& 4294967295)), .long (((v169.toInt64) <<< ((32 : Int32).toInt64 &&& 63)) ||| ((v171.toInt64) &&& 4294967295))]) (rest := []) hx hb hml hown hT hK hZ hA hI (ci := 7) rfl e176 (m_M_prism l hst D g0 o9 v163 (((v165.toInt64) <<< ((32 : Int32).toInt64 &&& 63)) ||| ((v167.toInt64) &&& 4294967295)) (((v169.toInt64) <<< ((32 : Int32).toInt64 &&& 63)) ||| ((v171.toInt64) &&& 4294967295)) w u173 e174) ce_M_prism wd_914 wd_916 ⟨by decide, by decide⟩ rfl rfl hl.1 rfl (lv_room (Nat.le_of_ble_eq_true rfl)) d_law_964 ⟨(show ((16015 - (n + 1) * 31) + 8) + 0 ≤ 601024 by omega), (show ((905842 - (n + 1) * 1745) + 116) + 0 ≤ 7293000 by omega)⟩) hI hA hexc (show ((16015 - (n + 1) * 31) + 8) + 0 ≤ 601024 by omega) (show ((905842 - (n + 1) * 1745) + 116) + 0 ≤ 7293000 by omega) (fun v177 w H locs h hI => ?_)
          refine lv_istore (lv' := [(6, .int v177), (5, .int v162), (0, .ref a0), (1, .ref o1), (2, .ref o9), (3, .ref o17), (4, .int z33)]) hx hb d_law_967 hl (by decide) rfl (fun ls hl => ?_)
          refine lv_goto (tgt := 2104) hx hb d_law_969 (by decide) ?_
          refine W.widen (k := ((16015 - (n + 1) * 31) + 31)) (n := ((905842 - (n + 1) * 1745) + 1745)) (show ((16015 - (n + 1) * 31) + 8) ≤ ((16015 - (n + 1) * 31) + 31) by omega) (show ((905842 - (n + 1) * 1745) + 116) ≤ ((905842 - (n + 1) * 1745) + 1745) by omega) ?_
          exact hK2104 w H locs ls h hI (lv_sub hl [2, 3, 4, 5, 6] rfl)
        have h := gie c149 h
        rcases Decidable.em ((v37 &&& 31) = 5) with c178 | c178
        · have h := git c178 h
          refine lv_tableIn (off := 920) (tgt := 972) hx hb d_law_52 (by rw [c178]; decide) (by rw [c178]; decide) (by rw [c178]; decide) (by decide) ?_
          refine W.widen (k := 16015) (n := 905842) (show (16015 - (n + 1) * 31) ≤ 16015 by omega) (show (905842 - (n + 1) * 1745) ≤ 905842 by omega) ?_
          exact hK972 _ w H locs ls h hI (lv_sub hl [0, 1, 3, 4] rfl)
        have h := gie c178 h
        rcases Decidable.em ((v37 &&& 31) = 6) with c179 | c179
        · have h := git c179 h
          refine lv_tableIn (off := 1194) (tgt := 1246) hx hb d_law_52 (by rw [c179]; decide) (by rw [c179]; decide) (by rw [c179]; decide) (by decide) ?_
          refine lv_aload_n hx hb d_law_1246 rfl (lv_at hl 1 rfl) ?_
          refine lv_aload_n hx hb d_law_1247 rfl (lv_at hl 0 rfl) ?_
          refine lv_iload hx hb d_law_1248 (lv_at hl 4 rfl) ?_
          refine lv_iconst (v := 1) hx hb d_law_1250 (by decide) ?_
          refine lv_iadd hx hb d_law_1251 ?_
          obtain ⟨v180, e181, h⟩ := gb h
          refine gw_aldI hx hb hK hI e181 d_law_1252 ?_
          refine lv_aload_n hx hb d_law_1253 rfl (lv_at hl 0 rfl) ?_
          refine lv_iload hx hb d_law_1254 (lv_at hl 4 rfl) ?_
          refine lv_iconst (v := 2) hx hb d_law_1256 (by decide) ?_
          refine lv_iadd hx hb d_law_1257 ?_
          obtain ⟨v182, e183, h⟩ := gb h
          refine gw_aldI hx hb hK hI e183 d_law_1258 ?_
          refine lv_aload_n hx hb d_law_1259 rfl (lv_at hl 3 rfl) ?_
          obtain ⟨u184, e185⟩ := gsome h
          refine gw_callI e185 h (gw_runS (As := [.ref o1, .int v180, .int v182, .ref o17]) (rest := []) hx hb hml hown hT hK hZ hA hI (m_W_join l hst D g0 o1 v180 v182 o17 w u184 e185) ce_W_join wd_622 ⟨by decide, by decide⟩ rfl rfl hl.1 rfl (lv_room (Nat.le_of_ble_eq_true rfl)) d_law_1260 ⟨(show (16015 - (n + 1) * 31) + 31 ≤ 601024 by omega), (show (905842 - (n + 1) * 1745) + 1745 ≤ 7293000 by omega)⟩) hI hA hexc (show (16015 - (n + 1) * 31) + 31 ≤ 601024 by omega) (show (905842 - (n + 1) * 1745) + 1745 ≤ 7293000 by omega) (fun v186 w H locs h hI => ?_)
          refine W.widen (k := ((16015 - (n + 1) * 31) + 31)) (n := ((905842 - (n + 1) * 1745) + 1745)) (show (16015 - (n + 1) * 31) + 31 ≤ ((16015 - (n + 1) * 31) + 31) by omega) (show (905842 - (n + 1) * 1745) + 1745 ≤ ((905842 - (n + 1) * 1745) + 1745) by omega) ?_
          refine lv_istore (lv' := [(5, .int v186), (0, .ref a0), (1, .ref o1), (2, .ref o9), (3, .ref o17), (4, .int z33)]) hx hb d_law_1263 hl (by decide) rfl (fun ls hl => ?_)
          refine lv_aload_n hx hb d_law_1265 rfl (lv_at hl 3 rfl) ?_
          refine lv_aload_n hx hb d_law_1266 rfl (lv_at hl 1 rfl) ?_
          refine lv_iload hx hb d_law_1267 (lv_at hl 5 rfl) ?_
          refine lv_iconst (v := 1) hx hb d_law_1269 (by decide) ?_
          refine lv_iadd hx hb d_law_1270 ?_
          obtain ⟨v187, e188, h⟩ := gb h
          refine gw_aldI hx hb hK hI e188 d_law_1271 ?_
          refine lv_aload_n hx hb d_law_1272 rfl (lv_at hl 1 rfl) ?_
          refine lv_iload hx hb d_law_1273 (lv_at hl 5 rfl) ?_
          refine lv_iconst (v := 2) hx hb d_law_1275 (by decide) ?_
          refine lv_iadd hx hb d_law_1276 ?_
          obtain ⟨v189, e190, h⟩ := gb h
          refine gw_aldI hx hb hK hI e190 d_law_1277 ?_
          obtain ⟨q193, e194, h⟩ := gb h
          obtain ⟨u191, e192⟩ := gsome h
          refine gw_callI e192 h (gw_runV (As := [.int v187, .int v189]) (rest := []) hx hb hml hown hT hK hZ hA hI (ci := 7) rfl e194 (m_M_join l hst D g0 o9 v187 v189 w u191 e192) ce_M_join wd_932 wd_934 ⟨by decide, by decide⟩ rfl rfl hl.1 rfl (lv_room (Nat.le_of_ble_eq_true rfl)) d_law_1278 ⟨(show ((16015 - (n + 1) * 31) + 31) + 0 ≤ 601024 by omega), (show ((905842 - (n + 1) * 1745) + 1745) + 0 ≤ 7293000 by omega)⟩) hI hA hexc (show ((16015 - (n + 1) * 31) + 31) + 0 ≤ 601024 by omega) (show ((905842 - (n + 1) * 1745) + 1745) + 0 ≤ 7293000 by omega) (fun v195 w H locs h hI => ?_)
          refine lv_istore (lv' := [(6, .int v195), (5, .int v186), (0, .ref a0), (1, .ref o1), (2, .ref o9), (3, .ref o17), (4, .int z33)]) hx hb d_law_1281 hl (by decide) rfl (fun ls hl => ?_)
          refine lv_goto (tgt := 2104) hx hb d_law_1283 (by decide) ?_
          exact hK2104 w H locs ls h hI (lv_sub hl [2, 3, 4, 5, 6] rfl)
        have h := gie c179 h
        rcases Decidable.em ((v37 &&& 31) = 7) with c196 | c196
        · have h := git c196 h
          refine lv_tableIn (off := 1234) (tgt := 1286) hx hb d_law_52 (by rw [c196]; decide) (by rw [c196]; decide) (by rw [c196]; decide) (by decide) ?_
          refine W.widen (k := 16015) (n := 905842) (show (16015 - (n + 1) * 31) ≤ 16015 by omega) (show (905842 - (n + 1) * 1745) ≤ 905842 by omega) ?_
          exact hK1286 _ w H locs ls h hI (lv_sub hl [0, 1, 3, 4] rfl)
        have h := gie c196 h
        rcases Decidable.em ((v37 &&& 31) = 8) with c197 | c197
        · have h := git c197 h
          refine lv_tableIn (off := 1378) (tgt := 1430) hx hb d_law_52 (by rw [c197]; decide) (by rw [c197]; decide) (by rw [c197]; decide) (by decide) ?_
          refine W.widen (k := 16015) (n := 905842) (show (16015 - (n + 1) * 31) ≤ 16015 by omega) (show (905842 - (n + 1) * 1745) ≤ 905842 by omega) ?_
          exact hK1430 _ w H locs ls h hI (lv_sub hl [0, 1, 3, 4] rfl)
        have h := gie c197 h
        rcases Decidable.em ((v37 &&& 31) = 9) with c198 | c198
        · have h := git c198 h
          refine lv_tableIn (off := 1522) (tgt := 1574) hx hb d_law_52 (by rw [c198]; decide) (by rw [c198]; decide) (by rw [c198]; decide) (by decide) ?_
          refine W.widen (k := 16015) (n := 905842) (show (16015 - (n + 1) * 31) ≤ 16015 by omega) (show (905842 - (n + 1) * 1745) ≤ 905842 by omega) ?_
          exact hK1574 _ w H locs ls h hI (lv_sub hl [0, 1, 3, 4] rfl)
        have h := gie c198 h
        rcases Decidable.em ((v37 &&& 31) = 10) with c199 | c199
        · have h := git c199 h
          refine lv_tableIn (off := 1562) (tgt := 1614) hx hb d_law_52 (by rw [c199]; decide) (by rw [c199]; decide) (by rw [c199]; decide) (by decide) ?_
          refine W.widen (k := 16015) (n := 905842) (show (16015 - (n + 1) * 31) ≤ 16015 by omega) (show (905842 - (n + 1) * 1745) ≤ 905842 by omega) ?_
          exact hK1614 w H locs ls h hI (lv_sub hl [1] rfl)
        have h := gie c199 h
        rcases Decidable.em ((v37 &&& 31) = 11) with c200 | c200
        · have h := git c200 h
          refine lv_tableIn (off := 1575) (tgt := 1627) hx hb d_law_52 (by rw [c200]; decide) (by rw [c200]; decide) (by rw [c200]; decide) (by decide) ?_
          refine W.widen (k := 16015) (n := 905842) (show (16015 - (n + 1) * 31) ≤ 16015 by omega) (show (905842 - (n + 1) * 1745) ≤ 905842 by omega) ?_
          exact hK1627 _ w H locs ls h hI (lv_sub hl [0, 1, 3, 4] rfl)
        have h := gie c200 h
        rcases Decidable.em ((v37 &&& 31) = 12) with c201 | c201
        · have h := git c201 h
          refine lv_tableIn (off := 1615) (tgt := 1667) hx hb d_law_52 (by rw [c201]; decide) (by rw [c201]; decide) (by rw [c201]; decide) (by decide) ?_
          refine W.widen (k := 16015) (n := 905842) (show (16015 - (n + 1) * 31) ≤ 16015 by omega) (show (905842 - (n + 1) * 1745) ≤ 905842 by omega) ?_
          exact hK1667 _ w H locs ls h hI (lv_sub hl [0, 1, 3, 4] rfl)
        have h := gie c201 h
        rcases Decidable.em ((v37 &&& 31) = 13) with c202 | c202
        · have h := git c202 h
          refine lv_tableIn (off := 1875) (tgt := 1927) hx hb d_law_52 (by rw [c202]; decide) (by rw [c202]; decide) (by rw [c202]; decide) (by decide) ?_
          refine W.widen (k := 16015) (n := 905842) (show (16015 - (n + 1) * 31) ≤ 16015 by omega) (show (905842 - (n + 1) * 1745) ≤ 905842 by omega) ?_
          exact hK1927 _ w H locs ls h hI (lv_sub hl [0, 1, 4] rfl)
        have h := gie c202 h
        rcases Decidable.em ((v37 &&& 31) = 14) with c203 | c203
        · have h := git c203 h
          refine lv_tableIn (off := 1900) (tgt := 1952) hx hb d_law_52 (by rw [c203]; decide) (by rw [c203]; decide) (by rw [c203]; decide) (by decide) ?_
          refine W.widen (k := 16015) (n := 905842) (show (16015 - (n + 1) * 31) ≤ 16015 by omega) (show (905842 - (n + 1) * 1745) ≤ 905842 by omega) ?_
          exact hK1952 _ w H locs ls h hI (lv_sub hl [0, 1, 3, 4] rfl)
        have h := gie c203 h
        rcases Decidable.em ((v37 &&& 31) = 15) with c204 | c204
        · have h := git c204 h
          refine lv_tableIn (off := 1940) (tgt := 1992) hx hb d_law_52 (by rw [c204]; decide) (by rw [c204]; decide) (by rw [c204]; decide) (by decide) ?_
          refine W.widen (k := 16015) (n := 905842) (show (16015 - (n + 1) * 31) ≤ 16015 by omega) (show (905842 - (n + 1) * 1745) ≤ 905842 by omega) ?_
          exact hK1992 _ w H locs ls h hI (lv_sub hl [0, 1, 3, 4] rfl)
        have h := gie c204 h
        rcases Decidable.em ((v37 &&& 31) = 16) with c205 | c205
        · have h := git c205 h
          refine lv_tableIn (off := 2024) (tgt := 2076) hx hb d_law_52 (by rw [c205]; decide) (by rw [c205]; decide) (by rw [c205]; decide) (by decide) ?_
          refine W.widen (k := 16015) (n := 905842) (show (16015 - (n + 1) * 31) ≤ 16015 by omega) (show (905842 - (n + 1) * 1745) ≤ 905842 by omega) ?_
          exact hK2076 _ w H locs ls h hI (lv_sub hl [0, 1, 3, 4] rfl)
        have h := gie c205 h
        refine lv_tableOut (tgt := 2104) hx hb d_law_52 (by have q0 := lv_neT c39 (show (0 : Int32).toInt = 0 by decide); have q1 := lv_neT c50 (show (1 : Int32).toInt = 1 by decide); have q2 := lv_neT c123 (show (2 : Int32).toInt = 2 by decide); have q3 := lv_neT c124 (show (3 : Int32).toInt = 3 by decide); have q4 := lv_neT c149 (show (4 : Int32).toInt = 4 by decide); have q5 := lv_neT c178 (show (5 : Int32).toInt = 5 by decide); have q6 := lv_neT c179 (show (6 : Int32).toInt = 6 by decide); have q7 := lv_neT c196 (show (7 : Int32).toInt = 7 by decide); have q8 := lv_neT c197 (show (8 : Int32).toInt = 8 by decide); have q9 := lv_neT c198 (show (9 : Int32).toInt = 9 by decide); have q10 := lv_neT c199 (show (10 : Int32).toInt = 10 by decide); have q11 := lv_neT c200 (show (11 : Int32).toInt = 11 by decide); have q12 := lv_neT c201 (show (12 : Int32).toInt = 12 by decide); have q13 := lv_neT c202 (show (13 : Int32).toInt = 13 by decide); have q14 := lv_neT c203 (show (14 : Int32).toInt = 14 by decide); have q15 := lv_neT c204 (show (15 : Int32).toInt = 15 by decide); have q16 := lv_neT c205 (show (16 : Int32).toInt = 16 by decide); omega) (by decide) ?_
        refine W.widen (k := ((16015 - (n + 1) * 31) + 31)) (n := ((905842 - (n + 1) * 1745) + 1745)) (show (16015 - (n + 1) * 31) ≤ ((16015 - (n + 1) * 31) + 31) by omega) (show (905842 - (n + 1) * 1745) ≤ ((905842 - (n + 1) * 1745) + 1745) by omega) ?_
        exact hK2104 w H locs ls h hI (lv_sub hl [0, 1, 2, 3, 4] rfl)
  refine W.widen (k := (16015 - 513 * 31)) (n := (905842 - 513 * 1745)) (show 112 ≤ (16015 - 513 * 31) by omega) (show 10657 ≤ (905842 - 513 * 1745) by omega) ?_
  exact hL35 513 (Nat.le_refl _) _ w H locs ls h hI (lv_sub hl [4, 3, 2, 1, 0] rfl)
end
section
/-! THE CLAIM OUT OF ONE WALK OF THE LAW'S BODY. Your part is whole_start (and what it stands on); all else here is the same for every law, but numbers. -/
def R_law : String := "BodySolidsLaw"
def lw_P (b : Addr) (xs : List Int32) (args : Array Value) (s : State) : Prop := args = #[.ref b] ∧ s.IntsAt b xs ∧ xs.length ≤ 7169 ∧ (Jvm.Cond.and given_1 narrow_1).before args s = true
def lw_Q (_ : Array Value) (s : State) (o : Outcome) (t : State) : Prop := o = .returned (some (.int 1)) ∧ Framed s o t [] 601024 7293000
def lw_Z (below : List Frame) (a : Array Value) (s : State) : State → Prop := fun t => ∃ o, t.status = .running ∧ Ended t below o ∧ lw_Q a s o t
/-- the law's own end, with 1 on the stack, nothing written that was there before, its room as the claim has it -/
theorem lw_ret {p : Program} {l : Launch} {e : Env} {s : State} {m : MethodId} {below : List Frame} {meth : Method} {c : Code} {b : Nat} (hx : p.tables.exec = Jvm.exec) (hb : c.code = code) (hr : meth.sig.returnType = ret) (hlocks : meth.locks = false) {pc : Nat} {H : Heap} {ls : Array Slot} (hdg : decode code pc = .ok (.ireturn, 1)) : W p l e room_1 s m #[Value.ref b] below meth c H [] 601024 7293000 (lw_Z below #[Value.ref b] s) (F0 m pc ls [.int 1]) := by
  intro T hT X
  obtain ⟨fs, hret, hrun, hended, hW, hframe⟩ := X.leave (v := some (.int 1)) (hlocks := hlocks) (fun h => by rw [hr] at h; cases h)
  have hmeth' : T.vm.method? m = some meth := X.method'
  refine ⟨T.setFrames fs, ?_, .returned (some (.int 1)), hrun, hended, rfl, ⟨_, rfl⟩, hW, hframe⟩
  jvm_step X.here [X.here.top, hx, hb, hdg, hmeth', hr, ret, narrow_b1]
  (try refine ⟨rfl, ?_⟩); (try refine ⟨rfl, ?_⟩)
  first | (intro acts; rw [hret _ acts rfl rfl rfl]) | rw [hret _ _ rfl rfl rfl]
  exact Steps.refl _
/-- what holds at the law's entry: the machine, the code, the tables' words (any of lw_tbl by 'hts w (by decide +kernel)'), the script of L ints xs at the cell b, what the Statement gives of the start (any of its parts by flat_of_before) -/
def lw_At (p : Program) (s : State) (m : MethodId) (meth : Method) (c : Code) (b L : Nat) (xs : Nat → Int32) : Prop :=
  p.tables.exec = Jvm.exec ∧ c.code = code ∧ meth.sig.returnType = ret ∧ c.maxLocals = 8 ∧ s.vm.findClass R_law = some m.cls ∧ (∀ w ∈ lw_tbl, w.before #[Value.ref b] s = true) ∧ va_X b L xs s s.heap ∧ b < s.heap.size ∧ meth.locks = false ∧ (Jvm.Cond.and given_1 narrow_1).before #[Value.ref b] s = true
/-! ===== the law's entry: the first world ===== -/
theorem gNest_one {w : Cond} (h : gNest w = true) {s : State} {a : Array Value} (hb : w.before a s = true) (a' : Array Value) : w.before a' s = true := by
  have hW : s.WarmedH s.vm := State.WarmedH.refl s
  cases w
  case fieldLinkNest => exact va_Nw.use rfl (va_Nw.warmF hW hb)
  case methodLinkNest => exact va_Nw.use rfl (va_Nw.warmM hW hb)
  case castable => exact va_Nw.use rfl (va_Nw.warmC hW hb)
  case declares => exact va_Nw.use rfl (va_Nw.warmD hW hb)
  case arrayOver f =>
    cases f with
    | object C => exact va_AO.use (va_AO.moved hW.alike (va_AO.of hb))
    | _ => exact word_at hW (good_of_word h) hb
  all_goals exact word_at hW (good_of_word h) hb
abbrev gsD : String := "DEFAULTCAPACITY_EMPTY_ELEMENTDATA"
abbrev gOA : String := "[Ljava/lang/Object;"
theorem gcells {ty ty' : FieldType} {s : State} {cell : Cell} (h : s.isArrayOf cell ty) (h' : s.isArrayOf cell ty') : ty = ty' := by
  obtain ⟨-, k, h1, c1, h2⟩ := h
  obtain ⟨-, k', h3, c2, h4⟩ := h'
  cases h1.symm.trans h3
  have := h2.symm.trans h4
  cases this
  rfl
theorem gle {args : Array Value} {first s : State} {o : Option Outcome} {idx : List Nat} {t : Term} {a : Addr} {cell : Cell} (h : (Cond.eq (.length t) (.int 0)).holds args first o s idx = true) (ht : t.eval args first o idx s = some (.ref a)) (hat : s.arrayAt? a = some cell) : cell.slots.size = 0 := by
  by_cases hb : cell.slots.size < 2 ^ 31
  · have he : (Term.length t).eval args first o idx s = some (.int cell.slots.size.toInt32) := by simp [Term.eval, ht, hat, hb]
    have hv := Cond.eq_ints he (show (Term.int 0).eval args first o idx s = some (.int 0) from rfl)
    have h0 : cell.slots.size.toInt32 = 0 := by simpa [Cond.holds, hv] using h
    exact Nat.le_zero.mp ((Int32.ofNat_le_ofNat hb (by decide)).mp (show Int32.ofNat cell.slots.size ≤ Int32.ofNat 0 by rw [show Int32.ofNat cell.slots.size = 0 from h0]; exact Int32.le_refl _))
  · simp [Cond.holds, Cond.value, Term.eval, ht, hat, hb] at h
set_option maxRecDepth 100000 in
theorem gStart {s : State} {b L : Nat} {xs : Nat → Int32} (hts : ∀ w ∈ lw_tbl, w.before #[Value.ref b] s = true) (hX : va_X b L xs s s.heap) (hgv : (Jvm.Cond.and given_1 narrow_1).before #[Value.ref b] s = true) :
    ∃ (D : gD) (g0 : gG), gT s ∧ gK D s ∧ gZ (fun q => s.heap.size ≤ q) s s.heap g0 ∧ g0.1 ≠ b ∧ gAt D b (.inl (4, L, fun j => .int (xs j))) s.heap ∧ gAt D g0.1 (.inl (5, 0, fun _ => .null)) s.heap := by
  have hT : gT s := fun w hw a => gNest_one (List.mem_filter.mp hw).2 (hts w (List.mem_filter.mp hw).1) a
  have hg : ∀ w ∈ gAll, w.before #[Value.ref b] s = true := fun w hw => hT w hw _
  have hs := flat_of_before _ hgv
  have hA : ∀ a : Nat, a < s.heap.size → ¬ (fun q : Nat => s.heap.size ≤ q) a := fun a h => Nat.not_le.mpr h
  obtain ⟨c0, s0, k0⟩ := u_known hg i_0 (hg _ wd_73)
  obtain ⟨c1, s1, k1⟩ := u_known hg i_1 (hg _ wd_88)
  obtain ⟨c2, s2, k2⟩ := u_known hg i_2 (hg _ wd_117)
  obtain ⟨c3, s3, k3⟩ := u_known hg i_3 (hg _ wd_124)
  obtain ⟨c4, s4, k4⟩ := u_known hg i_4 (hg _ wd_229)
  obtain ⟨c5, s5, k5⟩ := u_known hg i_5 (hg _ wd_646)
  obtain ⟨c6, s6, k6⟩ := u_known hg i_6 (hg _ wd_714)
  obtain ⟨c7, s7, k7⟩ := u_known hg i_7 (hg _ wd_780)
  obtain ⟨aI, kI, pI, hI1, hI2, hI3⟩ := Cond.arrayClass_spec (hg _ wd_179)
  obtain ⟨aJ, kJ, pJ, hJ1, hJ2, hJ3⟩ := Cond.arrayClass_spec (hg _ wd_178)
  obtain ⟨mS, aS, kS, hS1, -, hS3, hS4, hS5⟩ := Cond.arrayOver_spec (hg _ wd_123)
  obtain ⟨mO, aO, kO, hO1, -, hO3, hO4, hO5⟩ := Cond.arrayOver_spec (hg _ wd_298)
  obtain ⟨scr, x1, x2, x3, x4, x5⟩ := id hX
  have hex : (Cond.exactly (.static "java/util/ArrayList" gsD gOA) gOA).before #[Value.ref b] s = true := hs _ (by decide +kernel)
  obtain ⟨d, cd, cell, kd, d1, d2, d3, d4, d5, d6, -⟩ := Cond.exactly_spec hex
  have har : (Cond.arrayOf (.static "java/util/ArrayList" gsD gOA) (.object "java/lang/Object")).before #[Value.ref b] s = true := hs _ (by decide +kernel)
  obtain ⟨a1, a2⟩ := Cond.arrayOf_spec har d1 d3
  have hlen : (Cond.eq (.length (.static "java/util/ArrayList" gsD gOA)) (.int 0)).before #[Value.ref b] s = true := hs _ (by decide +kernel)
  have hcd : cd = aO := Option.some.inj (d2.symm.trans hO5)
  have hdb : d ≠ b := by
    intro h
    rw [h, x1] at d3
    cases d3
    cases gcells x2 a1
  have hat : s.arrayAt? d = some cell := by
    obtain ⟨-, k, g2, comp, g3⟩ := a1
    simp [State.arrayAt?, d3, g2, g3, a2, d5]
  have hsz : cell.slots.size = 0 := gle hlen d1 hat
  obtain ⟨mi, hmi⟩ := va_Mi.of (C := gOA) (s := s) (args := #[Value.ref b]) (hs _ (by decide +kernel))
  have hsx : ∀ q ∈ gTx, ∃ a : Nat, vk_R q.1 q.2.1 q.2.2 a s := by
    intro q hq
    have h1 : (Cond.stringRef q.1 q.2.1 q.2.2).before #[Value.ref b] s = true := hts _ (by revert q; decide +kernel)
    have h2 : (Cond.exactly (.string q.1 q.2.1) "java/lang/String").before #[Value.ref b] s = true := hs _ (by clear h1; revert q; decide +kernel)
    obtain ⟨a, -, -, -, e1, -⟩ := Cond.exactly_spec h2
    exact ⟨a, vk_R.of h1 e1⟩
  have hnc : gNc s := by
    intro q hq a b' h1 h2
    have h3 : (Cond.not (.castable q.1 q.2)).before #[Value.ref b] s = true := hs _ (by clear h1 h2; revert q; decide +kernel)
    have hv := Cond.holds_not_iff.mp h3
    simp only [Cond.value, h1, h2] at hv
    exact Option.some.inj hv
  refine ⟨(fun c => match c with | 0 => c0 | 1 => c1 | 2 => c2 | 3 => c3 | 4 => c4 | 5 => c5 | 6 => c6 | _ => c7, fun c => match c with | 0 => s0 | 1 => s1 | 2 => s2 | 3 => s3 | 4 => s4 | 5 => s5 | 6 => s6 | _ => s7, fun k => match k with | 0 => aI | 1 => aJ | 2 => aS | 3 => aO | 4 => scr.cls | _ => aO), (d, mi), hT, ⟨?_, ?_, ?_, ?_⟩, ⟨?_, hmi, ?_, ?_, hsx, hnc⟩, hdb, ?_, ?_⟩
  · intro c q hq
    match c, hq with
    | 0, hq => cases hq; exact k0
    | 1, hq => cases hq; exact k1
    | 2, hq => cases hq; exact k2
    | 3, hq => cases hq; exact k3
    | 4, hq => cases hq; exact k4
    | 5, hq => cases hq; exact k5
    | 6, hq => cases hq; exact k6
    | 7, hq => cases hq; exact k7
    | c + 8, hq => simp [gCl] at hq
  · intro k ty hk
    match k, hk with
    | 0, hk => cases hk; exact ⟨fun n z => ⟨(fun _ h => by cases h), kI, hI2, pI, hI3⟩, hI1⟩
    | 1, hk => cases hk; exact ⟨fun n z => ⟨(fun _ h => by cases h), kJ, hJ2, pJ, hJ3⟩, hJ1⟩
    | 2, hk => cases hk; exact ⟨fun n z => ⟨(fun _ h => by cases h), kS, hS3, mS, hS4⟩, kS, mS, hS3, hS4, hS1, hS5⟩
    | 3, hk => cases hk; exact ⟨fun n z => ⟨(fun _ h => by cases h), kO, hO3, mO, hO4⟩, kO, mO, hO3, hO4, hO1, hO5⟩
    | k + 4, hk => simp [gTy] at hk
  · exact fun n z => ⟨(fun _ h => by cases h), x2.2⟩
  · exact fun n z => ⟨(fun _ h => by cases h), kO, hO3, mO, hO4⟩
  · exact va_Zof (hts _ (by decide +kernel)) (hts (.initialized "java/util/ArrayList") (by decide +kernel)) d1 hA
  · exact gSq.of (hts _ (by decide +kernel)) (hs _ (by decide +kernel)) hA
  · exact gSq.of (hts _ (by decide +kernel)) (hs _ (by decide +kernel)) hA
  · exact ⟨scr, x1, rfl, x2.1, x3, x4, x5⟩
  · refine ⟨cell, d3, d6.trans hcd, VmData.ne_statics_of d5, a2, hsz, fun j hj => absurd hj (Nat.not_lt_zero j)⟩
/-- the law's walk, out of what its pure function answers on the first world -/
theorem start_of {p : Program} {e : Env} {s : State} {m : MethodId} {below : List Frame} {meth : Method} {c : Code} (l : Launch) (hst : l.stackTraces = false) {b L : Nat} {xs : Nat → Int32} (C0 : lw_At p s m meth c b L xs)
    (hp : ∀ d mi n : Nat, d ≠ b → b < n → d < n → ∃ w1, f_law (d, mi) b (gw0 b L d n xs) = some (.inr 1, w1)) : W p l e room_1 s m #[Value.ref b] below meth c s.heap [] 0 0 (lw_Z below #[Value.ref b] s) (entryFrame m ([Value.ref b] : List Value).toArray 8) := by
  obtain ⟨hx, hb, hr, hml, hown, hts, hX, hbl, hlocks, hgv⟩ := id C0
  obtain ⟨D, ⟨d, mi⟩, hT, hK, hZ, hdb, h4, h5⟩ := gStart hts hX hgv
  obtain ⟨w1, hw⟩ := hp d mi s.heap.size hdb hbl h5.lt
  have hl := lv_entry [Value.ref b] (n := 8) (Nat.le_of_ble_eq_true rfl)
  have hI : gI D s (fun q => s.heap.size ≤ q) (gw0 b L d s.heap.size xs) s.heap [] := by
    refine ⟨rfl, fun a e he => ?_, va_S.rf, fun a e he hrw => ?_⟩
    · simp only [gw0] at he
      split at he
      · rename_i q; cases he; rw [q]; exact h4
      · split at he
        · rename_i q; cases he; rw [q]; exact h5
        · cases he
    · simp only [gw0] at he
      split at he
      · cases he; exact absurd hrw.1 (show ¬ (4 : Nat) < 4 by decide)
      · split at he
        · cases he; exact absurd hrw.1 (show ¬ (5 : Nat) < 4 by decide)
        · cases he
  have K := m_law (p := p) (l := l) (e := e) (s := s) (m := m) (below := below) (meth := meth) (c := c) (args := #[Value.ref b]) (A := fun q => s.heap.size ≤ q) (Q := lw_Z below #[Value.ref b] s) hst D (d, mi) b _ _ hw hx hb hml hown hT hK hZ (fun _ h => h)
    (fun {v} hv v9 w' hr' pc ls H locs hdg hI' => by
      cases hr'
      exact va_forget (fun q hq => hI'.2.2.1.2.2 q hq) (lw_ret hx hb hr hlocks hdg))
    (fun E w' h => by cases h) hI hl
  rw [← lg_entry_eq] at K
  exact K
end
section
/-! ===== a refutation: the law's walk on this script ends with 0 ===== -/
def lz_Z (below : List Frame) : State → Prop := fun t => ∃ o, t.status = .running ∧ Ended t below o ∧ o = .returned (some (.int 0))
theorem lz_ret {p : Program} {l : Launch} {e : Env} {s : State} {m : MethodId} {below : List Frame} {meth : Method} {c : Code} {b : Nat} (hx : p.tables.exec = Jvm.exec) (hb : c.code = code) (hr : meth.sig.returnType = ret) (hlocks : meth.locks = false) {pc : Nat} {H : Heap} {ls : Array Slot} (hdg : decode code pc = .ok (.ireturn, 1)) : W p l e room_1 s m #[Value.ref b] below meth c H [] 601024 7293000 (lz_Z below) (F0 m pc ls [.int 0]) := by
  intro T hT X
  obtain ⟨fs, hret, hrun, hended, hW, hframe⟩ := X.leave (v := some (.int 0)) (hlocks := hlocks) (fun h => by rw [hr] at h; cases h)
  have hmeth' : T.vm.method? m = some meth := X.method'
  refine ⟨T.setFrames fs, ?_, .returned (some (.int 0)), hrun, hended, rfl⟩
  jvm_step X.here [X.here.top, hx, hb, hdg, hmeth', hr, ret, narrow_b0]
  (try refine ⟨rfl, ?_⟩); (try refine ⟨rfl, ?_⟩)
  first | (intro acts; rw [hret _ acts rfl rfl rfl]) | rw [hret _ _ rfl rfl rfl]
  exact Steps.refl _
theorem lz_start {p : Program} {e : Env} {s : State} {m : MethodId} {below : List Frame} {meth : Method} {c : Code} (l : Launch) (hst : l.stackTraces = false) {b L : Nat} {xs : Nat → Int32} (C0 : lw_At p s m meth c b L xs)
    (hp : ∀ (d mi : Nat) (A : Nat → Prop), va_Z "java/util/ArrayList" "DEFAULTCAPACITY_EMPTY_ELEMENTDATA" "[Ljava/lang/Object;" (.ref d) A s s.heap → va_Mi "[Ljava/lang/Object;" mi s → ∃ w1, f_law (d, mi) b (gw0 b L d s.heap.size xs) = some (.inr 0, w1)) : W p l e room_1 s m #[Value.ref b] below meth c s.heap [] 0 0 (lz_Z below) (entryFrame m ([Value.ref b] : List Value).toArray 8) := by
  obtain ⟨hx, hb, hr, hml, hown, hts, hX, hbl, hlocks, hgv⟩ := id C0
  obtain ⟨D, ⟨d, mi⟩, hT, hK, hZ, hdb, h4, h5⟩ := gStart hts hX hgv
  obtain ⟨w1, hw⟩ := hp d mi _ hZ.1 hZ.2.1
  have hl := lv_entry [Value.ref b] (n := 8) (Nat.le_of_ble_eq_true rfl)
  have hI : gI D s (fun q => s.heap.size ≤ q) (gw0 b L d s.heap.size xs) s.heap [] := by
    refine ⟨rfl, fun a e he => ?_, va_S.rf, fun a e he hrw => ?_⟩
    · simp only [gw0] at he
      split at he
      · rename_i q; cases he; rw [q]; exact h4
      · split at he
        · rename_i q; cases he; rw [q]; exact h5
        · cases he
    · simp only [gw0] at he
      split at he
      · cases he; exact absurd hrw.1 (show ¬ (4 : Nat) < 4 by decide)
      · split at he
        · cases he; exact absurd hrw.1 (show ¬ (5 : Nat) < 4 by decide)
        · cases he
  have K := m_law (p := p) (l := l) (e := e) (s := s) (m := m) (below := below) (meth := meth) (c := c) (args := #[Value.ref b]) (A := fun q => s.heap.size ≤ q) (Q := lz_Z below) hst D (d, mi) b _ _ hw hx hb hml hown hT hK hZ (fun _ h => h)
    (fun {v} hv v9 w' hr' pc ls H locs hdg hI' => by
      cases hr'
      exact va_forget (fun q hq => hI'.2.2.1.2.2 q hq) (lz_ret hx hb hr hlocks hdg))
    (fun E w' h => by cases h) hI hl
  rw [← lg_entry_eq] at K
  exact K
set_option maxHeartbeats 4000000 in
theorem lz_walk (l : Launch) (hst : l.stackTraces = false) (b : Addr) (xs : List Int32) (u : State)
    (hp : ∀ (d mi : Nat) (A : Nat → Prop), va_Z "java/util/ArrayList" "DEFAULTCAPACITY_EMPTY_ELEMENTDATA" "[Ljava/lang/Object;" (.ref d) A u u.heap → va_Mi "[Ljava/lang/Object;" mi u → ∃ w1, f_law (d, mi) b (gw0 b xs.length d u.heap.size (fun j => xs.getD j 0)) = some (.inr 0, w1)) :
    MetFree l x (headSpec (Jvm.Cond.code x code maxLocals ret :: tables_1) room_1) (fun args s => lw_P b xs args s ∧ s = u) (fun _ _ _ _ _ => True) (fun _ _ o _ => o = .returned (some (.int 0))) := by
  refine MetFree.of_bodyS (code := code) (maxLocals := maxLocals) (ret := ret) (by decide) ?_ ?_
  · intro args s m h hn
    obtain ⟨meth, c, h1, h2, h3, h4, h5, h6, -, -⟩ := Cond.code_spec hn (atoms_spec (ws := Jvm.Cond.code x code maxLocals ret :: tables_1) h _ List.mem_cons_self)
    exact ⟨meth, c, h1, h2, h3, h4, h5, h6⟩
  · intro p e s m args below meth c s₁ B hml0 hP _
    obtain ⟨⟨rfl, hx, hbd, hgv⟩, hu⟩ := hP
    subst hu
    obtain ⟨scr, harrAt, hlist, hof, hsmall⟩ := hx
    obtain ⟨hcb, hkn, -, -⟩ := State.arrayAt?_spec harrAt
    have hown : s.vm.findClass R_law = some m.cls := findClass_of_methodNamed B.named
    have hts0 : ∀ c ∈ (Jvm.Cond.code x code maxLocals ret :: tables_1), c.before #[Value.ref b] s = true := atoms_spec (ws := Jvm.Cond.code x code maxLocals ret :: tables_1) B.pre
    have hts : ∀ w ∈ lw_tbl, w.before #[Value.ref b] s = true := k2_hts_sels lw_privs (fun w hw => hts0 w (List.mem_cons_of_mem _ hw)) lw_privs_ok
    have hml : c.maxLocals = 8 := B.maxLocals_eq (hts0 _ List.mem_cons_self)
    have X₀ : Stand p l e room_1 s m #[Value.ref b] below meth c s₁ [] 0 0 := Stand.of_body B
    have hh0 : s₁.heap = s.heap := by rw [B.state]; rfl
    have hsz : scr.slots.size = xs.length := by rw [← Array.length_toList, hlist, List.length_map]
    have hval : ∀ j : Nat, j < xs.length → scr.slots[j]? = some (.int (xs.getD j 0)) := fun j hj => by
      rw [← Array.getElem?_toList, hlist]
      simp [hj]
    have hbl : b < s.heap.size := (Array.getElem?_eq_some_iff.mp hcb).1
    have hX : va_X b xs.length (fun j => xs.getD j 0) s s.heap := ⟨scr, hcb, hof, hkn, hsz, hval⟩
    have K : W p l e room_1 s m #[Value.ref b] below meth c s₁.heap [] 0 0 (lz_Z below) (entryFrame m ([Value.ref b] : List Value).toArray 8) := by
      rw [hh0]
      exact lz_start l hst ⟨B.exec, B.bytes, B.returns, hml, hown, hts, hX, hbl, B.notSynchronized, hgv⟩ hp
    obtain ⟨t, a1, o, b1, b2, b3⟩ := K s₁ rfl X₀
    exact ⟨t, o, a1, b1, b2, b3⟩
end
section
/-! ===== THE REFUTATION: a start that the statement allows, from which the law's method ends with 0 ===== -/
theorem rf_P (h : rf_xs.length ≤ 7169) : lw_P 0 rf_xs start1.args0 rf_s := ⟨rfl, rf_ints, h, rf_pre⟩
theorem rf_end : ∃ (n : Nat) (o : Outcome), (∀ k, k < n → Within (stepsAlone start1.p0.tables start1.e0 k rf_s) Lib.HandBits.below0) ∧ (stepsAlone start1.p0.tables start1.e0 n rf_s).status = .running ∧ Ended (stepsAlone start1.p0.tables start1.e0 n rf_s) Lib.HandBits.below0 o ∧ o = .returned (some (.int 0)) := by
  have hst : launch0.stackTraces = false := by decide +kernel
  have hw := lz_walk launch0 hst 0 rf_xs rf_s (fun d mi A h1 h2 => by
    cases rf_d h1
    cases rf_mi h2
    rw [rf_size]
    exact rf_f)
  exact hw start1.p0 start1.e0 (launch0.admits_env _ _ _) fairChoices_fair.cas fairChoices_fair.clock rf_s ⟨0, 0⟩ start1.args0 Lib.HandBits.below0 rfl ((Spec.applies_iff_loose rfl).mp rf_app).1 ⟨rf_P (by decide +kernel), rfl⟩ trivial
theorem rf_post {tb : Tables} {e : Env} {a : Array Value} {s t : State} : ¬ Post_1_2 tb e a s (.returned (some (.int 0))) t := by
  intro h
  have h1 : limb_1_2.after a s (.returned (some (.int 0))) t = true := h.1
  have h2 := Cond.after_iff.mp h1
  rw [show limb_1_2 = Cond.eq .result (.int 1) from rfl, Cond.eq_ints (x := 0) (y := 1) rfl rfl] at h2
  simp at h2
theorem rf_flags : launch0.flags = flags0 := by decide +kernel
/-- the refutation in the Statement's own form -/
theorem refuted_1_2 : RefutedClaimed_1_2 := by
  obtain ⟨n, o, h1, h2, h3, rfl⟩ := rf_end
  exact ⟨launch0, start1.p0, start1.e0, rf_s, ⟨0, 0⟩, start1.args0, Lib.HandBits.below0, rf_flags, rf_atStart, n, _, h1, h2, h3, rf_post⟩
/-- what was to be proved is false -/
theorem not_claimed_1_2 : ¬ Claimed_1_2 := by
  intro h
  obtain ⟨n, o, b1, b2, b3, hb⟩ := rf_end
  have happ := rf_atStart
  obtain ⟨c1, c2, c3, c4, c5, c6, c7, c8, c9, c10, c11, c12, c13⟩ := happ
  obtain ⟨k, o', a1, a2, a3, a4⟩ := h launch0 rf_flags c1 c2 start1.p0 start1.e0 c3 c5 c6 rf_s ⟨0, 0⟩ start1.args0 Lib.HandBits.below0 c7 c8 c9 c10 ⟨c11, c12, c13⟩
  have hnk : n = k := by
    rcases Nat.lt_trichotomy n k with q | q | q
    · exact absurd (a1 n q) b3.not_within
    · exact q
    · exact absurd (b1 k q) a3.not_within
  subst hnk
  have ho := a3.outcome_unique b3
  rw [ho, hb] at a4
  exact rf_post a4
theorem not_vc : ¬ (Claimed_1_1 ∧ Claimed_1_2) := fun h => not_claimed_1_2 h.2
end
