section
-- ===== PART A: goes FIRST, ahead of the names: the tables' words, and 'selects' of the private methods out of them =====
/-- a private method of a class that the tables say can be made, by its rows of tables_1 -/
def lw_okq (q : MethodName × Nat) : Prop := (q.1.cls ≠ "java/lang/invoke/MethodHandle" ∧ q.1.cls ≠ "java/lang/invoke/VarHandle") ∧ Cond.instantiable q.1.cls q.2 ∈ tables_1 ∧ Cond.privateMethod q.1 ∈ tables_1 ∧ Cond.instanceMethod q.1 ∈ tables_1
theorem lw_p0 : lw_okq (⟨"BodySolids", "addBody", "(LBodySolids$Body;)I"⟩, 10) := ⟨⟨by decide +kernel, by decide +kernel⟩, List.mem_of_getElem? (i := 25) (by decide +kernel), List.mem_of_getElem? (i := 199) (by decide +kernel), List.mem_of_getElem? (i := 200) (by decide +kernel)⟩
theorem lw_p1 : lw_okq (⟨"java/util/ArrayList", "add", "(Ljava/lang/Object;[Ljava/lang/Object;I)V"⟩, 3) := ⟨⟨by decide +kernel, by decide +kernel⟩, List.mem_of_getElem? (i := 40) (by decide +kernel), List.mem_of_getElem? (i := 207) (by decide +kernel), List.mem_of_getElem? (i := 208) (by decide +kernel)⟩
theorem lw_p2 : lw_okq (⟨"java/util/ArrayList", "grow", "()[Ljava/lang/Object;"⟩, 3) := ⟨⟨by decide +kernel, by decide +kernel⟩, List.mem_of_getElem? (i := 40) (by decide +kernel), List.mem_of_getElem? (i := 211) (by decide +kernel), List.mem_of_getElem? (i := 212) (by decide +kernel)⟩
theorem lw_p3 : lw_okq (⟨"java/util/ArrayList", "grow", "(I)[Ljava/lang/Object;"⟩, 3) := ⟨⟨by decide +kernel, by decide +kernel⟩, List.mem_of_getElem? (i := 40) (by decide +kernel), List.mem_of_getElem? (i := 215) (by decide +kernel), List.mem_of_getElem? (i := 216) (by decide +kernel)⟩
theorem lw_p4 : lw_okq (⟨"BodySolids", "relation", "(II)I"⟩, 10) := ⟨⟨by decide +kernel, by decide +kernel⟩, List.mem_of_getElem? (i := 25) (by decide +kernel), List.mem_of_getElem? (i := 265) (by decide +kernel), List.mem_of_getElem? (i := 266) (by decide +kernel)⟩
theorem lw_p5 : lw_okq (⟨"BodySolids", "relationOfLayouts", "()I"⟩, 10) := ⟨⟨by decide +kernel, by decide +kernel⟩, List.mem_of_getElem? (i := 25) (by decide +kernel), List.mem_of_getElem? (i := 322) (by decide +kernel), List.mem_of_getElem? (i := 323) (by decide +kernel)⟩
theorem lw_p6 : lw_okq (⟨"BodySolids", "breaksSome", "(LBodySolids$Placement;)Z"⟩, 10) := ⟨⟨by decide +kernel, by decide +kernel⟩, List.mem_of_getElem? (i := 25) (by decide +kernel), List.mem_of_getElem? (i := 367) (by decide +kernel), List.mem_of_getElem? (i := 368) (by decide +kernel)⟩
theorem lw_p7 : lw_okq (⟨"BodySolids", "bodyAt", "(I)LBodySolids$Body;"⟩, 10) := ⟨⟨by decide +kernel, by decide +kernel⟩, List.mem_of_getElem? (i := 25) (by decide +kernel), List.mem_of_getElem? (i := 389) (by decide +kernel), List.mem_of_getElem? (i := 390) (by decide +kernel)⟩
theorem lw_p8 : lw_okq (⟨"java/lang/Throwable", "fillInStackTrace", "(I)Ljava/lang/Throwable;"⟩, 6) := ⟨⟨by decide +kernel, by decide +kernel⟩, List.mem_of_getElem? (i := 434) (by decide +kernel), List.mem_of_getElem? (i := 432) (by decide +kernel), List.mem_of_getElem? (i := 433) (by decide +kernel)⟩
theorem lw_p9 : lw_okq (⟨"BodySolids", "forgetRelationsOf", "(LBodySolids$Body;)V"⟩, 10) := ⟨⟨by decide +kernel, by decide +kernel⟩, List.mem_of_getElem? (i := 25) (by decide +kernel), List.mem_of_getElem? (i := 513) (by decide +kernel), List.mem_of_getElem? (i := 514) (by decide +kernel)⟩
theorem lw_p10 : lw_okq (⟨"BodySolids", "forgetRelationsAt", "(I)V"⟩, 10) := ⟨⟨by decide +kernel, by decide +kernel⟩, List.mem_of_getElem? (i := 25) (by decide +kernel), List.mem_of_getElem? (i := 517) (by decide +kernel), List.mem_of_getElem? (i := 518) (by decide +kernel)⟩
theorem lw_p11 : lw_okq (⟨"BodySolids", "cornersMakePolygon", "()Z"⟩, 10) := ⟨⟨by decide +kernel, by decide +kernel⟩, List.mem_of_getElem? (i := 25) (by decide +kernel), List.mem_of_getElem? (i := 544) (by decide +kernel), List.mem_of_getElem? (i := 545) (by decide +kernel)⟩
theorem lw_p12 : lw_okq (⟨"BodySolids", "othersLieLeftOfSide", "(II)Z"⟩, 10) := ⟨⟨by decide +kernel, by decide +kernel⟩, List.mem_of_getElem? (i := 25) (by decide +kernel), List.mem_of_getElem? (i := 548) (by decide +kernel), List.mem_of_getElem? (i := 549) (by decide +kernel)⟩
theorem lw_p13 : lw_okq (⟨"BodySolids", "turnAt", "(III)J"⟩, 10) := ⟨⟨by decide +kernel, by decide +kernel⟩, List.mem_of_getElem? (i := 25) (by decide +kernel), List.mem_of_getElem? (i := 552) (by decide +kernel), List.mem_of_getElem? (i := 553) (by decide +kernel)⟩
theorem lw_p14 : lw_okq (⟨"BodySolids", "twiceAreaOfCorners", "()J"⟩, 10) := ⟨⟨by decide +kernel, by decide +kernel⟩, List.mem_of_getElem? (i := 25) (by decide +kernel), List.mem_of_getElem? (i := 557) (by decide +kernel), List.mem_of_getElem? (i := 558) (by decide +kernel)⟩
theorem lw_p15 : lw_okq (⟨"BodySolids", "placementAt", "(I)LBodySolids$Placement;"⟩, 10) := ⟨⟨by decide +kernel, by decide +kernel⟩, List.mem_of_getElem? (i := 25) (by decide +kernel), List.mem_of_getElem? (i := 635) (by decide +kernel), List.mem_of_getElem? (i := 636) (by decide +kernel)⟩
def lw_privs_1 : List (MethodName × Nat) := [(⟨"BodySolids", "addBody", "(LBodySolids$Body;)I"⟩, 10), (⟨"java/util/ArrayList", "add", "(Ljava/lang/Object;[Ljava/lang/Object;I)V"⟩, 3), (⟨"java/util/ArrayList", "grow", "()[Ljava/lang/Object;"⟩, 3), (⟨"java/util/ArrayList", "grow", "(I)[Ljava/lang/Object;"⟩, 3), (⟨"BodySolids", "relation", "(II)I"⟩, 10), (⟨"BodySolids", "relationOfLayouts", "()I"⟩, 10), (⟨"BodySolids", "breaksSome", "(LBodySolids$Placement;)Z"⟩, 10), (⟨"BodySolids", "bodyAt", "(I)LBodySolids$Body;"⟩, 10), (⟨"java/lang/Throwable", "fillInStackTrace", "(I)Ljava/lang/Throwable;"⟩, 6), (⟨"BodySolids", "forgetRelationsOf", "(LBodySolids$Body;)V"⟩, 10), (⟨"BodySolids", "forgetRelationsAt", "(I)V"⟩, 10), (⟨"BodySolids", "cornersMakePolygon", "()Z"⟩, 10), (⟨"BodySolids", "othersLieLeftOfSide", "(II)Z"⟩, 10), (⟨"BodySolids", "turnAt", "(III)J"⟩, 10), (⟨"BodySolids", "twiceAreaOfCorners", "()J"⟩, 10), (⟨"BodySolids", "placementAt", "(I)LBodySolids$Placement;"⟩, 10)]
theorem lw_r1 : ∀ q ∈ lw_privs_1, lw_okq q := List.forall_mem_cons.mpr ⟨lw_p0, List.forall_mem_cons.mpr ⟨lw_p1, List.forall_mem_cons.mpr ⟨lw_p2, List.forall_mem_cons.mpr ⟨lw_p3, List.forall_mem_cons.mpr ⟨lw_p4, List.forall_mem_cons.mpr ⟨lw_p5, List.forall_mem_cons.mpr ⟨lw_p6, List.forall_mem_cons.mpr ⟨lw_p7, List.forall_mem_cons.mpr ⟨lw_p8, List.forall_mem_cons.mpr ⟨lw_p9, List.forall_mem_cons.mpr ⟨lw_p10, List.forall_mem_cons.mpr ⟨lw_p11, List.forall_mem_cons.mpr ⟨lw_p12, List.forall_mem_cons.mpr ⟨lw_p13, List.forall_mem_cons.mpr ⟨lw_p14, List.forall_mem_cons.mpr ⟨lw_p15, fun _ h => absurd h List.not_mem_nil⟩⟩⟩⟩⟩⟩⟩⟩⟩⟩⟩⟩⟩⟩⟩⟩
theorem lw_p16 : lw_okq (⟨"BodySolids", "sectionAnswer", "(III)J"⟩, 10) := ⟨⟨by decide +kernel, by decide +kernel⟩, List.mem_of_getElem? (i := 25) (by decide +kernel), List.mem_of_getElem? (i := 720) (by decide +kernel), List.mem_of_getElem? (i := 721) (by decide +kernel)⟩
theorem lw_p17 : lw_okq (⟨"BodySolidsModel", "isBody", "(I)Z"⟩, 27) := ⟨⟨by decide +kernel, by decide +kernel⟩, List.mem_of_getElem? (i := 732) (by decide +kernel), List.mem_of_getElem? (i := 843) (by decide +kernel), List.mem_of_getElem? (i := 844) (by decide +kernel)⟩
theorem lw_p18 : lw_okq (⟨"BodySolidsModel", "fresh", "(II)I"⟩, 27) := ⟨⟨by decide +kernel, by decide +kernel⟩, List.mem_of_getElem? (i := 732) (by decide +kernel), List.mem_of_getElem? (i := 847) (by decide +kernel), List.mem_of_getElem? (i := 848) (by decide +kernel)⟩
theorem lw_p19 : lw_okq (⟨"BodySolidsModel", "tell", "(IIJ)V"⟩, 27) := ⟨⟨by decide +kernel, by decide +kernel⟩, List.mem_of_getElem? (i := 732) (by decide +kernel), List.mem_of_getElem? (i := 851) (by decide +kernel), List.mem_of_getElem? (i := 852) (by decide +kernel)⟩
theorem lw_p20 : lw_okq (⟨"BodySolidsModel", "isRound", "()Z"⟩, 27) := ⟨⟨by decide +kernel, by decide +kernel⟩, List.mem_of_getElem? (i := 732) (by decide +kernel), List.mem_of_getElem? (i := 867) (by decide +kernel), List.mem_of_getElem? (i := 868) (by decide +kernel)⟩
theorem lw_p21 : lw_okq (⟨"BodySolidsModel", "copy", "(II)V"⟩, 27) := ⟨⟨by decide +kernel, by decide +kernel⟩, List.mem_of_getElem? (i := 732) (by decide +kernel), List.mem_of_getElem? (i := 885) (by decide +kernel), List.mem_of_getElem? (i := 886) (by decide +kernel)⟩
theorem lw_p22 : lw_okq (⟨"BodySolidsModel", "set", "(IJJII)V"⟩, 27) := ⟨⟨by decide +kernel, by decide +kernel⟩, List.mem_of_getElem? (i := 732) (by decide +kernel), List.mem_of_getElem? (i := 896) (by decide +kernel), List.mem_of_getElem? (i := 897) (by decide +kernel)⟩
theorem lw_p23 : lw_okq (⟨"BodySolidsModel", "isPlaced", "(I)Z"⟩, 27) := ⟨⟨by decide +kernel, by decide +kernel⟩, List.mem_of_getElem? (i := 732) (by decide +kernel), List.mem_of_getElem? (i := 904) (by decide +kernel), List.mem_of_getElem? (i := 905) (by decide +kernel)⟩
theorem lw_p24 : lw_okq (⟨"BodySolidsModel", "meet", "(II)I"⟩, 27) := ⟨⟨by decide +kernel, by decide +kernel⟩, List.mem_of_getElem? (i := 732) (by decide +kernel), List.mem_of_getElem? (i := 912) (by decide +kernel), List.mem_of_getElem? (i := 913) (by decide +kernel)⟩
theorem lw_p25 : lw_okq (⟨"BodySolidsModel", "lay", "(III)V"⟩, 27) := ⟨⟨by decide +kernel, by decide +kernel⟩, List.mem_of_getElem? (i := 732) (by decide +kernel), List.mem_of_getElem? (i := 916) (by decide +kernel), List.mem_of_getElem? (i := 917) (by decide +kernel)⟩
theorem lw_p26 : lw_okq (⟨"BodySolidsModel", "of", "(II)J"⟩, 27) := ⟨⟨by decide +kernel, by decide +kernel⟩, List.mem_of_getElem? (i := 732) (by decide +kernel), List.mem_of_getElem? (i := 920) (by decide +kernel), List.mem_of_getElem? (i := 921) (by decide +kernel)⟩
theorem lw_p27 : lw_okq (⟨"BodySolidsModel", "spot", "(IIIJJ)V"⟩, 27) := ⟨⟨by decide +kernel, by decide +kernel⟩, List.mem_of_getElem? (i := 732) (by decide +kernel), List.mem_of_getElem? (i := 924) (by decide +kernel), List.mem_of_getElem? (i := 925) (by decide +kernel)⟩
theorem lw_p28 : lw_okq (⟨"BodySolidsModel", "xOf", "(IJJ)J"⟩, 27) := ⟨⟨by decide +kernel, by decide +kernel⟩, List.mem_of_getElem? (i := 732) (by decide +kernel), List.mem_of_getElem? (i := 928) (by decide +kernel), List.mem_of_getElem? (i := 929) (by decide +kernel)⟩
theorem lw_p29 : lw_okq (⟨"BodySolidsModel", "yOf", "(IJJ)J"⟩, 27) := ⟨⟨by decide +kernel, by decide +kernel⟩, List.mem_of_getElem? (i := 732) (by decide +kernel), List.mem_of_getElem? (i := 932) (by decide +kernel), List.mem_of_getElem? (i := 933) (by decide +kernel)⟩
theorem lw_p30 : lw_okq (⟨"BodySolidsModel", "point", "(IIJJ)V"⟩, 27) := ⟨⟨by decide +kernel, by decide +kernel⟩, List.mem_of_getElem? (i := 732) (by decide +kernel), List.mem_of_getElem? (i := 936) (by decide +kernel), List.mem_of_getElem? (i := 937) (by decide +kernel)⟩
theorem lw_p31 : lw_okq (⟨"BodySolidsModel", "zOf", "(IJ)J"⟩, 27) := ⟨⟨by decide +kernel, by decide +kernel⟩, List.mem_of_getElem? (i := 732) (by decide +kernel), List.mem_of_getElem? (i := 940) (by decide +kernel), List.mem_of_getElem? (i := 941) (by decide +kernel)⟩
def lw_privs_2 : List (MethodName × Nat) := [(⟨"BodySolids", "sectionAnswer", "(III)J"⟩, 10), (⟨"BodySolidsModel", "isBody", "(I)Z"⟩, 27), (⟨"BodySolidsModel", "fresh", "(II)I"⟩, 27), (⟨"BodySolidsModel", "tell", "(IIJ)V"⟩, 27), (⟨"BodySolidsModel", "isRound", "()Z"⟩, 27), (⟨"BodySolidsModel", "copy", "(II)V"⟩, 27), (⟨"BodySolidsModel", "set", "(IJJII)V"⟩, 27), (⟨"BodySolidsModel", "isPlaced", "(I)Z"⟩, 27), (⟨"BodySolidsModel", "meet", "(II)I"⟩, 27), (⟨"BodySolidsModel", "lay", "(III)V"⟩, 27), (⟨"BodySolidsModel", "of", "(II)J"⟩, 27), (⟨"BodySolidsModel", "spot", "(IIIJJ)V"⟩, 27), (⟨"BodySolidsModel", "xOf", "(IJJ)J"⟩, 27), (⟨"BodySolidsModel", "yOf", "(IJJ)J"⟩, 27), (⟨"BodySolidsModel", "point", "(IIJJ)V"⟩, 27), (⟨"BodySolidsModel", "zOf", "(IJ)J"⟩, 27)]
theorem lw_r2 : ∀ q ∈ lw_privs_2, lw_okq q := List.forall_mem_cons.mpr ⟨lw_p16, List.forall_mem_cons.mpr ⟨lw_p17, List.forall_mem_cons.mpr ⟨lw_p18, List.forall_mem_cons.mpr ⟨lw_p19, List.forall_mem_cons.mpr ⟨lw_p20, List.forall_mem_cons.mpr ⟨lw_p21, List.forall_mem_cons.mpr ⟨lw_p22, List.forall_mem_cons.mpr ⟨lw_p23, List.forall_mem_cons.mpr ⟨lw_p24, List.forall_mem_cons.mpr ⟨lw_p25, List.forall_mem_cons.mpr ⟨lw_p26, List.forall_mem_cons.mpr ⟨lw_p27, List.forall_mem_cons.mpr ⟨lw_p28, List.forall_mem_cons.mpr ⟨lw_p29, List.forall_mem_cons.mpr ⟨lw_p30, List.forall_mem_cons.mpr ⟨lw_p31, fun _ h => absurd h List.not_mem_nil⟩⟩⟩⟩⟩⟩⟩⟩⟩⟩⟩⟩⟩⟩⟩⟩
theorem lw_p32 : lw_okq (⟨"BodySolidsModel", "heights", "(IJJ)V"⟩, 27) := ⟨⟨by decide +kernel, by decide +kernel⟩, List.mem_of_getElem? (i := 732) (by decide +kernel), List.mem_of_getElem? (i := 945) (by decide +kernel), List.mem_of_getElem? (i := 946) (by decide +kernel)⟩
theorem lw_p33 : lw_okq (⟨"BodySolidsModel", "both", "()I"⟩, 27) := ⟨⟨by decide +kernel, by decide +kernel⟩, List.mem_of_getElem? (i := 732) (by decide +kernel), List.mem_of_getElem? (i := 949) (by decide +kernel), List.mem_of_getElem? (i := 950) (by decide +kernel)⟩
theorem lw_p34 : lw_okq (⟨"BodySolidsModel", "tubes", "()I"⟩, 27) := ⟨⟨by decide +kernel, by decide +kernel⟩, List.mem_of_getElem? (i := 732) (by decide +kernel), List.mem_of_getElem? (i := 953) (by decide +kernel), List.mem_of_getElem? (i := 954) (by decide +kernel)⟩
theorem lw_p35 : lw_okq (⟨"BodySolidsModel", "heightGap", "()J"⟩, 27) := ⟨⟨by decide +kernel, by decide +kernel⟩, List.mem_of_getElem? (i := 732) (by decide +kernel), List.mem_of_getElem? (i := 963) (by decide +kernel), List.mem_of_getElem? (i := 964) (by decide +kernel)⟩
theorem lw_p36 : lw_okq (⟨"BodySolidsModel", "coreGap", "(IZJJ)J"⟩, 27) := ⟨⟨by decide +kernel, by decide +kernel⟩, List.mem_of_getElem? (i := 732) (by decide +kernel), List.mem_of_getElem? (i := 970) (by decide +kernel), List.mem_of_getElem? (i := 971) (by decide +kernel)⟩
theorem lw_p37 : lw_okq (⟨"BodySolidsModel", "coreAndDisc", "(IJ)I"⟩, 27) := ⟨⟨by decide +kernel, by decide +kernel⟩, List.mem_of_getElem? (i := 732) (by decide +kernel), List.mem_of_getElem? (i := 980) (by decide +kernel), List.mem_of_getElem? (i := 981) (by decide +kernel)⟩
theorem lw_p38 : lw_okq (⟨"BodySolidsModel", "coreAndPolygon", "(IJ)I"⟩, 27) := ⟨⟨by decide +kernel, by decide +kernel⟩, List.mem_of_getElem? (i := 732) (by decide +kernel), List.mem_of_getElem? (i := 985) (by decide +kernel), List.mem_of_getElem? (i := 986) (by decide +kernel)⟩
theorem lw_p39 : lw_okq (⟨"BodySolidsModel", "fromPolygon", "(IJJJ)I"⟩, 27) := ⟨⟨by decide +kernel, by decide +kernel⟩, List.mem_of_getElem? (i := 732) (by decide +kernel), List.mem_of_getElem? (i := 989) (by decide +kernel), List.mem_of_getElem? (i := 990) (by decide +kernel)⟩
theorem lw_p40 : lw_okq (⟨"BodySolidsModel", "isIn", "(IJJ)Z"⟩, 27) := ⟨⟨by decide +kernel, by decide +kernel⟩, List.mem_of_getElem? (i := 732) (by decide +kernel), List.mem_of_getElem? (i := 993) (by decide +kernel), List.mem_of_getElem? (i := 994) (by decide +kernel)⟩
theorem lw_p41 : lw_okq (⟨"BodySolidsModel", "bases", "()I"⟩, 27) := ⟨⟨by decide +kernel, by decide +kernel⟩, List.mem_of_getElem? (i := 732) (by decide +kernel), List.mem_of_getElem? (i := 1004) (by decide +kernel), List.mem_of_getElem? (i := 1005) (by decide +kernel)⟩
theorem lw_p42 : lw_okq (⟨"BodySolidsModel", "polygons", "()I"⟩, 27) := ⟨⟨by decide +kernel, by decide +kernel⟩, List.mem_of_getElem? (i := 732) (by decide +kernel), List.mem_of_getElem? (i := 1008) (by decide +kernel), List.mem_of_getElem? (i := 1009) (by decide +kernel)⟩
theorem lw_p43 : lw_okq (⟨"BodySolidsModel", "along", "(JJ)I"⟩, 27) := ⟨⟨by decide +kernel, by decide +kernel⟩, List.mem_of_getElem? (i := 732) (by decide +kernel), List.mem_of_getElem? (i := 1012) (by decide +kernel), List.mem_of_getElem? (i := 1013) (by decide +kernel)⟩
theorem lw_p44 : lw_okq (⟨"BodySolidsModel", "doesBreak", "(I)Z"⟩, 27) := ⟨⟨by decide +kernel, by decide +kernel⟩, List.mem_of_getElem? (i := 732) (by decide +kernel), List.mem_of_getElem? (i := 1037) (by decide +kernel), List.mem_of_getElem? (i := 1038) (by decide +kernel)⟩
theorem lw_p45 : lw_okq (⟨"BodySolidsModel", "layOut", "(I)V"⟩, 27) := ⟨⟨by decide +kernel, by decide +kernel⟩, List.mem_of_getElem? (i := 732) (by decide +kernel), List.mem_of_getElem? (i := 1041) (by decide +kernel), List.mem_of_getElem? (i := 1042) (by decide +kernel)⟩
theorem lw_p46 : lw_okq (⟨"BodySolidsModel", "edge", "(I)J"⟩, 27) := ⟨⟨by decide +kernel, by decide +kernel⟩, List.mem_of_getElem? (i := 732) (by decide +kernel), List.mem_of_getElem? (i := 1051) (by decide +kernel), List.mem_of_getElem? (i := 1052) (by decide +kernel)⟩
theorem lw_p47 : lw_okq (⟨"BodySolidsModel", "volume", "(I)J"⟩, 27) := ⟨⟨by decide +kernel, by decide +kernel⟩, List.mem_of_getElem? (i := 732) (by decide +kernel), List.mem_of_getElem? (i := 1063) (by decide +kernel), List.mem_of_getElem? (i := 1064) (by decide +kernel)⟩
def lw_privs_3 : List (MethodName × Nat) := [(⟨"BodySolidsModel", "heights", "(IJJ)V"⟩, 27), (⟨"BodySolidsModel", "both", "()I"⟩, 27), (⟨"BodySolidsModel", "tubes", "()I"⟩, 27), (⟨"BodySolidsModel", "heightGap", "()J"⟩, 27), (⟨"BodySolidsModel", "coreGap", "(IZJJ)J"⟩, 27), (⟨"BodySolidsModel", "coreAndDisc", "(IJ)I"⟩, 27), (⟨"BodySolidsModel", "coreAndPolygon", "(IJ)I"⟩, 27), (⟨"BodySolidsModel", "fromPolygon", "(IJJJ)I"⟩, 27), (⟨"BodySolidsModel", "isIn", "(IJJ)Z"⟩, 27), (⟨"BodySolidsModel", "bases", "()I"⟩, 27), (⟨"BodySolidsModel", "polygons", "()I"⟩, 27), (⟨"BodySolidsModel", "along", "(JJ)I"⟩, 27), (⟨"BodySolidsModel", "doesBreak", "(I)Z"⟩, 27), (⟨"BodySolidsModel", "layOut", "(I)V"⟩, 27), (⟨"BodySolidsModel", "edge", "(I)J"⟩, 27), (⟨"BodySolidsModel", "volume", "(I)J"⟩, 27)]
theorem lw_r3 : ∀ q ∈ lw_privs_3, lw_okq q := List.forall_mem_cons.mpr ⟨lw_p32, List.forall_mem_cons.mpr ⟨lw_p33, List.forall_mem_cons.mpr ⟨lw_p34, List.forall_mem_cons.mpr ⟨lw_p35, List.forall_mem_cons.mpr ⟨lw_p36, List.forall_mem_cons.mpr ⟨lw_p37, List.forall_mem_cons.mpr ⟨lw_p38, List.forall_mem_cons.mpr ⟨lw_p39, List.forall_mem_cons.mpr ⟨lw_p40, List.forall_mem_cons.mpr ⟨lw_p41, List.forall_mem_cons.mpr ⟨lw_p42, List.forall_mem_cons.mpr ⟨lw_p43, List.forall_mem_cons.mpr ⟨lw_p44, List.forall_mem_cons.mpr ⟨lw_p45, List.forall_mem_cons.mpr ⟨lw_p46, List.forall_mem_cons.mpr ⟨lw_p47, fun _ h => absurd h List.not_mem_nil⟩⟩⟩⟩⟩⟩⟩⟩⟩⟩⟩⟩⟩⟩⟩⟩
def lw_privs : List (MethodName × Nat) := lw_privs_1 ++ (lw_privs_2 ++ (lw_privs_3))
def lw_tbl : List Cond := k2_sels lw_privs ++ tables_1
theorem lw_privs_ok : ∀ q ∈ lw_privs, lw_okq q := by
  show ∀ q ∈ lw_privs_1 ++ (lw_privs_2 ++ (lw_privs_3)), lw_okq q
  exact List.forall_mem_append.mpr ⟨lw_r1, List.forall_mem_append.mpr ⟨lw_r2, lw_r3⟩⟩

def R0 : String := "BodySolids"
def T0 : u_T := fun k => match k with
  | 0 => ("BodySolids", "thickness", "J", true)
  | 1 => ("BodySolids", "bodies", "Ljava/util/ArrayList;", true)
  | 2 => ("BodySolids", "placements", "Ljava/util/ArrayList;", true)
  | 3 => ("BodySolids", "keepOuts", "Ljava/util/ArrayList;", true)
  | 4 => ("BodySolids", "cornerX", "[J", true)
  | 5 => ("BodySolids", "cornerY", "[J", true)
  | 6 => ("BodySolids", "corners", "I", false)
  | 7 => ("BodySolids", "relations", "[I", true)
  | 8 => ("BodySolids", "first", "LBodySolids$Layout;", true)
  | _ => ("BodySolids", "second", "LBodySolids$Layout;", true)
def t_0 : Nat → FieldType := fun k => match k with
  | 0 => .long
  | 1 => .object "java/util/ArrayList"
  | 2 => .object "java/util/ArrayList"
  | 3 => .object "java/util/ArrayList"
  | 4 => .array .long
  | 5 => .array .long
  | 6 => .int
  | 7 => .array .int
  | 8 => .object "BodySolids$Layout"
  | _ => .object "BodySolids$Layout"
theorem n_0 : ∀ a, a < 10 → ∀ b, b < 10 → a ≠ b → (T0 a).2.1 ≠ (T0 b).2.1 := by decide +kernel
theorem t_0_ok : ∀ k, k < 10 → parseFieldDescriptor (T0 k).2.2.1 = some (t_0 k) := by decide +kernel
def R1 : String := "java/util/ArrayList"
def T1 : u_T := fun k => match k with
  | 0 => ("java/util/ArrayList", "elementData", "[Ljava/lang/Object;", false)
  | 1 => ("java/util/ArrayList", "size", "I", false)
  | _ => ("java/util/AbstractList", "modCount", "I", false)
def t_1 : Nat → FieldType := fun k => match k with
  | 0 => .array (.object "java/lang/Object")
  | 1 => .int
  | _ => .int
theorem n_1 : ∀ a, a < 3 → ∀ b, b < 3 → a ≠ b → (T1 a).2.1 ≠ (T1 b).2.1 := by decide +kernel
theorem t_1_ok : ∀ k, k < 3 → parseFieldDescriptor (T1 k).2.2.1 = some (t_1 k) := by decide +kernel
def R2 : String := "BodySolids$Layout"
def T2 : u_T := fun k => match k with
  | 0 => ("BodySolids$Layout", "solids", "[LBodySolids$Solid;", true)
  | _ => ("BodySolids$Layout", "count", "I", false)
def t_2 : Nat → FieldType := fun k => match k with
  | 0 => .array (.object "BodySolids$Solid")
  | _ => .int
theorem n_2 : ∀ a, a < 2 → ∀ b, b < 2 → a ≠ b → (T2 a).2.1 ≠ (T2 b).2.1 := by decide +kernel
theorem t_2_ok : ∀ k, k < 2 → parseFieldDescriptor (T2 k).2.2.1 = some (t_2 k) := by decide +kernel
def R3 : String := "BodySolids$Solid"
def T3 : u_T := fun k => match k with
  | 0 => ("BodySolids$Solid", "kind", "I", false)
  | 1 => ("BodySolids$Solid", "flat", "J", false)
  | 2 => ("BodySolids$Solid", "round", "J", false)
  | 3 => ("BodySolids$Solid", "xs", "[J", true)
  | 4 => ("BodySolids$Solid", "ys", "[J", true)
  | 5 => ("BodySolids$Solid", "corners", "I", false)
  | 6 => ("BodySolids$Solid", "x0", "J", false)
  | 7 => ("BodySolids$Solid", "y0", "J", false)
  | 8 => ("BodySolids$Solid", "z0", "J", false)
  | 9 => ("BodySolids$Solid", "x1", "J", false)
  | 10 => ("BodySolids$Solid", "y1", "J", false)
  | _ => ("BodySolids$Solid", "z1", "J", false)
def t_3 : Nat → FieldType := fun k => match k with
  | 0 => .int
  | 1 => .long
  | 2 => .long
  | 3 => .array .long
  | 4 => .array .long
  | 5 => .int
  | 6 => .long
  | 7 => .long
  | 8 => .long
  | 9 => .long
  | 10 => .long
  | _ => .long
theorem n_3 : ∀ a, a < 12 → ∀ b, b < 12 → a ≠ b → (T3 a).2.1 ≠ (T3 b).2.1 := by decide +kernel
theorem t_3_ok : ∀ k, k < 12 → parseFieldDescriptor (T3 k).2.2.1 = some (t_3 k) := by decide +kernel
def R4 : String := "BodySolids$Body"
def T4 : u_T := fun k => match k with
  | 0 => ("BodySolids$Body", "solids", "Ljava/util/ArrayList;", true)
  | _ => ("BodySolids$Body", "weight", "J", false)
def t_4 : Nat → FieldType := fun k => match k with
  | 0 => .object "java/util/ArrayList"
  | _ => .long
theorem n_4 : ∀ a, a < 2 → ∀ b, b < 2 → a ≠ b → (T4 a).2.1 ≠ (T4 b).2.1 := by decide +kernel
theorem t_4_ok : ∀ k, k < 2 → parseFieldDescriptor (T4 k).2.2.1 = some (t_4 k) := by decide +kernel
def R5 : String := "BodySolids$Placement"
def T5 : u_T := fun k => match k with
  | 0 => ("BodySolids$Placement", "body", "LBodySolids$Body;", true)
  | 1 => ("BodySolids$Placement", "x", "J", false)
  | 2 => ("BodySolids$Placement", "y", "J", false)
  | 3 => ("BodySolids$Placement", "turn", "I", false)
  | _ => ("BodySolids$Placement", "side", "I", false)
def t_5 : Nat → FieldType := fun k => match k with
  | 0 => .object "BodySolids$Body"
  | 1 => .long
  | 2 => .long
  | 3 => .int
  | _ => .int
theorem n_5 : ∀ a, a < 5 → ∀ b, b < 5 → a ≠ b → (T5 a).2.1 ≠ (T5 b).2.1 := by decide +kernel
theorem t_5_ok : ∀ k, k < 5 → parseFieldDescriptor (T5 k).2.2.1 = some (t_5 k) := by decide +kernel
def R6 : String := "BodySolids$KeepOut"
def T6 : u_T := fun k => match k with
  | 0 => ("BodySolids$KeepOut", "space", "LBodySolids$Solid;", true)
  | _ => ("BodySolids$KeepOut", "side", "I", true)
def t_6 : Nat → FieldType := fun k => match k with
  | 0 => .object "BodySolids$Solid"
  | _ => .int
theorem n_6 : ∀ a, a < 2 → ∀ b, b < 2 → a ≠ b → (T6 a).2.1 ≠ (T6 b).2.1 := by decide +kernel
theorem t_6_ok : ∀ k, k < 2 → parseFieldDescriptor (T6 k).2.2.1 = some (t_6 k) := by decide +kernel
def R7 : String := "BodySolidsModel"
def T7 : u_T := fun k => match k with
  | 0 => ("BodySolidsModel", "thrown", "I", false)
  | 1 => ("BodySolidsModel", "thickness", "J", true)
  | 2 => ("BodySolidsModel", "bodies", "I", false)
  | 3 => ("BodySolidsModel", "counts", "[I", true)
  | 4 => ("BodySolidsModel", "kinds", "[I", true)
  | 5 => ("BodySolidsModel", "numbers", "[J", true)
  | 6 => ("BodySolidsModel", "cornerCounts", "[I", true)
  | 7 => ("BodySolidsModel", "cornerX", "[J", true)
  | 8 => ("BodySolidsModel", "cornerY", "[J", true)
  | 9 => ("BodySolidsModel", "told", "I", false)
  | 10 => ("BodySolidsModel", "toldX", "[J", true)
  | 11 => ("BodySolidsModel", "toldY", "[J", true)
  | 12 => ("BodySolidsModel", "places", "I", false)
  | 13 => ("BodySolidsModel", "placed", "[I", true)
  | 14 => ("BodySolidsModel", "placeX", "[J", true)
  | 15 => ("BodySolidsModel", "placeY", "[J", true)
  | 16 => ("BodySolidsModel", "turns", "[I", true)
  | 17 => ("BodySolidsModel", "sides", "[I", true)
  | 18 => ("BodySolidsModel", "outs", "I", false)
  | 19 => ("BodySolidsModel", "out", "[J", true)
  | 20 => ("BodySolidsModel", "kindAt", "[I", true)
  | 21 => ("BodySolidsModel", "many", "[I", true)
  | 22 => ("BodySolidsModel", "px", "[J", true)
  | 23 => ("BodySolidsModel", "py", "[J", true)
  | 24 => ("BodySolidsModel", "radius", "[J", true)
  | 25 => ("BodySolidsModel", "low", "[J", true)
  | _ => ("BodySolidsModel", "high", "[J", true)
def t_7 : Nat → FieldType := fun k => match k with
  | 0 => .int
  | 1 => .long
  | 2 => .int
  | 3 => .array .int
  | 4 => .array .int
  | 5 => .array .long
  | 6 => .array .int
  | 7 => .array .long
  | 8 => .array .long
  | 9 => .int
  | 10 => .array .long
  | 11 => .array .long
  | 12 => .int
  | 13 => .array .int
  | 14 => .array .long
  | 15 => .array .long
  | 16 => .array .int
  | 17 => .array .int
  | 18 => .int
  | 19 => .array .long
  | 20 => .array .int
  | 21 => .array .int
  | 22 => .array .long
  | 23 => .array .long
  | 24 => .array .long
  | 25 => .array .long
  | _ => .array .long
theorem n_7 : ∀ a, a < 27 → ∀ b, b < 27 → a ≠ b → (T7 a).2.1 ≠ (T7 b).2.1 := by decide +kernel
theorem t_7_ok : ∀ k, k < 27 → parseFieldDescriptor (T7 k).2.2.1 = some (t_7 k) := by decide +kernel
abbrev gCl : List vw_C := [(R0, T0, 10), (R1, T1, 3), (R2, T2, 2), (R3, T3, 12), (R4, T4, 2), (R5, T5, 5), (R6, T6, 2), (R7, T7, 27)]
abbrev gTy : List FieldType := [.int, .long, .object "BodySolids$Solid", .object "java/lang/Object"]
def gNest : Cond → Bool
  | .fieldLinkNest _ _ _ _ _ _ => true
  | .methodLinkNest _ _ _ _ => true
  | .castable _ _ => true
  | w => goodWord w
def gAll : List Cond := lw_tbl.filter gNest
theorem gm {w : Cond} (i : Nat) (h : lw_tbl[i]? = some w) (hg : gNest w = true) : w ∈ gAll := List.mem_filter.mpr ⟨List.mem_of_getElem? h, hg⟩
theorem gm_all {ws : List Cond} (h : ∀ w ∈ ws, w ∈ lw_tbl ∧ gNest w = true) : ∀ w ∈ ws, w ∈ gAll := fun w hw => List.mem_filter.mpr (h w hw)
theorem i_0 : ∀ w ∈ u_ws R0 T0 10, w ∈ gAll := gm_all (by decide +kernel)
theorem i_1 : ∀ w ∈ u_ws R1 T1 3, w ∈ gAll := gm_all (by decide +kernel)
theorem i_2 : ∀ w ∈ u_ws R2 T2 2, w ∈ gAll := gm_all (by decide +kernel)
theorem i_3 : ∀ w ∈ u_ws R3 T3 12, w ∈ gAll := gm_all (by decide +kernel)
theorem i_4 : ∀ w ∈ u_ws R4 T4 2, w ∈ gAll := gm_all (by decide +kernel)
theorem i_5 : ∀ w ∈ u_ws R5 T5 5, w ∈ gAll := gm_all (by decide +kernel)
theorem i_6 : ∀ w ∈ u_ws R6 T6 2, w ∈ gAll := gm_all (by decide +kernel)
theorem i_7 : ∀ w ∈ u_ws R7 T7 27, w ∈ gAll := gm_all (by decide +kernel)
end
section
/-! ===== THE TYPED WORLD: a map from addresses to entries, and the heap's size ===== -/
abbrev gE : Type := (Nat × Nat × (Nat → Value)) ⊕ (Nat × List Value)
abbrev gW : Type := (Nat → Option gE) × Nat
abbrev gD : Type := (Nat → ClassId) × (Nat → Nat → Nat) × (Nat → ClassId)
abbrev gX (α : Type) : Type := Option ((String ⊕ α) × gW)
def gAt (D : gD) (a : Nat) (e : gE) (H : Heap) : Prop := match e with
  | .inl x => H[a]? = some (arrV (D.2.2 x.1) x.2.1 x.2.2)
  | .inr o => ∃ r : vw_C, gCl[o.1]? = some r ∧ t_OB a (D.1 o.1) r.2.2 (D.2.1 o.1) H (vp_V o.2)
theorem gAt.kept {D : gD} {a : Nat} {e : gE} {H H1 : Heap} (h : gAt D a e H) (hq : H1[a]? = H[a]?) : gAt D a e H1 := by
  cases e with
  | inl x => exact hq.trans h
  | inr o =>
    obtain ⟨r, h1, h2⟩ := h
    exact ⟨r, h1, h2.kept hq⟩
theorem gAt.lt {D : gD} {a : Nat} {e : gE} {H : Heap} (h : gAt D a e H) : a < H.size := by
  cases e with
  | inl x => exact (Array.getElem?_eq_some_iff.mp h).1
  | inr o =>
    obtain ⟨r, h1, cell, h2, -⟩ := h
    exact (Array.getElem?_eq_some_iff.mp h2).1
/-- kinds and array kinds as the tables have them -/
def gK (D : gD) (U : State) : Prop := (∀ (c : Nat) (q : vw_C), gCl[c]? = some q → u_Kn U q.1 q.2.1 q.2.2 (D.1 c) (D.2.1 c)) ∧ ∀ (k : Nat) (ty : FieldType), gTy[k]? = some ty → ArrOfT U (D.2.2 k) ty ∧ va_RA U (D.2.2 k) ty
theorem gK.moved {D : gD} {u U : State} (hvm : u.vm.Alike U.vm) (h : gK D u) : gK D U := ⟨fun c q hq => u_Kn_moved hvm (h.1 c q hq), fun k ty hk => ⟨arrOfT_moved hvm (h.2 k ty hk).1, (h.2 k ty hk).2.moved hvm⟩⟩
theorem gK.va {D : gD} {U : State} (h : gK D U) : va_K (D.1, D.2.1) gCl [] U := ⟨h.1, fun k q hq => by simp at hq⟩
/-- every word of the one list -/
def gT (U : State) : Prop := ∀ w ∈ gAll, ∀ a : Array Value, w.before a U = true
theorem gNest_warm {w : Cond} (h : gNest w = true) {s U : State} (hW : s.WarmedH U.vm) (hb : ∀ a : Array Value, w.before a s = true) (a' : Array Value) : w.before a' U = true := by
  cases w
  case fieldLinkNest => exact va_Nw.use rfl (va_Nw.warmF hW (hb #[]))
  case methodLinkNest => exact va_Nw.use rfl (va_Nw.warmM hW (hb #[]))
  case castable => exact va_Nw.use rfl (va_Nw.warmC hW (hb #[]))
  all_goals exact word_at hW (good_of_word h) (hb #[])
theorem gT.warm {s U : State} (hW : s.WarmedH U.vm) (h : gT s) : gT U := fun w hw a => gNest_warm (List.mem_filter.mp hw).2 hW (h w hw) a
/-- an empty row is never written -/
def gRW : gE → Prop
  | .inl x => x.2.1 ≠ 0
  | .inr _ => True
/-- between a world and the machine's heap, inside a method: s its start, A what it may change -/
def gI (D : gD) (s : State) (A : Nat → Prop) (w : gW) (H : Heap) (locs : List Loc) : Prop :=
  H.size = w.2 ∧ (∀ (a : Nat) (e : gE), w.1 a = some e → gAt D a e H) ∧ va_S A s.heap H locs ∧ ∀ (a : Nat) (e : gE), w.1 a = some e → gRW e → A a
def gup (w : gW) (a : Nat) (e : gE) : gW := (fun q => if q = a then some e else w.1 q, w.2)
def gpush (w : gW) (e : gE) : gW := (fun q => if q = w.2 then some e else w.1 q, w.2 + 1)
theorem gI.put {D : gD} {s : State} {A : Nat → Prop} {w : gW} {H H1 : Heap} {locs : List Loc} {a k : Nat} {e0 e : gE} (hI : gI D s A w H locs) (hw : w.1 a = some e0) (hrw : gRW e0) (z : H1.size = H.size) (oq : ∀ q : Nat, q ≠ a → H1[q]? = H[q]?) (he : gAt D a e H1) : gI D s A (gup w a e) H1 (locs ++ [⟨a, k⟩]) := by
  obtain ⟨h1, h2, h3, h4⟩ := hI
  refine ⟨z.trans h1, fun b x hb => ?_, h3.put z oq (h4 a e0 hw hrw), fun b x hb hx => ?_⟩
  · by_cases q : b = a
    · subst q
      simp only [gup, if_true] at hb
      cases hb
      exact he
    · simp only [gup, if_neg q] at hb
      exact (h2 b x hb).kept (oq b q)
  · by_cases q : b = a
    · subst q
      exact h4 b e0 hw hrw
    · simp only [gup, if_neg q] at hb
      exact h4 b x hb hx
theorem gI.push {D : gD} {s : State} {A : Nat → Prop} {w : gW} {H H1 : Heap} {locs : List Loc} {e : gE} (hI : gI D s A w H locs) (hA : ∀ q : Nat, s.heap.size ≤ q → A q) (z : H1.size = H.size + 1) (oq : ∀ q : Nat, q < H.size → H1[q]? = H[q]?) (he : gAt D H.size e H1) : gI D s A (gpush w e) H1 locs := by
  obtain ⟨h1, h2, h3, h4⟩ := hI
  refine ⟨by rw [z, h1]; rfl, fun b x hb => ?_, ⟨Nat.le_trans h3.1 (by omega), fun q g1 g2 => (oq q (Nat.lt_of_lt_of_le g1 h3.1)).trans (h3.2.1 q g1 g2), h3.2.2⟩, fun b x hb hx => ?_⟩
  · by_cases q : b = w.2
    · subst q
      simp only [gpush, if_true] at hb
      cases hb
      rw [← h1]
      exact he
    · simp only [gpush, if_neg q] at hb
      have hl := (h2 b x hb).lt
      exact (h2 b x hb).kept (oq b hl)
  · by_cases q : b = w.2
    · subst q
      exact hA _ (by rw [← h1]; exact h3.1)
    · simp only [gpush, if_neg q] at hb
      exact h4 b x hb hx
theorem gI.one {D : gD} {s : State} {A : Nat → Prop} {w : gW} {H : Heap} {locs : List Loc} {a ci : Nat} {fs : List Value} (hI : gI D s A w H locs) (h : w.1 a = some (.inr (ci, fs))) : va_P (D.1, D.2.1) gCl [(a, .inr (ci, fs))] H := by
  intro k q hk
  match k, hk with
  | 0, hk =>
    cases hk
    exact hI.2.1 a _ h
  | k + 1, hk => simp at hk
/-! ===== reads and writes ===== -/
def gf (w : gW) (a c k : Nat) : Option Value := match w.1 a with
  | some (.inr o) => if o.1 = c then o.2[k]? else none
  | _ => none
def gvI : Option Value → Option Int32
  | some (.int x) => some x
  | _ => none
def gvJ : Option Value → Option Int64
  | some (.long x) => some x
  | _ => none
def gvA : Option Value → Option Nat
  | some (.ref x) => some x
  | _ => none
theorem gvI_some {o : Option Value} {x : Int32} (h : gvI o = some x) : o = some (.int x) := by
  unfold gvI at h
  split at h
  · cases h; rfl
  · cases h
theorem gvJ_some {o : Option Value} {x : Int64} (h : gvJ o = some x) : o = some (.long x) := by
  unfold gvJ at h
  split at h
  · cases h; rfl
  · cases h
theorem gvA_some {o : Option Value} {x : Nat} (h : gvA o = some x) : o = some (.ref x) := by
  unfold gvA at h
  split at h
  · cases h; rfl
  · cases h
def gfI (w : gW) (a c k : Nat) : Option Int32 := gvI (gf w a c k)
def gfJ (w : gW) (a c k : Nat) : Option Int64 := gvJ (gf w a c k)
def gfA (w : gW) (a c k : Nat) : Option Nat := gvA (gf w a c k)
theorem gf_some {w : gW} {a c k : Nat} {v : Value} (h : gf w a c k = some v) : ∃ fs : List Value, w.1 a = some (.inr (c, fs)) ∧ fs[k]? = some v := by
  unfold gf at h
  split at h
  · rename_i o ho
    split at h
    · rename_i hc
      subst hc
      exact ⟨o.2, ho, h⟩
    · cases h
  · cases h
def gp (w : gW) (a c k : Nat) (v : Value) : Option gW := match w.1 a with
  | some (.inr o) => if o.1 = c ∧ k < o.2.length then some (gup w a (.inr (c, o.2.set k v))) else none
  | _ => none
theorem gp_some {w w' : gW} {a c k : Nat} {v : Value} (h : gp w a c k v = some w') : ∃ fs : List Value, w.1 a = some (.inr (c, fs)) ∧ k < fs.length ∧ w' = gup w a (.inr (c, fs.set k v)) := by
  unfold gp at h
  split at h
  · rename_i o ho
    split at h
    · rename_i hc
      obtain ⟨hc, hk⟩ := hc
      subst hc
      cases h
      exact ⟨o.2, ho, hk, rfl⟩
    · cases h
  · cases h
/-- the object is of kind c -/
def gck (w : gW) (a c : Nat) : Option Unit := match w.1 a with
  | some (.inr o) => if o.1 = c then some () else none
  | _ => none
theorem gck_some {w : gW} {a c : Nat} {u : Unit} (h : gck w a c = some u) : ∃ fs : List Value, w.1 a = some (.inr (c, fs)) := by
  unfold gck at h
  split at h
  · rename_i o ho
    split at h
    · rename_i hc
      subst hc
      exact ⟨o.2, ho⟩
    · cases h
  · cases h
def gnw (w : gW) (c : Nat) (fs : List Value) : Option (Nat × gW) := some (w.2, gpush w (.inr (c, fs)))
def gna (w : gW) (k : Nat) (n : Int32) (M : Nat) (v : Value) : Option (Nat × gW) := if n < 0 ∨ M < n.toNatClampNeg then none else some (w.2, gpush w (.inl (k, n.toNatClampNeg, fun _ => v)))
theorem gna_some {w w' : gW} {k M a : Nat} {n : Int32} {v : Value} (h : gna w k n M v = some (a, w')) : ¬ n < 0 ∧ n.toNatClampNeg ≤ M ∧ a = w.2 ∧ w' = gpush w (.inl (k, n.toNatClampNeg, fun _ => v)) := by
  unfold gna at h
  split at h
  · cases h
  · rename_i hc
    cases h
    exact ⟨fun q => hc (Or.inl q), Nat.not_lt.mp (fun q => hc (Or.inr q)), rfl, rfl⟩
/-- an array's place: its kind must be k -/
def gar (w : gW) (a k : Nat) (i : Int32) : Option Value := match w.1 a with
  | some (.inl x) => if x.1 = k ∧ ¬ i < 0 ∧ i.toNatClampNeg < x.2.1 then some (x.2.2 i.toNatClampNeg) else none
  | _ => none
theorem gar_some {w : gW} {a k : Nat} {i : Int32} {v : Value} (h : gar w a k i = some v) : ∃ (n : Nat) (f : Nat → Value), w.1 a = some (.inl (k, n, f)) ∧ ¬ (i < 0 ∨ n ≤ i.toNatClampNeg) ∧ f i.toNatClampNeg = v := by
  unfold gar at h
  split at h
  · rename_i x hx
    split at h
    · rename_i hc
      obtain ⟨h1, h2, h3⟩ := hc
      subst h1
      cases h
      exact ⟨x.2.1, x.2.2, hx, fun q => q.elim h2 (fun z => by omega), rfl⟩
    · cases h
  · cases h
def gas (w : gW) (a k : Nat) (i : Int32) (v : Value) : Option gW := match w.1 a with
  | some (.inl x) => if x.1 = k ∧ ¬ i < 0 ∧ i.toNatClampNeg < x.2.1 then some (gup w a (.inl (k, x.2.1, updV x.2.2 i.toNatClampNeg v))) else none
  | _ => none
theorem gas_some {w w' : gW} {a k : Nat} {i : Int32} {v : Value} (h : gas w a k i v = some w') : ∃ (n : Nat) (f : Nat → Value), w.1 a = some (.inl (k, n, f)) ∧ ¬ (i < 0 ∨ n ≤ i.toNatClampNeg) ∧ w' = gup w a (.inl (k, n, updV f i.toNatClampNeg v)) := by
  unfold gas at h
  split at h
  · rename_i x hx
    split at h
    · rename_i hc
      obtain ⟨h1, h2, h3⟩ := hc
      subst h1
      cases h
      exact ⟨x.2.1, x.2.2, hx, fun q => q.elim h2 (fun z => by omega), rfl⟩
    · cases h
  · cases h
def gal (w : gW) (a : Nat) : Option Int32 := match w.1 a with
  | some (.inl x) => if x.1 < gTy.length then some (nI x.2.1) else none
  | _ => none
theorem gal_some {w : gW} {a : Nat} {x : Int32} (h : gal w a = some x) : ∃ (k n : Nat) (f : Nat → Value) (ty : FieldType), w.1 a = some (.inl (k, n, f)) ∧ gTy[k]? = some ty ∧ x = nI n := by
  unfold gal at h
  split at h
  · rename_i y hy
    split at h
    · rename_i hk
      cases h
      exact ⟨y.1, y.2.1, y.2.2, _, hy, List.getElem?_eq_getElem hk, rfl⟩
    · cases h
  · cases h
def gaI (w : gW) (a : Nat) (i : Int32) : Option Int32 := gvI (gar w a 0 i)
def gaJ (w : gW) (a : Nat) (i : Int32) : Option Int64 := gvJ (gar w a 1 i)
/-- a row of references: its number -/
def gob (w : gW) (a : Nat) : Option Nat := match w.1 a with
  | some (.inl x) => match gTy[x.1]? with
    | some (.object _) => some x.1
    | _ => none
  | _ => none
def gaA (w : gW) (a : Nat) (i : Int32) : Option Nat := (gob w a).bind fun k => gvA (gar w a k i)
theorem gob_some {w : gW} {a k : Nat} (h : gob w a = some k) : ∃ C : String, gTy[k]? = some (.object C) := by
  unfold gob at h
  split at h
  · split at h
    · rename_i C hC
      cases h
      exact ⟨C, hC⟩
    · cases h
  · cases h
theorem gaA_some {w : gW} {a x : Nat} {i : Int32} (h : gaA w a i = some x) : ∃ (k : Nat) (C : String), gTy[k]? = some (.object C) ∧ gar w a k i = some (.ref x) := by
  obtain ⟨k, h1, h2⟩ := Option.bind_eq_some_iff.mp h
  obtain ⟨C, hC⟩ := gob_some h1
  exact ⟨k, C, hC, gvA_some h2⟩
def gsI (w : gW) (a : Nat) (i x : Int32) : Option gW := gas w a 0 i (.int x)
def gsJ (w : gW) (a : Nat) (i : Int32) (x : Int64) : Option gW := gas w a 1 i (.long x)
/-! ===== the pure functions' glue ===== -/
def gbind {α β : Type} (x : gX α) (k : α → gW → gX β) : gX β := match x with
  | none => none
  | some (.inl E, w) => some (.inl E, w)
  | some (.inr v, w) => k v w
def gjoin {γ δ : Type} (F : γ → δ) (J : γ) : δ := F J
def gguard {α : Type} (c : Prop) [Decidable c] (x : Option α) : Option α := if c then x else none
def gthrow {α : Type} (E : String) (w : gW) : gX α := some (.inl E, (w.1, w.2 + 1))
theorem gb {α β : Type} {o : Option α} {f : α → Option β} {r : β} (h : o.bind f = some r) : ∃ v, o = some v ∧ f v = some r := Option.bind_eq_some_iff.mp h
theorem gj {γ β : Type} {F : γ → Option β} {J : γ} {r : β} (h : gjoin F J = some r) : ∃ K, K = J ∧ F K = some r := ⟨J, rfl, h⟩
theorem gif {β : Type} {c : Prop} [Decidable c] {x : Option β} {r : β} (h : gguard c x = some r) : c ∧ x = some r := by
  unfold gguard at h
  split at h
  · rename_i hc
    exact ⟨hc, h⟩
  · cases h
theorem git {β : Type} {c : Prop} [Decidable c] {x y : β} {r : β} (hc : c) (h : (if c then x else y) = r) : x = r := by rw [if_pos hc] at h; exact h
theorem gie {β : Type} {c : Prop} [Decidable c] {x y : β} {r : β} (hc : ¬ c) (h : (if c then x else y) = r) : y = r := by rw [if_neg hc] at h; exact h
theorem gsome {α β : Type} {x : gX α} {k : α → gW → gX β} {r : (String ⊕ β) × gW} (h : gbind x k = some r) : ∃ o, x = some o := by
  cases x with
  | none => cases h
  | some o => exact ⟨o, rfl⟩
theorem gk1 {α0 β : Type} {K J : α0 → β} (e : K = J) {x0 : α0} {r : β} (h : K x0 = r) : J x0 = r := e ▸ h
theorem gk2 {α0 α1 β : Type} {K J : α0 → α1 → β} (e : K = J) {x0 : α0} {x1 : α1} {r : β} (h : K x0 x1 = r) : J x0 x1 = r := e ▸ h
theorem gk3 {α0 α1 α2 β : Type} {K J : α0 → α1 → α2 → β} (e : K = J) {x0 : α0} {x1 : α1} {x2 : α2} {r : β} (h : K x0 x1 x2 = r) : J x0 x1 x2 = r := e ▸ h
theorem gk4 {α0 α1 α2 α3 β : Type} {K J : α0 → α1 → α2 → α3 → β} (e : K = J) {x0 : α0} {x1 : α1} {x2 : α2} {x3 : α3} {r : β} (h : K x0 x1 x2 x3 = r) : J x0 x1 x2 x3 = r := e ▸ h
theorem gk5 {α0 α1 α2 α3 α4 β : Type} {K J : α0 → α1 → α2 → α3 → α4 → β} (e : K = J) {x0 : α0} {x1 : α1} {x2 : α2} {x3 : α3} {x4 : α4} {r : β} (h : K x0 x1 x2 x3 x4 = r) : J x0 x1 x2 x3 x4 = r := e ▸ h
theorem gk6 {α0 α1 α2 α3 α4 α5 β : Type} {K J : α0 → α1 → α2 → α3 → α4 → α5 → β} (e : K = J) {x0 : α0} {x1 : α1} {x2 : α2} {x3 : α3} {x4 : α4} {x5 : α5} {r : β} (h : K x0 x1 x2 x3 x4 x5 = r) : J x0 x1 x2 x3 x4 x5 = r := e ▸ h
theorem gk7 {α0 α1 α2 α3 α4 α5 α6 β : Type} {K J : α0 → α1 → α2 → α3 → α4 → α5 → α6 → β} (e : K = J) {x0 : α0} {x1 : α1} {x2 : α2} {x3 : α3} {x4 : α4} {x5 : α5} {x6 : α6} {r : β} (h : K x0 x1 x2 x3 x4 x5 x6 = r) : J x0 x1 x2 x3 x4 x5 x6 = r := e ▸ h
theorem gk8 {α0 α1 α2 α3 α4 α5 α6 α7 β : Type} {K J : α0 → α1 → α2 → α3 → α4 → α5 → α6 → α7 → β} (e : K = J) {x0 : α0} {x1 : α1} {x2 : α2} {x3 : α3} {x4 : α4} {x5 : α5} {x6 : α6} {x7 : α7} {r : β} (h : K x0 x1 x2 x3 x4 x5 x6 x7 = r) : J x0 x1 x2 x3 x4 x5 x6 x7 = r := e ▸ h
theorem gk9 {α0 α1 α2 α3 α4 α5 α6 α7 α8 β : Type} {K J : α0 → α1 → α2 → α3 → α4 → α5 → α6 → α7 → α8 → β} (e : K = J) {x0 : α0} {x1 : α1} {x2 : α2} {x3 : α3} {x4 : α4} {x5 : α5} {x6 : α6} {x7 : α7} {x8 : α8} {r : β} (h : K x0 x1 x2 x3 x4 x5 x6 x7 x8 = r) : J x0 x1 x2 x3 x4 x5 x6 x7 x8 = r := e ▸ h
theorem gk10 {α0 α1 α2 α3 α4 α5 α6 α7 α8 α9 β : Type} {K J : α0 → α1 → α2 → α3 → α4 → α5 → α6 → α7 → α8 → α9 → β} (e : K = J) {x0 : α0} {x1 : α1} {x2 : α2} {x3 : α3} {x4 : α4} {x5 : α5} {x6 : α6} {x7 : α7} {x8 : α8} {x9 : α9} {r : β} (h : K x0 x1 x2 x3 x4 x5 x6 x7 x8 x9 = r) : J x0 x1 x2 x3 x4 x5 x6 x7 x8 x9 = r := e ▸ h
theorem gk11 {α0 α1 α2 α3 α4 α5 α6 α7 α8 α9 α10 β : Type} {K J : α0 → α1 → α2 → α3 → α4 → α5 → α6 → α7 → α8 → α9 → α10 → β} (e : K = J) {x0 : α0} {x1 : α1} {x2 : α2} {x3 : α3} {x4 : α4} {x5 : α5} {x6 : α6} {x7 : α7} {x8 : α8} {x9 : α9} {x10 : α10} {r : β} (h : K x0 x1 x2 x3 x4 x5 x6 x7 x8 x9 x10 = r) : J x0 x1 x2 x3 x4 x5 x6 x7 x8 x9 x10 = r := e ▸ h
theorem gk12 {α0 α1 α2 α3 α4 α5 α6 α7 α8 α9 α10 α11 β : Type} {K J : α0 → α1 → α2 → α3 → α4 → α5 → α6 → α7 → α8 → α9 → α10 → α11 → β} (e : K = J) {x0 : α0} {x1 : α1} {x2 : α2} {x3 : α3} {x4 : α4} {x5 : α5} {x6 : α6} {x7 : α7} {x8 : α8} {x9 : α9} {x10 : α10} {x11 : α11} {r : β} (h : K x0 x1 x2 x3 x4 x5 x6 x7 x8 x9 x10 x11 = r) : J x0 x1 x2 x3 x4 x5 x6 x7 x8 x9 x10 x11 = r := e ▸ h
theorem gk13 {α0 α1 α2 α3 α4 α5 α6 α7 α8 α9 α10 α11 α12 β : Type} {K J : α0 → α1 → α2 → α3 → α4 → α5 → α6 → α7 → α8 → α9 → α10 → α11 → α12 → β} (e : K = J) {x0 : α0} {x1 : α1} {x2 : α2} {x3 : α3} {x4 : α4} {x5 : α5} {x6 : α6} {x7 : α7} {x8 : α8} {x9 : α9} {x10 : α10} {x11 : α11} {x12 : α12} {r : β} (h : K x0 x1 x2 x3 x4 x5 x6 x7 x8 x9 x10 x11 x12 = r) : J x0 x1 x2 x3 x4 x5 x6 x7 x8 x9 x10 x11 x12 = r := e ▸ h
theorem gk14 {α0 α1 α2 α3 α4 α5 α6 α7 α8 α9 α10 α11 α12 α13 β : Type} {K J : α0 → α1 → α2 → α3 → α4 → α5 → α6 → α7 → α8 → α9 → α10 → α11 → α12 → α13 → β} (e : K = J) {x0 : α0} {x1 : α1} {x2 : α2} {x3 : α3} {x4 : α4} {x5 : α5} {x6 : α6} {x7 : α7} {x8 : α8} {x9 : α9} {x10 : α10} {x11 : α11} {x12 : α12} {x13 : α13} {r : β} (h : K x0 x1 x2 x3 x4 x5 x6 x7 x8 x9 x10 x11 x12 x13 = r) : J x0 x1 x2 x3 x4 x5 x6 x7 x8 x9 x10 x11 x12 x13 = r := e ▸ h
theorem gk15 {α0 α1 α2 α3 α4 α5 α6 α7 α8 α9 α10 α11 α12 α13 α14 β : Type} {K J : α0 → α1 → α2 → α3 → α4 → α5 → α6 → α7 → α8 → α9 → α10 → α11 → α12 → α13 → α14 → β} (e : K = J) {x0 : α0} {x1 : α1} {x2 : α2} {x3 : α3} {x4 : α4} {x5 : α5} {x6 : α6} {x7 : α7} {x8 : α8} {x9 : α9} {x10 : α10} {x11 : α11} {x12 : α12} {x13 : α13} {x14 : α14} {r : β} (h : K x0 x1 x2 x3 x4 x5 x6 x7 x8 x9 x10 x11 x12 x13 x14 = r) : J x0 x1 x2 x3 x4 x5 x6 x7 x8 x9 x10 x11 x12 x13 x14 = r := e ▸ h
theorem gk16 {α0 α1 α2 α3 α4 α5 α6 α7 α8 α9 α10 α11 α12 α13 α14 α15 β : Type} {K J : α0 → α1 → α2 → α3 → α4 → α5 → α6 → α7 → α8 → α9 → α10 → α11 → α12 → α13 → α14 → α15 → β} (e : K = J) {x0 : α0} {x1 : α1} {x2 : α2} {x3 : α3} {x4 : α4} {x5 : α5} {x6 : α6} {x7 : α7} {x8 : α8} {x9 : α9} {x10 : α10} {x11 : α11} {x12 : α12} {x13 : α13} {x14 : α14} {x15 : α15} {r : β} (h : K x0 x1 x2 x3 x4 x5 x6 x7 x8 x9 x10 x11 x12 x13 x14 x15 = r) : J x0 x1 x2 x3 x4 x5 x6 x7 x8 x9 x10 x11 x12 x13 x14 x15 = r := e ▸ h
/-! ===== rows over the world ===== -/
section GR
variable {p : Program} {l : Launch} {e : Env} {R : Room} {s : State} {m : MethodId} {args : Array Value} {below : List Frame} {meth : Method} {c : Code} {H : Heap} {locs : List Loc} {cells slots : Nat} {Q : State → Prop}
variable {cc : ByteArray} {pc : Nat} {ls : Array Slot} {rest : List Value} {D : gD} {A : Nat → Prop} {a : Nat} {w : gW}
theorem gw_get0 (hx : p.tables.exec = Jvm.exec) (hb : c.code = cc) (hT : gT s) {own : String} (hown : s.vm.findClass own = some m.cls) (hK : gK D s) (hI : gI D s A w H locs) {ci : Nat} {C ref : String} {T : u_T} {N index : Nat} (hc : gCl[ci]? = some (C, T, N)) (hin : ∀ z ∈ u_ws C T N, z ∈ gAll) (k : Nat) (hk : k < N) (hlink : Cond.fieldLink own index ref (T k).2.1 (T k).2.2.1 ∈ gAll) (hsame : ∀ x, s.fieldFound? (T k).1 (T k).2.1 (T k).2.2.1 = some x → s.fieldFound? ref (T k).2.1 (T k).2.2.1 = some x) {v : Value} (hv : gf w a ci k = some v) (hdg : decode cc pc = .ok (.getfield index, 3))
    (kk : W p l e R s m args below meth c H locs cells slots Q (F0 m (pc + 3) ls (v :: rest))) : W p l e R s m args below meth c H locs cells slots Q (F0 m pc ls (.ref a :: rest)) := by
  obtain ⟨fs, h1, h2⟩ := gf_some hv
  exact va_get (D := (D.1, D.2.1)) (cl := gCl) (ws := [(a, .inr (ci, fs))]) (tys := []) hx hb (Ts := gAll) (fun z h => hT z h args) hin hown hK.va (hI.one h1) 0 rfl hc k hk (hT _ hlink args) hsame h2 hdg kk
theorem gw_getI (hx : p.tables.exec = Jvm.exec) (hb : c.code = cc) (hT : gT s) {own : String} (hown : s.vm.findClass own = some m.cls) (hK : gK D s) (hI : gI D s A w H locs) {ci : Nat} {C ref : String} {T : u_T} {N index : Nat} (hc : gCl[ci]? = some (C, T, N)) (hin : ∀ z ∈ u_ws C T N, z ∈ gAll) (k : Nat) (hk : k < N) (hlink : Cond.fieldLink own index ref (T k).2.1 (T k).2.2.1 ∈ gAll) (hsame : ∀ x, s.fieldFound? (T k).1 (T k).2.1 (T k).2.2.1 = some x → s.fieldFound? ref (T k).2.1 (T k).2.2.1 = some x) {v : Int32} (hv : gfI w a ci k = some v) (hdg : decode cc pc = .ok (.getfield index, 3))
    (kk : W p l e R s m args below meth c H locs cells slots Q (F0 m (pc + 3) ls (.int v :: rest))) : W p l e R s m args below meth c H locs cells slots Q (F0 m pc ls (.ref a :: rest)) := gw_get0 hx hb hT hown hK hI hc hin k hk hlink hsame (gvI_some hv) hdg kk
theorem gw_getJ (hx : p.tables.exec = Jvm.exec) (hb : c.code = cc) (hT : gT s) {own : String} (hown : s.vm.findClass own = some m.cls) (hK : gK D s) (hI : gI D s A w H locs) {ci : Nat} {C ref : String} {T : u_T} {N index : Nat} (hc : gCl[ci]? = some (C, T, N)) (hin : ∀ z ∈ u_ws C T N, z ∈ gAll) (k : Nat) (hk : k < N) (hlink : Cond.fieldLink own index ref (T k).2.1 (T k).2.2.1 ∈ gAll) (hsame : ∀ x, s.fieldFound? (T k).1 (T k).2.1 (T k).2.2.1 = some x → s.fieldFound? ref (T k).2.1 (T k).2.2.1 = some x) {v : Int64} (hv : gfJ w a ci k = some v) (hdg : decode cc pc = .ok (.getfield index, 3))
    (kk : W p l e R s m args below meth c H locs cells slots Q (F0 m (pc + 3) ls (.long v :: rest))) : W p l e R s m args below meth c H locs cells slots Q (F0 m pc ls (.ref a :: rest)) := gw_get0 hx hb hT hown hK hI hc hin k hk hlink hsame (gvJ_some hv) hdg kk
theorem gw_getA (hx : p.tables.exec = Jvm.exec) (hb : c.code = cc) (hT : gT s) {own : String} (hown : s.vm.findClass own = some m.cls) (hK : gK D s) (hI : gI D s A w H locs) {ci : Nat} {C ref : String} {T : u_T} {N index : Nat} (hc : gCl[ci]? = some (C, T, N)) (hin : ∀ z ∈ u_ws C T N, z ∈ gAll) (k : Nat) (hk : k < N) (hlink : Cond.fieldLink own index ref (T k).2.1 (T k).2.2.1 ∈ gAll) (hsame : ∀ x, s.fieldFound? (T k).1 (T k).2.1 (T k).2.2.1 = some x → s.fieldFound? ref (T k).2.1 (T k).2.2.1 = some x) {v : Nat} (hv : gfA w a ci k = some v) (hdg : decode cc pc = .ok (.getfield index, 3))
    (kk : W p l e R s m args below meth c H locs cells slots Q (F0 m (pc + 3) ls (.ref v :: rest))) : W p l e R s m args below meth c H locs cells slots Q (F0 m pc ls (.ref a :: rest)) := gw_get0 hx hb hT hown hK hI hc hin k hk hlink hsame (gvA_some hv) hdg kk
theorem gw_put (hx : p.tables.exec = Jvm.exec) (hb : c.code = cc) (hT : gT s) {own : String} (hown : s.vm.findClass own = some m.cls) (hK : gK D s) (hI : gI D s A w H locs) {ci : Nat} {C ref : String} {T : u_T} {N index : Nat} (hc : gCl[ci]? = some (C, T, N)) (hin : ∀ z ∈ u_ws C T N, z ∈ gAll) (ty0 : Nat → FieldType) (hty : ∀ k, k < N → parseFieldDescriptor (T k).2.2.1 = some (ty0 k)) (hnm : ∀ a, a < N → ∀ b, b < N → a ≠ b → (T a).2.1 ≠ (T b).2.1) (k : Nat) (hk : k < N) (hlink : Cond.fieldLink own index ref (T k).2.1 (T k).2.2.1 ∈ gAll) (hsame : ∀ x, s.fieldFound? (T k).1 (T k).2.1 (T k).2.2.1 = some x → s.fieldFound? ref (T k).2.1 (T k).2.2.1 = some x) (hfin : (T k).2.2.2 = false) {ty : FieldType} {v : Value} (hd : parseFieldDescriptor (T k).2.2.1 = some ty) (hn : narrow ty v = v) (hfit : fits ty v = true) {w' : gW} (hv : gp w a ci k v = some w') (hdg : decode cc pc = .ok (.putfield index, 3))
    (kk : ∀ (H1 : Heap) (locs1 : List Loc), gI D s A w' H1 locs1 → W p l e R s m args below meth c H1 locs1 cells slots Q (F0 m (pc + 3) ls rest)) : W p l e R s m args below meth c H locs cells slots Q (F0 m pc ls (v :: .ref a :: rest)) := by
  obtain ⟨fs, h1, h2, rfl⟩ := gp_some hv
  have hts : ∀ z ∈ gAll, z.before args s = true := fun z h => hT z h args
  have hap := va_apart (D := (D.1, D.2.1)) (cl := gCl) (tys := []) (own := own) (args := args) hts hin ty0 hty hnm hK.va hc
  obtain ⟨r, hr, cell, q1, q2, q3, q4⟩ := hI.2.1 a _ h1
  cases Option.some.inj (hr.symm.trans hc)
  obtain ⟨hS, hfc, kC, hkC, hkind⟩ := hK.1 ci _ hc
  obtain ⟨cf, kf, fi, f, hi, hsl⟩ := hS k hk
  have hlay := hts _ (hin _ (u_in_lay hk))
  unfold u_lay at hlay
  rw [if_neg (by rw [hfin]; decide)] at hlay
  have hst := (u_facts hfc hkC (u_lays hts hin hk) hi).1
  have h6 := u_store hfc hkC hkind hlay hi hd hn hfit
  refine W.putK hx hb (f := f) ⟨hown, hts _ hlink, ⟨_, _, _, hsame _ hi⟩, hst⟩ (by rw [q2]; exact h6) q1 q3 (by rw [hsl]; exact k2_hasslot (q4 k hk)) rfl rfl hdg fun H' e1 e2 e3 => ?_
  rw [hsl] at e1 ⊢
  exact kk H' _ (hI.put h1 trivial e2 e3 ⟨_, hc, t_OB.to (V := updV (vp_V fs) k v) ⟨_, e1, q2, q3, t_set q4 hap hk v⟩ (fun j _ => vp_updV_set h2 v j)⟩)
theorem gw_putF (hx : p.tables.exec = Jvm.exec) (hb : c.code = cc) (hT : gT s) {own : String} (hown : s.vm.findClass own = some m.cls) (hK : gK D s) (hI : gI D s A w H locs) {ci : Nat} {C ref : String} {T : u_T} {N index : Nat} (hc : gCl[ci]? = some (C, T, N)) (hin : ∀ z ∈ u_ws C T N, z ∈ gAll) (ty0 : Nat → FieldType) (hty : ∀ k, k < N → parseFieldDescriptor (T k).2.2.1 = some (ty0 k)) (hnm : ∀ a, a < N → ∀ b, b < N → a ≠ b → (T a).2.1 ≠ (T b).2.1) (k : Nat) (hk : k < N) (hlink : Cond.fieldLink own index ref (T k).2.1 (T k).2.2.1 ∈ gAll) (hsame : ∀ x, s.fieldFound? (T k).1 (T k).2.1 (T k).2.2.1 = some x → s.fieldFound? ref (T k).2.1 (T k).2.2.1 = some x) (hfin : (T k).2.2.2 = true) (hin2 : meth.name = "<init>") (hdecl : (T k).1 = own) {ty : FieldType} {v : Value} (hd : parseFieldDescriptor (T k).2.2.1 = some ty) (hn : narrow ty v = v) (hfit : fits ty v = true) {w' : gW} (hv : gp w a ci k v = some w') (hdg : decode cc pc = .ok (.putfield index, 3))
    (kk : ∀ (H1 : Heap) (locs1 : List Loc), gI D s A w' H1 locs1 → W p l e R s m args below meth c H1 locs1 cells slots Q (F0 m (pc + 3) ls rest)) : W p l e R s m args below meth c H locs cells slots Q (F0 m pc ls (v :: .ref a :: rest)) := by
  obtain ⟨fs, h1, h2, rfl⟩ := gp_some hv
  have hts : ∀ z ∈ gAll, z.before args s = true := fun z h => hT z h args
  have hap := va_apart (D := (D.1, D.2.1)) (cl := gCl) (tys := []) (own := own) (args := args) hts hin ty0 hty hnm hK.va hc
  obtain ⟨r, hr, cell, q1, q2, q3, q4⟩ := hI.2.1 a _ h1
  cases Option.some.inj (hr.symm.trans hc)
  obtain ⟨hS, hfc, kC, hkC, hkind⟩ := hK.1 ci _ hc
  obtain ⟨cf, kf, fi, f, hi, hsl⟩ := hS k hk
  have hlay := hts _ (hin _ (u_in_lay hk))
  unfold u_lay at hlay
  rw [if_pos hfin] at hlay
  have hst := (u_facts hfc hkC (u_lays hts hin hk) hi).1
  have hcf : m.cls = cf := by
    obtain ⟨_, _, c', _, _, _, -, -, hf', -, -, -, hown2, -⟩ := Cond.laysFinal_spec hlay
    have e1 : c' = cf := by have := hi.symm.trans hf'; simp at this; exact this.1.symm
    rw [hdecl] at hown2
    rw [← e1]; exact Option.some.inj (hown.symm.trans hown2)
  have h6 := u_fits hfc hkC hkind (Or.inr hlay) hi hd hn hfit
  refine W.putFinK hx hb hown (hts _ hlink) (hsame _ hi) hst hcf hin2 (by rw [q2]; exact h6) q1 q3 (by rw [hsl]; exact k2_hasslot (q4 k hk)) rfl rfl hdg fun H' e1 e2 e3 => ?_
  rw [hsl] at e1 ⊢
  exact kk H' _ (hI.put h1 trivial e2 e3 ⟨_, hc, t_OB.to (V := updV (vp_V fs) k v) ⟨_, e1, q2, q3, t_set q4 hap hk v⟩ (fun j _ => vp_updV_set h2 v j)⟩)
theorem gw_new (hx : p.tables.exec = Jvm.exec) (hb : c.code = cc) (hT : gT s) {own : String} (hown : s.vm.findClass own = some m.cls) (hK : gK D s) (hI : gI D s A w H locs) (hA : ∀ q : Nat, s.heap.size ≤ q → A q) {ci : Nat} {C : String} {T : u_T} {N index : Nat} (hc : gCl[ci]? = some (C, T, N)) (hin : ∀ z ∈ u_ws C T N, z ∈ gAll) (ty : Nat → FieldType) (hty : ∀ k, k < N → parseFieldDescriptor (T k).2.2.1 = some (ty k)) {n : Nat} (hcl : Cond.classLink own index C ∈ gAll) (hinst : Cond.instantiable C n ∈ gAll) (hini : Cond.initialized C ∈ gAll) {fs : List Value} (hfs : ∀ j, j < N → defaultValue (ty j) = vp_V fs j) {b : Nat} {w' : gW} (hv : gnw w ci fs = some (b, w')) (hcells : cells + 1 ≤ R.cells) (hslots : slots + n ≤ R.slots) (hdg : decode cc pc = .ok (.new index, 3))
    (kk : ∀ (H1 : Heap), gI D s A w' H1 locs → W p l e R s m args below meth c H1 locs (cells + 1) (slots + n) Q (F0 m (pc + 3) ls (.ref b :: rest))) : W p l e R s m args below meth c H locs cells slots Q (F0 m pc ls rest) := by
  have hts : ∀ z ∈ gAll, z.before args s = true := fun z h => hT z h args
  unfold gnw at hv
  cases hv
  have hKn := hK.1 ci _ hc
  refine W.newcK hx hb hown (hts _ hcl) (hts _ hinst) (hts _ hini) rfl hdg hcells hslots hKn.2.1 hI.1 fun H1 kC hkC e1 z1 o1 => ?_
  rw [← hI.1] at e1 z1 o1
  refine kk H1 (hI.push hA z1 o1 ⟨_, hc, (u_born ty hts hin hKn hkC e1 hty).to hfs⟩)
theorem gw_newa (hx : p.tables.exec = Jvm.exec) (hb : c.code = cc) (hK : gK D s) (hI : gI D s A w H locs) (hA : ∀ q : Nat, s.heap.size ≤ q → A q) {atype : ArrayType} (harr : (Cond.arrayClass (newarray.typeOf atype)).before args s = true) {ty : FieldType} (hty : newarray.typeOf atype = ty) {k : Nat} (hk : gTy[k]? = some ty) (hob : va_RA s (D.2.2 k) ty → s.vm.findClass ("[" ++ ty.toString) = some (D.2.2 k)) {n : Int32} {M b : Nat} {w' : gW} (hv : gna w k n M (defaultValue ty) = some (b, w')) (hcells : cells + 1 ≤ R.cells) (hslots : slots + M ≤ R.slots) (hbytes : M * componentBytes ty ≤ 536870912) (hdg : decode cc pc = .ok (.newarray atype, 2))
    (kk : ∀ (H1 : Heap), gI D s A w' H1 locs → W p l e R s m args below meth c H1 locs (cells + 1) (slots + M) Q (F0 m (pc + 2) ls (.ref b :: rest))) : W p l e R s m args below meth c H locs cells slots Q (F0 m pc ls (.int n :: rest)) := by
  subst hty
  obtain ⟨h1, h2, rfl, rfl⟩ := gna_some hv
  refine va_newaK hx hb harr rfl hdg rfl h1 rfl (Nat.le_trans (Nat.mul_le_mul_right _ h2) hbytes) hcells (Nat.le_trans (Nat.add_le_add_left h2 _) hslots) hI.1 fun H1 cA e1 z1 o1 hAr hNm => ?_
  rw [← hI.1] at e1 z1 o1
  have hcA : cA = D.2.2 k := Option.some.inj (hNm.symm.trans (hob (hK.2 k _ hk).2))
  subst hcA
  rw [← hI.1]
  refine W.widen (Nat.le_refl _) (Nat.add_le_add_left h2 _) ?_
  rw [hI.1]
  exact kk H1 (hI.push hA z1 o1 e1)
theorem gw_anew (hx : p.tables.exec = Jvm.exec) (hb : c.code = cc) {own : String} (hown : s.vm.findClass own = some m.cls) (hK : gK D s) (hI : gI D s A w H locs) (hA : ∀ q : Nat, s.heap.size ≤ q → A q) {C : String} {index : Nat} (hcl : (Cond.classLink own index C).before args s = true) (hov : (Cond.arrayOver (.object C)).before args s = true) {k : Nat} (hk : gTy[k]? = some (.object C)) {n : Int32} {M b : Nat} {w' : gW} (hv : gna w k n M .null = some (b, w')) (hcells : cells + 1 ≤ R.cells) (hslots : slots + M ≤ R.slots) (hbytes : M * 4 ≤ 536870912) (hdg : decode cc pc = .ok (.anewarray index, 3))
    (kk : ∀ (H1 : Heap), gI D s A w' H1 locs → W p l e R s m args below meth c H1 locs (cells + 1) (slots + M) Q (F0 m (pc + 3) ls (.ref b :: rest))) : W p l e R s m args below meth c H locs cells slots Q (F0 m pc ls (.int n :: rest)) := by
  obtain ⟨h1, h2, rfl, rfl⟩ := gna_some hv
  refine W.anew hx hb hown hcl hov rfl hdg rfl h1 (Nat.le_trans (Nat.mul_le_mul_right _ h2) hbytes) hcells (Nat.le_trans (Nat.add_le_add_left h2 _) hslots) fun cA kA comp f1 f2 f3 f4 => ?_
  obtain ⟨kA', comp', g1, g2, g3, g4⟩ := (hK.2 k _ hk).2
  have hcA : cA = D.2.2 k := Option.some.inj (f1.symm.trans g4)
  subst hcA
  generalize hH1 : H.push ({ cls := D.2.2 k, slots := Array.replicate n.toNatClampNeg .null, vm := .none } : Cell) = H1
  have z1 : H1.size = H.size + 1 := by rw [← hH1, Array.size_push]
  have e1 : H1[H.size]? = some (arrV (D.2.2 k) n.toNatClampNeg (fun _ => .null)) := by rw [← hH1, Array.getElem?_push_size, ← arrV_new]
  have o1 : ∀ q : Nat, q < H.size → H1[q]? = H[q]? := fun q hq => by rw [← hH1, Array.getElem?_push, if_neg (Nat.ne_of_lt hq)]
  refine W.widen (Nat.le_refl _) (Nat.add_le_add_left h2 _) ?_
  rw [hI.1]
  exact kk H1 (hI.push hA z1 o1 e1)
theorem gw_alen (hx : p.tables.exec = Jvm.exec) (hb : c.code = cc) (hK : gK D s) (hI : gI D s A w H locs) {x : Int32} (hv : gal w a = some x) (hdg : decode cc pc = .ok (.arraylength, 1))
    (kk : W p l e R s m args below meth c H locs cells slots Q (F0 m (pc + 1) ls (.int x :: rest))) : W p l e R s m args below meth c H locs cells slots Q (F0 m pc ls (.ref a :: rest)) := by
  obtain ⟨k, n, f, ty, h1, hty, rfl⟩ := gal_some hv
  exact W.alen hx hb (hI.2.1 a _ h1) ((hK.2 k ty hty).1 n f) (by show (arrV _ _ _).slots.size.toInt32 = _; rw [arrV_size]; rfl) rfl rfl hdg kk
theorem gw_aldI (hx : p.tables.exec = Jvm.exec) (hb : c.code = cc) (hK : gK D s) (hI : gI D s A w H locs) {i x : Int32} (hv : gaI w a i = some x) (hdg : decode cc pc = .ok (.iaload, 1))
    (kk : W p l e R s m args below meth c H locs cells slots Q (F0 m (pc + 1) ls (.int x :: rest))) : W p l e R s m args below meth c H locs cells slots Q (F0 m pc ls (.int i :: .ref a :: rest)) := by
  obtain ⟨n, f, h1, hin, h2⟩ := gar_some (gvI_some hv)
  have hlt : i.toNatClampNeg < n := Nat.not_le.mp fun q => hin (Or.inr q)
  exact W.iald (v := .int x) hx hb (hI.2.1 a _ h1) ((hK.2 0 .int rfl).1 n f) (fun q => by cases q) (by show ¬ (i < 0 ∨ (arrV _ _ _).slots.size ≤ _); rw [arrV_size]; exact hin) (by show (arrV _ _ _).slots[_]? = _; rw [arrV_read _ _ hlt]; exact congrArg some h2) rfl rfl hdg kk
theorem gw_aldJ (hx : p.tables.exec = Jvm.exec) (hb : c.code = cc) (hK : gK D s) (hI : gI D s A w H locs) {i : Int32} {x : Int64} (hv : gaJ w a i = some x) (hdg : decode cc pc = .ok (.laload, 1))
    (kk : W p l e R s m args below meth c H locs cells slots Q (F0 m (pc + 1) ls (.long x :: rest))) : W p l e R s m args below meth c H locs cells slots Q (F0 m pc ls (.int i :: .ref a :: rest)) := by
  obtain ⟨n, f, h1, hin, h2⟩ := gar_some (gvJ_some hv)
  have hlt : i.toNatClampNeg < n := Nat.not_le.mp fun q => hin (Or.inr q)
  exact W.lald (v := .long x) hx hb (hI.2.1 a _ h1) ((hK.2 1 .long rfl).1 n f) (fun q => by cases q) (by show ¬ (i < 0 ∨ (arrV _ _ _).slots.size ≤ _); rw [arrV_size]; exact hin) (by show (arrV _ _ _).slots[_]? = _; rw [arrV_read _ _ hlt]; exact congrArg some h2) rfl rfl hdg kk
theorem gw_aldA (hx : p.tables.exec = Jvm.exec) (hb : c.code = cc) (hK : gK D s) (hI : gI D s A w H locs) {i : Int32} {x : Nat} (hv : gaA w a i = some x) (hdg : decode cc pc = .ok (.aaload, 1))
    (kk : W p l e R s m args below meth c H locs cells slots Q (F0 m (pc + 1) ls (.ref x :: rest))) : W p l e R s m args below meth c H locs cells slots Q (F0 m pc ls (.int i :: .ref a :: rest)) := by
  obtain ⟨k, C, hk, hv⟩ := gaA_some hv
  obtain ⟨n, f, h1, hin, h2⟩ := gar_some hv
  have hlt : i.toNatClampNeg < n := Nat.not_le.mp fun q => hin (Or.inr q)
  exact W.aald (v := .ref x) (ty := .object C) hx hb (hI.2.1 a _ h1) ((hK.2 k _ hk).1 n f) rfl (fun q => by cases q) (by show ¬ (i < 0 ∨ (arrV _ _ _).slots.size ≤ _); rw [arrV_size]; exact hin) (by show (arrV _ _ _).slots[_]? = _; rw [arrV_read _ _ hlt]; exact congrArg some h2) rfl rfl hdg kk
theorem gw_astI (hx : p.tables.exec = Jvm.exec) (hb : c.code = cc) (hK : gK D s) (hI : gI D s A w H locs) {i x : Int32} {w' : gW} (hv : gsI w a i x = some w') (hdg : decode cc pc = .ok (.iastore, 1))
    (kk : ∀ (H1 : Heap) (locs1 : List Loc), gI D s A w' H1 locs1 → W p l e R s m args below meth c H1 locs1 cells slots Q (F0 m (pc + 1) ls rest)) : W p l e R s m args below meth c H locs cells slots Q (F0 m pc ls (.int x :: .int i :: .ref a :: rest)) := by
  obtain ⟨n, f, h1, hin, rfl⟩ := gas_some hv
  refine W.iast hx hb (hI.2.1 a _ h1) ((hK.2 0 .int rfl).1 n f) (fun q => by cases q) (by show ¬ (i < 0 ∨ (arrV _ _ _).slots.size ≤ _); rw [arrV_size]; exact hin) rfl rfl hdg fun H1 e1 z1 o1 => ?_
  exact kk H1 _ (hI.put h1 (fun q => hin (Or.inr (by rw [show n = 0 from q]; exact Nat.zero_le _))) z1 o1 (e1.trans (by show some (Cell.setSlot (arrV _ _ _) _ _) = _; rw [arrV_store])))
theorem gw_astJ (hx : p.tables.exec = Jvm.exec) (hb : c.code = cc) (hK : gK D s) (hI : gI D s A w H locs) {i : Int32} {x : Int64} {w' : gW} (hv : gsJ w a i x = some w') (hdg : decode cc pc = .ok (.lastore, 1))
    (kk : ∀ (H1 : Heap) (locs1 : List Loc), gI D s A w' H1 locs1 → W p l e R s m args below meth c H1 locs1 cells slots Q (F0 m (pc + 1) ls rest)) : W p l e R s m args below meth c H locs cells slots Q (F0 m pc ls (.long x :: .int i :: .ref a :: rest)) := by
  obtain ⟨n, f, h1, hin, rfl⟩ := gas_some hv
  refine W.last hx hb (hI.2.1 a _ h1) ((hK.2 1 .long rfl).1 n f) (fun q => by cases q) (by show ¬ (i < 0 ∨ (arrV _ _ _).slots.size ≤ _); rw [arrV_size]; exact hin) rfl rfl hdg fun H1 e1 z1 o1 => ?_
  exact kk H1 _ (hI.put h1 (fun q => hin (Or.inr (by rw [show n = 0 from q]; exact Nat.zero_le _))) z1 o1 (e1.trans (by show some (Cell.setSlot (arrV _ _ _) _ _) = _; rw [arrV_store])))
end GR
end
section
/-! ===== ONE CONTRACT FORM: 'o' is how it ends (an exception's name, or the answer) and the world behind ===== -/
/-- what holds of statics and texts: outside what may change -/
def gZ (A : Nat → Prop) (U : State) (H : Heap) (g0 : Nat) : Prop :=
  va_Z "java/util/ArrayList" "DEFAULTCAPACITY_EMPTY_ELEMENTDATA" "[Ljava/lang/Object;" (.ref g0) A U H
def gA (w : gW) : Nat → Prop := fun q => (∃ e : gE, w.1 q = some e ∧ gRW e) ∨ w.2 ≤ q
def gPre (D : gD) (g0 : Nat) (w : gW) (U : State) : Prop := U.heap.size = w.2 ∧ (∀ (a : Nat) (e : gE), w.1 a = some e → gAt D a e U.heap) ∧ gK D U ∧ gT U ∧ gZ (gA w) U U.heap g0
/-- the world behind, and nothing else moved -/
def gEnd (D : gD) (w w' : gW) (st t : State) : Prop := t.heap.size = w'.2 ∧ (∀ (a : Nat) (e : gE), w'.1 a = some e → gAt D a e t.heap) ∧ (∀ (a : Nat) (e : gE), w'.1 a = some e → gRW e → gA w a) ∧ va_F (gA w) st t
def gQ (D : gD) (w : gW) (o : (String ⊕ Option Value) × gW) (mc ms : Nat) : Array Value → State → Outcome → State → Prop := fun _ st oc t =>
  gEnd D w o.2 st t ∧ st.WarmedH t.vm ∧ (∃ L : List Loc, st.sameButNew ({ t with vm := st.vm } : State) L mc ms ∧ ∀ z ∈ L, gA w z.base) ∧
    match o.1 with
    | .inl E => ∃ (q : Addr) (ce : Cell), oc = .threw q ∧ t.heap[q]? = some ce ∧ ce.vm = .none ∧ st.vm.findClass E = some ce.cls
    | .inr v => oc = .returned v
def gMet (l : Launch) (y : MethodName) (k : Cond) (rm : Room) (D : gD) (g0 : Nat) (av : List Value) (w : gW) (o : (String ⊕ Option Value) × gW) : Prop :=
  MetFree l y (headSpec [k] rm) (fun v U => v = av.toArray ∧ gPre D g0 w U) (fun _ _ _ _ _ => True) (gQ D w o rm.cells rm.slots)
theorem gPre.blind {D : gD} {g0 : Nat} {w : gW} {U : State} {g : JFrame} {mk : MethodId} {a : Array Value} (h : gPre D g0 w U) : gPre D g0 w (U.calling g mk a) := by
  obtain ⟨h1, h2, h3, h4, h5⟩ := h
  refine ⟨h1, h2, gK.moved (u := U) (U := U.calling g mk a) (Vm.Alike.refl U.vm) h3, gT.warm (s := U) (U := U.calling g mk a) (State.WarmedH.refl U) h4, va_Z.moved (u := U) (U := U.calling g mk a) (Vm.Alike.refl U.vm) h5⟩
def gEndH (D : gD) (w w' : gW) (H H' : Heap) : Prop := H'.size = w'.2 ∧ (∀ (a : Nat) (e : gE), w'.1 a = some e → gAt D a e H') ∧ (∀ (a : Nat) (e : gE), w'.1 a = some e → gRW e → gA w a) ∧ H.size ≤ H'.size ∧ ∀ q : Nat, q < H.size → ¬ gA w q → H'[q]? = H[q]?
theorem gEnd.heaps {D : gD} {w w' : gW} {st t : State} (h : gEnd D w w' st t) : gEndH D w w' st.heap t.heap := ⟨h.1, h.2.1, h.2.2.1, h.2.2.2.1, h.2.2.2.2⟩
section GB
variable {l : Launch} {R : Room} {p : Program} {e : Env} {below : List Frame} {s : State} {sargs : Array Value} {y : MethodName} {len W9 : Nat}
/-- a contract used at a call: the callee's frame is laid, it runs, it returns or throws -/
theorem gw_back {k : Cond} {rm : Room} {D : gD} {g0 : Nat} {av : List Value} {w : gW} {o : (String ⊕ Option Value) × gW} {maxL : Nat} (hM : gMet l y k rm D g0 av w o) (hframes : rm.frames + 1 ≤ R.frames) (hlocals : W9 + (maxL + 11) + rm.locals ≤ R.locals)
    (hk : ∀ (a' : Array Value) (U : State), s.WarmedH U.vm → k.before a' U = true) (hinit : ∀ (a' : Array Value) (U : State), s.WarmedH U.vm → (Cond.initialized y.cls).before a' U = true)
    (hsp : ∀ (a : Array Value) (U : State) (mk : MethodId), U.methodNamed? y = some mk → k.before a U = true → ∃ methY cY, U.vm.method? mk = some methY ∧ methY.code = some cY ∧ cY.maxLocals = maxL)
    {m : MethodId} {meth : Method} {c : Code} {U : State} {Ls : List Loc} {c0 s0 : Nat} (X : Stand p l e R s m sargs below meth c U Ls c0 s0) {g : JFrame} {ig : Instr} {mk : MethodId} (hg : g.method = m) (hsize : g.locals.size = c.maxLocals) (hdg : decode c.code g.pc = .ok (ig, len))
    (hW : 2 * g.monitorRoom + (g.stack.map fun v => v.category).sum ≤ W9) (hn : U.methodNamed? y = some mk) (hc : c0 + rm.cells ≤ R.cells) (hs : s0 + rm.slots ≤ R.slots) (hP : gPre D g0 w U) :
    ∃ (T' : State) (L : List Loc), Stand p l e R s m sargs below meth c T' (Ls ++ L) (c0 + rm.cells) (s0 + rm.slots) ∧ (∀ z ∈ L, gA w z.base) ∧ gEndH D w o.2 U.heap T'.heap ∧
      match o.1 with
      | .inr v => Steps p.tables e below (doInvoke e (U.setTop g) [] mk av.toArray).1 (T'.setTop { g with pc := g.pc + len, stack := v.toList ++ g.stack })
      | .inl E => ∃ (q : Addr) (ce : Cell), T'.heap[q]? = some ce ∧ ce.vm = .none ∧ U.vm.findClass E = some ce.cls ∧ Steps p.tables e below (doInvoke e (U.setTop g) [] mk av.toArray).1 ((T'.setTop g).pushFrame (.throwing q)) := by
  have h2 : k.before av.toArray U = true := hk _ _ X.warmed
  obtain ⟨methY, cY, hmY, hcY, hlY⟩ := hsp av.toArray U mk hn h2
  obtain ⟨kY, hkY, -⟩ := className_of_methodNamed hn
  have hinitY : kY.init = .initialized := Cond.initialized_spec (findClass_of_methodNamed hn) hkY (hinit av.toArray U X.warmed)
  have h : At U g.method c below := by rw [hg]; exact X.here
  have happ : (headSpec [k] rm).appliesLoose y e.platform (U.calling g mk av.toArray) = true :=
    Spec.appliesLoose_calling (g := g) h hdg hn hkY hinitY
      (X.room_calling (g := g) (R' := (headSpec [k] rm).room) hsize hmY hcY hframes (by rw [hlY]; have q : (headSpec [k] rm).room.locals = rm.locals := rfl; omega) hc hs) (atoms_intro fun z hz => by rw [List.mem_singleton.mp hz]; exact h2)
  obtain ⟨mid, hmid⟩ := h.above
  have hfr : (U.setTop g).frames = (.java g :: mid) ++ below := by rw [State.frames_setTop' g h.top, hmid]; rfl
  obtain ⟨oc, t, hsteps, -, hend, hq⟩ := Steps.callFree hM p X.admits X.cas X.clock (acts := []) hfr happ ⟨rfl, hP.blind⟩ trivial
  have hq' : gQ D w o rm.cells rm.slots av.toArray (U.calling g mk av.toArray) oc t := hq
  rw [State.frames_setTop' g h.top] at hend
  obtain ⟨g₀, hg0⟩ := Option.isSome_iff_exists.mp h.top
  obtain ⟨r, hr⟩ := State.topJava?_eq_some.mp hg0
  obtain ⟨hE, hWt, ⟨L, hsm, hL⟩, hout⟩ := hq'
  have hW' : U.WarmedH t.vm := hWt
  obtain ⟨e1, e2, e3, e4, e5, e6⟩ := id hsm
  obtain ⟨T', hT'⟩ : ∃ T', T' = (({ U with heap := t.heap, slotsUsed := t.slotsUsed } : State).setVm t.vm) := ⟨_, rfl⟩
  have hr' : T'.frames = .java g₀ :: r := by rw [hT']; exact hr
  have ht : t = ({ (U.calling g mk av.toArray).setFrames t.frames with heap := t.heap, slotsUsed := t.slotsUsed } : State).setVm t.vm := by
    have q : t = ({ t with vm := (U.calling g mk av.toArray).vm } : State).setVm t.vm := rfl
    rw [e1] at q
    exact q
  have hsame : U.sameButNew ({ U with heap := t.heap, slotsUsed := t.slotsUsed } : State) L rm.cells rm.slots := by
    refine ⟨?_, e2, e3, e4, e5, e6⟩
    obtain ⟨z, hz, -⟩ := State.frames_cons hr
    show ({ U with heap := t.heap, slotsUsed := t.slotsUsed } : State) = { U.setFrames U.frames with heap := t.heap, slotsUsed := t.slotsUsed }
    rw [State.setFrames_self hz]
  have X' : Stand p l e R s m sargs below meth c T' (Ls ++ L) (c0 + rm.cells) (s0 + rm.slots) := by
    subst hg
    rw [hT']
    exact ⟨X.admits, X.cas, X.clock, X.frames, X.room, X.hears, X.method, X.code, (X.here.setHeapUsed t.heap t.slotsUsed).setVm hW'.alike, X.tail, State.WarmedH.trans X.warmed hW', X.limits, X.bytes, X.same.trans (hsame.setVm s.vm)⟩
  have hheap : T'.heap = t.heap := by rw [hT']; rfl
  refine ⟨T', L, X', hL, by rw [hheap]; exact hE.heaps, ?_⟩
  obtain ⟨o1, o2⟩ := o
  cases o1 with
  | inr v =>
    have hv : oc = .returned v := hout
    subst hv
    obtain ⟨c₂, i₂, len₂, hc₂, hd₂, hf₂⟩ := hend
    have hcc : c₂ = c := by
      have q1 : t.code? g.method = U.code? g.method := by rw [State.code?_eq, State.code?_eq, hW'.alike.method?]
      exact Option.some.inj (hc₂.symm.trans (q1.trans h.code))
    subst hcc
    have hlen : len₂ = len := by rw [hdg] at hd₂; cases hd₂; rfl
    subst hlen
    have hs₂ : t = T'.setTop { g with pc := g.pc + len₂, stack := v.toList ++ g.stack } := by
      refine ht.trans ?_
      rw [hf₂, State.calling_eq h.top, State.setFrames_setFrames, State.setTop_of_frames _ hr', hr, hT']
      rfl
    show Steps p.tables e below _ (T'.setTop { g with pc := g.pc + len₂, stack := v.toList ++ g.stack })
    rw [← hs₂]
    exact hsteps
  | inl E =>
    obtain ⟨q, ce, rfl, hce, hcv, hcl⟩ := hout
    have hf₂ : t.frames = .throwing q :: .java g :: U.frames.tail := hend
    have hs₂ : t = (T'.setTop g).pushFrame (.throwing q) := by
      refine ht.trans ?_
      rw [hf₂, State.calling_eq h.top, State.setFrames_setFrames, State.pushFrame, State.frames_setTop _ hr', State.setTop_of_frames _ hr', State.setFrames_setFrames, hr, hT']
      rfl
    refine ⟨q, ce, by rw [hheap]; exact hce, hcv, hcl, ?_⟩
    rw [← hs₂]
    exact hsteps
end GB
/-- a call as a whole -/
def gRun (p : Program) (l : Launch) (e : Env) (R : Room) (s : State) (m : MethodId) (args : Array Value) (below : List Frame) (meth : Method) (c : Code) (H : Heap) (locs : List Loc) (cells slots : Nat) (g : JFrame) (rest : List Value) (rm : Room) (D : gD) (w : gW) (o : (String ⊕ Option Value) × gW) : Prop :=
  ∀ T : State, T.heap = H → Stand p l e R s m args below meth c T locs cells slots → ∃ (T' : State) (L : List Loc), Stand p l e R s m args below meth c T' (locs ++ L) (cells + rm.cells) (slots + rm.slots) ∧ (∀ z ∈ L, gA w z.base) ∧ gEndH D w o.2 H T'.heap ∧
    match o.1 with
    | .inr v => ∀ tg, Steps p.tables e below (T'.setTop { g with pc := g.pc + 3, stack := v.toList ++ rest }) tg → Steps p.tables e below (T.setTop g) tg
    | .inl E => ∃ (q : Addr) (ce : Cell), T'.heap[q]? = some ce ∧ ce.vm = .none ∧ s.vm.findClass E = some ce.cls ∧ Steps p.tables e below (T.setTop g) ((T'.setTop { g with stack := rest }).pushFrame (.throwing q))
section GC
variable {p : Program} {l : Launch} {e : Env} {R : Room} {s : State} {m : MethodId} {args : Array Value} {below : List Frame} {meth : Method} {c : Code} {H : Heap} {locs : List Loc} {cells slots : Nat}
/-- what a call needs to know of its callee, whoever calls -/
def gCe (y : MethodName) (k : Cond) (maxL n : Nat) (st : Bool) : Prop :=
  (k ∈ gAll ∧ goodWord k = true) ∧ (Cond.initialized y.cls ∈ gAll) ∧ (if st then Cond.static y ∈ gAll else Cond.instanceMethod y ∈ gAll) ∧ (y.cls ≠ "java/lang/invoke/MethodHandle" ∧ y.cls ≠ "java/lang/invoke/VarHandle") ∧ (parseMethodDescriptor y.desc).map (fun d => d.parameters.length) = some n ∧
  (∀ (a : Array Value) (U : State) (mk : MethodId), U.methodNamed? y = some mk → k.before a U = true → ∃ methY cY, U.vm.method? mk = some methY ∧ methY.code = some cY ∧ cY.maxLocals = maxL ∧ parseMethodDescriptor y.desc = some methY.sig)
theorem gCe.code {y : MethodName} {b : ByteArray} {maxL n : Nat} {ret : Option FieldType} {st : Bool} (h1 : Cond.code y b maxL ret ∈ gAll) (h2 : Cond.initialized y.cls ∈ gAll) (h3 : if st then Cond.static y ∈ gAll else Cond.instanceMethod y ∈ gAll) (h4 : y.cls ≠ "java/lang/invoke/MethodHandle" ∧ y.cls ≠ "java/lang/invoke/VarHandle") (h5 : (parseMethodDescriptor y.desc).map (fun d => d.parameters.length) = some n) : gCe y (.code y b maxL ret) maxL n st := by
  refine ⟨⟨h1, rfl⟩, h2, h3, h4, h5, fun a U mk hn hb => ?_⟩
  obtain ⟨methM, cM, hmethM, hcM, -, hlM, -, -, -, hsigM⟩ := Cond.code_spec hn hb
  exact ⟨methM, cM, hmethM, hcM, hlM, hsigM⟩
theorem gCe.len {y : MethodName} {k : Cond} {maxL n : Nat} {st : Bool} (h : gCe y k maxL n st) {sig : MethodDescriptor} (hs : parseMethodDescriptor y.desc = some sig) : n = sig.parameters.length := by
  have h2 := h.2.2.2.2.1
  rw [hs] at h2
  exact (Option.some.inj h2).symm
theorem gCe.k {y : MethodName} {k : Cond} {maxL n : Nat} {st : Bool} (h : gCe y k maxL n st) (hT : gT s) : ∀ (a' : Array Value) (U : State), s.WarmedH U.vm → k.before a' U = true := fun a' U hW => word_at hW (good_of_word h.1.2) (hT _ h.1.1 #[])
theorem gCe.i {y : MethodName} {k : Cond} {maxL n : Nat} {st : Bool} (h : gCe y k maxL n st) (hT : gT s) : ∀ (a' : Array Value) (U : State), s.WarmedH U.vm → (Cond.initialized y.cls).before a' U = true := fun a' U hW => word_at hW (good_of_word rfl) (hT _ h.2.1 #[])
theorem gPre.up {D : gD} {g0 : Nat} {w : gW} {A : Nat → Prop} {T : State} {vm₁ : Vm} (hT0 : T.heap = H) (hW : s.WarmedH vm₁) (hK : gK D s) (hT : gT s) (hZ : gZ A s s.heap g0) (hA : ∀ q : Nat, s.heap.size ≤ q → A q) (hI : gI D s A w H locs) : gPre D g0 w (T.setVm vm₁) := by
  obtain ⟨h1, h2, h3, h4⟩ := hI
  have hh : (T.setVm vm₁).heap = H := hT0
  have hsub : ∀ q : Nat, gA w q → A q := fun q hq => hq.elim (fun ⟨e, q1, q2⟩ => h4 q e q1 q2) (fun z => hA q (Nat.le_trans h3.1 (by rw [h1]; exact z)))
  refine ⟨by rw [hh]; exact h1, fun a e he => by rw [hh]; exact h2 a e he, gK.moved hW.alike hK, gT.warm (U := T.setVm vm₁) hW hT, ?_⟩
  rw [hh]
  exact va_Z.narrow (va_Z.moved (U := T.setVm vm₁) hW.alike (va_Z.kept hZ h3.2.1)) hsub
variable {y : MethodName} {k : Cond} {maxL n index nL : Nat} {rm : Room} {D : gD} {g0 : Nat} {w : gW} {A : Nat → Prop} {o : (String ⊕ Option Value) × gW} {As rest : List Value} {g : JFrame} {cc : ByteArray} {own : String}
theorem gw_runS (hx : p.tables.exec = Jvm.exec) (hb : c.code = cc) (hml : c.maxLocals = nL) (hown : s.vm.findClass own = some m.cls) (hT : gT s) (hK : gK D s) (hZ : gZ A s s.heap g0) (hA : ∀ q : Nat, s.heap.size ≤ q → A q) (hI : gI D s A w H locs)
    (hM : gMet l y k rm D g0 As w o) (hC : gCe y k maxL n true) (hl : Cond.methodLink own index y ∈ gAll) (hR : rm.frames + 1 ≤ R.frames ∧ 8 + (maxL + 11) + rm.locals ≤ R.locals)
    (hg : g.method = m) (hn : As.length = n) (hsize : g.locals.size = nL) (hstack : g.stack = As.reverse ++ rest) (hW : 2 * g.monitorRoom + (rest.map fun v => v.category).sum ≤ 8) (hdg : decode cc g.pc = .ok (.invokestatic index, 3)) (hf : cells + rm.cells ≤ R.cells ∧ slots + rm.slots ≤ R.slots) :
    gRun p l e R s m args below meth c H locs cells slots g rest rm D w o := by
  intro T hT0 X
  obtain ⟨mk, hnamed⟩ : ∃ mk, s.methodNamed? y = some mk := by
    have h := hT _ hC.2.2.1 #[]
    revert h
    simp only [Cond.before, Cond.holds, Cond.value]
    cases s.methodNamed? y with
    | none => simp
    | some mk => exact fun _ => ⟨mk, rfl⟩
  obtain ⟨methM, cM, hmethM, -, -, hsigM⟩ := hC.2.2.2.2.2 #[] s mk hnamed (hT _ hC.1.1 #[])
  have hstatic : methM.isStatic = true := Cond.static_spec hnamed hmethM (hT _ hC.2.2.1 #[])
  obtain ⟨kP, hkP, -⟩ := className_of_methodNamed hnamed
  have hinitP : kP.init = .initialized := Cond.initialized_spec (findClass_of_methodNamed hnamed) hkP (hT _ hC.2.1 #[])
  obtain ⟨vm₁, X₁, hstep₁⟩ := X.invokestatic hx hown (hT _ hl args) hnamed hmethM hstatic hkP hinitP hC.2.2.2.1 (g := g) hg (argsL := As) (rest := rest) (hn.trans (hC.len hsigM)) hstack (by rw [hb]; exact hdg)
  obtain ⟨T', L, X', hL, hE, hout⟩ := gw_back (W9 := 8) (len := 3) (maxL := maxL) hM hR.1 hR.2 (hC.k hT) (hC.i hT) (fun a U mk hn hb => by obtain ⟨q1, q2, q3, q4, q5, -⟩ := hC.2.2.2.2.2 a U mk hn hb; exact ⟨q1, q2, q3, q4, q5⟩) X₁ (g := { g with stack := rest }) (ig := .invokestatic index) hg (hsize.trans hml.symm) (by rw [hb]; exact hdg) hW (X₁.named hnamed) hf.1 hf.2 (gPre.up hT0 X₁.warmed hK hT hZ hA hI)
  refine ⟨T', L, X', hL, by rw [← hT0]; exact hE, ?_⟩
  obtain ⟨o1, o2⟩ := o
  cases o1 with
  | inr v => exact fun tg h => hstep₁ _ fun acts => by rw [doInvoke_state]; exact hout.trans h
  | inl E =>
    obtain ⟨q, ce, h1, h2, h3, h4⟩ := hout
    refine ⟨q, ce, h1, h2, ?_, hstep₁ _ fun acts => by rw [doInvoke_state]; exact h4⟩
    rw [X₁.warmed.alike.findClass] at h3
    exact h3
/-- the receiver of a call -/
theorem gI.recv {b ci : Nat} {C : String} {T : u_T} {N : Nat} {u : Unit} (hK : gK D s) (hI : gI D s A w H locs) (hc : gCl[ci]? = some (C, T, N)) (h : gck w b ci = some u) : ∃ cellB : Cell, H[b]? = some cellB ∧ cellB.vm.isStatics = false ∧ s.vm.findClass C = some cellB.cls := by
  obtain ⟨fs, h1⟩ := gck_some h
  obtain ⟨r, hr, cell, q1, q2, q3, q4⟩ := hI.2.1 b _ h1
  exact ⟨cell, q1, by rw [q3]; rfl, by rw [q2]; exact (hK.1 ci _ hc).2.1⟩
theorem gw_runV {b ci N : Nat} {C : String} {T0 : u_T} {u : Unit} (hx : p.tables.exec = Jvm.exec) (hb : c.code = cc) (hml : c.maxLocals = nL) (hown : s.vm.findClass own = some m.cls) (hT : gT s) (hK : gK D s) (hZ : gZ A s s.heap g0) (hA : ∀ q : Nat, s.heap.size ≤ q → A q) (hI : gI D s A w H locs)
    (hc : gCl[ci]? = some (C, T0, N)) (hck : gck w b ci = some u) (hM : gMet l y k rm D g0 (.ref b :: As) w o) (hC : gCe y k maxL n false) (hl : Cond.methodLink own index y ∈ gAll) (hse : Cond.selects C y y ∈ gAll) (hR : rm.frames + 1 ≤ R.frames ∧ 8 + (maxL + 11) + rm.locals ≤ R.locals)
    (hg : g.method = m) (hn : As.length = n) (hsize : g.locals.size = nL) (hstack : g.stack = As.reverse ++ .ref b :: rest) (hW : 2 * g.monitorRoom + (rest.map fun v => v.category).sum ≤ 8) (hdg : decode cc g.pc = .ok (.invokevirtual index, 3)) (hf : cells + rm.cells ≤ R.cells ∧ slots + rm.slots ≤ R.slots) :
    gRun p l e R s m args below meth c H locs cells slots g rest rm D w o := by
  intro T hT0 X
  obtain ⟨mk, methM, hnamed, hmethM, hstM, habM⟩ := Cond.instanceMethod_spec (hT _ hC.2.2.1 args)
  obtain ⟨methM', cM, hmethM', -, -, hsigM⟩ := hC.2.2.2.2.2 #[] s mk hnamed (hT _ hC.1.1 #[])
  cases hmethM.symm.trans hmethM'
  obtain ⟨cellB, hcB, hoB, hclB⟩ := hI.recv hK hc hck
  obtain ⟨c2, r2, m2, q1, q2, q3, q4, kP, hkP, hkPi⟩ := Cond.selects_spec (hT _ hse args)
  cases hclB.symm.trans q1
  cases (State.methodFound?_of_named hnamed hC.2.2.2.1).symm.trans q2
  cases hnamed.symm.trans q3
  have hselP : selectMethod e.platform s.vm cellB.cls mk = .method mk := by rw [Launch.admits_selectMethod X.admits]; exact q4
  obtain ⟨vm₁, X₁, hstep₁⟩ := X.invokevirtual hx hown (hT _ hl args) hnamed hmethM hstM hkP hkPi hC.2.2.2.1 (a := b) (cell := cellB) (by rw [hT0]; exact hcB)
    (fun z h => by rw [h] at hoB; cases hoB) hselP hmethM habM hkP hkPi (g := g) hg (argsL := As) (rest := rest) (hn.trans (hC.len hsigM)) hstack (by rw [hb]; exact hdg)
  obtain ⟨T', L, X', hL, hE, hout⟩ := gw_back (W9 := 8) (len := 3) (maxL := maxL) hM hR.1 hR.2 (hC.k hT) (hC.i hT) (fun a U mk hn hb => by obtain ⟨q1, q2, q3, q4, q5, -⟩ := hC.2.2.2.2.2 a U mk hn hb; exact ⟨q1, q2, q3, q4, q5⟩) X₁ (g := { g with stack := rest }) (ig := .invokevirtual index) hg (hsize.trans hml.symm) (by rw [hb]; exact hdg) hW (X₁.named hnamed) hf.1 hf.2 (gPre.up hT0 X₁.warmed hK hT hZ hA hI)
  refine ⟨T', L, X', hL, by rw [← hT0]; exact hE, ?_⟩
  obtain ⟨o1, o2⟩ := o
  cases o1 with
  | inr v => exact fun tg h => hstep₁ _ fun acts => by rw [doInvoke_state]; exact hout.trans h
  | inl E =>
    obtain ⟨q, ce, h1, h2, h3, h4⟩ := hout
    refine ⟨q, ce, h1, h2, ?_, hstep₁ _ fun acts => by rw [doInvoke_state]; exact h4⟩
    rw [X₁.warmed.alike.findClass] at h3
    exact h3
theorem gw_runI {b : Nat} {bs : ByteArray} (hx : p.tables.exec = Jvm.exec) (hb : c.code = cc) (hml : c.maxLocals = nL) (hown : s.vm.findClass own = some m.cls) (hT : gT s) (hK : gK D s) (hZ : gZ A s s.heap g0) (hA : ∀ q : Nat, s.heap.size ≤ q → A q) (hI : gI D s A w H locs)
    (hM : gMet l y (.code y bs maxL none) rm D g0 (.ref b :: As) w o) (hC : gCe y (.code y bs maxL none) maxL n false) (hl : Cond.methodLink own index y ∈ gAll) (hy1 : y.name = "<init>") (hR : rm.frames + 1 ≤ R.frames ∧ 8 + (maxL + 11) + rm.locals ≤ R.locals)
    (hg : g.method = m) (hn : As.length = n) (hsize : g.locals.size = nL) (hstack : g.stack = As.reverse ++ .ref b :: rest) (hW : 2 * g.monitorRoom + (rest.map fun v => v.category).sum ≤ 8) (hdg : decode cc g.pc = .ok (.invokespecial index, 3)) (hf : cells + rm.cells ≤ R.cells ∧ slots + rm.slots ≤ R.slots) :
    gRun p l e R s m args below meth c H locs cells slots g rest rm D w o := by
  subst hg
  intro T hT0 X
  have hpl : e.platform.magicAccessors = ({} : Platform).magicAccessors := by rw [X.admits.platform]
  obtain ⟨mk, methM, cM, kP, vm₁, hnamed, hmethM, hcodeM, -, hlocalsM, -, hkP, -, hW₁, hstep₁⟩ := Steps.initColdArgs (e := e) X.here hx X.warmed hpl hown hy1 hC.2.2.2.1 (hT _ hl args) (hT _ hC.2.2.1 args) (hT _ hC.1.1 args) (f := g) rfl (fun sig h => hn.trans (hC.len h)) hstack (by rw [hb]; exact hdg)
  have X₁ := X.noted hW₁
  obtain ⟨T', L, X', hL, hE, hout⟩ := gw_back (W9 := 8) (len := 3) (maxL := maxL) hM hR.1 hR.2 (hC.k hT) (hC.i hT) (fun a U mk hn hb => by obtain ⟨q1, q2, q3, q4, q5, -⟩ := hC.2.2.2.2.2 a U mk hn hb; exact ⟨q1, q2, q3, q4, q5⟩) X₁ (g := { g with stack := rest }) (ig := .invokespecial index) rfl (hsize.trans hml.symm) (by rw [hb]; exact hdg) hW (X₁.named hnamed) hf.1 hf.2 (gPre.up hT0 X₁.warmed hK hT hZ hA hI)
  refine ⟨T', L, X', hL, by rw [← hT0]; exact hE, ?_⟩
  obtain ⟨o1, o2⟩ := o
  cases o1 with
  | inr v => exact fun tg h => hstep₁ _ fun acts => by rw [doInvoke_state]; exact hout.trans h
  | inl E =>
    obtain ⟨q, ce, h1, h2, h3, h4⟩ := hout
    refine ⟨q, ce, h1, h2, ?_, hstep₁ _ fun acts => by rw [doInvoke_state]; exact h4⟩
    rw [X₁.warmed.alike.findClass] at h3
    exact h3
theorem gw_runIN {b : Nat} {bs : ByteArray} {host : String} (hx : p.tables.exec = Jvm.exec) (hb : c.code = cc) (hml : c.maxLocals = nL) (hown : s.vm.findClass own = some m.cls) (hT : gT s) (hK : gK D s) (hZ : gZ A s s.heap g0) (hA : ∀ q : Nat, s.heap.size ≤ q → A q) (hI : gI D s A w H locs)
    (hM : gMet l y (.code y bs maxL none) rm D g0 (.ref b :: As) w o) (hC : gCe y (.code y bs maxL none) maxL n false) (hl : Cond.methodLinkNest own index y host ∈ gAll) (hy1 : y.name = "<init>") (hR : rm.frames + 1 ≤ R.frames ∧ 8 + (maxL + 11) + rm.locals ≤ R.locals)
    (hg : g.method = m) (hn : As.length = n) (hsize : g.locals.size = nL) (hstack : g.stack = As.reverse ++ .ref b :: rest) (hW : 2 * g.monitorRoom + (rest.map fun v => v.category).sum ≤ 8) (hdg : decode cc g.pc = .ok (.invokespecial index, 3)) (hf : cells + rm.cells ≤ R.cells ∧ slots + rm.slots ≤ R.slots) :
    gRun p l e R s m args below meth c H locs cells slots g rest rm D w o := by
  subst hg
  intro T hT0 X
  have hpl : e.platform.magicAccessors = ({} : Platform).magicAccessors := by rw [X.admits.platform]
  obtain ⟨mk, methM, cM, kP, vm₁, hnamed, hmethM, hcodeM, -, hlocalsM, -, hkP, -, hW₁, hstep₁⟩ := Steps.initColdArgsNest (e := e) X.here hx X.warmed hpl hown hy1 hC.2.2.2.1 (hT _ hl args) (hT _ hC.2.2.1 args) (hT _ hC.1.1 args) (f := g) rfl (fun sig h => hn.trans (hC.len h)) hstack (by rw [hb]; exact hdg)
  have X₁ := X.noted hW₁
  obtain ⟨T', L, X', hL, hE, hout⟩ := gw_back (W9 := 8) (len := 3) (maxL := maxL) hM hR.1 hR.2 (hC.k hT) (hC.i hT) (fun a U mk hn hb => by obtain ⟨q1, q2, q3, q4, q5, -⟩ := hC.2.2.2.2.2 a U mk hn hb; exact ⟨q1, q2, q3, q4, q5⟩) X₁ (g := { g with stack := rest }) (ig := .invokespecial index) rfl (hsize.trans hml.symm) (by rw [hb]; exact hdg) hW (X₁.named hnamed) hf.1 hf.2 (gPre.up hT0 X₁.warmed hK hT hZ hA hI)
  refine ⟨T', L, X', hL, by rw [← hT0]; exact hE, ?_⟩
  obtain ⟨o1, o2⟩ := o
  cases o1 with
  | inr v => exact fun tg h => hstep₁ _ fun acts => by rw [doInvoke_state]; exact hout.trans h
  | inl E =>
    obtain ⟨q, ce, h1, h2, h3, h4⟩ := hout
    refine ⟨q, ce, h1, h2, ?_, hstep₁ _ fun acts => by rw [doInvoke_state]; exact h4⟩
    rw [X₁.warmed.alike.findClass] at h3
    exact h3
end GC
end
section
/-! ===== a method's body: how it ends ===== -/
def gMQ (below : List Frame) (D : gD) (w : gW) (o : (String ⊕ Option Value) × gW) (mc ms : Nat) (a : Array Value) (s : State) : State → Prop := fun t => ∃ oc, t.status = .running ∧ Ended t below oc ∧ gQ D w o mc ms a s oc t
/-- the frame g, with q thrown over it -/
def gXW (p : Program) (l : Launch) (e : Env) (R : Room) (s : State) (m : MethodId) (args : Array Value) (below : List Frame) (meth : Method) (c : Code) (H : Heap) (locs : List Loc) (cells slots : Nat) (Q : State → Prop) (g : JFrame) (q : Addr) : Prop :=
  ∀ T : State, T.heap = H → Stand p l e R s m args below meth c T locs cells slots → ∃ t, Steps p.tables e below ((T.setTop g).pushFrame (.throwing q)) t ∧ Q t
def goI (x : (String ⊕ Int32) × gW) : (String ⊕ Option Value) × gW := (match x.1 with | .inl E => .inl E | .inr v => .inr (some (.int v)), x.2)
def goJ (x : (String ⊕ Int64) × gW) : (String ⊕ Option Value) × gW := (match x.1 with | .inl E => .inl E | .inr v => .inr (some (.long v)), x.2)
def goA (x : (String ⊕ Nat) × gW) : (String ⊕ Option Value) × gW := (match x.1 with | .inl E => .inl E | .inr v => .inr (some (.ref v)), x.2)
def goV (x : (String ⊕ Unit) × gW) : (String ⊕ Option Value) × gW := (match x.1 with | .inl E => .inl E | .inr _ => .inr none, x.2)
/-- how an exception leaves -/
abbrev gEx (p : Program) (l : Launch) (e : Env) (R : Room) (s : State) (m : MethodId) (args : Array Value) (below : List Frame) (meth : Method) (c : Code) (Q : State → Prop) (D : gD) (A : Nat → Prop) {α : Type} (r : (String ⊕ α) × gW) : Prop :=
  ∀ (E : String) (w1 : gW), r = (.inl E, w1) → ∀ (pc : Nat) (ls : Array Slot) (rest : List Value) (H : Heap) (locs : List Loc) (q : Addr) (ce : Cell), gI D s A w1 H locs → H[q]? = some ce → ce.vm = .none → s.vm.findClass E = some ce.cls → gXW p l e R s m args below meth c H locs R.cells R.slots Q (F0 m pc ls rest) q
section GM
variable {p : Program} {l : Launch} {e : Env} {R : Room} {s : State} {m : MethodId} {args : Array Value} {below : List Frame} {meth : Method} {c : Code} {H : Heap} {locs : List Loc} {cells slots : Nat} {Q : State → Prop}
variable {pc : Nat} {ls : Array Slot} {rest st0 : List Value} {D : gD} {A : Nat → Prop} {w : gW} {rm : Room}
theorem gI.after {w' : gW} {H' : Heap} {L : List Loc} (hA : ∀ q : Nat, s.heap.size ≤ q → A q) (hI : gI D s A w H locs) (hE : gEndH D w w' H H') (hL : ∀ z ∈ L, gA w z.base) : gI D s A w' H' (locs ++ L) := by
  obtain ⟨h1, h2, h3, h4⟩ := hI
  obtain ⟨g1, g2, g3, g4, g5⟩ := hE
  have hsub : ∀ q : Nat, gA w q → A q := fun q hq => hq.elim (fun ⟨e, q1, q2⟩ => h4 q e q1 q2) (fun z => hA q (Nat.le_trans h3.1 (by rw [h1]; exact z)))
  refine ⟨g1, g2, ⟨Nat.le_trans h3.1 g4, fun q q1 q2 => ?_, fun z hz => ?_⟩, fun a e he hr => hsub _ (g3 a e he hr)⟩
  · rw [g5 q (Nat.lt_of_lt_of_le q1 h3.1) (fun z => q2 (hsub q z))]
    exact h3.2.1 q q1 q2
  · rcases List.mem_append.mp hz with h | h
    · exact h3.2.2 z h
    · exact hsub _ (hL z h)
theorem gw_callI {β : Type} {X : gX Int32} {K : Int32 → gW → gX β} {r : (String ⊕ β) × gW} {ov : (String ⊕ Int32) × gW} (e1 : X = some ov) (h : gbind X K = some r) (hr : gRun p l e R s m args below meth c H locs cells slots (F0 m pc ls st0) rest rm D w (goI ov)) (hI : gI D s A w H locs) (hA : ∀ q : Nat, s.heap.size ≤ q → A q) (hexc : gEx p l e R s m args below meth c Q D A r) (hc : cells + rm.cells ≤ R.cells) (hs : slots + rm.slots ≤ R.slots)
    (kk : ∀ (v : Int32) (w1 : gW) (H1 : Heap) (locs1 : List Loc), K v w1 = some r → gI D s A w1 H1 locs1 → W p l e R s m args below meth c H1 locs1 (cells + rm.cells) (slots + rm.slots) Q (F0 m (pc + 3) ls (.int v :: rest))) : W p l e R s m args below meth c H locs cells slots Q (F0 m pc ls st0) := by
  subst e1
  obtain ⟨ov, w1⟩ := ov
  intro T hT X
  obtain ⟨T', L, X', hL, hE, hout⟩ := hr T hT X
  cases ov with
  | inr v =>
    obtain ⟨t2, a1, b1⟩ := kk v w1 T'.heap (locs ++ L) h (hI.after hA hE hL) T' rfl X'
    exact ⟨t2, hout t2 a1, b1⟩
  | inl E =>
    obtain ⟨q, ce, h1, h2, h3, h4⟩ := hout
    obtain ⟨t2, a1, b1⟩ := hexc E w1 (Option.some.inj h).symm pc ls rest T'.heap (locs ++ L) q ce (hI.after hA hE hL) h1 h2 h3 T' rfl (stand_widen X' hc hs)
    exact ⟨t2, h4.trans a1, b1⟩
theorem gw_callJ {β : Type} {X : gX Int64} {K : Int64 → gW → gX β} {r : (String ⊕ β) × gW} {ov : (String ⊕ Int64) × gW} (e1 : X = some ov) (h : gbind X K = some r) (hr : gRun p l e R s m args below meth c H locs cells slots (F0 m pc ls st0) rest rm D w (goJ ov)) (hI : gI D s A w H locs) (hA : ∀ q : Nat, s.heap.size ≤ q → A q) (hexc : gEx p l e R s m args below meth c Q D A r) (hc : cells + rm.cells ≤ R.cells) (hs : slots + rm.slots ≤ R.slots)
    (kk : ∀ (v : Int64) (w1 : gW) (H1 : Heap) (locs1 : List Loc), K v w1 = some r → gI D s A w1 H1 locs1 → W p l e R s m args below meth c H1 locs1 (cells + rm.cells) (slots + rm.slots) Q (F0 m (pc + 3) ls (.long v :: rest))) : W p l e R s m args below meth c H locs cells slots Q (F0 m pc ls st0) := by
  subst e1
  obtain ⟨ov, w1⟩ := ov
  intro T hT X
  obtain ⟨T', L, X', hL, hE, hout⟩ := hr T hT X
  cases ov with
  | inr v =>
    obtain ⟨t2, a1, b1⟩ := kk v w1 T'.heap (locs ++ L) h (hI.after hA hE hL) T' rfl X'
    exact ⟨t2, hout t2 a1, b1⟩
  | inl E =>
    obtain ⟨q, ce, h1, h2, h3, h4⟩ := hout
    obtain ⟨t2, a1, b1⟩ := hexc E w1 (Option.some.inj h).symm pc ls rest T'.heap (locs ++ L) q ce (hI.after hA hE hL) h1 h2 h3 T' rfl (stand_widen X' hc hs)
    exact ⟨t2, h4.trans a1, b1⟩
theorem gw_callA {β : Type} {X : gX Nat} {K : Nat → gW → gX β} {r : (String ⊕ β) × gW} {ov : (String ⊕ Nat) × gW} (e1 : X = some ov) (h : gbind X K = some r) (hr : gRun p l e R s m args below meth c H locs cells slots (F0 m pc ls st0) rest rm D w (goA ov)) (hI : gI D s A w H locs) (hA : ∀ q : Nat, s.heap.size ≤ q → A q) (hexc : gEx p l e R s m args below meth c Q D A r) (hc : cells + rm.cells ≤ R.cells) (hs : slots + rm.slots ≤ R.slots)
    (kk : ∀ (v : Nat) (w1 : gW) (H1 : Heap) (locs1 : List Loc), K v w1 = some r → gI D s A w1 H1 locs1 → W p l e R s m args below meth c H1 locs1 (cells + rm.cells) (slots + rm.slots) Q (F0 m (pc + 3) ls (.ref v :: rest))) : W p l e R s m args below meth c H locs cells slots Q (F0 m pc ls st0) := by
  subst e1
  obtain ⟨ov, w1⟩ := ov
  intro T hT X
  obtain ⟨T', L, X', hL, hE, hout⟩ := hr T hT X
  cases ov with
  | inr v =>
    obtain ⟨t2, a1, b1⟩ := kk v w1 T'.heap (locs ++ L) h (hI.after hA hE hL) T' rfl X'
    exact ⟨t2, hout t2 a1, b1⟩
  | inl E =>
    obtain ⟨q, ce, h1, h2, h3, h4⟩ := hout
    obtain ⟨t2, a1, b1⟩ := hexc E w1 (Option.some.inj h).symm pc ls rest T'.heap (locs ++ L) q ce (hI.after hA hE hL) h1 h2 h3 T' rfl (stand_widen X' hc hs)
    exact ⟨t2, h4.trans a1, b1⟩
theorem gw_callV {β : Type} {X : gX Unit} {K : Unit → gW → gX β} {r : (String ⊕ β) × gW} {ov : (String ⊕ Unit) × gW} (e1 : X = some ov) (h : gbind X K = some r) (hr : gRun p l e R s m args below meth c H locs cells slots (F0 m pc ls st0) rest rm D w (goV ov)) (hI : gI D s A w H locs) (hA : ∀ q : Nat, s.heap.size ≤ q → A q) (hexc : gEx p l e R s m args below meth c Q D A r) (hc : cells + rm.cells ≤ R.cells) (hs : slots + rm.slots ≤ R.slots)
    (kk : ∀ (v : Unit) (w1 : gW) (H1 : Heap) (locs1 : List Loc), K v w1 = some r → gI D s A w1 H1 locs1 → W p l e R s m args below meth c H1 locs1 (cells + rm.cells) (slots + rm.slots) Q (F0 m (pc + 3) ls rest)) : W p l e R s m args below meth c H locs cells slots Q (F0 m pc ls st0) := by
  subst e1
  obtain ⟨ov, w1⟩ := ov
  intro T hT X
  obtain ⟨T', L, X', hL, hE, hout⟩ := hr T hT X
  cases ov with
  | inr v =>
    obtain ⟨t2, a1, b1⟩ := kk v w1 T'.heap (locs ++ L) h (hI.after hA hE hL) T' rfl X'
    exact ⟨t2, hout t2 a1, b1⟩
  | inl E =>
    obtain ⟨q, ce, h1, h2, h3, h4⟩ := hout
    obtain ⟨t2, a1, b1⟩ := hexc E w1 (Option.some.inj h).symm pc ls rest T'.heap (locs ++ L) q ce (hI.after hA hE hL) h1 h2 h3 T' rfl (stand_widen X' hc hs)
    exact ⟨t2, h4.trans a1, b1⟩
/-- the kit's end of a walk, as this contract's -/
theorem gw_end {y : MethodName} {w0 : gW} {v : Option Value} {w1 : gW} {mc ms : Nat} {g : JFrame} (hI : gI D s (gA w0) w1 H locs)
    (k : W p l e R s m args below meth c H locs mc ms (MQ below (fun _ _ oc t => oc = .returned v ∧ t.heap = H ∧ s.WarmedH t.vm) args s mc ms (gA w0)) g) : W p l e R s m args below meth c H locs mc ms (gMQ below D w0 (.inr v, w1) mc ms args s) g := by
  intro T hT X
  obtain ⟨t, a1, oc, b1, b2, ⟨rfl, hh, hW⟩, L, ⟨-, -, hF⟩, hL⟩ := k T hT X
  obtain ⟨h1, h2, h3, h4⟩ := hI
  refine ⟨t, a1, _, b1, b2, ⟨by rw [hh]; exact h1, fun a e he => by rw [hh]; exact h2 a e he, h4, ⟨by rw [hh]; exact h3.1, fun q q1 q2 => by rw [hh]; exact h3.2.1 q q1 q2⟩⟩, hW, ⟨L, hF, hL⟩, rfl⟩
variable {w0 : gW} {cc : ByteArray}
theorem gw_retI (hx : p.tables.exec = Jvm.exec) (hb : c.code = cc) (hr : meth.sig.returnType = some .int) (hlocks : meth.locks = false) (r : (String ⊕ Int32) × gW) : ∀ (v : Int32) (w1 : gW), r = (.inr v, w1) → ∀ (pc : Nat) (ls : Array Slot) (H : Heap) (locs : List Loc), decode cc pc = .ok (.ireturn, 1) → gI D s (gA w0) w1 H locs → W p l e R s m args below meth c H locs R.cells R.slots (gMQ below D w0 (goI r) R.cells R.slots args s) (F0 m pc ls [.int v]) := by
  intro v w1 h pc ls H locs hdg hI
  subst h
  exact gw_end (y := ⟨"", "", ""⟩) hI (W.iret hx hb hr (fun t ht hW => ⟨rfl, ht, hW⟩) hI.2.2.1.2.2 hdg hlocks)
theorem gw_retZ (hx : p.tables.exec = Jvm.exec) (hb : c.code = cc) (hr : meth.sig.returnType = some .boolean) (hlocks : meth.locks = false) (r : (String ⊕ Int32) × gW) : ∀ {v : Int32}, (v = 0 ∨ v = 1) → ∀ (v' : Int32) (w1 : gW), r = (.inr v, w1) → ∀ (pc : Nat) (ls : Array Slot) (H : Heap) (locs : List Loc), decode cc pc = .ok (.ireturn, 1) → gI D s (gA w0) w1 H locs → W p l e R s m args below meth c H locs R.cells R.slots (gMQ below D w0 (goI r) R.cells R.slots args s) (F0 m pc ls [.int v]) := by
  intro v hv _ w1 h pc ls H locs hdg hI
  subst h
  exact gw_end (y := ⟨"", "", ""⟩) hI (W.zret hx hb hr (by rcases hv with rfl | rfl <;> rfl) (fun t ht hW => ⟨rfl, ht, hW⟩) hI.2.2.1.2.2 hdg hlocks)
theorem gw_retJ (hx : p.tables.exec = Jvm.exec) (hb : c.code = cc) (hr : meth.sig.returnType = some .long) (hlocks : meth.locks = false) (r : (String ⊕ Int64) × gW) : ∀ (v : Int64) (w1 : gW), r = (.inr v, w1) → ∀ (pc : Nat) (ls : Array Slot) (H : Heap) (locs : List Loc), decode cc pc = .ok (.lreturn, 1) → gI D s (gA w0) w1 H locs → W p l e R s m args below meth c H locs R.cells R.slots (gMQ below D w0 (goJ r) R.cells R.slots args s) (F0 m pc ls [.long v]) := by
  intro v w1 h pc ls H locs hdg hI
  subst h
  exact gw_end (y := ⟨"", "", ""⟩) hI (W.lret hx hb hr (fun t ht hW => ⟨rfl, ht, hW⟩) hI.2.2.1.2.2 hdg hlocks)
theorem gw_retV (hx : p.tables.exec = Jvm.exec) (hb : c.code = cc) (hr : meth.sig.returnType = none) (hlocks : meth.locks = false) (r : (String ⊕ Unit) × gW) : ∀ (v : Unit) (w1 : gW), r = (.inr v, w1) → ∀ (pc : Nat) (ls : Array Slot) (H : Heap) (locs : List Loc), decode cc pc = .ok (.return_, 1) → gI D s (gA w0) w1 H locs → W p l e R s m args below meth c H locs R.cells R.slots (gMQ below D w0 (goV r) R.cells R.slots args s) (F0 m pc ls []) := by
  intro v w1 h pc ls H locs hdg hI
  subst h
  exact gw_end (y := ⟨"", "", ""⟩) hI (W.vret hx hb hr (fun t ht hW => ⟨rfl, ht, hW⟩) hI.2.2.1.2.2 hdg hlocks)
theorem gw_retA {rt : FieldType} (hx : p.tables.exec = Jvm.exec) (hb : c.code = cc) (hr : meth.sig.returnType = some rt) (hrt : (∃ n, rt = .object n) ∨ ∃ t, rt = .array t) (hlocks : meth.locks = false) (r : (String ⊕ Nat) × gW) : ∀ (v : Nat) (w1 : gW), r = (.inr v, w1) → ∀ (pc : Nat) (ls : Array Slot) (H : Heap) (locs : List Loc), decode cc pc = .ok (.areturn, 1) → gI D s (gA w0) w1 H locs → W p l e R s m args below meth c H locs R.cells R.slots (gMQ below D w0 (goA r) R.cells R.slots args s) (F0 m pc ls [.ref v]) := by
  intro v w1 h pc ls H locs hdg hI
  subst h
  exact gw_end (y := ⟨"", "", ""⟩) hI (W.aret hx hb hr hrt (Or.inr ⟨v, rfl⟩) (fun t ht hW => ⟨rfl, ht, hW⟩) hI.2.2.1.2.2 hdg hlocks)
/-- an exception leaves a method without handlers -/
theorem gw_exc {α : Type} {r : (String ⊕ α) × gW} {o : (String ⊕ Option Value) × gW} (ho : ∀ (E : String) (w1 : gW), r = (.inl E, w1) → o = (.inl E, w1)) (htab : ∀ x ∈ c.exceptionTable.toList, False) (hlocks : meth.locks = false) : gEx p l e R s m args below meth c (gMQ below D w0 o R.cells R.slots args s) D (gA w0) r := by
  intro E w1 h pc ls rest H locs q ce hI h1 h2 h3 T hT X
  obtain ⟨st1, hrun, hend, hW, hsm⟩ := X.leaveThrown q (g := F0 m pc ls rest) rfl rfl rfl (fun x hx => (htab x hx).elim) hlocks
  rw [ho E w1 h]
  obtain ⟨g1, g2, g3, g4⟩ := hI
  have hh : (T.setFrames (.throwing q :: below)).heap = H := hT
  refine ⟨_, st1, .threw q, hrun, hend, ⟨by rw [hh]; exact g1, fun a e he => by rw [hh]; exact g2 a e he, g4, ⟨by rw [hh]; exact g3.1, fun z q1 q2 => by rw [hh]; exact g3.2.1 z q1 q2⟩⟩, hW, ⟨locs, hsm, g3.2.2⟩, q, ce, rfl, by rw [hh]; exact h1, h2, h3⟩
end GM
/-- a contract out of a walk of the body -/
theorem gw_of {l : Launch} {y : MethodName} {cc : ByteArray} {maxL : Nat} {ret : Option FieldType} {rm : Room} {D : gD} {g0 : Nat} {av : List Value} {w : gW} {o : (String ⊕ Option Value) × gW} (hy : plainFor y = true) (hlen : (lg_sl av).length ≤ maxL)
    (body : ∀ (p : Program) (e : Env) (s : State) (m : MethodId) (below : List Frame) (meth : Method) (c : Code) (ls : Array Slot), p.tables.exec = Jvm.exec → c.code = cc → meth.sig.returnType = ret → c.maxLocals = maxL → s.vm.findClass y.cls = some m.cls → meth.locks = false → meth.name = y.name → (∀ x ∈ c.exceptionTable.toList, False) → gT s → gK D s → gZ (gA w) s s.heap g0 → (∀ q : Nat, s.heap.size ≤ q → gA w q) → gI D s (gA w) w s.heap [] → lv_has ls maxL (lv_args 0 av) →
      W p l e rm s m av.toArray below meth c s.heap [] 0 0 (gMQ below D w o rm.cells rm.slots av.toArray s) (F0 m 0 ls [])) : gMet l y (.code y cc maxL ret) rm D g0 av w o := by
  refine MetFree.of_bodySF (code := cc) (maxLocals := maxL) (ret := ret) hy ?_ ?_
  · intro args s m h hn
    obtain ⟨meth, c, h1, h2, h3, h4, h5, h6, -, -⟩ := Cond.code_spec hn (atoms_spec (ws := [.code y cc maxL ret]) h _ List.mem_cons_self)
    exact ⟨meth, c, h1, h2, h3, h4, h5, h6⟩
  · intro p e s m args below meth c s₁ B hml hP _
    obtain ⟨rfl, q1, q2, q3, q4, q5⟩ := hP
    have hh0 : s₁.heap = s.heap := by rw [B.state]; rfl
    have htab : ∀ x ∈ c.exceptionTable.toList, False := by
      obtain ⟨meth9, c9, h1, h2, -, -, -, -, h7, -⟩ := Cond.code_spec B.named (atoms_spec (ws := [.code y cc maxL ret]) B.pre _ List.mem_cons_self)
      cases Option.some.inj (h1.symm.trans B.method)
      cases Option.some.inj (h2.symm.trans (Stand.of_body B).code)
      intro x hx
      rw [Array.isEmpty_iff.mp h7] at hx
      cases hx
    have hl := lv_entry av (n := maxL) hlen
    have hW := body p e s m below meth c _ B.exec B.bytes B.returns hml (findClass_of_methodNamed B.named) B.notSynchronized (name_of_methodNamed B.named B.method).1 htab q4 q3 q5 (fun q hq => Or.inr (by rw [← q1]; exact hq)) ⟨q1, q2, va_S.rf, fun a e he hr => Or.inl ⟨e, he, hr⟩⟩ hl
    rw [← lg_entry_eq] at hW
    obtain ⟨t, a1, oc, b1, b2, b3⟩ := hW s₁ hh0 (Stand.of_body B)
    exact ⟨t, oc, a1, b1, b2, b3⟩
theorem gw_ofI {l : Launch} {y : MethodName} {cc : ByteArray} {maxL : Nat} {rm : Room} {D : gD} {g0 : Nat} {av : List Value} {w : gW} {r : (String ⊕ Int32) × gW} (hy : plainFor y = true) (hlen : (lg_sl av).length ≤ maxL) 
    (body : ∀ (p : Program) (e : Env) (s : State) (m : MethodId) (below : List Frame) (meth : Method) (c : Code) (ls : Array Slot) (args : Array Value) (A : Nat → Prop) (Q : State → Prop), p.tables.exec = Jvm.exec → c.code = cc → c.maxLocals = maxL → s.vm.findClass y.cls = some m.cls → meth.locks = false → meth.name = y.name → (∀ x ∈ c.exceptionTable.toList, False) → gT s → gK D s → gZ A s s.heap g0 → (∀ q : Nat, s.heap.size ≤ q → A q) → (∀ (v : Int32) (w1 : gW), r = (.inr v, w1) → ∀ (pc : Nat) (ls : Array Slot) (H : Heap) (locs : List Loc), decode cc pc = .ok (.ireturn, 1) → gI D s A w1 H locs → W p l e rm s m args below meth c H locs rm.cells rm.slots Q (F0 m pc ls [.int v])) → gEx p l e rm s m args below meth c Q D A r → gI D s A w s.heap [] → lv_has ls maxL (lv_args 0 av) →
      W p l e rm s m args below meth c s.heap [] 0 0 Q (F0 m 0 ls [])) : gMet l y (.code y cc maxL (some .int)) rm D g0 av w (goI r) := by
  refine gw_of hy hlen ?_
  intro p e s m below meth c ls h1 h2 h3 h4 h5 h6 h7 h8 h9 h10 h11 h12 h13 h14
  exact body p e s m below meth c ls _ _ _ h1 h2 h4 h5 h6 h7 h8 h9 h10 h11 h12 (gw_retI h1 h2 h3 h6 r) (gw_exc (fun E w1 h => by rw [h]; rfl) h8 h6) h13 h14
theorem gw_ofZ {l : Launch} {y : MethodName} {cc : ByteArray} {maxL : Nat} {rm : Room} {D : gD} {g0 : Nat} {av : List Value} {w : gW} {r : (String ⊕ Int32) × gW} (hy : plainFor y = true) (hlen : (lg_sl av).length ≤ maxL) 
    (body : ∀ (p : Program) (e : Env) (s : State) (m : MethodId) (below : List Frame) (meth : Method) (c : Code) (ls : Array Slot) (args : Array Value) (A : Nat → Prop) (Q : State → Prop), p.tables.exec = Jvm.exec → c.code = cc → c.maxLocals = maxL → s.vm.findClass y.cls = some m.cls → meth.locks = false → meth.name = y.name → (∀ x ∈ c.exceptionTable.toList, False) → gT s → gK D s → gZ A s s.heap g0 → (∀ q : Nat, s.heap.size ≤ q → A q) → (∀ {v : Int32}, (v = 0 ∨ v = 1) → ∀ (v' : Int32) (w1 : gW), r = (.inr v, w1) → ∀ (pc : Nat) (ls : Array Slot) (H : Heap) (locs : List Loc), decode cc pc = .ok (.ireturn, 1) → gI D s A w1 H locs → W p l e rm s m args below meth c H locs rm.cells rm.slots Q (F0 m pc ls [.int v])) → gEx p l e rm s m args below meth c Q D A r → gI D s A w s.heap [] → lv_has ls maxL (lv_args 0 av) →
      W p l e rm s m args below meth c s.heap [] 0 0 Q (F0 m 0 ls [])) : gMet l y (.code y cc maxL (some .boolean)) rm D g0 av w (goI r) := by
  refine gw_of hy hlen ?_
  intro p e s m below meth c ls h1 h2 h3 h4 h5 h6 h7 h8 h9 h10 h11 h12 h13 h14
  exact body p e s m below meth c ls _ _ _ h1 h2 h4 h5 h6 h7 h8 h9 h10 h11 h12 (gw_retZ h1 h2 h3 h6 r) (gw_exc (fun E w1 h => by rw [h]; rfl) h8 h6) h13 h14
theorem gw_ofJ {l : Launch} {y : MethodName} {cc : ByteArray} {maxL : Nat} {rm : Room} {D : gD} {g0 : Nat} {av : List Value} {w : gW} {r : (String ⊕ Int64) × gW} (hy : plainFor y = true) (hlen : (lg_sl av).length ≤ maxL) 
    (body : ∀ (p : Program) (e : Env) (s : State) (m : MethodId) (below : List Frame) (meth : Method) (c : Code) (ls : Array Slot) (args : Array Value) (A : Nat → Prop) (Q : State → Prop), p.tables.exec = Jvm.exec → c.code = cc → c.maxLocals = maxL → s.vm.findClass y.cls = some m.cls → meth.locks = false → meth.name = y.name → (∀ x ∈ c.exceptionTable.toList, False) → gT s → gK D s → gZ A s s.heap g0 → (∀ q : Nat, s.heap.size ≤ q → A q) → (∀ (v : Int64) (w1 : gW), r = (.inr v, w1) → ∀ (pc : Nat) (ls : Array Slot) (H : Heap) (locs : List Loc), decode cc pc = .ok (.lreturn, 1) → gI D s A w1 H locs → W p l e rm s m args below meth c H locs rm.cells rm.slots Q (F0 m pc ls [.long v])) → gEx p l e rm s m args below meth c Q D A r → gI D s A w s.heap [] → lv_has ls maxL (lv_args 0 av) →
      W p l e rm s m args below meth c s.heap [] 0 0 Q (F0 m 0 ls [])) : gMet l y (.code y cc maxL (some .long)) rm D g0 av w (goJ r) := by
  refine gw_of hy hlen ?_
  intro p e s m below meth c ls h1 h2 h3 h4 h5 h6 h7 h8 h9 h10 h11 h12 h13 h14
  exact body p e s m below meth c ls _ _ _ h1 h2 h4 h5 h6 h7 h8 h9 h10 h11 h12 (gw_retJ h1 h2 h3 h6 r) (gw_exc (fun E w1 h => by rw [h]; rfl) h8 h6) h13 h14
theorem gw_ofV {l : Launch} {y : MethodName} {cc : ByteArray} {maxL : Nat} {rm : Room} {D : gD} {g0 : Nat} {av : List Value} {w : gW} {r : (String ⊕ Unit) × gW} (hy : plainFor y = true) (hlen : (lg_sl av).length ≤ maxL) 
    (body : ∀ (p : Program) (e : Env) (s : State) (m : MethodId) (below : List Frame) (meth : Method) (c : Code) (ls : Array Slot) (args : Array Value) (A : Nat → Prop) (Q : State → Prop), p.tables.exec = Jvm.exec → c.code = cc → c.maxLocals = maxL → s.vm.findClass y.cls = some m.cls → meth.locks = false → meth.name = y.name → (∀ x ∈ c.exceptionTable.toList, False) → gT s → gK D s → gZ A s s.heap g0 → (∀ q : Nat, s.heap.size ≤ q → A q) → (∀ (v : Unit) (w1 : gW), r = (.inr v, w1) → ∀ (pc : Nat) (ls : Array Slot) (H : Heap) (locs : List Loc), decode cc pc = .ok (.return_, 1) → gI D s A w1 H locs → W p l e rm s m args below meth c H locs rm.cells rm.slots Q (F0 m pc ls [])) → gEx p l e rm s m args below meth c Q D A r → gI D s A w s.heap [] → lv_has ls maxL (lv_args 0 av) →
      W p l e rm s m args below meth c s.heap [] 0 0 Q (F0 m 0 ls [])) : gMet l y (.code y cc maxL none) rm D g0 av w (goV r) := by
  refine gw_of hy hlen ?_
  intro p e s m below meth c ls h1 h2 h3 h4 h5 h6 h7 h8 h9 h10 h11 h12 h13 h14
  exact body p e s m below meth c ls _ _ _ h1 h2 h4 h5 h6 h7 h8 h9 h10 h11 h12 (gw_retV h1 h2 h3 h6 r) (gw_exc (fun E w1 h => by rw [h]; rfl) h8 h6) h13 h14
theorem gw_ofA {l : Launch} {y : MethodName} {cc : ByteArray} {maxL : Nat} {rt : FieldType} {rm : Room} {D : gD} {g0 : Nat} {av : List Value} {w : gW} {r : (String ⊕ Nat) × gW} (hy : plainFor y = true) (hlen : (lg_sl av).length ≤ maxL) (hrt : (∃ n, rt = .object n) ∨ ∃ t, rt = .array t)
    (body : ∀ (p : Program) (e : Env) (s : State) (m : MethodId) (below : List Frame) (meth : Method) (c : Code) (ls : Array Slot) (args : Array Value) (A : Nat → Prop) (Q : State → Prop), p.tables.exec = Jvm.exec → c.code = cc → c.maxLocals = maxL → s.vm.findClass y.cls = some m.cls → meth.locks = false → meth.name = y.name → (∀ x ∈ c.exceptionTable.toList, False) → gT s → gK D s → gZ A s s.heap g0 → (∀ q : Nat, s.heap.size ≤ q → A q) → (∀ (v : Nat) (w1 : gW), r = (.inr v, w1) → ∀ (pc : Nat) (ls : Array Slot) (H : Heap) (locs : List Loc), decode cc pc = .ok (.areturn, 1) → gI D s A w1 H locs → W p l e rm s m args below meth c H locs rm.cells rm.slots Q (F0 m pc ls [.ref v])) → gEx p l e rm s m args below meth c Q D A r → gI D s A w s.heap [] → lv_has ls maxL (lv_args 0 av) →
      W p l e rm s m args below meth c s.heap [] 0 0 Q (F0 m 0 ls [])) : gMet l y (.code y cc maxL (some rt)) rm D g0 av w (goA r) := by
  refine gw_of hy hlen ?_
  intro p e s m below meth c ls h1 h2 h3 h4 h5 h6 h7 h8 h9 h10 h11 h12 h13 h14
  exact body p e s m below meth c ls _ _ _ h1 h2 h4 h5 h6 h7 h8 h9 h10 h11 h12 (gw_retA h1 h2 h3 hrt h6 r) (gw_exc (fun E w1 h => by rw [h]; rfl) h8 h6) h13 h14
end
section
theorem df_0 : ∀ j, j < 10 → defaultValue (t_0 j) = vp_V [.long 0, .null, .null, .null, .null, .null, .int 0, .null, .null, .null] j := by decide +kernel
theorem df_1 : ∀ j, j < 3 → defaultValue (t_1 j) = vp_V [.null, .int 0, .int 0] j := by decide +kernel
theorem df_2 : ∀ j, j < 2 → defaultValue (t_2 j) = vp_V [.null, .int 0] j := by decide +kernel
theorem df_3 : ∀ j, j < 12 → defaultValue (t_3 j) = vp_V [.int 0, .long 0, .long 0, .null, .null, .int 0, .long 0, .long 0, .long 0, .long 0, .long 0, .long 0] j := by decide +kernel
theorem df_4 : ∀ j, j < 2 → defaultValue (t_4 j) = vp_V [.null, .long 0] j := by decide +kernel
theorem df_5 : ∀ j, j < 5 → defaultValue (t_5 j) = vp_V [.null, .long 0, .long 0, .int 0, .int 0] j := by decide +kernel
theorem df_6 : ∀ j, j < 2 → defaultValue (t_6 j) = vp_V [.null, .int 0] j := by decide +kernel
theorem df_7 : ∀ j, j < 27 → defaultValue (t_7 j) = vp_V [.int 0, .long 0, .int 0, .null, .null, .null, .null, .null, .null, .int 0, .null, .null, .int 0, .null, .null, .null, .null, .null, .int 0, .null, .null, .null, .null, .null, .null, .null, .null] j := by decide +kernel
theorem wd_50 : Jvm.Cond.initialized "java/lang/Math" ∈ gAll := gm 50 rfl rfl
theorem wd_69 : Jvm.Cond.initialized "BodySolids$Meeting" ∈ gAll := gm 69 rfl rfl
theorem wd_85 : Jvm.Cond.static ({ cls := "java/lang/Math", name := "max", desc := "(JJ)J" } : Jvm.MethodName) ∈ gAll := gm 85 rfl rfl
theorem wd_86 : Jvm.Cond.code ({ cls := "java/lang/Math", name := "max", desc := "(JJ)J" } : Jvm.MethodName) prog_17_method_66_code (4 : Nat) (Option.some Jvm.ClassFile.FieldType.long) ∈ gAll := gm 86 rfl rfl
theorem wd_130 : Jvm.Cond.fieldLink "BodySolids$Meeting" (71 : Nat) "BodySolids$Solid" "kind" "I" ∈ gAll := gm 130 rfl rfl
theorem wd_131 : Jvm.Cond.fieldLink "BodySolids$Meeting" (9 : Nat) "BodySolids$Solid" "flat" "J" ∈ gAll := gm 131 rfl rfl
theorem wd_133 : Jvm.Cond.fieldLink "BodySolids$Meeting" (15 : Nat) "BodySolids$Solid" "round" "J" ∈ gAll := gm 133 rfl rfl
theorem wd_136 : Jvm.Cond.fieldLink "BodySolids$Meeting" (81 : Nat) "BodySolids$Solid" "xs" "[J" ∈ gAll := gm 136 rfl rfl
theorem wd_138 : Jvm.Cond.fieldLink "BodySolids$Meeting" (85 : Nat) "BodySolids$Solid" "ys" "[J" ∈ gAll := gm 138 rfl rfl
theorem wd_140 : Jvm.Cond.fieldLink "BodySolids$Meeting" (78 : Nat) "BodySolids$Solid" "corners" "I" ∈ gAll := gm 140 rfl rfl
theorem wd_141 : Jvm.Cond.fieldLink "BodySolids$Meeting" (18 : Nat) "BodySolids$Solid" "x0" "J" ∈ gAll := gm 141 rfl rfl
theorem wd_143 : Jvm.Cond.fieldLink "BodySolids$Meeting" (30 : Nat) "BodySolids$Solid" "y0" "J" ∈ gAll := gm 143 rfl rfl
theorem wd_145 : Jvm.Cond.fieldLink "BodySolids$Meeting" (36 : Nat) "BodySolids$Solid" "z0" "J" ∈ gAll := gm 145 rfl rfl
theorem wd_147 : Jvm.Cond.fieldLink "BodySolids$Meeting" (21 : Nat) "BodySolids$Solid" "x1" "J" ∈ gAll := gm 147 rfl rfl
theorem wd_149 : Jvm.Cond.fieldLink "BodySolids$Meeting" (33 : Nat) "BodySolids$Solid" "y1" "J" ∈ gAll := gm 149 rfl rfl
theorem wd_151 : Jvm.Cond.fieldLink "BodySolids$Meeting" (39 : Nat) "BodySolids$Solid" "z1" "J" ∈ gAll := gm 151 rfl rfl
theorem wd_270 : Jvm.Cond.static ({ cls := "java/lang/Math", name := "max", desc := "(II)I" } : Jvm.MethodName) ∈ gAll := gm 270 rfl rfl
theorem wd_271 : Jvm.Cond.code ({ cls := "java/lang/Math", name := "max", desc := "(II)I" } : Jvm.MethodName) prog_17_method_65_code (2 : Nat) (Option.some Jvm.ClassFile.FieldType.int) ∈ gAll := gm 271 rfl rfl
theorem wd_301 : Jvm.Cond.static ({ cls := "java/lang/Math", name := "min", desc := "(II)I" } : Jvm.MethodName) ∈ gAll := gm 301 rfl rfl
theorem wd_302 : Jvm.Cond.code ({ cls := "java/lang/Math", name := "min", desc := "(II)I" } : Jvm.MethodName) prog_17_method_69_code (2 : Nat) (Option.some Jvm.ClassFile.FieldType.int) ∈ gAll := gm 302 rfl rfl
theorem wd_374 : Jvm.Cond.static ({ cls := "BodySolids$Meeting", name := "of", desc := "(LBodySolids$Solid;LBodySolids$Solid;)I" } : Jvm.MethodName) ∈ gAll := gm 374 rfl rfl
theorem wd_375 : Jvm.Cond.code ({ cls := "BodySolids$Meeting", name := "of", desc := "(LBodySolids$Solid;LBodySolids$Solid;)I" } : Jvm.MethodName) prog_5_method_2_code (14 : Nat) (Option.some Jvm.ClassFile.FieldType.int) ∈ gAll := gm 375 rfl rfl
theorem wd_376 : Jvm.Cond.methodLink "BodySolids$Meeting" (24 : Nat) ({ cls := "BodySolids$Meeting", name := "gap", desc := "(JJJJ)J" } : Jvm.MethodName) ∈ gAll := gm 376 rfl rfl
theorem wd_377 : Jvm.Cond.static ({ cls := "BodySolids$Meeting", name := "gap", desc := "(JJJJ)J" } : Jvm.MethodName) ∈ gAll := gm 377 rfl rfl
theorem wd_378 : Jvm.Cond.code ({ cls := "BodySolids$Meeting", name := "gap", desc := "(JJJJ)J" } : Jvm.MethodName) prog_5_method_3_code (8 : Nat) (Option.some Jvm.ClassFile.FieldType.long) ∈ gAll := gm 378 rfl rfl
theorem wd_379 : Jvm.Cond.methodLink "BodySolids$Meeting" (68 : Nat) ({ cls := "java/lang/Math", name := "max", desc := "(JJ)J" } : Jvm.MethodName) ∈ gAll := gm 379 rfl rfl
theorem wd_380 : Jvm.Cond.methodLink "BodySolids$Meeting" (42 : Nat) ({ cls := "BodySolids$Meeting", name := "outlines", desc := "(LBodySolids$Solid;LBodySolids$Solid;)I" } : Jvm.MethodName) ∈ gAll := gm 380 rfl rfl
theorem wd_381 : Jvm.Cond.static ({ cls := "BodySolids$Meeting", name := "outlines", desc := "(LBodySolids$Solid;LBodySolids$Solid;)I" } : Jvm.MethodName) ∈ gAll := gm 381 rfl rfl
theorem wd_382 : Jvm.Cond.code ({ cls := "BodySolids$Meeting", name := "outlines", desc := "(LBodySolids$Solid;LBodySolids$Solid;)I" } : Jvm.MethodName) prog_5_method_6_code (7 : Nat) (Option.some Jvm.ClassFile.FieldType.int) ∈ gAll := gm 382 rfl rfl
theorem wd_383 : Jvm.Cond.methodLink "BodySolids$Meeting" (50 : Nat) ({ cls := "BodySolids$Meeting", name := "sign", desc := "(J)I" } : Jvm.MethodName) ∈ gAll := gm 383 rfl rfl
theorem wd_384 : Jvm.Cond.static ({ cls := "BodySolids$Meeting", name := "sign", desc := "(J)I" } : Jvm.MethodName) ∈ gAll := gm 384 rfl rfl
theorem wd_385 : Jvm.Cond.code ({ cls := "BodySolids$Meeting", name := "sign", desc := "(J)I" } : Jvm.MethodName) prog_5_method_4_code (2 : Nat) (Option.some Jvm.ClassFile.FieldType.int) ∈ gAll := gm 385 rfl rfl
theorem wd_386 : Jvm.Cond.methodLink "BodySolids$Meeting" (75 : Nat) ({ cls := "BodySolids$Meeting", name := "partedBySides", desc := "(LBodySolids$Solid;LBodySolids$Solid;)I" } : Jvm.MethodName) ∈ gAll := gm 386 rfl rfl
theorem wd_387 : Jvm.Cond.static ({ cls := "BodySolids$Meeting", name := "partedBySides", desc := "(LBodySolids$Solid;LBodySolids$Solid;)I" } : Jvm.MethodName) ∈ gAll := gm 387 rfl rfl
theorem wd_388 : Jvm.Cond.code ({ cls := "BodySolids$Meeting", name := "partedBySides", desc := "(LBodySolids$Solid;LBodySolids$Solid;)I" } : Jvm.MethodName) prog_5_method_7_code (13 : Nat) (Option.some Jvm.ClassFile.FieldType.int) ∈ gAll := gm 388 rfl rfl
theorem wd_389 : Jvm.Cond.methodLink "BodySolids$Meeting" (88 : Nat) ({ cls := "java/lang/Math", name := "min", desc := "(II)I" } : Jvm.MethodName) ∈ gAll := gm 389 rfl rfl
theorem wd_390 : Jvm.Cond.methodLink "BodySolids$Meeting" (54 : Nat) ({ cls := "java/lang/Math", name := "max", desc := "(II)I" } : Jvm.MethodName) ∈ gAll := gm 390 rfl rfl
theorem wd_391 : Jvm.Cond.methodLink "BodySolids$Meeting" (46 : Nat) ({ cls := "BodySolids$Meeting", name := "distance", desc := "(LBodySolids$Solid;LBodySolids$Solid;J)I" } : Jvm.MethodName) ∈ gAll := gm 391 rfl rfl
theorem wd_392 : Jvm.Cond.static ({ cls := "BodySolids$Meeting", name := "distance", desc := "(LBodySolids$Solid;LBodySolids$Solid;J)I" } : Jvm.MethodName) ∈ gAll := gm 392 rfl rfl
theorem wd_393 : Jvm.Cond.code ({ cls := "BodySolids$Meeting", name := "distance", desc := "(LBodySolids$Solid;LBodySolids$Solid;J)I" } : Jvm.MethodName) prog_5_method_8_code (8 : Nat) (Option.some Jvm.ClassFile.FieldType.int) ∈ gAll := gm 393 rfl rfl
theorem wd_394 : Jvm.Cond.methodLink "BodySolids$Meeting" (91 : Nat) ({ cls := "BodySolids$Meeting", name := "cornersDistance", desc := "(LBodySolids$Solid;LBodySolids$Solid;J)I" } : Jvm.MethodName) ∈ gAll := gm 394 rfl rfl
theorem wd_395 : Jvm.Cond.static ({ cls := "BodySolids$Meeting", name := "cornersDistance", desc := "(LBodySolids$Solid;LBodySolids$Solid;J)I" } : Jvm.MethodName) ∈ gAll := gm 395 rfl rfl
theorem wd_396 : Jvm.Cond.code ({ cls := "BodySolids$Meeting", name := "cornersDistance", desc := "(LBodySolids$Solid;LBodySolids$Solid;J)I" } : Jvm.MethodName) prog_5_method_9_code (10 : Nat) (Option.some Jvm.ClassFile.FieldType.int) ∈ gAll := gm 396 rfl rfl
theorem wd_397 : Jvm.Cond.methodLink "BodySolids$Meeting" (60 : Nat) ({ cls := "BodySolids$Meeting", name := "squareIfAbove", desc := "(J)J" } : Jvm.MethodName) ∈ gAll := gm 397 rfl rfl
theorem wd_398 : Jvm.Cond.static ({ cls := "BodySolids$Meeting", name := "squareIfAbove", desc := "(J)J" } : Jvm.MethodName) ∈ gAll := gm 398 rfl rfl
theorem wd_399 : Jvm.Cond.code ({ cls := "BodySolids$Meeting", name := "squareIfAbove", desc := "(J)J" } : Jvm.MethodName) prog_5_method_5_code (2 : Nat) (Option.some Jvm.ClassFile.FieldType.long) ∈ gAll := gm 399 rfl rfl
theorem wd_400 : Jvm.Cond.methodLink "BodySolids$Meeting" (94 : Nat) ({ cls := "BodySolids$Meeting", name := "sidesDistance", desc := "(LBodySolids$Solid;LBodySolids$Solid;J)I" } : Jvm.MethodName) ∈ gAll := gm 400 rfl rfl
theorem wd_401 : Jvm.Cond.static ({ cls := "BodySolids$Meeting", name := "sidesDistance", desc := "(LBodySolids$Solid;LBodySolids$Solid;J)I" } : Jvm.MethodName) ∈ gAll := gm 401 rfl rfl
theorem wd_402 : Jvm.Cond.code ({ cls := "BodySolids$Meeting", name := "sidesDistance", desc := "(LBodySolids$Solid;LBodySolids$Solid;J)I" } : Jvm.MethodName) prog_5_method_10_code (6 : Nat) (Option.some Jvm.ClassFile.FieldType.int) ∈ gAll := gm 402 rfl rfl
theorem wd_403 : Jvm.Cond.methodLink "BodySolids$Meeting" (97 : Nat) ({ cls := "BodySolids$Meeting", name := "sideDistance", desc := "(LBodySolids$Solid;ILBodySolids$Solid;J)I" } : Jvm.MethodName) ∈ gAll := gm 403 rfl rfl
theorem wd_404 : Jvm.Cond.static ({ cls := "BodySolids$Meeting", name := "sideDistance", desc := "(LBodySolids$Solid;ILBodySolids$Solid;J)I" } : Jvm.MethodName) ∈ gAll := gm 404 rfl rfl
theorem wd_405 : Jvm.Cond.code ({ cls := "BodySolids$Meeting", name := "sideDistance", desc := "(LBodySolids$Solid;ILBodySolids$Solid;J)I" } : Jvm.MethodName) prog_5_method_11_code (22 : Nat) (Option.some Jvm.ClassFile.FieldType.int) ∈ gAll := gm 405 rfl rfl
theorem wd_406 : Jvm.Cond.methodLink "BodySolids$Meeting" (64 : Nat) ({ cls := "BodySolids$Meeting", name := "discAndRound", desc := "(JJJ)I" } : Jvm.MethodName) ∈ gAll := gm 406 rfl rfl
theorem wd_407 : Jvm.Cond.static ({ cls := "BodySolids$Meeting", name := "discAndRound", desc := "(JJJ)I" } : Jvm.MethodName) ∈ gAll := gm 407 rfl rfl
theorem wd_408 : Jvm.Cond.code ({ cls := "BodySolids$Meeting", name := "discAndRound", desc := "(JJJ)I" } : Jvm.MethodName) prog_5_method_12_code (8 : Nat) (Option.some Jvm.ClassFile.FieldType.int) ∈ gAll := gm 408 rfl rfl
theorem wd_409 : Jvm.Cond.constantLong "BodySolids$Meeting" (101 : Nat) (4 : Int64) ∈ gAll := gm 409 rfl rfl
end
section
abbrev b_Ma_max2 : ByteArray := prog_17_method_66_code
def y_Ma_max2 : MethodName := ⟨"java/lang/Math", "max", "(JJ)J"⟩
theorem d_Ma_max2_0 : decode b_Ma_max2 0 = .ok (.lload_n 0, 1) := by decide +kernel
theorem d_Ma_max2_1 : decode b_Ma_max2 1 = .ok (.lload_n 2, 1) := by decide +kernel
theorem d_Ma_max2_2 : decode b_Ma_max2 2 = .ok (.lcmp, 1) := by decide +kernel
theorem d_Ma_max2_3 : decode b_Ma_max2 3 = .ok (.ifCond .lt 7, 3) := by decide +kernel
theorem d_Ma_max2_6 : decode b_Ma_max2 6 = .ok (.lload_n 0, 1) := by decide +kernel
theorem d_Ma_max2_7 : decode b_Ma_max2 7 = .ok (.goto 4, 3) := by decide +kernel
theorem d_Ma_max2_10 : decode b_Ma_max2 10 = .ok (.lload_n 2, 1) := by decide +kernel
theorem d_Ma_max2_11 : decode b_Ma_max2 11 = .ok (.lreturn, 1) := by decide +kernel
abbrev rm_Ma_max2 : Room := { frames := 0, cells := 0, slots := 0, locals := 0 }
theorem ce_Ma_max2 : gCe y_Ma_max2 (.code y_Ma_max2 b_Ma_max2 4 (some .long)) 4 2 true := gCe.code wd_86 wd_50 wd_85 (by decide) (by decide +kernel)
def f_Ma_max2 (g0 : Nat) (p0 : Int64) (p1 : Int64) (w : gW) : gX Int64 := gjoin (fun K11 => if p0 < p1 then (K11 p1 w) else (K11 p0 w)) (fun (y1 : Int64) (w : gW) => some (.inr y1, w))
set_option maxHeartbeats 4000000 in
set_option maxRecDepth 100000 in
theorem m_Ma_max2 (l : Launch) (D : gD) (g0 : Nat) (p0 : Int64) (p1 : Int64) (w : gW) (r : (String ⊕ Int64) × gW) (h : f_Ma_max2 g0 p0 p1 w = some r) : gMet l y_Ma_max2 (.code y_Ma_max2 b_Ma_max2 4 (some .long)) rm_Ma_max2 D g0 [.long p0, .long p1] w (goJ r) := by
  refine gw_ofJ (by decide +kernel) (Nat.le_of_ble_eq_true rfl) ?_
  intro p e s m below meth c ls args A Q hx hb hml hown hlocks hin hnt hT hK hZ hA hret hexc hI hl
  obtain ⟨H, hH⟩ : ∃ H, H = s.heap := ⟨_, rfl⟩
  rw [← hH] at hI ⊢
  obtain ⟨locs, hlocs⟩ : ∃ z : List Loc, z = [] := ⟨_, rfl⟩
  rw [← hlocs] at hI ⊢
  have hl : lv_has ls 4 [(0, .long p0), (2, .long p1)] := hl
  unfold f_Ma_max2 at h
  refine lv_lload_n hx hb d_Ma_max2_0 rfl (lv_at hl 0 rfl) ?_
  refine lv_lload_n hx hb d_Ma_max2_1 rfl (lv_at hl 1 rfl) ?_
  refine W.lcmp hx hb d_Ma_max2_2 ?_
  obtain ⟨K11, eK11, h⟩ := gj h
  have hK11 : ∀ (y1 : Int64) (w : gW) (H : Heap) (locs : List Loc) (ls : Array Slot), K11 y1 w = some r → gI D s A w H locs → lv_has ls 4 [] → W p l e rm_Ma_max2 s m args below meth c H locs 0 0 Q (F0 m 11 ls [.long y1]) := by
    intro y1 w H locs ls h hI hl
    have h := gk2 eK11 h
    exact W.widen (show 0 ≤ 0 by omega) (show 0 ≤ 0 by omega) (hret _ _ (Option.some.inj h).symm _ _ _ _ d_Ma_max2_11 hI)
  refine lv_if_lt (tgt := 10) hx hb d_Ma_max2_3 (by decide) (fun c2 => ?_) (fun c2 => ?_)
  · have c2 := (lg_cmp_lt _ _).mp c2
    have h := git c2 h
    refine lv_lload_n hx hb d_Ma_max2_10 rfl (lv_at hl 1 rfl) ?_
    exact hK11 _ w H locs ls h hI (lv_sub hl [] rfl)
  · have c2 := mt (lg_cmp_lt _ _).mpr c2
    have h := gie c2 h
    refine lv_lload_n hx hb d_Ma_max2_6 rfl (lv_at hl 0 rfl) ?_
    refine lv_goto (tgt := 11) hx hb d_Ma_max2_7 (by decide) ?_
    exact hK11 _ w H locs ls h hI (lv_sub hl [] rfl)

abbrev b_Me_gap : ByteArray := prog_5_method_3_code
def y_Me_gap : MethodName := ⟨"BodySolids$Meeting", "gap", "(JJJJ)J"⟩
theorem d_Me_gap_0 : decode b_Me_gap 0 = .ok (.lload 4, 2) := by decide +kernel
theorem d_Me_gap_2 : decode b_Me_gap 2 = .ok (.lload_n 2, 1) := by decide +kernel
theorem d_Me_gap_3 : decode b_Me_gap 3 = .ok (.lsub, 1) := by decide +kernel
theorem d_Me_gap_4 : decode b_Me_gap 4 = .ok (.lload_n 0, 1) := by decide +kernel
theorem d_Me_gap_5 : decode b_Me_gap 5 = .ok (.lload 6, 2) := by decide +kernel
theorem d_Me_gap_7 : decode b_Me_gap 7 = .ok (.lsub, 1) := by decide +kernel
theorem d_Me_gap_8 : decode b_Me_gap 8 = .ok (.invokestatic 68, 3) := by decide +kernel
theorem d_Me_gap_11 : decode b_Me_gap 11 = .ok (.lreturn, 1) := by decide +kernel
abbrev rm_Me_gap : Room := { frames := 1, cells := 0, slots := 0, locals := 23 }
theorem ce_Me_gap : gCe y_Me_gap (.code y_Me_gap b_Me_gap 8 (some .long)) 8 4 true := gCe.code wd_378 wd_69 wd_377 (by decide) (by decide +kernel)
def f_Me_gap (g0 : Nat) (p0 : Int64) (p1 : Int64) (p2 : Int64) (p3 : Int64) (w : gW) : gX Int64 := gbind (f_Ma_max2 g0 (p2 - p1) (p0 - p3) w) fun v3 w => some (.inr v3, w)
set_option maxHeartbeats 4000000 in
set_option maxRecDepth 100000 in
theorem m_Me_gap (l : Launch) (D : gD) (g0 : Nat) (p0 : Int64) (p1 : Int64) (p2 : Int64) (p3 : Int64) (w : gW) (r : (String ⊕ Int64) × gW) (h : f_Me_gap g0 p0 p1 p2 p3 w = some r) : gMet l y_Me_gap (.code y_Me_gap b_Me_gap 8 (some .long)) rm_Me_gap D g0 [.long p0, .long p1, .long p2, .long p3] w (goJ r) := by
  refine gw_ofJ (by decide +kernel) (Nat.le_of_ble_eq_true rfl) ?_
  intro p e s m below meth c ls args A Q hx hb hml hown hlocks hin hnt hT hK hZ hA hret hexc hI hl
  obtain ⟨H, hH⟩ : ∃ H, H = s.heap := ⟨_, rfl⟩
  rw [← hH] at hI ⊢
  obtain ⟨locs, hlocs⟩ : ∃ z : List Loc, z = [] := ⟨_, rfl⟩
  rw [← hlocs] at hI ⊢
  have hl : lv_has ls 8 [(0, .long p0), (2, .long p1), (4, .long p2), (6, .long p3)] := hl
  unfold f_Me_gap at h
  refine lv_lload hx hb d_Me_gap_0 (lv_at hl 2 rfl) ?_
  refine lv_lload_n hx hb d_Me_gap_2 rfl (lv_at hl 1 rfl) ?_
  refine lv_lsub hx hb d_Me_gap_3 ?_
  refine lv_lload_n hx hb d_Me_gap_4 rfl (lv_at hl 0 rfl) ?_
  refine lv_lload hx hb d_Me_gap_5 (lv_at hl 3 rfl) ?_
  refine lv_lsub hx hb d_Me_gap_7 ?_
  obtain ⟨u1, e2⟩ := gsome h
  refine gw_callJ e2 h (gw_runS (As := [.long (p2 - p1), .long (p0 - p3)]) (rest := []) hx hb hml hown hT hK hZ hA hI (m_Ma_max2 l D g0 (p2 - p1) (p0 - p3) w u1 e2) ce_Ma_max2 wd_379 ⟨by decide, by decide⟩ rfl rfl hl.1 rfl (lv_room (Nat.le_of_ble_eq_true rfl)) d_Me_gap_8 ⟨(show 0 + 0 ≤ 0 by omega), (show 0 + 0 ≤ 0 by omega)⟩) hI hA hexc (show 0 + 0 ≤ 0 by omega) (show 0 + 0 ≤ 0 by omega) (fun v3 w H locs h hI => ?_)
  exact W.widen (show 0 ≤ 0 by omega) (show 0 ≤ 0 by omega) (hret _ _ (Option.some.inj h).symm _ _ _ _ d_Me_gap_11 hI)

abbrev b_Me_sign : ByteArray := prog_5_method_4_code
def y_Me_sign : MethodName := ⟨"BodySolids$Meeting", "sign", "(J)I"⟩
theorem d_Me_sign_0 : decode b_Me_sign 0 = .ok (.lload_n 0, 1) := by decide +kernel
theorem d_Me_sign_1 : decode b_Me_sign 1 = .ok (.lconst 0, 1) := by decide +kernel
theorem d_Me_sign_2 : decode b_Me_sign 2 = .ok (.lcmp, 1) := by decide +kernel
theorem d_Me_sign_3 : decode b_Me_sign 3 = .ok (.ifCond .le 7, 3) := by decide +kernel
theorem d_Me_sign_6 : decode b_Me_sign 6 = .ok (.iconst 1, 1) := by decide +kernel
theorem d_Me_sign_7 : decode b_Me_sign 7 = .ok (.goto 14, 3) := by decide +kernel
theorem d_Me_sign_10 : decode b_Me_sign 10 = .ok (.lload_n 0, 1) := by decide +kernel
theorem d_Me_sign_11 : decode b_Me_sign 11 = .ok (.lconst 0, 1) := by decide +kernel
theorem d_Me_sign_12 : decode b_Me_sign 12 = .ok (.lcmp, 1) := by decide +kernel
theorem d_Me_sign_13 : decode b_Me_sign 13 = .ok (.ifCond .ge 7, 3) := by decide +kernel
theorem d_Me_sign_16 : decode b_Me_sign 16 = .ok (.iconst (-1), 1) := by decide +kernel
theorem d_Me_sign_17 : decode b_Me_sign 17 = .ok (.goto 4, 3) := by decide +kernel
theorem d_Me_sign_20 : decode b_Me_sign 20 = .ok (.iconst 0, 1) := by decide +kernel
theorem d_Me_sign_21 : decode b_Me_sign 21 = .ok (.ireturn, 1) := by decide +kernel
abbrev rm_Me_sign : Room := { frames := 0, cells := 0, slots := 0, locals := 0 }
theorem ce_Me_sign : gCe y_Me_sign (.code y_Me_sign b_Me_sign 2 (some .int)) 2 1 true := gCe.code wd_385 wd_69 wd_384 (by decide) (by decide +kernel)
def f_Me_sign (g0 : Nat) (p0 : Int64) (w : gW) : gX Int32 := gjoin (fun K21 => if p0 ≤ 0 then (if 0 ≤ p0 then (K21 0 w) else (K21 (-1) w)) else (K21 1 w)) (fun (y1 : Int32) (w : gW) => some (.inr y1, w))
set_option maxHeartbeats 4000000 in
set_option maxRecDepth 100000 in
theorem m_Me_sign (l : Launch) (D : gD) (g0 : Nat) (p0 : Int64) (w : gW) (r : (String ⊕ Int32) × gW) (h : f_Me_sign g0 p0 w = some r) : gMet l y_Me_sign (.code y_Me_sign b_Me_sign 2 (some .int)) rm_Me_sign D g0 [.long p0] w (goI r) := by
  refine gw_ofI (by decide +kernel) (Nat.le_of_ble_eq_true rfl) ?_
  intro p e s m below meth c ls args A Q hx hb hml hown hlocks hin hnt hT hK hZ hA hret hexc hI hl
  obtain ⟨H, hH⟩ : ∃ H, H = s.heap := ⟨_, rfl⟩
  rw [← hH] at hI ⊢
  obtain ⟨locs, hlocs⟩ : ∃ z : List Loc, z = [] := ⟨_, rfl⟩
  rw [← hlocs] at hI ⊢
  have hl : lv_has ls 2 [(0, .long p0)] := hl
  unfold f_Me_sign at h
  refine lv_lload_n hx hb d_Me_sign_0 rfl (lv_at hl 0 rfl) ?_
  refine lv_lconst (v := 0) hx hb d_Me_sign_1 (by decide) ?_
  refine W.lcmp hx hb d_Me_sign_2 ?_
  obtain ⟨K21, eK21, h⟩ := gj h
  have hK21 : ∀ (y1 : Int32) (w : gW) (H : Heap) (locs : List Loc) (ls : Array Slot), K21 y1 w = some r → gI D s A w H locs → lv_has ls 2 [] → W p l e rm_Me_sign s m args below meth c H locs 0 0 Q (F0 m 21 ls [.int y1]) := by
    intro y1 w H locs ls h hI hl
    have h := gk2 eK21 h
    exact W.widen (show 0 ≤ 0 by omega) (show 0 ≤ 0 by omega) (hret _ _ (Option.some.inj h).symm _ _ _ _ d_Me_sign_21 hI)
  refine lv_if_le (tgt := 10) hx hb d_Me_sign_3 (by decide) (fun c2 => ?_) (fun c2 => ?_)
  · have c2 := (lg_cmp_le _ _).mp c2
    have h := git c2 h
    refine lv_lload_n hx hb d_Me_sign_10 rfl (lv_at hl 0 rfl) ?_
    refine lv_lconst (v := 0) hx hb d_Me_sign_11 (by decide) ?_
    refine W.lcmp hx hb d_Me_sign_12 ?_
    refine lv_if_ge (tgt := 20) hx hb d_Me_sign_13 (by decide) (fun c3 => ?_) (fun c3 => ?_)
    · have c3 := (lg_cmp_ge _ _).mp c3
      have h := git c3 h
      refine lv_iconst (v := 0) hx hb d_Me_sign_20 (by decide) ?_
      exact hK21 _ w H locs ls h hI (lv_sub hl [] rfl)
    · have c3 := mt (lg_cmp_ge _ _).mpr c3
      have h := gie c3 h
      refine lv_iconst (v := -1) hx hb d_Me_sign_16 (by decide) ?_
      refine lv_goto (tgt := 21) hx hb d_Me_sign_17 (by decide) ?_
      exact hK21 _ w H locs ls h hI (lv_sub hl [] rfl)
  · have c2 := mt (lg_cmp_le _ _).mpr c2
    have h := gie c2 h
    refine lv_iconst (v := 1) hx hb d_Me_sign_6 (by decide) ?_
    refine lv_goto (tgt := 21) hx hb d_Me_sign_7 (by decide) ?_
    exact hK21 _ w H locs ls h hI (lv_sub hl [] rfl)

abbrev b_Ma_min : ByteArray := prog_17_method_69_code
def y_Ma_min : MethodName := ⟨"java/lang/Math", "min", "(II)I"⟩
theorem d_Ma_min_0 : decode b_Ma_min 0 = .ok (.iload_n 0, 1) := by decide +kernel
theorem d_Ma_min_1 : decode b_Ma_min 1 = .ok (.iload_n 1, 1) := by decide +kernel
theorem d_Ma_min_2 : decode b_Ma_min 2 = .ok (.if_icmp .gt 7, 3) := by decide +kernel
theorem d_Ma_min_5 : decode b_Ma_min 5 = .ok (.iload_n 0, 1) := by decide +kernel
theorem d_Ma_min_6 : decode b_Ma_min 6 = .ok (.goto 4, 3) := by decide +kernel
theorem d_Ma_min_9 : decode b_Ma_min 9 = .ok (.iload_n 1, 1) := by decide +kernel
theorem d_Ma_min_10 : decode b_Ma_min 10 = .ok (.ireturn, 1) := by decide +kernel
abbrev rm_Ma_min : Room := { frames := 0, cells := 0, slots := 0, locals := 0 }
theorem ce_Ma_min : gCe y_Ma_min (.code y_Ma_min b_Ma_min 2 (some .int)) 2 2 true := gCe.code wd_302 wd_50 wd_301 (by decide) (by decide +kernel)
def f_Ma_min (g0 : Nat) (p0 : Int32) (p1 : Int32) (w : gW) : gX Int32 := gjoin (fun K10 => if p1 < p0 then (K10 p1 w) else (K10 p0 w)) (fun (y1 : Int32) (w : gW) => some (.inr y1, w))
set_option maxHeartbeats 4000000 in
set_option maxRecDepth 100000 in
theorem m_Ma_min (l : Launch) (D : gD) (g0 : Nat) (p0 : Int32) (p1 : Int32) (w : gW) (r : (String ⊕ Int32) × gW) (h : f_Ma_min g0 p0 p1 w = some r) : gMet l y_Ma_min (.code y_Ma_min b_Ma_min 2 (some .int)) rm_Ma_min D g0 [.int p0, .int p1] w (goI r) := by
  refine gw_ofI (by decide +kernel) (Nat.le_of_ble_eq_true rfl) ?_
  intro p e s m below meth c ls args A Q hx hb hml hown hlocks hin hnt hT hK hZ hA hret hexc hI hl
  obtain ⟨H, hH⟩ : ∃ H, H = s.heap := ⟨_, rfl⟩
  rw [← hH] at hI ⊢
  obtain ⟨locs, hlocs⟩ : ∃ z : List Loc, z = [] := ⟨_, rfl⟩
  rw [← hlocs] at hI ⊢
  have hl : lv_has ls 2 [(0, .int p0), (1, .int p1)] := hl
  unfold f_Ma_min at h
  refine lv_iload_n hx hb d_Ma_min_0 rfl (lv_at hl 0 rfl) ?_
  refine lv_iload_n hx hb d_Ma_min_1 rfl (lv_at hl 1 rfl) ?_
  obtain ⟨K10, eK10, h⟩ := gj h
  have hK10 : ∀ (y1 : Int32) (w : gW) (H : Heap) (locs : List Loc) (ls : Array Slot), K10 y1 w = some r → gI D s A w H locs → lv_has ls 2 [] → W p l e rm_Ma_min s m args below meth c H locs 0 0 Q (F0 m 10 ls [.int y1]) := by
    intro y1 w H locs ls h hI hl
    have h := gk2 eK10 h
    exact W.widen (show 0 ≤ 0 by omega) (show 0 ≤ 0 by omega) (hret _ _ (Option.some.inj h).symm _ _ _ _ d_Ma_min_10 hI)
  refine lv_icmp_gt (tgt := 9) hx hb d_Ma_min_2 (by decide) (fun c2 => ?_) (fun c2 => ?_)
  · skip
    have h := git c2 h
    refine lv_iload_n hx hb d_Ma_min_9 rfl (lv_at hl 1 rfl) ?_
    exact hK10 _ w H locs ls h hI (lv_sub hl [] rfl)
  · skip
    have h := gie c2 h
    refine lv_iload_n hx hb d_Ma_min_5 rfl (lv_at hl 0 rfl) ?_
    refine lv_goto (tgt := 10) hx hb d_Ma_min_6 (by decide) ?_
    exact hK10 _ w H locs ls h hI (lv_sub hl [] rfl)

abbrev b_Ma_max : ByteArray := prog_17_method_65_code
def y_Ma_max : MethodName := ⟨"java/lang/Math", "max", "(II)I"⟩
theorem d_Ma_max_0 : decode b_Ma_max 0 = .ok (.iload_n 0, 1) := by decide +kernel
theorem d_Ma_max_1 : decode b_Ma_max 1 = .ok (.iload_n 1, 1) := by decide +kernel
theorem d_Ma_max_2 : decode b_Ma_max 2 = .ok (.if_icmp .lt 7, 3) := by decide +kernel
theorem d_Ma_max_5 : decode b_Ma_max 5 = .ok (.iload_n 0, 1) := by decide +kernel
theorem d_Ma_max_6 : decode b_Ma_max 6 = .ok (.goto 4, 3) := by decide +kernel
theorem d_Ma_max_9 : decode b_Ma_max 9 = .ok (.iload_n 1, 1) := by decide +kernel
theorem d_Ma_max_10 : decode b_Ma_max 10 = .ok (.ireturn, 1) := by decide +kernel
abbrev rm_Ma_max : Room := { frames := 0, cells := 0, slots := 0, locals := 0 }
theorem ce_Ma_max : gCe y_Ma_max (.code y_Ma_max b_Ma_max 2 (some .int)) 2 2 true := gCe.code wd_271 wd_50 wd_270 (by decide) (by decide +kernel)
def f_Ma_max (g0 : Nat) (p0 : Int32) (p1 : Int32) (w : gW) : gX Int32 := gjoin (fun K10 => if p0 < p1 then (K10 p1 w) else (K10 p0 w)) (fun (y1 : Int32) (w : gW) => some (.inr y1, w))
set_option maxHeartbeats 4000000 in
set_option maxRecDepth 100000 in
theorem m_Ma_max (l : Launch) (D : gD) (g0 : Nat) (p0 : Int32) (p1 : Int32) (w : gW) (r : (String ⊕ Int32) × gW) (h : f_Ma_max g0 p0 p1 w = some r) : gMet l y_Ma_max (.code y_Ma_max b_Ma_max 2 (some .int)) rm_Ma_max D g0 [.int p0, .int p1] w (goI r) := by
  refine gw_ofI (by decide +kernel) (Nat.le_of_ble_eq_true rfl) ?_
  intro p e s m below meth c ls args A Q hx hb hml hown hlocks hin hnt hT hK hZ hA hret hexc hI hl
  obtain ⟨H, hH⟩ : ∃ H, H = s.heap := ⟨_, rfl⟩
  rw [← hH] at hI ⊢
  obtain ⟨locs, hlocs⟩ : ∃ z : List Loc, z = [] := ⟨_, rfl⟩
  rw [← hlocs] at hI ⊢
  have hl : lv_has ls 2 [(0, .int p0), (1, .int p1)] := hl
  unfold f_Ma_max at h
  refine lv_iload_n hx hb d_Ma_max_0 rfl (lv_at hl 0 rfl) ?_
  refine lv_iload_n hx hb d_Ma_max_1 rfl (lv_at hl 1 rfl) ?_
  obtain ⟨K10, eK10, h⟩ := gj h
  have hK10 : ∀ (y1 : Int32) (w : gW) (H : Heap) (locs : List Loc) (ls : Array Slot), K10 y1 w = some r → gI D s A w H locs → lv_has ls 2 [] → W p l e rm_Ma_max s m args below meth c H locs 0 0 Q (F0 m 10 ls [.int y1]) := by
    intro y1 w H locs ls h hI hl
    have h := gk2 eK10 h
    exact W.widen (show 0 ≤ 0 by omega) (show 0 ≤ 0 by omega) (hret _ _ (Option.some.inj h).symm _ _ _ _ d_Ma_max_10 hI)
  refine lv_icmp_lt (tgt := 9) hx hb d_Ma_max_2 (by decide) (fun c2 => ?_) (fun c2 => ?_)
  · skip
    have h := git c2 h
    refine lv_iload_n hx hb d_Ma_max_9 rfl (lv_at hl 1 rfl) ?_
    exact hK10 _ w H locs ls h hI (lv_sub hl [] rfl)
  · skip
    have h := gie c2 h
    refine lv_iload_n hx hb d_Ma_max_5 rfl (lv_at hl 0 rfl) ?_
    refine lv_goto (tgt := 10) hx hb d_Ma_max_6 (by decide) ?_
    exact hK10 _ w H locs ls h hI (lv_sub hl [] rfl)

abbrev b_Me_partedBySides : ByteArray := prog_5_method_7_code
def y_Me_partedBySides : MethodName := ⟨"BodySolids$Meeting", "partedBySides", "(LBodySolids$Solid;LBodySolids$Solid;)I"⟩
theorem d_Me_partedBySides_0 : decode b_Me_partedBySides 0 = .ok (.iconst (-1), 1) := by decide +kernel
theorem d_Me_partedBySides_1 : decode b_Me_partedBySides 1 = .ok (.istore_n 2, 1) := by decide +kernel
theorem d_Me_partedBySides_2 : decode b_Me_partedBySides 2 = .ok (.iconst 0, 1) := by decide +kernel
theorem d_Me_partedBySides_3 : decode b_Me_partedBySides 3 = .ok (.istore_n 3, 1) := by decide +kernel
theorem d_Me_partedBySides_4 : decode b_Me_partedBySides 4 = .ok (.iload_n 3, 1) := by decide +kernel
theorem d_Me_partedBySides_5 : decode b_Me_partedBySides 5 = .ok (.aload_n 0, 1) := by decide +kernel
theorem d_Me_partedBySides_6 : decode b_Me_partedBySides 6 = .ok (.getfield 78, 3) := by decide +kernel
theorem d_Me_partedBySides_9 : decode b_Me_partedBySides 9 = .ok (.if_icmp .ge 148, 3) := by decide +kernel
theorem d_Me_partedBySides_12 : decode b_Me_partedBySides 12 = .ok (.iload_n 2, 1) := by decide +kernel
theorem d_Me_partedBySides_13 : decode b_Me_partedBySides 13 = .ok (.iconst 1, 1) := by decide +kernel
theorem d_Me_partedBySides_14 : decode b_Me_partedBySides 14 = .ok (.if_icmp .eq 143, 3) := by decide +kernel
theorem d_Me_partedBySides_17 : decode b_Me_partedBySides 17 = .ok (.iload_n 3, 1) := by decide +kernel
theorem d_Me_partedBySides_18 : decode b_Me_partedBySides 18 = .ok (.iconst 1, 1) := by decide +kernel
theorem d_Me_partedBySides_19 : decode b_Me_partedBySides 19 = .ok (.iadd, 1) := by decide +kernel
theorem d_Me_partedBySides_20 : decode b_Me_partedBySides 20 = .ok (.aload_n 0, 1) := by decide +kernel
theorem d_Me_partedBySides_21 : decode b_Me_partedBySides 21 = .ok (.getfield 78, 3) := by decide +kernel
theorem d_Me_partedBySides_24 : decode b_Me_partedBySides 24 = .ok (.if_icmp .ge 9, 3) := by decide +kernel
theorem d_Me_partedBySides_27 : decode b_Me_partedBySides 27 = .ok (.iload_n 3, 1) := by decide +kernel
theorem d_Me_partedBySides_28 : decode b_Me_partedBySides 28 = .ok (.iconst 1, 1) := by decide +kernel
theorem d_Me_partedBySides_29 : decode b_Me_partedBySides 29 = .ok (.iadd, 1) := by decide +kernel
theorem d_Me_partedBySides_30 : decode b_Me_partedBySides 30 = .ok (.goto 4, 3) := by decide +kernel
theorem d_Me_partedBySides_33 : decode b_Me_partedBySides 33 = .ok (.iconst 0, 1) := by decide +kernel
theorem d_Me_partedBySides_34 : decode b_Me_partedBySides 34 = .ok (.istore 4, 2) := by decide +kernel
theorem d_Me_partedBySides_36 : decode b_Me_partedBySides 36 = .ok (.aload_n 0, 1) := by decide +kernel
theorem d_Me_partedBySides_37 : decode b_Me_partedBySides 37 = .ok (.getfield 81, 3) := by decide +kernel
theorem d_Me_partedBySides_40 : decode b_Me_partedBySides 40 = .ok (.iload 4, 2) := by decide +kernel
theorem d_Me_partedBySides_42 : decode b_Me_partedBySides 42 = .ok (.laload, 1) := by decide +kernel
theorem d_Me_partedBySides_43 : decode b_Me_partedBySides 43 = .ok (.aload_n 0, 1) := by decide +kernel
theorem d_Me_partedBySides_44 : decode b_Me_partedBySides 44 = .ok (.getfield 81, 3) := by decide +kernel
theorem d_Me_partedBySides_47 : decode b_Me_partedBySides 47 = .ok (.iload_n 3, 1) := by decide +kernel
theorem d_Me_partedBySides_48 : decode b_Me_partedBySides 48 = .ok (.laload, 1) := by decide +kernel
theorem d_Me_partedBySides_49 : decode b_Me_partedBySides 49 = .ok (.lsub, 1) := by decide +kernel
theorem d_Me_partedBySides_50 : decode b_Me_partedBySides 50 = .ok (.lstore 5, 2) := by decide +kernel
theorem d_Me_partedBySides_52 : decode b_Me_partedBySides 52 = .ok (.aload_n 0, 1) := by decide +kernel
theorem d_Me_partedBySides_53 : decode b_Me_partedBySides 53 = .ok (.getfield 85, 3) := by decide +kernel
theorem d_Me_partedBySides_56 : decode b_Me_partedBySides 56 = .ok (.iload 4, 2) := by decide +kernel
theorem d_Me_partedBySides_58 : decode b_Me_partedBySides 58 = .ok (.laload, 1) := by decide +kernel
theorem d_Me_partedBySides_59 : decode b_Me_partedBySides 59 = .ok (.aload_n 0, 1) := by decide +kernel
theorem d_Me_partedBySides_60 : decode b_Me_partedBySides 60 = .ok (.getfield 85, 3) := by decide +kernel
theorem d_Me_partedBySides_63 : decode b_Me_partedBySides 63 = .ok (.iload_n 3, 1) := by decide +kernel
theorem d_Me_partedBySides_64 : decode b_Me_partedBySides 64 = .ok (.laload, 1) := by decide +kernel
theorem d_Me_partedBySides_65 : decode b_Me_partedBySides 65 = .ok (.lsub, 1) := by decide +kernel
theorem d_Me_partedBySides_66 : decode b_Me_partedBySides 66 = .ok (.lstore 7, 2) := by decide +kernel
theorem d_Me_partedBySides_68 : decode b_Me_partedBySides 68 = .ok (.iconst 1, 1) := by decide +kernel
theorem d_Me_partedBySides_69 : decode b_Me_partedBySides 69 = .ok (.istore 9, 2) := by decide +kernel
theorem d_Me_partedBySides_71 : decode b_Me_partedBySides 71 = .ok (.iconst 0, 1) := by decide +kernel
theorem d_Me_partedBySides_72 : decode b_Me_partedBySides 72 = .ok (.istore 10, 2) := by decide +kernel
theorem d_Me_partedBySides_74 : decode b_Me_partedBySides 74 = .ok (.iload 10, 2) := by decide +kernel
theorem d_Me_partedBySides_76 : decode b_Me_partedBySides 76 = .ok (.aload_n 1, 1) := by decide +kernel
theorem d_Me_partedBySides_77 : decode b_Me_partedBySides 77 = .ok (.getfield 78, 3) := by decide +kernel
theorem d_Me_partedBySides_80 : decode b_Me_partedBySides 80 = .ok (.if_icmp .ge 64, 3) := by decide +kernel
theorem d_Me_partedBySides_83 : decode b_Me_partedBySides 83 = .ok (.iload 9, 2) := by decide +kernel
theorem d_Me_partedBySides_85 : decode b_Me_partedBySides 85 = .ok (.iconst (-1), 1) := by decide +kernel
theorem d_Me_partedBySides_86 : decode b_Me_partedBySides 86 = .ok (.if_icmp .eq 58, 3) := by decide +kernel
theorem d_Me_partedBySides_89 : decode b_Me_partedBySides 89 = .ok (.lload 7, 2) := by decide +kernel
theorem d_Me_partedBySides_91 : decode b_Me_partedBySides 91 = .ok (.aload_n 1, 1) := by decide +kernel
theorem d_Me_partedBySides_92 : decode b_Me_partedBySides 92 = .ok (.getfield 81, 3) := by decide +kernel
theorem d_Me_partedBySides_95 : decode b_Me_partedBySides 95 = .ok (.iload 10, 2) := by decide +kernel
theorem d_Me_partedBySides_97 : decode b_Me_partedBySides 97 = .ok (.laload, 1) := by decide +kernel
theorem d_Me_partedBySides_98 : decode b_Me_partedBySides 98 = .ok (.aload_n 0, 1) := by decide +kernel
theorem d_Me_partedBySides_99 : decode b_Me_partedBySides 99 = .ok (.getfield 81, 3) := by decide +kernel
theorem d_Me_partedBySides_102 : decode b_Me_partedBySides 102 = .ok (.iload_n 3, 1) := by decide +kernel
theorem d_Me_partedBySides_103 : decode b_Me_partedBySides 103 = .ok (.laload, 1) := by decide +kernel
theorem d_Me_partedBySides_104 : decode b_Me_partedBySides 104 = .ok (.lsub, 1) := by decide +kernel
theorem d_Me_partedBySides_105 : decode b_Me_partedBySides 105 = .ok (.lmul, 1) := by decide +kernel
theorem d_Me_partedBySides_106 : decode b_Me_partedBySides 106 = .ok (.lload 5, 2) := by decide +kernel
theorem d_Me_partedBySides_108 : decode b_Me_partedBySides 108 = .ok (.aload_n 1, 1) := by decide +kernel
theorem d_Me_partedBySides_109 : decode b_Me_partedBySides 109 = .ok (.getfield 85, 3) := by decide +kernel
theorem d_Me_partedBySides_112 : decode b_Me_partedBySides 112 = .ok (.iload 10, 2) := by decide +kernel
theorem d_Me_partedBySides_114 : decode b_Me_partedBySides 114 = .ok (.laload, 1) := by decide +kernel
theorem d_Me_partedBySides_115 : decode b_Me_partedBySides 115 = .ok (.aload_n 0, 1) := by decide +kernel
theorem d_Me_partedBySides_116 : decode b_Me_partedBySides 116 = .ok (.getfield 85, 3) := by decide +kernel
theorem d_Me_partedBySides_119 : decode b_Me_partedBySides 119 = .ok (.iload_n 3, 1) := by decide +kernel
theorem d_Me_partedBySides_120 : decode b_Me_partedBySides 120 = .ok (.laload, 1) := by decide +kernel
theorem d_Me_partedBySides_121 : decode b_Me_partedBySides 121 = .ok (.lsub, 1) := by decide +kernel
theorem d_Me_partedBySides_122 : decode b_Me_partedBySides 122 = .ok (.lmul, 1) := by decide +kernel
theorem d_Me_partedBySides_123 : decode b_Me_partedBySides 123 = .ok (.lsub, 1) := by decide +kernel
theorem d_Me_partedBySides_124 : decode b_Me_partedBySides 124 = .ok (.lstore 11, 2) := by decide +kernel
theorem d_Me_partedBySides_126 : decode b_Me_partedBySides 126 = .ok (.iload 9, 2) := by decide +kernel
theorem d_Me_partedBySides_128 : decode b_Me_partedBySides 128 = .ok (.lload 11, 2) := by decide +kernel
theorem d_Me_partedBySides_130 : decode b_Me_partedBySides 130 = .ok (.invokestatic 50, 3) := by decide +kernel
theorem d_Me_partedBySides_133 : decode b_Me_partedBySides 133 = .ok (.invokestatic 88, 3) := by decide +kernel
theorem d_Me_partedBySides_136 : decode b_Me_partedBySides 136 = .ok (.istore 9, 2) := by decide +kernel
theorem d_Me_partedBySides_138 : decode b_Me_partedBySides 138 = .ok (.iinc 10 1, 3) := by decide +kernel
theorem d_Me_partedBySides_141 : decode b_Me_partedBySides 141 = .ok (.goto (-67), 3) := by decide +kernel
theorem d_Me_partedBySides_144 : decode b_Me_partedBySides 144 = .ok (.iload_n 2, 1) := by decide +kernel
theorem d_Me_partedBySides_145 : decode b_Me_partedBySides 145 = .ok (.iload 9, 2) := by decide +kernel
theorem d_Me_partedBySides_147 : decode b_Me_partedBySides 147 = .ok (.invokestatic 54, 3) := by decide +kernel
theorem d_Me_partedBySides_150 : decode b_Me_partedBySides 150 = .ok (.istore_n 2, 1) := by decide +kernel
theorem d_Me_partedBySides_151 : decode b_Me_partedBySides 151 = .ok (.iinc 3 1, 3) := by decide +kernel
theorem d_Me_partedBySides_154 : decode b_Me_partedBySides 154 = .ok (.goto (-150), 3) := by decide +kernel
theorem d_Me_partedBySides_157 : decode b_Me_partedBySides 157 = .ok (.iload_n 2, 1) := by decide +kernel
theorem d_Me_partedBySides_158 : decode b_Me_partedBySides 158 = .ok (.ireturn, 1) := by decide +kernel
abbrev rm_Me_partedBySides : Room := { frames := 1, cells := 0, slots := 0, locals := 21 }
theorem ce_Me_partedBySides : gCe y_Me_partedBySides (.code y_Me_partedBySides b_Me_partedBySides 13 (some .int)) 13 2 true := gCe.code wd_388 wd_69 wd_387 (by decide) (by decide +kernel)
def f_Me_partedBySides_L74 (g0 : Nat) (c0 : Nat) (c1 : Nat) (c2 : Int32) (c3 : Int32) (c5 : Int64) (c7 : Int64) (K144 : Int32 → gW → gX Int32) : Nat → Int32 → Int32 → gW → gX Int32
  | 0, _, _, _ => none
  | n + 1, z9, z10, w => (gfI w c1 3 5).bind fun v29 => if v29 ≤ z10 then (K144 z9 w) else (if z9 = (-1) then (K144 z9 w) else ((gfA w c1 3 3).bind fun v33 => (gaJ w v33 z10).bind fun v35 => (gfA w c0 3 3).bind fun v37 => (gaJ w v37 c3).bind fun v39 => (gfA w c1 3 4).bind fun v41 => (gaJ w v41 z10).bind fun v43 => (gfA w c0 3 4).bind fun v45 => (gaJ w v45 c3).bind fun v47 => gbind (f_Me_sign g0 ((c7 * (v35 - v39)) - (c5 * (v43 - v47))) w) fun v51 w => gbind (f_Ma_min g0 z9 v51 w) fun v54 w => f_Me_partedBySides_L74 g0 c0 c1 c2 c3 c5 c7 K144 n v54 (z10 + 1) w))
def f_Me_partedBySides_L4 (g0 : Nat) (c0 : Nat) (c1 : Nat) (K157 : Int32 → gW → gX Int32) : Nat → Int32 → Int32 → gW → gX Int32
  | 0, _, _, _ => none
  | n + 1, z2, z3, w => (gfI w c0 3 5).bind fun v2 => if v2 ≤ z3 then (K157 z2 w) else (if z2 = 1 then (K157 z2 w) else ((gfI w c0 3 5).bind fun v6 => gjoin (fun K34 => if v6 ≤ (z3 + 1) then (K34 0 w) else (K34 (z3 + 1) w)) (fun (y8 : Int32) (w : gW) => (gfA w c0 3 3).bind fun v9 => (gaJ w v9 y8).bind fun v11 => (gfA w c0 3 3).bind fun v13 => (gaJ w v13 z3).bind fun v15 => (gfA w c0 3 4).bind fun v17 => (gaJ w v17 y8).bind fun v19 => (gfA w c0 3 4).bind fun v21 => (gaJ w v21 z3).bind fun v23 => gjoin (fun K144 => f_Me_partedBySides_L74 g0 c0 c1 z2 z3 (v11 - v15) (v19 - v23) K144 64 1 0 w) (fun (x25 : Int32) (w : gW) => gbind (f_Ma_max g0 z2 x25 w) fun v28 w => f_Me_partedBySides_L4 g0 c0 c1 K157 n v28 (z3 + 1) w))))
def f_Me_partedBySides (g0 : Nat) (a0 : Nat) (a1 : Nat) (w : gW) : gX Int32 := gjoin (fun K157 => f_Me_partedBySides_L4 g0 a0 a1 K157 64 (-1) 0 w) (fun (x1 : Int32) (w : gW) => some (.inr x1, w))
set_option maxHeartbeats 4000000 in
set_option maxRecDepth 100000 in
theorem m_Me_partedBySides (l : Launch) (D : gD) (g0 : Nat) (a0 : Nat) (a1 : Nat) (w : gW) (r : (String ⊕ Int32) × gW) (h : f_Me_partedBySides g0 a0 a1 w = some r) : gMet l y_Me_partedBySides (.code y_Me_partedBySides b_Me_partedBySides 13 (some .int)) rm_Me_partedBySides D g0 [.ref a0, .ref a1] w (goI r) := by
  refine gw_ofI (by decide +kernel) (Nat.le_of_ble_eq_true rfl) ?_
  intro p e s m below meth c ls args A Q hx hb hml hown hlocks hin hnt hT hK hZ hA hret hexc hI hl
  obtain ⟨H, hH⟩ : ∃ H, H = s.heap := ⟨_, rfl⟩
  rw [← hH] at hI ⊢
  obtain ⟨locs, hlocs⟩ : ∃ z : List Loc, z = [] := ⟨_, rfl⟩
  rw [← hlocs] at hI ⊢
  have hl : lv_has ls 13 [(0, .ref a0), (1, .ref a1)] := hl
  unfold f_Me_partedBySides at h
  refine lv_iconst (v := -1) hx hb d_Me_partedBySides_0 (by decide) ?_
  refine lv_istore_n (lv' := [(2, .int (-1)), (0, .ref a0), (1, .ref a1)]) hx hb d_Me_partedBySides_1 rfl hl (by decide) rfl (fun ls hl => ?_)
  refine lv_iconst (v := 0) hx hb d_Me_partedBySides_2 (by decide) ?_
  refine lv_istore_n (lv' := [(3, .int 0), (2, .int (-1)), (0, .ref a0), (1, .ref a1)]) hx hb d_Me_partedBySides_3 rfl hl (by decide) rfl (fun ls hl => ?_)
  obtain ⟨K157, eK157, h⟩ := gj h
  have hK157 : ∀ (x1 : Int32) (w : gW) (H : Heap) (locs : List Loc) (ls : Array Slot), K157 x1 w = some r → gI D s A w H locs → lv_has ls 13 [(2, .int x1)] → W p l e rm_Me_partedBySides s m args below meth c H locs 0 0 Q (F0 m 157 ls []) := by
    intro x1 w H locs ls h hI hl
    have h := gk2 eK157 h
    refine lv_iload_n hx hb d_Me_partedBySides_157 rfl (lv_at hl 0 rfl) ?_
    exact W.widen (show 0 ≤ 0 by omega) (show 0 ≤ 0 by omega) (hret _ _ (Option.some.inj h).symm _ _ _ _ d_Me_partedBySides_158 hI)
  have hL4 : ∀ (n : Nat), ∀ (z2 : Int32) (z3 : Int32) (w : gW) (H : Heap) (locs : List Loc) (ls : Array Slot), f_Me_partedBySides_L4 g0 a0 a1 K157 n z2 z3 w = some r → gI D s A w H locs → lv_has ls 13 [(0, .ref a0), (1, .ref a1), (2, .int z2), (3, .int z3)] → W p l e rm_Me_partedBySides s m args below meth c H locs 0 0 Q (F0 m 4 ls []) := by
    intro n
    induction n with
    | zero => intro z2 z3 w H locs ls h hI hl; exact absurd h (by simp [f_Me_partedBySides_L4])
    | succ n ih =>
      intro z2 z3 w H locs ls h hI hl
      rw [f_Me_partedBySides_L4] at h
      refine lv_iload_n hx hb d_Me_partedBySides_4 rfl (lv_at hl 3 rfl) ?_
      refine lv_aload_n hx hb d_Me_partedBySides_5 rfl (lv_at hl 0 rfl) ?_
      obtain ⟨v4, e5, h⟩ := gb h
      refine gw_getI hx hb hT hown hK hI (ci := 3) rfl i_3 5 (by decide) wd_140 (fun _ h9 => h9) e5 d_Me_partedBySides_6 ?_
      refine lv_icmp_ge (tgt := 157) hx hb d_Me_partedBySides_9 (by decide) (fun c6 => ?_) (fun c6 => ?_)
      · skip
        have h := git c6 h
        exact hK157 _ w H locs ls h hI (lv_sub hl [2] rfl)
      · skip
        have h := gie c6 h
        refine lv_iload_n hx hb d_Me_partedBySides_12 rfl (lv_at hl 2 rfl) ?_
        refine lv_iconst (v := 1) hx hb d_Me_partedBySides_13 (by decide) ?_
        refine lv_icmp_eq (tgt := 157) hx hb d_Me_partedBySides_14 (by decide) (fun c7 => ?_) (fun c7 => ?_)
        · skip
          have h := git c7 h
          exact hK157 _ w H locs ls h hI (lv_sub hl [2] rfl)
        · skip
          have h := gie c7 h
          refine lv_iload_n hx hb d_Me_partedBySides_17 rfl (lv_at hl 3 rfl) ?_
          refine lv_iconst (v := 1) hx hb d_Me_partedBySides_18 (by decide) ?_
          refine lv_iadd hx hb d_Me_partedBySides_19 ?_
          refine lv_aload_n hx hb d_Me_partedBySides_20 rfl (lv_at hl 0 rfl) ?_
          obtain ⟨v8, e9, h⟩ := gb h
          refine gw_getI hx hb hT hown hK hI (ci := 3) rfl i_3 5 (by decide) wd_140 (fun _ h9 => h9) e9 d_Me_partedBySides_21 ?_
          obtain ⟨K34, eK34, h⟩ := gj h
          have hK34 : ∀ (y10 : Int32) (w : gW) (H : Heap) (locs : List Loc) (ls : Array Slot), K34 y10 w = some r → gI D s A w H locs → lv_has ls 13 [(0, .ref a0), (1, .ref a1), (2, .int z2), (3, .int z3)] → W p l e rm_Me_partedBySides s m args below meth c H locs 0 0 Q (F0 m 34 ls [.int y10]) := by
            intro y10 w H locs ls h hI hl
            have h := gk2 eK34 h
            refine lv_istore (lv' := [(4, .int y10), (0, .ref a0), (1, .ref a1), (2, .int z2), (3, .int z3)]) hx hb d_Me_partedBySides_34 hl (by decide) rfl (fun ls hl => ?_)
            refine lv_aload_n hx hb d_Me_partedBySides_36 rfl (lv_at hl 1 rfl) ?_
            obtain ⟨v11, e12, h⟩ := gb h
            refine gw_getA hx hb hT hown hK hI (ci := 3) rfl i_3 3 (by decide) wd_136 (fun _ h9 => h9) e12 d_Me_partedBySides_37 ?_
            refine lv_iload hx hb d_Me_partedBySides_40 (lv_at hl 0 rfl) ?_
            obtain ⟨v13, e14, h⟩ := gb h
            refine gw_aldJ hx hb hK hI e14 d_Me_partedBySides_42 ?_
            refine lv_aload_n hx hb d_Me_partedBySides_43 rfl (lv_at hl 1 rfl) ?_
            obtain ⟨v15, e16, h⟩ := gb h
            refine gw_getA hx hb hT hown hK hI (ci := 3) rfl i_3 3 (by decide) wd_136 (fun _ h9 => h9) e16 d_Me_partedBySides_44 ?_
            refine lv_iload_n hx hb d_Me_partedBySides_47 rfl (lv_at hl 4 rfl) ?_
            obtain ⟨v17, e18, h⟩ := gb h
            refine gw_aldJ hx hb hK hI e18 d_Me_partedBySides_48 ?_
            refine lv_lsub hx hb d_Me_partedBySides_49 ?_
            refine lv_lstore (lv' := [(5, .long (v13 - v17)), (4, .int y10), (0, .ref a0), (1, .ref a1), (2, .int z2), (3, .int z3)]) hx hb d_Me_partedBySides_50 hl (by decide) rfl (fun ls hl => ?_)
            refine lv_aload_n hx hb d_Me_partedBySides_52 rfl (lv_at hl 2 rfl) ?_
            obtain ⟨v19, e20, h⟩ := gb h
            refine gw_getA hx hb hT hown hK hI (ci := 3) rfl i_3 4 (by decide) wd_138 (fun _ h9 => h9) e20 d_Me_partedBySides_53 ?_
            refine lv_iload hx hb d_Me_partedBySides_56 (lv_at hl 1 rfl) ?_
            obtain ⟨v21, e22, h⟩ := gb h
            refine gw_aldJ hx hb hK hI e22 d_Me_partedBySides_58 ?_
            refine lv_aload_n hx hb d_Me_partedBySides_59 rfl (lv_at hl 2 rfl) ?_
            obtain ⟨v23, e24, h⟩ := gb h
            refine gw_getA hx hb hT hown hK hI (ci := 3) rfl i_3 4 (by decide) wd_138 (fun _ h9 => h9) e24 d_Me_partedBySides_60 ?_
            refine lv_iload_n hx hb d_Me_partedBySides_63 rfl (lv_at hl 5 rfl) ?_
            obtain ⟨v25, e26, h⟩ := gb h
            refine gw_aldJ hx hb hK hI e26 d_Me_partedBySides_64 ?_
            refine lv_lsub hx hb d_Me_partedBySides_65 ?_
            refine lv_lstore (lv' := [(7, .long (v21 - v25)), (5, .long (v13 - v17)), (4, .int y10), (0, .ref a0), (1, .ref a1), (2, .int z2), (3, .int z3)]) hx hb d_Me_partedBySides_66 hl (by decide) rfl (fun ls hl => ?_)
            refine lv_iconst (v := 1) hx hb d_Me_partedBySides_68 (by decide) ?_
            refine lv_istore (lv' := [(9, .int 1), (7, .long (v21 - v25)), (5, .long (v13 - v17)), (4, .int y10), (0, .ref a0), (1, .ref a1), (2, .int z2), (3, .int z3)]) hx hb d_Me_partedBySides_69 hl (by decide) rfl (fun ls hl => ?_)
            refine lv_iconst (v := 0) hx hb d_Me_partedBySides_71 (by decide) ?_
            refine lv_istore (lv' := [(10, .int 0), (9, .int 1), (7, .long (v21 - v25)), (5, .long (v13 - v17)), (4, .int y10), (0, .ref a0), (1, .ref a1), (2, .int z2), (3, .int z3)]) hx hb d_Me_partedBySides_72 hl (by decide) rfl (fun ls hl => ?_)
            obtain ⟨K144, eK144, h⟩ := gj h
            have hK144 : ∀ (x27 : Int32) (w : gW) (H : Heap) (locs : List Loc) (ls : Array Slot), K144 x27 w = some r → gI D s A w H locs → lv_has ls 13 [(0, .ref a0), (1, .ref a1), (2, .int z2), (3, .int z3), (9, .int x27)] → W p l e rm_Me_partedBySides s m args below meth c H locs 0 0 Q (F0 m 144 ls []) := by
              intro x27 w H locs ls h hI hl
              have h := gk2 eK144 h
              refine lv_iload_n hx hb d_Me_partedBySides_144 rfl (lv_at hl 2 rfl) ?_
              refine lv_iload hx hb d_Me_partedBySides_145 (lv_at hl 4 rfl) ?_
              obtain ⟨u28, e29⟩ := gsome h
              refine gw_callI e29 h (gw_runS (As := [.int z2, .int x27]) (rest := []) hx hb hml hown hT hK hZ hA hI (m_Ma_max l D g0 z2 x27 w u28 e29) ce_Ma_max wd_390 ⟨by decide, by decide⟩ rfl rfl hl.1 rfl (lv_room (Nat.le_of_ble_eq_true rfl)) d_Me_partedBySides_147 ⟨(show 0 + 0 ≤ 0 by omega), (show 0 + 0 ≤ 0 by omega)⟩) hI hA hexc (show 0 + 0 ≤ 0 by omega) (show 0 + 0 ≤ 0 by omega) (fun v30 w H locs h hI => ?_)
              refine lv_istore_n (lv' := [(2, .int v30), (0, .ref a0), (1, .ref a1), (3, .int z3), (9, .int x27)]) hx hb d_Me_partedBySides_150 rfl hl (by decide) rfl (fun ls hl => ?_)
              refine lv_iinc (v := z3 + 1) (lv' := [(3, .int (z3 + 1)), (2, .int v30), (0, .ref a0), (1, .ref a1), (9, .int x27)]) hx hb d_Me_partedBySides_151 hl (k := 3) rfl rfl (by decide) rfl (fun ls hl => ?_)
              refine lv_goto (tgt := 4) hx hb d_Me_partedBySides_154 (by decide) ?_
              exact ih _ _ w H locs ls h hI (lv_sub hl [2, 3, 1, 0] rfl)
            have hL74 : ∀ (n : Nat), ∀ (z31 : Int32) (z32 : Int32) (w : gW) (H : Heap) (locs : List Loc) (ls : Array Slot), f_Me_partedBySides_L74 g0 a0 a1 z2 z3 (v13 - v17) (v21 - v25) K144 n z31 z32 w = some r → gI D s A w H locs → lv_has ls 13 [(0, .ref a0), (1, .ref a1), (2, .int z2), (3, .int z3), (5, .long (v13 - v17)), (7, .long (v21 - v25)), (9, .int z31), (10, .int z32)] → W p l e rm_Me_partedBySides s m args below meth c H locs 0 0 Q (F0 m 74 ls []) := by
              intro n
              induction n with
              | zero => intro z31 z32 w H locs ls h hI hl; exact absurd h (by simp [f_Me_partedBySides_L74])
              | succ n ih =>
                intro z31 z32 w H locs ls h hI hl
                rw [f_Me_partedBySides_L74] at h
                refine lv_iload hx hb d_Me_partedBySides_74 (lv_at hl 7 rfl) ?_
                refine lv_aload_n hx hb d_Me_partedBySides_76 rfl (lv_at hl 1 rfl) ?_
                obtain ⟨v33, e34, h⟩ := gb h
                refine gw_getI hx hb hT hown hK hI (ci := 3) rfl i_3 5 (by decide) wd_140 (fun _ h9 => h9) e34 d_Me_partedBySides_77 ?_
                refine lv_icmp_ge (tgt := 144) hx hb d_Me_partedBySides_80 (by decide) (fun c35 => ?_) (fun c35 => ?_)
                · skip
                  have h := git c35 h
                  exact hK144 _ w H locs ls h hI (lv_sub hl [0, 1, 2, 3, 6] rfl)
                · skip
                  have h := gie c35 h
                  refine lv_iload hx hb d_Me_partedBySides_83 (lv_at hl 6 rfl) ?_
                  refine lv_iconst (v := -1) hx hb d_Me_partedBySides_85 (by decide) ?_
                  refine lv_icmp_eq (tgt := 144) hx hb d_Me_partedBySides_86 (by decide) (fun c36 => ?_) (fun c36 => ?_)
                  · skip
                    have h := git c36 h
                    exact hK144 _ w H locs ls h hI (lv_sub hl [0, 1, 2, 3, 6] rfl)
                  · skip
                    have h := gie c36 h
                    refine lv_lload hx hb d_Me_partedBySides_89 (lv_at hl 5 rfl) ?_
                    refine lv_aload_n hx hb d_Me_partedBySides_91 rfl (lv_at hl 1 rfl) ?_
                    obtain ⟨v37, e38, h⟩ := gb h
                    refine gw_getA hx hb hT hown hK hI (ci := 3) rfl i_3 3 (by decide) wd_136 (fun _ h9 => h9) e38 d_Me_partedBySides_92 ?_
                    refine lv_iload hx hb d_Me_partedBySides_95 (lv_at hl 7 rfl) ?_
                    obtain ⟨v39, e40, h⟩ := gb h
                    refine gw_aldJ hx hb hK hI e40 d_Me_partedBySides_97 ?_
                    refine lv_aload_n hx hb d_Me_partedBySides_98 rfl (lv_at hl 0 rfl) ?_
                    obtain ⟨v41, e42, h⟩ := gb h
                    refine gw_getA hx hb hT hown hK hI (ci := 3) rfl i_3 3 (by decide) wd_136 (fun _ h9 => h9) e42 d_Me_partedBySides_99 ?_
                    refine lv_iload_n hx hb d_Me_partedBySides_102 rfl (lv_at hl 3 rfl) ?_
                    obtain ⟨v43, e44, h⟩ := gb h
                    refine gw_aldJ hx hb hK hI e44 d_Me_partedBySides_103 ?_
                    refine lv_lsub hx hb d_Me_partedBySides_104 ?_
                    refine lv_lmul hx hb d_Me_partedBySides_105 ?_
                    refine lv_lload hx hb d_Me_partedBySides_106 (lv_at hl 4 rfl) ?_
                    refine lv_aload_n hx hb d_Me_partedBySides_108 rfl (lv_at hl 1 rfl) ?_
                    obtain ⟨v45, e46, h⟩ := gb h
                    refine gw_getA hx hb hT hown hK hI (ci := 3) rfl i_3 4 (by decide) wd_138 (fun _ h9 => h9) e46 d_Me_partedBySides_109 ?_
                    refine lv_iload hx hb d_Me_partedBySides_112 (lv_at hl 7 rfl) ?_
                    obtain ⟨v47, e48, h⟩ := gb h
                    refine gw_aldJ hx hb hK hI e48 d_Me_partedBySides_114 ?_
                    refine lv_aload_n hx hb d_Me_partedBySides_115 rfl (lv_at hl 0 rfl) ?_
                    obtain ⟨v49, e50, h⟩ := gb h
                    refine gw_getA hx hb hT hown hK hI (ci := 3) rfl i_3 4 (by decide) wd_138 (fun _ h9 => h9) e50 d_Me_partedBySides_116 ?_
                    refine lv_iload_n hx hb d_Me_partedBySides_119 rfl (lv_at hl 3 rfl) ?_
                    obtain ⟨v51, e52, h⟩ := gb h
                    refine gw_aldJ hx hb hK hI e52 d_Me_partedBySides_120 ?_
                    refine lv_lsub hx hb d_Me_partedBySides_121 ?_
                    refine lv_lmul hx hb d_Me_partedBySides_122 ?_
                    refine lv_lsub hx hb d_Me_partedBySides_123 ?_
                    refine lv_lstore (lv' := [(11, .long (((v21 - v25) * (v39 - v43)) - ((v13 - v17) * (v47 - v51)))), (0, .ref a0), (1, .ref a1), (2, .int z2), (3, .int z3), (5, .long (v13 - v17)), (7, .long (v21 - v25)), (9, .int z31), (10, .int z32)]) hx hb d_Me_partedBySides_124 hl (by decide) rfl (fun ls hl => ?_)
                    refine lv_iload hx hb d_Me_partedBySides_126 (lv_at hl 7 rfl) ?_
                    refine lv_lload hx hb d_Me_partedBySides_128 (lv_at hl 0 rfl) ?_
                    obtain ⟨u53, e54⟩ := gsome h
                    refine gw_callI e54 h (gw_runS (As := [.long (((v21 - v25) * (v39 - v43)) - ((v13 - v17) * (v47 - v51)))]) (rest := [.int z31]) hx hb hml hown hT hK hZ hA hI (m_Me_sign l D g0 (((v21 - v25) * (v39 - v43)) - ((v13 - v17) * (v47 - v51))) w u53 e54) ce_Me_sign wd_383 ⟨by decide, by decide⟩ rfl rfl hl.1 rfl (lv_room (Nat.le_of_ble_eq_true rfl)) d_Me_partedBySides_130 ⟨(show 0 + 0 ≤ 0 by omega), (show 0 + 0 ≤ 0 by omega)⟩) hI hA hexc (show 0 + 0 ≤ 0 by omega) (show 0 + 0 ≤ 0 by omega) (fun v55 w H locs h hI => ?_)
                    obtain ⟨u56, e57⟩ := gsome h
                    refine gw_callI e57 h (gw_runS (As := [.int z31, .int v55]) (rest := []) hx hb hml hown hT hK hZ hA hI (m_Ma_min l D g0 z31 v55 w u56 e57) ce_Ma_min wd_389 ⟨by decide, by decide⟩ rfl rfl hl.1 rfl (lv_room (Nat.le_of_ble_eq_true rfl)) d_Me_partedBySides_133 ⟨(show 0 + 0 ≤ 0 by omega), (show 0 + 0 ≤ 0 by omega)⟩) hI hA hexc (show 0 + 0 ≤ 0 by omega) (show 0 + 0 ≤ 0 by omega) (fun v58 w H locs h hI => ?_)
                    refine lv_istore (lv' := [(9, .int v58), (11, .long (((v21 - v25) * (v39 - v43)) - ((v13 - v17) * (v47 - v51)))), (0, .ref a0), (1, .ref a1), (2, .int z2), (3, .int z3), (5, .long (v13 - v17)), (7, .long (v21 - v25)), (10, .int z32)]) hx hb d_Me_partedBySides_136 hl (by decide) rfl (fun ls hl => ?_)
                    refine lv_iinc (v := z32 + 1) (lv' := [(10, .int (z32 + 1)), (9, .int v58), (11, .long (((v21 - v25) * (v39 - v43)) - ((v13 - v17) * (v47 - v51)))), (0, .ref a0), (1, .ref a1), (2, .int z2), (3, .int z3), (5, .long (v13 - v17)), (7, .long (v21 - v25))]) hx hb d_Me_partedBySides_138 hl (k := 8) rfl rfl (by decide) rfl (fun ls hl => ?_)
                    refine lv_goto (tgt := 74) hx hb d_Me_partedBySides_141 (by decide) ?_
                    exact ih _ _ w H locs ls h hI (lv_sub hl [3, 4, 5, 6, 7, 8, 1, 0] rfl)
            exact hL74 64 _ _ w H locs ls h hI (lv_sub hl [5, 6, 7, 8, 3, 2, 1, 0] rfl)
          refine lv_icmp_ge (tgt := 33) hx hb d_Me_partedBySides_24 (by decide) (fun c59 => ?_) (fun c59 => ?_)
          · skip
            have h := git c59 h
            refine lv_iconst (v := 0) hx hb d_Me_partedBySides_33 (by decide) ?_
            exact hK34 _ w H locs ls h hI (lv_sub hl [0, 1, 2, 3] rfl)
          · skip
            have h := gie c59 h
            refine lv_iload_n hx hb d_Me_partedBySides_27 rfl (lv_at hl 3 rfl) ?_
            refine lv_iconst (v := 1) hx hb d_Me_partedBySides_28 (by decide) ?_
            refine lv_iadd hx hb d_Me_partedBySides_29 ?_
            refine lv_goto (tgt := 34) hx hb d_Me_partedBySides_30 (by decide) ?_
            exact hK34 _ w H locs ls h hI (lv_sub hl [0, 1, 2, 3] rfl)
  exact hL4 64 _ _ w H locs ls h hI (lv_sub hl [2, 3, 1, 0] rfl)

abbrev b_Me_outlines : ByteArray := prog_5_method_6_code
def y_Me_outlines : MethodName := ⟨"BodySolids$Meeting", "outlines", "(LBodySolids$Solid;LBodySolids$Solid;)I"⟩
theorem d_Me_outlines_0 : decode b_Me_outlines 0 = .ok (.aload_n 0, 1) := by decide +kernel
theorem d_Me_outlines_1 : decode b_Me_outlines 1 = .ok (.getfield 18, 3) := by decide +kernel
theorem d_Me_outlines_4 : decode b_Me_outlines 4 = .ok (.aload_n 0, 1) := by decide +kernel
theorem d_Me_outlines_5 : decode b_Me_outlines 5 = .ok (.getfield 21, 3) := by decide +kernel
theorem d_Me_outlines_8 : decode b_Me_outlines 8 = .ok (.aload_n 1, 1) := by decide +kernel
theorem d_Me_outlines_9 : decode b_Me_outlines 9 = .ok (.getfield 18, 3) := by decide +kernel
theorem d_Me_outlines_12 : decode b_Me_outlines 12 = .ok (.aload_n 1, 1) := by decide +kernel
theorem d_Me_outlines_13 : decode b_Me_outlines 13 = .ok (.getfield 21, 3) := by decide +kernel
theorem d_Me_outlines_16 : decode b_Me_outlines 16 = .ok (.invokestatic 24, 3) := by decide +kernel
theorem d_Me_outlines_19 : decode b_Me_outlines 19 = .ok (.lstore_n 2, 1) := by decide +kernel
theorem d_Me_outlines_20 : decode b_Me_outlines 20 = .ok (.aload_n 0, 1) := by decide +kernel
theorem d_Me_outlines_21 : decode b_Me_outlines 21 = .ok (.getfield 30, 3) := by decide +kernel
theorem d_Me_outlines_24 : decode b_Me_outlines 24 = .ok (.aload_n 0, 1) := by decide +kernel
theorem d_Me_outlines_25 : decode b_Me_outlines 25 = .ok (.getfield 33, 3) := by decide +kernel
theorem d_Me_outlines_28 : decode b_Me_outlines 28 = .ok (.aload_n 1, 1) := by decide +kernel
theorem d_Me_outlines_29 : decode b_Me_outlines 29 = .ok (.getfield 30, 3) := by decide +kernel
theorem d_Me_outlines_32 : decode b_Me_outlines 32 = .ok (.aload_n 1, 1) := by decide +kernel
theorem d_Me_outlines_33 : decode b_Me_outlines 33 = .ok (.getfield 33, 3) := by decide +kernel
theorem d_Me_outlines_36 : decode b_Me_outlines 36 = .ok (.invokestatic 24, 3) := by decide +kernel
theorem d_Me_outlines_39 : decode b_Me_outlines 39 = .ok (.lstore 4, 2) := by decide +kernel
theorem d_Me_outlines_41 : decode b_Me_outlines 41 = .ok (.lload_n 2, 1) := by decide +kernel
theorem d_Me_outlines_42 : decode b_Me_outlines 42 = .ok (.lload 4, 2) := by decide +kernel
theorem d_Me_outlines_44 : decode b_Me_outlines 44 = .ok (.invokestatic 68, 3) := by decide +kernel
theorem d_Me_outlines_47 : decode b_Me_outlines 47 = .ok (.invokestatic 50, 3) := by decide +kernel
theorem d_Me_outlines_50 : decode b_Me_outlines 50 = .ok (.istore 6, 2) := by decide +kernel
theorem d_Me_outlines_52 : decode b_Me_outlines 52 = .ok (.aload_n 0, 1) := by decide +kernel
theorem d_Me_outlines_53 : decode b_Me_outlines 53 = .ok (.getfield 71, 3) := by decide +kernel
theorem d_Me_outlines_56 : decode b_Me_outlines 56 = .ok (.iconst 2, 1) := by decide +kernel
theorem d_Me_outlines_57 : decode b_Me_outlines 57 = .ok (.if_icmp .ne 21, 3) := by decide +kernel
theorem d_Me_outlines_60 : decode b_Me_outlines 60 = .ok (.iload 6, 2) := by decide +kernel
theorem d_Me_outlines_62 : decode b_Me_outlines 62 = .ok (.iconst 1, 1) := by decide +kernel
theorem d_Me_outlines_63 : decode b_Me_outlines 63 = .ok (.if_icmp .eq 15, 3) := by decide +kernel
theorem d_Me_outlines_66 : decode b_Me_outlines 66 = .ok (.iload 6, 2) := by decide +kernel
theorem d_Me_outlines_68 : decode b_Me_outlines 68 = .ok (.aload_n 0, 1) := by decide +kernel
theorem d_Me_outlines_69 : decode b_Me_outlines 69 = .ok (.aload_n 1, 1) := by decide +kernel
theorem d_Me_outlines_70 : decode b_Me_outlines 70 = .ok (.invokestatic 75, 3) := by decide +kernel
theorem d_Me_outlines_73 : decode b_Me_outlines 73 = .ok (.invokestatic 54, 3) := by decide +kernel
theorem d_Me_outlines_76 : decode b_Me_outlines 76 = .ok (.istore 6, 2) := by decide +kernel
theorem d_Me_outlines_78 : decode b_Me_outlines 78 = .ok (.aload_n 1, 1) := by decide +kernel
theorem d_Me_outlines_79 : decode b_Me_outlines 79 = .ok (.getfield 71, 3) := by decide +kernel
theorem d_Me_outlines_82 : decode b_Me_outlines 82 = .ok (.iconst 2, 1) := by decide +kernel
theorem d_Me_outlines_83 : decode b_Me_outlines 83 = .ok (.if_icmp .ne 21, 3) := by decide +kernel
theorem d_Me_outlines_86 : decode b_Me_outlines 86 = .ok (.iload 6, 2) := by decide +kernel
theorem d_Me_outlines_88 : decode b_Me_outlines 88 = .ok (.iconst 1, 1) := by decide +kernel
theorem d_Me_outlines_89 : decode b_Me_outlines 89 = .ok (.if_icmp .eq 15, 3) := by decide +kernel
theorem d_Me_outlines_92 : decode b_Me_outlines 92 = .ok (.iload 6, 2) := by decide +kernel
theorem d_Me_outlines_94 : decode b_Me_outlines 94 = .ok (.aload_n 1, 1) := by decide +kernel
theorem d_Me_outlines_95 : decode b_Me_outlines 95 = .ok (.aload_n 0, 1) := by decide +kernel
theorem d_Me_outlines_96 : decode b_Me_outlines 96 = .ok (.invokestatic 75, 3) := by decide +kernel
theorem d_Me_outlines_99 : decode b_Me_outlines 99 = .ok (.invokestatic 54, 3) := by decide +kernel
theorem d_Me_outlines_102 : decode b_Me_outlines 102 = .ok (.istore 6, 2) := by decide +kernel
theorem d_Me_outlines_104 : decode b_Me_outlines 104 = .ok (.iload 6, 2) := by decide +kernel
theorem d_Me_outlines_106 : decode b_Me_outlines 106 = .ok (.ireturn, 1) := by decide +kernel
abbrev rm_Me_outlines : Room := { frames := 2, cells := 0, slots := 0, locals := 53 }
theorem ce_Me_outlines : gCe y_Me_outlines (.code y_Me_outlines b_Me_outlines 7 (some .int)) 7 2 true := gCe.code wd_382 wd_69 wd_381 (by decide) (by decide +kernel)
def f_Me_outlines (g0 : Nat) (a0 : Nat) (a1 : Nat) (w : gW) : gX Int32 := (gfJ w a0 3 6).bind fun v1 => (gfJ w a0 3 9).bind fun v3 => (gfJ w a1 3 6).bind fun v5 => (gfJ w a1 3 9).bind fun v7 => gbind (f_Me_gap g0 v1 v3 v5 v7 w) fun v11 w => (gfJ w a0 3 7).bind fun v12 => (gfJ w a0 3 10).bind fun v14 => (gfJ w a1 3 7).bind fun v16 => (gfJ w a1 3 10).bind fun v18 => gbind (f_Me_gap g0 v12 v14 v16 v18 w) fun v22 w => gbind (f_Ma_max2 g0 v11 v22 w) fun v25 w => gbind (f_Me_sign g0 v25 w) fun v28 w => (gfI w a0 3 0).bind fun v29 => gjoin (fun K78 => if v29 = 2 then (if v28 = 1 then (K78 v28 w) else (gbind (f_Me_partedBySides g0 a0 a1 w) fun v47 w => gbind (f_Ma_max g0 v28 v47 w) fun v50 w => K78 v50 w)) else (K78 v28 w)) (fun (x31 : Int32) (w : gW) => (gfI w a1 3 0).bind fun v32 => gjoin (fun K104 => if v32 = 2 then (if x31 = 1 then (K104 x31 w) else (gbind (f_Me_partedBySides g0 a1 a0 w) fun v39 w => gbind (f_Ma_max g0 x31 v39 w) fun v42 w => K104 v42 w)) else (K104 x31 w)) (fun (x34 : Int32) (w : gW) => some (.inr x34, w)))
set_option maxHeartbeats 4000000 in
set_option maxRecDepth 100000 in
theorem m_Me_outlines (l : Launch) (D : gD) (g0 : Nat) (a0 : Nat) (a1 : Nat) (w : gW) (r : (String ⊕ Int32) × gW) (h : f_Me_outlines g0 a0 a1 w = some r) : gMet l y_Me_outlines (.code y_Me_outlines b_Me_outlines 7 (some .int)) rm_Me_outlines D g0 [.ref a0, .ref a1] w (goI r) := by
  refine gw_ofI (by decide +kernel) (Nat.le_of_ble_eq_true rfl) ?_
  intro p e s m below meth c ls args A Q hx hb hml hown hlocks hin hnt hT hK hZ hA hret hexc hI hl
  obtain ⟨H, hH⟩ : ∃ H, H = s.heap := ⟨_, rfl⟩
  rw [← hH] at hI ⊢
  obtain ⟨locs, hlocs⟩ : ∃ z : List Loc, z = [] := ⟨_, rfl⟩
  rw [← hlocs] at hI ⊢
  have hl : lv_has ls 7 [(0, .ref a0), (1, .ref a1)] := hl
  unfold f_Me_outlines at h
  refine lv_aload_n hx hb d_Me_outlines_0 rfl (lv_at hl 0 rfl) ?_
  obtain ⟨v1, e2, h⟩ := gb h
  refine gw_getJ hx hb hT hown hK hI (ci := 3) rfl i_3 6 (by decide) wd_141 (fun _ h9 => h9) e2 d_Me_outlines_1 ?_
  refine lv_aload_n hx hb d_Me_outlines_4 rfl (lv_at hl 0 rfl) ?_
  obtain ⟨v3, e4, h⟩ := gb h
  refine gw_getJ hx hb hT hown hK hI (ci := 3) rfl i_3 9 (by decide) wd_147 (fun _ h9 => h9) e4 d_Me_outlines_5 ?_
  refine lv_aload_n hx hb d_Me_outlines_8 rfl (lv_at hl 1 rfl) ?_
  obtain ⟨v5, e6, h⟩ := gb h
  refine gw_getJ hx hb hT hown hK hI (ci := 3) rfl i_3 6 (by decide) wd_141 (fun _ h9 => h9) e6 d_Me_outlines_9 ?_
  refine lv_aload_n hx hb d_Me_outlines_12 rfl (lv_at hl 1 rfl) ?_
  obtain ⟨v7, e8, h⟩ := gb h
  refine gw_getJ hx hb hT hown hK hI (ci := 3) rfl i_3 9 (by decide) wd_147 (fun _ h9 => h9) e8 d_Me_outlines_13 ?_
  obtain ⟨u9, e10⟩ := gsome h
  refine gw_callJ e10 h (gw_runS (As := [.long v1, .long v3, .long v5, .long v7]) (rest := []) hx hb hml hown hT hK hZ hA hI (m_Me_gap l D g0 v1 v3 v5 v7 w u9 e10) ce_Me_gap wd_376 ⟨by decide, by decide⟩ rfl rfl hl.1 rfl (lv_room (Nat.le_of_ble_eq_true rfl)) d_Me_outlines_16 ⟨(show 0 + 0 ≤ 0 by omega), (show 0 + 0 ≤ 0 by omega)⟩) hI hA hexc (show 0 + 0 ≤ 0 by omega) (show 0 + 0 ≤ 0 by omega) (fun v11 w H locs h hI => ?_)
  refine lv_lstore_n (lv' := [(2, .long v11), (0, .ref a0), (1, .ref a1)]) hx hb d_Me_outlines_19 rfl hl (by decide) rfl (fun ls hl => ?_)
  refine lv_aload_n hx hb d_Me_outlines_20 rfl (lv_at hl 1 rfl) ?_
  obtain ⟨v12, e13, h⟩ := gb h
  refine gw_getJ hx hb hT hown hK hI (ci := 3) rfl i_3 7 (by decide) wd_143 (fun _ h9 => h9) e13 d_Me_outlines_21 ?_
  refine lv_aload_n hx hb d_Me_outlines_24 rfl (lv_at hl 1 rfl) ?_
  obtain ⟨v14, e15, h⟩ := gb h
  refine gw_getJ hx hb hT hown hK hI (ci := 3) rfl i_3 10 (by decide) wd_149 (fun _ h9 => h9) e15 d_Me_outlines_25 ?_
  refine lv_aload_n hx hb d_Me_outlines_28 rfl (lv_at hl 2 rfl) ?_
  obtain ⟨v16, e17, h⟩ := gb h
  refine gw_getJ hx hb hT hown hK hI (ci := 3) rfl i_3 7 (by decide) wd_143 (fun _ h9 => h9) e17 d_Me_outlines_29 ?_
  refine lv_aload_n hx hb d_Me_outlines_32 rfl (lv_at hl 2 rfl) ?_
  obtain ⟨v18, e19, h⟩ := gb h
  refine gw_getJ hx hb hT hown hK hI (ci := 3) rfl i_3 10 (by decide) wd_149 (fun _ h9 => h9) e19 d_Me_outlines_33 ?_
  obtain ⟨u20, e21⟩ := gsome h
  refine gw_callJ e21 h (gw_runS (As := [.long v12, .long v14, .long v16, .long v18]) (rest := []) hx hb hml hown hT hK hZ hA hI (m_Me_gap l D g0 v12 v14 v16 v18 w u20 e21) ce_Me_gap wd_376 ⟨by decide, by decide⟩ rfl rfl hl.1 rfl (lv_room (Nat.le_of_ble_eq_true rfl)) d_Me_outlines_36 ⟨(show 0 + 0 ≤ 0 by omega), (show 0 + 0 ≤ 0 by omega)⟩) hI hA hexc (show 0 + 0 ≤ 0 by omega) (show 0 + 0 ≤ 0 by omega) (fun v22 w H locs h hI => ?_)
  refine lv_lstore (lv' := [(4, .long v22), (2, .long v11), (0, .ref a0), (1, .ref a1)]) hx hb d_Me_outlines_39 hl (by decide) rfl (fun ls hl => ?_)
  refine lv_lload_n hx hb d_Me_outlines_41 rfl (lv_at hl 1 rfl) ?_
  refine lv_lload hx hb d_Me_outlines_42 (lv_at hl 0 rfl) ?_
  obtain ⟨u23, e24⟩ := gsome h
  refine gw_callJ e24 h (gw_runS (As := [.long v11, .long v22]) (rest := []) hx hb hml hown hT hK hZ hA hI (m_Ma_max2 l D g0 v11 v22 w u23 e24) ce_Ma_max2 wd_379 ⟨by decide, by decide⟩ rfl rfl hl.1 rfl (lv_room (Nat.le_of_ble_eq_true rfl)) d_Me_outlines_44 ⟨(show 0 + 0 ≤ 0 by omega), (show 0 + 0 ≤ 0 by omega)⟩) hI hA hexc (show 0 + 0 ≤ 0 by omega) (show 0 + 0 ≤ 0 by omega) (fun v25 w H locs h hI => ?_)
  obtain ⟨u26, e27⟩ := gsome h
  refine gw_callI e27 h (gw_runS (As := [.long v25]) (rest := []) hx hb hml hown hT hK hZ hA hI (m_Me_sign l D g0 v25 w u26 e27) ce_Me_sign wd_383 ⟨by decide, by decide⟩ rfl rfl hl.1 rfl (lv_room (Nat.le_of_ble_eq_true rfl)) d_Me_outlines_47 ⟨(show 0 + 0 ≤ 0 by omega), (show 0 + 0 ≤ 0 by omega)⟩) hI hA hexc (show 0 + 0 ≤ 0 by omega) (show 0 + 0 ≤ 0 by omega) (fun v28 w H locs h hI => ?_)
  refine lv_istore (lv' := [(6, .int v28), (4, .long v22), (2, .long v11), (0, .ref a0), (1, .ref a1)]) hx hb d_Me_outlines_50 hl (by decide) rfl (fun ls hl => ?_)
  refine lv_aload_n hx hb d_Me_outlines_52 rfl (lv_at hl 3 rfl) ?_
  obtain ⟨v29, e30, h⟩ := gb h
  refine gw_getI hx hb hT hown hK hI (ci := 3) rfl i_3 0 (by decide) wd_130 (fun _ h9 => h9) e30 d_Me_outlines_53 ?_
  refine lv_iconst (v := 2) hx hb d_Me_outlines_56 (by decide) ?_
  obtain ⟨K78, eK78, h⟩ := gj h
  have hK78 : ∀ (x31 : Int32) (w : gW) (H : Heap) (locs : List Loc) (ls : Array Slot), K78 x31 w = some r → gI D s A w H locs → lv_has ls 7 [(0, .ref a0), (1, .ref a1), (6, .int x31)] → W p l e rm_Me_outlines s m args below meth c H locs 0 0 Q (F0 m 78 ls []) := by
    intro x31 w H locs ls h hI hl
    have h := gk2 eK78 h
    refine lv_aload_n hx hb d_Me_outlines_78 rfl (lv_at hl 1 rfl) ?_
    obtain ⟨v32, e33, h⟩ := gb h
    refine gw_getI hx hb hT hown hK hI (ci := 3) rfl i_3 0 (by decide) wd_130 (fun _ h9 => h9) e33 d_Me_outlines_79 ?_
    refine lv_iconst (v := 2) hx hb d_Me_outlines_82 (by decide) ?_
    obtain ⟨K104, eK104, h⟩ := gj h
    have hK104 : ∀ (x34 : Int32) (w : gW) (H : Heap) (locs : List Loc) (ls : Array Slot), K104 x34 w = some r → gI D s A w H locs → lv_has ls 7 [(6, .int x34)] → W p l e rm_Me_outlines s m args below meth c H locs 0 0 Q (F0 m 104 ls []) := by
      intro x34 w H locs ls h hI hl
      have h := gk2 eK104 h
      refine lv_iload hx hb d_Me_outlines_104 (lv_at hl 0 rfl) ?_
      exact W.widen (show 0 ≤ 0 by omega) (show 0 ≤ 0 by omega) (hret _ _ (Option.some.inj h).symm _ _ _ _ d_Me_outlines_106 hI)
    refine lv_icmp_ne (tgt := 104) hx hb d_Me_outlines_83 (by decide) (fun c35 => ?_) (fun c35 => ?_)
    · skip
      have h := gie c35 h
      exact hK104 _ w H locs ls h hI (lv_sub hl [2] rfl)
    · skip
      have h := git c35 h
      refine lv_iload hx hb d_Me_outlines_86 (lv_at hl 2 rfl) ?_
      refine lv_iconst (v := 1) hx hb d_Me_outlines_88 (by decide) ?_
      refine lv_icmp_eq (tgt := 104) hx hb d_Me_outlines_89 (by decide) (fun c36 => ?_) (fun c36 => ?_)
      · skip
        have h := git c36 h
        exact hK104 _ w H locs ls h hI (lv_sub hl [2] rfl)
      · skip
        have h := gie c36 h
        refine lv_iload hx hb d_Me_outlines_92 (lv_at hl 2 rfl) ?_
        refine lv_aload_n hx hb d_Me_outlines_94 rfl (lv_at hl 1 rfl) ?_
        refine lv_aload_n hx hb d_Me_outlines_95 rfl (lv_at hl 0 rfl) ?_
        obtain ⟨u37, e38⟩ := gsome h
        refine gw_callI e38 h (gw_runS (As := [.ref a1, .ref a0]) (rest := [.int x31]) hx hb hml hown hT hK hZ hA hI (m_Me_partedBySides l D g0 a1 a0 w u37 e38) ce_Me_partedBySides wd_386 ⟨by decide, by decide⟩ rfl rfl hl.1 rfl (lv_room (Nat.le_of_ble_eq_true rfl)) d_Me_outlines_96 ⟨(show 0 + 0 ≤ 0 by omega), (show 0 + 0 ≤ 0 by omega)⟩) hI hA hexc (show 0 + 0 ≤ 0 by omega) (show 0 + 0 ≤ 0 by omega) (fun v39 w H locs h hI => ?_)
        obtain ⟨u40, e41⟩ := gsome h
        refine gw_callI e41 h (gw_runS (As := [.int x31, .int v39]) (rest := []) hx hb hml hown hT hK hZ hA hI (m_Ma_max l D g0 x31 v39 w u40 e41) ce_Ma_max wd_390 ⟨by decide, by decide⟩ rfl rfl hl.1 rfl (lv_room (Nat.le_of_ble_eq_true rfl)) d_Me_outlines_99 ⟨(show 0 + 0 ≤ 0 by omega), (show 0 + 0 ≤ 0 by omega)⟩) hI hA hexc (show 0 + 0 ≤ 0 by omega) (show 0 + 0 ≤ 0 by omega) (fun v42 w H locs h hI => ?_)
        refine lv_istore (lv' := [(6, .int v42), (0, .ref a0), (1, .ref a1)]) hx hb d_Me_outlines_102 hl (by decide) rfl (fun ls hl => ?_)
        exact hK104 _ w H locs ls h hI (lv_sub hl [0] rfl)
  refine lv_icmp_ne (tgt := 78) hx hb d_Me_outlines_57 (by decide) (fun c43 => ?_) (fun c43 => ?_)
  · skip
    have h := gie c43 h
    exact hK78 _ w H locs ls h hI (lv_sub hl [3, 4, 0] rfl)
  · skip
    have h := git c43 h
    refine lv_iload hx hb d_Me_outlines_60 (lv_at hl 0 rfl) ?_
    refine lv_iconst (v := 1) hx hb d_Me_outlines_62 (by decide) ?_
    refine lv_icmp_eq (tgt := 78) hx hb d_Me_outlines_63 (by decide) (fun c44 => ?_) (fun c44 => ?_)
    · skip
      have h := git c44 h
      exact hK78 _ w H locs ls h hI (lv_sub hl [3, 4, 0] rfl)
    · skip
      have h := gie c44 h
      refine lv_iload hx hb d_Me_outlines_66 (lv_at hl 0 rfl) ?_
      refine lv_aload_n hx hb d_Me_outlines_68 rfl (lv_at hl 3 rfl) ?_
      refine lv_aload_n hx hb d_Me_outlines_69 rfl (lv_at hl 4 rfl) ?_
      obtain ⟨u45, e46⟩ := gsome h
      refine gw_callI e46 h (gw_runS (As := [.ref a0, .ref a1]) (rest := [.int v28]) hx hb hml hown hT hK hZ hA hI (m_Me_partedBySides l D g0 a0 a1 w u45 e46) ce_Me_partedBySides wd_386 ⟨by decide, by decide⟩ rfl rfl hl.1 rfl (lv_room (Nat.le_of_ble_eq_true rfl)) d_Me_outlines_70 ⟨(show 0 + 0 ≤ 0 by omega), (show 0 + 0 ≤ 0 by omega)⟩) hI hA hexc (show 0 + 0 ≤ 0 by omega) (show 0 + 0 ≤ 0 by omega) (fun v47 w H locs h hI => ?_)
      obtain ⟨u48, e49⟩ := gsome h
      refine gw_callI e49 h (gw_runS (As := [.int v28, .int v47]) (rest := []) hx hb hml hown hT hK hZ hA hI (m_Ma_max l D g0 v28 v47 w u48 e49) ce_Ma_max wd_390 ⟨by decide, by decide⟩ rfl rfl hl.1 rfl (lv_room (Nat.le_of_ble_eq_true rfl)) d_Me_outlines_73 ⟨(show 0 + 0 ≤ 0 by omega), (show 0 + 0 ≤ 0 by omega)⟩) hI hA hexc (show 0 + 0 ≤ 0 by omega) (show 0 + 0 ≤ 0 by omega) (fun v50 w H locs h hI => ?_)
      refine lv_istore (lv' := [(6, .int v50), (4, .long v22), (2, .long v11), (0, .ref a0), (1, .ref a1)]) hx hb d_Me_outlines_76 hl (by decide) rfl (fun ls hl => ?_)
      exact hK78 _ w H locs ls h hI (lv_sub hl [3, 4, 0] rfl)

abbrev b_Me_squareIfAbove : ByteArray := prog_5_method_5_code
def y_Me_squareIfAbove : MethodName := ⟨"BodySolids$Meeting", "squareIfAbove", "(J)J"⟩
theorem d_Me_squareIfAbove_0 : decode b_Me_squareIfAbove 0 = .ok (.lload_n 0, 1) := by decide +kernel
theorem d_Me_squareIfAbove_1 : decode b_Me_squareIfAbove 1 = .ok (.lconst 0, 1) := by decide +kernel
theorem d_Me_squareIfAbove_2 : decode b_Me_squareIfAbove 2 = .ok (.lcmp, 1) := by decide +kernel
theorem d_Me_squareIfAbove_3 : decode b_Me_squareIfAbove 3 = .ok (.ifCond .le 9, 3) := by decide +kernel
theorem d_Me_squareIfAbove_6 : decode b_Me_squareIfAbove 6 = .ok (.lload_n 0, 1) := by decide +kernel
theorem d_Me_squareIfAbove_7 : decode b_Me_squareIfAbove 7 = .ok (.lload_n 0, 1) := by decide +kernel
theorem d_Me_squareIfAbove_8 : decode b_Me_squareIfAbove 8 = .ok (.lmul, 1) := by decide +kernel
theorem d_Me_squareIfAbove_9 : decode b_Me_squareIfAbove 9 = .ok (.goto 4, 3) := by decide +kernel
theorem d_Me_squareIfAbove_12 : decode b_Me_squareIfAbove 12 = .ok (.lconst 0, 1) := by decide +kernel
theorem d_Me_squareIfAbove_13 : decode b_Me_squareIfAbove 13 = .ok (.lreturn, 1) := by decide +kernel
abbrev rm_Me_squareIfAbove : Room := { frames := 0, cells := 0, slots := 0, locals := 0 }
theorem ce_Me_squareIfAbove : gCe y_Me_squareIfAbove (.code y_Me_squareIfAbove b_Me_squareIfAbove 2 (some .long)) 2 1 true := gCe.code wd_399 wd_69 wd_398 (by decide) (by decide +kernel)
def f_Me_squareIfAbove (g0 : Nat) (p0 : Int64) (w : gW) : gX Int64 := gjoin (fun K13 => if p0 ≤ 0 then (K13 0 w) else (K13 (p0 * p0) w)) (fun (y1 : Int64) (w : gW) => some (.inr y1, w))
set_option maxHeartbeats 4000000 in
set_option maxRecDepth 100000 in
theorem m_Me_squareIfAbove (l : Launch) (D : gD) (g0 : Nat) (p0 : Int64) (w : gW) (r : (String ⊕ Int64) × gW) (h : f_Me_squareIfAbove g0 p0 w = some r) : gMet l y_Me_squareIfAbove (.code y_Me_squareIfAbove b_Me_squareIfAbove 2 (some .long)) rm_Me_squareIfAbove D g0 [.long p0] w (goJ r) := by
  refine gw_ofJ (by decide +kernel) (Nat.le_of_ble_eq_true rfl) ?_
  intro p e s m below meth c ls args A Q hx hb hml hown hlocks hin hnt hT hK hZ hA hret hexc hI hl
  obtain ⟨H, hH⟩ : ∃ H, H = s.heap := ⟨_, rfl⟩
  rw [← hH] at hI ⊢
  obtain ⟨locs, hlocs⟩ : ∃ z : List Loc, z = [] := ⟨_, rfl⟩
  rw [← hlocs] at hI ⊢
  have hl : lv_has ls 2 [(0, .long p0)] := hl
  unfold f_Me_squareIfAbove at h
  refine lv_lload_n hx hb d_Me_squareIfAbove_0 rfl (lv_at hl 0 rfl) ?_
  refine lv_lconst (v := 0) hx hb d_Me_squareIfAbove_1 (by decide) ?_
  refine W.lcmp hx hb d_Me_squareIfAbove_2 ?_
  obtain ⟨K13, eK13, h⟩ := gj h
  have hK13 : ∀ (y1 : Int64) (w : gW) (H : Heap) (locs : List Loc) (ls : Array Slot), K13 y1 w = some r → gI D s A w H locs → lv_has ls 2 [] → W p l e rm_Me_squareIfAbove s m args below meth c H locs 0 0 Q (F0 m 13 ls [.long y1]) := by
    intro y1 w H locs ls h hI hl
    have h := gk2 eK13 h
    exact W.widen (show 0 ≤ 0 by omega) (show 0 ≤ 0 by omega) (hret _ _ (Option.some.inj h).symm _ _ _ _ d_Me_squareIfAbove_13 hI)
  refine lv_if_le (tgt := 12) hx hb d_Me_squareIfAbove_3 (by decide) (fun c2 => ?_) (fun c2 => ?_)
  · have c2 := (lg_cmp_le _ _).mp c2
    have h := git c2 h
    refine lv_lconst (v := 0) hx hb d_Me_squareIfAbove_12 (by decide) ?_
    exact hK13 _ w H locs ls h hI (lv_sub hl [] rfl)
  · have c2 := mt (lg_cmp_le _ _).mpr c2
    have h := gie c2 h
    refine lv_lload_n hx hb d_Me_squareIfAbove_6 rfl (lv_at hl 0 rfl) ?_
    refine lv_lload_n hx hb d_Me_squareIfAbove_7 rfl (lv_at hl 0 rfl) ?_
    refine lv_lmul hx hb d_Me_squareIfAbove_8 ?_
    refine lv_goto (tgt := 13) hx hb d_Me_squareIfAbove_9 (by decide) ?_
    exact hK13 _ w H locs ls h hI (lv_sub hl [] rfl)

abbrev b_Me_cornersDistance : ByteArray := prog_5_method_9_code
def y_Me_cornersDistance : MethodName := ⟨"BodySolids$Meeting", "cornersDistance", "(LBodySolids$Solid;LBodySolids$Solid;J)I"⟩
theorem d_Me_cornersDistance_0 : decode b_Me_cornersDistance 0 = .ok (.iconst 1, 1) := by decide +kernel
theorem d_Me_cornersDistance_1 : decode b_Me_cornersDistance 1 = .ok (.istore 4, 2) := by decide +kernel
theorem d_Me_cornersDistance_3 : decode b_Me_cornersDistance 3 = .ok (.iconst 0, 1) := by decide +kernel
theorem d_Me_cornersDistance_4 : decode b_Me_cornersDistance 4 = .ok (.istore 5, 2) := by decide +kernel
theorem d_Me_cornersDistance_6 : decode b_Me_cornersDistance 6 = .ok (.iload 5, 2) := by decide +kernel
theorem d_Me_cornersDistance_8 : decode b_Me_cornersDistance 8 = .ok (.aload_n 0, 1) := by decide +kernel
theorem d_Me_cornersDistance_9 : decode b_Me_cornersDistance 9 = .ok (.getfield 78, 3) := by decide +kernel
theorem d_Me_cornersDistance_12 : decode b_Me_cornersDistance 12 = .ok (.if_icmp .ge 86, 3) := by decide +kernel
theorem d_Me_cornersDistance_15 : decode b_Me_cornersDistance 15 = .ok (.aload_n 0, 1) := by decide +kernel
theorem d_Me_cornersDistance_16 : decode b_Me_cornersDistance 16 = .ok (.getfield 81, 3) := by decide +kernel
theorem d_Me_cornersDistance_19 : decode b_Me_cornersDistance 19 = .ok (.iload 5, 2) := by decide +kernel
theorem d_Me_cornersDistance_21 : decode b_Me_cornersDistance 21 = .ok (.laload, 1) := by decide +kernel
theorem d_Me_cornersDistance_22 : decode b_Me_cornersDistance 22 = .ok (.aload_n 0, 1) := by decide +kernel
theorem d_Me_cornersDistance_23 : decode b_Me_cornersDistance 23 = .ok (.getfield 81, 3) := by decide +kernel
theorem d_Me_cornersDistance_26 : decode b_Me_cornersDistance 26 = .ok (.iload 5, 2) := by decide +kernel
theorem d_Me_cornersDistance_28 : decode b_Me_cornersDistance 28 = .ok (.laload, 1) := by decide +kernel
theorem d_Me_cornersDistance_29 : decode b_Me_cornersDistance 29 = .ok (.aload_n 1, 1) := by decide +kernel
theorem d_Me_cornersDistance_30 : decode b_Me_cornersDistance 30 = .ok (.getfield 18, 3) := by decide +kernel
theorem d_Me_cornersDistance_33 : decode b_Me_cornersDistance 33 = .ok (.aload_n 1, 1) := by decide +kernel
theorem d_Me_cornersDistance_34 : decode b_Me_cornersDistance 34 = .ok (.getfield 21, 3) := by decide +kernel
theorem d_Me_cornersDistance_37 : decode b_Me_cornersDistance 37 = .ok (.invokestatic 24, 3) := by decide +kernel
theorem d_Me_cornersDistance_40 : decode b_Me_cornersDistance 40 = .ok (.lstore 6, 2) := by decide +kernel
theorem d_Me_cornersDistance_42 : decode b_Me_cornersDistance 42 = .ok (.aload_n 0, 1) := by decide +kernel
theorem d_Me_cornersDistance_43 : decode b_Me_cornersDistance 43 = .ok (.getfield 85, 3) := by decide +kernel
theorem d_Me_cornersDistance_46 : decode b_Me_cornersDistance 46 = .ok (.iload 5, 2) := by decide +kernel
theorem d_Me_cornersDistance_48 : decode b_Me_cornersDistance 48 = .ok (.laload, 1) := by decide +kernel
theorem d_Me_cornersDistance_49 : decode b_Me_cornersDistance 49 = .ok (.aload_n 0, 1) := by decide +kernel
theorem d_Me_cornersDistance_50 : decode b_Me_cornersDistance 50 = .ok (.getfield 85, 3) := by decide +kernel
theorem d_Me_cornersDistance_53 : decode b_Me_cornersDistance 53 = .ok (.iload 5, 2) := by decide +kernel
theorem d_Me_cornersDistance_55 : decode b_Me_cornersDistance 55 = .ok (.laload, 1) := by decide +kernel
theorem d_Me_cornersDistance_56 : decode b_Me_cornersDistance 56 = .ok (.aload_n 1, 1) := by decide +kernel
theorem d_Me_cornersDistance_57 : decode b_Me_cornersDistance 57 = .ok (.getfield 30, 3) := by decide +kernel
theorem d_Me_cornersDistance_60 : decode b_Me_cornersDistance 60 = .ok (.aload_n 1, 1) := by decide +kernel
theorem d_Me_cornersDistance_61 : decode b_Me_cornersDistance 61 = .ok (.getfield 33, 3) := by decide +kernel
theorem d_Me_cornersDistance_64 : decode b_Me_cornersDistance 64 = .ok (.invokestatic 24, 3) := by decide +kernel
theorem d_Me_cornersDistance_67 : decode b_Me_cornersDistance 67 = .ok (.lstore 8, 2) := by decide +kernel
theorem d_Me_cornersDistance_69 : decode b_Me_cornersDistance 69 = .ok (.iload 4, 2) := by decide +kernel
theorem d_Me_cornersDistance_71 : decode b_Me_cornersDistance 71 = .ok (.lload 6, 2) := by decide +kernel
theorem d_Me_cornersDistance_73 : decode b_Me_cornersDistance 73 = .ok (.invokestatic 60, 3) := by decide +kernel
theorem d_Me_cornersDistance_76 : decode b_Me_cornersDistance 76 = .ok (.lload 8, 2) := by decide +kernel
theorem d_Me_cornersDistance_78 : decode b_Me_cornersDistance 78 = .ok (.invokestatic 60, 3) := by decide +kernel
theorem d_Me_cornersDistance_81 : decode b_Me_cornersDistance 81 = .ok (.ladd, 1) := by decide +kernel
theorem d_Me_cornersDistance_82 : decode b_Me_cornersDistance 82 = .ok (.lload_n 2, 1) := by decide +kernel
theorem d_Me_cornersDistance_83 : decode b_Me_cornersDistance 83 = .ok (.lsub, 1) := by decide +kernel
theorem d_Me_cornersDistance_84 : decode b_Me_cornersDistance 84 = .ok (.invokestatic 50, 3) := by decide +kernel
theorem d_Me_cornersDistance_87 : decode b_Me_cornersDistance 87 = .ok (.invokestatic 88, 3) := by decide +kernel
theorem d_Me_cornersDistance_90 : decode b_Me_cornersDistance 90 = .ok (.istore 4, 2) := by decide +kernel
theorem d_Me_cornersDistance_92 : decode b_Me_cornersDistance 92 = .ok (.iinc 5 1, 3) := by decide +kernel
theorem d_Me_cornersDistance_95 : decode b_Me_cornersDistance 95 = .ok (.goto (-89), 3) := by decide +kernel
theorem d_Me_cornersDistance_98 : decode b_Me_cornersDistance 98 = .ok (.iload 4, 2) := by decide +kernel
theorem d_Me_cornersDistance_100 : decode b_Me_cornersDistance 100 = .ok (.ireturn, 1) := by decide +kernel
abbrev rm_Me_cornersDistance : Room := { frames := 2, cells := 0, slots := 0, locals := 50 }
theorem ce_Me_cornersDistance : gCe y_Me_cornersDistance (.code y_Me_cornersDistance b_Me_cornersDistance 10 (some .int)) 10 3 true := gCe.code wd_396 wd_69 wd_395 (by decide) (by decide +kernel)
def f_Me_cornersDistance_L6 (g0 : Nat) (c0 : Nat) (c1 : Nat) (c2 : Int64) (K98 : Int32 → gW → gX Int32) : Nat → Int32 → Int32 → gW → gX Int32
  | 0, _, _, _ => none
  | n + 1, z4, z5, w => (gfI w c0 3 5).bind fun v2 => if v2 ≤ z5 then (K98 z4 w) else ((gfA w c0 3 3).bind fun v5 => (gaJ w v5 z5).bind fun v7 => (gfA w c0 3 3).bind fun v9 => (gaJ w v9 z5).bind fun v11 => (gfJ w c1 3 6).bind fun v13 => (gfJ w c1 3 9).bind fun v15 => gbind (f_Me_gap g0 v7 v11 v13 v15 w) fun v19 w => (gfA w c0 3 4).bind fun v20 => (gaJ w v20 z5).bind fun v22 => (gfA w c0 3 4).bind fun v24 => (gaJ w v24 z5).bind fun v26 => (gfJ w c1 3 7).bind fun v28 => (gfJ w c1 3 10).bind fun v30 => gbind (f_Me_gap g0 v22 v26 v28 v30 w) fun v34 w => gbind (f_Me_squareIfAbove g0 v19 w) fun v37 w => gbind (f_Me_squareIfAbove g0 v34 w) fun v40 w => gbind (f_Me_sign g0 ((v37 + v40) - c2) w) fun v43 w => gbind (f_Ma_min g0 z4 v43 w) fun v46 w => f_Me_cornersDistance_L6 g0 c0 c1 c2 K98 n v46 (z5 + 1) w)
def f_Me_cornersDistance (g0 : Nat) (a0 : Nat) (a1 : Nat) (p2 : Int64) (w : gW) : gX Int32 := gjoin (fun K98 => f_Me_cornersDistance_L6 g0 a0 a1 p2 K98 64 1 0 w) (fun (x1 : Int32) (w : gW) => some (.inr x1, w))
set_option maxHeartbeats 4000000 in
set_option maxRecDepth 100000 in
theorem m_Me_cornersDistance (l : Launch) (D : gD) (g0 : Nat) (a0 : Nat) (a1 : Nat) (p2 : Int64) (w : gW) (r : (String ⊕ Int32) × gW) (h : f_Me_cornersDistance g0 a0 a1 p2 w = some r) : gMet l y_Me_cornersDistance (.code y_Me_cornersDistance b_Me_cornersDistance 10 (some .int)) rm_Me_cornersDistance D g0 [.ref a0, .ref a1, .long p2] w (goI r) := by
  refine gw_ofI (by decide +kernel) (Nat.le_of_ble_eq_true rfl) ?_
  intro p e s m below meth c ls args A Q hx hb hml hown hlocks hin hnt hT hK hZ hA hret hexc hI hl
  obtain ⟨H, hH⟩ : ∃ H, H = s.heap := ⟨_, rfl⟩
  rw [← hH] at hI ⊢
  obtain ⟨locs, hlocs⟩ : ∃ z : List Loc, z = [] := ⟨_, rfl⟩
  rw [← hlocs] at hI ⊢
  have hl : lv_has ls 10 [(0, .ref a0), (1, .ref a1), (2, .long p2)] := hl
  unfold f_Me_cornersDistance at h
  refine lv_iconst (v := 1) hx hb d_Me_cornersDistance_0 (by decide) ?_
  refine lv_istore (lv' := [(4, .int 1), (0, .ref a0), (1, .ref a1), (2, .long p2)]) hx hb d_Me_cornersDistance_1 hl (by decide) rfl (fun ls hl => ?_)
  refine lv_iconst (v := 0) hx hb d_Me_cornersDistance_3 (by decide) ?_
  refine lv_istore (lv' := [(5, .int 0), (4, .int 1), (0, .ref a0), (1, .ref a1), (2, .long p2)]) hx hb d_Me_cornersDistance_4 hl (by decide) rfl (fun ls hl => ?_)
  obtain ⟨K98, eK98, h⟩ := gj h
  have hK98 : ∀ (x1 : Int32) (w : gW) (H : Heap) (locs : List Loc) (ls : Array Slot), K98 x1 w = some r → gI D s A w H locs → lv_has ls 10 [(4, .int x1)] → W p l e rm_Me_cornersDistance s m args below meth c H locs 0 0 Q (F0 m 98 ls []) := by
    intro x1 w H locs ls h hI hl
    have h := gk2 eK98 h
    refine lv_iload hx hb d_Me_cornersDistance_98 (lv_at hl 0 rfl) ?_
    exact W.widen (show 0 ≤ 0 by omega) (show 0 ≤ 0 by omega) (hret _ _ (Option.some.inj h).symm _ _ _ _ d_Me_cornersDistance_100 hI)
  have hL6 : ∀ (n : Nat), ∀ (z2 : Int32) (z3 : Int32) (w : gW) (H : Heap) (locs : List Loc) (ls : Array Slot), f_Me_cornersDistance_L6 g0 a0 a1 p2 K98 n z2 z3 w = some r → gI D s A w H locs → lv_has ls 10 [(0, .ref a0), (1, .ref a1), (2, .long p2), (4, .int z2), (5, .int z3)] → W p l e rm_Me_cornersDistance s m args below meth c H locs 0 0 Q (F0 m 6 ls []) := by
    intro n
    induction n with
    | zero => intro z2 z3 w H locs ls h hI hl; exact absurd h (by simp [f_Me_cornersDistance_L6])
    | succ n ih =>
      intro z2 z3 w H locs ls h hI hl
      rw [f_Me_cornersDistance_L6] at h
      refine lv_iload hx hb d_Me_cornersDistance_6 (lv_at hl 4 rfl) ?_
      refine lv_aload_n hx hb d_Me_cornersDistance_8 rfl (lv_at hl 0 rfl) ?_
      obtain ⟨v4, e5, h⟩ := gb h
      refine gw_getI hx hb hT hown hK hI (ci := 3) rfl i_3 5 (by decide) wd_140 (fun _ h9 => h9) e5 d_Me_cornersDistance_9 ?_
      refine lv_icmp_ge (tgt := 98) hx hb d_Me_cornersDistance_12 (by decide) (fun c6 => ?_) (fun c6 => ?_)
      · skip
        have h := git c6 h
        exact hK98 _ w H locs ls h hI (lv_sub hl [3] rfl)
      · skip
        have h := gie c6 h
        refine lv_aload_n hx hb d_Me_cornersDistance_15 rfl (lv_at hl 0 rfl) ?_
        obtain ⟨v7, e8, h⟩ := gb h
        refine gw_getA hx hb hT hown hK hI (ci := 3) rfl i_3 3 (by decide) wd_136 (fun _ h9 => h9) e8 d_Me_cornersDistance_16 ?_
        refine lv_iload hx hb d_Me_cornersDistance_19 (lv_at hl 4 rfl) ?_
        obtain ⟨v9, e10, h⟩ := gb h
        refine gw_aldJ hx hb hK hI e10 d_Me_cornersDistance_21 ?_
        refine lv_aload_n hx hb d_Me_cornersDistance_22 rfl (lv_at hl 0 rfl) ?_
        obtain ⟨v11, e12, h⟩ := gb h
        refine gw_getA hx hb hT hown hK hI (ci := 3) rfl i_3 3 (by decide) wd_136 (fun _ h9 => h9) e12 d_Me_cornersDistance_23 ?_
        refine lv_iload hx hb d_Me_cornersDistance_26 (lv_at hl 4 rfl) ?_
        obtain ⟨v13, e14, h⟩ := gb h
        refine gw_aldJ hx hb hK hI e14 d_Me_cornersDistance_28 ?_
        refine lv_aload_n hx hb d_Me_cornersDistance_29 rfl (lv_at hl 1 rfl) ?_
        obtain ⟨v15, e16, h⟩ := gb h
        refine gw_getJ hx hb hT hown hK hI (ci := 3) rfl i_3 6 (by decide) wd_141 (fun _ h9 => h9) e16 d_Me_cornersDistance_30 ?_
        refine lv_aload_n hx hb d_Me_cornersDistance_33 rfl (lv_at hl 1 rfl) ?_
        obtain ⟨v17, e18, h⟩ := gb h
        refine gw_getJ hx hb hT hown hK hI (ci := 3) rfl i_3 9 (by decide) wd_147 (fun _ h9 => h9) e18 d_Me_cornersDistance_34 ?_
        obtain ⟨u19, e20⟩ := gsome h
        refine gw_callJ e20 h (gw_runS (As := [.long v9, .long v13, .long v15, .long v17]) (rest := []) hx hb hml hown hT hK hZ hA hI (m_Me_gap l D g0 v9 v13 v15 v17 w u19 e20) ce_Me_gap wd_376 ⟨by decide, by decide⟩ rfl rfl hl.1 rfl (lv_room (Nat.le_of_ble_eq_true rfl)) d_Me_cornersDistance_37 ⟨(show 0 + 0 ≤ 0 by omega), (show 0 + 0 ≤ 0 by omega)⟩) hI hA hexc (show 0 + 0 ≤ 0 by omega) (show 0 + 0 ≤ 0 by omega) (fun v21 w H locs h hI => ?_)
        refine lv_lstore (lv' := [(6, .long v21), (0, .ref a0), (1, .ref a1), (2, .long p2), (4, .int z2), (5, .int z3)]) hx hb d_Me_cornersDistance_40 hl (by decide) rfl (fun ls hl => ?_)
        refine lv_aload_n hx hb d_Me_cornersDistance_42 rfl (lv_at hl 1 rfl) ?_
        obtain ⟨v22, e23, h⟩ := gb h
        refine gw_getA hx hb hT hown hK hI (ci := 3) rfl i_3 4 (by decide) wd_138 (fun _ h9 => h9) e23 d_Me_cornersDistance_43 ?_
        refine lv_iload hx hb d_Me_cornersDistance_46 (lv_at hl 5 rfl) ?_
        obtain ⟨v24, e25, h⟩ := gb h
        refine gw_aldJ hx hb hK hI e25 d_Me_cornersDistance_48 ?_
        refine lv_aload_n hx hb d_Me_cornersDistance_49 rfl (lv_at hl 1 rfl) ?_
        obtain ⟨v26, e27, h⟩ := gb h
        refine gw_getA hx hb hT hown hK hI (ci := 3) rfl i_3 4 (by decide) wd_138 (fun _ h9 => h9) e27 d_Me_cornersDistance_50 ?_
        refine lv_iload hx hb d_Me_cornersDistance_53 (lv_at hl 5 rfl) ?_
        obtain ⟨v28, e29, h⟩ := gb h
        refine gw_aldJ hx hb hK hI e29 d_Me_cornersDistance_55 ?_
        refine lv_aload_n hx hb d_Me_cornersDistance_56 rfl (lv_at hl 2 rfl) ?_
        obtain ⟨v30, e31, h⟩ := gb h
        refine gw_getJ hx hb hT hown hK hI (ci := 3) rfl i_3 7 (by decide) wd_143 (fun _ h9 => h9) e31 d_Me_cornersDistance_57 ?_
        refine lv_aload_n hx hb d_Me_cornersDistance_60 rfl (lv_at hl 2 rfl) ?_
        obtain ⟨v32, e33, h⟩ := gb h
        refine gw_getJ hx hb hT hown hK hI (ci := 3) rfl i_3 10 (by decide) wd_149 (fun _ h9 => h9) e33 d_Me_cornersDistance_61 ?_
        obtain ⟨u34, e35⟩ := gsome h
        refine gw_callJ e35 h (gw_runS (As := [.long v24, .long v28, .long v30, .long v32]) (rest := []) hx hb hml hown hT hK hZ hA hI (m_Me_gap l D g0 v24 v28 v30 v32 w u34 e35) ce_Me_gap wd_376 ⟨by decide, by decide⟩ rfl rfl hl.1 rfl (lv_room (Nat.le_of_ble_eq_true rfl)) d_Me_cornersDistance_64 ⟨(show 0 + 0 ≤ 0 by omega), (show 0 + 0 ≤ 0 by omega)⟩) hI hA hexc (show 0 + 0 ≤ 0 by omega) (show 0 + 0 ≤ 0 by omega) (fun v36 w H locs h hI => ?_)
        refine lv_lstore (lv' := [(8, .long v36), (6, .long v21), (0, .ref a0), (1, .ref a1), (2, .long p2), (4, .int z2), (5, .int z3)]) hx hb d_Me_cornersDistance_67 hl (by decide) rfl (fun ls hl => ?_)
        refine lv_iload hx hb d_Me_cornersDistance_69 (lv_at hl 5 rfl) ?_
        refine lv_lload hx hb d_Me_cornersDistance_71 (lv_at hl 1 rfl) ?_
        obtain ⟨u37, e38⟩ := gsome h
        refine gw_callJ e38 h (gw_runS (As := [.long v21]) (rest := [.int z2]) hx hb hml hown hT hK hZ hA hI (m_Me_squareIfAbove l D g0 v21 w u37 e38) ce_Me_squareIfAbove wd_397 ⟨by decide, by decide⟩ rfl rfl hl.1 rfl (lv_room (Nat.le_of_ble_eq_true rfl)) d_Me_cornersDistance_73 ⟨(show 0 + 0 ≤ 0 by omega), (show 0 + 0 ≤ 0 by omega)⟩) hI hA hexc (show 0 + 0 ≤ 0 by omega) (show 0 + 0 ≤ 0 by omega) (fun v39 w H locs h hI => ?_)
        refine lv_lload hx hb d_Me_cornersDistance_76 (lv_at hl 0 rfl) ?_
        obtain ⟨u40, e41⟩ := gsome h
        refine gw_callJ e41 h (gw_runS (As := [.long v36]) (rest := [.long v39, .int z2]) hx hb hml hown hT hK hZ hA hI (m_Me_squareIfAbove l D g0 v36 w u40 e41) ce_Me_squareIfAbove wd_397 ⟨by decide, by decide⟩ rfl rfl hl.1 rfl (lv_room (Nat.le_of_ble_eq_true rfl)) d_Me_cornersDistance_78 ⟨(show 0 + 0 ≤ 0 by omega), (show 0 + 0 ≤ 0 by omega)⟩) hI hA hexc (show 0 + 0 ≤ 0 by omega) (show 0 + 0 ≤ 0 by omega) (fun v42 w H locs h hI => ?_)
        refine lv_ladd hx hb d_Me_cornersDistance_81 ?_
        refine lv_lload_n hx hb d_Me_cornersDistance_82 rfl (lv_at hl 4 rfl) ?_
        refine lv_lsub hx hb d_Me_cornersDistance_83 ?_
        obtain ⟨u43, e44⟩ := gsome h
        refine gw_callI e44 h (gw_runS (As := [.long ((v39 + v42) - p2)]) (rest := [.int z2]) hx hb hml hown hT hK hZ hA hI (m_Me_sign l D g0 ((v39 + v42) - p2) w u43 e44) ce_Me_sign wd_383 ⟨by decide, by decide⟩ rfl rfl hl.1 rfl (lv_room (Nat.le_of_ble_eq_true rfl)) d_Me_cornersDistance_84 ⟨(show 0 + 0 ≤ 0 by omega), (show 0 + 0 ≤ 0 by omega)⟩) hI hA hexc (show 0 + 0 ≤ 0 by omega) (show 0 + 0 ≤ 0 by omega) (fun v45 w H locs h hI => ?_)
        obtain ⟨u46, e47⟩ := gsome h
        refine gw_callI e47 h (gw_runS (As := [.int z2, .int v45]) (rest := []) hx hb hml hown hT hK hZ hA hI (m_Ma_min l D g0 z2 v45 w u46 e47) ce_Ma_min wd_389 ⟨by decide, by decide⟩ rfl rfl hl.1 rfl (lv_room (Nat.le_of_ble_eq_true rfl)) d_Me_cornersDistance_87 ⟨(show 0 + 0 ≤ 0 by omega), (show 0 + 0 ≤ 0 by omega)⟩) hI hA hexc (show 0 + 0 ≤ 0 by omega) (show 0 + 0 ≤ 0 by omega) (fun v48 w H locs h hI => ?_)
        refine lv_istore (lv' := [(4, .int v48), (8, .long v36), (6, .long v21), (0, .ref a0), (1, .ref a1), (2, .long p2), (5, .int z3)]) hx hb d_Me_cornersDistance_90 hl (by decide) rfl (fun ls hl => ?_)
        refine lv_iinc (v := z3 + 1) (lv' := [(5, .int (z3 + 1)), (4, .int v48), (8, .long v36), (6, .long v21), (0, .ref a0), (1, .ref a1), (2, .long p2)]) hx hb d_Me_cornersDistance_92 hl (k := 6) rfl rfl (by decide) rfl (fun ls hl => ?_)
        refine lv_goto (tgt := 6) hx hb d_Me_cornersDistance_95 (by decide) ?_
        exact ih _ _ w H locs ls h hI (lv_sub hl [4, 5, 6, 1, 0] rfl)
  exact hL6 64 _ _ w H locs ls h hI (lv_sub hl [2, 3, 4, 1, 0] rfl)

abbrev b_Me_sideDistance : ByteArray := prog_5_method_11_code
def y_Me_sideDistance : MethodName := ⟨"BodySolids$Meeting", "sideDistance", "(LBodySolids$Solid;ILBodySolids$Solid;J)I"⟩
theorem d_Me_sideDistance_0 : decode b_Me_sideDistance 0 = .ok (.iload_n 1, 1) := by decide +kernel
theorem d_Me_sideDistance_1 : decode b_Me_sideDistance 1 = .ok (.iconst 1, 1) := by decide +kernel
theorem d_Me_sideDistance_2 : decode b_Me_sideDistance 2 = .ok (.iadd, 1) := by decide +kernel
theorem d_Me_sideDistance_3 : decode b_Me_sideDistance 3 = .ok (.aload_n 0, 1) := by decide +kernel
theorem d_Me_sideDistance_4 : decode b_Me_sideDistance 4 = .ok (.getfield 78, 3) := by decide +kernel
theorem d_Me_sideDistance_7 : decode b_Me_sideDistance 7 = .ok (.if_icmp .ge 9, 3) := by decide +kernel
theorem d_Me_sideDistance_10 : decode b_Me_sideDistance 10 = .ok (.iload_n 1, 1) := by decide +kernel
theorem d_Me_sideDistance_11 : decode b_Me_sideDistance 11 = .ok (.iconst 1, 1) := by decide +kernel
theorem d_Me_sideDistance_12 : decode b_Me_sideDistance 12 = .ok (.iadd, 1) := by decide +kernel
theorem d_Me_sideDistance_13 : decode b_Me_sideDistance 13 = .ok (.goto 4, 3) := by decide +kernel
theorem d_Me_sideDistance_16 : decode b_Me_sideDistance 16 = .ok (.iconst 0, 1) := by decide +kernel
theorem d_Me_sideDistance_17 : decode b_Me_sideDistance 17 = .ok (.istore 5, 2) := by decide +kernel
theorem d_Me_sideDistance_19 : decode b_Me_sideDistance 19 = .ok (.aload_n 0, 1) := by decide +kernel
theorem d_Me_sideDistance_20 : decode b_Me_sideDistance 20 = .ok (.getfield 81, 3) := by decide +kernel
theorem d_Me_sideDistance_23 : decode b_Me_sideDistance 23 = .ok (.iload 5, 2) := by decide +kernel
theorem d_Me_sideDistance_25 : decode b_Me_sideDistance 25 = .ok (.laload, 1) := by decide +kernel
theorem d_Me_sideDistance_26 : decode b_Me_sideDistance 26 = .ok (.aload_n 0, 1) := by decide +kernel
theorem d_Me_sideDistance_27 : decode b_Me_sideDistance 27 = .ok (.getfield 81, 3) := by decide +kernel
theorem d_Me_sideDistance_30 : decode b_Me_sideDistance 30 = .ok (.iload_n 1, 1) := by decide +kernel
theorem d_Me_sideDistance_31 : decode b_Me_sideDistance 31 = .ok (.laload, 1) := by decide +kernel
theorem d_Me_sideDistance_32 : decode b_Me_sideDistance 32 = .ok (.lsub, 1) := by decide +kernel
theorem d_Me_sideDistance_33 : decode b_Me_sideDistance 33 = .ok (.lstore 6, 2) := by decide +kernel
theorem d_Me_sideDistance_35 : decode b_Me_sideDistance 35 = .ok (.aload_n 0, 1) := by decide +kernel
theorem d_Me_sideDistance_36 : decode b_Me_sideDistance 36 = .ok (.getfield 85, 3) := by decide +kernel
theorem d_Me_sideDistance_39 : decode b_Me_sideDistance 39 = .ok (.iload 5, 2) := by decide +kernel
theorem d_Me_sideDistance_41 : decode b_Me_sideDistance 41 = .ok (.laload, 1) := by decide +kernel
theorem d_Me_sideDistance_42 : decode b_Me_sideDistance 42 = .ok (.aload_n 0, 1) := by decide +kernel
theorem d_Me_sideDistance_43 : decode b_Me_sideDistance 43 = .ok (.getfield 85, 3) := by decide +kernel
theorem d_Me_sideDistance_46 : decode b_Me_sideDistance 46 = .ok (.iload_n 1, 1) := by decide +kernel
theorem d_Me_sideDistance_47 : decode b_Me_sideDistance 47 = .ok (.laload, 1) := by decide +kernel
theorem d_Me_sideDistance_48 : decode b_Me_sideDistance 48 = .ok (.lsub, 1) := by decide +kernel
theorem d_Me_sideDistance_49 : decode b_Me_sideDistance 49 = .ok (.lstore 8, 2) := by decide +kernel
theorem d_Me_sideDistance_51 : decode b_Me_sideDistance 51 = .ok (.lload 6, 2) := by decide +kernel
theorem d_Me_sideDistance_53 : decode b_Me_sideDistance 53 = .ok (.lload 6, 2) := by decide +kernel
theorem d_Me_sideDistance_55 : decode b_Me_sideDistance 55 = .ok (.lmul, 1) := by decide +kernel
theorem d_Me_sideDistance_56 : decode b_Me_sideDistance 56 = .ok (.lload 8, 2) := by decide +kernel
theorem d_Me_sideDistance_58 : decode b_Me_sideDistance 58 = .ok (.lload 8, 2) := by decide +kernel
theorem d_Me_sideDistance_60 : decode b_Me_sideDistance 60 = .ok (.lmul, 1) := by decide +kernel
theorem d_Me_sideDistance_61 : decode b_Me_sideDistance 61 = .ok (.ladd, 1) := by decide +kernel
theorem d_Me_sideDistance_62 : decode b_Me_sideDistance 62 = .ok (.lstore 10, 2) := by decide +kernel
theorem d_Me_sideDistance_64 : decode b_Me_sideDistance 64 = .ok (.iconst 1, 1) := by decide +kernel
theorem d_Me_sideDistance_65 : decode b_Me_sideDistance 65 = .ok (.istore 12, 2) := by decide +kernel
theorem d_Me_sideDistance_67 : decode b_Me_sideDistance 67 = .ok (.iconst 0, 1) := by decide +kernel
theorem d_Me_sideDistance_68 : decode b_Me_sideDistance 68 = .ok (.istore 13, 2) := by decide +kernel
theorem d_Me_sideDistance_70 : decode b_Me_sideDistance 70 = .ok (.iload 13, 2) := by decide +kernel
theorem d_Me_sideDistance_72 : decode b_Me_sideDistance 72 = .ok (.aload_n 2, 1) := by decide +kernel
theorem d_Me_sideDistance_73 : decode b_Me_sideDistance 73 = .ok (.getfield 78, 3) := by decide +kernel
theorem d_Me_sideDistance_76 : decode b_Me_sideDistance 76 = .ok (.if_icmp .ge 102, 3) := by decide +kernel
theorem d_Me_sideDistance_79 : decode b_Me_sideDistance 79 = .ok (.aload_n 2, 1) := by decide +kernel
theorem d_Me_sideDistance_80 : decode b_Me_sideDistance 80 = .ok (.getfield 81, 3) := by decide +kernel
theorem d_Me_sideDistance_83 : decode b_Me_sideDistance 83 = .ok (.iload 13, 2) := by decide +kernel
theorem d_Me_sideDistance_85 : decode b_Me_sideDistance 85 = .ok (.laload, 1) := by decide +kernel
theorem d_Me_sideDistance_86 : decode b_Me_sideDistance 86 = .ok (.aload_n 0, 1) := by decide +kernel
theorem d_Me_sideDistance_87 : decode b_Me_sideDistance 87 = .ok (.getfield 81, 3) := by decide +kernel
theorem d_Me_sideDistance_90 : decode b_Me_sideDistance 90 = .ok (.iload_n 1, 1) := by decide +kernel
theorem d_Me_sideDistance_91 : decode b_Me_sideDistance 91 = .ok (.laload, 1) := by decide +kernel
theorem d_Me_sideDistance_92 : decode b_Me_sideDistance 92 = .ok (.lsub, 1) := by decide +kernel
theorem d_Me_sideDistance_93 : decode b_Me_sideDistance 93 = .ok (.lstore 14, 2) := by decide +kernel
theorem d_Me_sideDistance_95 : decode b_Me_sideDistance 95 = .ok (.aload_n 2, 1) := by decide +kernel
theorem d_Me_sideDistance_96 : decode b_Me_sideDistance 96 = .ok (.getfield 85, 3) := by decide +kernel
theorem d_Me_sideDistance_99 : decode b_Me_sideDistance 99 = .ok (.iload 13, 2) := by decide +kernel
theorem d_Me_sideDistance_101 : decode b_Me_sideDistance 101 = .ok (.laload, 1) := by decide +kernel
theorem d_Me_sideDistance_102 : decode b_Me_sideDistance 102 = .ok (.aload_n 0, 1) := by decide +kernel
theorem d_Me_sideDistance_103 : decode b_Me_sideDistance 103 = .ok (.getfield 85, 3) := by decide +kernel
theorem d_Me_sideDistance_106 : decode b_Me_sideDistance 106 = .ok (.iload_n 1, 1) := by decide +kernel
theorem d_Me_sideDistance_107 : decode b_Me_sideDistance 107 = .ok (.laload, 1) := by decide +kernel
theorem d_Me_sideDistance_108 : decode b_Me_sideDistance 108 = .ok (.lsub, 1) := by decide +kernel
theorem d_Me_sideDistance_109 : decode b_Me_sideDistance 109 = .ok (.lstore 16, 2) := by decide +kernel
theorem d_Me_sideDistance_111 : decode b_Me_sideDistance 111 = .ok (.lload 6, 2) := by decide +kernel
theorem d_Me_sideDistance_113 : decode b_Me_sideDistance 113 = .ok (.lload 14, 2) := by decide +kernel
theorem d_Me_sideDistance_115 : decode b_Me_sideDistance 115 = .ok (.lmul, 1) := by decide +kernel
theorem d_Me_sideDistance_116 : decode b_Me_sideDistance 116 = .ok (.lload 8, 2) := by decide +kernel
theorem d_Me_sideDistance_118 : decode b_Me_sideDistance 118 = .ok (.lload 16, 2) := by decide +kernel
theorem d_Me_sideDistance_120 : decode b_Me_sideDistance 120 = .ok (.lmul, 1) := by decide +kernel
theorem d_Me_sideDistance_121 : decode b_Me_sideDistance 121 = .ok (.ladd, 1) := by decide +kernel
theorem d_Me_sideDistance_122 : decode b_Me_sideDistance 122 = .ok (.lstore 18, 2) := by decide +kernel
theorem d_Me_sideDistance_124 : decode b_Me_sideDistance 124 = .ok (.lload 6, 2) := by decide +kernel
theorem d_Me_sideDistance_126 : decode b_Me_sideDistance 126 = .ok (.lload 16, 2) := by decide +kernel
theorem d_Me_sideDistance_128 : decode b_Me_sideDistance 128 = .ok (.lmul, 1) := by decide +kernel
theorem d_Me_sideDistance_129 : decode b_Me_sideDistance 129 = .ok (.lload 8, 2) := by decide +kernel
theorem d_Me_sideDistance_131 : decode b_Me_sideDistance 131 = .ok (.lload 14, 2) := by decide +kernel
theorem d_Me_sideDistance_133 : decode b_Me_sideDistance 133 = .ok (.lmul, 1) := by decide +kernel
theorem d_Me_sideDistance_134 : decode b_Me_sideDistance 134 = .ok (.lsub, 1) := by decide +kernel
theorem d_Me_sideDistance_135 : decode b_Me_sideDistance 135 = .ok (.lstore 20, 2) := by decide +kernel
theorem d_Me_sideDistance_137 : decode b_Me_sideDistance 137 = .ok (.lload 18, 2) := by decide +kernel
theorem d_Me_sideDistance_139 : decode b_Me_sideDistance 139 = .ok (.lconst 0, 1) := by decide +kernel
theorem d_Me_sideDistance_140 : decode b_Me_sideDistance 140 = .ok (.lcmp, 1) := by decide +kernel
theorem d_Me_sideDistance_141 : decode b_Me_sideDistance 141 = .ok (.ifCond .le 31, 3) := by decide +kernel
theorem d_Me_sideDistance_144 : decode b_Me_sideDistance 144 = .ok (.lload 18, 2) := by decide +kernel
theorem d_Me_sideDistance_146 : decode b_Me_sideDistance 146 = .ok (.lload 10, 2) := by decide +kernel
theorem d_Me_sideDistance_148 : decode b_Me_sideDistance 148 = .ok (.lcmp, 1) := by decide +kernel
theorem d_Me_sideDistance_149 : decode b_Me_sideDistance 149 = .ok (.ifCond .ge 23, 3) := by decide +kernel
theorem d_Me_sideDistance_152 : decode b_Me_sideDistance 152 = .ok (.iload 12, 2) := by decide +kernel
theorem d_Me_sideDistance_154 : decode b_Me_sideDistance 154 = .ok (.lload 20, 2) := by decide +kernel
theorem d_Me_sideDistance_156 : decode b_Me_sideDistance 156 = .ok (.lload 20, 2) := by decide +kernel
theorem d_Me_sideDistance_158 : decode b_Me_sideDistance 158 = .ok (.lmul, 1) := by decide +kernel
theorem d_Me_sideDistance_159 : decode b_Me_sideDistance 159 = .ok (.lload_n 3, 1) := by decide +kernel
theorem d_Me_sideDistance_160 : decode b_Me_sideDistance 160 = .ok (.lload 10, 2) := by decide +kernel
theorem d_Me_sideDistance_162 : decode b_Me_sideDistance 162 = .ok (.lmul, 1) := by decide +kernel
theorem d_Me_sideDistance_163 : decode b_Me_sideDistance 163 = .ok (.lsub, 1) := by decide +kernel
theorem d_Me_sideDistance_164 : decode b_Me_sideDistance 164 = .ok (.invokestatic 50, 3) := by decide +kernel
theorem d_Me_sideDistance_167 : decode b_Me_sideDistance 167 = .ok (.invokestatic 88, 3) := by decide +kernel
theorem d_Me_sideDistance_170 : decode b_Me_sideDistance 170 = .ok (.istore 12, 2) := by decide +kernel
theorem d_Me_sideDistance_172 : decode b_Me_sideDistance 172 = .ok (.iinc 13 1, 3) := by decide +kernel
theorem d_Me_sideDistance_175 : decode b_Me_sideDistance 175 = .ok (.goto (-105), 3) := by decide +kernel
theorem d_Me_sideDistance_178 : decode b_Me_sideDistance 178 = .ok (.iload 12, 2) := by decide +kernel
theorem d_Me_sideDistance_180 : decode b_Me_sideDistance 180 = .ok (.ireturn, 1) := by decide +kernel
abbrev rm_Me_sideDistance : Room := { frames := 1, cells := 0, slots := 0, locals := 21 }
theorem ce_Me_sideDistance : gCe y_Me_sideDistance (.code y_Me_sideDistance b_Me_sideDistance 22 (some .int)) 22 4 true := gCe.code wd_405 wd_69 wd_404 (by decide) (by decide +kernel)
def f_Me_sideDistance_L70 (g0 : Nat) (c0 : Nat) (c1 : Int32) (c2 : Nat) (c3 : Int64) (c6 : Int64) (c8 : Int64) (c10 : Int64) (K178 : Int32 → gW → gX Int32) : Nat → Int32 → Int32 → gW → gX Int32
  | 0, _, _, _ => none
  | n + 1, z12, z13, w => (gfI w c2 3 5).bind fun v21 => if v21 ≤ z13 then (K178 z12 w) else ((gfA w c2 3 3).bind fun v24 => (gaJ w v24 z13).bind fun v26 => (gfA w c0 3 3).bind fun v28 => (gaJ w v28 c1).bind fun v30 => (gfA w c2 3 4).bind fun v32 => (gaJ w v32 z13).bind fun v34 => (gfA w c0 3 4).bind fun v36 => (gaJ w v36 c1).bind fun v38 => gjoin (fun K172 => if ((c6 * (v26 - v30)) + (c8 * (v34 - v38))) ≤ 0 then (K172 z12 w) else (if c10 ≤ ((c6 * (v26 - v30)) + (c8 * (v34 - v38))) then (K172 z12 w) else (gbind (f_Me_sign g0 ((((c6 * (v34 - v38)) - (c8 * (v26 - v30))) * ((c6 * (v34 - v38)) - (c8 * (v26 - v30)))) - (c3 * c10)) w) fun v45 w => gbind (f_Ma_min g0 z12 v45 w) fun v48 w => K172 v48 w))) (fun (x40 : Int32) (w : gW) => f_Me_sideDistance_L70 g0 c0 c1 c2 c3 c6 c8 c10 K178 n x40 (z13 + 1) w))
def f_Me_sideDistance (g0 : Nat) (a0 : Nat) (p1 : Int32) (a2 : Nat) (p3 : Int64) (w : gW) : gX Int32 := (gfI w a0 3 5).bind fun v1 => gjoin (fun K17 => if v1 ≤ (p1 + 1) then (K17 0 w) else (K17 (p1 + 1) w)) (fun (y3 : Int32) (w : gW) => (gfA w a0 3 3).bind fun v4 => (gaJ w v4 y3).bind fun v6 => (gfA w a0 3 3).bind fun v8 => (gaJ w v8 p1).bind fun v10 => (gfA w a0 3 4).bind fun v12 => (gaJ w v12 y3).bind fun v14 => (gfA w a0 3 4).bind fun v16 => (gaJ w v16 p1).bind fun v18 => gjoin (fun K178 => f_Me_sideDistance_L70 g0 a0 p1 a2 p3 (v6 - v10) (v14 - v18) (((v6 - v10) * (v6 - v10)) + ((v14 - v18) * (v14 - v18))) K178 64 1 0 w) (fun (x20 : Int32) (w : gW) => some (.inr x20, w)))
set_option maxHeartbeats 4000000 in
set_option maxRecDepth 100000 in
theorem m_Me_sideDistance (l : Launch) (D : gD) (g0 : Nat) (a0 : Nat) (p1 : Int32) (a2 : Nat) (p3 : Int64) (w : gW) (r : (String ⊕ Int32) × gW) (h : f_Me_sideDistance g0 a0 p1 a2 p3 w = some r) : gMet l y_Me_sideDistance (.code y_Me_sideDistance b_Me_sideDistance 22 (some .int)) rm_Me_sideDistance D g0 [.ref a0, .int p1, .ref a2, .long p3] w (goI r) := by
  refine gw_ofI (by decide +kernel) (Nat.le_of_ble_eq_true rfl) ?_
  intro p e s m below meth c ls args A Q hx hb hml hown hlocks hin hnt hT hK hZ hA hret hexc hI hl
  obtain ⟨H, hH⟩ : ∃ H, H = s.heap := ⟨_, rfl⟩
  rw [← hH] at hI ⊢
  obtain ⟨locs, hlocs⟩ : ∃ z : List Loc, z = [] := ⟨_, rfl⟩
  rw [← hlocs] at hI ⊢
  have hl : lv_has ls 22 [(0, .ref a0), (1, .int p1), (2, .ref a2), (3, .long p3)] := hl
  unfold f_Me_sideDistance at h
  refine lv_iload_n hx hb d_Me_sideDistance_0 rfl (lv_at hl 1 rfl) ?_
  refine lv_iconst (v := 1) hx hb d_Me_sideDistance_1 (by decide) ?_
  refine lv_iadd hx hb d_Me_sideDistance_2 ?_
  refine lv_aload_n hx hb d_Me_sideDistance_3 rfl (lv_at hl 0 rfl) ?_
  obtain ⟨v1, e2, h⟩ := gb h
  refine gw_getI hx hb hT hown hK hI (ci := 3) rfl i_3 5 (by decide) wd_140 (fun _ h9 => h9) e2 d_Me_sideDistance_4 ?_
  obtain ⟨K17, eK17, h⟩ := gj h
  have hK17 : ∀ (y3 : Int32) (w : gW) (H : Heap) (locs : List Loc) (ls : Array Slot), K17 y3 w = some r → gI D s A w H locs → lv_has ls 22 [(0, .ref a0), (1, .int p1), (2, .ref a2), (3, .long p3)] → W p l e rm_Me_sideDistance s m args below meth c H locs 0 0 Q (F0 m 17 ls [.int y3]) := by
    intro y3 w H locs ls h hI hl
    have h := gk2 eK17 h
    refine lv_istore (lv' := [(5, .int y3), (0, .ref a0), (1, .int p1), (2, .ref a2), (3, .long p3)]) hx hb d_Me_sideDistance_17 hl (by decide) rfl (fun ls hl => ?_)
    refine lv_aload_n hx hb d_Me_sideDistance_19 rfl (lv_at hl 1 rfl) ?_
    obtain ⟨v4, e5, h⟩ := gb h
    refine gw_getA hx hb hT hown hK hI (ci := 3) rfl i_3 3 (by decide) wd_136 (fun _ h9 => h9) e5 d_Me_sideDistance_20 ?_
    refine lv_iload hx hb d_Me_sideDistance_23 (lv_at hl 0 rfl) ?_
    obtain ⟨v6, e7, h⟩ := gb h
    refine gw_aldJ hx hb hK hI e7 d_Me_sideDistance_25 ?_
    refine lv_aload_n hx hb d_Me_sideDistance_26 rfl (lv_at hl 1 rfl) ?_
    obtain ⟨v8, e9, h⟩ := gb h
    refine gw_getA hx hb hT hown hK hI (ci := 3) rfl i_3 3 (by decide) wd_136 (fun _ h9 => h9) e9 d_Me_sideDistance_27 ?_
    refine lv_iload_n hx hb d_Me_sideDistance_30 rfl (lv_at hl 2 rfl) ?_
    obtain ⟨v10, e11, h⟩ := gb h
    refine gw_aldJ hx hb hK hI e11 d_Me_sideDistance_31 ?_
    refine lv_lsub hx hb d_Me_sideDistance_32 ?_
    refine lv_lstore (lv' := [(6, .long (v6 - v10)), (5, .int y3), (0, .ref a0), (1, .int p1), (2, .ref a2), (3, .long p3)]) hx hb d_Me_sideDistance_33 hl (by decide) rfl (fun ls hl => ?_)
    refine lv_aload_n hx hb d_Me_sideDistance_35 rfl (lv_at hl 2 rfl) ?_
    obtain ⟨v12, e13, h⟩ := gb h
    refine gw_getA hx hb hT hown hK hI (ci := 3) rfl i_3 4 (by decide) wd_138 (fun _ h9 => h9) e13 d_Me_sideDistance_36 ?_
    refine lv_iload hx hb d_Me_sideDistance_39 (lv_at hl 1 rfl) ?_
    obtain ⟨v14, e15, h⟩ := gb h
    refine gw_aldJ hx hb hK hI e15 d_Me_sideDistance_41 ?_
    refine lv_aload_n hx hb d_Me_sideDistance_42 rfl (lv_at hl 2 rfl) ?_
    obtain ⟨v16, e17, h⟩ := gb h
    refine gw_getA hx hb hT hown hK hI (ci := 3) rfl i_3 4 (by decide) wd_138 (fun _ h9 => h9) e17 d_Me_sideDistance_43 ?_
    refine lv_iload_n hx hb d_Me_sideDistance_46 rfl (lv_at hl 3 rfl) ?_
    obtain ⟨v18, e19, h⟩ := gb h
    refine gw_aldJ hx hb hK hI e19 d_Me_sideDistance_47 ?_
    refine lv_lsub hx hb d_Me_sideDistance_48 ?_
    refine lv_lstore (lv' := [(8, .long (v14 - v18)), (6, .long (v6 - v10)), (5, .int y3), (0, .ref a0), (1, .int p1), (2, .ref a2), (3, .long p3)]) hx hb d_Me_sideDistance_49 hl (by decide) rfl (fun ls hl => ?_)
    refine lv_lload hx hb d_Me_sideDistance_51 (lv_at hl 1 rfl) ?_
    refine lv_lload hx hb d_Me_sideDistance_53 (lv_at hl 1 rfl) ?_
    refine lv_lmul hx hb d_Me_sideDistance_55 ?_
    refine lv_lload hx hb d_Me_sideDistance_56 (lv_at hl 0 rfl) ?_
    refine lv_lload hx hb d_Me_sideDistance_58 (lv_at hl 0 rfl) ?_
    refine lv_lmul hx hb d_Me_sideDistance_60 ?_
    refine lv_ladd hx hb d_Me_sideDistance_61 ?_
    refine lv_lstore (lv' := [(10, .long (((v6 - v10) * (v6 - v10)) + ((v14 - v18) * (v14 - v18)))), (8, .long (v14 - v18)), (6, .long (v6 - v10)), (5, .int y3), (0, .ref a0), (1, .int p1), (2, .ref a2), (3, .long p3)]) hx hb d_Me_sideDistance_62 hl (by decide) rfl (fun ls hl => ?_)
    refine lv_iconst (v := 1) hx hb d_Me_sideDistance_64 (by decide) ?_
    refine lv_istore (lv' := [(12, .int 1), (10, .long (((v6 - v10) * (v6 - v10)) + ((v14 - v18) * (v14 - v18)))), (8, .long (v14 - v18)), (6, .long (v6 - v10)), (5, .int y3), (0, .ref a0), (1, .int p1), (2, .ref a2), (3, .long p3)]) hx hb d_Me_sideDistance_65 hl (by decide) rfl (fun ls hl => ?_)
    refine lv_iconst (v := 0) hx hb d_Me_sideDistance_67 (by decide) ?_
    refine lv_istore (lv' := [(13, .int 0), (12, .int 1), (10, .long (((v6 - v10) * (v6 - v10)) + ((v14 - v18) * (v14 - v18)))), (8, .long (v14 - v18)), (6, .long (v6 - v10)), (5, .int y3), (0, .ref a0), (1, .int p1), (2, .ref a2), (3, .long p3)]) hx hb d_Me_sideDistance_68 hl (by decide) rfl (fun ls hl => ?_)
    obtain ⟨K178, eK178, h⟩ := gj h
    have hK178 : ∀ (x20 : Int32) (w : gW) (H : Heap) (locs : List Loc) (ls : Array Slot), K178 x20 w = some r → gI D s A w H locs → lv_has ls 22 [(12, .int x20)] → W p l e rm_Me_sideDistance s m args below meth c H locs 0 0 Q (F0 m 178 ls []) := by
      intro x20 w H locs ls h hI hl
      have h := gk2 eK178 h
      refine lv_iload hx hb d_Me_sideDistance_178 (lv_at hl 0 rfl) ?_
      exact W.widen (show 0 ≤ 0 by omega) (show 0 ≤ 0 by omega) (hret _ _ (Option.some.inj h).symm _ _ _ _ d_Me_sideDistance_180 hI)
    have hL70 : ∀ (n : Nat), ∀ (z21 : Int32) (z22 : Int32) (w : gW) (H : Heap) (locs : List Loc) (ls : Array Slot), f_Me_sideDistance_L70 g0 a0 p1 a2 p3 (v6 - v10) (v14 - v18) (((v6 - v10) * (v6 - v10)) + ((v14 - v18) * (v14 - v18))) K178 n z21 z22 w = some r → gI D s A w H locs → lv_has ls 22 [(0, .ref a0), (1, .int p1), (2, .ref a2), (3, .long p3), (6, .long (v6 - v10)), (8, .long (v14 - v18)), (10, .long (((v6 - v10) * (v6 - v10)) + ((v14 - v18) * (v14 - v18)))), (12, .int z21), (13, .int z22)] → W p l e rm_Me_sideDistance s m args below meth c H locs 0 0 Q (F0 m 70 ls []) := by
      intro n
      induction n with
      | zero => intro z21 z22 w H locs ls h hI hl; exact absurd h (by simp [f_Me_sideDistance_L70])
      | succ n ih =>
        intro z21 z22 w H locs ls h hI hl
        rw [f_Me_sideDistance_L70] at h
        refine lv_iload hx hb d_Me_sideDistance_70 (lv_at hl 8 rfl) ?_
        refine lv_aload_n hx hb d_Me_sideDistance_72 rfl (lv_at hl 2 rfl) ?_
        obtain ⟨v23, e24, h⟩ := gb h
        refine gw_getI hx hb hT hown hK hI (ci := 3) rfl i_3 5 (by decide) wd_140 (fun _ h9 => h9) e24 d_Me_sideDistance_73 ?_
        refine lv_icmp_ge (tgt := 178) hx hb d_Me_sideDistance_76 (by decide) (fun c25 => ?_) (fun c25 => ?_)
        · skip
          have h := git c25 h
          exact hK178 _ w H locs ls h hI (lv_sub hl [7] rfl)
        · skip
          have h := gie c25 h
          refine lv_aload_n hx hb d_Me_sideDistance_79 rfl (lv_at hl 2 rfl) ?_
          obtain ⟨v26, e27, h⟩ := gb h
          refine gw_getA hx hb hT hown hK hI (ci := 3) rfl i_3 3 (by decide) wd_136 (fun _ h9 => h9) e27 d_Me_sideDistance_80 ?_
          refine lv_iload hx hb d_Me_sideDistance_83 (lv_at hl 8 rfl) ?_
          obtain ⟨v28, e29, h⟩ := gb h
          refine gw_aldJ hx hb hK hI e29 d_Me_sideDistance_85 ?_
          refine lv_aload_n hx hb d_Me_sideDistance_86 rfl (lv_at hl 0 rfl) ?_
          obtain ⟨v30, e31, h⟩ := gb h
          refine gw_getA hx hb hT hown hK hI (ci := 3) rfl i_3 3 (by decide) wd_136 (fun _ h9 => h9) e31 d_Me_sideDistance_87 ?_
          refine lv_iload_n hx hb d_Me_sideDistance_90 rfl (lv_at hl 1 rfl) ?_
          obtain ⟨v32, e33, h⟩ := gb h
          refine gw_aldJ hx hb hK hI e33 d_Me_sideDistance_91 ?_
          refine lv_lsub hx hb d_Me_sideDistance_92 ?_
          refine lv_lstore (lv' := [(14, .long (v28 - v32)), (0, .ref a0), (1, .int p1), (2, .ref a2), (3, .long p3), (6, .long (v6 - v10)), (8, .long (v14 - v18)), (10, .long (((v6 - v10) * (v6 - v10)) + ((v14 - v18) * (v14 - v18)))), (12, .int z21), (13, .int z22)]) hx hb d_Me_sideDistance_93 hl (by decide) rfl (fun ls hl => ?_)
          refine lv_aload_n hx hb d_Me_sideDistance_95 rfl (lv_at hl 3 rfl) ?_
          obtain ⟨v34, e35, h⟩ := gb h
          refine gw_getA hx hb hT hown hK hI (ci := 3) rfl i_3 4 (by decide) wd_138 (fun _ h9 => h9) e35 d_Me_sideDistance_96 ?_
          refine lv_iload hx hb d_Me_sideDistance_99 (lv_at hl 9 rfl) ?_
          obtain ⟨v36, e37, h⟩ := gb h
          refine gw_aldJ hx hb hK hI e37 d_Me_sideDistance_101 ?_
          refine lv_aload_n hx hb d_Me_sideDistance_102 rfl (lv_at hl 1 rfl) ?_
          obtain ⟨v38, e39, h⟩ := gb h
          refine gw_getA hx hb hT hown hK hI (ci := 3) rfl i_3 4 (by decide) wd_138 (fun _ h9 => h9) e39 d_Me_sideDistance_103 ?_
          refine lv_iload_n hx hb d_Me_sideDistance_106 rfl (lv_at hl 2 rfl) ?_
          obtain ⟨v40, e41, h⟩ := gb h
          refine gw_aldJ hx hb hK hI e41 d_Me_sideDistance_107 ?_
          refine lv_lsub hx hb d_Me_sideDistance_108 ?_
          refine lv_lstore (lv' := [(16, .long (v36 - v40)), (14, .long (v28 - v32)), (0, .ref a0), (1, .int p1), (2, .ref a2), (3, .long p3), (6, .long (v6 - v10)), (8, .long (v14 - v18)), (10, .long (((v6 - v10) * (v6 - v10)) + ((v14 - v18) * (v14 - v18)))), (12, .int z21), (13, .int z22)]) hx hb d_Me_sideDistance_109 hl (by decide) rfl (fun ls hl => ?_)
          refine lv_lload hx hb d_Me_sideDistance_111 (lv_at hl 6 rfl) ?_
          refine lv_lload hx hb d_Me_sideDistance_113 (lv_at hl 1 rfl) ?_
          refine lv_lmul hx hb d_Me_sideDistance_115 ?_
          refine lv_lload hx hb d_Me_sideDistance_116 (lv_at hl 7 rfl) ?_
          refine lv_lload hx hb d_Me_sideDistance_118 (lv_at hl 0 rfl) ?_
          refine lv_lmul hx hb d_Me_sideDistance_120 ?_
          refine lv_ladd hx hb d_Me_sideDistance_121 ?_
          refine lv_lstore (lv' := [(18, .long (((v6 - v10) * (v28 - v32)) + ((v14 - v18) * (v36 - v40)))), (16, .long (v36 - v40)), (14, .long (v28 - v32)), (0, .ref a0), (1, .int p1), (2, .ref a2), (3, .long p3), (6, .long (v6 - v10)), (8, .long (v14 - v18)), (10, .long (((v6 - v10) * (v6 - v10)) + ((v14 - v18) * (v14 - v18)))), (12, .int z21), (13, .int z22)]) hx hb d_Me_sideDistance_122 hl (by decide) rfl (fun ls hl => ?_)
          refine lv_lload hx hb d_Me_sideDistance_124 (lv_at hl 7 rfl) ?_
          refine lv_lload hx hb d_Me_sideDistance_126 (lv_at hl 1 rfl) ?_
          refine lv_lmul hx hb d_Me_sideDistance_128 ?_
          refine lv_lload hx hb d_Me_sideDistance_129 (lv_at hl 8 rfl) ?_
          refine lv_lload hx hb d_Me_sideDistance_131 (lv_at hl 2 rfl) ?_
          refine lv_lmul hx hb d_Me_sideDistance_133 ?_
          refine lv_lsub hx hb d_Me_sideDistance_134 ?_
          refine lv_lstore (lv' := [(20, .long (((v6 - v10) * (v36 - v40)) - ((v14 - v18) * (v28 - v32)))), (18, .long (((v6 - v10) * (v28 - v32)) + ((v14 - v18) * (v36 - v40)))), (16, .long (v36 - v40)), (14, .long (v28 - v32)), (0, .ref a0), (1, .int p1), (2, .ref a2), (3, .long p3), (6, .long (v6 - v10)), (8, .long (v14 - v18)), (10, .long (((v6 - v10) * (v6 - v10)) + ((v14 - v18) * (v14 - v18)))), (12, .int z21), (13, .int z22)]) hx hb d_Me_sideDistance_135 hl (by decide) rfl (fun ls hl => ?_)
          refine lv_lload hx hb d_Me_sideDistance_137 (lv_at hl 1 rfl) ?_
          refine lv_lconst (v := 0) hx hb d_Me_sideDistance_139 (by decide) ?_
          refine W.lcmp hx hb d_Me_sideDistance_140 ?_
          obtain ⟨K172, eK172, h⟩ := gj h
          have hK172 : ∀ (x42 : Int32) (w : gW) (H : Heap) (locs : List Loc) (ls : Array Slot), K172 x42 w = some r → gI D s A w H locs → lv_has ls 22 [(0, .ref a0), (1, .int p1), (2, .ref a2), (3, .long p3), (6, .long (v6 - v10)), (8, .long (v14 - v18)), (10, .long (((v6 - v10) * (v6 - v10)) + ((v14 - v18) * (v14 - v18)))), (12, .int x42), (13, .int z22)] → W p l e rm_Me_sideDistance s m args below meth c H locs 0 0 Q (F0 m 172 ls []) := by
            intro x42 w H locs ls h hI hl
            have h := gk2 eK172 h
            refine lv_iinc (v := z22 + 1) (lv' := [(13, .int (z22 + 1)), (0, .ref a0), (1, .int p1), (2, .ref a2), (3, .long p3), (6, .long (v6 - v10)), (8, .long (v14 - v18)), (10, .long (((v6 - v10) * (v6 - v10)) + ((v14 - v18) * (v14 - v18)))), (12, .int x42)]) hx hb d_Me_sideDistance_172 hl (k := 8) rfl rfl (by decide) rfl (fun ls hl => ?_)
            refine lv_goto (tgt := 70) hx hb d_Me_sideDistance_175 (by decide) ?_
            exact ih _ _ w H locs ls h hI (lv_sub hl [1, 2, 3, 4, 5, 6, 7, 8, 0] rfl)
          refine lv_if_le (tgt := 172) hx hb d_Me_sideDistance_141 (by decide) (fun c43 => ?_) (fun c43 => ?_)
          · have c43 := (lg_cmp_le _ _).mp c43
            have h := git c43 h
            exact hK172 _ w H locs ls h hI (lv_sub hl [4, 5, 6, 7, 8, 9, 10, 11, 12] rfl)
          · have c43 := mt (lg_cmp_le _ _).mpr c43
            have h := gie c43 h
            refine lv_lload hx hb d_Me_sideDistance_144 (lv_at hl 1 rfl) ?_
            refine lv_lload hx hb d_Me_sideDistance_146 (lv_at hl 10 rfl) ?_
            refine W.lcmp hx hb d_Me_sideDistance_148 ?_
            refine lv_if_ge (tgt := 172) hx hb d_Me_sideDistance_149 (by decide) (fun c44 => ?_) (fun c44 => ?_)
            · have c44 := (lg_cmp_ge _ _).mp c44
              have h := git c44 h
              exact hK172 _ w H locs ls h hI (lv_sub hl [4, 5, 6, 7, 8, 9, 10, 11, 12] rfl)
            · have c44 := mt (lg_cmp_ge _ _).mpr c44
              have h := gie c44 h
              refine lv_iload hx hb d_Me_sideDistance_152 (lv_at hl 11 rfl) ?_
              refine lv_lload hx hb d_Me_sideDistance_154 (lv_at hl 0 rfl) ?_
              refine lv_lload hx hb d_Me_sideDistance_156 (lv_at hl 0 rfl) ?_
              refine lv_lmul hx hb d_Me_sideDistance_158 ?_
              refine lv_lload_n hx hb d_Me_sideDistance_159 rfl (lv_at hl 7 rfl) ?_
              refine lv_lload hx hb d_Me_sideDistance_160 (lv_at hl 10 rfl) ?_
              refine lv_lmul hx hb d_Me_sideDistance_162 ?_
              refine lv_lsub hx hb d_Me_sideDistance_163 ?_
              obtain ⟨u45, e46⟩ := gsome h
              refine gw_callI e46 h (gw_runS (As := [.long (((((v6 - v10) * (v36 - v40)) - ((v14 - v18) * (v28 - v32))) * (((v6 - v10) * (v36 - v40)) - ((v14 - v18) * (v28 - v32)))) - (p3 * (((v6 - v10) * (v6 - v10)) + ((v14 - v18) * (v14 - v18)))))]) (rest := [.int z21]) hx hb hml hown hT hK hZ hA hI (m_Me_sign l D g0 (((((v6 - v10) * (v36 - v40)) - ((v14 - v18) * (v28 - v32))) * (((v6 - v10) * (v36 - v40)) - ((v14 - v18) * (v28 - v32)))) - (p3 * (((v6 - v10) * (v6 - v10)) + ((v14 - v18) * (v14 - v18))))) w u45 e46) ce_Me_sign wd_383 ⟨by decide, by decide⟩ rfl rfl hl.1 rfl (lv_room (Nat.le_of_ble_eq_true rfl)) d_Me_sideDistance_164 ⟨(show 0 + 0 ≤ 0 by omega), (show 0 + 0 ≤ 0 by omega)⟩) hI hA hexc (show 0 + 0 ≤ 0 by omega) (show 0 + 0 ≤ 0 by omega) (fun v47 w H locs h hI => ?_)
              obtain ⟨u48, e49⟩ := gsome h
              refine gw_callI e49 h (gw_runS (As := [.int z21, .int v47]) (rest := []) hx hb hml hown hT hK hZ hA hI (m_Ma_min l D g0 z21 v47 w u48 e49) ce_Ma_min wd_389 ⟨by decide, by decide⟩ rfl rfl hl.1 rfl (lv_room (Nat.le_of_ble_eq_true rfl)) d_Me_sideDistance_167 ⟨(show 0 + 0 ≤ 0 by omega), (show 0 + 0 ≤ 0 by omega)⟩) hI hA hexc (show 0 + 0 ≤ 0 by omega) (show 0 + 0 ≤ 0 by omega) (fun v50 w H locs h hI => ?_)
              refine lv_istore (lv' := [(12, .int v50), (20, .long (((v6 - v10) * (v36 - v40)) - ((v14 - v18) * (v28 - v32)))), (18, .long (((v6 - v10) * (v28 - v32)) + ((v14 - v18) * (v36 - v40)))), (16, .long (v36 - v40)), (14, .long (v28 - v32)), (0, .ref a0), (1, .int p1), (2, .ref a2), (3, .long p3), (6, .long (v6 - v10)), (8, .long (v14 - v18)), (10, .long (((v6 - v10) * (v6 - v10)) + ((v14 - v18) * (v14 - v18)))), (13, .int z22)]) hx hb d_Me_sideDistance_170 hl (by decide) rfl (fun ls hl => ?_)
              exact hK172 _ w H locs ls h hI (lv_sub hl [5, 6, 7, 8, 9, 10, 11, 0, 12] rfl)
    exact hL70 64 _ _ w H locs ls h hI (lv_sub hl [6, 7, 8, 9, 4, 3, 2, 1, 0] rfl)
  refine lv_icmp_ge (tgt := 16) hx hb d_Me_sideDistance_7 (by decide) (fun c51 => ?_) (fun c51 => ?_)
  · skip
    have h := git c51 h
    refine lv_iconst (v := 0) hx hb d_Me_sideDistance_16 (by decide) ?_
    exact hK17 _ w H locs ls h hI (lv_sub hl [0, 1, 2, 3] rfl)
  · skip
    have h := gie c51 h
    refine lv_iload_n hx hb d_Me_sideDistance_10 rfl (lv_at hl 1 rfl) ?_
    refine lv_iconst (v := 1) hx hb d_Me_sideDistance_11 (by decide) ?_
    refine lv_iadd hx hb d_Me_sideDistance_12 ?_
    refine lv_goto (tgt := 17) hx hb d_Me_sideDistance_13 (by decide) ?_
    exact hK17 _ w H locs ls h hI (lv_sub hl [0, 1, 2, 3] rfl)

abbrev b_Me_sidesDistance : ByteArray := prog_5_method_10_code
def y_Me_sidesDistance : MethodName := ⟨"BodySolids$Meeting", "sidesDistance", "(LBodySolids$Solid;LBodySolids$Solid;J)I"⟩
theorem d_Me_sidesDistance_0 : decode b_Me_sidesDistance 0 = .ok (.iconst 1, 1) := by decide +kernel
theorem d_Me_sidesDistance_1 : decode b_Me_sidesDistance 1 = .ok (.istore 4, 2) := by decide +kernel
theorem d_Me_sidesDistance_3 : decode b_Me_sidesDistance 3 = .ok (.iconst 0, 1) := by decide +kernel
theorem d_Me_sidesDistance_4 : decode b_Me_sidesDistance 4 = .ok (.istore 5, 2) := by decide +kernel
theorem d_Me_sidesDistance_6 : decode b_Me_sidesDistance 6 = .ok (.iload 5, 2) := by decide +kernel
theorem d_Me_sidesDistance_8 : decode b_Me_sidesDistance 8 = .ok (.aload_n 0, 1) := by decide +kernel
theorem d_Me_sidesDistance_9 : decode b_Me_sidesDistance 9 = .ok (.getfield 78, 3) := by decide +kernel
theorem d_Me_sidesDistance_12 : decode b_Me_sidesDistance 12 = .ok (.if_icmp .ge 24, 3) := by decide +kernel
theorem d_Me_sidesDistance_15 : decode b_Me_sidesDistance 15 = .ok (.iload 4, 2) := by decide +kernel
theorem d_Me_sidesDistance_17 : decode b_Me_sidesDistance 17 = .ok (.aload_n 0, 1) := by decide +kernel
theorem d_Me_sidesDistance_18 : decode b_Me_sidesDistance 18 = .ok (.iload 5, 2) := by decide +kernel
theorem d_Me_sidesDistance_20 : decode b_Me_sidesDistance 20 = .ok (.aload_n 1, 1) := by decide +kernel
theorem d_Me_sidesDistance_21 : decode b_Me_sidesDistance 21 = .ok (.lload_n 2, 1) := by decide +kernel
theorem d_Me_sidesDistance_22 : decode b_Me_sidesDistance 22 = .ok (.invokestatic 97, 3) := by decide +kernel
theorem d_Me_sidesDistance_25 : decode b_Me_sidesDistance 25 = .ok (.invokestatic 88, 3) := by decide +kernel
theorem d_Me_sidesDistance_28 : decode b_Me_sidesDistance 28 = .ok (.istore 4, 2) := by decide +kernel
theorem d_Me_sidesDistance_30 : decode b_Me_sidesDistance 30 = .ok (.iinc 5 1, 3) := by decide +kernel
theorem d_Me_sidesDistance_33 : decode b_Me_sidesDistance 33 = .ok (.goto (-27), 3) := by decide +kernel
theorem d_Me_sidesDistance_36 : decode b_Me_sidesDistance 36 = .ok (.iload 4, 2) := by decide +kernel
theorem d_Me_sidesDistance_38 : decode b_Me_sidesDistance 38 = .ok (.ireturn, 1) := by decide +kernel
abbrev rm_Me_sidesDistance : Room := { frames := 2, cells := 0, slots := 0, locals := 62 }
theorem ce_Me_sidesDistance : gCe y_Me_sidesDistance (.code y_Me_sidesDistance b_Me_sidesDistance 6 (some .int)) 6 3 true := gCe.code wd_402 wd_69 wd_401 (by decide) (by decide +kernel)
def f_Me_sidesDistance_L6 (g0 : Nat) (c0 : Nat) (c1 : Nat) (c2 : Int64) (K36 : Int32 → gW → gX Int32) : Nat → Int32 → Int32 → gW → gX Int32
  | 0, _, _, _ => none
  | n + 1, z4, z5, w => (gfI w c0 3 5).bind fun v2 => if v2 ≤ z5 then (K36 z4 w) else (gbind (f_Me_sideDistance g0 c0 z5 c1 c2 w) fun v7 w => gbind (f_Ma_min g0 z4 v7 w) fun v10 w => f_Me_sidesDistance_L6 g0 c0 c1 c2 K36 n v10 (z5 + 1) w)
def f_Me_sidesDistance (g0 : Nat) (a0 : Nat) (a1 : Nat) (p2 : Int64) (w : gW) : gX Int32 := gjoin (fun K36 => f_Me_sidesDistance_L6 g0 a0 a1 p2 K36 64 1 0 w) (fun (x1 : Int32) (w : gW) => some (.inr x1, w))
set_option maxHeartbeats 4000000 in
set_option maxRecDepth 100000 in
theorem m_Me_sidesDistance (l : Launch) (D : gD) (g0 : Nat) (a0 : Nat) (a1 : Nat) (p2 : Int64) (w : gW) (r : (String ⊕ Int32) × gW) (h : f_Me_sidesDistance g0 a0 a1 p2 w = some r) : gMet l y_Me_sidesDistance (.code y_Me_sidesDistance b_Me_sidesDistance 6 (some .int)) rm_Me_sidesDistance D g0 [.ref a0, .ref a1, .long p2] w (goI r) := by
  refine gw_ofI (by decide +kernel) (Nat.le_of_ble_eq_true rfl) ?_
  intro p e s m below meth c ls args A Q hx hb hml hown hlocks hin hnt hT hK hZ hA hret hexc hI hl
  obtain ⟨H, hH⟩ : ∃ H, H = s.heap := ⟨_, rfl⟩
  rw [← hH] at hI ⊢
  obtain ⟨locs, hlocs⟩ : ∃ z : List Loc, z = [] := ⟨_, rfl⟩
  rw [← hlocs] at hI ⊢
  have hl : lv_has ls 6 [(0, .ref a0), (1, .ref a1), (2, .long p2)] := hl
  unfold f_Me_sidesDistance at h
  refine lv_iconst (v := 1) hx hb d_Me_sidesDistance_0 (by decide) ?_
  refine lv_istore (lv' := [(4, .int 1), (0, .ref a0), (1, .ref a1), (2, .long p2)]) hx hb d_Me_sidesDistance_1 hl (by decide) rfl (fun ls hl => ?_)
  refine lv_iconst (v := 0) hx hb d_Me_sidesDistance_3 (by decide) ?_
  refine lv_istore (lv' := [(5, .int 0), (4, .int 1), (0, .ref a0), (1, .ref a1), (2, .long p2)]) hx hb d_Me_sidesDistance_4 hl (by decide) rfl (fun ls hl => ?_)
  obtain ⟨K36, eK36, h⟩ := gj h
  have hK36 : ∀ (x1 : Int32) (w : gW) (H : Heap) (locs : List Loc) (ls : Array Slot), K36 x1 w = some r → gI D s A w H locs → lv_has ls 6 [(4, .int x1)] → W p l e rm_Me_sidesDistance s m args below meth c H locs 0 0 Q (F0 m 36 ls []) := by
    intro x1 w H locs ls h hI hl
    have h := gk2 eK36 h
    refine lv_iload hx hb d_Me_sidesDistance_36 (lv_at hl 0 rfl) ?_
    exact W.widen (show 0 ≤ 0 by omega) (show 0 ≤ 0 by omega) (hret _ _ (Option.some.inj h).symm _ _ _ _ d_Me_sidesDistance_38 hI)
  have hL6 : ∀ (n : Nat), ∀ (z2 : Int32) (z3 : Int32) (w : gW) (H : Heap) (locs : List Loc) (ls : Array Slot), f_Me_sidesDistance_L6 g0 a0 a1 p2 K36 n z2 z3 w = some r → gI D s A w H locs → lv_has ls 6 [(0, .ref a0), (1, .ref a1), (2, .long p2), (4, .int z2), (5, .int z3)] → W p l e rm_Me_sidesDistance s m args below meth c H locs 0 0 Q (F0 m 6 ls []) := by
    intro n
    induction n with
    | zero => intro z2 z3 w H locs ls h hI hl; exact absurd h (by simp [f_Me_sidesDistance_L6])
    | succ n ih =>
      intro z2 z3 w H locs ls h hI hl
      rw [f_Me_sidesDistance_L6] at h
      refine lv_iload hx hb d_Me_sidesDistance_6 (lv_at hl 4 rfl) ?_
      refine lv_aload_n hx hb d_Me_sidesDistance_8 rfl (lv_at hl 0 rfl) ?_
      obtain ⟨v4, e5, h⟩ := gb h
      refine gw_getI hx hb hT hown hK hI (ci := 3) rfl i_3 5 (by decide) wd_140 (fun _ h9 => h9) e5 d_Me_sidesDistance_9 ?_
      refine lv_icmp_ge (tgt := 36) hx hb d_Me_sidesDistance_12 (by decide) (fun c6 => ?_) (fun c6 => ?_)
      · skip
        have h := git c6 h
        exact hK36 _ w H locs ls h hI (lv_sub hl [3] rfl)
      · skip
        have h := gie c6 h
        refine lv_iload hx hb d_Me_sidesDistance_15 (lv_at hl 3 rfl) ?_
        refine lv_aload_n hx hb d_Me_sidesDistance_17 rfl (lv_at hl 0 rfl) ?_
        refine lv_iload hx hb d_Me_sidesDistance_18 (lv_at hl 4 rfl) ?_
        refine lv_aload_n hx hb d_Me_sidesDistance_20 rfl (lv_at hl 1 rfl) ?_
        refine lv_lload_n hx hb d_Me_sidesDistance_21 rfl (lv_at hl 2 rfl) ?_
        obtain ⟨u7, e8⟩ := gsome h
        refine gw_callI e8 h (gw_runS (As := [.ref a0, .int z3, .ref a1, .long p2]) (rest := [.int z2]) hx hb hml hown hT hK hZ hA hI (m_Me_sideDistance l D g0 a0 z3 a1 p2 w u7 e8) ce_Me_sideDistance wd_403 ⟨by decide, by decide⟩ rfl rfl hl.1 rfl (lv_room (Nat.le_of_ble_eq_true rfl)) d_Me_sidesDistance_22 ⟨(show 0 + 0 ≤ 0 by omega), (show 0 + 0 ≤ 0 by omega)⟩) hI hA hexc (show 0 + 0 ≤ 0 by omega) (show 0 + 0 ≤ 0 by omega) (fun v9 w H locs h hI => ?_)
        obtain ⟨u10, e11⟩ := gsome h
        refine gw_callI e11 h (gw_runS (As := [.int z2, .int v9]) (rest := []) hx hb hml hown hT hK hZ hA hI (m_Ma_min l D g0 z2 v9 w u10 e11) ce_Ma_min wd_389 ⟨by decide, by decide⟩ rfl rfl hl.1 rfl (lv_room (Nat.le_of_ble_eq_true rfl)) d_Me_sidesDistance_25 ⟨(show 0 + 0 ≤ 0 by omega), (show 0 + 0 ≤ 0 by omega)⟩) hI hA hexc (show 0 + 0 ≤ 0 by omega) (show 0 + 0 ≤ 0 by omega) (fun v12 w H locs h hI => ?_)
        refine lv_istore (lv' := [(4, .int v12), (0, .ref a0), (1, .ref a1), (2, .long p2), (5, .int z3)]) hx hb d_Me_sidesDistance_28 hl (by decide) rfl (fun ls hl => ?_)
        refine lv_iinc (v := z3 + 1) (lv' := [(5, .int (z3 + 1)), (4, .int v12), (0, .ref a0), (1, .ref a1), (2, .long p2)]) hx hb d_Me_sidesDistance_30 hl (k := 4) rfl rfl (by decide) rfl (fun ls hl => ?_)
        refine lv_goto (tgt := 6) hx hb d_Me_sidesDistance_33 (by decide) ?_
        exact ih _ _ w H locs ls h hI (lv_sub hl [2, 3, 4, 1, 0] rfl)
  exact hL6 64 _ _ w H locs ls h hI (lv_sub hl [2, 3, 4, 1, 0] rfl)

abbrev b_Me_distance : ByteArray := prog_5_method_8_code
def y_Me_distance : MethodName := ⟨"BodySolids$Meeting", "distance", "(LBodySolids$Solid;LBodySolids$Solid;J)I"⟩
theorem d_Me_distance_0 : decode b_Me_distance 0 = .ok (.aload_n 0, 1) := by decide +kernel
theorem d_Me_distance_1 : decode b_Me_distance 1 = .ok (.aload_n 1, 1) := by decide +kernel
theorem d_Me_distance_2 : decode b_Me_distance 2 = .ok (.invokestatic 42, 3) := by decide +kernel
theorem d_Me_distance_5 : decode b_Me_distance 5 = .ok (.iconst 1, 1) := by decide +kernel
theorem d_Me_distance_6 : decode b_Me_distance 6 = .ok (.if_icmp .eq 9, 3) := by decide +kernel
theorem d_Me_distance_9 : decode b_Me_distance 9 = .ok (.lload_n 2, 1) := by decide +kernel
theorem d_Me_distance_10 : decode b_Me_distance 10 = .ok (.lneg, 1) := by decide +kernel
theorem d_Me_distance_11 : decode b_Me_distance 11 = .ok (.invokestatic 50, 3) := by decide +kernel
theorem d_Me_distance_14 : decode b_Me_distance 14 = .ok (.ireturn, 1) := by decide +kernel
theorem d_Me_distance_15 : decode b_Me_distance 15 = .ok (.aload_n 0, 1) := by decide +kernel
theorem d_Me_distance_16 : decode b_Me_distance 16 = .ok (.getfield 71, 3) := by decide +kernel
theorem d_Me_distance_19 : decode b_Me_distance 19 = .ok (.iconst 2, 1) := by decide +kernel
theorem d_Me_distance_20 : decode b_Me_distance 20 = .ok (.if_icmp .ne 19, 3) := by decide +kernel
theorem d_Me_distance_23 : decode b_Me_distance 23 = .ok (.aload_n 0, 1) := by decide +kernel
theorem d_Me_distance_24 : decode b_Me_distance 24 = .ok (.aload_n 1, 1) := by decide +kernel
theorem d_Me_distance_25 : decode b_Me_distance 25 = .ok (.lload_n 2, 1) := by decide +kernel
theorem d_Me_distance_26 : decode b_Me_distance 26 = .ok (.invokestatic 91, 3) := by decide +kernel
theorem d_Me_distance_29 : decode b_Me_distance 29 = .ok (.aload_n 0, 1) := by decide +kernel
theorem d_Me_distance_30 : decode b_Me_distance 30 = .ok (.aload_n 1, 1) := by decide +kernel
theorem d_Me_distance_31 : decode b_Me_distance 31 = .ok (.lload_n 2, 1) := by decide +kernel
theorem d_Me_distance_32 : decode b_Me_distance 32 = .ok (.invokestatic 94, 3) := by decide +kernel
theorem d_Me_distance_35 : decode b_Me_distance 35 = .ok (.invokestatic 88, 3) := by decide +kernel
theorem d_Me_distance_38 : decode b_Me_distance 38 = .ok (.ireturn, 1) := by decide +kernel
theorem d_Me_distance_39 : decode b_Me_distance 39 = .ok (.aload_n 1, 1) := by decide +kernel
theorem d_Me_distance_40 : decode b_Me_distance 40 = .ok (.getfield 71, 3) := by decide +kernel
theorem d_Me_distance_43 : decode b_Me_distance 43 = .ok (.iconst 2, 1) := by decide +kernel
theorem d_Me_distance_44 : decode b_Me_distance 44 = .ok (.if_icmp .ne 19, 3) := by decide +kernel
theorem d_Me_distance_47 : decode b_Me_distance 47 = .ok (.aload_n 1, 1) := by decide +kernel
theorem d_Me_distance_48 : decode b_Me_distance 48 = .ok (.aload_n 0, 1) := by decide +kernel
theorem d_Me_distance_49 : decode b_Me_distance 49 = .ok (.lload_n 2, 1) := by decide +kernel
theorem d_Me_distance_50 : decode b_Me_distance 50 = .ok (.invokestatic 91, 3) := by decide +kernel
theorem d_Me_distance_53 : decode b_Me_distance 53 = .ok (.aload_n 1, 1) := by decide +kernel
theorem d_Me_distance_54 : decode b_Me_distance 54 = .ok (.aload_n 0, 1) := by decide +kernel
theorem d_Me_distance_55 : decode b_Me_distance 55 = .ok (.lload_n 2, 1) := by decide +kernel
theorem d_Me_distance_56 : decode b_Me_distance 56 = .ok (.invokestatic 94, 3) := by decide +kernel
theorem d_Me_distance_59 : decode b_Me_distance 59 = .ok (.invokestatic 88, 3) := by decide +kernel
theorem d_Me_distance_62 : decode b_Me_distance 62 = .ok (.ireturn, 1) := by decide +kernel
theorem d_Me_distance_63 : decode b_Me_distance 63 = .ok (.aload_n 0, 1) := by decide +kernel
theorem d_Me_distance_64 : decode b_Me_distance 64 = .ok (.getfield 18, 3) := by decide +kernel
theorem d_Me_distance_67 : decode b_Me_distance 67 = .ok (.aload_n 0, 1) := by decide +kernel
theorem d_Me_distance_68 : decode b_Me_distance 68 = .ok (.getfield 21, 3) := by decide +kernel
theorem d_Me_distance_71 : decode b_Me_distance 71 = .ok (.aload_n 1, 1) := by decide +kernel
theorem d_Me_distance_72 : decode b_Me_distance 72 = .ok (.getfield 18, 3) := by decide +kernel
theorem d_Me_distance_75 : decode b_Me_distance 75 = .ok (.aload_n 1, 1) := by decide +kernel
theorem d_Me_distance_76 : decode b_Me_distance 76 = .ok (.getfield 21, 3) := by decide +kernel
theorem d_Me_distance_79 : decode b_Me_distance 79 = .ok (.invokestatic 24, 3) := by decide +kernel
theorem d_Me_distance_82 : decode b_Me_distance 82 = .ok (.lstore 4, 2) := by decide +kernel
theorem d_Me_distance_84 : decode b_Me_distance 84 = .ok (.aload_n 0, 1) := by decide +kernel
theorem d_Me_distance_85 : decode b_Me_distance 85 = .ok (.getfield 30, 3) := by decide +kernel
theorem d_Me_distance_88 : decode b_Me_distance 88 = .ok (.aload_n 0, 1) := by decide +kernel
theorem d_Me_distance_89 : decode b_Me_distance 89 = .ok (.getfield 33, 3) := by decide +kernel
theorem d_Me_distance_92 : decode b_Me_distance 92 = .ok (.aload_n 1, 1) := by decide +kernel
theorem d_Me_distance_93 : decode b_Me_distance 93 = .ok (.getfield 30, 3) := by decide +kernel
theorem d_Me_distance_96 : decode b_Me_distance 96 = .ok (.aload_n 1, 1) := by decide +kernel
theorem d_Me_distance_97 : decode b_Me_distance 97 = .ok (.getfield 33, 3) := by decide +kernel
theorem d_Me_distance_100 : decode b_Me_distance 100 = .ok (.invokestatic 24, 3) := by decide +kernel
theorem d_Me_distance_103 : decode b_Me_distance 103 = .ok (.lstore 6, 2) := by decide +kernel
theorem d_Me_distance_105 : decode b_Me_distance 105 = .ok (.lload 4, 2) := by decide +kernel
theorem d_Me_distance_107 : decode b_Me_distance 107 = .ok (.invokestatic 60, 3) := by decide +kernel
theorem d_Me_distance_110 : decode b_Me_distance 110 = .ok (.lload 6, 2) := by decide +kernel
theorem d_Me_distance_112 : decode b_Me_distance 112 = .ok (.invokestatic 60, 3) := by decide +kernel
theorem d_Me_distance_115 : decode b_Me_distance 115 = .ok (.ladd, 1) := by decide +kernel
theorem d_Me_distance_116 : decode b_Me_distance 116 = .ok (.lload_n 2, 1) := by decide +kernel
theorem d_Me_distance_117 : decode b_Me_distance 117 = .ok (.lsub, 1) := by decide +kernel
theorem d_Me_distance_118 : decode b_Me_distance 118 = .ok (.invokestatic 50, 3) := by decide +kernel
theorem d_Me_distance_121 : decode b_Me_distance 121 = .ok (.ireturn, 1) := by decide +kernel
abbrev rm_Me_distance : Room := { frames := 3, cells := 0, slots := 0, locals := 87 }
theorem ce_Me_distance : gCe y_Me_distance (.code y_Me_distance b_Me_distance 8 (some .int)) 8 3 true := gCe.code wd_393 wd_69 wd_392 (by decide) (by decide +kernel)
def f_Me_distance (g0 : Nat) (a0 : Nat) (a1 : Nat) (p2 : Int64) (w : gW) : gX Int32 := gbind (f_Me_outlines g0 a0 a1 w) fun v3 w => if v3 = 1 then ((gfI w a0 3 0).bind fun v5 => if v5 = 2 then (gbind (f_Me_cornersDistance g0 a0 a1 p2 w) fun v53 w => gbind (f_Me_sidesDistance g0 a0 a1 p2 w) fun v56 w => gbind (f_Ma_min g0 v53 v56 w) fun v59 w => some (.inr v59, w)) else ((gfI w a1 3 0).bind fun v8 => if v8 = 2 then (gbind (f_Me_cornersDistance g0 a1 a0 p2 w) fun v44 w => gbind (f_Me_sidesDistance g0 a1 a0 p2 w) fun v47 w => gbind (f_Ma_min g0 v44 v47 w) fun v50 w => some (.inr v50, w)) else ((gfJ w a0 3 6).bind fun v11 => (gfJ w a0 3 9).bind fun v13 => (gfJ w a1 3 6).bind fun v15 => (gfJ w a1 3 9).bind fun v17 => gbind (f_Me_gap g0 v11 v13 v15 v17 w) fun v21 w => (gfJ w a0 3 7).bind fun v22 => (gfJ w a0 3 10).bind fun v24 => (gfJ w a1 3 7).bind fun v26 => (gfJ w a1 3 10).bind fun v28 => gbind (f_Me_gap g0 v22 v24 v26 v28 w) fun v32 w => gbind (f_Me_squareIfAbove g0 v21 w) fun v35 w => gbind (f_Me_squareIfAbove g0 v32 w) fun v38 w => gbind (f_Me_sign g0 ((v35 + v38) - p2) w) fun v41 w => some (.inr v41, w)))) else (gbind (f_Me_sign g0 (-p2) w) fun v62 w => some (.inr v62, w))
set_option maxHeartbeats 4000000 in
set_option maxRecDepth 100000 in
theorem m_Me_distance (l : Launch) (D : gD) (g0 : Nat) (a0 : Nat) (a1 : Nat) (p2 : Int64) (w : gW) (r : (String ⊕ Int32) × gW) (h : f_Me_distance g0 a0 a1 p2 w = some r) : gMet l y_Me_distance (.code y_Me_distance b_Me_distance 8 (some .int)) rm_Me_distance D g0 [.ref a0, .ref a1, .long p2] w (goI r) := by
  refine gw_ofI (by decide +kernel) (Nat.le_of_ble_eq_true rfl) ?_
  intro p e s m below meth c ls args A Q hx hb hml hown hlocks hin hnt hT hK hZ hA hret hexc hI hl
  obtain ⟨H, hH⟩ : ∃ H, H = s.heap := ⟨_, rfl⟩
  rw [← hH] at hI ⊢
  obtain ⟨locs, hlocs⟩ : ∃ z : List Loc, z = [] := ⟨_, rfl⟩
  rw [← hlocs] at hI ⊢
  have hl : lv_has ls 8 [(0, .ref a0), (1, .ref a1), (2, .long p2)] := hl
  unfold f_Me_distance at h
  refine lv_aload_n hx hb d_Me_distance_0 rfl (lv_at hl 0 rfl) ?_
  refine lv_aload_n hx hb d_Me_distance_1 rfl (lv_at hl 1 rfl) ?_
  obtain ⟨u1, e2⟩ := gsome h
  refine gw_callI e2 h (gw_runS (As := [.ref a0, .ref a1]) (rest := []) hx hb hml hown hT hK hZ hA hI (m_Me_outlines l D g0 a0 a1 w u1 e2) ce_Me_outlines wd_380 ⟨by decide, by decide⟩ rfl rfl hl.1 rfl (lv_room (Nat.le_of_ble_eq_true rfl)) d_Me_distance_2 ⟨(show 0 + 0 ≤ 0 by omega), (show 0 + 0 ≤ 0 by omega)⟩) hI hA hexc (show 0 + 0 ≤ 0 by omega) (show 0 + 0 ≤ 0 by omega) (fun v3 w H locs h hI => ?_)
  refine lv_iconst (v := 1) hx hb d_Me_distance_5 (by decide) ?_
  refine lv_icmp_eq (tgt := 15) hx hb d_Me_distance_6 (by decide) (fun c4 => ?_) (fun c4 => ?_)
  · skip
    have h := git c4 h
    refine lv_aload_n hx hb d_Me_distance_15 rfl (lv_at hl 0 rfl) ?_
    obtain ⟨v5, e6, h⟩ := gb h
    refine gw_getI hx hb hT hown hK hI (ci := 3) rfl i_3 0 (by decide) wd_130 (fun _ h9 => h9) e6 d_Me_distance_16 ?_
    refine lv_iconst (v := 2) hx hb d_Me_distance_19 (by decide) ?_
    refine lv_icmp_ne (tgt := 39) hx hb d_Me_distance_20 (by decide) (fun c7 => ?_) (fun c7 => ?_)
    · skip
      have h := gie c7 h
      refine lv_aload_n hx hb d_Me_distance_39 rfl (lv_at hl 1 rfl) ?_
      obtain ⟨v8, e9, h⟩ := gb h
      refine gw_getI hx hb hT hown hK hI (ci := 3) rfl i_3 0 (by decide) wd_130 (fun _ h9 => h9) e9 d_Me_distance_40 ?_
      refine lv_iconst (v := 2) hx hb d_Me_distance_43 (by decide) ?_
      refine lv_icmp_ne (tgt := 63) hx hb d_Me_distance_44 (by decide) (fun c10 => ?_) (fun c10 => ?_)
      · skip
        have h := gie c10 h
        refine lv_aload_n hx hb d_Me_distance_63 rfl (lv_at hl 0 rfl) ?_
        obtain ⟨v11, e12, h⟩ := gb h
        refine gw_getJ hx hb hT hown hK hI (ci := 3) rfl i_3 6 (by decide) wd_141 (fun _ h9 => h9) e12 d_Me_distance_64 ?_
        refine lv_aload_n hx hb d_Me_distance_67 rfl (lv_at hl 0 rfl) ?_
        obtain ⟨v13, e14, h⟩ := gb h
        refine gw_getJ hx hb hT hown hK hI (ci := 3) rfl i_3 9 (by decide) wd_147 (fun _ h9 => h9) e14 d_Me_distance_68 ?_
        refine lv_aload_n hx hb d_Me_distance_71 rfl (lv_at hl 1 rfl) ?_
        obtain ⟨v15, e16, h⟩ := gb h
        refine gw_getJ hx hb hT hown hK hI (ci := 3) rfl i_3 6 (by decide) wd_141 (fun _ h9 => h9) e16 d_Me_distance_72 ?_
        refine lv_aload_n hx hb d_Me_distance_75 rfl (lv_at hl 1 rfl) ?_
        obtain ⟨v17, e18, h⟩ := gb h
        refine gw_getJ hx hb hT hown hK hI (ci := 3) rfl i_3 9 (by decide) wd_147 (fun _ h9 => h9) e18 d_Me_distance_76 ?_
        obtain ⟨u19, e20⟩ := gsome h
        refine gw_callJ e20 h (gw_runS (As := [.long v11, .long v13, .long v15, .long v17]) (rest := []) hx hb hml hown hT hK hZ hA hI (m_Me_gap l D g0 v11 v13 v15 v17 w u19 e20) ce_Me_gap wd_376 ⟨by decide, by decide⟩ rfl rfl hl.1 rfl (lv_room (Nat.le_of_ble_eq_true rfl)) d_Me_distance_79 ⟨(show 0 + 0 ≤ 0 by omega), (show 0 + 0 ≤ 0 by omega)⟩) hI hA hexc (show 0 + 0 ≤ 0 by omega) (show 0 + 0 ≤ 0 by omega) (fun v21 w H locs h hI => ?_)
        refine lv_lstore (lv' := [(4, .long v21), (0, .ref a0), (1, .ref a1), (2, .long p2)]) hx hb d_Me_distance_82 hl (by decide) rfl (fun ls hl => ?_)
        refine lv_aload_n hx hb d_Me_distance_84 rfl (lv_at hl 1 rfl) ?_
        obtain ⟨v22, e23, h⟩ := gb h
        refine gw_getJ hx hb hT hown hK hI (ci := 3) rfl i_3 7 (by decide) wd_143 (fun _ h9 => h9) e23 d_Me_distance_85 ?_
        refine lv_aload_n hx hb d_Me_distance_88 rfl (lv_at hl 1 rfl) ?_
        obtain ⟨v24, e25, h⟩ := gb h
        refine gw_getJ hx hb hT hown hK hI (ci := 3) rfl i_3 10 (by decide) wd_149 (fun _ h9 => h9) e25 d_Me_distance_89 ?_
        refine lv_aload_n hx hb d_Me_distance_92 rfl (lv_at hl 2 rfl) ?_
        obtain ⟨v26, e27, h⟩ := gb h
        refine gw_getJ hx hb hT hown hK hI (ci := 3) rfl i_3 7 (by decide) wd_143 (fun _ h9 => h9) e27 d_Me_distance_93 ?_
        refine lv_aload_n hx hb d_Me_distance_96 rfl (lv_at hl 2 rfl) ?_
        obtain ⟨v28, e29, h⟩ := gb h
        refine gw_getJ hx hb hT hown hK hI (ci := 3) rfl i_3 10 (by decide) wd_149 (fun _ h9 => h9) e29 d_Me_distance_97 ?_
        obtain ⟨u30, e31⟩ := gsome h
        refine gw_callJ e31 h (gw_runS (As := [.long v22, .long v24, .long v26, .long v28]) (rest := []) hx hb hml hown hT hK hZ hA hI (m_Me_gap l D g0 v22 v24 v26 v28 w u30 e31) ce_Me_gap wd_376 ⟨by decide, by decide⟩ rfl rfl hl.1 rfl (lv_room (Nat.le_of_ble_eq_true rfl)) d_Me_distance_100 ⟨(show 0 + 0 ≤ 0 by omega), (show 0 + 0 ≤ 0 by omega)⟩) hI hA hexc (show 0 + 0 ≤ 0 by omega) (show 0 + 0 ≤ 0 by omega) (fun v32 w H locs h hI => ?_)
        refine lv_lstore (lv' := [(6, .long v32), (4, .long v21), (0, .ref a0), (1, .ref a1), (2, .long p2)]) hx hb d_Me_distance_103 hl (by decide) rfl (fun ls hl => ?_)
        refine lv_lload hx hb d_Me_distance_105 (lv_at hl 1 rfl) ?_
        obtain ⟨u33, e34⟩ := gsome h
        refine gw_callJ e34 h (gw_runS (As := [.long v21]) (rest := []) hx hb hml hown hT hK hZ hA hI (m_Me_squareIfAbove l D g0 v21 w u33 e34) ce_Me_squareIfAbove wd_397 ⟨by decide, by decide⟩ rfl rfl hl.1 rfl (lv_room (Nat.le_of_ble_eq_true rfl)) d_Me_distance_107 ⟨(show 0 + 0 ≤ 0 by omega), (show 0 + 0 ≤ 0 by omega)⟩) hI hA hexc (show 0 + 0 ≤ 0 by omega) (show 0 + 0 ≤ 0 by omega) (fun v35 w H locs h hI => ?_)
        refine lv_lload hx hb d_Me_distance_110 (lv_at hl 0 rfl) ?_
        obtain ⟨u36, e37⟩ := gsome h
        refine gw_callJ e37 h (gw_runS (As := [.long v32]) (rest := [.long v35]) hx hb hml hown hT hK hZ hA hI (m_Me_squareIfAbove l D g0 v32 w u36 e37) ce_Me_squareIfAbove wd_397 ⟨by decide, by decide⟩ rfl rfl hl.1 rfl (lv_room (Nat.le_of_ble_eq_true rfl)) d_Me_distance_112 ⟨(show 0 + 0 ≤ 0 by omega), (show 0 + 0 ≤ 0 by omega)⟩) hI hA hexc (show 0 + 0 ≤ 0 by omega) (show 0 + 0 ≤ 0 by omega) (fun v38 w H locs h hI => ?_)
        refine lv_ladd hx hb d_Me_distance_115 ?_
        refine lv_lload_n hx hb d_Me_distance_116 rfl (lv_at hl 4 rfl) ?_
        refine lv_lsub hx hb d_Me_distance_117 ?_
        obtain ⟨u39, e40⟩ := gsome h
        refine gw_callI e40 h (gw_runS (As := [.long ((v35 + v38) - p2)]) (rest := []) hx hb hml hown hT hK hZ hA hI (m_Me_sign l D g0 ((v35 + v38) - p2) w u39 e40) ce_Me_sign wd_383 ⟨by decide, by decide⟩ rfl rfl hl.1 rfl (lv_room (Nat.le_of_ble_eq_true rfl)) d_Me_distance_118 ⟨(show 0 + 0 ≤ 0 by omega), (show 0 + 0 ≤ 0 by omega)⟩) hI hA hexc (show 0 + 0 ≤ 0 by omega) (show 0 + 0 ≤ 0 by omega) (fun v41 w H locs h hI => ?_)
        exact W.widen (show 0 ≤ 0 by omega) (show 0 ≤ 0 by omega) (hret _ _ (Option.some.inj h).symm _ _ _ _ d_Me_distance_121 hI)
      · skip
        have h := git c10 h
        refine lv_aload_n hx hb d_Me_distance_47 rfl (lv_at hl 1 rfl) ?_
        refine lv_aload_n hx hb d_Me_distance_48 rfl (lv_at hl 0 rfl) ?_
        refine lv_lload_n hx hb d_Me_distance_49 rfl (lv_at hl 2 rfl) ?_
        obtain ⟨u42, e43⟩ := gsome h
        refine gw_callI e43 h (gw_runS (As := [.ref a1, .ref a0, .long p2]) (rest := []) hx hb hml hown hT hK hZ hA hI (m_Me_cornersDistance l D g0 a1 a0 p2 w u42 e43) ce_Me_cornersDistance wd_394 ⟨by decide, by decide⟩ rfl rfl hl.1 rfl (lv_room (Nat.le_of_ble_eq_true rfl)) d_Me_distance_50 ⟨(show 0 + 0 ≤ 0 by omega), (show 0 + 0 ≤ 0 by omega)⟩) hI hA hexc (show 0 + 0 ≤ 0 by omega) (show 0 + 0 ≤ 0 by omega) (fun v44 w H locs h hI => ?_)
        refine lv_aload_n hx hb d_Me_distance_53 rfl (lv_at hl 1 rfl) ?_
        refine lv_aload_n hx hb d_Me_distance_54 rfl (lv_at hl 0 rfl) ?_
        refine lv_lload_n hx hb d_Me_distance_55 rfl (lv_at hl 2 rfl) ?_
        obtain ⟨u45, e46⟩ := gsome h
        refine gw_callI e46 h (gw_runS (As := [.ref a1, .ref a0, .long p2]) (rest := [.int v44]) hx hb hml hown hT hK hZ hA hI (m_Me_sidesDistance l D g0 a1 a0 p2 w u45 e46) ce_Me_sidesDistance wd_400 ⟨by decide, by decide⟩ rfl rfl hl.1 rfl (lv_room (Nat.le_of_ble_eq_true rfl)) d_Me_distance_56 ⟨(show 0 + 0 ≤ 0 by omega), (show 0 + 0 ≤ 0 by omega)⟩) hI hA hexc (show 0 + 0 ≤ 0 by omega) (show 0 + 0 ≤ 0 by omega) (fun v47 w H locs h hI => ?_)
        obtain ⟨u48, e49⟩ := gsome h
        refine gw_callI e49 h (gw_runS (As := [.int v44, .int v47]) (rest := []) hx hb hml hown hT hK hZ hA hI (m_Ma_min l D g0 v44 v47 w u48 e49) ce_Ma_min wd_389 ⟨by decide, by decide⟩ rfl rfl hl.1 rfl (lv_room (Nat.le_of_ble_eq_true rfl)) d_Me_distance_59 ⟨(show 0 + 0 ≤ 0 by omega), (show 0 + 0 ≤ 0 by omega)⟩) hI hA hexc (show 0 + 0 ≤ 0 by omega) (show 0 + 0 ≤ 0 by omega) (fun v50 w H locs h hI => ?_)
        exact W.widen (show 0 ≤ 0 by omega) (show 0 ≤ 0 by omega) (hret _ _ (Option.some.inj h).symm _ _ _ _ d_Me_distance_62 hI)
    · skip
      have h := git c7 h
      refine lv_aload_n hx hb d_Me_distance_23 rfl (lv_at hl 0 rfl) ?_
      refine lv_aload_n hx hb d_Me_distance_24 rfl (lv_at hl 1 rfl) ?_
      refine lv_lload_n hx hb d_Me_distance_25 rfl (lv_at hl 2 rfl) ?_
      obtain ⟨u51, e52⟩ := gsome h
      refine gw_callI e52 h (gw_runS (As := [.ref a0, .ref a1, .long p2]) (rest := []) hx hb hml hown hT hK hZ hA hI (m_Me_cornersDistance l D g0 a0 a1 p2 w u51 e52) ce_Me_cornersDistance wd_394 ⟨by decide, by decide⟩ rfl rfl hl.1 rfl (lv_room (Nat.le_of_ble_eq_true rfl)) d_Me_distance_26 ⟨(show 0 + 0 ≤ 0 by omega), (show 0 + 0 ≤ 0 by omega)⟩) hI hA hexc (show 0 + 0 ≤ 0 by omega) (show 0 + 0 ≤ 0 by omega) (fun v53 w H locs h hI => ?_)
      refine lv_aload_n hx hb d_Me_distance_29 rfl (lv_at hl 0 rfl) ?_
      refine lv_aload_n hx hb d_Me_distance_30 rfl (lv_at hl 1 rfl) ?_
      refine lv_lload_n hx hb d_Me_distance_31 rfl (lv_at hl 2 rfl) ?_
      obtain ⟨u54, e55⟩ := gsome h
      refine gw_callI e55 h (gw_runS (As := [.ref a0, .ref a1, .long p2]) (rest := [.int v53]) hx hb hml hown hT hK hZ hA hI (m_Me_sidesDistance l D g0 a0 a1 p2 w u54 e55) ce_Me_sidesDistance wd_400 ⟨by decide, by decide⟩ rfl rfl hl.1 rfl (lv_room (Nat.le_of_ble_eq_true rfl)) d_Me_distance_32 ⟨(show 0 + 0 ≤ 0 by omega), (show 0 + 0 ≤ 0 by omega)⟩) hI hA hexc (show 0 + 0 ≤ 0 by omega) (show 0 + 0 ≤ 0 by omega) (fun v56 w H locs h hI => ?_)
      obtain ⟨u57, e58⟩ := gsome h
      refine gw_callI e58 h (gw_runS (As := [.int v53, .int v56]) (rest := []) hx hb hml hown hT hK hZ hA hI (m_Ma_min l D g0 v53 v56 w u57 e58) ce_Ma_min wd_389 ⟨by decide, by decide⟩ rfl rfl hl.1 rfl (lv_room (Nat.le_of_ble_eq_true rfl)) d_Me_distance_35 ⟨(show 0 + 0 ≤ 0 by omega), (show 0 + 0 ≤ 0 by omega)⟩) hI hA hexc (show 0 + 0 ≤ 0 by omega) (show 0 + 0 ≤ 0 by omega) (fun v59 w H locs h hI => ?_)
      exact W.widen (show 0 ≤ 0 by omega) (show 0 ≤ 0 by omega) (hret _ _ (Option.some.inj h).symm _ _ _ _ d_Me_distance_38 hI)
  · skip
    have h := gie c4 h
    refine lv_lload_n hx hb d_Me_distance_9 rfl (lv_at hl 2 rfl) ?_
    refine lv_lneg hx hb d_Me_distance_10 ?_
    obtain ⟨u60, e61⟩ := gsome h
    refine gw_callI e61 h (gw_runS (As := [.long (-p2)]) (rest := []) hx hb hml hown hT hK hZ hA hI (m_Me_sign l D g0 (-p2) w u60 e61) ce_Me_sign wd_383 ⟨by decide, by decide⟩ rfl rfl hl.1 rfl (lv_room (Nat.le_of_ble_eq_true rfl)) d_Me_distance_11 ⟨(show 0 + 0 ≤ 0 by omega), (show 0 + 0 ≤ 0 by omega)⟩) hI hA hexc (show 0 + 0 ≤ 0 by omega) (show 0 + 0 ≤ 0 by omega) (fun v62 w H locs h hI => ?_)
    exact W.widen (show 0 ≤ 0 by omega) (show 0 ≤ 0 by omega) (hret _ _ (Option.some.inj h).symm _ _ _ _ d_Me_distance_14 hI)

abbrev b_Me_discAndRound : ByteArray := prog_5_method_12_code
def y_Me_discAndRound : MethodName := ⟨"BodySolids$Meeting", "discAndRound", "(JJJ)I"⟩
theorem d_Me_discAndRound_0 : decode b_Me_discAndRound 0 = .ok (.lload_n 0, 1) := by decide +kernel
theorem d_Me_discAndRound_1 : decode b_Me_discAndRound 1 = .ok (.lload_n 2, 1) := by decide +kernel
theorem d_Me_discAndRound_2 : decode b_Me_discAndRound 2 = .ok (.lload_n 2, 1) := by decide +kernel
theorem d_Me_discAndRound_3 : decode b_Me_discAndRound 3 = .ok (.lmul, 1) := by decide +kernel
theorem d_Me_discAndRound_4 : decode b_Me_discAndRound 4 = .ok (.lcmp, 1) := by decide +kernel
theorem d_Me_discAndRound_5 : decode b_Me_discAndRound 5 = .ok (.ifCond .gt 10, 3) := by decide +kernel
theorem d_Me_discAndRound_8 : decode b_Me_discAndRound 8 = .ok (.lload 4, 2) := by decide +kernel
theorem d_Me_discAndRound_10 : decode b_Me_discAndRound 10 = .ok (.lneg, 1) := by decide +kernel
theorem d_Me_discAndRound_11 : decode b_Me_discAndRound 11 = .ok (.invokestatic 50, 3) := by decide +kernel
theorem d_Me_discAndRound_14 : decode b_Me_discAndRound 14 = .ok (.ireturn, 1) := by decide +kernel
theorem d_Me_discAndRound_15 : decode b_Me_discAndRound 15 = .ok (.lload_n 0, 1) := by decide +kernel
theorem d_Me_discAndRound_16 : decode b_Me_discAndRound 16 = .ok (.lload_n 2, 1) := by decide +kernel
theorem d_Me_discAndRound_17 : decode b_Me_discAndRound 17 = .ok (.lload_n 2, 1) := by decide +kernel
theorem d_Me_discAndRound_18 : decode b_Me_discAndRound 18 = .ok (.lmul, 1) := by decide +kernel
theorem d_Me_discAndRound_19 : decode b_Me_discAndRound 19 = .ok (.ladd, 1) := by decide +kernel
theorem d_Me_discAndRound_20 : decode b_Me_discAndRound 20 = .ok (.lload 4, 2) := by decide +kernel
theorem d_Me_discAndRound_22 : decode b_Me_discAndRound 22 = .ok (.lsub, 1) := by decide +kernel
theorem d_Me_discAndRound_23 : decode b_Me_discAndRound 23 = .ok (.lstore 6, 2) := by decide +kernel
theorem d_Me_discAndRound_25 : decode b_Me_discAndRound 25 = .ok (.lload 6, 2) := by decide +kernel
theorem d_Me_discAndRound_27 : decode b_Me_discAndRound 27 = .ok (.lconst 0, 1) := by decide +kernel
theorem d_Me_discAndRound_28 : decode b_Me_discAndRound 28 = .ok (.lcmp, 1) := by decide +kernel
theorem d_Me_discAndRound_29 : decode b_Me_discAndRound 29 = .ok (.ifCond .ge 5, 3) := by decide +kernel
theorem d_Me_discAndRound_32 : decode b_Me_discAndRound 32 = .ok (.iconst (-1), 1) := by decide +kernel
theorem d_Me_discAndRound_33 : decode b_Me_discAndRound 33 = .ok (.ireturn, 1) := by decide +kernel
theorem d_Me_discAndRound_34 : decode b_Me_discAndRound 34 = .ok (.lload 6, 2) := by decide +kernel
theorem d_Me_discAndRound_36 : decode b_Me_discAndRound 36 = .ok (.lload 6, 2) := by decide +kernel
theorem d_Me_discAndRound_38 : decode b_Me_discAndRound 38 = .ok (.lmul, 1) := by decide +kernel
theorem d_Me_discAndRound_39 : decode b_Me_discAndRound 39 = .ok (.ldc2_w 101, 3) := by decide +kernel
theorem d_Me_discAndRound_42 : decode b_Me_discAndRound 42 = .ok (.lload_n 2, 1) := by decide +kernel
theorem d_Me_discAndRound_43 : decode b_Me_discAndRound 43 = .ok (.lmul, 1) := by decide +kernel
theorem d_Me_discAndRound_44 : decode b_Me_discAndRound 44 = .ok (.lload_n 2, 1) := by decide +kernel
theorem d_Me_discAndRound_45 : decode b_Me_discAndRound 45 = .ok (.lmul, 1) := by decide +kernel
theorem d_Me_discAndRound_46 : decode b_Me_discAndRound 46 = .ok (.lload_n 0, 1) := by decide +kernel
theorem d_Me_discAndRound_47 : decode b_Me_discAndRound 47 = .ok (.lmul, 1) := by decide +kernel
theorem d_Me_discAndRound_48 : decode b_Me_discAndRound 48 = .ok (.lsub, 1) := by decide +kernel
theorem d_Me_discAndRound_49 : decode b_Me_discAndRound 49 = .ok (.invokestatic 50, 3) := by decide +kernel
theorem d_Me_discAndRound_52 : decode b_Me_discAndRound 52 = .ok (.ireturn, 1) := by decide +kernel
abbrev rm_Me_discAndRound : Room := { frames := 1, cells := 0, slots := 0, locals := 21 }
theorem ce_Me_discAndRound : gCe y_Me_discAndRound (.code y_Me_discAndRound b_Me_discAndRound 8 (some .int)) 8 3 true := gCe.code wd_408 wd_69 wd_407 (by decide) (by decide +kernel)
def f_Me_discAndRound (g0 : Nat) (p0 : Int64) (p1 : Int64) (p2 : Int64) (w : gW) : gX Int32 := if (p1 * p1) < p0 then (if 0 ≤ ((p0 + (p1 * p1)) - p2) then (gbind (f_Me_sign g0 ((((p0 + (p1 * p1)) - p2) * ((p0 + (p1 * p1)) - p2)) - (((4 * p1) * p1) * p0)) w) fun v5 w => some (.inr v5, w)) else (some (.inr (-1), w))) else (gbind (f_Me_sign g0 (-p2) w) fun v8 w => some (.inr v8, w))
set_option maxHeartbeats 4000000 in
set_option maxRecDepth 100000 in
theorem m_Me_discAndRound (l : Launch) (D : gD) (g0 : Nat) (p0 : Int64) (p1 : Int64) (p2 : Int64) (w : gW) (r : (String ⊕ Int32) × gW) (h : f_Me_discAndRound g0 p0 p1 p2 w = some r) : gMet l y_Me_discAndRound (.code y_Me_discAndRound b_Me_discAndRound 8 (some .int)) rm_Me_discAndRound D g0 [.long p0, .long p1, .long p2] w (goI r) := by
  refine gw_ofI (by decide +kernel) (Nat.le_of_ble_eq_true rfl) ?_
  intro p e s m below meth c ls args A Q hx hb hml hown hlocks hin hnt hT hK hZ hA hret hexc hI hl
  obtain ⟨H, hH⟩ : ∃ H, H = s.heap := ⟨_, rfl⟩
  rw [← hH] at hI ⊢
  obtain ⟨locs, hlocs⟩ : ∃ z : List Loc, z = [] := ⟨_, rfl⟩
  rw [← hlocs] at hI ⊢
  have hl : lv_has ls 8 [(0, .long p0), (2, .long p1), (4, .long p2)] := hl
  unfold f_Me_discAndRound at h
  refine lv_lload_n hx hb d_Me_discAndRound_0 rfl (lv_at hl 0 rfl) ?_
  refine lv_lload_n hx hb d_Me_discAndRound_1 rfl (lv_at hl 1 rfl) ?_
  refine lv_lload_n hx hb d_Me_discAndRound_2 rfl (lv_at hl 1 rfl) ?_
  refine lv_lmul hx hb d_Me_discAndRound_3 ?_
  refine W.lcmp hx hb d_Me_discAndRound_4 ?_
  refine lv_if_gt (tgt := 15) hx hb d_Me_discAndRound_5 (by decide) (fun c1 => ?_) (fun c1 => ?_)
  · have c1 := (lg_cmp_gt _ _).mp c1
    have h := git c1 h
    refine lv_lload_n hx hb d_Me_discAndRound_15 rfl (lv_at hl 0 rfl) ?_
    refine lv_lload_n hx hb d_Me_discAndRound_16 rfl (lv_at hl 1 rfl) ?_
    refine lv_lload_n hx hb d_Me_discAndRound_17 rfl (lv_at hl 1 rfl) ?_
    refine lv_lmul hx hb d_Me_discAndRound_18 ?_
    refine lv_ladd hx hb d_Me_discAndRound_19 ?_
    refine lv_lload hx hb d_Me_discAndRound_20 (lv_at hl 2 rfl) ?_
    refine lv_lsub hx hb d_Me_discAndRound_22 ?_
    refine lv_lstore (lv' := [(6, .long ((p0 + (p1 * p1)) - p2)), (0, .long p0), (2, .long p1), (4, .long p2)]) hx hb d_Me_discAndRound_23 hl (by decide) rfl (fun ls hl => ?_)
    refine lv_lload hx hb d_Me_discAndRound_25 (lv_at hl 0 rfl) ?_
    refine lv_lconst (v := 0) hx hb d_Me_discAndRound_27 (by decide) ?_
    refine W.lcmp hx hb d_Me_discAndRound_28 ?_
    refine lv_if_ge (tgt := 34) hx hb d_Me_discAndRound_29 (by decide) (fun c2 => ?_) (fun c2 => ?_)
    · have c2 := (lg_cmp_ge _ _).mp c2
      have h := git c2 h
      refine lv_lload hx hb d_Me_discAndRound_34 (lv_at hl 0 rfl) ?_
      refine lv_lload hx hb d_Me_discAndRound_36 (lv_at hl 0 rfl) ?_
      refine lv_lmul hx hb d_Me_discAndRound_38 ?_
      refine lv_ldc2 (v := 4) hx hb hown (hT _ wd_409 args) d_Me_discAndRound_39 ?_
      refine lv_lload_n hx hb d_Me_discAndRound_42 rfl (lv_at hl 2 rfl) ?_
      refine lv_lmul hx hb d_Me_discAndRound_43 ?_
      refine lv_lload_n hx hb d_Me_discAndRound_44 rfl (lv_at hl 2 rfl) ?_
      refine lv_lmul hx hb d_Me_discAndRound_45 ?_
      refine lv_lload_n hx hb d_Me_discAndRound_46 rfl (lv_at hl 1 rfl) ?_
      refine lv_lmul hx hb d_Me_discAndRound_47 ?_
      refine lv_lsub hx hb d_Me_discAndRound_48 ?_
      obtain ⟨u3, e4⟩ := gsome h
      refine gw_callI e4 h (gw_runS (As := [.long ((((p0 + (p1 * p1)) - p2) * ((p0 + (p1 * p1)) - p2)) - (((4 * p1) * p1) * p0))]) (rest := []) hx hb hml hown hT hK hZ hA hI (m_Me_sign l D g0 ((((p0 + (p1 * p1)) - p2) * ((p0 + (p1 * p1)) - p2)) - (((4 * p1) * p1) * p0)) w u3 e4) ce_Me_sign wd_383 ⟨by decide, by decide⟩ rfl rfl hl.1 rfl (lv_room (Nat.le_of_ble_eq_true rfl)) d_Me_discAndRound_49 ⟨(show 0 + 0 ≤ 0 by omega), (show 0 + 0 ≤ 0 by omega)⟩) hI hA hexc (show 0 + 0 ≤ 0 by omega) (show 0 + 0 ≤ 0 by omega) (fun v5 w H locs h hI => ?_)
      exact W.widen (show 0 ≤ 0 by omega) (show 0 ≤ 0 by omega) (hret _ _ (Option.some.inj h).symm _ _ _ _ d_Me_discAndRound_52 hI)
    · have c2 := mt (lg_cmp_ge _ _).mpr c2
      have h := gie c2 h
      refine lv_iconst (v := -1) hx hb d_Me_discAndRound_32 (by decide) ?_
      exact W.widen (show 0 ≤ 0 by omega) (show 0 ≤ 0 by omega) (hret _ _ (Option.some.inj h).symm _ _ _ _ d_Me_discAndRound_33 hI)
  · have c1 := mt (lg_cmp_gt _ _).mpr c1
    have h := gie c1 h
    refine lv_lload hx hb d_Me_discAndRound_8 (lv_at hl 2 rfl) ?_
    refine lv_lneg hx hb d_Me_discAndRound_10 ?_
    obtain ⟨u6, e7⟩ := gsome h
    refine gw_callI e7 h (gw_runS (As := [.long (-p2)]) (rest := []) hx hb hml hown hT hK hZ hA hI (m_Me_sign l D g0 (-p2) w u6 e7) ce_Me_sign wd_383 ⟨by decide, by decide⟩ rfl rfl hl.1 rfl (lv_room (Nat.le_of_ble_eq_true rfl)) d_Me_discAndRound_11 ⟨(show 0 + 0 ≤ 0 by omega), (show 0 + 0 ≤ 0 by omega)⟩) hI hA hexc (show 0 + 0 ≤ 0 by omega) (show 0 + 0 ≤ 0 by omega) (fun v8 w H locs h hI => ?_)
    exact W.widen (show 0 ≤ 0 by omega) (show 0 ≤ 0 by omega) (hret _ _ (Option.some.inj h).symm _ _ _ _ d_Me_discAndRound_14 hI)

abbrev b_Me_of : ByteArray := prog_5_method_2_code
def y_Me_of : MethodName := ⟨"BodySolids$Meeting", "of", "(LBodySolids$Solid;LBodySolids$Solid;)I"⟩
theorem d_Me_of_0 : decode b_Me_of 0 = .ok (.aload_n 0, 1) := by decide +kernel
theorem d_Me_of_1 : decode b_Me_of 1 = .ok (.getfield 9, 3) := by decide +kernel
theorem d_Me_of_4 : decode b_Me_of 4 = .ok (.aload_n 1, 1) := by decide +kernel
theorem d_Me_of_5 : decode b_Me_of 5 = .ok (.getfield 9, 3) := by decide +kernel
theorem d_Me_of_8 : decode b_Me_of 8 = .ok (.ladd, 1) := by decide +kernel
theorem d_Me_of_9 : decode b_Me_of 9 = .ok (.lstore_n 2, 1) := by decide +kernel
theorem d_Me_of_10 : decode b_Me_of 10 = .ok (.aload_n 0, 1) := by decide +kernel
theorem d_Me_of_11 : decode b_Me_of 11 = .ok (.getfield 15, 3) := by decide +kernel
theorem d_Me_of_14 : decode b_Me_of 14 = .ok (.aload_n 1, 1) := by decide +kernel
theorem d_Me_of_15 : decode b_Me_of 15 = .ok (.getfield 15, 3) := by decide +kernel
theorem d_Me_of_18 : decode b_Me_of 18 = .ok (.ladd, 1) := by decide +kernel
theorem d_Me_of_19 : decode b_Me_of 19 = .ok (.lstore 4, 2) := by decide +kernel
theorem d_Me_of_21 : decode b_Me_of 21 = .ok (.aload_n 0, 1) := by decide +kernel
theorem d_Me_of_22 : decode b_Me_of 22 = .ok (.getfield 18, 3) := by decide +kernel
theorem d_Me_of_25 : decode b_Me_of 25 = .ok (.aload_n 0, 1) := by decide +kernel
theorem d_Me_of_26 : decode b_Me_of 26 = .ok (.getfield 21, 3) := by decide +kernel
theorem d_Me_of_29 : decode b_Me_of 29 = .ok (.aload_n 1, 1) := by decide +kernel
theorem d_Me_of_30 : decode b_Me_of 30 = .ok (.getfield 18, 3) := by decide +kernel
theorem d_Me_of_33 : decode b_Me_of 33 = .ok (.aload_n 1, 1) := by decide +kernel
theorem d_Me_of_34 : decode b_Me_of 34 = .ok (.getfield 21, 3) := by decide +kernel
theorem d_Me_of_37 : decode b_Me_of 37 = .ok (.invokestatic 24, 3) := by decide +kernel
theorem d_Me_of_40 : decode b_Me_of 40 = .ok (.lstore 6, 2) := by decide +kernel
theorem d_Me_of_42 : decode b_Me_of 42 = .ok (.aload_n 0, 1) := by decide +kernel
theorem d_Me_of_43 : decode b_Me_of 43 = .ok (.getfield 30, 3) := by decide +kernel
theorem d_Me_of_46 : decode b_Me_of 46 = .ok (.aload_n 0, 1) := by decide +kernel
theorem d_Me_of_47 : decode b_Me_of 47 = .ok (.getfield 33, 3) := by decide +kernel
theorem d_Me_of_50 : decode b_Me_of 50 = .ok (.aload_n 1, 1) := by decide +kernel
theorem d_Me_of_51 : decode b_Me_of 51 = .ok (.getfield 30, 3) := by decide +kernel
theorem d_Me_of_54 : decode b_Me_of 54 = .ok (.aload_n 1, 1) := by decide +kernel
theorem d_Me_of_55 : decode b_Me_of 55 = .ok (.getfield 33, 3) := by decide +kernel
theorem d_Me_of_58 : decode b_Me_of 58 = .ok (.invokestatic 24, 3) := by decide +kernel
theorem d_Me_of_61 : decode b_Me_of 61 = .ok (.lstore 8, 2) := by decide +kernel
theorem d_Me_of_63 : decode b_Me_of 63 = .ok (.aload_n 0, 1) := by decide +kernel
theorem d_Me_of_64 : decode b_Me_of 64 = .ok (.getfield 36, 3) := by decide +kernel
theorem d_Me_of_67 : decode b_Me_of 67 = .ok (.aload_n 0, 1) := by decide +kernel
theorem d_Me_of_68 : decode b_Me_of 68 = .ok (.getfield 39, 3) := by decide +kernel
theorem d_Me_of_71 : decode b_Me_of 71 = .ok (.aload_n 1, 1) := by decide +kernel
theorem d_Me_of_72 : decode b_Me_of 72 = .ok (.getfield 36, 3) := by decide +kernel
theorem d_Me_of_75 : decode b_Me_of 75 = .ok (.aload_n 1, 1) := by decide +kernel
theorem d_Me_of_76 : decode b_Me_of 76 = .ok (.getfield 39, 3) := by decide +kernel
theorem d_Me_of_79 : decode b_Me_of 79 = .ok (.invokestatic 24, 3) := by decide +kernel
theorem d_Me_of_82 : decode b_Me_of 82 = .ok (.lstore 10, 2) := by decide +kernel
theorem d_Me_of_84 : decode b_Me_of 84 = .ok (.lload 6, 2) := by decide +kernel
theorem d_Me_of_86 : decode b_Me_of 86 = .ok (.lload_n 2, 1) := by decide +kernel
theorem d_Me_of_87 : decode b_Me_of 87 = .ok (.lload 4, 2) := by decide +kernel
theorem d_Me_of_89 : decode b_Me_of 89 = .ok (.ladd, 1) := by decide +kernel
theorem d_Me_of_90 : decode b_Me_of 90 = .ok (.lcmp, 1) := by decide +kernel
theorem d_Me_of_91 : decode b_Me_of 91 = .ok (.ifCond .gt 21, 3) := by decide +kernel
theorem d_Me_of_94 : decode b_Me_of 94 = .ok (.lload 8, 2) := by decide +kernel
theorem d_Me_of_96 : decode b_Me_of 96 = .ok (.lload_n 2, 1) := by decide +kernel
theorem d_Me_of_97 : decode b_Me_of 97 = .ok (.lload 4, 2) := by decide +kernel
theorem d_Me_of_99 : decode b_Me_of 99 = .ok (.ladd, 1) := by decide +kernel
theorem d_Me_of_100 : decode b_Me_of 100 = .ok (.lcmp, 1) := by decide +kernel
theorem d_Me_of_101 : decode b_Me_of 101 = .ok (.ifCond .gt 11, 3) := by decide +kernel
theorem d_Me_of_104 : decode b_Me_of 104 = .ok (.lload 10, 2) := by decide +kernel
theorem d_Me_of_106 : decode b_Me_of 106 = .ok (.lload 4, 2) := by decide +kernel
theorem d_Me_of_108 : decode b_Me_of 108 = .ok (.lcmp, 1) := by decide +kernel
theorem d_Me_of_109 : decode b_Me_of 109 = .ok (.ifCond .le 5, 3) := by decide +kernel
theorem d_Me_of_112 : decode b_Me_of 112 = .ok (.iconst 1, 1) := by decide +kernel
theorem d_Me_of_113 : decode b_Me_of 113 = .ok (.ireturn, 1) := by decide +kernel
theorem d_Me_of_114 : decode b_Me_of 114 = .ok (.lload 4, 2) := by decide +kernel
theorem d_Me_of_116 : decode b_Me_of 116 = .ok (.lconst 0, 1) := by decide +kernel
theorem d_Me_of_117 : decode b_Me_of 117 = .ok (.lcmp, 1) := by decide +kernel
theorem d_Me_of_118 : decode b_Me_of 118 = .ok (.ifCond .ne 38, 3) := by decide +kernel
theorem d_Me_of_121 : decode b_Me_of 121 = .ok (.lload_n 2, 1) := by decide +kernel
theorem d_Me_of_122 : decode b_Me_of 122 = .ok (.lconst 0, 1) := by decide +kernel
theorem d_Me_of_123 : decode b_Me_of 123 = .ok (.lcmp, 1) := by decide +kernel
theorem d_Me_of_124 : decode b_Me_of 124 = .ok (.ifCond .ne 11, 3) := by decide +kernel
theorem d_Me_of_127 : decode b_Me_of 127 = .ok (.aload_n 0, 1) := by decide +kernel
theorem d_Me_of_128 : decode b_Me_of 128 = .ok (.aload_n 1, 1) := by decide +kernel
theorem d_Me_of_129 : decode b_Me_of 129 = .ok (.invokestatic 42, 3) := by decide +kernel
theorem d_Me_of_132 : decode b_Me_of 132 = .ok (.goto 11, 3) := by decide +kernel
theorem d_Me_of_135 : decode b_Me_of 135 = .ok (.aload_n 0, 1) := by decide +kernel
theorem d_Me_of_136 : decode b_Me_of 136 = .ok (.aload_n 1, 1) := by decide +kernel
theorem d_Me_of_137 : decode b_Me_of 137 = .ok (.lload_n 2, 1) := by decide +kernel
theorem d_Me_of_138 : decode b_Me_of 138 = .ok (.lload_n 2, 1) := by decide +kernel
theorem d_Me_of_139 : decode b_Me_of 139 = .ok (.lmul, 1) := by decide +kernel
theorem d_Me_of_140 : decode b_Me_of 140 = .ok (.invokestatic 46, 3) := by decide +kernel
theorem d_Me_of_143 : decode b_Me_of 143 = .ok (.istore 12, 2) := by decide +kernel
theorem d_Me_of_145 : decode b_Me_of 145 = .ok (.iload 12, 2) := by decide +kernel
theorem d_Me_of_147 : decode b_Me_of 147 = .ok (.lload 10, 2) := by decide +kernel
theorem d_Me_of_149 : decode b_Me_of 149 = .ok (.invokestatic 50, 3) := by decide +kernel
theorem d_Me_of_152 : decode b_Me_of 152 = .ok (.invokestatic 54, 3) := by decide +kernel
theorem d_Me_of_155 : decode b_Me_of 155 = .ok (.ireturn, 1) := by decide +kernel
theorem d_Me_of_156 : decode b_Me_of 156 = .ok (.lload 4, 2) := by decide +kernel
theorem d_Me_of_158 : decode b_Me_of 158 = .ok (.lload 4, 2) := by decide +kernel
theorem d_Me_of_160 : decode b_Me_of 160 = .ok (.lmul, 1) := by decide +kernel
theorem d_Me_of_161 : decode b_Me_of 161 = .ok (.lload 10, 2) := by decide +kernel
theorem d_Me_of_163 : decode b_Me_of 163 = .ok (.invokestatic 60, 3) := by decide +kernel
theorem d_Me_of_166 : decode b_Me_of 166 = .ok (.lsub, 1) := by decide +kernel
theorem d_Me_of_167 : decode b_Me_of 167 = .ok (.lstore 12, 2) := by decide +kernel
theorem d_Me_of_169 : decode b_Me_of 169 = .ok (.lload_n 2, 1) := by decide +kernel
theorem d_Me_of_170 : decode b_Me_of 170 = .ok (.lconst 0, 1) := by decide +kernel
theorem d_Me_of_171 : decode b_Me_of 171 = .ok (.lcmp, 1) := by decide +kernel
theorem d_Me_of_172 : decode b_Me_of 172 = .ok (.ifCond .ne 11, 3) := by decide +kernel
theorem d_Me_of_175 : decode b_Me_of 175 = .ok (.aload_n 0, 1) := by decide +kernel
theorem d_Me_of_176 : decode b_Me_of 176 = .ok (.aload_n 1, 1) := by decide +kernel
theorem d_Me_of_177 : decode b_Me_of 177 = .ok (.lload 12, 2) := by decide +kernel
theorem d_Me_of_179 : decode b_Me_of 179 = .ok (.invokestatic 46, 3) := by decide +kernel
theorem d_Me_of_182 : decode b_Me_of 182 = .ok (.ireturn, 1) := by decide +kernel
theorem d_Me_of_183 : decode b_Me_of 183 = .ok (.lload 6, 2) := by decide +kernel
theorem d_Me_of_185 : decode b_Me_of 185 = .ok (.invokestatic 60, 3) := by decide +kernel
theorem d_Me_of_188 : decode b_Me_of 188 = .ok (.lload 8, 2) := by decide +kernel
theorem d_Me_of_190 : decode b_Me_of 190 = .ok (.invokestatic 60, 3) := by decide +kernel
theorem d_Me_of_193 : decode b_Me_of 193 = .ok (.ladd, 1) := by decide +kernel
theorem d_Me_of_194 : decode b_Me_of 194 = .ok (.lload_n 2, 1) := by decide +kernel
theorem d_Me_of_195 : decode b_Me_of 195 = .ok (.lload 12, 2) := by decide +kernel
theorem d_Me_of_197 : decode b_Me_of 197 = .ok (.invokestatic 64, 3) := by decide +kernel
theorem d_Me_of_200 : decode b_Me_of 200 = .ok (.ireturn, 1) := by decide +kernel
abbrev rm_Me_of : Room := { frames := 4, cells := 0, slots := 0, locals := 114 }
theorem ce_Me_of : gCe y_Me_of (.code y_Me_of b_Me_of 14 (some .int)) 14 2 true := gCe.code wd_375 wd_69 wd_374 (by decide) (by decide +kernel)
def f_Me_of (g0 : Nat) (a0 : Nat) (a1 : Nat) (w : gW) : gX Int32 := (gfJ w a0 3 1).bind fun v1 => (gfJ w a1 3 1).bind fun v3 => (gfJ w a0 3 2).bind fun v5 => (gfJ w a1 3 2).bind fun v7 => (gfJ w a0 3 6).bind fun v9 => (gfJ w a0 3 9).bind fun v11 => (gfJ w a1 3 6).bind fun v13 => (gfJ w a1 3 9).bind fun v15 => gbind (f_Me_gap g0 v9 v11 v13 v15 w) fun v19 w => (gfJ w a0 3 7).bind fun v20 => (gfJ w a0 3 10).bind fun v22 => (gfJ w a1 3 7).bind fun v24 => (gfJ w a1 3 10).bind fun v26 => gbind (f_Me_gap g0 v20 v22 v24 v26 w) fun v30 w => (gfJ w a0 3 8).bind fun v31 => (gfJ w a0 3 11).bind fun v33 => (gfJ w a1 3 8).bind fun v35 => (gfJ w a1 3 11).bind fun v37 => gbind (f_Me_gap g0 v31 v33 v35 v37 w) fun v41 w => gjoin (fun K112 => if ((v1 + v3) + (v5 + v7)) < v19 then (K112 w) else (if ((v1 + v3) + (v5 + v7)) < v30 then (K112 w) else (if v41 ≤ (v5 + v7) then (if (v5 + v7) = 0 then (gjoin (fun K143 => if (v1 + v3) = 0 then (gbind (f_Me_outlines g0 a0 a1 w) fun v75 w => K143 v75 w) else (gbind (f_Me_distance g0 a0 a1 ((v1 + v3) * (v1 + v3)) w) fun v72 w => K143 v72 w)) (fun (y62 : Int32) (w : gW) => gbind (f_Me_sign g0 v41 w) fun v65 w => gbind (f_Ma_max g0 y62 v65 w) fun v68 w => some (.inr v68, w))) else (gbind (f_Me_squareIfAbove g0 v41 w) fun v48 w => if (v1 + v3) = 0 then (gbind (f_Me_distance g0 a0 a1 (((v5 + v7) * (v5 + v7)) - v48) w) fun v61 w => some (.inr v61, w)) else (gbind (f_Me_squareIfAbove g0 v19 w) fun v52 w => gbind (f_Me_squareIfAbove g0 v30 w) fun v55 w => gbind (f_Me_discAndRound g0 (v52 + v55) (v1 + v3) (((v5 + v7) * (v5 + v7)) - v48) w) fun v58 w => some (.inr v58, w)))) else (K112 w)))) (fun (w : gW) => some (.inr 1, w))
set_option maxHeartbeats 4000000 in
set_option maxRecDepth 100000 in
theorem m_Me_of (l : Launch) (D : gD) (g0 : Nat) (a0 : Nat) (a1 : Nat) (w : gW) (r : (String ⊕ Int32) × gW) (h : f_Me_of g0 a0 a1 w = some r) : gMet l y_Me_of (.code y_Me_of b_Me_of 14 (some .int)) rm_Me_of D g0 [.ref a0, .ref a1] w (goI r) := by
  refine gw_ofI (by decide +kernel) (Nat.le_of_ble_eq_true rfl) ?_
  intro p e s m below meth c ls args A Q hx hb hml hown hlocks hin hnt hT hK hZ hA hret hexc hI hl
  obtain ⟨H, hH⟩ : ∃ H, H = s.heap := ⟨_, rfl⟩
  rw [← hH] at hI ⊢
  obtain ⟨locs, hlocs⟩ : ∃ z : List Loc, z = [] := ⟨_, rfl⟩
  rw [← hlocs] at hI ⊢
  have hl : lv_has ls 14 [(0, .ref a0), (1, .ref a1)] := hl
  unfold f_Me_of at h
  refine lv_aload_n hx hb d_Me_of_0 rfl (lv_at hl 0 rfl) ?_
  obtain ⟨v1, e2, h⟩ := gb h
  refine gw_getJ hx hb hT hown hK hI (ci := 3) rfl i_3 1 (by decide) wd_131 (fun _ h9 => h9) e2 d_Me_of_1 ?_
  refine lv_aload_n hx hb d_Me_of_4 rfl (lv_at hl 1 rfl) ?_
  obtain ⟨v3, e4, h⟩ := gb h
  refine gw_getJ hx hb hT hown hK hI (ci := 3) rfl i_3 1 (by decide) wd_131 (fun _ h9 => h9) e4 d_Me_of_5 ?_
  refine lv_ladd hx hb d_Me_of_8 ?_
  refine lv_lstore_n (lv' := [(2, .long (v1 + v3)), (0, .ref a0), (1, .ref a1)]) hx hb d_Me_of_9 rfl hl (by decide) rfl (fun ls hl => ?_)
  refine lv_aload_n hx hb d_Me_of_10 rfl (lv_at hl 1 rfl) ?_
  obtain ⟨v5, e6, h⟩ := gb h
  refine gw_getJ hx hb hT hown hK hI (ci := 3) rfl i_3 2 (by decide) wd_133 (fun _ h9 => h9) e6 d_Me_of_11 ?_
  refine lv_aload_n hx hb d_Me_of_14 rfl (lv_at hl 2 rfl) ?_
  obtain ⟨v7, e8, h⟩ := gb h
  refine gw_getJ hx hb hT hown hK hI (ci := 3) rfl i_3 2 (by decide) wd_133 (fun _ h9 => h9) e8 d_Me_of_15 ?_
  refine lv_ladd hx hb d_Me_of_18 ?_
  refine lv_lstore (lv' := [(4, .long (v5 + v7)), (2, .long (v1 + v3)), (0, .ref a0), (1, .ref a1)]) hx hb d_Me_of_19 hl (by decide) rfl (fun ls hl => ?_)
  refine lv_aload_n hx hb d_Me_of_21 rfl (lv_at hl 2 rfl) ?_
  obtain ⟨v9, e10, h⟩ := gb h
  refine gw_getJ hx hb hT hown hK hI (ci := 3) rfl i_3 6 (by decide) wd_141 (fun _ h9 => h9) e10 d_Me_of_22 ?_
  refine lv_aload_n hx hb d_Me_of_25 rfl (lv_at hl 2 rfl) ?_
  obtain ⟨v11, e12, h⟩ := gb h
  refine gw_getJ hx hb hT hown hK hI (ci := 3) rfl i_3 9 (by decide) wd_147 (fun _ h9 => h9) e12 d_Me_of_26 ?_
  refine lv_aload_n hx hb d_Me_of_29 rfl (lv_at hl 3 rfl) ?_
  obtain ⟨v13, e14, h⟩ := gb h
  refine gw_getJ hx hb hT hown hK hI (ci := 3) rfl i_3 6 (by decide) wd_141 (fun _ h9 => h9) e14 d_Me_of_30 ?_
  refine lv_aload_n hx hb d_Me_of_33 rfl (lv_at hl 3 rfl) ?_
  obtain ⟨v15, e16, h⟩ := gb h
  refine gw_getJ hx hb hT hown hK hI (ci := 3) rfl i_3 9 (by decide) wd_147 (fun _ h9 => h9) e16 d_Me_of_34 ?_
  obtain ⟨u17, e18⟩ := gsome h
  refine gw_callJ e18 h (gw_runS (As := [.long v9, .long v11, .long v13, .long v15]) (rest := []) hx hb hml hown hT hK hZ hA hI (m_Me_gap l D g0 v9 v11 v13 v15 w u17 e18) ce_Me_gap wd_376 ⟨by decide, by decide⟩ rfl rfl hl.1 rfl (lv_room (Nat.le_of_ble_eq_true rfl)) d_Me_of_37 ⟨(show 0 + 0 ≤ 0 by omega), (show 0 + 0 ≤ 0 by omega)⟩) hI hA hexc (show 0 + 0 ≤ 0 by omega) (show 0 + 0 ≤ 0 by omega) (fun v19 w H locs h hI => ?_)
  refine lv_lstore (lv' := [(6, .long v19), (4, .long (v5 + v7)), (2, .long (v1 + v3)), (0, .ref a0), (1, .ref a1)]) hx hb d_Me_of_40 hl (by decide) rfl (fun ls hl => ?_)
  refine lv_aload_n hx hb d_Me_of_42 rfl (lv_at hl 3 rfl) ?_
  obtain ⟨v20, e21, h⟩ := gb h
  refine gw_getJ hx hb hT hown hK hI (ci := 3) rfl i_3 7 (by decide) wd_143 (fun _ h9 => h9) e21 d_Me_of_43 ?_
  refine lv_aload_n hx hb d_Me_of_46 rfl (lv_at hl 3 rfl) ?_
  obtain ⟨v22, e23, h⟩ := gb h
  refine gw_getJ hx hb hT hown hK hI (ci := 3) rfl i_3 10 (by decide) wd_149 (fun _ h9 => h9) e23 d_Me_of_47 ?_
  refine lv_aload_n hx hb d_Me_of_50 rfl (lv_at hl 4 rfl) ?_
  obtain ⟨v24, e25, h⟩ := gb h
  refine gw_getJ hx hb hT hown hK hI (ci := 3) rfl i_3 7 (by decide) wd_143 (fun _ h9 => h9) e25 d_Me_of_51 ?_
  refine lv_aload_n hx hb d_Me_of_54 rfl (lv_at hl 4 rfl) ?_
  obtain ⟨v26, e27, h⟩ := gb h
  refine gw_getJ hx hb hT hown hK hI (ci := 3) rfl i_3 10 (by decide) wd_149 (fun _ h9 => h9) e27 d_Me_of_55 ?_
  obtain ⟨u28, e29⟩ := gsome h
  refine gw_callJ e29 h (gw_runS (As := [.long v20, .long v22, .long v24, .long v26]) (rest := []) hx hb hml hown hT hK hZ hA hI (m_Me_gap l D g0 v20 v22 v24 v26 w u28 e29) ce_Me_gap wd_376 ⟨by decide, by decide⟩ rfl rfl hl.1 rfl (lv_room (Nat.le_of_ble_eq_true rfl)) d_Me_of_58 ⟨(show 0 + 0 ≤ 0 by omega), (show 0 + 0 ≤ 0 by omega)⟩) hI hA hexc (show 0 + 0 ≤ 0 by omega) (show 0 + 0 ≤ 0 by omega) (fun v30 w H locs h hI => ?_)
  refine lv_lstore (lv' := [(8, .long v30), (6, .long v19), (4, .long (v5 + v7)), (2, .long (v1 + v3)), (0, .ref a0), (1, .ref a1)]) hx hb d_Me_of_61 hl (by decide) rfl (fun ls hl => ?_)
  refine lv_aload_n hx hb d_Me_of_63 rfl (lv_at hl 4 rfl) ?_
  obtain ⟨v31, e32, h⟩ := gb h
  refine gw_getJ hx hb hT hown hK hI (ci := 3) rfl i_3 8 (by decide) wd_145 (fun _ h9 => h9) e32 d_Me_of_64 ?_
  refine lv_aload_n hx hb d_Me_of_67 rfl (lv_at hl 4 rfl) ?_
  obtain ⟨v33, e34, h⟩ := gb h
  refine gw_getJ hx hb hT hown hK hI (ci := 3) rfl i_3 11 (by decide) wd_151 (fun _ h9 => h9) e34 d_Me_of_68 ?_
  refine lv_aload_n hx hb d_Me_of_71 rfl (lv_at hl 5 rfl) ?_
  obtain ⟨v35, e36, h⟩ := gb h
  refine gw_getJ hx hb hT hown hK hI (ci := 3) rfl i_3 8 (by decide) wd_145 (fun _ h9 => h9) e36 d_Me_of_72 ?_
  refine lv_aload_n hx hb d_Me_of_75 rfl (lv_at hl 5 rfl) ?_
  obtain ⟨v37, e38, h⟩ := gb h
  refine gw_getJ hx hb hT hown hK hI (ci := 3) rfl i_3 11 (by decide) wd_151 (fun _ h9 => h9) e38 d_Me_of_76 ?_
  obtain ⟨u39, e40⟩ := gsome h
  refine gw_callJ e40 h (gw_runS (As := [.long v31, .long v33, .long v35, .long v37]) (rest := []) hx hb hml hown hT hK hZ hA hI (m_Me_gap l D g0 v31 v33 v35 v37 w u39 e40) ce_Me_gap wd_376 ⟨by decide, by decide⟩ rfl rfl hl.1 rfl (lv_room (Nat.le_of_ble_eq_true rfl)) d_Me_of_79 ⟨(show 0 + 0 ≤ 0 by omega), (show 0 + 0 ≤ 0 by omega)⟩) hI hA hexc (show 0 + 0 ≤ 0 by omega) (show 0 + 0 ≤ 0 by omega) (fun v41 w H locs h hI => ?_)
  refine lv_lstore (lv' := [(10, .long v41), (8, .long v30), (6, .long v19), (4, .long (v5 + v7)), (2, .long (v1 + v3)), (0, .ref a0), (1, .ref a1)]) hx hb d_Me_of_82 hl (by decide) rfl (fun ls hl => ?_)
  refine lv_lload hx hb d_Me_of_84 (lv_at hl 2 rfl) ?_
  refine lv_lload_n hx hb d_Me_of_86 rfl (lv_at hl 4 rfl) ?_
  refine lv_lload hx hb d_Me_of_87 (lv_at hl 3 rfl) ?_
  refine lv_ladd hx hb d_Me_of_89 ?_
  refine W.lcmp hx hb d_Me_of_90 ?_
  obtain ⟨K112, eK112, h⟩ := gj h
  have hK112 : ∀ (w : gW) (H : Heap) (locs : List Loc) (ls : Array Slot), K112 w = some r → gI D s A w H locs → lv_has ls 14 [] → W p l e rm_Me_of s m args below meth c H locs 0 0 Q (F0 m 112 ls []) := by
    intro w H locs ls h hI hl
    have h := gk1 eK112 h
    refine lv_iconst (v := 1) hx hb d_Me_of_112 (by decide) ?_
    exact W.widen (show 0 ≤ 0 by omega) (show 0 ≤ 0 by omega) (hret _ _ (Option.some.inj h).symm _ _ _ _ d_Me_of_113 hI)
  refine lv_if_gt (tgt := 112) hx hb d_Me_of_91 (by decide) (fun c42 => ?_) (fun c42 => ?_)
  · have c42 := (lg_cmp_gt _ _).mp c42
    have h := git c42 h
    exact hK112 w H locs ls h hI (lv_sub hl [] rfl)
  · have c42 := mt (lg_cmp_gt _ _).mpr c42
    have h := gie c42 h
    refine lv_lload hx hb d_Me_of_94 (lv_at hl 1 rfl) ?_
    refine lv_lload_n hx hb d_Me_of_96 rfl (lv_at hl 4 rfl) ?_
    refine lv_lload hx hb d_Me_of_97 (lv_at hl 3 rfl) ?_
    refine lv_ladd hx hb d_Me_of_99 ?_
    refine W.lcmp hx hb d_Me_of_100 ?_
    refine lv_if_gt (tgt := 112) hx hb d_Me_of_101 (by decide) (fun c43 => ?_) (fun c43 => ?_)
    · have c43 := (lg_cmp_gt _ _).mp c43
      have h := git c43 h
      exact hK112 w H locs ls h hI (lv_sub hl [] rfl)
    · have c43 := mt (lg_cmp_gt _ _).mpr c43
      have h := gie c43 h
      refine lv_lload hx hb d_Me_of_104 (lv_at hl 0 rfl) ?_
      refine lv_lload hx hb d_Me_of_106 (lv_at hl 3 rfl) ?_
      refine W.lcmp hx hb d_Me_of_108 ?_
      refine lv_if_le (tgt := 114) hx hb d_Me_of_109 (by decide) (fun c44 => ?_) (fun c44 => ?_)
      · have c44 := (lg_cmp_le _ _).mp c44
        have h := git c44 h
        refine lv_lload hx hb d_Me_of_114 (lv_at hl 3 rfl) ?_
        refine lv_lconst (v := 0) hx hb d_Me_of_116 (by decide) ?_
        refine W.lcmp hx hb d_Me_of_117 ?_
        refine lv_if_ne (tgt := 156) hx hb d_Me_of_118 (by decide) (fun c45 => ?_) (fun c45 => ?_)
        · have c45 := mt (lg_cmp_eq _ _).mpr c45
          have h := gie c45 h
          refine lv_lload hx hb d_Me_of_156 (lv_at hl 3 rfl) ?_
          refine lv_lload hx hb d_Me_of_158 (lv_at hl 3 rfl) ?_
          refine lv_lmul hx hb d_Me_of_160 ?_
          refine lv_lload hx hb d_Me_of_161 (lv_at hl 0 rfl) ?_
          obtain ⟨u46, e47⟩ := gsome h
          refine gw_callJ e47 h (gw_runS (As := [.long v41]) (rest := [.long ((v5 + v7) * (v5 + v7))]) hx hb hml hown hT hK hZ hA hI (m_Me_squareIfAbove l D g0 v41 w u46 e47) ce_Me_squareIfAbove wd_397 ⟨by decide, by decide⟩ rfl rfl hl.1 rfl (lv_room (Nat.le_of_ble_eq_true rfl)) d_Me_of_163 ⟨(show 0 + 0 ≤ 0 by omega), (show 0 + 0 ≤ 0 by omega)⟩) hI hA hexc (show 0 + 0 ≤ 0 by omega) (show 0 + 0 ≤ 0 by omega) (fun v48 w H locs h hI => ?_)
          refine lv_lsub hx hb d_Me_of_166 ?_
          refine lv_lstore (lv' := [(12, .long (((v5 + v7) * (v5 + v7)) - v48)), (10, .long v41), (8, .long v30), (6, .long v19), (4, .long (v5 + v7)), (2, .long (v1 + v3)), (0, .ref a0), (1, .ref a1)]) hx hb d_Me_of_167 hl (by decide) rfl (fun ls hl => ?_)
          refine lv_lload_n hx hb d_Me_of_169 rfl (lv_at hl 5 rfl) ?_
          refine lv_lconst (v := 0) hx hb d_Me_of_170 (by decide) ?_
          refine W.lcmp hx hb d_Me_of_171 ?_
          refine lv_if_ne (tgt := 183) hx hb d_Me_of_172 (by decide) (fun c49 => ?_) (fun c49 => ?_)
          · have c49 := mt (lg_cmp_eq _ _).mpr c49
            have h := gie c49 h
            refine lv_lload hx hb d_Me_of_183 (lv_at hl 3 rfl) ?_
            obtain ⟨u50, e51⟩ := gsome h
            refine gw_callJ e51 h (gw_runS (As := [.long v19]) (rest := []) hx hb hml hown hT hK hZ hA hI (m_Me_squareIfAbove l D g0 v19 w u50 e51) ce_Me_squareIfAbove wd_397 ⟨by decide, by decide⟩ rfl rfl hl.1 rfl (lv_room (Nat.le_of_ble_eq_true rfl)) d_Me_of_185 ⟨(show 0 + 0 ≤ 0 by omega), (show 0 + 0 ≤ 0 by omega)⟩) hI hA hexc (show 0 + 0 ≤ 0 by omega) (show 0 + 0 ≤ 0 by omega) (fun v52 w H locs h hI => ?_)
            refine lv_lload hx hb d_Me_of_188 (lv_at hl 2 rfl) ?_
            obtain ⟨u53, e54⟩ := gsome h
            refine gw_callJ e54 h (gw_runS (As := [.long v30]) (rest := [.long v52]) hx hb hml hown hT hK hZ hA hI (m_Me_squareIfAbove l D g0 v30 w u53 e54) ce_Me_squareIfAbove wd_397 ⟨by decide, by decide⟩ rfl rfl hl.1 rfl (lv_room (Nat.le_of_ble_eq_true rfl)) d_Me_of_190 ⟨(show 0 + 0 ≤ 0 by omega), (show 0 + 0 ≤ 0 by omega)⟩) hI hA hexc (show 0 + 0 ≤ 0 by omega) (show 0 + 0 ≤ 0 by omega) (fun v55 w H locs h hI => ?_)
            refine lv_ladd hx hb d_Me_of_193 ?_
            refine lv_lload_n hx hb d_Me_of_194 rfl (lv_at hl 5 rfl) ?_
            refine lv_lload hx hb d_Me_of_195 (lv_at hl 0 rfl) ?_
            obtain ⟨u56, e57⟩ := gsome h
            refine gw_callI e57 h (gw_runS (As := [.long (v52 + v55), .long (v1 + v3), .long (((v5 + v7) * (v5 + v7)) - v48)]) (rest := []) hx hb hml hown hT hK hZ hA hI (m_Me_discAndRound l D g0 (v52 + v55) (v1 + v3) (((v5 + v7) * (v5 + v7)) - v48) w u56 e57) ce_Me_discAndRound wd_406 ⟨by decide, by decide⟩ rfl rfl hl.1 rfl (lv_room (Nat.le_of_ble_eq_true rfl)) d_Me_of_197 ⟨(show 0 + 0 ≤ 0 by omega), (show 0 + 0 ≤ 0 by omega)⟩) hI hA hexc (show 0 + 0 ≤ 0 by omega) (show 0 + 0 ≤ 0 by omega) (fun v58 w H locs h hI => ?_)
            exact W.widen (show 0 ≤ 0 by omega) (show 0 ≤ 0 by omega) (hret _ _ (Option.some.inj h).symm _ _ _ _ d_Me_of_200 hI)
          · have c49 := (lg_cmp_eq _ _).mp c49
            have h := git c49 h
            refine lv_aload_n hx hb d_Me_of_175 rfl (lv_at hl 6 rfl) ?_
            refine lv_aload_n hx hb d_Me_of_176 rfl (lv_at hl 7 rfl) ?_
            refine lv_lload hx hb d_Me_of_177 (lv_at hl 0 rfl) ?_
            obtain ⟨u59, e60⟩ := gsome h
            refine gw_callI e60 h (gw_runS (As := [.ref a0, .ref a1, .long (((v5 + v7) * (v5 + v7)) - v48)]) (rest := []) hx hb hml hown hT hK hZ hA hI (m_Me_distance l D g0 a0 a1 (((v5 + v7) * (v5 + v7)) - v48) w u59 e60) ce_Me_distance wd_391 ⟨by decide, by decide⟩ rfl rfl hl.1 rfl (lv_room (Nat.le_of_ble_eq_true rfl)) d_Me_of_179 ⟨(show 0 + 0 ≤ 0 by omega), (show 0 + 0 ≤ 0 by omega)⟩) hI hA hexc (show 0 + 0 ≤ 0 by omega) (show 0 + 0 ≤ 0 by omega) (fun v61 w H locs h hI => ?_)
            exact W.widen (show 0 ≤ 0 by omega) (show 0 ≤ 0 by omega) (hret _ _ (Option.some.inj h).symm _ _ _ _ d_Me_of_182 hI)
        · have c45 := (lg_cmp_eq _ _).mp c45
          have h := git c45 h
          refine lv_lload_n hx hb d_Me_of_121 rfl (lv_at hl 4 rfl) ?_
          refine lv_lconst (v := 0) hx hb d_Me_of_122 (by decide) ?_
          refine W.lcmp hx hb d_Me_of_123 ?_
          obtain ⟨K143, eK143, h⟩ := gj h
          have hK143 : ∀ (y62 : Int32) (w : gW) (H : Heap) (locs : List Loc) (ls : Array Slot), K143 y62 w = some r → gI D s A w H locs → lv_has ls 14 [(10, .long v41)] → W p l e rm_Me_of s m args below meth c H locs 0 0 Q (F0 m 143 ls [.int y62]) := by
            intro y62 w H locs ls h hI hl
            have h := gk2 eK143 h
            refine lv_istore (lv' := [(12, .int y62), (10, .long v41)]) hx hb d_Me_of_143 hl (by decide) rfl (fun ls hl => ?_)
            refine lv_iload hx hb d_Me_of_145 (lv_at hl 0 rfl) ?_
            refine lv_lload hx hb d_Me_of_147 (lv_at hl 1 rfl) ?_
            obtain ⟨u63, e64⟩ := gsome h
            refine gw_callI e64 h (gw_runS (As := [.long v41]) (rest := [.int y62]) hx hb hml hown hT hK hZ hA hI (m_Me_sign l D g0 v41 w u63 e64) ce_Me_sign wd_383 ⟨by decide, by decide⟩ rfl rfl hl.1 rfl (lv_room (Nat.le_of_ble_eq_true rfl)) d_Me_of_149 ⟨(show 0 + 0 ≤ 0 by omega), (show 0 + 0 ≤ 0 by omega)⟩) hI hA hexc (show 0 + 0 ≤ 0 by omega) (show 0 + 0 ≤ 0 by omega) (fun v65 w H locs h hI => ?_)
            obtain ⟨u66, e67⟩ := gsome h
            refine gw_callI e67 h (gw_runS (As := [.int y62, .int v65]) (rest := []) hx hb hml hown hT hK hZ hA hI (m_Ma_max l D g0 y62 v65 w u66 e67) ce_Ma_max wd_390 ⟨by decide, by decide⟩ rfl rfl hl.1 rfl (lv_room (Nat.le_of_ble_eq_true rfl)) d_Me_of_152 ⟨(show 0 + 0 ≤ 0 by omega), (show 0 + 0 ≤ 0 by omega)⟩) hI hA hexc (show 0 + 0 ≤ 0 by omega) (show 0 + 0 ≤ 0 by omega) (fun v68 w H locs h hI => ?_)
            exact W.widen (show 0 ≤ 0 by omega) (show 0 ≤ 0 by omega) (hret _ _ (Option.some.inj h).symm _ _ _ _ d_Me_of_155 hI)
          refine lv_if_ne (tgt := 135) hx hb d_Me_of_124 (by decide) (fun c69 => ?_) (fun c69 => ?_)
          · have c69 := mt (lg_cmp_eq _ _).mpr c69
            have h := gie c69 h
            refine lv_aload_n hx hb d_Me_of_135 rfl (lv_at hl 5 rfl) ?_
            refine lv_aload_n hx hb d_Me_of_136 rfl (lv_at hl 6 rfl) ?_
            refine lv_lload_n hx hb d_Me_of_137 rfl (lv_at hl 4 rfl) ?_
            refine lv_lload_n hx hb d_Me_of_138 rfl (lv_at hl 4 rfl) ?_
            refine lv_lmul hx hb d_Me_of_139 ?_
            obtain ⟨u70, e71⟩ := gsome h
            refine gw_callI e71 h (gw_runS (As := [.ref a0, .ref a1, .long ((v1 + v3) * (v1 + v3))]) (rest := []) hx hb hml hown hT hK hZ hA hI (m_Me_distance l D g0 a0 a1 ((v1 + v3) * (v1 + v3)) w u70 e71) ce_Me_distance wd_391 ⟨by decide, by decide⟩ rfl rfl hl.1 rfl (lv_room (Nat.le_of_ble_eq_true rfl)) d_Me_of_140 ⟨(show 0 + 0 ≤ 0 by omega), (show 0 + 0 ≤ 0 by omega)⟩) hI hA hexc (show 0 + 0 ≤ 0 by omega) (show 0 + 0 ≤ 0 by omega) (fun v72 w H locs h hI => ?_)
            exact hK143 _ w H locs ls h hI (lv_sub hl [0] rfl)
          · have c69 := (lg_cmp_eq _ _).mp c69
            have h := git c69 h
            refine lv_aload_n hx hb d_Me_of_127 rfl (lv_at hl 5 rfl) ?_
            refine lv_aload_n hx hb d_Me_of_128 rfl (lv_at hl 6 rfl) ?_
            obtain ⟨u73, e74⟩ := gsome h
            refine gw_callI e74 h (gw_runS (As := [.ref a0, .ref a1]) (rest := []) hx hb hml hown hT hK hZ hA hI (m_Me_outlines l D g0 a0 a1 w u73 e74) ce_Me_outlines wd_380 ⟨by decide, by decide⟩ rfl rfl hl.1 rfl (lv_room (Nat.le_of_ble_eq_true rfl)) d_Me_of_129 ⟨(show 0 + 0 ≤ 0 by omega), (show 0 + 0 ≤ 0 by omega)⟩) hI hA hexc (show 0 + 0 ≤ 0 by omega) (show 0 + 0 ≤ 0 by omega) (fun v75 w H locs h hI => ?_)
            refine lv_goto (tgt := 143) hx hb d_Me_of_132 (by decide) ?_
            exact hK143 _ w H locs ls h hI (lv_sub hl [0] rfl)
      · have c44 := mt (lg_cmp_le _ _).mpr c44
        have h := gie c44 h
        exact hK112 w H locs ls h hI (lv_sub hl [] rfl)
end
