section
-- ===== PART A: goes FIRST, ahead of the names: the tables' words, and 'selects' of the private methods out of them =====
/-- a private method of a class that the tables say can be made, by its rows of tables_1 -/
def lw_okq (q : MethodName × Nat) : Prop := (q.1.cls ≠ "java/lang/invoke/MethodHandle" ∧ q.1.cls ≠ "java/lang/invoke/VarHandle") ∧ Cond.instantiable q.1.cls q.2 ∈ tables_1 ∧ Cond.privateMethod q.1 ∈ tables_1 ∧ Cond.instanceMethod q.1 ∈ tables_1
theorem lw_p0 : lw_okq (⟨"BodySolids", "addBody", "(LBodySolids$Body;)I"⟩, 10) := ⟨⟨by decide +kernel, by decide +kernel⟩, List.mem_of_getElem? (i := 25) (by decide +kernel), List.mem_of_getElem? (i := 199) (by decide +kernel), List.mem_of_getElem? (i := 200) (by decide +kernel)⟩
theorem lw_p1 : lw_okq (⟨"java/util/ArrayList", "add", "(Ljava/lang/Object;[Ljava/lang/Object;I)V"⟩, 3) := ⟨⟨by decide +kernel, by decide +kernel⟩, List.mem_of_getElem? (i := 40) (by decide +kernel), List.mem_of_getElem? (i := 207) (by decide +kernel), List.mem_of_getElem? (i := 208) (by decide +kernel)⟩
theorem lw_p2 : lw_okq (⟨"java/util/ArrayList", "grow", "()[Ljava/lang/Object;"⟩, 3) := ⟨⟨by decide +kernel, by decide +kernel⟩, List.mem_of_getElem? (i := 40) (by decide +kernel), List.mem_of_getElem? (i := 211) (by decide +kernel), List.mem_of_getElem? (i := 212) (by decide +kernel)⟩
theorem lw_p3 : lw_okq (⟨"java/util/ArrayList", "grow", "(I)[Ljava/lang/Object;"⟩, 3) := ⟨⟨by decide +kernel, by decide +kernel⟩, List.mem_of_getElem? (i := 40) (by decide +kernel), List.mem_of_getElem? (i := 215) (by decide +kernel), List.mem_of_getElem? (i := 216) (by decide +kernel)⟩
theorem lw_p4 : lw_okq (⟨"BodySolids", "relation", "(II)I"⟩, 10) := ⟨⟨by decide +kernel, by decide +kernel⟩, List.mem_of_getElem? (i := 25) (by decide +kernel), List.mem_of_getElem? (i := 265) (by decide +kernel), List.mem_of_getElem? (i := 266) (by decide +kernel)⟩
theorem lw_p5 : lw_okq (⟨"BodySolids", "relationOfLayouts", "()I"⟩, 10) := ⟨⟨by decide +kernel, by decide +kernel⟩, List.mem_of_getElem? (i := 25) (by decide +kernel), List.mem_of_getElem? (i := 322) (by decide +kernel), List.mem_of_getElem? (i := 323) (by decide +kernel)⟩
theorem lw_p6 : lw_okq (⟨"BodySolids", "breaksSome", "(LBodySolids$Placement;)Z"⟩, 10) := ⟨⟨by decide +kernel, by decide +kernel⟩, List.mem_of_getElem? (i := 25) (by decide +kernel), List.mem_of_getElem? (i := 367) (by decide +kernel), List.mem_of_getElem? (i := 368) (by decide +kernel)⟩
theorem lw_p7 : lw_okq (⟨"BodySolids", "bodyAt", "(I)LBodySolids$Body;"⟩, 10) := ⟨⟨by decide +kernel, by decide +kernel⟩, List.mem_of_getElem? (i := 25) (by decide +kernel), List.mem_of_getElem? (i := 389) (by decide +kernel), List.mem_of_getElem? (i := 390) (by decide +kernel)⟩
theorem lw_p8 : lw_okq (⟨"java/lang/Throwable", "fillInStackTrace", "(I)Ljava/lang/Throwable;"⟩, 6) := ⟨⟨by decide +kernel, by decide +kernel⟩, List.mem_of_getElem? (i := 434) (by decide +kernel), List.mem_of_getElem? (i := 432) (by decide +kernel), List.mem_of_getElem? (i := 433) (by decide +kernel)⟩
theorem lw_p9 : lw_okq (⟨"BodySolids", "forgetRelationsOf", "(LBodySolids$Body;)V"⟩, 10) := ⟨⟨by decide +kernel, by decide +kernel⟩, List.mem_of_getElem? (i := 25) (by decide +kernel), List.mem_of_getElem? (i := 513) (by decide +kernel), List.mem_of_getElem? (i := 514) (by decide +kernel)⟩
theorem lw_p10 : lw_okq (⟨"BodySolids", "forgetRelationsAt", "(I)V"⟩, 10) := ⟨⟨by decide +kernel, by decide +kernel⟩, List.mem_of_getElem? (i := 25) (by decide +kernel), List.mem_of_getElem? (i := 517) (by decide +kernel), List.mem_of_getElem? (i := 518) (by decide +kernel)⟩
theorem lw_p11 : lw_okq (⟨"BodySolids", "cornersMakePolygon", "()Z"⟩, 10) := ⟨⟨by decide +kernel, by decide +kernel⟩, List.mem_of_getElem? (i := 25) (by decide +kernel), List.mem_of_getElem? (i := 544) (by decide +kernel), List.mem_of_getElem? (i := 545) (by decide +kernel)⟩
theorem lw_p12 : lw_okq (⟨"BodySolids", "othersLieLeftOfSide", "(II)Z"⟩, 10) := ⟨⟨by decide +kernel, by decide +kernel⟩, List.mem_of_getElem? (i := 25) (by decide +kernel), List.mem_of_getElem? (i := 548) (by decide +kernel), List.mem_of_getElem? (i := 549) (by decide +kernel)⟩
theorem lw_p13 : lw_okq (⟨"BodySolids", "turnAt", "(III)J"⟩, 10) := ⟨⟨by decide +kernel, by decide +kernel⟩, List.mem_of_getElem? (i := 25) (by decide +kernel), List.mem_of_getElem? (i := 552) (by decide +kernel), List.mem_of_getElem? (i := 553) (by decide +kernel)⟩
theorem lw_p14 : lw_okq (⟨"BodySolids", "twiceAreaOfCorners", "()J"⟩, 10) := ⟨⟨by decide +kernel, by decide +kernel⟩, List.mem_of_getElem? (i := 25) (by decide +kernel), List.mem_of_getElem? (i := 557) (by decide +kernel), List.mem_of_getElem? (i := 558) (by decide +kernel)⟩
theorem lw_p15 : lw_okq (⟨"BodySolids", "placementAt", "(I)LBodySolids$Placement;"⟩, 10) := ⟨⟨by decide +kernel, by decide +kernel⟩, List.mem_of_getElem? (i := 25) (by decide +kernel), List.mem_of_getElem? (i := 635) (by decide +kernel), List.mem_of_getElem? (i := 636) (by decide +kernel)⟩
def lw_privs_1 : List (MethodName × Nat) := [(⟨"BodySolids", "addBody", "(LBodySolids$Body;)I"⟩, 10), (⟨"java/util/ArrayList", "add", "(Ljava/lang/Object;[Ljava/lang/Object;I)V"⟩, 3), (⟨"java/util/ArrayList", "grow", "()[Ljava/lang/Object;"⟩, 3), (⟨"java/util/ArrayList", "grow", "(I)[Ljava/lang/Object;"⟩, 3), (⟨"BodySolids", "relation", "(II)I"⟩, 10), (⟨"BodySolids", "relationOfLayouts", "()I"⟩, 10), (⟨"BodySolids", "breaksSome", "(LBodySolids$Placement;)Z"⟩, 10), (⟨"BodySolids", "bodyAt", "(I)LBodySolids$Body;"⟩, 10), (⟨"java/lang/Throwable", "fillInStackTrace", "(I)Ljava/lang/Throwable;"⟩, 6), (⟨"BodySolids", "forgetRelationsOf", "(LBodySolids$Body;)V"⟩, 10), (⟨"BodySolids", "forgetRelationsAt", "(I)V"⟩, 10), (⟨"BodySolids", "cornersMakePolygon", "()Z"⟩, 10), (⟨"BodySolids", "othersLieLeftOfSide", "(II)Z"⟩, 10), (⟨"BodySolids", "turnAt", "(III)J"⟩, 10), (⟨"BodySolids", "twiceAreaOfCorners", "()J"⟩, 10), (⟨"BodySolids", "placementAt", "(I)LBodySolids$Placement;"⟩, 10)]
theorem lw_r1 : ∀ q ∈ lw_privs_1, lw_okq q := List.forall_mem_cons.mpr ⟨lw_p0, List.forall_mem_cons.mpr ⟨lw_p1, List.forall_mem_cons.mpr ⟨lw_p2, List.forall_mem_cons.mpr ⟨lw_p3, List.forall_mem_cons.mpr ⟨lw_p4, List.forall_mem_cons.mpr ⟨lw_p5, List.forall_mem_cons.mpr ⟨lw_p6, List.forall_mem_cons.mpr ⟨lw_p7, List.forall_mem_cons.mpr ⟨lw_p8, List.forall_mem_cons.mpr ⟨lw_p9, List.forall_mem_cons.mpr ⟨lw_p10, List.forall_mem_cons.mpr ⟨lw_p11, List.forall_mem_cons.mpr ⟨lw_p12, List.forall_mem_cons.mpr ⟨lw_p13, List.forall_mem_cons.mpr ⟨lw_p14, List.forall_mem_cons.mpr ⟨lw_p15, fun _ h => absurd h List.not_mem_nil⟩⟩⟩⟩⟩⟩⟩⟩⟩⟩⟩⟩⟩⟩⟩⟩
theorem lw_p16 : lw_okq (⟨"BodySolids", "sectionAnswer", "(III)J"⟩, 10) := ⟨⟨by decide +kernel, by decide +kernel⟩, List.mem_of_getElem? (i := 25) (by decide +kernel), List.mem_of_getElem? (i := 720) (by decide +kernel), List.mem_of_getElem? (i := 721) (by decide +kernel)⟩
theorem lw_p17 : lw_okq (⟨"BodySolidsModel", "isBody", "(I)Z"⟩, 27) := ⟨⟨by decide +kernel, by decide +kernel⟩, List.mem_of_getElem? (i := 732) (by decide +kernel), List.mem_of_getElem? (i := 843) (by decide +kernel), List.mem_of_getElem? (i := 844) (by decide +kernel)⟩
theorem lw_p18 : lw_okq (⟨"BodySolidsModel", "fresh", "(II)I"⟩, 27) := ⟨⟨by decide +kernel, by decide +kernel⟩, List.mem_of_getElem? (i := 732) (by decide +kernel), List.mem_of_getElem? (i := 847) (by decide +kernel), List.mem_of_getElem? (i := 848) (by decide +kernel)⟩
theorem lw_p19 : lw_okq (⟨"BodySolidsModel", "tell", "(IIJ)V"⟩, 27) := ⟨⟨by decide +kernel, by decide +kernel⟩, List.mem_of_getElem? (i := 732) (by decide +kernel), List.mem_of_getElem? (i := 851) (by decide +kernel), List.mem_of_getElem? (i := 852) (by decide +kernel)⟩
theorem lw_p20 : lw_okq (⟨"BodySolidsModel", "isRound", "()Z"⟩, 27) := ⟨⟨by decide +kernel, by decide +kernel⟩, List.mem_of_getElem? (i := 732) (by decide +kernel), List.mem_of_getElem? (i := 867) (by decide +kernel), List.mem_of_getElem? (i := 868) (by decide +kernel)⟩
theorem lw_p21 : lw_okq (⟨"BodySolidsModel", "copy", "(II)V"⟩, 27) := ⟨⟨by decide +kernel, by decide +kernel⟩, List.mem_of_getElem? (i := 732) (by decide +kernel), List.mem_of_getElem? (i := 885) (by decide +kernel), List.mem_of_getElem? (i := 886) (by decide +kernel)⟩
theorem lw_p22 : lw_okq (⟨"BodySolidsModel", "set", "(IJJII)V"⟩, 27) := ⟨⟨by decide +kernel, by decide +kernel⟩, List.mem_of_getElem? (i := 732) (by decide +kernel), List.mem_of_getElem? (i := 896) (by decide +kernel), List.mem_of_getElem? (i := 897) (by decide +kernel)⟩
theorem lw_p23 : lw_okq (⟨"BodySolidsModel", "isPlaced", "(I)Z"⟩, 27) := ⟨⟨by decide +kernel, by decide +kernel⟩, List.mem_of_getElem? (i := 732) (by decide +kernel), List.mem_of_getElem? (i := 904) (by decide +kernel), List.mem_of_getElem? (i := 905) (by decide +kernel)⟩
theorem lw_p24 : lw_okq (⟨"BodySolidsModel", "meet", "(II)I"⟩, 27) := ⟨⟨by decide +kernel, by decide +kernel⟩, List.mem_of_getElem? (i := 732) (by decide +kernel), List.mem_of_getElem? (i := 912) (by decide +kernel), List.mem_of_getElem? (i := 913) (by decide +kernel)⟩
theorem lw_p25 : lw_okq (⟨"BodySolidsModel", "lay", "(III)V"⟩, 27) := ⟨⟨by decide +kernel, by decide +kernel⟩, List.mem_of_getElem? (i := 732) (by decide +kernel), List.mem_of_getElem? (i := 916) (by decide +kernel), List.mem_of_getElem? (i := 917) (by decide +kernel)⟩
theorem lw_p26 : lw_okq (⟨"BodySolidsModel", "of", "(II)J"⟩, 27) := ⟨⟨by decide +kernel, by decide +kernel⟩, List.mem_of_getElem? (i := 732) (by decide +kernel), List.mem_of_getElem? (i := 920) (by decide +kernel), List.mem_of_getElem? (i := 921) (by decide +kernel)⟩
theorem lw_p27 : lw_okq (⟨"BodySolidsModel", "spot", "(IIIJJ)V"⟩, 27) := ⟨⟨by decide +kernel, by decide +kernel⟩, List.mem_of_getElem? (i := 732) (by decide +kernel), List.mem_of_getElem? (i := 924) (by decide +kernel), List.mem_of_getElem? (i := 925) (by decide +kernel)⟩
theorem lw_p28 : lw_okq (⟨"BodySolidsModel", "xOf", "(IJJ)J"⟩, 27) := ⟨⟨by decide +kernel, by decide +kernel⟩, List.mem_of_getElem? (i := 732) (by decide +kernel), List.mem_of_getElem? (i := 928) (by decide +kernel), List.mem_of_getElem? (i := 929) (by decide +kernel)⟩
theorem lw_p29 : lw_okq (⟨"BodySolidsModel", "yOf", "(IJJ)J"⟩, 27) := ⟨⟨by decide +kernel, by decide +kernel⟩, List.mem_of_getElem? (i := 732) (by decide +kernel), List.mem_of_getElem? (i := 932) (by decide +kernel), List.mem_of_getElem? (i := 933) (by decide +kernel)⟩
theorem lw_p30 : lw_okq (⟨"BodySolidsModel", "point", "(IIJJ)V"⟩, 27) := ⟨⟨by decide +kernel, by decide +kernel⟩, List.mem_of_getElem? (i := 732) (by decide +kernel), List.mem_of_getElem? (i := 936) (by decide +kernel), List.mem_of_getElem? (i := 937) (by decide +kernel)⟩
theorem lw_p31 : lw_okq (⟨"BodySolidsModel", "zOf", "(IJ)J"⟩, 27) := ⟨⟨by decide +kernel, by decide +kernel⟩, List.mem_of_getElem? (i := 732) (by decide +kernel), List.mem_of_getElem? (i := 940) (by decide +kernel), List.mem_of_getElem? (i := 941) (by decide +kernel)⟩
def lw_privs_2 : List (MethodName × Nat) := [(⟨"BodySolids", "sectionAnswer", "(III)J"⟩, 10), (⟨"BodySolidsModel", "isBody", "(I)Z"⟩, 27), (⟨"BodySolidsModel", "fresh", "(II)I"⟩, 27), (⟨"BodySolidsModel", "tell", "(IIJ)V"⟩, 27), (⟨"BodySolidsModel", "isRound", "()Z"⟩, 27), (⟨"BodySolidsModel", "copy", "(II)V"⟩, 27), (⟨"BodySolidsModel", "set", "(IJJII)V"⟩, 27), (⟨"BodySolidsModel", "isPlaced", "(I)Z"⟩, 27), (⟨"BodySolidsModel", "meet", "(II)I"⟩, 27), (⟨"BodySolidsModel", "lay", "(III)V"⟩, 27), (⟨"BodySolidsModel", "of", "(II)J"⟩, 27), (⟨"BodySolidsModel", "spot", "(IIIJJ)V"⟩, 27), (⟨"BodySolidsModel", "xOf", "(IJJ)J"⟩, 27), (⟨"BodySolidsModel", "yOf", "(IJJ)J"⟩, 27), (⟨"BodySolidsModel", "point", "(IIJJ)V"⟩, 27), (⟨"BodySolidsModel", "zOf", "(IJ)J"⟩, 27)]
theorem lw_r2 : ∀ q ∈ lw_privs_2, lw_okq q := List.forall_mem_cons.mpr ⟨lw_p16, List.forall_mem_cons.mpr ⟨lw_p17, List.forall_mem_cons.mpr ⟨lw_p18, List.forall_mem_cons.mpr ⟨lw_p19, List.forall_mem_cons.mpr ⟨lw_p20, List.forall_mem_cons.mpr ⟨lw_p21, List.forall_mem_cons.mpr ⟨lw_p22, List.forall_mem_cons.mpr ⟨lw_p23, List.forall_mem_cons.mpr ⟨lw_p24, List.forall_mem_cons.mpr ⟨lw_p25, List.forall_mem_cons.mpr ⟨lw_p26, List.forall_mem_cons.mpr ⟨lw_p27, List.forall_mem_cons.mpr ⟨lw_p28, List.forall_mem_cons.mpr ⟨lw_p29, List.forall_mem_cons.mpr ⟨lw_p30, List.forall_mem_cons.mpr ⟨lw_p31, fun _ h => absurd h List.not_mem_nil⟩⟩⟩⟩⟩⟩⟩⟩⟩⟩⟩⟩⟩⟩⟩⟩
theorem lw_p32 : lw_okq (⟨"BodySolidsModel", "heights", "(IJJ)V"⟩, 27) := ⟨⟨by decide +kernel, by decide +kernel⟩, List.mem_of_getElem? (i := 732) (by decide +kernel), List.mem_of_getElem? (i := 945) (by decide +kernel), List.mem_of_getElem? (i := 946) (by decide +kernel)⟩
theorem lw_p33 : lw_okq (⟨"BodySolidsModel", "both", "()I"⟩, 27) := ⟨⟨by decide +kernel, by decide +kernel⟩, List.mem_of_getElem? (i := 732) (by decide +kernel), List.mem_of_getElem? (i := 949) (by decide +kernel), List.mem_of_getElem? (i := 950) (by decide +kernel)⟩
theorem lw_p34 : lw_okq (⟨"BodySolidsModel", "tubes", "()I"⟩, 27) := ⟨⟨by decide +kernel, by decide +kernel⟩, List.mem_of_getElem? (i := 732) (by decide +kernel), List.mem_of_getElem? (i := 953) (by decide +kernel), List.mem_of_getElem? (i := 954) (by decide +kernel)⟩
theorem lw_p35 : lw_okq (⟨"BodySolidsModel", "heightGap", "()J"⟩, 27) := ⟨⟨by decide +kernel, by decide +kernel⟩, List.mem_of_getElem? (i := 732) (by decide +kernel), List.mem_of_getElem? (i := 963) (by decide +kernel), List.mem_of_getElem? (i := 964) (by decide +kernel)⟩
theorem lw_p36 : lw_okq (⟨"BodySolidsModel", "coreGap", "(IZJJ)J"⟩, 27) := ⟨⟨by decide +kernel, by decide +kernel⟩, List.mem_of_getElem? (i := 732) (by decide +kernel), List.mem_of_getElem? (i := 970) (by decide +kernel), List.mem_of_getElem? (i := 971) (by decide +kernel)⟩
theorem lw_p37 : lw_okq (⟨"BodySolidsModel", "coreAndDisc", "(IJ)I"⟩, 27) := ⟨⟨by decide +kernel, by decide +kernel⟩, List.mem_of_getElem? (i := 732) (by decide +kernel), List.mem_of_getElem? (i := 980) (by decide +kernel), List.mem_of_getElem? (i := 981) (by decide +kernel)⟩
theorem lw_p38 : lw_okq (⟨"BodySolidsModel", "coreAndPolygon", "(IJ)I"⟩, 27) := ⟨⟨by decide +kernel, by decide +kernel⟩, List.mem_of_getElem? (i := 732) (by decide +kernel), List.mem_of_getElem? (i := 985) (by decide +kernel), List.mem_of_getElem? (i := 986) (by decide +kernel)⟩
theorem lw_p39 : lw_okq (⟨"BodySolidsModel", "fromPolygon", "(IJJJ)I"⟩, 27) := ⟨⟨by decide +kernel, by decide +kernel⟩, List.mem_of_getElem? (i := 732) (by decide +kernel), List.mem_of_getElem? (i := 989) (by decide +kernel), List.mem_of_getElem? (i := 990) (by decide +kernel)⟩
theorem lw_p40 : lw_okq (⟨"BodySolidsModel", "isIn", "(IJJ)Z"⟩, 27) := ⟨⟨by decide +kernel, by decide +kernel⟩, List.mem_of_getElem? (i := 732) (by decide +kernel), List.mem_of_getElem? (i := 993) (by decide +kernel), List.mem_of_getElem? (i := 994) (by decide +kernel)⟩
theorem lw_p41 : lw_okq (⟨"BodySolidsModel", "bases", "()I"⟩, 27) := ⟨⟨by decide +kernel, by decide +kernel⟩, List.mem_of_getElem? (i := 732) (by decide +kernel), List.mem_of_getElem? (i := 1004) (by decide +kernel), List.mem_of_getElem? (i := 1005) (by decide +kernel)⟩
theorem lw_p42 : lw_okq (⟨"BodySolidsModel", "polygons", "()I"⟩, 27) := ⟨⟨by decide +kernel, by decide +kernel⟩, List.mem_of_getElem? (i := 732) (by decide +kernel), List.mem_of_getElem? (i := 1008) (by decide +kernel), List.mem_of_getElem? (i := 1009) (by decide +kernel)⟩
theorem lw_p43 : lw_okq (⟨"BodySolidsModel", "along", "(JJ)I"⟩, 27) := ⟨⟨by decide +kernel, by decide +kernel⟩, List.mem_of_getElem? (i := 732) (by decide +kernel), List.mem_of_getElem? (i := 1012) (by decide +kernel), List.mem_of_getElem? (i := 1013) (by decide +kernel)⟩
theorem lw_p44 : lw_okq (⟨"BodySolidsModel", "doesBreak", "(I)Z"⟩, 27) := ⟨⟨by decide +kernel, by decide +kernel⟩, List.mem_of_getElem? (i := 732) (by decide +kernel), List.mem_of_getElem? (i := 1037) (by decide +kernel), List.mem_of_getElem? (i := 1038) (by decide +kernel)⟩
theorem lw_p45 : lw_okq (⟨"BodySolidsModel", "layOut", "(I)V"⟩, 27) := ⟨⟨by decide +kernel, by decide +kernel⟩, List.mem_of_getElem? (i := 732) (by decide +kernel), List.mem_of_getElem? (i := 1041) (by decide +kernel), List.mem_of_getElem? (i := 1042) (by decide +kernel)⟩
theorem lw_p46 : lw_okq (⟨"BodySolidsModel", "edge", "(I)J"⟩, 27) := ⟨⟨by decide +kernel, by decide +kernel⟩, List.mem_of_getElem? (i := 732) (by decide +kernel), List.mem_of_getElem? (i := 1051) (by decide +kernel), List.mem_of_getElem? (i := 1052) (by decide +kernel)⟩
theorem lw_p47 : lw_okq (⟨"BodySolidsModel", "volume", "(I)J"⟩, 27) := ⟨⟨by decide +kernel, by decide +kernel⟩, List.mem_of_getElem? (i := 732) (by decide +kernel), List.mem_of_getElem? (i := 1063) (by decide +kernel), List.mem_of_getElem? (i := 1064) (by decide +kernel)⟩
def lw_privs_3 : List (MethodName × Nat) := [(⟨"BodySolidsModel", "heights", "(IJJ)V"⟩, 27), (⟨"BodySolidsModel", "both", "()I"⟩, 27), (⟨"BodySolidsModel", "tubes", "()I"⟩, 27), (⟨"BodySolidsModel", "heightGap", "()J"⟩, 27), (⟨"BodySolidsModel", "coreGap", "(IZJJ)J"⟩, 27), (⟨"BodySolidsModel", "coreAndDisc", "(IJ)I"⟩, 27), (⟨"BodySolidsModel", "coreAndPolygon", "(IJ)I"⟩, 27), (⟨"BodySolidsModel", "fromPolygon", "(IJJJ)I"⟩, 27), (⟨"BodySolidsModel", "isIn", "(IJJ)Z"⟩, 27), (⟨"BodySolidsModel", "bases", "()I"⟩, 27), (⟨"BodySolidsModel", "polygons", "()I"⟩, 27), (⟨"BodySolidsModel", "along", "(JJ)I"⟩, 27), (⟨"BodySolidsModel", "doesBreak", "(I)Z"⟩, 27), (⟨"BodySolidsModel", "layOut", "(I)V"⟩, 27), (⟨"BodySolidsModel", "edge", "(I)J"⟩, 27), (⟨"BodySolidsModel", "volume", "(I)J"⟩, 27)]
theorem lw_r3 : ∀ q ∈ lw_privs_3, lw_okq q := List.forall_mem_cons.mpr ⟨lw_p32, List.forall_mem_cons.mpr ⟨lw_p33, List.forall_mem_cons.mpr ⟨lw_p34, List.forall_mem_cons.mpr ⟨lw_p35, List.forall_mem_cons.mpr ⟨lw_p36, List.forall_mem_cons.mpr ⟨lw_p37, List.forall_mem_cons.mpr ⟨lw_p38, List.forall_mem_cons.mpr ⟨lw_p39, List.forall_mem_cons.mpr ⟨lw_p40, List.forall_mem_cons.mpr ⟨lw_p41, List.forall_mem_cons.mpr ⟨lw_p42, List.forall_mem_cons.mpr ⟨lw_p43, List.forall_mem_cons.mpr ⟨lw_p44, List.forall_mem_cons.mpr ⟨lw_p45, List.forall_mem_cons.mpr ⟨lw_p46, List.forall_mem_cons.mpr ⟨lw_p47, fun _ h => absurd h List.not_mem_nil⟩⟩⟩⟩⟩⟩⟩⟩⟩⟩⟩⟩⟩⟩⟩⟩
def lw_privs : List (MethodName × Nat) := lw_privs_1 ++ (lw_privs_2 ++ (lw_privs_3))
def lw_tbl : List Cond := k2_sels lw_privs ++ tables_1
theorem lw_privs_ok : ∀ q ∈ lw_privs, lw_okq q := by
  show ∀ q ∈ lw_privs_1 ++ (lw_privs_2 ++ (lw_privs_3)), lw_okq q
  exact List.forall_mem_append.mpr ⟨lw_r1, List.forall_mem_append.mpr ⟨lw_r2, lw_r3⟩⟩

def R0 : String := "BodySolids"
def T0 : u_T := fun k => match k with
  | 0 => ("BodySolids", "thickness", "J", true)
  | 1 => ("BodySolids", "bodies", "Ljava/util/ArrayList;", true)
  | 2 => ("BodySolids", "placements", "Ljava/util/ArrayList;", true)
  | 3 => ("BodySolids", "keepOuts", "Ljava/util/ArrayList;", true)
  | 4 => ("BodySolids", "cornerX", "[J", true)
  | 5 => ("BodySolids", "cornerY", "[J", true)
  | 6 => ("BodySolids", "corners", "I", false)
  | 7 => ("BodySolids", "relations", "[I", true)
  | 8 => ("BodySolids", "first", "LBodySolids$Layout;", true)
  | _ => ("BodySolids", "second", "LBodySolids$Layout;", true)
def t_0 : Nat → FieldType := fun k => match k with
  | 0 => .long
  | 1 => .object "java/util/ArrayList"
  | 2 => .object "java/util/ArrayList"
  | 3 => .object "java/util/ArrayList"
  | 4 => .array .long
  | 5 => .array .long
  | 6 => .int
  | 7 => .array .int
  | 8 => .object "BodySolids$Layout"
  | _ => .object "BodySolids$Layout"
theorem n_0 : ∀ a, a < 10 → ∀ b, b < 10 → a ≠ b → (T0 a).2.1 ≠ (T0 b).2.1 := by decide +kernel
theorem t_0_ok : ∀ k, k < 10 → parseFieldDescriptor (T0 k).2.2.1 = some (t_0 k) := by decide +kernel
def R1 : String := "java/util/ArrayList"
def T1 : u_T := fun k => match k with
  | 0 => ("java/util/ArrayList", "elementData", "[Ljava/lang/Object;", false)
  | 1 => ("java/util/ArrayList", "size", "I", false)
  | _ => ("java/util/AbstractList", "modCount", "I", false)
def t_1 : Nat → FieldType := fun k => match k with
  | 0 => .array (.object "java/lang/Object")
  | 1 => .int
  | _ => .int
theorem n_1 : ∀ a, a < 3 → ∀ b, b < 3 → a ≠ b → (T1 a).2.1 ≠ (T1 b).2.1 := by decide +kernel
theorem t_1_ok : ∀ k, k < 3 → parseFieldDescriptor (T1 k).2.2.1 = some (t_1 k) := by decide +kernel
def R2 : String := "BodySolids$Layout"
def T2 : u_T := fun k => match k with
  | 0 => ("BodySolids$Layout", "solids", "[LBodySolids$Solid;", true)
  | _ => ("BodySolids$Layout", "count", "I", false)
def t_2 : Nat → FieldType := fun k => match k with
  | 0 => .array (.object "BodySolids$Solid")
  | _ => .int
theorem n_2 : ∀ a, a < 2 → ∀ b, b < 2 → a ≠ b → (T2 a).2.1 ≠ (T2 b).2.1 := by decide +kernel
theorem t_2_ok : ∀ k, k < 2 → parseFieldDescriptor (T2 k).2.2.1 = some (t_2 k) := by decide +kernel
def R3 : String := "BodySolids$Solid"
def T3 : u_T := fun k => match k with
  | 0 => ("BodySolids$Solid", "kind", "I", false)
  | 1 => ("BodySolids$Solid", "flat", "J", false)
  | 2 => ("BodySolids$Solid", "round", "J", false)
  | 3 => ("BodySolids$Solid", "xs", "[J", true)
  | 4 => ("BodySolids$Solid", "ys", "[J", true)
  | 5 => ("BodySolids$Solid", "corners", "I", false)
  | 6 => ("BodySolids$Solid", "x0", "J", false)
  | 7 => ("BodySolids$Solid", "y0", "J", false)
  | 8 => ("BodySolids$Solid", "z0", "J", false)
  | 9 => ("BodySolids$Solid", "x1", "J", false)
  | 10 => ("BodySolids$Solid", "y1", "J", false)
  | _ => ("BodySolids$Solid", "z1", "J", false)
def t_3 : Nat → FieldType := fun k => match k with
  | 0 => .int
  | 1 => .long
  | 2 => .long
  | 3 => .array .long
  | 4 => .array .long
  | 5 => .int
  | 6 => .long
  | 7 => .long
  | 8 => .long
  | 9 => .long
  | 10 => .long
  | _ => .long
theorem n_3 : ∀ a, a < 12 → ∀ b, b < 12 → a ≠ b → (T3 a).2.1 ≠ (T3 b).2.1 := by decide +kernel
theorem t_3_ok : ∀ k, k < 12 → parseFieldDescriptor (T3 k).2.2.1 = some (t_3 k) := by decide +kernel
def R4 : String := "BodySolids$Body"
def T4 : u_T := fun k => match k with
  | 0 => ("BodySolids$Body", "solids", "Ljava/util/ArrayList;", true)
  | _ => ("BodySolids$Body", "weight", "J", false)
def t_4 : Nat → FieldType := fun k => match k with
  | 0 => .object "java/util/ArrayList"
  | _ => .long
theorem n_4 : ∀ a, a < 2 → ∀ b, b < 2 → a ≠ b → (T4 a).2.1 ≠ (T4 b).2.1 := by decide +kernel
theorem t_4_ok : ∀ k, k < 2 → parseFieldDescriptor (T4 k).2.2.1 = some (t_4 k) := by decide +kernel
def R5 : String := "BodySolids$Placement"
def T5 : u_T := fun k => match k with
  | 0 => ("BodySolids$Placement", "body", "LBodySolids$Body;", true)
  | 1 => ("BodySolids$Placement", "x", "J", false)
  | 2 => ("BodySolids$Placement", "y", "J", false)
  | 3 => ("BodySolids$Placement", "turn", "I", false)
  | _ => ("BodySolids$Placement", "side", "I", false)
def t_5 : Nat → FieldType := fun k => match k with
  | 0 => .object "BodySolids$Body"
  | 1 => .long
  | 2 => .long
  | 3 => .int
  | _ => .int
theorem n_5 : ∀ a, a < 5 → ∀ b, b < 5 → a ≠ b → (T5 a).2.1 ≠ (T5 b).2.1 := by decide +kernel
theorem t_5_ok : ∀ k, k < 5 → parseFieldDescriptor (T5 k).2.2.1 = some (t_5 k) := by decide +kernel
def R6 : String := "BodySolids$KeepOut"
def T6 : u_T := fun k => match k with
  | 0 => ("BodySolids$KeepOut", "space", "LBodySolids$Solid;", true)
  | _ => ("BodySolids$KeepOut", "side", "I", true)
def t_6 : Nat → FieldType := fun k => match k with
  | 0 => .object "BodySolids$Solid"
  | _ => .int
theorem n_6 : ∀ a, a < 2 → ∀ b, b < 2 → a ≠ b → (T6 a).2.1 ≠ (T6 b).2.1 := by decide +kernel
theorem t_6_ok : ∀ k, k < 2 → parseFieldDescriptor (T6 k).2.2.1 = some (t_6 k) := by decide +kernel
def R7 : String := "BodySolidsModel"
def T7 : u_T := fun k => match k with
  | 0 => ("BodySolidsModel", "thrown", "I", false)
  | 1 => ("BodySolidsModel", "thickness", "J", true)
  | 2 => ("BodySolidsModel", "bodies", "I", false)
  | 3 => ("BodySolidsModel", "counts", "[I", true)
  | 4 => ("BodySolidsModel", "kinds", "[I", true)
  | 5 => ("BodySolidsModel", "numbers", "[J", true)
  | 6 => ("BodySolidsModel", "cornerCounts", "[I", true)
  | 7 => ("BodySolidsModel", "cornerX", "[J", true)
  | 8 => ("BodySolidsModel", "cornerY", "[J", true)
  | 9 => ("BodySolidsModel", "told", "I", false)
  | 10 => ("BodySolidsModel", "toldX", "[J", true)
  | 11 => ("BodySolidsModel", "toldY", "[J", true)
  | 12 => ("BodySolidsModel", "places", "I", false)
  | 13 => ("BodySolidsModel", "placed", "[I", true)
  | 14 => ("BodySolidsModel", "placeX", "[J", true)
  | 15 => ("BodySolidsModel", "placeY", "[J", true)
  | 16 => ("BodySolidsModel", "turns", "[I", true)
  | 17 => ("BodySolidsModel", "sides", "[I", true)
  | 18 => ("BodySolidsModel", "outs", "I", false)
  | 19 => ("BodySolidsModel", "out", "[J", true)
  | 20 => ("BodySolidsModel", "kindAt", "[I", true)
  | 21 => ("BodySolidsModel", "many", "[I", true)
  | 22 => ("BodySolidsModel", "px", "[J", true)
  | 23 => ("BodySolidsModel", "py", "[J", true)
  | 24 => ("BodySolidsModel", "radius", "[J", true)
  | 25 => ("BodySolidsModel", "low", "[J", true)
  | _ => ("BodySolidsModel", "high", "[J", true)
def t_7 : Nat → FieldType := fun k => match k with
  | 0 => .int
  | 1 => .long
  | 2 => .int
  | 3 => .array .int
  | 4 => .array .int
  | 5 => .array .long
  | 6 => .array .int
  | 7 => .array .long
  | 8 => .array .long
  | 9 => .int
  | 10 => .array .long
  | 11 => .array .long
  | 12 => .int
  | 13 => .array .int
  | 14 => .array .long
  | 15 => .array .long
  | 16 => .array .int
  | 17 => .array .int
  | 18 => .int
  | 19 => .array .long
  | 20 => .array .int
  | 21 => .array .int
  | 22 => .array .long
  | 23 => .array .long
  | 24 => .array .long
  | 25 => .array .long
  | _ => .array .long
theorem n_7 : ∀ a, a < 27 → ∀ b, b < 27 → a ≠ b → (T7 a).2.1 ≠ (T7 b).2.1 := by decide +kernel
theorem t_7_ok : ∀ k, k < 27 → parseFieldDescriptor (T7 k).2.2.1 = some (t_7 k) := by decide +kernel
abbrev gCl : List vw_C := [(R0, T0, 10), (R1, T1, 3), (R2, T2, 2), (R3, T3, 12), (R4, T4, 2), (R5, T5, 5), (R6, T6, 2), (R7, T7, 27)]
abbrev gTy : List FieldType := [.int, .long, .object "BodySolids$Solid", .object "java/lang/Object"]
def gNest : Cond → Bool
  | .fieldLinkNest _ _ _ _ _ _ => true
  | .methodLinkNest _ _ _ _ => true
  | .castable _ _ => true
  | w => goodWord w
def gAll : List Cond := lw_tbl.filter gNest
theorem gm {w : Cond} (i : Nat) (h : lw_tbl[i]? = some w) (hg : gNest w = true) : w ∈ gAll := List.mem_filter.mpr ⟨List.mem_of_getElem? h, hg⟩
theorem gm_all {ws : List Cond} (h : ∀ w ∈ ws, w ∈ lw_tbl ∧ gNest w = true) : ∀ w ∈ ws, w ∈ gAll := fun w hw => List.mem_filter.mpr (h w hw)
theorem i_0 : ∀ w ∈ u_ws R0 T0 10, w ∈ gAll := gm_all (by decide +kernel)
theorem i_1 : ∀ w ∈ u_ws R1 T1 3, w ∈ gAll := gm_all (by decide +kernel)
theorem i_2 : ∀ w ∈ u_ws R2 T2 2, w ∈ gAll := gm_all (by decide +kernel)
theorem i_3 : ∀ w ∈ u_ws R3 T3 12, w ∈ gAll := gm_all (by decide +kernel)
theorem i_4 : ∀ w ∈ u_ws R4 T4 2, w ∈ gAll := gm_all (by decide +kernel)
theorem i_5 : ∀ w ∈ u_ws R5 T5 5, w ∈ gAll := gm_all (by decide +kernel)
theorem i_6 : ∀ w ∈ u_ws R6 T6 2, w ∈ gAll := gm_all (by decide +kernel)
theorem i_7 : ∀ w ∈ u_ws R7 T7 27, w ∈ gAll := gm_all (by decide +kernel)
end
section
/-! ===== THE TYPED WORLD: a map from addresses to entries, and the heap's size ===== -/
abbrev gE : Type := (Nat × Nat × (Nat → Value)) ⊕ (Nat × List Value)
abbrev gW : Type := (Nat → Option gE) × Nat
abbrev gD : Type := (Nat → ClassId) × (Nat → Nat → Nat) × (Nat → ClassId)
abbrev gX (α : Type) : Type := Option ((String ⊕ α) × gW)
def gAt (D : gD) (a : Nat) (e : gE) (H : Heap) : Prop := match e with
  | .inl x => H[a]? = some (arrV (D.2.2 x.1) x.2.1 x.2.2)
  | .inr o => ∃ r : vw_C, gCl[o.1]? = some r ∧ t_OB a (D.1 o.1) r.2.2 (D.2.1 o.1) H (vp_V o.2)
theorem gAt.kept {D : gD} {a : Nat} {e : gE} {H H1 : Heap} (h : gAt D a e H) (hq : H1[a]? = H[a]?) : gAt D a e H1 := by
  cases e with
  | inl x => exact hq.trans h
  | inr o =>
    obtain ⟨r, h1, h2⟩ := h
    exact ⟨r, h1, h2.kept hq⟩
theorem gAt.lt {D : gD} {a : Nat} {e : gE} {H : Heap} (h : gAt D a e H) : a < H.size := by
  cases e with
  | inl x => exact (Array.getElem?_eq_some_iff.mp h).1
  | inr o =>
    obtain ⟨r, h1, cell, h2, -⟩ := h
    exact (Array.getElem?_eq_some_iff.mp h2).1
/-- kinds and array kinds as the tables have them -/
def gK (D : gD) (U : State) : Prop := (∀ (c : Nat) (q : vw_C), gCl[c]? = some q → u_Kn U q.1 q.2.1 q.2.2 (D.1 c) (D.2.1 c)) ∧ ∀ (k : Nat) (ty : FieldType), gTy[k]? = some ty → ArrOfT U (D.2.2 k) ty ∧ va_RA U (D.2.2 k) ty
theorem gK.moved {D : gD} {u U : State} (hvm : u.vm.Alike U.vm) (h : gK D u) : gK D U := ⟨fun c q hq => u_Kn_moved hvm (h.1 c q hq), fun k ty hk => ⟨arrOfT_moved hvm (h.2 k ty hk).1, (h.2 k ty hk).2.moved hvm⟩⟩
theorem gK.va {D : gD} {U : State} (h : gK D U) : va_K (D.1, D.2.1) gCl [] U := ⟨h.1, fun k q hq => by simp at hq⟩
/-- every word of the one list -/
def gT (U : State) : Prop := ∀ w ∈ gAll, ∀ a : Array Value, w.before a U = true
theorem gNest_warm {w : Cond} (h : gNest w = true) {s U : State} (hW : s.WarmedH U.vm) (hb : ∀ a : Array Value, w.before a s = true) (a' : Array Value) : w.before a' U = true := by
  cases w
  case fieldLinkNest => exact va_Nw.use rfl (va_Nw.warmF hW (hb #[]))
  case methodLinkNest => exact va_Nw.use rfl (va_Nw.warmM hW (hb #[]))
  case castable => exact va_Nw.use rfl (va_Nw.warmC hW (hb #[]))
  all_goals exact word_at hW (good_of_word h) (hb #[])
theorem gT.warm {s U : State} (hW : s.WarmedH U.vm) (h : gT s) : gT U := fun w hw a => gNest_warm (List.mem_filter.mp hw).2 hW (h w hw) a
/-- an empty row is never written -/
def gRW : gE → Prop
  | .inl x => x.2.1 ≠ 0
  | .inr _ => True
/-- between a world and the machine's heap, inside a method: s its start, A what it may change -/
def gI (D : gD) (s : State) (A : Nat → Prop) (w : gW) (H : Heap) (locs : List Loc) : Prop :=
  H.size = w.2 ∧ (∀ (a : Nat) (e : gE), w.1 a = some e → gAt D a e H) ∧ va_S A s.heap H locs ∧ ∀ (a : Nat) (e : gE), w.1 a = some e → gRW e → A a
def gup (w : gW) (a : Nat) (e : gE) : gW := (fun q => if q = a then some e else w.1 q, w.2)
def gpush (w : gW) (e : gE) : gW := (fun q => if q = w.2 then some e else w.1 q, w.2 + 1)
theorem gI.put {D : gD} {s : State} {A : Nat → Prop} {w : gW} {H H1 : Heap} {locs : List Loc} {a k : Nat} {e0 e : gE} (hI : gI D s A w H locs) (hw : w.1 a = some e0) (hrw : gRW e0) (z : H1.size = H.size) (oq : ∀ q : Nat, q ≠ a → H1[q]? = H[q]?) (he : gAt D a e H1) : gI D s A (gup w a e) H1 (locs ++ [⟨a, k⟩]) := by
  obtain ⟨h1, h2, h3, h4⟩ := hI
  refine ⟨z.trans h1, fun b x hb => ?_, h3.put z oq (h4 a e0 hw hrw), fun b x hb hx => ?_⟩
  · by_cases q : b = a
    · subst q
      simp only [gup, if_true] at hb
      cases hb
      exact he
    · simp only [gup, if_neg q] at hb
      exact (h2 b x hb).kept (oq b q)
  · by_cases q : b = a
    · subst q
      exact h4 b e0 hw hrw
    · simp only [gup, if_neg q] at hb
      exact h4 b x hb hx
theorem gI.push {D : gD} {s : State} {A : Nat → Prop} {w : gW} {H H1 : Heap} {locs : List Loc} {e : gE} (hI : gI D s A w H locs) (hA : ∀ q : Nat, s.heap.size ≤ q → A q) (z : H1.size = H.size + 1) (oq : ∀ q : Nat, q < H.size → H1[q]? = H[q]?) (he : gAt D H.size e H1) : gI D s A (gpush w e) H1 locs := by
  obtain ⟨h1, h2, h3, h4⟩ := hI
  refine ⟨by rw [z, h1]; rfl, fun b x hb => ?_, ⟨Nat.le_trans h3.1 (by omega), fun q g1 g2 => (oq q (Nat.lt_of_lt_of_le g1 h3.1)).trans (h3.2.1 q g1 g2), h3.2.2⟩, fun b x hb hx => ?_⟩
  · by_cases q : b = w.2
    · subst q
      simp only [gpush, if_true] at hb
      cases hb
      rw [← h1]
      exact he
    · simp only [gpush, if_neg q] at hb
      have hl := (h2 b x hb).lt
      exact (h2 b x hb).kept (oq b hl)
  · by_cases q : b = w.2
    · subst q
      exact hA _ (by rw [← h1]; exact h3.1)
    · simp only [gpush, if_neg q] at hb
      exact h4 b x hb hx
theorem gI.one {D : gD} {s : State} {A : Nat → Prop} {w : gW} {H : Heap} {locs : List Loc} {a ci : Nat} {fs : List Value} (hI : gI D s A w H locs) (h : w.1 a = some (.inr (ci, fs))) : va_P (D.1, D.2.1) gCl [(a, .inr (ci, fs))] H := by
  intro k q hk
  match k, hk with
  | 0, hk =>
    cases hk
    exact hI.2.1 a _ h
  | k + 1, hk => simp at hk
/-! ===== reads and writes ===== -/
def gf (w : gW) (a c k : Nat) : Option Value := match w.1 a with
  | some (.inr o) => if o.1 = c then o.2[k]? else none
  | _ => none
def gvI : Option Value → Option Int32
  | some (.int x) => some x
  | _ => none
def gvJ : Option Value → Option Int64
  | some (.long x) => some x
  | _ => none
def gvA : Option Value → Option Nat
  | some (.ref x) => some x
  | _ => none
theorem gvI_some {o : Option Value} {x : Int32} (h : gvI o = some x) : o = some (.int x) := by
  unfold gvI at h
  split at h
  · cases h; rfl
  · cases h
theorem gvJ_some {o : Option Value} {x : Int64} (h : gvJ o = some x) : o = some (.long x) := by
  unfold gvJ at h
  split at h
  · cases h; rfl
  · cases h
theorem gvA_some {o : Option Value} {x : Nat} (h : gvA o = some x) : o = some (.ref x) := by
  unfold gvA at h
  split at h
  · cases h; rfl
  · cases h
def gfI (w : gW) (a c k : Nat) : Option Int32 := gvI (gf w a c k)
def gfJ (w : gW) (a c k : Nat) : Option Int64 := gvJ (gf w a c k)
def gfA (w : gW) (a c k : Nat) : Option Nat := gvA (gf w a c k)
theorem gf_some {w : gW} {a c k : Nat} {v : Value} (h : gf w a c k = some v) : ∃ fs : List Value, w.1 a = some (.inr (c, fs)) ∧ fs[k]? = some v := by
  unfold gf at h
  split at h
  · rename_i o ho
    split at h
    · rename_i hc
      subst hc
      exact ⟨o.2, ho, h⟩
    · cases h
  · cases h
def gp (w : gW) (a c k : Nat) (v : Value) : Option gW := match w.1 a with
  | some (.inr o) => if o.1 = c ∧ k < o.2.length then some (gup w a (.inr (c, o.2.set k v))) else none
  | _ => none
theorem gp_some {w w' : gW} {a c k : Nat} {v : Value} (h : gp w a c k v = some w') : ∃ fs : List Value, w.1 a = some (.inr (c, fs)) ∧ k < fs.length ∧ w' = gup w a (.inr (c, fs.set k v)) := by
  unfold gp at h
  split at h
  · rename_i o ho
    split at h
    · rename_i hc
      obtain ⟨hc, hk⟩ := hc
      subst hc
      cases h
      exact ⟨o.2, ho, hk, rfl⟩
    · cases h
  · cases h
/-- the object is of kind c -/
def gck (w : gW) (a c : Nat) : Option Unit := match w.1 a with
  | some (.inr o) => if o.1 = c then some () else none
  | _ => none
theorem gck_some {w : gW} {a c : Nat} {u : Unit} (h : gck w a c = some u) : ∃ fs : List Value, w.1 a = some (.inr (c, fs)) := by
  unfold gck at h
  split at h
  · rename_i o ho
    split at h
    · rename_i hc
      subst hc
      exact ⟨o.2, ho⟩
    · cases h
  · cases h
def gnw (w : gW) (c : Nat) (fs : List Value) : Option (Nat × gW) := some (w.2, gpush w (.inr (c, fs)))
def gna (w : gW) (k : Nat) (n : Int32) (M : Nat) (v : Value) : Option (Nat × gW) := if n < 0 ∨ M < n.toNatClampNeg then none else some (w.2, gpush w (.inl (k, n.toNatClampNeg, fun _ => v)))
theorem gna_some {w w' : gW} {k M a : Nat} {n : Int32} {v : Value} (h : gna w k n M v = some (a, w')) : ¬ n < 0 ∧ n.toNatClampNeg ≤ M ∧ a = w.2 ∧ w' = gpush w (.inl (k, n.toNatClampNeg, fun _ => v)) := by
  unfold gna at h
  split at h
  · cases h
  · rename_i hc
    cases h
    exact ⟨fun q => hc (Or.inl q), Nat.not_lt.mp (fun q => hc (Or.inr q)), rfl, rfl⟩
/-- an array's place: its kind must be k -/
def gar (w : gW) (a k : Nat) (i : Int32) : Option Value := match w.1 a with
  | some (.inl x) => if x.1 = k ∧ ¬ i < 0 ∧ i.toNatClampNeg < x.2.1 then some (x.2.2 i.toNatClampNeg) else none
  | _ => none
theorem gar_some {w : gW} {a k : Nat} {i : Int32} {v : Value} (h : gar w a k i = some v) : ∃ (n : Nat) (f : Nat → Value), w.1 a = some (.inl (k, n, f)) ∧ ¬ (i < 0 ∨ n ≤ i.toNatClampNeg) ∧ f i.toNatClampNeg = v := by
  unfold gar at h
  split at h
  · rename_i x hx
    split at h
    · rename_i hc
      obtain ⟨h1, h2, h3⟩ := hc
      subst h1
      cases h
      exact ⟨x.2.1, x.2.2, hx, fun q => q.elim h2 (fun z => by omega), rfl⟩
    · cases h
  · cases h
def gas (w : gW) (a k : Nat) (i : Int32) (v : Value) : Option gW := match w.1 a with
  | some (.inl x) => if x.1 = k ∧ ¬ i < 0 ∧ i.toNatClampNeg < x.2.1 then some (gup w a (.inl (k, x.2.1, updV x.2.2 i.toNatClampNeg v))) else none
  | _ => none
theorem gas_some {w w' : gW} {a k : Nat} {i : Int32} {v : Value} (h : gas w a k i v = some w') : ∃ (n : Nat) (f : Nat → Value), w.1 a = some (.inl (k, n, f)) ∧ ¬ (i < 0 ∨ n ≤ i.toNatClampNeg) ∧ w' = gup w a (.inl (k, n, updV f i.toNatClampNeg v)) := by
  unfold gas at h
  split at h
  · rename_i x hx
    split at h
    · rename_i hc
      obtain ⟨h1, h2, h3⟩ := hc
      subst h1
      cases h
      exact ⟨x.2.1, x.2.2, hx, fun q => q.elim h2 (fun z => by omega), rfl⟩
    · cases h
  · cases h
def gal (w : gW) (a : Nat) : Option Int32 := match w.1 a with
  | some (.inl x) => if x.1 < gTy.length then some (nI x.2.1) else none
  | _ => none
theorem gal_some {w : gW} {a : Nat} {x : Int32} (h : gal w a = some x) : ∃ (k n : Nat) (f : Nat → Value) (ty : FieldType), w.1 a = some (.inl (k, n, f)) ∧ gTy[k]? = some ty ∧ x = nI n := by
  unfold gal at h
  split at h
  · rename_i y hy
    split at h
    · rename_i hk
      cases h
      exact ⟨y.1, y.2.1, y.2.2, _, hy, List.getElem?_eq_getElem hk, rfl⟩
    · cases h
  · cases h
def gaI (w : gW) (a : Nat) (i : Int32) : Option Int32 := gvI (gar w a 0 i)
def gaJ (w : gW) (a : Nat) (i : Int32) : Option Int64 := gvJ (gar w a 1 i)
/-- a row of references: its number -/
def gob (w : gW) (a : Nat) : Option Nat := match w.1 a with
  | some (.inl x) => match gTy[x.1]? with
    | some (.object _) => some x.1
    | _ => none
  | _ => none
def gaA (w : gW) (a : Nat) (i : Int32) : Option Nat := (gob w a).bind fun k => gvA (gar w a k i)
theorem gob_some {w : gW} {a k : Nat} (h : gob w a = some k) : ∃ C : String, gTy[k]? = some (.object C) := by
  unfold gob at h
  split at h
  · split at h
    · rename_i C hC
      cases h
      exact ⟨C, hC⟩
    · cases h
  · cases h
theorem gaA_some {w : gW} {a x : Nat} {i : Int32} (h : gaA w a i = some x) : ∃ (k : Nat) (C : String), gTy[k]? = some (.object C) ∧ gar w a k i = some (.ref x) := by
  obtain ⟨k, h1, h2⟩ := Option.bind_eq_some_iff.mp h
  obtain ⟨C, hC⟩ := gob_some h1
  exact ⟨k, C, hC, gvA_some h2⟩
def gsI (w : gW) (a : Nat) (i x : Int32) : Option gW := gas w a 0 i (.int x)
def gsJ (w : gW) (a : Nat) (i : Int32) (x : Int64) : Option gW := gas w a 1 i (.long x)
/-! ===== the pure functions' glue ===== -/
def gbind {α β : Type} (x : gX α) (k : α → gW → gX β) : gX β := match x with
  | none => none
  | some (.inl E, w) => some (.inl E, w)
  | some (.inr v, w) => k v w
def gjoin {γ δ : Type} (F : γ → δ) (J : γ) : δ := F J
def gguard {α : Type} (c : Prop) [Decidable c] (x : Option α) : Option α := if c then x else none
def gthrow {α : Type} (E : String) (w : gW) : gX α := some (.inl E, (w.1, w.2 + 1))
theorem gb {α β : Type} {o : Option α} {f : α → Option β} {r : β} (h : o.bind f = some r) : ∃ v, o = some v ∧ f v = some r := Option.bind_eq_some_iff.mp h
def gb2f {β : Type} (x : Option (Nat × gW)) (K : Nat → gW → Option β) : Option β := match x with
  | none => none
  | some q => K q.1 q.2
theorem gb2 {β : Type} {x : Option (Nat × gW)} {K : Nat → gW → Option β} {r : β} (h : gb2f x K = some r) : ∃ (o : Nat) (w : gW), x = some (o, w) ∧ K o w = some r := by
  cases x with
  | none => cases h
  | some q => exact ⟨q.1, q.2, rfl, h⟩
theorem gj {γ β : Type} {F : γ → Option β} {J : γ} {r : β} (h : gjoin F J = some r) : ∃ K, K = J ∧ F K = some r := ⟨J, rfl, h⟩
theorem gif {β : Type} {c : Prop} [Decidable c] {x : Option β} {r : β} (h : gguard c x = some r) : c ∧ x = some r := by
  unfold gguard at h
  split at h
  · rename_i hc
    exact ⟨hc, h⟩
  · cases h
theorem git {β : Type} {c : Prop} [Decidable c] {x y : β} {r : β} (hc : c) (h : (if c then x else y) = r) : x = r := by rw [if_pos hc] at h; exact h
theorem gie {β : Type} {c : Prop} [Decidable c] {x y : β} {r : β} (hc : ¬ c) (h : (if c then x else y) = r) : y = r := by rw [if_neg hc] at h; exact h
theorem gsome {α β : Type} {x : gX α} {k : α → gW → gX β} {r : (String ⊕ β) × gW} (h : gbind x k = some r) : ∃ o, x = some o := by
  cases x with
  | none => cases h
  | some o => exact ⟨o, rfl⟩
theorem gk1 {α0 β : Type} {K J : α0 → β} (e : K = J) {x0 : α0} {r : β} (h : K x0 = r) : J x0 = r := e ▸ h
theorem gk2 {α0 α1 β : Type} {K J : α0 → α1 → β} (e : K = J) {x0 : α0} {x1 : α1} {r : β} (h : K x0 x1 = r) : J x0 x1 = r := e ▸ h
theorem gk3 {α0 α1 α2 β : Type} {K J : α0 → α1 → α2 → β} (e : K = J) {x0 : α0} {x1 : α1} {x2 : α2} {r : β} (h : K x0 x1 x2 = r) : J x0 x1 x2 = r := e ▸ h
theorem gk4 {α0 α1 α2 α3 β : Type} {K J : α0 → α1 → α2 → α3 → β} (e : K = J) {x0 : α0} {x1 : α1} {x2 : α2} {x3 : α3} {r : β} (h : K x0 x1 x2 x3 = r) : J x0 x1 x2 x3 = r := e ▸ h
theorem gk5 {α0 α1 α2 α3 α4 β : Type} {K J : α0 → α1 → α2 → α3 → α4 → β} (e : K = J) {x0 : α0} {x1 : α1} {x2 : α2} {x3 : α3} {x4 : α4} {r : β} (h : K x0 x1 x2 x3 x4 = r) : J x0 x1 x2 x3 x4 = r := e ▸ h
theorem gk6 {α0 α1 α2 α3 α4 α5 β : Type} {K J : α0 → α1 → α2 → α3 → α4 → α5 → β} (e : K = J) {x0 : α0} {x1 : α1} {x2 : α2} {x3 : α3} {x4 : α4} {x5 : α5} {r : β} (h : K x0 x1 x2 x3 x4 x5 = r) : J x0 x1 x2 x3 x4 x5 = r := e ▸ h
theorem gk7 {α0 α1 α2 α3 α4 α5 α6 β : Type} {K J : α0 → α1 → α2 → α3 → α4 → α5 → α6 → β} (e : K = J) {x0 : α0} {x1 : α1} {x2 : α2} {x3 : α3} {x4 : α4} {x5 : α5} {x6 : α6} {r : β} (h : K x0 x1 x2 x3 x4 x5 x6 = r) : J x0 x1 x2 x3 x4 x5 x6 = r := e ▸ h
theorem gk8 {α0 α1 α2 α3 α4 α5 α6 α7 β : Type} {K J : α0 → α1 → α2 → α3 → α4 → α5 → α6 → α7 → β} (e : K = J) {x0 : α0} {x1 : α1} {x2 : α2} {x3 : α3} {x4 : α4} {x5 : α5} {x6 : α6} {x7 : α7} {r : β} (h : K x0 x1 x2 x3 x4 x5 x6 x7 = r) : J x0 x1 x2 x3 x4 x5 x6 x7 = r := e ▸ h
theorem gk9 {α0 α1 α2 α3 α4 α5 α6 α7 α8 β : Type} {K J : α0 → α1 → α2 → α3 → α4 → α5 → α6 → α7 → α8 → β} (e : K = J) {x0 : α0} {x1 : α1} {x2 : α2} {x3 : α3} {x4 : α4} {x5 : α5} {x6 : α6} {x7 : α7} {x8 : α8} {r : β} (h : K x0 x1 x2 x3 x4 x5 x6 x7 x8 = r) : J x0 x1 x2 x3 x4 x5 x6 x7 x8 = r := e ▸ h
theorem gk10 {α0 α1 α2 α3 α4 α5 α6 α7 α8 α9 β : Type} {K J : α0 → α1 → α2 → α3 → α4 → α5 → α6 → α7 → α8 → α9 → β} (e : K = J) {x0 : α0} {x1 : α1} {x2 : α2} {x3 : α3} {x4 : α4} {x5 : α5} {x6 : α6} {x7 : α7} {x8 : α8} {x9 : α9} {r : β} (h : K x0 x1 x2 x3 x4 x5 x6 x7 x8 x9 = r) : J x0 x1 x2 x3 x4 x5 x6 x7 x8 x9 = r := e ▸ h
theorem gk11 {α0 α1 α2 α3 α4 α5 α6 α7 α8 α9 α10 β : Type} {K J : α0 → α1 → α2 → α3 → α4 → α5 → α6 → α7 → α8 → α9 → α10 → β} (e : K = J) {x0 : α0} {x1 : α1} {x2 : α2} {x3 : α3} {x4 : α4} {x5 : α5} {x6 : α6} {x7 : α7} {x8 : α8} {x9 : α9} {x10 : α10} {r : β} (h : K x0 x1 x2 x3 x4 x5 x6 x7 x8 x9 x10 = r) : J x0 x1 x2 x3 x4 x5 x6 x7 x8 x9 x10 = r := e ▸ h
theorem gk12 {α0 α1 α2 α3 α4 α5 α6 α7 α8 α9 α10 α11 β : Type} {K J : α0 → α1 → α2 → α3 → α4 → α5 → α6 → α7 → α8 → α9 → α10 → α11 → β} (e : K = J) {x0 : α0} {x1 : α1} {x2 : α2} {x3 : α3} {x4 : α4} {x5 : α5} {x6 : α6} {x7 : α7} {x8 : α8} {x9 : α9} {x10 : α10} {x11 : α11} {r : β} (h : K x0 x1 x2 x3 x4 x5 x6 x7 x8 x9 x10 x11 = r) : J x0 x1 x2 x3 x4 x5 x6 x7 x8 x9 x10 x11 = r := e ▸ h
theorem gk13 {α0 α1 α2 α3 α4 α5 α6 α7 α8 α9 α10 α11 α12 β : Type} {K J : α0 → α1 → α2 → α3 → α4 → α5 → α6 → α7 → α8 → α9 → α10 → α11 → α12 → β} (e : K = J) {x0 : α0} {x1 : α1} {x2 : α2} {x3 : α3} {x4 : α4} {x5 : α5} {x6 : α6} {x7 : α7} {x8 : α8} {x9 : α9} {x10 : α10} {x11 : α11} {x12 : α12} {r : β} (h : K x0 x1 x2 x3 x4 x5 x6 x7 x8 x9 x10 x11 x12 = r) : J x0 x1 x2 x3 x4 x5 x6 x7 x8 x9 x10 x11 x12 = r := e ▸ h
theorem gk14 {α0 α1 α2 α3 α4 α5 α6 α7 α8 α9 α10 α11 α12 α13 β : Type} {K J : α0 → α1 → α2 → α3 → α4 → α5 → α6 → α7 → α8 → α9 → α10 → α11 → α12 → α13 → β} (e : K = J) {x0 : α0} {x1 : α1} {x2 : α2} {x3 : α3} {x4 : α4} {x5 : α5} {x6 : α6} {x7 : α7} {x8 : α8} {x9 : α9} {x10 : α10} {x11 : α11} {x12 : α12} {x13 : α13} {r : β} (h : K x0 x1 x2 x3 x4 x5 x6 x7 x8 x9 x10 x11 x12 x13 = r) : J x0 x1 x2 x3 x4 x5 x6 x7 x8 x9 x10 x11 x12 x13 = r := e ▸ h
theorem gk15 {α0 α1 α2 α3 α4 α5 α6 α7 α8 α9 α10 α11 α12 α13 α14 β : Type} {K J : α0 → α1 → α2 → α3 → α4 → α5 → α6 → α7 → α8 → α9 → α10 → α11 → α12 → α13 → α14 → β} (e : K = J) {x0 : α0} {x1 : α1} {x2 : α2} {x3 : α3} {x4 : α4} {x5 : α5} {x6 : α6} {x7 : α7} {x8 : α8} {x9 : α9} {x10 : α10} {x11 : α11} {x12 : α12} {x13 : α13} {x14 : α14} {r : β} (h : K x0 x1 x2 x3 x4 x5 x6 x7 x8 x9 x10 x11 x12 x13 x14 = r) : J x0 x1 x2 x3 x4 x5 x6 x7 x8 x9 x10 x11 x12 x13 x14 = r := e ▸ h
theorem gk16 {α0 α1 α2 α3 α4 α5 α6 α7 α8 α9 α10 α11 α12 α13 α14 α15 β : Type} {K J : α0 → α1 → α2 → α3 → α4 → α5 → α6 → α7 → α8 → α9 → α10 → α11 → α12 → α13 → α14 → α15 → β} (e : K = J) {x0 : α0} {x1 : α1} {x2 : α2} {x3 : α3} {x4 : α4} {x5 : α5} {x6 : α6} {x7 : α7} {x8 : α8} {x9 : α9} {x10 : α10} {x11 : α11} {x12 : α12} {x13 : α13} {x14 : α14} {x15 : α15} {r : β} (h : K x0 x1 x2 x3 x4 x5 x6 x7 x8 x9 x10 x11 x12 x13 x14 x15 = r) : J x0 x1 x2 x3 x4 x5 x6 x7 x8 x9 x10 x11 x12 x13 x14 x15 = r := e ▸ h
/-! ===== rows over the world ===== -/
section GR
variable {p : Program} {l : Launch} {e : Env} {R : Room} {s : State} {m : MethodId} {args : Array Value} {below : List Frame} {meth : Method} {c : Code} {H : Heap} {locs : List Loc} {cells slots : Nat} {Q : State → Prop}
variable {cc : ByteArray} {pc : Nat} {ls : Array Slot} {rest : List Value} {D : gD} {A : Nat → Prop} {a : Nat} {w : gW}
theorem gw_get0 (hx : p.tables.exec = Jvm.exec) (hb : c.code = cc) (hT : gT s) {own : String} (hown : s.vm.findClass own = some m.cls) (hK : gK D s) (hI : gI D s A w H locs) {ci : Nat} {C ref : String} {T : u_T} {N index : Nat} (hc : gCl[ci]? = some (C, T, N)) (hin : ∀ z ∈ u_ws C T N, z ∈ gAll) (k : Nat) (hk : k < N) (hlink : Cond.fieldLink own index ref (T k).2.1 (T k).2.2.1 ∈ gAll) (hsame : ∀ x, s.fieldFound? (T k).1 (T k).2.1 (T k).2.2.1 = some x → s.fieldFound? ref (T k).2.1 (T k).2.2.1 = some x) {v : Value} (hv : gf w a ci k = some v) (hdg : decode cc pc = .ok (.getfield index, 3))
    (kk : W p l e R s m args below meth c H locs cells slots Q (F0 m (pc + 3) ls (v :: rest))) : W p l e R s m args below meth c H locs cells slots Q (F0 m pc ls (.ref a :: rest)) := by
  obtain ⟨fs, h1, h2⟩ := gf_some hv
  exact va_get (D := (D.1, D.2.1)) (cl := gCl) (ws := [(a, .inr (ci, fs))]) (tys := []) hx hb (Ts := gAll) (fun z h => hT z h args) hin hown hK.va (hI.one h1) 0 rfl hc k hk (hT _ hlink args) hsame h2 hdg kk
theorem gw_getI (hx : p.tables.exec = Jvm.exec) (hb : c.code = cc) (hT : gT s) {own : String} (hown : s.vm.findClass own = some m.cls) (hK : gK D s) (hI : gI D s A w H locs) {ci : Nat} {C ref : String} {T : u_T} {N index : Nat} (hc : gCl[ci]? = some (C, T, N)) (hin : ∀ z ∈ u_ws C T N, z ∈ gAll) (k : Nat) (hk : k < N) (hlink : Cond.fieldLink own index ref (T k).2.1 (T k).2.2.1 ∈ gAll) (hsame : ∀ x, s.fieldFound? (T k).1 (T k).2.1 (T k).2.2.1 = some x → s.fieldFound? ref (T k).2.1 (T k).2.2.1 = some x) {v : Int32} (hv : gfI w a ci k = some v) (hdg : decode cc pc = .ok (.getfield index, 3))
    (kk : W p l e R s m args below meth c H locs cells slots Q (F0 m (pc + 3) ls (.int v :: rest))) : W p l e R s m args below meth c H locs cells slots Q (F0 m pc ls (.ref a :: rest)) := gw_get0 hx hb hT hown hK hI hc hin k hk hlink hsame (gvI_some hv) hdg kk
theorem gw_getJ (hx : p.tables.exec = Jvm.exec) (hb : c.code = cc) (hT : gT s) {own : String} (hown : s.vm.findClass own = some m.cls) (hK : gK D s) (hI : gI D s A w H locs) {ci : Nat} {C ref : String} {T : u_T} {N index : Nat} (hc : gCl[ci]? = some (C, T, N)) (hin : ∀ z ∈ u_ws C T N, z ∈ gAll) (k : Nat) (hk : k < N) (hlink : Cond.fieldLink own index ref (T k).2.1 (T k).2.2.1 ∈ gAll) (hsame : ∀ x, s.fieldFound? (T k).1 (T k).2.1 (T k).2.2.1 = some x → s.fieldFound? ref (T k).2.1 (T k).2.2.1 = some x) {v : Int64} (hv : gfJ w a ci k = some v) (hdg : decode cc pc = .ok (.getfield index, 3))
    (kk : W p l e R s m args below meth c H locs cells slots Q (F0 m (pc + 3) ls (.long v :: rest))) : W p l e R s m args below meth c H locs cells slots Q (F0 m pc ls (.ref a :: rest)) := gw_get0 hx hb hT hown hK hI hc hin k hk hlink hsame (gvJ_some hv) hdg kk
theorem gw_getA (hx : p.tables.exec = Jvm.exec) (hb : c.code = cc) (hT : gT s) {own : String} (hown : s.vm.findClass own = some m.cls) (hK : gK D s) (hI : gI D s A w H locs) {ci : Nat} {C ref : String} {T : u_T} {N index : Nat} (hc : gCl[ci]? = some (C, T, N)) (hin : ∀ z ∈ u_ws C T N, z ∈ gAll) (k : Nat) (hk : k < N) (hlink : Cond.fieldLink own index ref (T k).2.1 (T k).2.2.1 ∈ gAll) (hsame : ∀ x, s.fieldFound? (T k).1 (T k).2.1 (T k).2.2.1 = some x → s.fieldFound? ref (T k).2.1 (T k).2.2.1 = some x) {v : Nat} (hv : gfA w a ci k = some v) (hdg : decode cc pc = .ok (.getfield index, 3))
    (kk : W p l e R s m args below meth c H locs cells slots Q (F0 m (pc + 3) ls (.ref v :: rest))) : W p l e R s m args below meth c H locs cells slots Q (F0 m pc ls (.ref a :: rest)) := gw_get0 hx hb hT hown hK hI hc hin k hk hlink hsame (gvA_some hv) hdg kk
theorem gw_put (hx : p.tables.exec = Jvm.exec) (hb : c.code = cc) (hT : gT s) {own : String} (hown : s.vm.findClass own = some m.cls) (hK : gK D s) (hI : gI D s A w H locs) {ci : Nat} {C ref : String} {T : u_T} {N index : Nat} (hc : gCl[ci]? = some (C, T, N)) (hin : ∀ z ∈ u_ws C T N, z ∈ gAll) (ty0 : Nat → FieldType) (hty : ∀ k, k < N → parseFieldDescriptor (T k).2.2.1 = some (ty0 k)) (hnm : ∀ a, a < N → ∀ b, b < N → a ≠ b → (T a).2.1 ≠ (T b).2.1) (k : Nat) (hk : k < N) (hlink : Cond.fieldLink own index ref (T k).2.1 (T k).2.2.1 ∈ gAll) (hsame : ∀ x, s.fieldFound? (T k).1 (T k).2.1 (T k).2.2.1 = some x → s.fieldFound? ref (T k).2.1 (T k).2.2.1 = some x) (hfin : (T k).2.2.2 = false) {ty : FieldType} {v : Value} (hd : parseFieldDescriptor (T k).2.2.1 = some ty) (hn : narrow ty v = v) (hfit : fits ty v = true) {w' : gW} (hv : gp w a ci k v = some w') (hdg : decode cc pc = .ok (.putfield index, 3))
    (kk : ∀ (H1 : Heap) (locs1 : List Loc), gI D s A w' H1 locs1 → W p l e R s m args below meth c H1 locs1 cells slots Q (F0 m (pc + 3) ls rest)) : W p l e R s m args below meth c H locs cells slots Q (F0 m pc ls (v :: .ref a :: rest)) := by
  obtain ⟨fs, h1, h2, rfl⟩ := gp_some hv
  have hts : ∀ z ∈ gAll, z.before args s = true := fun z h => hT z h args
  have hap := va_apart (D := (D.1, D.2.1)) (cl := gCl) (tys := []) (own := own) (args := args) hts hin ty0 hty hnm hK.va hc
  obtain ⟨r, hr, cell, q1, q2, q3, q4⟩ := hI.2.1 a _ h1
  cases Option.some.inj (hr.symm.trans hc)
  obtain ⟨hS, hfc, kC, hkC, hkind⟩ := hK.1 ci _ hc
  obtain ⟨cf, kf, fi, f, hi, hsl⟩ := hS k hk
  have hlay := hts _ (hin _ (u_in_lay hk))
  unfold u_lay at hlay
  rw [if_neg (by rw [hfin]; decide)] at hlay
  have hst := (u_facts hfc hkC (u_lays hts hin hk) hi).1
  have h6 := u_store hfc hkC hkind hlay hi hd hn hfit
  refine W.putK hx hb (f := f) ⟨hown, hts _ hlink, ⟨_, _, _, hsame _ hi⟩, hst⟩ (by rw [q2]; exact h6) q1 q3 (by rw [hsl]; exact k2_hasslot (q4 k hk)) rfl rfl hdg fun H' e1 e2 e3 => ?_
  rw [hsl] at e1 ⊢
  exact kk H' _ (hI.put h1 trivial e2 e3 ⟨_, hc, t_OB.to (V := updV (vp_V fs) k v) ⟨_, e1, q2, q3, t_set q4 hap hk v⟩ (fun j _ => vp_updV_set h2 v j)⟩)
theorem gw_putF (hx : p.tables.exec = Jvm.exec) (hb : c.code = cc) (hT : gT s) {own : String} (hown : s.vm.findClass own = some m.cls) (hK : gK D s) (hI : gI D s A w H locs) {ci : Nat} {C ref : String} {T : u_T} {N index : Nat} (hc : gCl[ci]? = some (C, T, N)) (hin : ∀ z ∈ u_ws C T N, z ∈ gAll) (ty0 : Nat → FieldType) (hty : ∀ k, k < N → parseFieldDescriptor (T k).2.2.1 = some (ty0 k)) (hnm : ∀ a, a < N → ∀ b, b < N → a ≠ b → (T a).2.1 ≠ (T b).2.1) (k : Nat) (hk : k < N) (hlink : Cond.fieldLink own index ref (T k).2.1 (T k).2.2.1 ∈ gAll) (hsame : ∀ x, s.fieldFound? (T k).1 (T k).2.1 (T k).2.2.1 = some x → s.fieldFound? ref (T k).2.1 (T k).2.2.1 = some x) (hfin : (T k).2.2.2 = true) (hin2 : meth.name = "<init>") (hdecl : (T k).1 = own) {ty : FieldType} {v : Value} (hd : parseFieldDescriptor (T k).2.2.1 = some ty) (hn : narrow ty v = v) (hfit : fits ty v = true) {w' : gW} (hv : gp w a ci k v = some w') (hdg : decode cc pc = .ok (.putfield index, 3))
    (kk : ∀ (H1 : Heap) (locs1 : List Loc), gI D s A w' H1 locs1 → W p l e R s m args below meth c H1 locs1 cells slots Q (F0 m (pc + 3) ls rest)) : W p l e R s m args below meth c H locs cells slots Q (F0 m pc ls (v :: .ref a :: rest)) := by
  obtain ⟨fs, h1, h2, rfl⟩ := gp_some hv
  have hts : ∀ z ∈ gAll, z.before args s = true := fun z h => hT z h args
  have hap := va_apart (D := (D.1, D.2.1)) (cl := gCl) (tys := []) (own := own) (args := args) hts hin ty0 hty hnm hK.va hc
  obtain ⟨r, hr, cell, q1, q2, q3, q4⟩ := hI.2.1 a _ h1
  cases Option.some.inj (hr.symm.trans hc)
  obtain ⟨hS, hfc, kC, hkC, hkind⟩ := hK.1 ci _ hc
  obtain ⟨cf, kf, fi, f, hi, hsl⟩ := hS k hk
  have hlay := hts _ (hin _ (u_in_lay hk))
  unfold u_lay at hlay
  rw [if_pos hfin] at hlay
  have hst := (u_facts hfc hkC (u_lays hts hin hk) hi).1
  have hcf : m.cls = cf := by
    obtain ⟨_, _, c', _, _, _, -, -, hf', -, -, -, hown2, -⟩ := Cond.laysFinal_spec hlay
    have e1 : c' = cf := by have := hi.symm.trans hf'; simp at this; exact this.1.symm
    rw [hdecl] at hown2
    rw [← e1]; exact Option.some.inj (hown.symm.trans hown2)
  have h6 := u_fits hfc hkC hkind (Or.inr hlay) hi hd hn hfit
  refine W.putFinK hx hb hown (hts _ hlink) (hsame _ hi) hst hcf hin2 (by rw [q2]; exact h6) q1 q3 (by rw [hsl]; exact k2_hasslot (q4 k hk)) rfl rfl hdg fun H' e1 e2 e3 => ?_
  rw [hsl] at e1 ⊢
  exact kk H' _ (hI.put h1 trivial e2 e3 ⟨_, hc, t_OB.to (V := updV (vp_V fs) k v) ⟨_, e1, q2, q3, t_set q4 hap hk v⟩ (fun j _ => vp_updV_set h2 v j)⟩)
theorem gw_new (hx : p.tables.exec = Jvm.exec) (hb : c.code = cc) (hT : gT s) {own : String} (hown : s.vm.findClass own = some m.cls) (hK : gK D s) (hI : gI D s A w H locs) (hA : ∀ q : Nat, s.heap.size ≤ q → A q) {ci : Nat} {C : String} {T : u_T} {N index : Nat} (hc : gCl[ci]? = some (C, T, N)) (hin : ∀ z ∈ u_ws C T N, z ∈ gAll) (ty : Nat → FieldType) (hty : ∀ k, k < N → parseFieldDescriptor (T k).2.2.1 = some (ty k)) {n : Nat} (hcl : Cond.classLink own index C ∈ gAll) (hinst : Cond.instantiable C n ∈ gAll) (hini : Cond.initialized C ∈ gAll) {fs : List Value} (hfs : ∀ j, j < N → defaultValue (ty j) = vp_V fs j) {b : Nat} {w' : gW} (hv : gnw w ci fs = some (b, w')) (hcells : cells + 1 ≤ R.cells) (hslots : slots + n ≤ R.slots) (hdg : decode cc pc = .ok (.new index, 3))
    (kk : ∀ (H1 : Heap), gI D s A w' H1 locs → W p l e R s m args below meth c H1 locs (cells + 1) (slots + n) Q (F0 m (pc + 3) ls (.ref b :: rest))) : W p l e R s m args below meth c H locs cells slots Q (F0 m pc ls rest) := by
  have hts : ∀ z ∈ gAll, z.before args s = true := fun z h => hT z h args
  unfold gnw at hv
  cases hv
  have hKn := hK.1 ci _ hc
  refine W.newcK hx hb hown (hts _ hcl) (hts _ hinst) (hts _ hini) rfl hdg hcells hslots hKn.2.1 hI.1 fun H1 kC hkC e1 z1 o1 => ?_
  rw [← hI.1] at e1 z1 o1
  refine kk H1 (hI.push hA z1 o1 ⟨_, hc, (u_born ty hts hin hKn hkC e1 hty).to hfs⟩)
theorem gw_newa (hx : p.tables.exec = Jvm.exec) (hb : c.code = cc) (hK : gK D s) (hI : gI D s A w H locs) (hA : ∀ q : Nat, s.heap.size ≤ q → A q) {atype : ArrayType} (harr : (Cond.arrayClass (newarray.typeOf atype)).before args s = true) {ty : FieldType} (hty : newarray.typeOf atype = ty) {k : Nat} (hk : gTy[k]? = some ty) (hob : va_RA s (D.2.2 k) ty → s.vm.findClass ("[" ++ ty.toString) = some (D.2.2 k)) {n : Int32} {M b : Nat} {w' : gW} (hv : gna w k n M (defaultValue ty) = some (b, w')) (hcells : cells + 1 ≤ R.cells) (hslots : slots + M ≤ R.slots) (hbytes : M * componentBytes ty ≤ 536870912) (hdg : decode cc pc = .ok (.newarray atype, 2))
    (kk : ∀ (H1 : Heap), gI D s A w' H1 locs → W p l e R s m args below meth c H1 locs (cells + 1) (slots + M) Q (F0 m (pc + 2) ls (.ref b :: rest))) : W p l e R s m args below meth c H locs cells slots Q (F0 m pc ls (.int n :: rest)) := by
  subst hty
  obtain ⟨h1, h2, rfl, rfl⟩ := gna_some hv
  refine va_newaK hx hb harr rfl hdg rfl h1 rfl (Nat.le_trans (Nat.mul_le_mul_right _ h2) hbytes) hcells (Nat.le_trans (Nat.add_le_add_left h2 _) hslots) hI.1 fun H1 cA e1 z1 o1 hAr hNm => ?_
  rw [← hI.1] at e1 z1 o1
  have hcA : cA = D.2.2 k := Option.some.inj (hNm.symm.trans (hob (hK.2 k _ hk).2))
  subst hcA
  rw [← hI.1]
  refine W.widen (Nat.le_refl _) (Nat.add_le_add_left h2 _) ?_
  rw [hI.1]
  exact kk H1 (hI.push hA z1 o1 e1)
theorem gw_anew (hx : p.tables.exec = Jvm.exec) (hb : c.code = cc) {own : String} (hown : s.vm.findClass own = some m.cls) (hK : gK D s) (hI : gI D s A w H locs) (hA : ∀ q : Nat, s.heap.size ≤ q → A q) {C : String} {index : Nat} (hcl : (Cond.classLink own index C).before args s = true) (hov : (Cond.arrayOver (.object C)).before args s = true) {k : Nat} (hk : gTy[k]? = some (.object C)) {n : Int32} {M b : Nat} {w' : gW} (hv : gna w k n M .null = some (b, w')) (hcells : cells + 1 ≤ R.cells) (hslots : slots + M ≤ R.slots) (hbytes : M * 4 ≤ 536870912) (hdg : decode cc pc = .ok (.anewarray index, 3))
    (kk : ∀ (H1 : Heap), gI D s A w' H1 locs → W p l e R s m args below meth c H1 locs (cells + 1) (slots + M) Q (F0 m (pc + 3) ls (.ref b :: rest))) : W p l e R s m args below meth c H locs cells slots Q (F0 m pc ls (.int n :: rest)) := by
  obtain ⟨h1, h2, rfl, rfl⟩ := gna_some hv
  refine W.anew hx hb hown hcl hov rfl hdg rfl h1 (Nat.le_trans (Nat.mul_le_mul_right _ h2) hbytes) hcells (Nat.le_trans (Nat.add_le_add_left h2 _) hslots) fun cA kA comp f1 f2 f3 f4 => ?_
  obtain ⟨kA', comp', g1, g2, g3, g4⟩ := (hK.2 k _ hk).2
  have hcA : cA = D.2.2 k := Option.some.inj (f1.symm.trans g4)
  subst hcA
  generalize hH1 : H.push ({ cls := D.2.2 k, slots := Array.replicate n.toNatClampNeg .null, vm := .none } : Cell) = H1
  have z1 : H1.size = H.size + 1 := by rw [← hH1, Array.size_push]
  have e1 : H1[H.size]? = some (arrV (D.2.2 k) n.toNatClampNeg (fun _ => .null)) := by rw [← hH1, Array.getElem?_push_size, ← arrV_new]
  have o1 : ∀ q : Nat, q < H.size → H1[q]? = H[q]? := fun q hq => by rw [← hH1, Array.getElem?_push, if_neg (Nat.ne_of_lt hq)]
  refine W.widen (Nat.le_refl _) (Nat.add_le_add_left h2 _) ?_
  rw [hI.1]
  exact kk H1 (hI.push hA z1 o1 e1)
theorem gw_alen (hx : p.tables.exec = Jvm.exec) (hb : c.code = cc) (hK : gK D s) (hI : gI D s A w H locs) {x : Int32} (hv : gal w a = some x) (hdg : decode cc pc = .ok (.arraylength, 1))
    (kk : W p l e R s m args below meth c H locs cells slots Q (F0 m (pc + 1) ls (.int x :: rest))) : W p l e R s m args below meth c H locs cells slots Q (F0 m pc ls (.ref a :: rest)) := by
  obtain ⟨k, n, f, ty, h1, hty, rfl⟩ := gal_some hv
  exact W.alen hx hb (hI.2.1 a _ h1) ((hK.2 k ty hty).1 n f) (by show (arrV _ _ _).slots.size.toInt32 = _; rw [arrV_size]; rfl) rfl rfl hdg kk
theorem gw_aldI (hx : p.tables.exec = Jvm.exec) (hb : c.code = cc) (hK : gK D s) (hI : gI D s A w H locs) {i x : Int32} (hv : gaI w a i = some x) (hdg : decode cc pc = .ok (.iaload, 1))
    (kk : W p l e R s m args below meth c H locs cells slots Q (F0 m (pc + 1) ls (.int x :: rest))) : W p l e R s m args below meth c H locs cells slots Q (F0 m pc ls (.int i :: .ref a :: rest)) := by
  obtain ⟨n, f, h1, hin, h2⟩ := gar_some (gvI_some hv)
  have hlt : i.toNatClampNeg < n := Nat.not_le.mp fun q => hin (Or.inr q)
  exact W.iald (v := .int x) hx hb (hI.2.1 a _ h1) ((hK.2 0 .int rfl).1 n f) (fun q => by cases q) (by show ¬ (i < 0 ∨ (arrV _ _ _).slots.size ≤ _); rw [arrV_size]; exact hin) (by show (arrV _ _ _).slots[_]? = _; rw [arrV_read _ _ hlt]; exact congrArg some h2) rfl rfl hdg kk
theorem gw_aldJ (hx : p.tables.exec = Jvm.exec) (hb : c.code = cc) (hK : gK D s) (hI : gI D s A w H locs) {i : Int32} {x : Int64} (hv : gaJ w a i = some x) (hdg : decode cc pc = .ok (.laload, 1))
    (kk : W p l e R s m args below meth c H locs cells slots Q (F0 m (pc + 1) ls (.long x :: rest))) : W p l e R s m args below meth c H locs cells slots Q (F0 m pc ls (.int i :: .ref a :: rest)) := by
  obtain ⟨n, f, h1, hin, h2⟩ := gar_some (gvJ_some hv)
  have hlt : i.toNatClampNeg < n := Nat.not_le.mp fun q => hin (Or.inr q)
  exact W.lald (v := .long x) hx hb (hI.2.1 a _ h1) ((hK.2 1 .long rfl).1 n f) (fun q => by cases q) (by show ¬ (i < 0 ∨ (arrV _ _ _).slots.size ≤ _); rw [arrV_size]; exact hin) (by show (arrV _ _ _).slots[_]? = _; rw [arrV_read _ _ hlt]; exact congrArg some h2) rfl rfl hdg kk
theorem gw_aldA (hx : p.tables.exec = Jvm.exec) (hb : c.code = cc) (hK : gK D s) (hI : gI D s A w H locs) {i : Int32} {x : Nat} (hv : gaA w a i = some x) (hdg : decode cc pc = .ok (.aaload, 1))
    (kk : W p l e R s m args below meth c H locs cells slots Q (F0 m (pc + 1) ls (.ref x :: rest))) : W p l e R s m args below meth c H locs cells slots Q (F0 m pc ls (.int i :: .ref a :: rest)) := by
  obtain ⟨k, C, hk, hv⟩ := gaA_some hv
  obtain ⟨n, f, h1, hin, h2⟩ := gar_some hv
  have hlt : i.toNatClampNeg < n := Nat.not_le.mp fun q => hin (Or.inr q)
  exact W.aald (v := .ref x) (ty := .object C) hx hb (hI.2.1 a _ h1) ((hK.2 k _ hk).1 n f) rfl (fun q => by cases q) (by show ¬ (i < 0 ∨ (arrV _ _ _).slots.size ≤ _); rw [arrV_size]; exact hin) (by show (arrV _ _ _).slots[_]? = _; rw [arrV_read _ _ hlt]; exact congrArg some h2) rfl rfl hdg kk
theorem gw_astI (hx : p.tables.exec = Jvm.exec) (hb : c.code = cc) (hK : gK D s) (hI : gI D s A w H locs) {i x : Int32} {w' : gW} (hv : gsI w a i x = some w') (hdg : decode cc pc = .ok (.iastore, 1))
    (kk : ∀ (H1 : Heap) (locs1 : List Loc), gI D s A w' H1 locs1 → W p l e R s m args below meth c H1 locs1 cells slots Q (F0 m (pc + 1) ls rest)) : W p l e R s m args below meth c H locs cells slots Q (F0 m pc ls (.int x :: .int i :: .ref a :: rest)) := by
  obtain ⟨n, f, h1, hin, rfl⟩ := gas_some hv
  refine W.iast hx hb (hI.2.1 a _ h1) ((hK.2 0 .int rfl).1 n f) (fun q => by cases q) (by show ¬ (i < 0 ∨ (arrV _ _ _).slots.size ≤ _); rw [arrV_size]; exact hin) rfl rfl hdg fun H1 e1 z1 o1 => ?_
  exact kk H1 _ (hI.put h1 (fun q => hin (Or.inr (by rw [show n = 0 from q]; exact Nat.zero_le _))) z1 o1 (e1.trans (by show some (Cell.setSlot (arrV _ _ _) _ _) = _; rw [arrV_store])))
theorem gw_astJ (hx : p.tables.exec = Jvm.exec) (hb : c.code = cc) (hK : gK D s) (hI : gI D s A w H locs) {i : Int32} {x : Int64} {w' : gW} (hv : gsJ w a i x = some w') (hdg : decode cc pc = .ok (.lastore, 1))
    (kk : ∀ (H1 : Heap) (locs1 : List Loc), gI D s A w' H1 locs1 → W p l e R s m args below meth c H1 locs1 cells slots Q (F0 m (pc + 1) ls rest)) : W p l e R s m args below meth c H locs cells slots Q (F0 m pc ls (.long x :: .int i :: .ref a :: rest)) := by
  obtain ⟨n, f, h1, hin, rfl⟩ := gas_some hv
  refine W.last hx hb (hI.2.1 a _ h1) ((hK.2 1 .long rfl).1 n f) (fun q => by cases q) (by show ¬ (i < 0 ∨ (arrV _ _ _).slots.size ≤ _); rw [arrV_size]; exact hin) rfl rfl hdg fun H1 e1 z1 o1 => ?_
  exact kk H1 _ (hI.put h1 (fun q => hin (Or.inr (by rw [show n = 0 from q]; exact Nat.zero_le _))) z1 o1 (e1.trans (by show some (Cell.setSlot (arrV _ _ _) _ _) = _; rw [arrV_store])))
end GR
end
section
/-! ===== ONE CONTRACT FORM: 'o' is how it ends (an exception's name, or the answer) and the world behind ===== -/
/-- what holds of statics and texts: outside what may change -/
def gZ (A : Nat → Prop) (U : State) (H : Heap) (g0 : Nat) : Prop :=
  va_Z "java/util/ArrayList" "DEFAULTCAPACITY_EMPTY_ELEMENTDATA" "[Ljava/lang/Object;" (.ref g0) A U H
def gA (w : gW) : Nat → Prop := fun q => (∃ e : gE, w.1 q = some e ∧ gRW e) ∨ w.2 ≤ q
def gPre (D : gD) (g0 : Nat) (w : gW) (U : State) : Prop := U.heap.size = w.2 ∧ (∀ (a : Nat) (e : gE), w.1 a = some e → gAt D a e U.heap) ∧ gK D U ∧ gT U ∧ gZ (gA w) U U.heap g0
/-- the world behind, and nothing else moved -/
def gEnd (D : gD) (w w' : gW) (st t : State) : Prop := t.heap.size = w'.2 ∧ (∀ (a : Nat) (e : gE), w'.1 a = some e → gAt D a e t.heap) ∧ (∀ (a : Nat) (e : gE), w'.1 a = some e → gRW e → gA w a) ∧ va_F (gA w) st t
def gQ (D : gD) (w : gW) (o : (String ⊕ Option Value) × gW) (mc ms : Nat) : Array Value → State → Outcome → State → Prop := fun _ st oc t =>
  gEnd D w o.2 st t ∧ st.WarmedH t.vm ∧ (∃ L : List Loc, st.sameButNew ({ t with vm := st.vm } : State) L mc ms ∧ ∀ z ∈ L, gA w z.base) ∧
    match o.1 with
    | .inl E => ∃ (q : Addr) (ce : Cell), oc = .threw q ∧ t.heap[q]? = some ce ∧ ce.vm = .none ∧ st.vm.findClass E = some ce.cls
    | .inr v => oc = .returned v
def gMet (l : Launch) (y : MethodName) (k : Cond) (rm : Room) (D : gD) (g0 : Nat) (av : List Value) (w : gW) (o : (String ⊕ Option Value) × gW) : Prop :=
  MetFree l y (headSpec [k] rm) (fun v U => v = av.toArray ∧ gPre D g0 w U) (fun _ _ _ _ _ => True) (gQ D w o rm.cells rm.slots)
theorem gPre.blind {D : gD} {g0 : Nat} {w : gW} {U : State} {g : JFrame} {mk : MethodId} {a : Array Value} (h : gPre D g0 w U) : gPre D g0 w (U.calling g mk a) := by
  obtain ⟨h1, h2, h3, h4, h5⟩ := h
  refine ⟨h1, h2, gK.moved (u := U) (U := U.calling g mk a) (Vm.Alike.refl U.vm) h3, gT.warm (s := U) (U := U.calling g mk a) (State.WarmedH.refl U) h4, va_Z.moved (u := U) (U := U.calling g mk a) (Vm.Alike.refl U.vm) h5⟩
def gEndH (D : gD) (w w' : gW) (H H' : Heap) : Prop := H'.size = w'.2 ∧ (∀ (a : Nat) (e : gE), w'.1 a = some e → gAt D a e H') ∧ (∀ (a : Nat) (e : gE), w'.1 a = some e → gRW e → gA w a) ∧ H.size ≤ H'.size ∧ ∀ q : Nat, q < H.size → ¬ gA w q → H'[q]? = H[q]?
theorem gEnd.heaps {D : gD} {w w' : gW} {st t : State} (h : gEnd D w w' st t) : gEndH D w w' st.heap t.heap := ⟨h.1, h.2.1, h.2.2.1, h.2.2.2.1, h.2.2.2.2⟩
section GB
variable {l : Launch} {R : Room} {p : Program} {e : Env} {below : List Frame} {s : State} {sargs : Array Value} {y : MethodName} {len W9 : Nat}
/-- a contract used at a call: the callee's frame is laid, it runs, it returns or throws -/
theorem gw_back {k : Cond} {rm : Room} {D : gD} {g0 : Nat} {av : List Value} {w : gW} {o : (String ⊕ Option Value) × gW} {maxL : Nat} (hM : gMet l y k rm D g0 av w o) (hframes : rm.frames + 1 ≤ R.frames) (hlocals : W9 + (maxL + 11) + rm.locals ≤ R.locals)
    (hk : ∀ (a' : Array Value) (U : State), s.WarmedH U.vm → k.before a' U = true) (hinit : ∀ (a' : Array Value) (U : State), s.WarmedH U.vm → (Cond.initialized y.cls).before a' U = true)
    (hsp : ∀ (a : Array Value) (U : State) (mk : MethodId), U.methodNamed? y = some mk → k.before a U = true → ∃ methY cY, U.vm.method? mk = some methY ∧ methY.code = some cY ∧ cY.maxLocals = maxL)
    {m : MethodId} {meth : Method} {c : Code} {U : State} {Ls : List Loc} {c0 s0 : Nat} (X : Stand p l e R s m sargs below meth c U Ls c0 s0) {g : JFrame} {ig : Instr} {mk : MethodId} (hg : g.method = m) (hsize : g.locals.size = c.maxLocals) (hdg : decode c.code g.pc = .ok (ig, len))
    (hW : 2 * g.monitorRoom + (g.stack.map fun v => v.category).sum ≤ W9) (hn : U.methodNamed? y = some mk) (hc : c0 + rm.cells ≤ R.cells) (hs : s0 + rm.slots ≤ R.slots) (hP : gPre D g0 w U) :
    ∃ (T' : State) (L : List Loc), Stand p l e R s m sargs below meth c T' (Ls ++ L) (c0 + rm.cells) (s0 + rm.slots) ∧ (∀ z ∈ L, gA w z.base) ∧ gEndH D w o.2 U.heap T'.heap ∧
      match o.1 with
      | .inr v => Steps p.tables e below (doInvoke e (U.setTop g) [] mk av.toArray).1 (T'.setTop { g with pc := g.pc + len, stack := v.toList ++ g.stack })
      | .inl E => ∃ (q : Addr) (ce : Cell), T'.heap[q]? = some ce ∧ ce.vm = .none ∧ U.vm.findClass E = some ce.cls ∧ Steps p.tables e below (doInvoke e (U.setTop g) [] mk av.toArray).1 ((T'.setTop g).pushFrame (.throwing q)) := by
  have h2 : k.before av.toArray U = true := hk _ _ X.warmed
  obtain ⟨methY, cY, hmY, hcY, hlY⟩ := hsp av.toArray U mk hn h2
  obtain ⟨kY, hkY, -⟩ := className_of_methodNamed hn
  have hinitY : kY.init = .initialized := Cond.initialized_spec (findClass_of_methodNamed hn) hkY (hinit av.toArray U X.warmed)
  have h : At U g.method c below := by rw [hg]; exact X.here
  have happ : (headSpec [k] rm).appliesLoose y e.platform (U.calling g mk av.toArray) = true :=
    Spec.appliesLoose_calling (g := g) h hdg hn hkY hinitY
      (X.room_calling (g := g) (R' := (headSpec [k] rm).room) hsize hmY hcY hframes (by rw [hlY]; have q : (headSpec [k] rm).room.locals = rm.locals := rfl; omega) hc hs) (atoms_intro fun z hz => by rw [List.mem_singleton.mp hz]; exact h2)
  obtain ⟨mid, hmid⟩ := h.above
  have hfr : (U.setTop g).frames = (.java g :: mid) ++ below := by rw [State.frames_setTop' g h.top, hmid]; rfl
  obtain ⟨oc, t, hsteps, -, hend, hq⟩ := Steps.callFree hM p X.admits X.cas X.clock (acts := []) hfr happ ⟨rfl, hP.blind⟩ trivial
  have hq' : gQ D w o rm.cells rm.slots av.toArray (U.calling g mk av.toArray) oc t := hq
  rw [State.frames_setTop' g h.top] at hend
  obtain ⟨g₀, hg0⟩ := Option.isSome_iff_exists.mp h.top
  obtain ⟨r, hr⟩ := State.topJava?_eq_some.mp hg0
  obtain ⟨hE, hWt, ⟨L, hsm, hL⟩, hout⟩ := hq'
  have hW' : U.WarmedH t.vm := hWt
  obtain ⟨e1, e2, e3, e4, e5, e6⟩ := id hsm
  obtain ⟨T', hT'⟩ : ∃ T', T' = (({ U with heap := t.heap, slotsUsed := t.slotsUsed } : State).setVm t.vm) := ⟨_, rfl⟩
  have hr' : T'.frames = .java g₀ :: r := by rw [hT']; exact hr
  have ht : t = ({ (U.calling g mk av.toArray).setFrames t.frames with heap := t.heap, slotsUsed := t.slotsUsed } : State).setVm t.vm := by
    have q : t = ({ t with vm := (U.calling g mk av.toArray).vm } : State).setVm t.vm := rfl
    rw [e1] at q
    exact q
  have hsame : U.sameButNew ({ U with heap := t.heap, slotsUsed := t.slotsUsed } : State) L rm.cells rm.slots := by
    refine ⟨?_, e2, e3, e4, e5, e6⟩
    obtain ⟨z, hz, -⟩ := State.frames_cons hr
    show ({ U with heap := t.heap, slotsUsed := t.slotsUsed } : State) = { U.setFrames U.frames with heap := t.heap, slotsUsed := t.slotsUsed }
    rw [State.setFrames_self hz]
  have X' : Stand p l e R s m sargs below meth c T' (Ls ++ L) (c0 + rm.cells) (s0 + rm.slots) := by
    subst hg
    rw [hT']
    exact ⟨X.admits, X.cas, X.clock, X.frames, X.room, X.hears, X.method, X.code, (X.here.setHeapUsed t.heap t.slotsUsed).setVm hW'.alike, X.tail, State.WarmedH.trans X.warmed hW', X.limits, X.bytes, X.same.trans (hsame.setVm s.vm)⟩
  have hheap : T'.heap = t.heap := by rw [hT']; rfl
  refine ⟨T', L, X', hL, by rw [hheap]; exact hE.heaps, ?_⟩
  obtain ⟨o1, o2⟩ := o
  cases o1 with
  | inr v =>
    have hv : oc = .returned v := hout
    subst hv
    obtain ⟨c₂, i₂, len₂, hc₂, hd₂, hf₂⟩ := hend
    have hcc : c₂ = c := by
      have q1 : t.code? g.method = U.code? g.method := by rw [State.code?_eq, State.code?_eq, hW'.alike.method?]
      exact Option.some.inj (hc₂.symm.trans (q1.trans h.code))
    subst hcc
    have hlen : len₂ = len := by rw [hdg] at hd₂; cases hd₂; rfl
    subst hlen
    have hs₂ : t = T'.setTop { g with pc := g.pc + len₂, stack := v.toList ++ g.stack } := by
      refine ht.trans ?_
      rw [hf₂, State.calling_eq h.top, State.setFrames_setFrames, State.setTop_of_frames _ hr', hr, hT']
      rfl
    show Steps p.tables e below _ (T'.setTop { g with pc := g.pc + len₂, stack := v.toList ++ g.stack })
    rw [← hs₂]
    exact hsteps
  | inl E =>
    obtain ⟨q, ce, rfl, hce, hcv, hcl⟩ := hout
    have hf₂ : t.frames = .throwing q :: .java g :: U.frames.tail := hend
    have hs₂ : t = (T'.setTop g).pushFrame (.throwing q) := by
      refine ht.trans ?_
      rw [hf₂, State.calling_eq h.top, State.setFrames_setFrames, State.pushFrame, State.frames_setTop _ hr', State.setTop_of_frames _ hr', State.setFrames_setFrames, hr, hT']
      rfl
    refine ⟨q, ce, by rw [hheap]; exact hce, hcv, hcl, ?_⟩
    rw [← hs₂]
    exact hsteps
end GB
/-- a call as a whole -/
def gRun (p : Program) (l : Launch) (e : Env) (R : Room) (s : State) (m : MethodId) (args : Array Value) (below : List Frame) (meth : Method) (c : Code) (H : Heap) (locs : List Loc) (cells slots : Nat) (g : JFrame) (rest : List Value) (rm : Room) (D : gD) (w : gW) (o : (String ⊕ Option Value) × gW) : Prop :=
  ∀ T : State, T.heap = H → Stand p l e R s m args below meth c T locs cells slots → ∃ (T' : State) (L : List Loc), Stand p l e R s m args below meth c T' (locs ++ L) (cells + rm.cells) (slots + rm.slots) ∧ (∀ z ∈ L, gA w z.base) ∧ gEndH D w o.2 H T'.heap ∧
    match o.1 with
    | .inr v => ∀ tg, Steps p.tables e below (T'.setTop { g with pc := g.pc + 3, stack := v.toList ++ rest }) tg → Steps p.tables e below (T.setTop g) tg
    | .inl E => ∃ (q : Addr) (ce : Cell), T'.heap[q]? = some ce ∧ ce.vm = .none ∧ s.vm.findClass E = some ce.cls ∧ Steps p.tables e below (T.setTop g) ((T'.setTop { g with stack := rest }).pushFrame (.throwing q))
section GC
variable {p : Program} {l : Launch} {e : Env} {R : Room} {s : State} {m : MethodId} {args : Array Value} {below : List Frame} {meth : Method} {c : Code} {H : Heap} {locs : List Loc} {cells slots : Nat}
/-- what a call needs to know of its callee, whoever calls -/
def gCe (y : MethodName) (k : Cond) (maxL n : Nat) (st : Bool) : Prop :=
  (k ∈ gAll ∧ goodWord k = true) ∧ (Cond.initialized y.cls ∈ gAll) ∧ (if st then Cond.static y ∈ gAll else Cond.instanceMethod y ∈ gAll) ∧ (y.cls ≠ "java/lang/invoke/MethodHandle" ∧ y.cls ≠ "java/lang/invoke/VarHandle") ∧ (parseMethodDescriptor y.desc).map (fun d => d.parameters.length) = some n ∧
  (∀ (a : Array Value) (U : State) (mk : MethodId), U.methodNamed? y = some mk → k.before a U = true → ∃ methY cY, U.vm.method? mk = some methY ∧ methY.code = some cY ∧ cY.maxLocals = maxL ∧ parseMethodDescriptor y.desc = some methY.sig)
theorem gCe.code {y : MethodName} {b : ByteArray} {maxL n : Nat} {ret : Option FieldType} {st : Bool} (h1 : Cond.code y b maxL ret ∈ gAll) (h2 : Cond.initialized y.cls ∈ gAll) (h3 : if st then Cond.static y ∈ gAll else Cond.instanceMethod y ∈ gAll) (h4 : y.cls ≠ "java/lang/invoke/MethodHandle" ∧ y.cls ≠ "java/lang/invoke/VarHandle") (h5 : (parseMethodDescriptor y.desc).map (fun d => d.parameters.length) = some n) : gCe y (.code y b maxL ret) maxL n st := by
  refine ⟨⟨h1, rfl⟩, h2, h3, h4, h5, fun a U mk hn hb => ?_⟩
  obtain ⟨methM, cM, hmethM, hcM, -, hlM, -, -, -, hsigM⟩ := Cond.code_spec hn hb
  exact ⟨methM, cM, hmethM, hcM, hlM, hsigM⟩
theorem gCe.len {y : MethodName} {k : Cond} {maxL n : Nat} {st : Bool} (h : gCe y k maxL n st) {sig : MethodDescriptor} (hs : parseMethodDescriptor y.desc = some sig) : n = sig.parameters.length := by
  have h2 := h.2.2.2.2.1
  rw [hs] at h2
  exact (Option.some.inj h2).symm
theorem gCe.k {y : MethodName} {k : Cond} {maxL n : Nat} {st : Bool} (h : gCe y k maxL n st) (hT : gT s) : ∀ (a' : Array Value) (U : State), s.WarmedH U.vm → k.before a' U = true := fun a' U hW => word_at hW (good_of_word h.1.2) (hT _ h.1.1 #[])
theorem gCe.i {y : MethodName} {k : Cond} {maxL n : Nat} {st : Bool} (h : gCe y k maxL n st) (hT : gT s) : ∀ (a' : Array Value) (U : State), s.WarmedH U.vm → (Cond.initialized y.cls).before a' U = true := fun a' U hW => word_at hW (good_of_word rfl) (hT _ h.2.1 #[])
theorem gPre.up {D : gD} {g0 : Nat} {w : gW} {A : Nat → Prop} {T : State} {vm₁ : Vm} (hT0 : T.heap = H) (hW : s.WarmedH vm₁) (hK : gK D s) (hT : gT s) (hZ : gZ A s s.heap g0) (hA : ∀ q : Nat, s.heap.size ≤ q → A q) (hI : gI D s A w H locs) : gPre D g0 w (T.setVm vm₁) := by
  obtain ⟨h1, h2, h3, h4⟩ := hI
  have hh : (T.setVm vm₁).heap = H := hT0
  have hsub : ∀ q : Nat, gA w q → A q := fun q hq => hq.elim (fun ⟨e, q1, q2⟩ => h4 q e q1 q2) (fun z => hA q (Nat.le_trans h3.1 (by rw [h1]; exact z)))
  refine ⟨by rw [hh]; exact h1, fun a e he => by rw [hh]; exact h2 a e he, gK.moved hW.alike hK, gT.warm (U := T.setVm vm₁) hW hT, ?_⟩
  rw [hh]
  exact va_Z.narrow (va_Z.moved (U := T.setVm vm₁) hW.alike (va_Z.kept hZ h3.2.1)) hsub
variable {y : MethodName} {k : Cond} {maxL n index nL : Nat} {rm : Room} {D : gD} {g0 : Nat} {w : gW} {A : Nat → Prop} {o : (String ⊕ Option Value) × gW} {As rest : List Value} {g : JFrame} {cc : ByteArray} {own : String}
theorem gw_runS (hx : p.tables.exec = Jvm.exec) (hb : c.code = cc) (hml : c.maxLocals = nL) (hown : s.vm.findClass own = some m.cls) (hT : gT s) (hK : gK D s) (hZ : gZ A s s.heap g0) (hA : ∀ q : Nat, s.heap.size ≤ q → A q) (hI : gI D s A w H locs)
    (hM : gMet l y k rm D g0 As w o) (hC : gCe y k maxL n true) (hl : Cond.methodLink own index y ∈ gAll) (hR : rm.frames + 1 ≤ R.frames ∧ 8 + (maxL + 11) + rm.locals ≤ R.locals)
    (hg : g.method = m) (hn : As.length = n) (hsize : g.locals.size = nL) (hstack : g.stack = As.reverse ++ rest) (hW : 2 * g.monitorRoom + (rest.map fun v => v.category).sum ≤ 8) (hdg : decode cc g.pc = .ok (.invokestatic index, 3)) (hf : cells + rm.cells ≤ R.cells ∧ slots + rm.slots ≤ R.slots) :
    gRun p l e R s m args below meth c H locs cells slots g rest rm D w o := by
  intro T hT0 X
  obtain ⟨mk, hnamed⟩ : ∃ mk, s.methodNamed? y = some mk := by
    have h := hT _ hC.2.2.1 #[]
    revert h
    simp only [Cond.before, Cond.holds, Cond.value]
    cases s.methodNamed? y with
    | none => simp
    | some mk => exact fun _ => ⟨mk, rfl⟩
  obtain ⟨methM, cM, hmethM, -, -, hsigM⟩ := hC.2.2.2.2.2 #[] s mk hnamed (hT _ hC.1.1 #[])
  have hstatic : methM.isStatic = true := Cond.static_spec hnamed hmethM (hT _ hC.2.2.1 #[])
  obtain ⟨kP, hkP, -⟩ := className_of_methodNamed hnamed
  have hinitP : kP.init = .initialized := Cond.initialized_spec (findClass_of_methodNamed hnamed) hkP (hT _ hC.2.1 #[])
  obtain ⟨vm₁, X₁, hstep₁⟩ := X.invokestatic hx hown (hT _ hl args) hnamed hmethM hstatic hkP hinitP hC.2.2.2.1 (g := g) hg (argsL := As) (rest := rest) (hn.trans (hC.len hsigM)) hstack (by rw [hb]; exact hdg)
  obtain ⟨T', L, X', hL, hE, hout⟩ := gw_back (W9 := 8) (len := 3) (maxL := maxL) hM hR.1 hR.2 (hC.k hT) (hC.i hT) (fun a U mk hn hb => by obtain ⟨q1, q2, q3, q4, q5, -⟩ := hC.2.2.2.2.2 a U mk hn hb; exact ⟨q1, q2, q3, q4, q5⟩) X₁ (g := { g with stack := rest }) (ig := .invokestatic index) hg (hsize.trans hml.symm) (by rw [hb]; exact hdg) hW (X₁.named hnamed) hf.1 hf.2 (gPre.up hT0 X₁.warmed hK hT hZ hA hI)
  refine ⟨T', L, X', hL, by rw [← hT0]; exact hE, ?_⟩
  obtain ⟨o1, o2⟩ := o
  cases o1 with
  | inr v => exact fun tg h => hstep₁ _ fun acts => by rw [doInvoke_state]; exact hout.trans h
  | inl E =>
    obtain ⟨q, ce, h1, h2, h3, h4⟩ := hout
    refine ⟨q, ce, h1, h2, ?_, hstep₁ _ fun acts => by rw [doInvoke_state]; exact h4⟩
    rw [X₁.warmed.alike.findClass] at h3
    exact h3
/-- the receiver of a call -/
theorem gI.recv {b ci : Nat} {C : String} {T : u_T} {N : Nat} {u : Unit} (hK : gK D s) (hI : gI D s A w H locs) (hc : gCl[ci]? = some (C, T, N)) (h : gck w b ci = some u) : ∃ cellB : Cell, H[b]? = some cellB ∧ cellB.vm.isStatics = false ∧ s.vm.findClass C = some cellB.cls := by
  obtain ⟨fs, h1⟩ := gck_some h
  obtain ⟨r, hr, cell, q1, q2, q3, q4⟩ := hI.2.1 b _ h1
  exact ⟨cell, q1, by rw [q3]; rfl, by rw [q2]; exact (hK.1 ci _ hc).2.1⟩
theorem gw_runV {b ci N : Nat} {C : String} {T0 : u_T} {u : Unit} (hx : p.tables.exec = Jvm.exec) (hb : c.code = cc) (hml : c.maxLocals = nL) (hown : s.vm.findClass own = some m.cls) (hT : gT s) (hK : gK D s) (hZ : gZ A s s.heap g0) (hA : ∀ q : Nat, s.heap.size ≤ q → A q) (hI : gI D s A w H locs)
    (hc : gCl[ci]? = some (C, T0, N)) (hck : gck w b ci = some u) (hM : gMet l y k rm D g0 (.ref b :: As) w o) (hC : gCe y k maxL n false) (hl : Cond.methodLink own index y ∈ gAll) (hse : Cond.selects C y y ∈ gAll) (hR : rm.frames + 1 ≤ R.frames ∧ 8 + (maxL + 11) + rm.locals ≤ R.locals)
    (hg : g.method = m) (hn : As.length = n) (hsize : g.locals.size = nL) (hstack : g.stack = As.reverse ++ .ref b :: rest) (hW : 2 * g.monitorRoom + (rest.map fun v => v.category).sum ≤ 8) (hdg : decode cc g.pc = .ok (.invokevirtual index, 3)) (hf : cells + rm.cells ≤ R.cells ∧ slots + rm.slots ≤ R.slots) :
    gRun p l e R s m args below meth c H locs cells slots g rest rm D w o := by
  intro T hT0 X
  obtain ⟨mk, methM, hnamed, hmethM, hstM, habM⟩ := Cond.instanceMethod_spec (hT _ hC.2.2.1 args)
  obtain ⟨methM', cM, hmethM', -, -, hsigM⟩ := hC.2.2.2.2.2 #[] s mk hnamed (hT _ hC.1.1 #[])
  cases hmethM.symm.trans hmethM'
  obtain ⟨cellB, hcB, hoB, hclB⟩ := hI.recv hK hc hck
  obtain ⟨c2, r2, m2, q1, q2, q3, q4, kP, hkP, hkPi⟩ := Cond.selects_spec (hT _ hse args)
  cases hclB.symm.trans q1
  cases (State.methodFound?_of_named hnamed hC.2.2.2.1).symm.trans q2
  cases hnamed.symm.trans q3
  have hselP : selectMethod e.platform s.vm cellB.cls mk = .method mk := by rw [Launch.admits_selectMethod X.admits]; exact q4
  obtain ⟨vm₁, X₁, hstep₁⟩ := X.invokevirtual hx hown (hT _ hl args) hnamed hmethM hstM hkP hkPi hC.2.2.2.1 (a := b) (cell := cellB) (by rw [hT0]; exact hcB)
    (fun z h => by rw [h] at hoB; cases hoB) hselP hmethM habM hkP hkPi (g := g) hg (argsL := As) (rest := rest) (hn.trans (hC.len hsigM)) hstack (by rw [hb]; exact hdg)
  obtain ⟨T', L, X', hL, hE, hout⟩ := gw_back (W9 := 8) (len := 3) (maxL := maxL) hM hR.1 hR.2 (hC.k hT) (hC.i hT) (fun a U mk hn hb => by obtain ⟨q1, q2, q3, q4, q5, -⟩ := hC.2.2.2.2.2 a U mk hn hb; exact ⟨q1, q2, q3, q4, q5⟩) X₁ (g := { g with stack := rest }) (ig := .invokevirtual index) hg (hsize.trans hml.symm) (by rw [hb]; exact hdg) hW (X₁.named hnamed) hf.1 hf.2 (gPre.up hT0 X₁.warmed hK hT hZ hA hI)
  refine ⟨T', L, X', hL, by rw [← hT0]; exact hE, ?_⟩
  obtain ⟨o1, o2⟩ := o
  cases o1 with
  | inr v => exact fun tg h => hstep₁ _ fun acts => by rw [doInvoke_state]; exact hout.trans h
  | inl E =>
    obtain ⟨q, ce, h1, h2, h3, h4⟩ := hout
    refine ⟨q, ce, h1, h2, ?_, hstep₁ _ fun acts => by rw [doInvoke_state]; exact h4⟩
    rw [X₁.warmed.alike.findClass] at h3
    exact h3
theorem gw_runI {b : Nat} {bs : ByteArray} (hx : p.tables.exec = Jvm.exec) (hb : c.code = cc) (hml : c.maxLocals = nL) (hown : s.vm.findClass own = some m.cls) (hT : gT s) (hK : gK D s) (hZ : gZ A s s.heap g0) (hA : ∀ q : Nat, s.heap.size ≤ q → A q) (hI : gI D s A w H locs)
    (hM : gMet l y (.code y bs maxL none) rm D g0 (.ref b :: As) w o) (hC : gCe y (.code y bs maxL none) maxL n false) (hl : Cond.methodLink own index y ∈ gAll) (hy1 : y.name = "<init>") (hR : rm.frames + 1 ≤ R.frames ∧ 8 + (maxL + 11) + rm.locals ≤ R.locals)
    (hg : g.method = m) (hn : As.length = n) (hsize : g.locals.size = nL) (hstack : g.stack = As.reverse ++ .ref b :: rest) (hW : 2 * g.monitorRoom + (rest.map fun v => v.category).sum ≤ 8) (hdg : decode cc g.pc = .ok (.invokespecial index, 3)) (hf : cells + rm.cells ≤ R.cells ∧ slots + rm.slots ≤ R.slots) :
    gRun p l e R s m args below meth c H locs cells slots g rest rm D w o := by
  subst hg
  intro T hT0 X
  have hpl : e.platform.magicAccessors = ({} : Platform).magicAccessors := by rw [X.admits.platform]
  obtain ⟨mk, methM, cM, kP, vm₁, hnamed, hmethM, hcodeM, -, hlocalsM, -, hkP, -, hW₁, hstep₁⟩ := Steps.initColdArgs (e := e) X.here hx X.warmed hpl hown hy1 hC.2.2.2.1 (hT _ hl args) (hT _ hC.2.2.1 args) (hT _ hC.1.1 args) (f := g) rfl (fun sig h => hn.trans (hC.len h)) hstack (by rw [hb]; exact hdg)
  have X₁ := X.noted hW₁
  obtain ⟨T', L, X', hL, hE, hout⟩ := gw_back (W9 := 8) (len := 3) (maxL := maxL) hM hR.1 hR.2 (hC.k hT) (hC.i hT) (fun a U mk hn hb => by obtain ⟨q1, q2, q3, q4, q5, -⟩ := hC.2.2.2.2.2 a U mk hn hb; exact ⟨q1, q2, q3, q4, q5⟩) X₁ (g := { g with stack := rest }) (ig := .invokespecial index) rfl (hsize.trans hml.symm) (by rw [hb]; exact hdg) hW (X₁.named hnamed) hf.1 hf.2 (gPre.up hT0 X₁.warmed hK hT hZ hA hI)
  refine ⟨T', L, X', hL, by rw [← hT0]; exact hE, ?_⟩
  obtain ⟨o1, o2⟩ := o
  cases o1 with
  | inr v => exact fun tg h => hstep₁ _ fun acts => by rw [doInvoke_state]; exact hout.trans h
  | inl E =>
    obtain ⟨q, ce, h1, h2, h3, h4⟩ := hout
    refine ⟨q, ce, h1, h2, ?_, hstep₁ _ fun acts => by rw [doInvoke_state]; exact h4⟩
    rw [X₁.warmed.alike.findClass] at h3
    exact h3
theorem gw_runIN {b : Nat} {bs : ByteArray} {host : String} (hx : p.tables.exec = Jvm.exec) (hb : c.code = cc) (hml : c.maxLocals = nL) (hown : s.vm.findClass own = some m.cls) (hT : gT s) (hK : gK D s) (hZ : gZ A s s.heap g0) (hA : ∀ q : Nat, s.heap.size ≤ q → A q) (hI : gI D s A w H locs)
    (hM : gMet l y (.code y bs maxL none) rm D g0 (.ref b :: As) w o) (hC : gCe y (.code y bs maxL none) maxL n false) (hl : Cond.methodLinkNest own index y host ∈ gAll) (hy1 : y.name = "<init>") (hR : rm.frames + 1 ≤ R.frames ∧ 8 + (maxL + 11) + rm.locals ≤ R.locals)
    (hg : g.method = m) (hn : As.length = n) (hsize : g.locals.size = nL) (hstack : g.stack = As.reverse ++ .ref b :: rest) (hW : 2 * g.monitorRoom + (rest.map fun v => v.category).sum ≤ 8) (hdg : decode cc g.pc = .ok (.invokespecial index, 3)) (hf : cells + rm.cells ≤ R.cells ∧ slots + rm.slots ≤ R.slots) :
    gRun p l e R s m args below meth c H locs cells slots g rest rm D w o := by
  subst hg
  intro T hT0 X
  have hpl : e.platform.magicAccessors = ({} : Platform).magicAccessors := by rw [X.admits.platform]
  obtain ⟨mk, methM, cM, kP, vm₁, hnamed, hmethM, hcodeM, -, hlocalsM, -, hkP, -, hW₁, hstep₁⟩ := Steps.initColdArgsNest (e := e) X.here hx X.warmed hpl hown hy1 hC.2.2.2.1 (hT _ hl args) (hT _ hC.2.2.1 args) (hT _ hC.1.1 args) (f := g) rfl (fun sig h => hn.trans (hC.len h)) hstack (by rw [hb]; exact hdg)
  have X₁ := X.noted hW₁
  obtain ⟨T', L, X', hL, hE, hout⟩ := gw_back (W9 := 8) (len := 3) (maxL := maxL) hM hR.1 hR.2 (hC.k hT) (hC.i hT) (fun a U mk hn hb => by obtain ⟨q1, q2, q3, q4, q5, -⟩ := hC.2.2.2.2.2 a U mk hn hb; exact ⟨q1, q2, q3, q4, q5⟩) X₁ (g := { g with stack := rest }) (ig := .invokespecial index) rfl (hsize.trans hml.symm) (by rw [hb]; exact hdg) hW (X₁.named hnamed) hf.1 hf.2 (gPre.up hT0 X₁.warmed hK hT hZ hA hI)
  refine ⟨T', L, X', hL, by rw [← hT0]; exact hE, ?_⟩
  obtain ⟨o1, o2⟩ := o
  cases o1 with
  | inr v => exact fun tg h => hstep₁ _ fun acts => by rw [doInvoke_state]; exact hout.trans h
  | inl E =>
    obtain ⟨q, ce, h1, h2, h3, h4⟩ := hout
    refine ⟨q, ce, h1, h2, ?_, hstep₁ _ fun acts => by rw [doInvoke_state]; exact h4⟩
    rw [X₁.warmed.alike.findClass] at h3
    exact h3
end GC
end
section
/-! ===== a method's body: how it ends ===== -/
def gMQ (below : List Frame) (D : gD) (w : gW) (o : (String ⊕ Option Value) × gW) (mc ms : Nat) (a : Array Value) (s : State) : State → Prop := fun t => ∃ oc, t.status = .running ∧ Ended t below oc ∧ gQ D w o mc ms a s oc t
/-- the frame g, with q thrown over it -/
def gXW (p : Program) (l : Launch) (e : Env) (R : Room) (s : State) (m : MethodId) (args : Array Value) (below : List Frame) (meth : Method) (c : Code) (H : Heap) (locs : List Loc) (cells slots : Nat) (Q : State → Prop) (g : JFrame) (q : Addr) : Prop :=
  ∀ T : State, T.heap = H → Stand p l e R s m args below meth c T locs cells slots → ∃ t, Steps p.tables e below ((T.setTop g).pushFrame (.throwing q)) t ∧ Q t
def goI (x : (String ⊕ Int32) × gW) : (String ⊕ Option Value) × gW := (match x.1 with | .inl E => .inl E | .inr v => .inr (some (.int v)), x.2)
def goJ (x : (String ⊕ Int64) × gW) : (String ⊕ Option Value) × gW := (match x.1 with | .inl E => .inl E | .inr v => .inr (some (.long v)), x.2)
def goA (x : (String ⊕ Nat) × gW) : (String ⊕ Option Value) × gW := (match x.1 with | .inl E => .inl E | .inr v => .inr (some (.ref v)), x.2)
def goV (x : (String ⊕ Unit) × gW) : (String ⊕ Option Value) × gW := (match x.1 with | .inl E => .inl E | .inr _ => .inr none, x.2)
/-- how an exception leaves -/
abbrev gEx (p : Program) (l : Launch) (e : Env) (R : Room) (s : State) (m : MethodId) (args : Array Value) (below : List Frame) (meth : Method) (c : Code) (Q : State → Prop) (D : gD) (A : Nat → Prop) {α : Type} (r : (String ⊕ α) × gW) : Prop :=
  ∀ (E : String) (w1 : gW), r = (.inl E, w1) → ∀ (pc : Nat) (ls : Array Slot) (rest : List Value) (H : Heap) (locs : List Loc) (q : Addr) (ce : Cell), gI D s A w1 H locs → H[q]? = some ce → ce.vm = .none → s.vm.findClass E = some ce.cls → gXW p l e R s m args below meth c H locs R.cells R.slots Q (F0 m pc ls rest) q
section GM
variable {p : Program} {l : Launch} {e : Env} {R : Room} {s : State} {m : MethodId} {args : Array Value} {below : List Frame} {meth : Method} {c : Code} {H : Heap} {locs : List Loc} {cells slots : Nat} {Q : State → Prop}
variable {pc : Nat} {ls : Array Slot} {rest st0 : List Value} {D : gD} {A : Nat → Prop} {w : gW} {rm : Room}
theorem gI.after {w' : gW} {H' : Heap} {L : List Loc} (hA : ∀ q : Nat, s.heap.size ≤ q → A q) (hI : gI D s A w H locs) (hE : gEndH D w w' H H') (hL : ∀ z ∈ L, gA w z.base) : gI D s A w' H' (locs ++ L) := by
  obtain ⟨h1, h2, h3, h4⟩ := hI
  obtain ⟨g1, g2, g3, g4, g5⟩ := hE
  have hsub : ∀ q : Nat, gA w q → A q := fun q hq => hq.elim (fun ⟨e, q1, q2⟩ => h4 q e q1 q2) (fun z => hA q (Nat.le_trans h3.1 (by rw [h1]; exact z)))
  refine ⟨g1, g2, ⟨Nat.le_trans h3.1 g4, fun q q1 q2 => ?_, fun z hz => ?_⟩, fun a e he hr => hsub _ (g3 a e he hr)⟩
  · rw [g5 q (Nat.lt_of_lt_of_le q1 h3.1) (fun z => q2 (hsub q z))]
    exact h3.2.1 q q1 q2
  · rcases List.mem_append.mp hz with h | h
    · exact h3.2.2 z h
    · exact hsub _ (hL z h)
theorem gw_callI {β : Type} {X : gX Int32} {K : Int32 → gW → gX β} {r : (String ⊕ β) × gW} {ov : (String ⊕ Int32) × gW} (e1 : X = some ov) (h : gbind X K = some r) (hr : gRun p l e R s m args below meth c H locs cells slots (F0 m pc ls st0) rest rm D w (goI ov)) (hI : gI D s A w H locs) (hA : ∀ q : Nat, s.heap.size ≤ q → A q) (hexc : gEx p l e R s m args below meth c Q D A r) (hc : cells + rm.cells ≤ R.cells) (hs : slots + rm.slots ≤ R.slots)
    (kk : ∀ (v : Int32) (w1 : gW) (H1 : Heap) (locs1 : List Loc), K v w1 = some r → gI D s A w1 H1 locs1 → W p l e R s m args below meth c H1 locs1 (cells + rm.cells) (slots + rm.slots) Q (F0 m (pc + 3) ls (.int v :: rest))) : W p l e R s m args below meth c H locs cells slots Q (F0 m pc ls st0) := by
  subst e1
  obtain ⟨ov, w1⟩ := ov
  intro T hT X
  obtain ⟨T', L, X', hL, hE, hout⟩ := hr T hT X
  cases ov with
  | inr v =>
    obtain ⟨t2, a1, b1⟩ := kk v w1 T'.heap (locs ++ L) h (hI.after hA hE hL) T' rfl X'
    exact ⟨t2, hout t2 a1, b1⟩
  | inl E =>
    obtain ⟨q, ce, h1, h2, h3, h4⟩ := hout
    obtain ⟨t2, a1, b1⟩ := hexc E w1 (Option.some.inj h).symm pc ls rest T'.heap (locs ++ L) q ce (hI.after hA hE hL) h1 h2 h3 T' rfl (stand_widen X' hc hs)
    exact ⟨t2, h4.trans a1, b1⟩
theorem gw_callJ {β : Type} {X : gX Int64} {K : Int64 → gW → gX β} {r : (String ⊕ β) × gW} {ov : (String ⊕ Int64) × gW} (e1 : X = some ov) (h : gbind X K = some r) (hr : gRun p l e R s m args below meth c H locs cells slots (F0 m pc ls st0) rest rm D w (goJ ov)) (hI : gI D s A w H locs) (hA : ∀ q : Nat, s.heap.size ≤ q → A q) (hexc : gEx p l e R s m args below meth c Q D A r) (hc : cells + rm.cells ≤ R.cells) (hs : slots + rm.slots ≤ R.slots)
    (kk : ∀ (v : Int64) (w1 : gW) (H1 : Heap) (locs1 : List Loc), K v w1 = some r → gI D s A w1 H1 locs1 → W p l e R s m args below meth c H1 locs1 (cells + rm.cells) (slots + rm.slots) Q (F0 m (pc + 3) ls (.long v :: rest))) : W p l e R s m args below meth c H locs cells slots Q (F0 m pc ls st0) := by
  subst e1
  obtain ⟨ov, w1⟩ := ov
  intro T hT X
  obtain ⟨T', L, X', hL, hE, hout⟩ := hr T hT X
  cases ov with
  | inr v =>
    obtain ⟨t2, a1, b1⟩ := kk v w1 T'.heap (locs ++ L) h (hI.after hA hE hL) T' rfl X'
    exact ⟨t2, hout t2 a1, b1⟩
  | inl E =>
    obtain ⟨q, ce, h1, h2, h3, h4⟩ := hout
    obtain ⟨t2, a1, b1⟩ := hexc E w1 (Option.some.inj h).symm pc ls rest T'.heap (locs ++ L) q ce (hI.after hA hE hL) h1 h2 h3 T' rfl (stand_widen X' hc hs)
    exact ⟨t2, h4.trans a1, b1⟩
theorem gw_callA {β : Type} {X : gX Nat} {K : Nat → gW → gX β} {r : (String ⊕ β) × gW} {ov : (String ⊕ Nat) × gW} (e1 : X = some ov) (h : gbind X K = some r) (hr : gRun p l e R s m args below meth c H locs cells slots (F0 m pc ls st0) rest rm D w (goA ov)) (hI : gI D s A w H locs) (hA : ∀ q : Nat, s.heap.size ≤ q → A q) (hexc : gEx p l e R s m args below meth c Q D A r) (hc : cells + rm.cells ≤ R.cells) (hs : slots + rm.slots ≤ R.slots)
    (kk : ∀ (v : Nat) (w1 : gW) (H1 : Heap) (locs1 : List Loc), K v w1 = some r → gI D s A w1 H1 locs1 → W p l e R s m args below meth c H1 locs1 (cells + rm.cells) (slots + rm.slots) Q (F0 m (pc + 3) ls (.ref v :: rest))) : W p l e R s m args below meth c H locs cells slots Q (F0 m pc ls st0) := by
  subst e1
  obtain ⟨ov, w1⟩ := ov
  intro T hT X
  obtain ⟨T', L, X', hL, hE, hout⟩ := hr T hT X
  cases ov with
  | inr v =>
    obtain ⟨t2, a1, b1⟩ := kk v w1 T'.heap (locs ++ L) h (hI.after hA hE hL) T' rfl X'
    exact ⟨t2, hout t2 a1, b1⟩
  | inl E =>
    obtain ⟨q, ce, h1, h2, h3, h4⟩ := hout
    obtain ⟨t2, a1, b1⟩ := hexc E w1 (Option.some.inj h).symm pc ls rest T'.heap (locs ++ L) q ce (hI.after hA hE hL) h1 h2 h3 T' rfl (stand_widen X' hc hs)
    exact ⟨t2, h4.trans a1, b1⟩
theorem gw_callV {β : Type} {X : gX Unit} {K : Unit → gW → gX β} {r : (String ⊕ β) × gW} {ov : (String ⊕ Unit) × gW} (e1 : X = some ov) (h : gbind X K = some r) (hr : gRun p l e R s m args below meth c H locs cells slots (F0 m pc ls st0) rest rm D w (goV ov)) (hI : gI D s A w H locs) (hA : ∀ q : Nat, s.heap.size ≤ q → A q) (hexc : gEx p l e R s m args below meth c Q D A r) (hc : cells + rm.cells ≤ R.cells) (hs : slots + rm.slots ≤ R.slots)
    (kk : ∀ (v : Unit) (w1 : gW) (H1 : Heap) (locs1 : List Loc), K v w1 = some r → gI D s A w1 H1 locs1 → W p l e R s m args below meth c H1 locs1 (cells + rm.cells) (slots + rm.slots) Q (F0 m (pc + 3) ls rest)) : W p l e R s m args below meth c H locs cells slots Q (F0 m pc ls st0) := by
  subst e1
  obtain ⟨ov, w1⟩ := ov
  intro T hT X
  obtain ⟨T', L, X', hL, hE, hout⟩ := hr T hT X
  cases ov with
  | inr v =>
    obtain ⟨t2, a1, b1⟩ := kk v w1 T'.heap (locs ++ L) h (hI.after hA hE hL) T' rfl X'
    exact ⟨t2, hout t2 a1, b1⟩
  | inl E =>
    obtain ⟨q, ce, h1, h2, h3, h4⟩ := hout
    obtain ⟨t2, a1, b1⟩ := hexc E w1 (Option.some.inj h).symm pc ls rest T'.heap (locs ++ L) q ce (hI.after hA hE hL) h1 h2 h3 T' rfl (stand_widen X' hc hs)
    exact ⟨t2, h4.trans a1, b1⟩
/-- the kit's end of a walk, as this contract's -/
theorem gw_end {y : MethodName} {w0 : gW} {v : Option Value} {w1 : gW} {mc ms : Nat} {g : JFrame} (hI : gI D s (gA w0) w1 H locs)
    (k : W p l e R s m args below meth c H locs mc ms (MQ below (fun _ _ oc t => oc = .returned v ∧ t.heap = H ∧ s.WarmedH t.vm) args s mc ms (gA w0)) g) : W p l e R s m args below meth c H locs mc ms (gMQ below D w0 (.inr v, w1) mc ms args s) g := by
  intro T hT X
  obtain ⟨t, a1, oc, b1, b2, ⟨rfl, hh, hW⟩, L, ⟨-, -, hF⟩, hL⟩ := k T hT X
  obtain ⟨h1, h2, h3, h4⟩ := hI
  refine ⟨t, a1, _, b1, b2, ⟨by rw [hh]; exact h1, fun a e he => by rw [hh]; exact h2 a e he, h4, ⟨by rw [hh]; exact h3.1, fun q q1 q2 => by rw [hh]; exact h3.2.1 q q1 q2⟩⟩, hW, ⟨L, hF, hL⟩, rfl⟩
variable {w0 : gW} {cc : ByteArray}
theorem gw_retI (hx : p.tables.exec = Jvm.exec) (hb : c.code = cc) (hr : meth.sig.returnType = some .int) (hlocks : meth.locks = false) (r : (String ⊕ Int32) × gW) : ∀ (v : Int32) (w1 : gW), r = (.inr v, w1) → ∀ (pc : Nat) (ls : Array Slot) (H : Heap) (locs : List Loc), decode cc pc = .ok (.ireturn, 1) → gI D s (gA w0) w1 H locs → W p l e R s m args below meth c H locs R.cells R.slots (gMQ below D w0 (goI r) R.cells R.slots args s) (F0 m pc ls [.int v]) := by
  intro v w1 h pc ls H locs hdg hI
  subst h
  exact gw_end (y := ⟨"", "", ""⟩) hI (W.iret hx hb hr (fun t ht hW => ⟨rfl, ht, hW⟩) hI.2.2.1.2.2 hdg hlocks)
theorem gw_retZ (hx : p.tables.exec = Jvm.exec) (hb : c.code = cc) (hr : meth.sig.returnType = some .boolean) (hlocks : meth.locks = false) (r : (String ⊕ Int32) × gW) : ∀ {v : Int32}, (v = 0 ∨ v = 1) → ∀ (v' : Int32) (w1 : gW), r = (.inr v, w1) → ∀ (pc : Nat) (ls : Array Slot) (H : Heap) (locs : List Loc), decode cc pc = .ok (.ireturn, 1) → gI D s (gA w0) w1 H locs → W p l e R s m args below meth c H locs R.cells R.slots (gMQ below D w0 (goI r) R.cells R.slots args s) (F0 m pc ls [.int v]) := by
  intro v hv _ w1 h pc ls H locs hdg hI
  subst h
  exact gw_end (y := ⟨"", "", ""⟩) hI (W.zret hx hb hr (by rcases hv with rfl | rfl <;> rfl) (fun t ht hW => ⟨rfl, ht, hW⟩) hI.2.2.1.2.2 hdg hlocks)
theorem gw_retJ (hx : p.tables.exec = Jvm.exec) (hb : c.code = cc) (hr : meth.sig.returnType = some .long) (hlocks : meth.locks = false) (r : (String ⊕ Int64) × gW) : ∀ (v : Int64) (w1 : gW), r = (.inr v, w1) → ∀ (pc : Nat) (ls : Array Slot) (H : Heap) (locs : List Loc), decode cc pc = .ok (.lreturn, 1) → gI D s (gA w0) w1 H locs → W p l e R s m args below meth c H locs R.cells R.slots (gMQ below D w0 (goJ r) R.cells R.slots args s) (F0 m pc ls [.long v]) := by
  intro v w1 h pc ls H locs hdg hI
  subst h
  exact gw_end (y := ⟨"", "", ""⟩) hI (W.lret hx hb hr (fun t ht hW => ⟨rfl, ht, hW⟩) hI.2.2.1.2.2 hdg hlocks)
theorem gw_retV (hx : p.tables.exec = Jvm.exec) (hb : c.code = cc) (hr : meth.sig.returnType = none) (hlocks : meth.locks = false) (r : (String ⊕ Unit) × gW) : ∀ (v : Unit) (w1 : gW), r = (.inr v, w1) → ∀ (pc : Nat) (ls : Array Slot) (H : Heap) (locs : List Loc), decode cc pc = .ok (.return_, 1) → gI D s (gA w0) w1 H locs → W p l e R s m args below meth c H locs R.cells R.slots (gMQ below D w0 (goV r) R.cells R.slots args s) (F0 m pc ls []) := by
  intro v w1 h pc ls H locs hdg hI
  subst h
  exact gw_end (y := ⟨"", "", ""⟩) hI (W.vret hx hb hr (fun t ht hW => ⟨rfl, ht, hW⟩) hI.2.2.1.2.2 hdg hlocks)
theorem gw_retA {rt : FieldType} (hx : p.tables.exec = Jvm.exec) (hb : c.code = cc) (hr : meth.sig.returnType = some rt) (hrt : (∃ n, rt = .object n) ∨ ∃ t, rt = .array t) (hlocks : meth.locks = false) (r : (String ⊕ Nat) × gW) : ∀ (v : Nat) (w1 : gW), r = (.inr v, w1) → ∀ (pc : Nat) (ls : Array Slot) (H : Heap) (locs : List Loc), decode cc pc = .ok (.areturn, 1) → gI D s (gA w0) w1 H locs → W p l e R s m args below meth c H locs R.cells R.slots (gMQ below D w0 (goA r) R.cells R.slots args s) (F0 m pc ls [.ref v]) := by
  intro v w1 h pc ls H locs hdg hI
  subst h
  exact gw_end (y := ⟨"", "", ""⟩) hI (W.aret hx hb hr hrt (Or.inr ⟨v, rfl⟩) (fun t ht hW => ⟨rfl, ht, hW⟩) hI.2.2.1.2.2 hdg hlocks)
/-- an exception leaves a method without handlers -/
theorem gw_exc {α : Type} {r : (String ⊕ α) × gW} {o : (String ⊕ Option Value) × gW} (ho : ∀ (E : String) (w1 : gW), r = (.inl E, w1) → o = (.inl E, w1)) (htab : ∀ x ∈ c.exceptionTable.toList, False) (hlocks : meth.locks = false) : gEx p l e R s m args below meth c (gMQ below D w0 o R.cells R.slots args s) D (gA w0) r := by
  intro E w1 h pc ls rest H locs q ce hI h1 h2 h3 T hT X
  obtain ⟨st1, hrun, hend, hW, hsm⟩ := X.leaveThrown q (g := F0 m pc ls rest) rfl rfl rfl (fun x hx => (htab x hx).elim) hlocks
  rw [ho E w1 h]
  obtain ⟨g1, g2, g3, g4⟩ := hI
  have hh : (T.setFrames (.throwing q :: below)).heap = H := hT
  refine ⟨_, st1, .threw q, hrun, hend, ⟨by rw [hh]; exact g1, fun a e he => by rw [hh]; exact g2 a e he, g4, ⟨by rw [hh]; exact g3.1, fun z q1 q2 => by rw [hh]; exact g3.2.1 z q1 q2⟩⟩, hW, ⟨locs, hsm, g3.2.2⟩, q, ce, rfl, by rw [hh]; exact h1, h2, h3⟩
end GM
/-- a contract out of a walk of the body -/
theorem gw_of {l : Launch} {y : MethodName} {cc : ByteArray} {maxL : Nat} {ret : Option FieldType} {rm : Room} {D : gD} {g0 : Nat} {av : List Value} {w : gW} {o : (String ⊕ Option Value) × gW} (hy : plainFor y = true) (hlen : (lg_sl av).length ≤ maxL)
    (body : ∀ (p : Program) (e : Env) (s : State) (m : MethodId) (below : List Frame) (meth : Method) (c : Code) (ls : Array Slot), p.tables.exec = Jvm.exec → c.code = cc → meth.sig.returnType = ret → c.maxLocals = maxL → s.vm.findClass y.cls = some m.cls → meth.locks = false → meth.name = y.name → (∀ x ∈ c.exceptionTable.toList, False) → gT s → gK D s → gZ (gA w) s s.heap g0 → (∀ q : Nat, s.heap.size ≤ q → gA w q) → gI D s (gA w) w s.heap [] → lv_has ls maxL (lv_args 0 av) →
      W p l e rm s m av.toArray below meth c s.heap [] 0 0 (gMQ below D w o rm.cells rm.slots av.toArray s) (F0 m 0 ls [])) : gMet l y (.code y cc maxL ret) rm D g0 av w o := by
  refine MetFree.of_bodySF (code := cc) (maxLocals := maxL) (ret := ret) hy ?_ ?_
  · intro args s m h hn
    obtain ⟨meth, c, h1, h2, h3, h4, h5, h6, -, -⟩ := Cond.code_spec hn (atoms_spec (ws := [.code y cc maxL ret]) h _ List.mem_cons_self)
    exact ⟨meth, c, h1, h2, h3, h4, h5, h6⟩
  · intro p e s m args below meth c s₁ B hml hP _
    obtain ⟨rfl, q1, q2, q3, q4, q5⟩ := hP
    have hh0 : s₁.heap = s.heap := by rw [B.state]; rfl
    have htab : ∀ x ∈ c.exceptionTable.toList, False := by
      obtain ⟨meth9, c9, h1, h2, -, -, -, -, h7, -⟩ := Cond.code_spec B.named (atoms_spec (ws := [.code y cc maxL ret]) B.pre _ List.mem_cons_self)
      cases Option.some.inj (h1.symm.trans B.method)
      cases Option.some.inj (h2.symm.trans (Stand.of_body B).code)
      intro x hx
      rw [Array.isEmpty_iff.mp h7] at hx
      cases hx
    have hl := lv_entry av (n := maxL) hlen
    have hW := body p e s m below meth c _ B.exec B.bytes B.returns hml (findClass_of_methodNamed B.named) B.notSynchronized (name_of_methodNamed B.named B.method).1 htab q4 q3 q5 (fun q hq => Or.inr (by rw [← q1]; exact hq)) ⟨q1, q2, va_S.rf, fun a e he hr => Or.inl ⟨e, he, hr⟩⟩ hl
    rw [← lg_entry_eq] at hW
    obtain ⟨t, a1, oc, b1, b2, b3⟩ := hW s₁ hh0 (Stand.of_body B)
    exact ⟨t, oc, a1, b1, b2, b3⟩
theorem gw_ofI {l : Launch} {y : MethodName} {cc : ByteArray} {maxL : Nat} {rm : Room} {D : gD} {g0 : Nat} {av : List Value} {w : gW} {r : (String ⊕ Int32) × gW} (hy : plainFor y = true) (hlen : (lg_sl av).length ≤ maxL) 
    (body : ∀ (p : Program) (e : Env) (s : State) (m : MethodId) (below : List Frame) (meth : Method) (c : Code) (ls : Array Slot) (args : Array Value) (A : Nat → Prop) (Q : State → Prop), p.tables.exec = Jvm.exec → c.code = cc → c.maxLocals = maxL → s.vm.findClass y.cls = some m.cls → meth.locks = false → meth.name = y.name → (∀ x ∈ c.exceptionTable.toList, False) → gT s → gK D s → gZ A s s.heap g0 → (∀ q : Nat, s.heap.size ≤ q → A q) → (∀ (v : Int32) (w1 : gW), r = (.inr v, w1) → ∀ (pc : Nat) (ls : Array Slot) (H : Heap) (locs : List Loc), decode cc pc = .ok (.ireturn, 1) → gI D s A w1 H locs → W p l e rm s m args below meth c H locs rm.cells rm.slots Q (F0 m pc ls [.int v])) → gEx p l e rm s m args below meth c Q D A r → gI D s A w s.heap [] → lv_has ls maxL (lv_args 0 av) →
      W p l e rm s m args below meth c s.heap [] 0 0 Q (F0 m 0 ls [])) : gMet l y (.code y cc maxL (some .int)) rm D g0 av w (goI r) := by
  refine gw_of hy hlen ?_
  intro p e s m below meth c ls h1 h2 h3 h4 h5 h6 h7 h8 h9 h10 h11 h12 h13 h14
  exact body p e s m below meth c ls _ _ _ h1 h2 h4 h5 h6 h7 h8 h9 h10 h11 h12 (gw_retI h1 h2 h3 h6 r) (gw_exc (fun E w1 h => by rw [h]; rfl) h8 h6) h13 h14
theorem gw_ofZ {l : Launch} {y : MethodName} {cc : ByteArray} {maxL : Nat} {rm : Room} {D : gD} {g0 : Nat} {av : List Value} {w : gW} {r : (String ⊕ Int32) × gW} (hy : plainFor y = true) (hlen : (lg_sl av).length ≤ maxL) 
    (body : ∀ (p : Program) (e : Env) (s : State) (m : MethodId) (below : List Frame) (meth : Method) (c : Code) (ls : Array Slot) (args : Array Value) (A : Nat → Prop) (Q : State → Prop), p.tables.exec = Jvm.exec → c.code = cc → c.maxLocals = maxL → s.vm.findClass y.cls = some m.cls → meth.locks = false → meth.name = y.name → (∀ x ∈ c.exceptionTable.toList, False) → gT s → gK D s → gZ A s s.heap g0 → (∀ q : Nat, s.heap.size ≤ q → A q) → (∀ {v : Int32}, (v = 0 ∨ v = 1) → ∀ (v' : Int32) (w1 : gW), r = (.inr v, w1) → ∀ (pc : Nat) (ls : Array Slot) (H : Heap) (locs : List Loc), decode cc pc = .ok (.ireturn, 1) → gI D s A w1 H locs → W p l e rm s m args below meth c H locs rm.cells rm.slots Q (F0 m pc ls [.int v])) → gEx p l e rm s m args below meth c Q D A r → gI D s A w s.heap [] → lv_has ls maxL (lv_args 0 av) →
      W p l e rm s m args below meth c s.heap [] 0 0 Q (F0 m 0 ls [])) : gMet l y (.code y cc maxL (some .boolean)) rm D g0 av w (goI r) := by
  refine gw_of hy hlen ?_
  intro p e s m below meth c ls h1 h2 h3 h4 h5 h6 h7 h8 h9 h10 h11 h12 h13 h14
  exact body p e s m below meth c ls _ _ _ h1 h2 h4 h5 h6 h7 h8 h9 h10 h11 h12 (gw_retZ h1 h2 h3 h6 r) (gw_exc (fun E w1 h => by rw [h]; rfl) h8 h6) h13 h14
theorem gw_ofJ {l : Launch} {y : MethodName} {cc : ByteArray} {maxL : Nat} {rm : Room} {D : gD} {g0 : Nat} {av : List Value} {w : gW} {r : (String ⊕ Int64) × gW} (hy : plainFor y = true) (hlen : (lg_sl av).length ≤ maxL) 
    (body : ∀ (p : Program) (e : Env) (s : State) (m : MethodId) (below : List Frame) (meth : Method) (c : Code) (ls : Array Slot) (args : Array Value) (A : Nat → Prop) (Q : State → Prop), p.tables.exec = Jvm.exec → c.code = cc → c.maxLocals = maxL → s.vm.findClass y.cls = some m.cls → meth.locks = false → meth.name = y.name → (∀ x ∈ c.exceptionTable.toList, False) → gT s → gK D s → gZ A s s.heap g0 → (∀ q : Nat, s.heap.size ≤ q → A q) → (∀ (v : Int64) (w1 : gW), r = (.inr v, w1) → ∀ (pc : Nat) (ls : Array Slot) (H : Heap) (locs : List Loc), decode cc pc = .ok (.lreturn, 1) → gI D s A w1 H locs → W p l e rm s m args below meth c H locs rm.cells rm.slots Q (F0 m pc ls [.long v])) → gEx p l e rm s m args below meth c Q D A r → gI D s A w s.heap [] → lv_has ls maxL (lv_args 0 av) →
      W p l e rm s m args below meth c s.heap [] 0 0 Q (F0 m 0 ls [])) : gMet l y (.code y cc maxL (some .long)) rm D g0 av w (goJ r) := by
  refine gw_of hy hlen ?_
  intro p e s m below meth c ls h1 h2 h3 h4 h5 h6 h7 h8 h9 h10 h11 h12 h13 h14
  exact body p e s m below meth c ls _ _ _ h1 h2 h4 h5 h6 h7 h8 h9 h10 h11 h12 (gw_retJ h1 h2 h3 h6 r) (gw_exc (fun E w1 h => by rw [h]; rfl) h8 h6) h13 h14
theorem gw_ofV {l : Launch} {y : MethodName} {cc : ByteArray} {maxL : Nat} {rm : Room} {D : gD} {g0 : Nat} {av : List Value} {w : gW} {r : (String ⊕ Unit) × gW} (hy : plainFor y = true) (hlen : (lg_sl av).length ≤ maxL) 
    (body : ∀ (p : Program) (e : Env) (s : State) (m : MethodId) (below : List Frame) (meth : Method) (c : Code) (ls : Array Slot) (args : Array Value) (A : Nat → Prop) (Q : State → Prop), p.tables.exec = Jvm.exec → c.code = cc → c.maxLocals = maxL → s.vm.findClass y.cls = some m.cls → meth.locks = false → meth.name = y.name → (∀ x ∈ c.exceptionTable.toList, False) → gT s → gK D s → gZ A s s.heap g0 → (∀ q : Nat, s.heap.size ≤ q → A q) → (∀ (v : Unit) (w1 : gW), r = (.inr v, w1) → ∀ (pc : Nat) (ls : Array Slot) (H : Heap) (locs : List Loc), decode cc pc = .ok (.return_, 1) → gI D s A w1 H locs → W p l e rm s m args below meth c H locs rm.cells rm.slots Q (F0 m pc ls [])) → gEx p l e rm s m args below meth c Q D A r → gI D s A w s.heap [] → lv_has ls maxL (lv_args 0 av) →
      W p l e rm s m args below meth c s.heap [] 0 0 Q (F0 m 0 ls [])) : gMet l y (.code y cc maxL none) rm D g0 av w (goV r) := by
  refine gw_of hy hlen ?_
  intro p e s m below meth c ls h1 h2 h3 h4 h5 h6 h7 h8 h9 h10 h11 h12 h13 h14
  exact body p e s m below meth c ls _ _ _ h1 h2 h4 h5 h6 h7 h8 h9 h10 h11 h12 (gw_retV h1 h2 h3 h6 r) (gw_exc (fun E w1 h => by rw [h]; rfl) h8 h6) h13 h14
theorem gw_ofA {l : Launch} {y : MethodName} {cc : ByteArray} {maxL : Nat} {rt : FieldType} {rm : Room} {D : gD} {g0 : Nat} {av : List Value} {w : gW} {r : (String ⊕ Nat) × gW} (hy : plainFor y = true) (hlen : (lg_sl av).length ≤ maxL) (hrt : (∃ n, rt = .object n) ∨ ∃ t, rt = .array t)
    (body : ∀ (p : Program) (e : Env) (s : State) (m : MethodId) (below : List Frame) (meth : Method) (c : Code) (ls : Array Slot) (args : Array Value) (A : Nat → Prop) (Q : State → Prop), p.tables.exec = Jvm.exec → c.code = cc → c.maxLocals = maxL → s.vm.findClass y.cls = some m.cls → meth.locks = false → meth.name = y.name → (∀ x ∈ c.exceptionTable.toList, False) → gT s → gK D s → gZ A s s.heap g0 → (∀ q : Nat, s.heap.size ≤ q → A q) → (∀ (v : Nat) (w1 : gW), r = (.inr v, w1) → ∀ (pc : Nat) (ls : Array Slot) (H : Heap) (locs : List Loc), decode cc pc = .ok (.areturn, 1) → gI D s A w1 H locs → W p l e rm s m args below meth c H locs rm.cells rm.slots Q (F0 m pc ls [.ref v])) → gEx p l e rm s m args below meth c Q D A r → gI D s A w s.heap [] → lv_has ls maxL (lv_args 0 av) →
      W p l e rm s m args below meth c s.heap [] 0 0 Q (F0 m 0 ls [])) : gMet l y (.code y cc maxL (some rt)) rm D g0 av w (goA r) := by
  refine gw_of hy hlen ?_
  intro p e s m below meth c ls h1 h2 h3 h4 h5 h6 h7 h8 h9 h10 h11 h12 h13 h14
  exact body p e s m below meth c ls _ _ _ h1 h2 h4 h5 h6 h7 h8 h9 h10 h11 h12 (gw_retA h1 h2 h3 hrt h6 r) (gw_exc (fun E w1 h => by rw [h]; rfl) h8 h6) h13 h14
end
section
theorem df_0 : ∀ j, j < 10 → defaultValue (t_0 j) = vp_V [.long 0, .null, .null, .null, .null, .null, .int 0, .null, .null, .null] j := by decide +kernel
theorem df_1 : ∀ j, j < 3 → defaultValue (t_1 j) = vp_V [.null, .int 0, .int 0] j := by decide +kernel
theorem df_2 : ∀ j, j < 2 → defaultValue (t_2 j) = vp_V [.null, .int 0] j := by decide +kernel
theorem df_3 : ∀ j, j < 12 → defaultValue (t_3 j) = vp_V [.int 0, .long 0, .long 0, .null, .null, .int 0, .long 0, .long 0, .long 0, .long 0, .long 0, .long 0] j := by decide +kernel
theorem df_4 : ∀ j, j < 2 → defaultValue (t_4 j) = vp_V [.null, .long 0] j := by decide +kernel
theorem df_5 : ∀ j, j < 5 → defaultValue (t_5 j) = vp_V [.null, .long 0, .long 0, .int 0, .int 0] j := by decide +kernel
theorem df_6 : ∀ j, j < 2 → defaultValue (t_6 j) = vp_V [.null, .int 0] j := by decide +kernel
theorem df_7 : ∀ j, j < 27 → defaultValue (t_7 j) = vp_V [.int 0, .long 0, .int 0, .null, .null, .null, .null, .null, .null, .int 0, .null, .null, .int 0, .null, .null, .null, .null, .null, .int 0, .null, .null, .null, .null, .null, .null, .null, .null] j := by decide +kernel
set_option maxRecDepth 100000 in
theorem wd_57 : Jvm.Cond.initialized "BodySolidsModel" ∈ gAll := gm 57 rfl rfl
set_option maxRecDepth 100000 in
theorem wd_78 : Jvm.Cond.instanceMethod ({ cls := "java/lang/Object", name := "<init>", desc := "()V" } : Jvm.MethodName) ∈ gAll := gm 78 rfl rfl
set_option maxRecDepth 100000 in
theorem wd_79 : Jvm.Cond.code ({ cls := "java/lang/Object", name := "<init>", desc := "()V" } : Jvm.MethodName) object_method_1_code (1 : Nat) (Option.none : Option Jvm.ClassFile.FieldType) ∈ gAll := gm 79 rfl rfl
set_option maxRecDepth 100000 in
theorem wd_178 : Jvm.Cond.arrayClass Jvm.ClassFile.FieldType.long ∈ gAll := gm 178 rfl rfl
set_option maxRecDepth 100000 in
theorem wd_179 : Jvm.Cond.arrayClass Jvm.ClassFile.FieldType.int ∈ gAll := gm 179 rfl rfl
set_option maxRecDepth 100000 in
theorem wd_782 : Jvm.Cond.instanceMethod ({ cls := "BodySolidsModel", name := "<init>", desc := "(J)V" } : Jvm.MethodName) ∈ gAll := gm 782 rfl rfl
set_option maxRecDepth 100000 in
theorem wd_783 : Jvm.Cond.code ({ cls := "BodySolidsModel", name := "<init>", desc := "(J)V" } : Jvm.MethodName) prog_9_method_1_code (3 : Nat) (Option.none : Option Jvm.ClassFile.FieldType) ∈ gAll := gm 783 rfl rfl
set_option maxRecDepth 100000 in
theorem wd_784 : Jvm.Cond.methodLink "BodySolidsModel" (1 : Nat) ({ cls := "java/lang/Object", name := "<init>", desc := "()V" } : Jvm.MethodName) ∈ gAll := gm 784 rfl rfl
set_option maxRecDepth 100000 in
theorem wd_785 : Jvm.Cond.constantLong "BodySolidsModel" (74 : Nat) (1000 : Int64) ∈ gAll := gm 785 rfl rfl
set_option maxRecDepth 100000 in
theorem wd_787 : Jvm.Cond.fieldLink "BodySolidsModel" (76 : Nat) "BodySolidsModel" "thickness" "J" ∈ gAll := gm 787 rfl rfl
set_option maxRecDepth 100000 in
theorem wd_789 : Jvm.Cond.fieldLink "BodySolidsModel" (7 : Nat) "BodySolidsModel" "counts" "[I" ∈ gAll := gm 789 rfl rfl
set_option maxRecDepth 100000 in
theorem wd_790 : Jvm.Cond.fieldLink "BodySolidsModel" (13 : Nat) "BodySolidsModel" "kinds" "[I" ∈ gAll := gm 790 rfl rfl
set_option maxRecDepth 100000 in
theorem wd_791 : Jvm.Cond.fieldLink "BodySolidsModel" (16 : Nat) "BodySolidsModel" "numbers" "[J" ∈ gAll := gm 791 rfl rfl
set_option maxRecDepth 100000 in
theorem wd_792 : Jvm.Cond.fieldLink "BodySolidsModel" (20 : Nat) "BodySolidsModel" "cornerCounts" "[I" ∈ gAll := gm 792 rfl rfl
set_option maxRecDepth 100000 in
theorem wd_793 : Jvm.Cond.fieldLink "BodySolidsModel" (23 : Nat) "BodySolidsModel" "cornerX" "[J" ∈ gAll := gm 793 rfl rfl
set_option maxRecDepth 100000 in
theorem wd_794 : Jvm.Cond.fieldLink "BodySolidsModel" (26 : Nat) "BodySolidsModel" "cornerY" "[J" ∈ gAll := gm 794 rfl rfl
set_option maxRecDepth 100000 in
theorem wd_796 : Jvm.Cond.fieldLink "BodySolidsModel" (29 : Nat) "BodySolidsModel" "toldX" "[J" ∈ gAll := gm 796 rfl rfl
set_option maxRecDepth 100000 in
theorem wd_797 : Jvm.Cond.fieldLink "BodySolidsModel" (32 : Nat) "BodySolidsModel" "toldY" "[J" ∈ gAll := gm 797 rfl rfl
set_option maxRecDepth 100000 in
theorem wd_799 : Jvm.Cond.fieldLink "BodySolidsModel" (35 : Nat) "BodySolidsModel" "placed" "[I" ∈ gAll := gm 799 rfl rfl
set_option maxRecDepth 100000 in
theorem wd_800 : Jvm.Cond.fieldLink "BodySolidsModel" (38 : Nat) "BodySolidsModel" "placeX" "[J" ∈ gAll := gm 800 rfl rfl
set_option maxRecDepth 100000 in
theorem wd_801 : Jvm.Cond.fieldLink "BodySolidsModel" (41 : Nat) "BodySolidsModel" "placeY" "[J" ∈ gAll := gm 801 rfl rfl
set_option maxRecDepth 100000 in
theorem wd_802 : Jvm.Cond.fieldLink "BodySolidsModel" (44 : Nat) "BodySolidsModel" "turns" "[I" ∈ gAll := gm 802 rfl rfl
set_option maxRecDepth 100000 in
theorem wd_803 : Jvm.Cond.fieldLink "BodySolidsModel" (47 : Nat) "BodySolidsModel" "sides" "[I" ∈ gAll := gm 803 rfl rfl
set_option maxRecDepth 100000 in
theorem wd_805 : Jvm.Cond.fieldLink "BodySolidsModel" (50 : Nat) "BodySolidsModel" "out" "[J" ∈ gAll := gm 805 rfl rfl
set_option maxRecDepth 100000 in
theorem wd_806 : Jvm.Cond.fieldLink "BodySolidsModel" (53 : Nat) "BodySolidsModel" "kindAt" "[I" ∈ gAll := gm 806 rfl rfl
set_option maxRecDepth 100000 in
theorem wd_807 : Jvm.Cond.fieldLink "BodySolidsModel" (56 : Nat) "BodySolidsModel" "many" "[I" ∈ gAll := gm 807 rfl rfl
set_option maxRecDepth 100000 in
theorem wd_808 : Jvm.Cond.fieldLink "BodySolidsModel" (59 : Nat) "BodySolidsModel" "px" "[J" ∈ gAll := gm 808 rfl rfl
set_option maxRecDepth 100000 in
theorem wd_809 : Jvm.Cond.fieldLink "BodySolidsModel" (62 : Nat) "BodySolidsModel" "py" "[J" ∈ gAll := gm 809 rfl rfl
set_option maxRecDepth 100000 in
theorem wd_810 : Jvm.Cond.fieldLink "BodySolidsModel" (65 : Nat) "BodySolidsModel" "radius" "[J" ∈ gAll := gm 810 rfl rfl
set_option maxRecDepth 100000 in
theorem wd_811 : Jvm.Cond.fieldLink "BodySolidsModel" (68 : Nat) "BodySolidsModel" "low" "[J" ∈ gAll := gm 811 rfl rfl
set_option maxRecDepth 100000 in
theorem wd_812 : Jvm.Cond.fieldLink "BodySolidsModel" (71 : Nat) "BodySolidsModel" "high" "[J" ∈ gAll := gm 812 rfl rfl
end
section
abbrev b_M_init : ByteArray := prog_9_method_1_code
def y_M_init : MethodName := ⟨"BodySolidsModel", "<init>", "(J)V"⟩
theorem d_M_init_0 : decode b_M_init 0 = .ok (.aload_n 0, 1) := by decide +kernel
theorem d_M_init_1 : decode b_M_init 1 = .ok (.invokespecial 1, 3) := by decide +kernel
theorem d_M_init_4 : decode b_M_init 4 = .ok (.aload_n 0, 1) := by decide +kernel
theorem d_M_init_5 : decode b_M_init 5 = .ok (.bipush 30, 2) := by decide +kernel
theorem d_M_init_7 : decode b_M_init 7 = .ok (.newarray .int, 2) := by decide +kernel
theorem d_M_init_9 : decode b_M_init 9 = .ok (.putfield 7, 3) := by decide +kernel
theorem d_M_init_12 : decode b_M_init 12 = .ok (.aload_n 0, 1) := by decide +kernel
theorem d_M_init_13 : decode b_M_init 13 = .ok (.sipush 360, 3) := by decide +kernel
theorem d_M_init_16 : decode b_M_init 16 = .ok (.newarray .int, 2) := by decide +kernel
theorem d_M_init_18 : decode b_M_init 18 = .ok (.putfield 13, 3) := by decide +kernel
theorem d_M_init_21 : decode b_M_init 21 = .ok (.aload_n 0, 1) := by decide +kernel
theorem d_M_init_22 : decode b_M_init 22 = .ok (.sipush 2160, 3) := by decide +kernel
theorem d_M_init_25 : decode b_M_init 25 = .ok (.newarray .long, 2) := by decide +kernel
theorem d_M_init_27 : decode b_M_init 27 = .ok (.putfield 16, 3) := by decide +kernel
theorem d_M_init_30 : decode b_M_init 30 = .ok (.aload_n 0, 1) := by decide +kernel
theorem d_M_init_31 : decode b_M_init 31 = .ok (.sipush 360, 3) := by decide +kernel
theorem d_M_init_34 : decode b_M_init 34 = .ok (.newarray .int, 2) := by decide +kernel
theorem d_M_init_36 : decode b_M_init 36 = .ok (.putfield 20, 3) := by decide +kernel
theorem d_M_init_39 : decode b_M_init 39 = .ok (.aload_n 0, 1) := by decide +kernel
theorem d_M_init_40 : decode b_M_init 40 = .ok (.sipush 2880, 3) := by decide +kernel
theorem d_M_init_43 : decode b_M_init 43 = .ok (.newarray .long, 2) := by decide +kernel
theorem d_M_init_45 : decode b_M_init 45 = .ok (.putfield 23, 3) := by decide +kernel
theorem d_M_init_48 : decode b_M_init 48 = .ok (.aload_n 0, 1) := by decide +kernel
theorem d_M_init_49 : decode b_M_init 49 = .ok (.sipush 2880, 3) := by decide +kernel
theorem d_M_init_52 : decode b_M_init 52 = .ok (.newarray .long, 2) := by decide +kernel
theorem d_M_init_54 : decode b_M_init 54 = .ok (.putfield 26, 3) := by decide +kernel
theorem d_M_init_57 : decode b_M_init 57 = .ok (.aload_n 0, 1) := by decide +kernel
theorem d_M_init_58 : decode b_M_init 58 = .ok (.bipush 8, 2) := by decide +kernel
theorem d_M_init_60 : decode b_M_init 60 = .ok (.newarray .long, 2) := by decide +kernel
theorem d_M_init_62 : decode b_M_init 62 = .ok (.putfield 29, 3) := by decide +kernel
theorem d_M_init_65 : decode b_M_init 65 = .ok (.aload_n 0, 1) := by decide +kernel
theorem d_M_init_66 : decode b_M_init 66 = .ok (.bipush 8, 2) := by decide +kernel
theorem d_M_init_68 : decode b_M_init 68 = .ok (.newarray .long, 2) := by decide +kernel
theorem d_M_init_70 : decode b_M_init 70 = .ok (.putfield 32, 3) := by decide +kernel
theorem d_M_init_73 : decode b_M_init 73 = .ok (.aload_n 0, 1) := by decide +kernel
theorem d_M_init_74 : decode b_M_init 74 = .ok (.bipush 30, 2) := by decide +kernel
theorem d_M_init_76 : decode b_M_init 76 = .ok (.newarray .int, 2) := by decide +kernel
theorem d_M_init_78 : decode b_M_init 78 = .ok (.putfield 35, 3) := by decide +kernel
theorem d_M_init_81 : decode b_M_init 81 = .ok (.aload_n 0, 1) := by decide +kernel
theorem d_M_init_82 : decode b_M_init 82 = .ok (.bipush 30, 2) := by decide +kernel
theorem d_M_init_84 : decode b_M_init 84 = .ok (.newarray .long, 2) := by decide +kernel
theorem d_M_init_86 : decode b_M_init 86 = .ok (.putfield 38, 3) := by decide +kernel
theorem d_M_init_89 : decode b_M_init 89 = .ok (.aload_n 0, 1) := by decide +kernel
theorem d_M_init_90 : decode b_M_init 90 = .ok (.bipush 30, 2) := by decide +kernel
theorem d_M_init_92 : decode b_M_init 92 = .ok (.newarray .long, 2) := by decide +kernel
theorem d_M_init_94 : decode b_M_init 94 = .ok (.putfield 41, 3) := by decide +kernel
theorem d_M_init_97 : decode b_M_init 97 = .ok (.aload_n 0, 1) := by decide +kernel
theorem d_M_init_98 : decode b_M_init 98 = .ok (.bipush 30, 2) := by decide +kernel
theorem d_M_init_100 : decode b_M_init 100 = .ok (.newarray .int, 2) := by decide +kernel
theorem d_M_init_102 : decode b_M_init 102 = .ok (.putfield 44, 3) := by decide +kernel
theorem d_M_init_105 : decode b_M_init 105 = .ok (.aload_n 0, 1) := by decide +kernel
theorem d_M_init_106 : decode b_M_init 106 = .ok (.bipush 30, 2) := by decide +kernel
theorem d_M_init_108 : decode b_M_init 108 = .ok (.newarray .int, 2) := by decide +kernel
theorem d_M_init_110 : decode b_M_init 110 = .ok (.putfield 47, 3) := by decide +kernel
theorem d_M_init_113 : decode b_M_init 113 = .ok (.aload_n 0, 1) := by decide +kernel
theorem d_M_init_114 : decode b_M_init 114 = .ok (.bipush 60, 2) := by decide +kernel
theorem d_M_init_116 : decode b_M_init 116 = .ok (.newarray .long, 2) := by decide +kernel
theorem d_M_init_118 : decode b_M_init 118 = .ok (.putfield 50, 3) := by decide +kernel
theorem d_M_init_121 : decode b_M_init 121 = .ok (.aload_n 0, 1) := by decide +kernel
theorem d_M_init_122 : decode b_M_init 122 = .ok (.iconst 2, 1) := by decide +kernel
theorem d_M_init_123 : decode b_M_init 123 = .ok (.newarray .int, 2) := by decide +kernel
theorem d_M_init_125 : decode b_M_init 125 = .ok (.putfield 53, 3) := by decide +kernel
theorem d_M_init_128 : decode b_M_init 128 = .ok (.aload_n 0, 1) := by decide +kernel
theorem d_M_init_129 : decode b_M_init 129 = .ok (.iconst 2, 1) := by decide +kernel
theorem d_M_init_130 : decode b_M_init 130 = .ok (.newarray .int, 2) := by decide +kernel
theorem d_M_init_132 : decode b_M_init 132 = .ok (.putfield 56, 3) := by decide +kernel
theorem d_M_init_135 : decode b_M_init 135 = .ok (.aload_n 0, 1) := by decide +kernel
theorem d_M_init_136 : decode b_M_init 136 = .ok (.bipush 16, 2) := by decide +kernel
theorem d_M_init_138 : decode b_M_init 138 = .ok (.newarray .long, 2) := by decide +kernel
theorem d_M_init_140 : decode b_M_init 140 = .ok (.putfield 59, 3) := by decide +kernel
theorem d_M_init_143 : decode b_M_init 143 = .ok (.aload_n 0, 1) := by decide +kernel
theorem d_M_init_144 : decode b_M_init 144 = .ok (.bipush 16, 2) := by decide +kernel
theorem d_M_init_146 : decode b_M_init 146 = .ok (.newarray .long, 2) := by decide +kernel
theorem d_M_init_148 : decode b_M_init 148 = .ok (.putfield 62, 3) := by decide +kernel
theorem d_M_init_151 : decode b_M_init 151 = .ok (.aload_n 0, 1) := by decide +kernel
theorem d_M_init_152 : decode b_M_init 152 = .ok (.iconst 2, 1) := by decide +kernel
theorem d_M_init_153 : decode b_M_init 153 = .ok (.newarray .long, 2) := by decide +kernel
theorem d_M_init_155 : decode b_M_init 155 = .ok (.putfield 65, 3) := by decide +kernel
theorem d_M_init_158 : decode b_M_init 158 = .ok (.aload_n 0, 1) := by decide +kernel
theorem d_M_init_159 : decode b_M_init 159 = .ok (.iconst 2, 1) := by decide +kernel
theorem d_M_init_160 : decode b_M_init 160 = .ok (.newarray .long, 2) := by decide +kernel
theorem d_M_init_162 : decode b_M_init 162 = .ok (.putfield 68, 3) := by decide +kernel
theorem d_M_init_165 : decode b_M_init 165 = .ok (.aload_n 0, 1) := by decide +kernel
theorem d_M_init_166 : decode b_M_init 166 = .ok (.iconst 2, 1) := by decide +kernel
theorem d_M_init_167 : decode b_M_init 167 = .ok (.newarray .long, 2) := by decide +kernel
theorem d_M_init_169 : decode b_M_init 169 = .ok (.putfield 71, 3) := by decide +kernel
theorem d_M_init_172 : decode b_M_init 172 = .ok (.aload_n 0, 1) := by decide +kernel
theorem d_M_init_173 : decode b_M_init 173 = .ok (.lload_n 1, 1) := by decide +kernel
theorem d_M_init_174 : decode b_M_init 174 = .ok (.lconst 0, 1) := by decide +kernel
theorem d_M_init_175 : decode b_M_init 175 = .ok (.lcmp, 1) := by decide +kernel
theorem d_M_init_176 : decode b_M_init 176 = .ok (.ifCond .ge 7, 3) := by decide +kernel
theorem d_M_init_179 : decode b_M_init 179 = .ok (.lconst 0, 1) := by decide +kernel
theorem d_M_init_180 : decode b_M_init 180 = .ok (.goto 18, 3) := by decide +kernel
theorem d_M_init_183 : decode b_M_init 183 = .ok (.lload_n 1, 1) := by decide +kernel
theorem d_M_init_184 : decode b_M_init 184 = .ok (.ldc2_w 74, 3) := by decide +kernel
theorem d_M_init_187 : decode b_M_init 187 = .ok (.lcmp, 1) := by decide +kernel
theorem d_M_init_188 : decode b_M_init 188 = .ok (.ifCond .le 9, 3) := by decide +kernel
theorem d_M_init_191 : decode b_M_init 191 = .ok (.ldc2_w 74, 3) := by decide +kernel
theorem d_M_init_194 : decode b_M_init 194 = .ok (.goto 4, 3) := by decide +kernel
theorem d_M_init_197 : decode b_M_init 197 = .ok (.lload_n 1, 1) := by decide +kernel
theorem d_M_init_198 : decode b_M_init 198 = .ok (.putfield 76, 3) := by decide +kernel
theorem d_M_init_201 : decode b_M_init 201 = .ok (.return_, 1) := by decide +kernel
abbrev rm_M_init : Room := { frames := 1, cells := 21, slots := 8938, locals := 20 }
theorem ce_M_init : gCe y_M_init (.code y_M_init b_M_init 3 none) 3 1 false := gCe.code wd_783 wd_57 wd_782 (by decide) (by decide +kernel)
def f_M_init (g0 : Nat) (a0 : Nat) (p1 : Int64) (w : gW) : gX Unit := gb2f (gna w 0 30 30 (.int 0)) fun o1 w => (gp w a0 7 3 (.ref o1)).bind fun w => gb2f (gna w 0 360 360 (.int 0)) fun o4 w => (gp w a0 7 4 (.ref o4)).bind fun w => gb2f (gna w 1 2160 2160 (.long 0)) fun o7 w => (gp w a0 7 5 (.ref o7)).bind fun w => gb2f (gna w 0 360 360 (.int 0)) fun o10 w => (gp w a0 7 6 (.ref o10)).bind fun w => gb2f (gna w 1 2880 2880 (.long 0)) fun o13 w => (gp w a0 7 7 (.ref o13)).bind fun w => gb2f (gna w 1 2880 2880 (.long 0)) fun o16 w => (gp w a0 7 8 (.ref o16)).bind fun w => gb2f (gna w 1 8 8 (.long 0)) fun o19 w => (gp w a0 7 10 (.ref o19)).bind fun w => gb2f (gna w 1 8 8 (.long 0)) fun o22 w => (gp w a0 7 11 (.ref o22)).bind fun w => gb2f (gna w 0 30 30 (.int 0)) fun o25 w => (gp w a0 7 13 (.ref o25)).bind fun w => gb2f (gna w 1 30 30 (.long 0)) fun o28 w => (gp w a0 7 14 (.ref o28)).bind fun w => gb2f (gna w 1 30 30 (.long 0)) fun o31 w => (gp w a0 7 15 (.ref o31)).bind fun w => gb2f (gna w 0 30 30 (.int 0)) fun o34 w => (gp w a0 7 16 (.ref o34)).bind fun w => gb2f (gna w 0 30 30 (.int 0)) fun o37 w => (gp w a0 7 17 (.ref o37)).bind fun w => gb2f (gna w 1 60 60 (.long 0)) fun o40 w => (gp w a0 7 19 (.ref o40)).bind fun w => gb2f (gna w 0 2 2 (.int 0)) fun o43 w => (gp w a0 7 20 (.ref o43)).bind fun w => gb2f (gna w 0 2 2 (.int 0)) fun o46 w => (gp w a0 7 21 (.ref o46)).bind fun w => gb2f (gna w 1 16 16 (.long 0)) fun o49 w => (gp w a0 7 22 (.ref o49)).bind fun w => gb2f (gna w 1 16 16 (.long 0)) fun o52 w => (gp w a0 7 23 (.ref o52)).bind fun w => gb2f (gna w 1 2 2 (.long 0)) fun o55 w => (gp w a0 7 24 (.ref o55)).bind fun w => gb2f (gna w 1 2 2 (.long 0)) fun o58 w => (gp w a0 7 25 (.ref o58)).bind fun w => gb2f (gna w 1 2 2 (.long 0)) fun o61 w => (gp w a0 7 26 (.ref o61)).bind fun w => gjoin (fun K198 => if 0 ≤ p1 then (if p1 ≤ 1000 then (K198 p1 w) else (K198 1000 w)) else (K198 0 w)) (fun (y64 : Int64) (w : gW) => (gp w a0 7 1 (.long y64)).bind fun w => some (.inr (), w))
set_option maxHeartbeats 4000000 in
set_option maxRecDepth 100000 in
theorem m_M_init (l : Launch) (D : gD) (g0 : Nat) (a0 : Nat) (p1 : Int64) (w : gW) (r : (String ⊕ Unit) × gW) (h : f_M_init g0 a0 p1 w = some r) : gMet l y_M_init (.code y_M_init b_M_init 3 none) rm_M_init D g0 [.ref a0, .long p1] w (goV r) := by
  refine gw_ofV (by decide +kernel) (Nat.le_of_ble_eq_true rfl) ?_
  intro p e s m below meth c ls args A Q hx hb hml hown hlocks hin hnt hT hK hZ hA hret hexc hI hl
  obtain ⟨H, hH⟩ : ∃ H, H = s.heap := ⟨_, rfl⟩
  rw [← hH] at hI ⊢
  obtain ⟨locs, hlocs⟩ : ∃ z : List Loc, z = [] := ⟨_, rfl⟩
  rw [← hlocs] at hI ⊢
  have hl : lv_has ls 3 [(0, .ref a0), (1, .long p1)] := hl
  unfold f_M_init at h
  refine lv_aload_n hx hb d_M_init_0 rfl (lv_at hl 0 rfl) ?_
  refine W.objInit hx hb hown (hT _ wd_784 args) (hT _ wd_78 args) (hT _ wd_79 args) rfl (by rw [hml]; exact hl.1) rfl d_M_init_1 (Nat.le_of_ble_eq_true rfl) (Nat.le_of_ble_eq_true rfl) ?_
  refine W.eq (g2 := F0 m 4 ls []) rfl ?_
  refine lv_aload_n hx hb d_M_init_4 rfl (lv_at hl 0 rfl) ?_
  refine lv_bipush (v := 30) hx hb d_M_init_5 (by decide) ?_
  obtain ⟨o1, w, e2, h⟩ := gb2 h
  refine gw_newa (atype := .int) (ty := .int) (M := 30) hx hb hK hI hA (hT _ wd_179 args) rfl (k := 0) rfl (fun h9 => h9) e2 (show 0 + 1 ≤ 21 by omega) (show 0 + 30 ≤ 8938 by omega) (show 30 * 4 ≤ 536870912 by omega) d_M_init_7 (fun H hI => ?_)
  refine W.widen (k := 1) (n := 30) (by omega) (by omega) ?_
  obtain ⟨w, e3, h⟩ := gb h
  refine gw_putF hx hb hT hown hK hI (ci := 7) rfl i_7 t_7 t_7_ok n_7 3 (by decide) wd_789 (fun _ h9 => h9) rfl hin rfl (ty := .array .int) (by decide +kernel) rfl rfl e3 d_M_init_9 (fun H locs hI => ?_)
  refine lv_aload_n hx hb d_M_init_12 rfl (lv_at hl 0 rfl) ?_
  refine lv_sipush (v := 360) hx hb d_M_init_13 (by decide) ?_
  obtain ⟨o4, w, e5, h⟩ := gb2 h
  refine gw_newa (atype := .int) (ty := .int) (M := 360) hx hb hK hI hA (hT _ wd_179 args) rfl (k := 0) rfl (fun h9 => h9) e5 (show 1 + 1 ≤ 21 by omega) (show 30 + 360 ≤ 8938 by omega) (show 360 * 4 ≤ 536870912 by omega) d_M_init_16 (fun H hI => ?_)
  refine W.widen (k := 2) (n := 390) (by omega) (by omega) ?_
  obtain ⟨w, e6, h⟩ := gb h
  refine gw_putF hx hb hT hown hK hI (ci := 7) rfl i_7 t_7 t_7_ok n_7 4 (by decide) wd_790 (fun _ h9 => h9) rfl hin rfl (ty := .array .int) (by decide +kernel) rfl rfl e6 d_M_init_18 (fun H locs hI => ?_)
  refine lv_aload_n hx hb d_M_init_21 rfl (lv_at hl 0 rfl) ?_
  refine lv_sipush (v := 2160) hx hb d_M_init_22 (by decide) ?_
  obtain ⟨o7, w, e8, h⟩ := gb2 h
  refine gw_newa (atype := .long) (ty := .long) (M := 2160) hx hb hK hI hA (hT _ wd_178 args) rfl (k := 1) rfl (fun h9 => h9) e8 (show 2 + 1 ≤ 21 by omega) (show 390 + 2160 ≤ 8938 by omega) (show 2160 * 8 ≤ 536870912 by omega) d_M_init_25 (fun H hI => ?_)
  refine W.widen (k := 3) (n := 2550) (by omega) (by omega) ?_
  obtain ⟨w, e9, h⟩ := gb h
  refine gw_putF hx hb hT hown hK hI (ci := 7) rfl i_7 t_7 t_7_ok n_7 5 (by decide) wd_791 (fun _ h9 => h9) rfl hin rfl (ty := .array .long) (by decide +kernel) rfl rfl e9 d_M_init_27 (fun H locs hI => ?_)
  refine lv_aload_n hx hb d_M_init_30 rfl (lv_at hl 0 rfl) ?_
  refine lv_sipush (v := 360) hx hb d_M_init_31 (by decide) ?_
  obtain ⟨o10, w, e11, h⟩ := gb2 h
  refine gw_newa (atype := .int) (ty := .int) (M := 360) hx hb hK hI hA (hT _ wd_179 args) rfl (k := 0) rfl (fun h9 => h9) e11 (show 3 + 1 ≤ 21 by omega) (show 2550 + 360 ≤ 8938 by omega) (show 360 * 4 ≤ 536870912 by omega) d_M_init_34 (fun H hI => ?_)
  refine W.widen (k := 4) (n := 2910) (by omega) (by omega) ?_
  obtain ⟨w, e12, h⟩ := gb h
  refine gw_putF hx hb hT hown hK hI (ci := 7) rfl i_7 t_7 t_7_ok n_7 6 (by decide) wd_792 (fun _ h9 => h9) rfl hin rfl (ty := .array .int) (by decide +kernel) rfl rfl e12 d_M_init_36 (fun H locs hI => ?_)
  refine lv_aload_n hx hb d_M_init_39 rfl (lv_at hl 0 rfl) ?_
  refine lv_sipush (v := 2880) hx hb d_M_init_40 (by decide) ?_
  obtain ⟨o13, w, e14, h⟩ := gb2 h
  refine gw_newa (atype := .long) (ty := .long) (M := 2880) hx hb hK hI hA (hT _ wd_178 args) rfl (k := 1) rfl (fun h9 => h9) e14 (show 4 + 1 ≤ 21 by omega) (show 2910 + 2880 ≤ 8938 by omega) (show 2880 * 8 ≤ 536870912 by omega) d_M_init_43 (fun H hI => ?_)
  refine W.widen (k := 5) (n := 5790) (by omega) (by omega) ?_
  obtain ⟨w, e15, h⟩ := gb h
  refine gw_putF hx hb hT hown hK hI (ci := 7) rfl i_7 t_7 t_7_ok n_7 7 (by decide) wd_793 (fun _ h9 => h9) rfl hin rfl (ty := .array .long) (by decide +kernel) rfl rfl e15 d_M_init_45 (fun H locs hI => ?_)
  refine lv_aload_n hx hb d_M_init_48 rfl (lv_at hl 0 rfl) ?_
  refine lv_sipush (v := 2880) hx hb d_M_init_49 (by decide) ?_
  obtain ⟨o16, w, e17, h⟩ := gb2 h
  refine gw_newa (atype := .long) (ty := .long) (M := 2880) hx hb hK hI hA (hT _ wd_178 args) rfl (k := 1) rfl (fun h9 => h9) e17 (show 5 + 1 ≤ 21 by omega) (show 5790 + 2880 ≤ 8938 by omega) (show 2880 * 8 ≤ 536870912 by omega) d_M_init_52 (fun H hI => ?_)
  refine W.widen (k := 6) (n := 8670) (by omega) (by omega) ?_
  obtain ⟨w, e18, h⟩ := gb h
  refine gw_putF hx hb hT hown hK hI (ci := 7) rfl i_7 t_7 t_7_ok n_7 8 (by decide) wd_794 (fun _ h9 => h9) rfl hin rfl (ty := .array .long) (by decide +kernel) rfl rfl e18 d_M_init_54 (fun H locs hI => ?_)
  refine lv_aload_n hx hb d_M_init_57 rfl (lv_at hl 0 rfl) ?_
  refine lv_bipush (v := 8) hx hb d_M_init_58 (by decide) ?_
  obtain ⟨o19, w, e20, h⟩ := gb2 h
  refine gw_newa (atype := .long) (ty := .long) (M := 8) hx hb hK hI hA (hT _ wd_178 args) rfl (k := 1) rfl (fun h9 => h9) e20 (show 6 + 1 ≤ 21 by omega) (show 8670 + 8 ≤ 8938 by omega) (show 8 * 8 ≤ 536870912 by omega) d_M_init_60 (fun H hI => ?_)
  refine W.widen (k := 7) (n := 8678) (by omega) (by omega) ?_
  obtain ⟨w, e21, h⟩ := gb h
  refine gw_putF hx hb hT hown hK hI (ci := 7) rfl i_7 t_7 t_7_ok n_7 10 (by decide) wd_796 (fun _ h9 => h9) rfl hin rfl (ty := .array .long) (by decide +kernel) rfl rfl e21 d_M_init_62 (fun H locs hI => ?_)
  refine lv_aload_n hx hb d_M_init_65 rfl (lv_at hl 0 rfl) ?_
  refine lv_bipush (v := 8) hx hb d_M_init_66 (by decide) ?_
  obtain ⟨o22, w, e23, h⟩ := gb2 h
  refine gw_newa (atype := .long) (ty := .long) (M := 8) hx hb hK hI hA (hT _ wd_178 args) rfl (k := 1) rfl (fun h9 => h9) e23 (show 7 + 1 ≤ 21 by omega) (show 8678 + 8 ≤ 8938 by omega) (show 8 * 8 ≤ 536870912 by omega) d_M_init_68 (fun H hI => ?_)
  refine W.widen (k := 8) (n := 8686) (by omega) (by omega) ?_
  obtain ⟨w, e24, h⟩ := gb h
  refine gw_putF hx hb hT hown hK hI (ci := 7) rfl i_7 t_7 t_7_ok n_7 11 (by decide) wd_797 (fun _ h9 => h9) rfl hin rfl (ty := .array .long) (by decide +kernel) rfl rfl e24 d_M_init_70 (fun H locs hI => ?_)
  refine lv_aload_n hx hb d_M_init_73 rfl (lv_at hl 0 rfl) ?_
  refine lv_bipush (v := 30) hx hb d_M_init_74 (by decide) ?_
  obtain ⟨o25, w, e26, h⟩ := gb2 h
  refine gw_newa (atype := .int) (ty := .int) (M := 30) hx hb hK hI hA (hT _ wd_179 args) rfl (k := 0) rfl (fun h9 => h9) e26 (show 8 + 1 ≤ 21 by omega) (show 8686 + 30 ≤ 8938 by omega) (show 30 * 4 ≤ 536870912 by omega) d_M_init_76 (fun H hI => ?_)
  refine W.widen (k := 9) (n := 8716) (by omega) (by omega) ?_
  obtain ⟨w, e27, h⟩ := gb h
  refine gw_putF hx hb hT hown hK hI (ci := 7) rfl i_7 t_7 t_7_ok n_7 13 (by decide) wd_799 (fun _ h9 => h9) rfl hin rfl (ty := .array .int) (by decide +kernel) rfl rfl e27 d_M_init_78 (fun H locs hI => ?_)
  refine lv_aload_n hx hb d_M_init_81 rfl (lv_at hl 0 rfl) ?_
  refine lv_bipush (v := 30) hx hb d_M_init_82 (by decide) ?_
  obtain ⟨o28, w, e29, h⟩ := gb2 h
  refine gw_newa (atype := .long) (ty := .long) (M := 30) hx hb hK hI hA (hT _ wd_178 args) rfl (k := 1) rfl (fun h9 => h9) e29 (show 9 + 1 ≤ 21 by omega) (show 8716 + 30 ≤ 8938 by omega) (show 30 * 8 ≤ 536870912 by omega) d_M_init_84 (fun H hI => ?_)
  refine W.widen (k := 10) (n := 8746) (by omega) (by omega) ?_
  obtain ⟨w, e30, h⟩ := gb h
  refine gw_putF hx hb hT hown hK hI (ci := 7) rfl i_7 t_7 t_7_ok n_7 14 (by decide) wd_800 (fun _ h9 => h9) rfl hin rfl (ty := .array .long) (by decide +kernel) rfl rfl e30 d_M_init_86 (fun H locs hI => ?_)
  refine lv_aload_n hx hb d_M_init_89 rfl (lv_at hl 0 rfl) ?_
  refine lv_bipush (v := 30) hx hb d_M_init_90 (by decide) ?_
  obtain ⟨o31, w, e32, h⟩ := gb2 h
  refine gw_newa (atype := .long) (ty := .long) (M := 30) hx hb hK hI hA (hT _ wd_178 args) rfl (k := 1) rfl (fun h9 => h9) e32 (show 10 + 1 ≤ 21 by omega) (show 8746 + 30 ≤ 8938 by omega) (show 30 * 8 ≤ 536870912 by omega) d_M_init_92 (fun H hI => ?_)
  refine W.widen (k := 11) (n := 8776) (by omega) (by omega) ?_
  obtain ⟨w, e33, h⟩ := gb h
  refine gw_putF hx hb hT hown hK hI (ci := 7) rfl i_7 t_7 t_7_ok n_7 15 (by decide) wd_801 (fun _ h9 => h9) rfl hin rfl (ty := .array .long) (by decide +kernel) rfl rfl e33 d_M_init_94 (fun H locs hI => ?_)
  refine lv_aload_n hx hb d_M_init_97 rfl (lv_at hl 0 rfl) ?_
  refine lv_bipush (v := 30) hx hb d_M_init_98 (by decide) ?_
  obtain ⟨o34, w, e35, h⟩ := gb2 h
  refine gw_newa (atype := .int) (ty := .int) (M := 30) hx hb hK hI hA (hT _ wd_179 args) rfl (k := 0) rfl (fun h9 => h9) e35 (show 11 + 1 ≤ 21 by omega) (show 8776 + 30 ≤ 8938 by omega) (show 30 * 4 ≤ 536870912 by omega) d_M_init_100 (fun H hI => ?_)
  refine W.widen (k := 12) (n := 8806) (by omega) (by omega) ?_
  obtain ⟨w, e36, h⟩ := gb h
  refine gw_putF hx hb hT hown hK hI (ci := 7) rfl i_7 t_7 t_7_ok n_7 16 (by decide) wd_802 (fun _ h9 => h9) rfl hin rfl (ty := .array .int) (by decide +kernel) rfl rfl e36 d_M_init_102 (fun H locs hI => ?_)
  refine lv_aload_n hx hb d_M_init_105 rfl (lv_at hl 0 rfl) ?_
  refine lv_bipush (v := 30) hx hb d_M_init_106 (by decide) ?_
  obtain ⟨o37, w, e38, h⟩ := gb2 h
  refine gw_newa (atype := .int) (ty := .int) (M := 30) hx hb hK hI hA (hT _ wd_179 args) rfl (k := 0) rfl (fun h9 => h9) e38 (show 12 + 1 ≤ 21 by omega) (show 8806 + 30 ≤ 8938 by omega) (show 30 * 4 ≤ 536870912 by omega) d_M_init_108 (fun H hI => ?_)
  refine W.widen (k := 13) (n := 8836) (by omega) (by omega) ?_
  obtain ⟨w, e39, h⟩ := gb h
  refine gw_putF hx hb hT hown hK hI (ci := 7) rfl i_7 t_7 t_7_ok n_7 17 (by decide) wd_803 (fun _ h9 => h9) rfl hin rfl (ty := .array .int) (by decide +kernel) rfl rfl e39 d_M_init_110 (fun H locs hI => ?_)
  refine lv_aload_n hx hb d_M_init_113 rfl (lv_at hl 0 rfl) ?_
  refine lv_bipush (v := 60) hx hb d_M_init_114 (by decide) ?_
  obtain ⟨o40, w, e41, h⟩ := gb2 h
  refine gw_newa (atype := .long) (ty := .long) (M := 60) hx hb hK hI hA (hT _ wd_178 args) rfl (k := 1) rfl (fun h9 => h9) e41 (show 13 + 1 ≤ 21 by omega) (show 8836 + 60 ≤ 8938 by omega) (show 60 * 8 ≤ 536870912 by omega) d_M_init_116 (fun H hI => ?_)
  refine W.widen (k := 14) (n := 8896) (by omega) (by omega) ?_
  obtain ⟨w, e42, h⟩ := gb h
  refine gw_putF hx hb hT hown hK hI (ci := 7) rfl i_7 t_7 t_7_ok n_7 19 (by decide) wd_805 (fun _ h9 => h9) rfl hin rfl (ty := .array .long) (by decide +kernel) rfl rfl e42 d_M_init_118 (fun H locs hI => ?_)
  refine lv_aload_n hx hb d_M_init_121 rfl (lv_at hl 0 rfl) ?_
  refine lv_iconst (v := 2) hx hb d_M_init_122 (by decide) ?_
  obtain ⟨o43, w, e44, h⟩ := gb2 h
  refine gw_newa (atype := .int) (ty := .int) (M := 2) hx hb hK hI hA (hT _ wd_179 args) rfl (k := 0) rfl (fun h9 => h9) e44 (show 14 + 1 ≤ 21 by omega) (show 8896 + 2 ≤ 8938 by omega) (show 2 * 4 ≤ 536870912 by omega) d_M_init_123 (fun H hI => ?_)
  refine W.widen (k := 15) (n := 8898) (by omega) (by omega) ?_
  obtain ⟨w, e45, h⟩ := gb h
  refine gw_putF hx hb hT hown hK hI (ci := 7) rfl i_7 t_7 t_7_ok n_7 20 (by decide) wd_806 (fun _ h9 => h9) rfl hin rfl (ty := .array .int) (by decide +kernel) rfl rfl e45 d_M_init_125 (fun H locs hI => ?_)
  refine lv_aload_n hx hb d_M_init_128 rfl (lv_at hl 0 rfl) ?_
  refine lv_iconst (v := 2) hx hb d_M_init_129 (by decide) ?_
  obtain ⟨o46, w, e47, h⟩ := gb2 h
  refine gw_newa (atype := .int) (ty := .int) (M := 2) hx hb hK hI hA (hT _ wd_179 args) rfl (k := 0) rfl (fun h9 => h9) e47 (show 15 + 1 ≤ 21 by omega) (show 8898 + 2 ≤ 8938 by omega) (show 2 * 4 ≤ 536870912 by omega) d_M_init_130 (fun H hI => ?_)
  refine W.widen (k := 16) (n := 8900) (by omega) (by omega) ?_
  obtain ⟨w, e48, h⟩ := gb h
  refine gw_putF hx hb hT hown hK hI (ci := 7) rfl i_7 t_7 t_7_ok n_7 21 (by decide) wd_807 (fun _ h9 => h9) rfl hin rfl (ty := .array .int) (by decide +kernel) rfl rfl e48 d_M_init_132 (fun H locs hI => ?_)
  refine lv_aload_n hx hb d_M_init_135 rfl (lv_at hl 0 rfl) ?_
  refine lv_bipush (v := 16) hx hb d_M_init_136 (by decide) ?_
  obtain ⟨o49, w, e50, h⟩ := gb2 h
  refine gw_newa (atype := .long) (ty := .long) (M := 16) hx hb hK hI hA (hT _ wd_178 args) rfl (k := 1) rfl (fun h9 => h9) e50 (show 16 + 1 ≤ 21 by omega) (show 8900 + 16 ≤ 8938 by omega) (show 16 * 8 ≤ 536870912 by omega) d_M_init_138 (fun H hI => ?_)
  refine W.widen (k := 17) (n := 8916) (by omega) (by omega) ?_
  obtain ⟨w, e51, h⟩ := gb h
  refine gw_putF hx hb hT hown hK hI (ci := 7) rfl i_7 t_7 t_7_ok n_7 22 (by decide) wd_808 (fun _ h9 => h9) rfl hin rfl (ty := .array .long) (by decide +kernel) rfl rfl e51 d_M_init_140 (fun H locs hI => ?_)
  refine lv_aload_n hx hb d_M_init_143 rfl (lv_at hl 0 rfl) ?_
  refine lv_bipush (v := 16) hx hb d_M_init_144 (by decide) ?_
  obtain ⟨o52, w, e53, h⟩ := gb2 h
  refine gw_newa (atype := .long) (ty := .long) (M := 16) hx hb hK hI hA (hT _ wd_178 args) rfl (k := 1) rfl (fun h9 => h9) e53 (show 17 + 1 ≤ 21 by omega) (show 8916 + 16 ≤ 8938 by omega) (show 16 * 8 ≤ 536870912 by omega) d_M_init_146 (fun H hI => ?_)
  refine W.widen (k := 18) (n := 8932) (by omega) (by omega) ?_
  obtain ⟨w, e54, h⟩ := gb h
  refine gw_putF hx hb hT hown hK hI (ci := 7) rfl i_7 t_7 t_7_ok n_7 23 (by decide) wd_809 (fun _ h9 => h9) rfl hin rfl (ty := .array .long) (by decide +kernel) rfl rfl e54 d_M_init_148 (fun H locs hI => ?_)
  refine lv_aload_n hx hb d_M_init_151 rfl (lv_at hl 0 rfl) ?_
  refine lv_iconst (v := 2) hx hb d_M_init_152 (by decide) ?_
  obtain ⟨o55, w, e56, h⟩ := gb2 h
  refine gw_newa (atype := .long) (ty := .long) (M := 2) hx hb hK hI hA (hT _ wd_178 args) rfl (k := 1) rfl (fun h9 => h9) e56 (show 18 + 1 ≤ 21 by omega) (show 8932 + 2 ≤ 8938 by omega) (show 2 * 8 ≤ 536870912 by omega) d_M_init_153 (fun H hI => ?_)
  refine W.widen (k := 19) (n := 8934) (by omega) (by omega) ?_
  obtain ⟨w, e57, h⟩ := gb h
  refine gw_putF hx hb hT hown hK hI (ci := 7) rfl i_7 t_7 t_7_ok n_7 24 (by decide) wd_810 (fun _ h9 => h9) rfl hin rfl (ty := .array .long) (by decide +kernel) rfl rfl e57 d_M_init_155 (fun H locs hI => ?_)
  refine lv_aload_n hx hb d_M_init_158 rfl (lv_at hl 0 rfl) ?_
  refine lv_iconst (v := 2) hx hb d_M_init_159 (by decide) ?_
  obtain ⟨o58, w, e59, h⟩ := gb2 h
  refine gw_newa (atype := .long) (ty := .long) (M := 2) hx hb hK hI hA (hT _ wd_178 args) rfl (k := 1) rfl (fun h9 => h9) e59 (show 19 + 1 ≤ 21 by omega) (show 8934 + 2 ≤ 8938 by omega) (show 2 * 8 ≤ 536870912 by omega) d_M_init_160 (fun H hI => ?_)
  refine W.widen (k := 20) (n := 8936) (by omega) (by omega) ?_
  obtain ⟨w, e60, h⟩ := gb h
  refine gw_putF hx hb hT hown hK hI (ci := 7) rfl i_7 t_7 t_7_ok n_7 25 (by decide) wd_811 (fun _ h9 => h9) rfl hin rfl (ty := .array .long) (by decide +kernel) rfl rfl e60 d_M_init_162 (fun H locs hI => ?_)
  refine lv_aload_n hx hb d_M_init_165 rfl (lv_at hl 0 rfl) ?_
  refine lv_iconst (v := 2) hx hb d_M_init_166 (by decide) ?_
  obtain ⟨o61, w, e62, h⟩ := gb2 h
  refine gw_newa (atype := .long) (ty := .long) (M := 2) hx hb hK hI hA (hT _ wd_178 args) rfl (k := 1) rfl (fun h9 => h9) e62 (show 20 + 1 ≤ 21 by omega) (show 8936 + 2 ≤ 8938 by omega) (show 2 * 8 ≤ 536870912 by omega) d_M_init_167 (fun H hI => ?_)
  refine W.widen (k := 21) (n := 8938) (by omega) (by omega) ?_
  obtain ⟨w, e63, h⟩ := gb h
  refine gw_putF hx hb hT hown hK hI (ci := 7) rfl i_7 t_7 t_7_ok n_7 26 (by decide) wd_812 (fun _ h9 => h9) rfl hin rfl (ty := .array .long) (by decide +kernel) rfl rfl e63 d_M_init_169 (fun H locs hI => ?_)
  refine lv_aload_n hx hb d_M_init_172 rfl (lv_at hl 0 rfl) ?_
  refine lv_lload_n hx hb d_M_init_173 rfl (lv_at hl 1 rfl) ?_
  refine lv_lconst (v := 0) hx hb d_M_init_174 (by decide) ?_
  refine W.lcmp hx hb d_M_init_175 ?_
  obtain ⟨K198, eK198, h⟩ := gj h
  have hK198 : ∀ (y64 : Int64) (w : gW) (H : Heap) (locs : List Loc) (ls : Array Slot), K198 y64 w = some r → gI D s A w H locs → lv_has ls 3 [] → W p l e rm_M_init s m args below meth c H locs 21 8938 Q (F0 m 198 ls [.long y64, .ref a0]) := by
    intro y64 w H locs ls h hI hl
    have h := gk2 eK198 h
    obtain ⟨w, e65, h⟩ := gb h
    refine gw_putF hx hb hT hown hK hI (ci := 7) rfl i_7 t_7 t_7_ok n_7 1 (by decide) wd_787 (fun _ h9 => h9) rfl hin rfl (ty := .long) (by decide +kernel) rfl rfl e65 d_M_init_198 (fun H locs hI => ?_)
    exact W.widen (show 21 ≤ 21 by omega) (show 8938 ≤ 8938 by omega) (hret _ _ (Option.some.inj h).symm _ _ _ _ d_M_init_201 hI)
  refine lv_if_ge (tgt := 183) hx hb d_M_init_176 (by decide) (fun c66 => ?_) (fun c66 => ?_)
  · have c66 := (lg_cmp_ge _ _).mp c66
    have h := git c66 h
    refine lv_lload_n hx hb d_M_init_183 rfl (lv_at hl 1 rfl) ?_
    refine lv_ldc2 (v := 1000) hx hb hown (hT _ wd_785 args) d_M_init_184 ?_
    refine W.lcmp hx hb d_M_init_187 ?_
    refine lv_if_le (tgt := 197) hx hb d_M_init_188 (by decide) (fun c67 => ?_) (fun c67 => ?_)
    · have c67 := (lg_cmp_le _ _).mp c67
      have h := git c67 h
      refine lv_lload_n hx hb d_M_init_197 rfl (lv_at hl 1 rfl) ?_
      exact hK198 _ w H locs ls h hI (lv_sub hl [] rfl)
    · have c67 := mt (lg_cmp_le _ _).mpr c67
      have h := gie c67 h
      refine lv_ldc2 (v := 1000) hx hb hown (hT _ wd_785 args) d_M_init_191 ?_
      refine lv_goto (tgt := 198) hx hb d_M_init_194 (by decide) ?_
      exact hK198 _ w H locs ls h hI (lv_sub hl [] rfl)
  · have c66 := mt (lg_cmp_ge _ _).mpr c66
    have h := gie c66 h
    refine lv_lconst (v := 0) hx hb d_M_init_179 (by decide) ?_
    refine lv_goto (tgt := 198) hx hb d_M_init_180 (by decide) ?_
    exact hK198 _ w H locs ls h hI (lv_sub hl [] rfl)
end
