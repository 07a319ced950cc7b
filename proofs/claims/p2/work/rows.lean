section
-- ===== PART A: goes FIRST, ahead of the names: the tables' words, and 'selects' of the private methods out of them =====
/-- a private method of a class that the tables say can be made, by its rows of tables_1 -/
def lw_okq (q : MethodName × Nat) : Prop := (q.1.cls ≠ "java/lang/invoke/MethodHandle" ∧ q.1.cls ≠ "java/lang/invoke/VarHandle") ∧ Cond.instantiable q.1.cls q.2 ∈ tables_1 ∧ Cond.privateMethod q.1 ∈ tables_1 ∧ Cond.instanceMethod q.1 ∈ tables_1
theorem lw_p0 : lw_okq (⟨"BodySolids", "addBody", "(LBodySolids$Body;)I"⟩, 10) := ⟨⟨by decide +kernel, by decide +kernel⟩, List.mem_of_getElem? (i := 25) (by decide +kernel), List.mem_of_getElem? (i := 199) (by decide +kernel), List.mem_of_getElem? (i := 200) (by decide +kernel)⟩
theorem lw_p1 : lw_okq (⟨"java/util/ArrayList", "add", "(Ljava/lang/Object;[Ljava/lang/Object;I)V"⟩, 3) := ⟨⟨by decide +kernel, by decide +kernel⟩, List.mem_of_getElem? (i := 40) (by decide +kernel), List.mem_of_getElem? (i := 207) (by decide +kernel), List.mem_of_getElem? (i := 208) (by decide +kernel)⟩
theorem lw_p2 : lw_okq (⟨"java/util/ArrayList", "grow", "()[Ljava/lang/Object;"⟩, 3) := ⟨⟨by decide +kernel, by decide +kernel⟩, List.mem_of_getElem? (i := 40) (by decide +kernel), List.mem_of_getElem? (i := 211) (by decide +kernel), List.mem_of_getElem? (i := 212) (by decide +kernel)⟩
theorem lw_p3 : lw_okq (⟨"java/util/ArrayList", "grow", "(I)[Ljava/lang/Object;"⟩, 3) := ⟨⟨by decide +kernel, by decide +kernel⟩, List.mem_of_getElem? (i := 40) (by decide +kernel), List.mem_of_getElem? (i := 215) (by decide +kernel), List.mem_of_getElem? (i := 216) (by decide +kernel)⟩
theorem lw_p4 : lw_okq (⟨"BodySolids", "relation", "(II)I"⟩, 10) := ⟨⟨by decide +kernel, by decide +kernel⟩, List.mem_of_getElem? (i := 25) (by decide +kernel), List.mem_of_getElem? (i := 265) (by decide +kernel), List.mem_of_getElem? (i := 266) (by decide +kernel)⟩
theorem lw_p5 : lw_okq (⟨"BodySolids", "relationOfLayouts", "()I"⟩, 10) := ⟨⟨by decide +kernel, by decide +kernel⟩, List.mem_of_getElem? (i := 25) (by decide +kernel), List.mem_of_getElem? (i := 322) (by decide +kernel), List.mem_of_getElem? (i := 323) (by decide +kernel)⟩
theorem lw_p6 : lw_okq (⟨"BodySolids", "breaksSome", "(LBodySolids$Placement;)Z"⟩, 10) := ⟨⟨by decide +kernel, by decide +kernel⟩, List.mem_of_getElem? (i := 25) (by decide +kernel), List.mem_of_getElem? (i := 367) (by decide +kernel), List.mem_of_getElem? (i := 368) (by decide +kernel)⟩
theorem lw_p7 : lw_okq (⟨"BodySolids", "bodyAt", "(I)LBodySolids$Body;"⟩, 10) := ⟨⟨by decide +kernel, by decide +kernel⟩, List.mem_of_getElem? (i := 25) (by decide +kernel), List.mem_of_getElem? (i := 389) (by decide +kernel), List.mem_of_getElem? (i := 390) (by decide +kernel)⟩
theorem lw_p8 : lw_okq (⟨"java/lang/Throwable", "fillInStackTrace", "(I)Ljava/lang/Throwable;"⟩, 6) := ⟨⟨by decide +kernel, by decide +kernel⟩, List.mem_of_getElem? (i := 434) (by decide +kernel), List.mem_of_getElem? (i := 432) (by decide +kernel), List.mem_of_getElem? (i := 433) (by decide +kernel)⟩
theorem lw_p9 : lw_okq (⟨"BodySolids", "forgetRelationsOf", "(LBodySolids$Body;)V"⟩, 10) := ⟨⟨by decide +kernel, by decide +kernel⟩, List.mem_of_getElem? (i := 25) (by decide +kernel), List.mem_of_getElem? (i := 513) (by decide +kernel), List.mem_of_getElem? (i := 514) (by decide +kernel)⟩
theorem lw_p10 : lw_okq (⟨"BodySolids", "forgetRelationsAt", "(I)V"⟩, 10) := ⟨⟨by decide +kernel, by decide +kernel⟩, List.mem_of_getElem? (i := 25) (by decide +kernel), List.mem_of_getElem? (i := 517) (by decide +kernel), List.mem_of_getElem? (i := 518) (by decide +kernel)⟩
theorem lw_p11 : lw_okq (⟨"BodySolids", "cornersMakePolygon", "()Z"⟩, 10) := ⟨⟨by decide +kernel, by decide +kernel⟩, List.mem_of_getElem? (i := 25) (by decide +kernel), List.mem_of_getElem? (i := 544) (by decide +kernel), List.mem_of_getElem? (i := 545) (by decide +kernel)⟩
theorem lw_p12 : lw_okq (⟨"BodySolids", "othersLieLeftOfSide", "(II)Z"⟩, 10) := ⟨⟨by decide +kernel, by decide +kernel⟩, List.mem_of_getElem? (i := 25) (by decide +kernel), List.mem_of_getElem? (i := 548) (by decide +kernel), List.mem_of_getElem? (i := 549) (by decide +kernel)⟩
theorem lw_p13 : lw_okq (⟨"BodySolids", "turnAt", "(III)J"⟩, 10) := ⟨⟨by decide +kernel, by decide +kernel⟩, List.mem_of_getElem? (i := 25) (by decide +kernel), List.mem_of_getElem? (i := 552) (by decide +kernel), List.mem_of_getElem? (i := 553) (by decide +kernel)⟩
theorem lw_p14 : lw_okq (⟨"BodySolids", "twiceAreaOfCorners", "()J"⟩, 10) := ⟨⟨by decide +kernel, by decide +kernel⟩, List.mem_of_getElem? (i := 25) (by decide +kernel), List.mem_of_getElem? (i := 557) (by decide +kernel), List.mem_of_getElem? (i := 558) (by decide +kernel)⟩
theorem lw_p15 : lw_okq (⟨"BodySolids", "placementAt", "(I)LBodySolids$Placement;"⟩, 10) := ⟨⟨by decide +kernel, by decide +kernel⟩, List.mem_of_getElem? (i := 25) (by decide +kernel), List.mem_of_getElem? (i := 635) (by decide +kernel), List.mem_of_getElem? (i := 636) (by decide +kernel)⟩
def lw_privs_1 : List (MethodName × Nat) := [(⟨"BodySolids", "addBody", "(LBodySolids$Body;)I"⟩, 10), (⟨"java/util/ArrayList", "add", "(Ljava/lang/Object;[Ljava/lang/Object;I)V"⟩, 3), (⟨"java/util/ArrayList", "grow", "()[Ljava/lang/Object;"⟩, 3), (⟨"java/util/ArrayList", "grow", "(I)[Ljava/lang/Object;"⟩, 3), (⟨"BodySolids", "relation", "(II)I"⟩, 10), (⟨"BodySolids", "relationOfLayouts", "()I"⟩, 10), (⟨"BodySolids", "breaksSome", "(LBodySolids$Placement;)Z"⟩, 10), (⟨"BodySolids", "bodyAt", "(I)LBodySolids$Body;"⟩, 10), (⟨"java/lang/Throwable", "fillInStackTrace", "(I)Ljava/lang/Throwable;"⟩, 6), (⟨"BodySolids", "forgetRelationsOf", "(LBodySolids$Body;)V"⟩, 10), (⟨"BodySolids", "forgetRelationsAt", "(I)V"⟩, 10), (⟨"BodySolids", "cornersMakePolygon", "()Z"⟩, 10), (⟨"BodySolids", "othersLieLeftOfSide", "(II)Z"⟩, 10), (⟨"BodySolids", "turnAt", "(III)J"⟩, 10), (⟨"BodySolids", "twiceAreaOfCorners", "()J"⟩, 10), (⟨"BodySolids", "placementAt", "(I)LBodySolids$Placement;"⟩, 10)]
theorem lw_r1 : ∀ q ∈ lw_privs_1, lw_okq q := List.forall_mem_cons.mpr ⟨lw_p0, List.forall_mem_cons.mpr ⟨lw_p1, List.forall_mem_cons.mpr ⟨lw_p2, List.forall_mem_cons.mpr ⟨lw_p3, List.forall_mem_cons.mpr ⟨lw_p4, List.forall_mem_cons.mpr ⟨lw_p5, List.forall_mem_cons.mpr ⟨lw_p6, List.forall_mem_cons.mpr ⟨lw_p7, List.forall_mem_cons.mpr ⟨lw_p8, List.forall_mem_cons.mpr ⟨lw_p9, List.forall_mem_cons.mpr ⟨lw_p10, List.forall_mem_cons.mpr ⟨lw_p11, List.forall_mem_cons.mpr ⟨lw_p12, List.forall_mem_cons.mpr ⟨lw_p13, List.forall_mem_cons.mpr ⟨lw_p14, List.forall_mem_cons.mpr ⟨lw_p15, fun _ h => absurd h List.not_mem_nil⟩⟩⟩⟩⟩⟩⟩⟩⟩⟩⟩⟩⟩⟩⟩⟩
theorem lw_p16 : lw_okq (⟨"BodySolids", "sectionAnswer", "(III)J"⟩, 10) := ⟨⟨by decide +kernel, by decide +kernel⟩, List.mem_of_getElem? (i := 25) (by decide +kernel), List.mem_of_getElem? (i := 720) (by decide +kernel), List.mem_of_getElem? (i := 721) (by decide +kernel)⟩
theorem lw_p17 : lw_okq (⟨"BodySolidsModel", "isBody", "(I)Z"⟩, 27) := ⟨⟨by decide +kernel, by decide +kernel⟩, List.mem_of_getElem? (i := 732) (by decide +kernel), List.mem_of_getElem? (i := 843) (by decide +kernel), List.mem_of_getElem? (i := 844) (by decide +kernel)⟩
theorem lw_p18 : lw_okq (⟨"BodySolidsModel", "fresh", "(II)I"⟩, 27) := ⟨⟨by decide +kernel, by decide +kernel⟩, List.mem_of_getElem? (i := 732) (by decide +kernel), List.mem_of_getElem? (i := 847) (by decide +kernel), List.mem_of_getElem? (i := 848) (by decide +kernel)⟩
theorem lw_p19 : lw_okq (⟨"BodySolidsModel", "tell", "(IIJ)V"⟩, 27) := ⟨⟨by decide +kernel, by decide +kernel⟩, List.mem_of_getElem? (i := 732) (by decide +kernel), List.mem_of_getElem? (i := 851) (by decide +kernel), List.mem_of_getElem? (i := 852) (by decide +kernel)⟩
theorem lw_p20 : lw_okq (⟨"BodySolidsModel", "isRound", "()Z"⟩, 27) := ⟨⟨by decide +kernel, by decide +kernel⟩, List.mem_of_getElem? (i := 732) (by decide +kernel), List.mem_of_getElem? (i := 867) (by decide +kernel), List.mem_of_getElem? (i := 868) (by decide +kernel)⟩
theorem lw_p21 : lw_okq (⟨"BodySolidsModel", "copy", "(II)V"⟩, 27) := ⟨⟨by decide +kernel, by decide +kernel⟩, List.mem_of_getElem? (i := 732) (by decide +kernel), List.mem_of_getElem? (i := 885) (by decide +kernel), List.mem_of_getElem? (i := 886) (by decide +kernel)⟩
theorem lw_p22 : lw_okq (⟨"BodySolidsModel", "set", "(IJJII)V"⟩, 27) := ⟨⟨by decide +kernel, by decide +kernel⟩, List.mem_of_getElem? (i := 732) (by decide +kernel), List.mem_of_getElem? (i := 896) (by decide +kernel), List.mem_of_getElem? (i := 897) (by decide +kernel)⟩
theorem lw_p23 : lw_okq (⟨"BodySolidsModel", "isPlaced", "(I)Z"⟩, 27) := ⟨⟨by decide +kernel, by decide +kernel⟩, List.mem_of_getElem? (i := 732) (by decide +kernel), List.mem_of_getElem? (i := 904) (by decide +kernel), List.mem_of_getElem? (i := 905) (by decide +kernel)⟩
theorem lw_p24 : lw_okq (⟨"BodySolidsModel", "meet", "(II)I"⟩, 27) := ⟨⟨by decide +kernel, by decide +kernel⟩, List.mem_of_getElem? (i := 732) (by decide +kernel), List.mem_of_getElem? (i := 912) (by decide +kernel), List.mem_of_getElem? (i := 913) (by decide +kernel)⟩
theorem lw_p25 : lw_okq (⟨"BodySolidsModel", "lay", "(III)V"⟩, 27) := ⟨⟨by decide +kernel, by decide +kernel⟩, List.mem_of_getElem? (i := 732) (by decide +kernel), List.mem_of_getElem? (i := 916) (by decide +kernel), List.mem_of_getElem? (i := 917) (by decide +kernel)⟩
theorem lw_p26 : lw_okq (⟨"BodySolidsModel", "of", "(II)J"⟩, 27) := ⟨⟨by decide +kernel, by decide +kernel⟩, List.mem_of_getElem? (i := 732) (by decide +kernel), List.mem_of_getElem? (i := 920) (by decide +kernel), List.mem_of_getElem? (i := 921) (by decide +kernel)⟩
theorem lw_p27 : lw_okq (⟨"BodySolidsModel", "spot", "(IIIJJ)V"⟩, 27) := ⟨⟨by decide +kernel, by decide +kernel⟩, List.mem_of_getElem? (i := 732) (by decide +kernel), List.mem_of_getElem? (i := 924) (by decide +kernel), List.mem_of_getElem? (i := 925) (by decide +kernel)⟩
theorem lw_p28 : lw_okq (⟨"BodySolidsModel", "xOf", "(IJJ)J"⟩, 27) := ⟨⟨by decide +kernel, by decide +kernel⟩, List.mem_of_getElem? (i := 732) (by decide +kernel), List.mem_of_getElem? (i := 928) (by decide +kernel), List.mem_of_getElem? (i := 929) (by decide +kernel)⟩
theorem lw_p29 : lw_okq (⟨"BodySolidsModel", "yOf", "(IJJ)J"⟩, 27) := ⟨⟨by decide +kernel, by decide +kernel⟩, List.mem_of_getElem? (i := 732) (by decide +kernel), List.mem_of_getElem? (i := 932) (by decide +kernel), List.mem_of_getElem? (i := 933) (by decide +kernel)⟩
theorem lw_p30 : lw_okq (⟨"BodySolidsModel", "point", "(IIJJ)V"⟩, 27) := ⟨⟨by decide +kernel, by decide +kernel⟩, List.mem_of_getElem? (i := 732) (by decide +kernel), List.mem_of_getElem? (i := 936) (by decide +kernel), List.mem_of_getElem? (i := 937) (by decide +kernel)⟩
theorem lw_p31 : lw_okq (⟨"BodySolidsModel", "zOf", "(IJ)J"⟩, 27) := ⟨⟨by decide +kernel, by decide +kernel⟩, List.mem_of_getElem? (i := 732) (by decide +kernel), List.mem_of_getElem? (i := 940) (by decide +kernel), List.mem_of_getElem? (i := 941) (by decide +kernel)⟩
def lw_privs_2 : List (MethodName × Nat) := [(⟨"BodySolids", "sectionAnswer", "(III)J"⟩, 10), (⟨"BodySolidsModel", "isBody", "(I)Z"⟩, 27), (⟨"BodySolidsModel", "fresh", "(II)I"⟩, 27), (⟨"BodySolidsModel", "tell", "(IIJ)V"⟩, 27), (⟨"BodySolidsModel", "isRound", "()Z"⟩, 27), (⟨"BodySolidsModel", "copy", "(II)V"⟩, 27), (⟨"BodySolidsModel", "set", "(IJJII)V"⟩, 27), (⟨"BodySolidsModel", "isPlaced", "(I)Z"⟩, 27), (⟨"BodySolidsModel", "meet", "(II)I"⟩, 27), (⟨"BodySolidsModel", "lay", "(III)V"⟩, 27), (⟨"BodySolidsModel", "of", "(II)J"⟩, 27), (⟨"BodySolidsModel", "spot", "(IIIJJ)V"⟩, 27), (⟨"BodySolidsModel", "xOf", "(IJJ)J"⟩, 27), (⟨"BodySolidsModel", "yOf", "(IJJ)J"⟩, 27), (⟨"BodySolidsModel", "point", "(IIJJ)V"⟩, 27), (⟨"BodySolidsModel", "zOf", "(IJ)J"⟩, 27)]
theorem lw_r2 : ∀ q ∈ lw_privs_2, lw_okq q := List.forall_mem_cons.mpr ⟨lw_p16, List.forall_mem_cons.mpr ⟨lw_p17, List.forall_mem_cons.mpr ⟨lw_p18, List.forall_mem_cons.mpr ⟨lw_p19, List.forall_mem_cons.mpr ⟨lw_p20, List.forall_mem_cons.mpr ⟨lw_p21, List.forall_mem_cons.mpr ⟨lw_p22, List.forall_mem_cons.mpr ⟨lw_p23, List.forall_mem_cons.mpr ⟨lw_p24, List.forall_mem_cons.mpr ⟨lw_p25, List.forall_mem_cons.mpr ⟨lw_p26, List.forall_mem_cons.mpr ⟨lw_p27, List.forall_mem_cons.mpr ⟨lw_p28, List.forall_mem_cons.mpr ⟨lw_p29, List.forall_mem_cons.mpr ⟨lw_p30, List.forall_mem_cons.mpr ⟨lw_p31, fun _ h => absurd h List.not_mem_nil⟩⟩⟩⟩⟩⟩⟩⟩⟩⟩⟩⟩⟩⟩⟩⟩
theorem lw_p32 : lw_okq (⟨"BodySolidsModel", "heights", "(IJJ)V"⟩, 27) := ⟨⟨by decide +kernel, by decide +kernel⟩, List.mem_of_getElem? (i := 732) (by decide +kernel), List.mem_of_getElem? (i := 945) (by decide +kernel), List.mem_of_getElem? (i := 946) (by decide +kernel)⟩
theorem lw_p33 : lw_okq (⟨"BodySolidsModel", "both", "()I"⟩, 27) := ⟨⟨by decide +kernel, by decide +kernel⟩, List.mem_of_getElem? (i := 732) (by decide +kernel), List.mem_of_getElem? (i := 949) (by decide +kernel), List.mem_of_getElem? (i := 950) (by decide +kernel)⟩
theorem lw_p34 : lw_okq (⟨"BodySolidsModel", "tubes", "()I"⟩, 27) := ⟨⟨by decide +kernel, by decide +kernel⟩, List.mem_of_getElem? (i := 732) (by decide +kernel), List.mem_of_getElem? (i := 953) (by decide +kernel), List.mem_of_getElem? (i := 954) (by decide +kernel)⟩
theorem lw_p35 : lw_okq (⟨"BodySolidsModel", "heightGap", "()J"⟩, 27) := ⟨⟨by decide +kernel, by decide +kernel⟩, List.mem_of_getElem? (i := 732) (by decide +kernel), List.mem_of_getElem? (i := 963) (by decide +kernel), List.mem_of_getElem? (i := 964) (by decide +kernel)⟩
theorem lw_p36 : lw_okq (⟨"BodySolidsModel", "coreGap", "(IZJJ)J"⟩, 27) := ⟨⟨by decide +kernel, by decide +kernel⟩, List.mem_of_getElem? (i := 732) (by decide +kernel), List.mem_of_getElem? (i := 970) (by decide +kernel), List.mem_of_getElem? (i := 971) (by decide +kernel)⟩
theorem lw_p37 : lw_okq (⟨"BodySolidsModel", "coreAndDisc", "(IJ)I"⟩, 27) := ⟨⟨by decide +kernel, by decide +kernel⟩, List.mem_of_getElem? (i := 732) (by decide +kernel), List.mem_of_getElem? (i := 980) (by decide +kernel), List.mem_of_getElem? (i := 981) (by decide +kernel)⟩
theorem lw_p38 : lw_okq (⟨"BodySolidsModel", "coreAndPolygon", "(IJ)I"⟩, 27) := ⟨⟨by decide +kernel, by decide +kernel⟩, List.mem_of_getElem? (i := 732) (by decide +kernel), List.mem_of_getElem? (i := 985) (by decide +kernel), List.mem_of_getElem? (i := 986) (by decide +kernel)⟩
theorem lw_p39 : lw_okq (⟨"BodySolidsModel", "fromPolygon", "(IJJJ)I"⟩, 27) := ⟨⟨by decide +kernel, by decide +kernel⟩, List.mem_of_getElem? (i := 732) (by decide +kernel), List.mem_of_getElem? (i := 989) (by decide +kernel), List.mem_of_getElem? (i := 990) (by decide +kernel)⟩
theorem lw_p40 : lw_okq (⟨"BodySolidsModel", "isIn", "(IJJ)Z"⟩, 27) := ⟨⟨by decide +kernel, by decide +kernel⟩, List.mem_of_getElem? (i := 732) (by decide +kernel), List.mem_of_getElem? (i := 993) (by decide +kernel), List.mem_of_getElem? (i := 994) (by decide +kernel)⟩
theorem lw_p41 : lw_okq (⟨"BodySolidsModel", "bases", "()I"⟩, 27) := ⟨⟨by decide +kernel, by decide +kernel⟩, List.mem_of_getElem? (i := 732) (by decide +kernel), List.mem_of_getElem? (i := 1004) (by decide +kernel), List.mem_of_getElem? (i := 1005) (by decide +kernel)⟩
theorem lw_p42 : lw_okq (⟨"BodySolidsModel", "polygons", "()I"⟩, 27) := ⟨⟨by decide +kernel, by decide +kernel⟩, List.mem_of_getElem? (i := 732) (by decide +kernel), List.mem_of_getElem? (i := 1008) (by decide +kernel), List.mem_of_getElem? (i := 1009) (by decide +kernel)⟩
theorem lw_p43 : lw_okq (⟨"BodySolidsModel", "along", "(JJ)I"⟩, 27) := ⟨⟨by decide +kernel, by decide +kernel⟩, List.mem_of_getElem? (i := 732) (by decide +kernel), List.mem_of_getElem? (i := 1012) (by decide +kernel), List.mem_of_getElem? (i := 1013) (by decide +kernel)⟩
theorem lw_p44 : lw_okq (⟨"BodySolidsModel", "doesBreak", "(I)Z"⟩, 27) := ⟨⟨by decide +kernel, by decide +kernel⟩, List.mem_of_getElem? (i := 732) (by decide +kernel), List.mem_of_getElem? (i := 1037) (by decide +kernel), List.mem_of_getElem? (i := 1038) (by decide +kernel)⟩
theorem lw_p45 : lw_okq (⟨"BodySolidsModel", "layOut", "(I)V"⟩, 27) := ⟨⟨by decide +kernel, by decide +kernel⟩, List.mem_of_getElem? (i := 732) (by decide +kernel), List.mem_of_getElem? (i := 1041) (by decide +kernel), List.mem_of_getElem? (i := 1042) (by decide +kernel)⟩
theorem lw_p46 : lw_okq (⟨"BodySolidsModel", "edge", "(I)J"⟩, 27) := ⟨⟨by decide +kernel, by decide +kernel⟩, List.mem_of_getElem? (i := 732) (by decide +kernel), List.mem_of_getElem? (i := 1051) (by decide +kernel), List.mem_of_getElem? (i := 1052) (by decide +kernel)⟩
theorem lw_p47 : lw_okq (⟨"BodySolidsModel", "volume", "(I)J"⟩, 27) := ⟨⟨by decide +kernel, by decide +kernel⟩, List.mem_of_getElem? (i := 732) (by decide +kernel), List.mem_of_getElem? (i := 1063) (by decide +kernel), List.mem_of_getElem? (i := 1064) (by decide +kernel)⟩
def lw_privs_3 : List (MethodName × Nat) := [(⟨"BodySolidsModel", "heights", "(IJJ)V"⟩, 27), (⟨"BodySolidsModel", "both", "()I"⟩, 27), (⟨"BodySolidsModel", "tubes", "()I"⟩, 27), (⟨"BodySolidsModel", "heightGap", "()J"⟩, 27), (⟨"BodySolidsModel", "coreGap", "(IZJJ)J"⟩, 27), (⟨"BodySolidsModel", "coreAndDisc", "(IJ)I"⟩, 27), (⟨"BodySolidsModel", "coreAndPolygon", "(IJ)I"⟩, 27), (⟨"BodySolidsModel", "fromPolygon", "(IJJJ)I"⟩, 27), (⟨"BodySolidsModel", "isIn", "(IJJ)Z"⟩, 27), (⟨"BodySolidsModel", "bases", "()I"⟩, 27), (⟨"BodySolidsModel", "polygons", "()I"⟩, 27), (⟨"BodySolidsModel", "along", "(JJ)I"⟩, 27), (⟨"BodySolidsModel", "doesBreak", "(I)Z"⟩, 27), (⟨"BodySolidsModel", "layOut", "(I)V"⟩, 27), (⟨"BodySolidsModel", "edge", "(I)J"⟩, 27), (⟨"BodySolidsModel", "volume", "(I)J"⟩, 27)]
theorem lw_r3 : ∀ q ∈ lw_privs_3, lw_okq q := List.forall_mem_cons.mpr ⟨lw_p32, List.forall_mem_cons.mpr ⟨lw_p33, List.forall_mem_cons.mpr ⟨lw_p34, List.forall_mem_cons.mpr ⟨lw_p35, List.forall_mem_cons.mpr ⟨lw_p36, List.forall_mem_cons.mpr ⟨lw_p37, List.forall_mem_cons.mpr ⟨lw_p38, List.forall_mem_cons.mpr ⟨lw_p39, List.forall_mem_cons.mpr ⟨lw_p40, List.forall_mem_cons.mpr ⟨lw_p41, List.forall_mem_cons.mpr ⟨lw_p42, List.forall_mem_cons.mpr ⟨lw_p43, List.forall_mem_cons.mpr ⟨lw_p44, List.forall_mem_cons.mpr ⟨lw_p45, List.forall_mem_cons.mpr ⟨lw_p46, List.forall_mem_cons.mpr ⟨lw_p47, fun _ h => absurd h List.not_mem_nil⟩⟩⟩⟩⟩⟩⟩⟩⟩⟩⟩⟩⟩⟩⟩⟩
def lw_privs : List (MethodName × Nat) := lw_privs_1 ++ (lw_privs_2 ++ (lw_privs_3))
def lw_tbl : List Cond := k2_sels lw_privs ++ tables_1
theorem lw_privs_ok : ∀ q ∈ lw_privs, lw_okq q := by
  show ∀ q ∈ lw_privs_1 ++ (lw_privs_2 ++ (lw_privs_3)), lw_okq q
  exact List.forall_mem_append.mpr ⟨lw_r1, List.forall_mem_append.mpr ⟨lw_r2, lw_r3⟩⟩

def R0 : String := "BodySolids"
def T0 : u_T := fun k => match k with
  | 0 => ("BodySolids", "thickness", "J", true)
  | 1 => ("BodySolids", "bodies", "Ljava/util/ArrayList;", true)
  | 2 => ("BodySolids", "placements", "Ljava/util/ArrayList;", true)
  | 3 => ("BodySolids", "keepOuts", "Ljava/util/ArrayList;", true)
  | 4 => ("BodySolids", "cornerX", "[J", true)
  | 5 => ("BodySolids", "cornerY", "[J", true)
  | 6 => ("BodySolids", "corners", "I", false)
  | 7 => ("BodySolids", "relations", "[I", true)
  | 8 => ("BodySolids", "first", "LBodySolids$Layout;", true)
  | _ => ("BodySolids", "second", "LBodySolids$Layout;", true)
def t_0 : Nat → FieldType := fun k => match k with
  | 0 => .long
  | 1 => .object "java/util/ArrayList"
  | 2 => .object "java/util/ArrayList"
  | 3 => .object "java/util/ArrayList"
  | 4 => .array .long
  | 5 => .array .long
  | 6 => .int
  | 7 => .array .int
  | 8 => .object "BodySolids$Layout"
  | _ => .object "BodySolids$Layout"
theorem n_0 : ∀ a, a < 10 → ∀ b, b < 10 → a ≠ b → (T0 a).2.1 ≠ (T0 b).2.1 := by decide +kernel
theorem t_0_ok : ∀ k, k < 10 → parseFieldDescriptor (T0 k).2.2.1 = some (t_0 k) := by decide +kernel
def R1 : String := "java/util/ArrayList"
def T1 : u_T := fun k => match k with
  | 0 => ("java/util/ArrayList", "elementData", "[Ljava/lang/Object;", false)
  | 1 => ("java/util/ArrayList", "size", "I", false)
  | _ => ("java/util/AbstractList", "modCount", "I", false)
def t_1 : Nat → FieldType := fun k => match k with
  | 0 => .array (.object "java/lang/Object")
  | 1 => .int
  | _ => .int
theorem n_1 : ∀ a, a < 3 → ∀ b, b < 3 → a ≠ b → (T1 a).2.1 ≠ (T1 b).2.1 := by decide +kernel
theorem t_1_ok : ∀ k, k < 3 → parseFieldDescriptor (T1 k).2.2.1 = some (t_1 k) := by decide +kernel
def R2 : String := "BodySolids$Layout"
def T2 : u_T := fun k => match k with
  | 0 => ("BodySolids$Layout", "solids", "[LBodySolids$Solid;", true)
  | _ => ("BodySolids$Layout", "count", "I", false)
def t_2 : Nat → FieldType := fun k => match k with
  | 0 => .array (.object "BodySolids$Solid")
  | _ => .int
theorem n_2 : ∀ a, a < 2 → ∀ b, b < 2 → a ≠ b → (T2 a).2.1 ≠ (T2 b).2.1 := by decide +kernel
theorem t_2_ok : ∀ k, k < 2 → parseFieldDescriptor (T2 k).2.2.1 = some (t_2 k) := by decide +kernel
def R3 : String := "BodySolids$Solid"
def T3 : u_T := fun k => match k with
  | 0 => ("BodySolids$Solid", "kind", "I", false)
  | 1 => ("BodySolids$Solid", "flat", "J", false)
  | 2 => ("BodySolids$Solid", "round", "J", false)
  | 3 => ("BodySolids$Solid", "xs", "[J", true)
  | 4 => ("BodySolids$Solid", "ys", "[J", true)
  | 5 => ("BodySolids$Solid", "corners", "I", false)
  | 6 => ("BodySolids$Solid", "x0", "J", false)
  | 7 => ("BodySolids$Solid", "y0", "J", false)
  | 8 => ("BodySolids$Solid", "z0", "J", false)
  | 9 => ("BodySolids$Solid", "x1", "J", false)
  | 10 => ("BodySolids$Solid", "y1", "J", false)
  | _ => ("BodySolids$Solid", "z1", "J", false)
def t_3 : Nat → FieldType := fun k => match k with
  | 0 => .int
  | 1 => .long
  | 2 => .long
  | 3 => .array .long
  | 4 => .array .long
  | 5 => .int
  | 6 => .long
  | 7 => .long
  | 8 => .long
  | 9 => .long
  | 10 => .long
  | _ => .long
theorem n_3 : ∀ a, a < 12 → ∀ b, b < 12 → a ≠ b → (T3 a).2.1 ≠ (T3 b).2.1 := by decide +kernel
theorem t_3_ok : ∀ k, k < 12 → parseFieldDescriptor (T3 k).2.2.1 = some (t_3 k) := by decide +kernel
def R4 : String := "BodySolids$Body"
def T4 : u_T := fun k => match k with
  | 0 => ("BodySolids$Body", "solids", "Ljava/util/ArrayList;", true)
  | _ => ("BodySolids$Body", "weight", "J", false)
def t_4 : Nat → FieldType := fun k => match k with
  | 0 => .object "java/util/ArrayList"
  | _ => .long
theorem n_4 : ∀ a, a < 2 → ∀ b, b < 2 → a ≠ b → (T4 a).2.1 ≠ (T4 b).2.1 := by decide +kernel
theorem t_4_ok : ∀ k, k < 2 → parseFieldDescriptor (T4 k).2.2.1 = some (t_4 k) := by decide +kernel
def R5 : String := "BodySolids$Placement"
def T5 : u_T := fun k => match k with
  | 0 => ("BodySolids$Placement", "body", "LBodySolids$Body;", true)
  | 1 => ("BodySolids$Placement", "x", "J", false)
  | 2 => ("BodySolids$Placement", "y", "J", false)
  | 3 => ("BodySolids$Placement", "turn", "I", false)
  | _ => ("BodySolids$Placement", "side", "I", false)
def t_5 : Nat → FieldType := fun k => match k with
  | 0 => .object "BodySolids$Body"
  | 1 => .long
  | 2 => .long
  | 3 => .int
  | _ => .int
theorem n_5 : ∀ a, a < 5 → ∀ b, b < 5 → a ≠ b → (T5 a).2.1 ≠ (T5 b).2.1 := by decide +kernel
theorem t_5_ok : ∀ k, k < 5 → parseFieldDescriptor (T5 k).2.2.1 = some (t_5 k) := by decide +kernel
def R6 : String := "BodySolids$KeepOut"
def T6 : u_T := fun k => match k with
  | 0 => ("BodySolids$KeepOut", "space", "LBodySolids$Solid;", true)
  | _ => ("BodySolids$KeepOut", "side", "I", true)
def t_6 : Nat → FieldType := fun k => match k with
  | 0 => .object "BodySolids$Solid"
  | _ => .int
theorem n_6 : ∀ a, a < 2 → ∀ b, b < 2 → a ≠ b → (T6 a).2.1 ≠ (T6 b).2.1 := by decide +kernel
theorem t_6_ok : ∀ k, k < 2 → parseFieldDescriptor (T6 k).2.2.1 = some (t_6 k) := by decide +kernel
def R7 : String := "BodySolidsModel"
def T7 : u_T := fun k => match k with
  | 0 => ("BodySolidsModel", "thrown", "I", false)
  | 1 => ("BodySolidsModel", "thickness", "J", true)
  | 2 => ("BodySolidsModel", "bodies", "I", false)
  | 3 => ("BodySolidsModel", "counts", "[I", true)
  | 4 => ("BodySolidsModel", "kinds", "[I", true)
  | 5 => ("BodySolidsModel", "numbers", "[J", true)
  | 6 => ("BodySolidsModel", "cornerCounts", "[I", true)
  | 7 => ("BodySolidsModel", "cornerX", "[J", true)
  | 8 => ("BodySolidsModel", "cornerY", "[J", true)
  | 9 => ("BodySolidsModel", "told", "I", false)
  | 10 => ("BodySolidsModel", "toldX", "[J", true)
  | 11 => ("BodySolidsModel", "toldY", "[J", true)
  | 12 => ("BodySolidsModel", "places", "I", false)
  | 13 => ("BodySolidsModel", "placed", "[I", true)
  | 14 => ("BodySolidsModel", "placeX", "[J", true)
  | 15 => ("BodySolidsModel", "placeY", "[J", true)
  | 16 => ("BodySolidsModel", "turns", "[I", true)
  | 17 => ("BodySolidsModel", "sides", "[I", true)
  | 18 => ("BodySolidsModel", "outs", "I", false)
  | 19 => ("BodySolidsModel", "out", "[J", true)
  | 20 => ("BodySolidsModel", "kindAt", "[I", true)
  | 21 => ("BodySolidsModel", "many", "[I", true)
  | 22 => ("BodySolidsModel", "px", "[J", true)
  | 23 => ("BodySolidsModel", "py", "[J", true)
  | 24 => ("BodySolidsModel", "radius", "[J", true)
  | 25 => ("BodySolidsModel", "low", "[J", true)
  | _ => ("BodySolidsModel", "high", "[J", true)
def t_7 : Nat → FieldType := fun k => match k with
  | 0 => .int
  | 1 => .long
  | 2 => .int
  | 3 => .array .int
  | 4 => .array .int
  | 5 => .array .long
  | 6 => .array .int
  | 7 => .array .long
  | 8 => .array .long
  | 9 => .int
  | 10 => .array .long
  | 11 => .array .long
  | 12 => .int
  | 13 => .array .int
  | 14 => .array .long
  | 15 => .array .long
  | 16 => .array .int
  | 17 => .array .int
  | 18 => .int
  | 19 => .array .long
  | 20 => .array .int
  | 21 => .array .int
  | 22 => .array .long
  | 23 => .array .long
  | 24 => .array .long
  | 25 => .array .long
  | _ => .array .long
theorem n_7 : ∀ a, a < 27 → ∀ b, b < 27 → a ≠ b → (T7 a).2.1 ≠ (T7 b).2.1 := by decide +kernel
theorem t_7_ok : ∀ k, k < 27 → parseFieldDescriptor (T7 k).2.2.1 = some (t_7 k) := by decide +kernel
abbrev gCl : List vw_C := [(R0, T0, 10), (R1, T1, 3), (R2, T2, 2), (R3, T3, 12), (R4, T4, 2), (R5, T5, 5), (R6, T6, 2), (R7, T7, 27)]
abbrev gTy : List FieldType := [.int, .long, .object "BodySolids$Solid", .object "java/lang/Object"]
def gNest : Cond → Bool
  | .fieldLinkNest _ _ _ _ _ _ => true
  | .methodLinkNest _ _ _ _ => true
  | .castable _ _ => true
  | .declares _ => true
  | .arrayOver (.object _) => true
  | w => goodWord w
def gAll : List Cond := lw_tbl.filter gNest
theorem gm {w : Cond} (i : Nat) (h : lw_tbl[i]? = some w) (hg : gNest w = true) : w ∈ gAll := List.mem_filter.mpr ⟨List.mem_of_getElem? h, hg⟩
theorem gm_all {ws : List Cond} (h : ∀ w ∈ ws, w ∈ lw_tbl ∧ gNest w = true) : ∀ w ∈ ws, w ∈ gAll := fun w hw => List.mem_filter.mpr (h w hw)
theorem i_0 : ∀ w ∈ u_ws R0 T0 10, w ∈ gAll := gm_all (by decide +kernel)
theorem i_1 : ∀ w ∈ u_ws R1 T1 3, w ∈ gAll := gm_all (by decide +kernel)
theorem i_2 : ∀ w ∈ u_ws R2 T2 2, w ∈ gAll := gm_all (by decide +kernel)
theorem i_3 : ∀ w ∈ u_ws R3 T3 12, w ∈ gAll := gm_all (by decide +kernel)
theorem i_4 : ∀ w ∈ u_ws R4 T4 2, w ∈ gAll := gm_all (by decide +kernel)
theorem i_5 : ∀ w ∈ u_ws R5 T5 5, w ∈ gAll := gm_all (by decide +kernel)
theorem i_6 : ∀ w ∈ u_ws R6 T6 2, w ∈ gAll := gm_all (by decide +kernel)
theorem i_7 : ∀ w ∈ u_ws R7 T7 27, w ∈ gAll := gm_all (by decide +kernel)
end
section
/-! ===== THE TYPED WORLD: a map from addresses to entries, and the heap's size ===== -/
abbrev gE : Type := (Nat × Nat × (Nat → Value)) ⊕ (Nat × List Value)
abbrev gW : Type := (Nat → Option gE) × Nat
abbrev gD : Type := (Nat → ClassId) × (Nat → Nat → Nat) × (Nat → ClassId)
abbrev gX (α : Type) : Type := Option ((String ⊕ α) × gW)
/-- a row that was there before: only read, what else its cell bears is not known -/
def gLo (c : ClassId) (n : Nat) (f : Nat → Value) (a : Nat) (H : Heap) : Prop := ∃ scr : Cell, H[a]? = some scr ∧ scr.cls = c ∧ (∀ k, scr.vm ≠ .statics k) ∧ scr.vm ≠ .unknown ∧ scr.slots.size = n ∧ ∀ j, j < n → scr.slots[j]? = some (f j)
/-- kinds below 4: rows that were made here; 4: ints, 5: objects, that were there before -/
def gAt (D : gD) (a : Nat) (e : gE) (H : Heap) : Prop := match e with
  | .inl x => if x.1 < 4 then H[a]? = some (arrV (D.2.2 x.1) x.2.1 x.2.2) else gLo (D.2.2 x.1) x.2.1 x.2.2 a H
  | .inr o => ∃ r : vw_C, gCl[o.1]? = some r ∧ t_OB a (D.1 o.1) r.2.2 (D.2.1 o.1) H (vp_V o.2)
theorem gAt.mk {D : gD} {a k n : Nat} {f : Nat → Value} {H : Heap} (hk : k < 4) (h : H[a]? = some (arrV (D.2.2 k) n f)) : gAt D a (.inl (k, n, f)) H := by
  show if k < 4 then _ else _
  rw [if_pos hk]
  exact h
theorem gAt.arr {D : gD} {a k n : Nat} {f : Nat → Value} {H : Heap} (hk : k < 4) (h : gAt D a (.inl (k, n, f)) H) : H[a]? = some (arrV (D.2.2 k) n f) := by
  have h : (if k < 4 then H[a]? = some (arrV (D.2.2 k) n f) else gLo (D.2.2 k) n f a H) := h
  rw [if_pos hk] at h
  exact h
theorem gAt.any {D : gD} {a k n : Nat} {f : Nat → Value} {H : Heap} (h : gAt D a (.inl (k, n, f)) H) : gLo (D.2.2 k) n f a H := by
  have h : (if k < 4 then H[a]? = some (arrV (D.2.2 k) n f) else gLo (D.2.2 k) n f a H) := h
  split at h
  · exact ⟨_, h, rfl, (fun _ q => by cases q), (fun q => by cases q), arrV_size _ _ _, fun j hj => arrV_read _ _ hj⟩
  · exact h
theorem gAt.kept {D : gD} {a : Nat} {e : gE} {H H1 : Heap} (h : gAt D a e H) (hq : H1[a]? = H[a]?) : gAt D a e H1 := by
  cases e with
  | inl x =>
    have h : (if x.1 < 4 then H[a]? = some (arrV (D.2.2 x.1) x.2.1 x.2.2) else gLo (D.2.2 x.1) x.2.1 x.2.2 a H) := h
    show if x.1 < 4 then _ else _
    split at h
    · rename_i hk
      rw [if_pos hk]
      exact hq.trans h
    · rename_i hk
      rw [if_neg hk]
      obtain ⟨scr, h1, h2⟩ := h
      exact ⟨scr, hq.trans h1, h2⟩
  | inr o =>
    obtain ⟨r, h1, h2⟩ := h
    exact ⟨r, h1, h2.kept hq⟩
theorem gAt.lt {D : gD} {a : Nat} {e : gE} {H : Heap} (h : gAt D a e H) : a < H.size := by
  cases e with
  | inl x =>
    obtain ⟨scr, h1, -⟩ := gAt.any (k := x.1) (n := x.2.1) (f := x.2.2) h
    exact (Array.getElem?_eq_some_iff.mp h1).1
  | inr o =>
    obtain ⟨r, h1, cell, h2, -⟩ := h
    exact (Array.getElem?_eq_some_iff.mp h2).1
/-- kinds and array kinds as the tables have them -/
def gK (D : gD) (U : State) : Prop := (∀ (c : Nat) (q : vw_C), gCl[c]? = some q → u_Kn U q.1 q.2.1 q.2.2 (D.1 c) (D.2.1 c)) ∧ (∀ (k : Nat) (ty : FieldType), (gTy[k]? = some ty → ArrOfT U (D.2.2 k) ty ∧ va_RA U (D.2.2 k) ty)) ∧ ArrOfT U (D.2.2 4) .int ∧ ArrOfT U (D.2.2 5) (.object "java/lang/Object")
theorem gK.moved {D : gD} {u U : State} (hvm : u.vm.Alike U.vm) (h : gK D u) : gK D U := ⟨fun c q hq => u_Kn_moved hvm (h.1 c q hq), fun k ty hk => ⟨arrOfT_moved hvm (h.2.1 k ty hk).1, (h.2.1 k ty hk).2.moved hvm⟩, arrOfT_moved hvm h.2.2.1, arrOfT_moved hvm h.2.2.2⟩
theorem gK.va {D : gD} {U : State} (h : gK D U) : va_K (D.1, D.2.1) gCl [] U := ⟨h.1, fun k q hq => by simp at hq⟩
theorem gK.arrs {D : gD} {U : State} (h : gK D U) {k : Nat} (hk : k < 6) : ∃ ty, ArrOfT U (D.2.2 k) ty := by
  match k, hk with
  | 0, _ => exact ⟨_, (h.2.1 0 _ rfl).1⟩
  | 1, _ => exact ⟨_, (h.2.1 1 _ rfl).1⟩
  | 2, _ => exact ⟨_, (h.2.1 2 _ rfl).1⟩
  | 3, _ => exact ⟨_, (h.2.1 3 _ rfl).1⟩
  | 4, _ => exact ⟨_, h.2.2.1⟩
  | 5, _ => exact ⟨_, h.2.2.2⟩
theorem garr {U : State} {c : ClassId} {ty : FieldType} (h : ArrOfT U c ty) {scr : Cell} (hc : scr.cls = c) (hv : ∀ k, scr.vm ≠ .statics k) : U.isArrayOf scr ty := ⟨hv, by rw [hc]; exact (h 0 (fun _ => .null)).2⟩
/-- every word of the one list -/
def gT (U : State) : Prop := ∀ w ∈ gAll, ∀ a : Array Value, w.before a U = true
theorem gNest_warm {w : Cond} (h : gNest w = true) {s U : State} (hW : s.WarmedH U.vm) (hb : ∀ a : Array Value, w.before a s = true) (a' : Array Value) : w.before a' U = true := by
  cases w
  case fieldLinkNest => exact va_Nw.use rfl (va_Nw.warmF hW (hb #[]))
  case methodLinkNest => exact va_Nw.use rfl (va_Nw.warmM hW (hb #[]))
  case castable => exact va_Nw.use rfl (va_Nw.warmC hW (hb #[]))
  case declares => exact va_Nw.use rfl (va_Nw.warmD hW (hb #[]))
  case arrayOver f =>
    cases f with
    | object C => exact va_AO.use (va_AO.moved hW.alike (va_AO.of (hb #[])))
    | _ => exact word_at hW (good_of_word h) (hb #[])
  all_goals exact word_at hW (good_of_word h) (hb #[])
theorem gT.warm {s U : State} (hW : s.WarmedH U.vm) (h : gT s) : gT U := fun w hw a => gNest_warm (List.mem_filter.mp hw).2 hW (h w hw) a
/-- an empty row is never written; nor one that was there before -/
def gRW : gE → Prop
  | .inl x => x.1 < 4 ∧ x.2.1 ≠ 0
  | .inr _ => True
/-- between a world and the machine's heap, inside a method: s its start, A what it may change -/
def gI (D : gD) (s : State) (A : Nat → Prop) (w : gW) (H : Heap) (locs : List Loc) : Prop :=
  H.size = w.2 ∧ (∀ (a : Nat) (e : gE), w.1 a = some e → gAt D a e H) ∧ va_S A s.heap H locs ∧ ∀ (a : Nat) (e : gE), w.1 a = some e → gRW e → A a
def gup (w : gW) (a : Nat) (e : gE) : gW := (fun q => if q = a then some e else w.1 q, w.2)
def gpush (w : gW) (e : gE) : gW := (fun q => if q = w.2 then some e else w.1 q, w.2 + 1)
theorem gI.put {D : gD} {s : State} {A : Nat → Prop} {w : gW} {H H1 : Heap} {locs : List Loc} {a k : Nat} {e0 e : gE} (hI : gI D s A w H locs) (hw : w.1 a = some e0) (hrw : gRW e0) (z : H1.size = H.size) (oq : ∀ q : Nat, q ≠ a → H1[q]? = H[q]?) (he : gAt D a e H1) : gI D s A (gup w a e) H1 (locs ++ [⟨a, k⟩]) := by
  obtain ⟨h1, h2, h3, h4⟩ := hI
  refine ⟨z.trans h1, fun b x hb => ?_, h3.put z oq (h4 a e0 hw hrw), fun b x hb hx => ?_⟩
  · by_cases q : b = a
    · subst q
      simp only [gup, if_true] at hb
      cases hb
      exact he
    · simp only [gup, if_neg q] at hb
      exact (h2 b x hb).kept (oq b q)
  · by_cases q : b = a
    · subst q
      exact h4 b e0 hw hrw
    · simp only [gup, if_neg q] at hb
      exact h4 b x hb hx
theorem gI.push {D : gD} {s : State} {A : Nat → Prop} {w : gW} {H H1 : Heap} {locs : List Loc} {e : gE} (hI : gI D s A w H locs) (hA : ∀ q : Nat, s.heap.size ≤ q → A q) (z : H1.size = H.size + 1) (oq : ∀ q : Nat, q < H.size → H1[q]? = H[q]?) (he : gAt D H.size e H1) : gI D s A (gpush w e) H1 locs := by
  obtain ⟨h1, h2, h3, h4⟩ := hI
  refine ⟨by rw [z, h1]; rfl, fun b x hb => ?_, ⟨Nat.le_trans h3.1 (by omega), fun q g1 g2 => (oq q (Nat.lt_of_lt_of_le g1 h3.1)).trans (h3.2.1 q g1 g2), h3.2.2⟩, fun b x hb hx => ?_⟩
  · by_cases q : b = w.2
    · subst q
      simp only [gpush, if_true] at hb
      cases hb
      rw [← h1]
      exact he
    · simp only [gpush, if_neg q] at hb
      have hl := (h2 b x hb).lt
      exact (h2 b x hb).kept (oq b hl)
  · by_cases q : b = w.2
    · subst q
      exact hA _ (by rw [← h1]; exact h3.1)
    · simp only [gpush, if_neg q] at hb
      exact h4 b x hb hx
theorem gI.one {D : gD} {s : State} {A : Nat → Prop} {w : gW} {H : Heap} {locs : List Loc} {a ci : Nat} {fs : List Value} (hI : gI D s A w H locs) (h : w.1 a = some (.inr (ci, fs))) : va_P (D.1, D.2.1) gCl [(a, .inr (ci, fs))] H := by
  intro k q hk
  match k, hk with
  | 0, hk =>
    cases hk
    exact hI.2.1 a _ h
  | k + 1, hk => simp at hk
/-! ===== reads and writes ===== -/
def gf (w : gW) (a c k : Nat) : Option Value := match w.1 a with
  | some (.inr o) => if o.1 = c then o.2[k]? else none
  | _ => none
def gvI : Option Value → Option Int32
  | some (.int x) => some x
  | _ => none
def gvJ : Option Value → Option Int64
  | some (.long x) => some x
  | _ => none
def gvA : Option Value → Option Nat
  | some (.ref x) => some x
  | _ => none
theorem gvI_some {o : Option Value} {x : Int32} (h : gvI o = some x) : o = some (.int x) := by
  unfold gvI at h
  split at h
  · cases h; rfl
  · cases h
theorem gvJ_some {o : Option Value} {x : Int64} (h : gvJ o = some x) : o = some (.long x) := by
  unfold gvJ at h
  split at h
  · cases h; rfl
  · cases h
theorem gvA_some {o : Option Value} {x : Nat} (h : gvA o = some x) : o = some (.ref x) := by
  unfold gvA at h
  split at h
  · cases h; rfl
  · cases h
def gfI (w : gW) (a c k : Nat) : Option Int32 := gvI (gf w a c k)
def gfJ (w : gW) (a c k : Nat) : Option Int64 := gvJ (gf w a c k)
def gfA (w : gW) (a c k : Nat) : Option Nat := gvA (gf w a c k)
theorem gf_some {w : gW} {a c k : Nat} {v : Value} (h : gf w a c k = some v) : ∃ fs : List Value, w.1 a = some (.inr (c, fs)) ∧ fs[k]? = some v := by
  unfold gf at h
  split at h
  · rename_i o ho
    split at h
    · rename_i hc
      subst hc
      exact ⟨o.2, ho, h⟩
    · cases h
  · cases h
def gp (w : gW) (a c k : Nat) (v : Value) : Option gW := match w.1 a with
  | some (.inr o) => if o.1 = c ∧ k < o.2.length then some (gup w a (.inr (c, o.2.set k v))) else none
  | _ => none
theorem gp_some {w w' : gW} {a c k : Nat} {v : Value} (h : gp w a c k v = some w') : ∃ fs : List Value, w.1 a = some (.inr (c, fs)) ∧ k < fs.length ∧ w' = gup w a (.inr (c, fs.set k v)) := by
  unfold gp at h
  split at h
  · rename_i o ho
    split at h
    · rename_i hc
      obtain ⟨hc, hk⟩ := hc
      subst hc
      cases h
      exact ⟨o.2, ho, hk, rfl⟩
    · cases h
  · cases h
/-- the object is of kind c -/
def gck (w : gW) (a c : Nat) : Option Unit := match w.1 a with
  | some (.inr o) => if o.1 = c then some () else none
  | _ => none
theorem gck_some {w : gW} {a c : Nat} {u : Unit} (h : gck w a c = some u) : ∃ fs : List Value, w.1 a = some (.inr (c, fs)) := by
  unfold gck at h
  split at h
  · rename_i o ho
    split at h
    · rename_i hc
      subst hc
      exact ⟨o.2, ho⟩
    · cases h
  · cases h
def gnw (w : gW) (c : Nat) (fs : List Value) : Option (Nat × gW) := some (w.2, gpush w (.inr (c, fs)))
def gna (w : gW) (k : Nat) (n : Int32) (M : Nat) (v : Value) : Option (Nat × gW) := if n < 0 ∨ M < n.toNatClampNeg then none else some (w.2, gpush w (.inl (k, n.toNatClampNeg, fun _ => v)))
theorem gna_some {w w' : gW} {k M a : Nat} {n : Int32} {v : Value} (h : gna w k n M v = some (a, w')) : ¬ n < 0 ∧ n.toNatClampNeg ≤ M ∧ a = w.2 ∧ w' = gpush w (.inl (k, n.toNatClampNeg, fun _ => v)) := by
  unfold gna at h
  split at h
  · cases h
  · rename_i hc
    cases h
    exact ⟨fun q => hc (Or.inl q), Nat.not_lt.mp (fun q => hc (Or.inr q)), rfl, rfl⟩
/-- an array's place: its kind must be k -/
def gar (w : gW) (a k : Nat) (i : Int32) : Option Value := match w.1 a with
  | some (.inl x) => if x.1 = k ∧ ¬ i < 0 ∧ i.toNatClampNeg < x.2.1 then some (x.2.2 i.toNatClampNeg) else none
  | _ => none
theorem gar_some {w : gW} {a k : Nat} {i : Int32} {v : Value} (h : gar w a k i = some v) : ∃ (n : Nat) (f : Nat → Value), w.1 a = some (.inl (k, n, f)) ∧ ¬ (i < 0 ∨ n ≤ i.toNatClampNeg) ∧ f i.toNatClampNeg = v := by
  unfold gar at h
  split at h
  · rename_i x hx
    split at h
    · rename_i hc
      obtain ⟨h1, h2, h3⟩ := hc
      subst h1
      cases h
      exact ⟨x.2.1, x.2.2, hx, fun q => q.elim h2 (fun z => by omega), rfl⟩
    · cases h
  · cases h
def gas (w : gW) (a k : Nat) (i : Int32) (v : Value) : Option gW := match w.1 a with
  | some (.inl x) => if x.1 = k ∧ ¬ i < 0 ∧ i.toNatClampNeg < x.2.1 then some (gup w a (.inl (k, x.2.1, updV x.2.2 i.toNatClampNeg v))) else none
  | _ => none
theorem gas_some {w w' : gW} {a k : Nat} {i : Int32} {v : Value} (h : gas w a k i v = some w') : ∃ (n : Nat) (f : Nat → Value), w.1 a = some (.inl (k, n, f)) ∧ ¬ (i < 0 ∨ n ≤ i.toNatClampNeg) ∧ w' = gup w a (.inl (k, n, updV f i.toNatClampNeg v)) := by
  unfold gas at h
  split at h
  · rename_i x hx
    split at h
    · rename_i hc
      obtain ⟨h1, h2, h3⟩ := hc
      subst h1
      cases h
      exact ⟨x.2.1, x.2.2, hx, fun q => q.elim h2 (fun z => by omega), rfl⟩
    · cases h
  · cases h
def gal (w : gW) (a : Nat) : Option Int32 := match w.1 a with
  | some (.inl x) => if x.1 < 6 then some (nI x.2.1) else none
  | _ => none
theorem gal_some {w : gW} {a : Nat} {x : Int32} (h : gal w a = some x) : ∃ (k n : Nat) (f : Nat → Value), w.1 a = some (.inl (k, n, f)) ∧ k < 6 ∧ x = nI n := by
  unfold gal at h
  split at h
  · rename_i y hy
    split at h
    · rename_i hk
      cases h
      exact ⟨y.1, y.2.1, y.2.2, hy, hk, rfl⟩
    · cases h
  · cases h
/-- ints: kind 0, or 4 (only read) -/
def gki (w : gW) (a : Nat) : Nat := match w.1 a with
  | some (.inl x) => if x.1 = 4 then 4 else 0
  | _ => 0
theorem gki_ty {D : gD} {U : State} (h : gK D U) (w : gW) (a : Nat) : ArrOfT U (D.2.2 (gki w a)) .int := by
  unfold gki
  split
  · split
    · exact h.2.2.1
    · exact (h.2.1 0 _ rfl).1
  · exact (h.2.1 0 _ rfl).1
def gaI (w : gW) (a : Nat) (i : Int32) : Option Int32 := gvI (gar w a (gki w a) i)
def gaJ (w : gW) (a : Nat) (i : Int32) : Option Int64 := gvJ (gar w a 1 i)
/-- a row of references: its number -/
def gob (w : gW) (a : Nat) : Option Nat := match w.1 a with
  | some (.inl x) => match gTy[x.1]? with
    | some (.object _) => some x.1
    | _ => none
  | _ => none
def gaA (w : gW) (a : Nat) (i : Int32) : Option Nat := (gob w a).bind fun k => gvA (gar w a k i)
theorem gob_some {w : gW} {a k : Nat} (h : gob w a = some k) : ∃ C : String, gTy[k]? = some (.object C) := by
  unfold gob at h
  split at h
  · split at h
    · rename_i C hC
      cases h
      exact ⟨C, hC⟩
    · cases h
  · cases h
theorem gaA_some {w : gW} {a x : Nat} {i : Int32} (h : gaA w a i = some x) : ∃ (k : Nat) (C : String), gTy[k]? = some (.object C) ∧ gar w a k i = some (.ref x) := by
  obtain ⟨k, h1, h2⟩ := Option.bind_eq_some_iff.mp h
  obtain ⟨C, hC⟩ := gob_some h1
  exact ⟨k, C, hC, gvA_some h2⟩
def gsI (w : gW) (a : Nat) (i x : Int32) : Option gW := gas w a 0 i (.int x)
def gsJ (w : gW) (a : Nat) (i : Int32) (x : Int64) : Option gW := gas w a 1 i (.long x)
/-! ===== the pure functions' glue ===== -/
def gbind {α β : Type} (x : gX α) (k : α → gW → gX β) : gX β := match x with
  | none => none
  | some (.inl E, w) => some (.inl E, w)
  | some (.inr v, w) => k v w
def gjoin {γ δ : Type} (F : γ → δ) (J : γ) : δ := F J
def gguard {α : Type} (c : Prop) [Decidable c] (x : Option α) : Option α := if c then x else none
def gthrow {α : Type} (E : String) (w : gW) : gX α := some (.inl E, (w.1, w.2 + 1))
theorem gb {α β : Type} {o : Option α} {f : α → Option β} {r : β} (h : o.bind f = some r) : ∃ v, o = some v ∧ f v = some r := Option.bind_eq_some_iff.mp h
def gb2f {β : Type} (x : Option (Nat × gW)) (K : Nat → gW → Option β) : Option β := match x with
  | none => none
  | some q => K q.1 q.2
theorem gb2 {β : Type} {x : Option (Nat × gW)} {K : Nat → gW → Option β} {r : β} (h : gb2f x K = some r) : ∃ (o : Nat) (w : gW), x = some (o, w) ∧ K o w = some r := by
  cases x with
  | none => cases h
  | some q => exact ⟨q.1, q.2, rfl, h⟩
theorem gj {γ β : Type} {F : γ → Option β} {J : γ} {r : β} (h : gjoin F J = some r) : ∃ K, K = J ∧ F K = some r := ⟨J, rfl, h⟩
theorem gif {β : Type} {c : Prop} [Decidable c] {x : Option β} {r : β} (h : gguard c x = some r) : c ∧ x = some r := by
  unfold gguard at h
  split at h
  · rename_i hc
    exact ⟨hc, h⟩
  · cases h
theorem git {β : Type} {c : Prop} [Decidable c] {x y : β} {r : β} (hc : c) (h : (if c then x else y) = r) : x = r := by rw [if_pos hc] at h; exact h
theorem gie {β : Type} {c : Prop} [Decidable c] {x y : β} {r : β} (hc : ¬ c) (h : (if c then x else y) = r) : y = r := by rw [if_neg hc] at h; exact h
theorem gsome {α β : Type} {x : gX α} {k : α → gW → gX β} {r : (String ⊕ β) × gW} (h : gbind x k = some r) : ∃ o, x = some o := by
  cases x with
  | none => cases h
  | some o => exact ⟨o, rfl⟩
theorem gk1 {α0 β : Type} {K J : α0 → β} (e : K = J) {x0 : α0} {r : β} (h : K x0 = r) : J x0 = r := e ▸ h
theorem gk2 {α0 α1 β : Type} {K J : α0 → α1 → β} (e : K = J) {x0 : α0} {x1 : α1} {r : β} (h : K x0 x1 = r) : J x0 x1 = r := e ▸ h
theorem gk3 {α0 α1 α2 β : Type} {K J : α0 → α1 → α2 → β} (e : K = J) {x0 : α0} {x1 : α1} {x2 : α2} {r : β} (h : K x0 x1 x2 = r) : J x0 x1 x2 = r := e ▸ h
theorem gk4 {α0 α1 α2 α3 β : Type} {K J : α0 → α1 → α2 → α3 → β} (e : K = J) {x0 : α0} {x1 : α1} {x2 : α2} {x3 : α3} {r : β} (h : K x0 x1 x2 x3 = r) : J x0 x1 x2 x3 = r := e ▸ h
theorem gk5 {α0 α1 α2 α3 α4 β : Type} {K J : α0 → α1 → α2 → α3 → α4 → β} (e : K = J) {x0 : α0} {x1 : α1} {x2 : α2} {x3 : α3} {x4 : α4} {r : β} (h : K x0 x1 x2 x3 x4 = r) : J x0 x1 x2 x3 x4 = r := e ▸ h
theorem gk6 {α0 α1 α2 α3 α4 α5 β : Type} {K J : α0 → α1 → α2 → α3 → α4 → α5 → β} (e : K = J) {x0 : α0} {x1 : α1} {x2 : α2} {x3 : α3} {x4 : α4} {x5 : α5} {r : β} (h : K x0 x1 x2 x3 x4 x5 = r) : J x0 x1 x2 x3 x4 x5 = r := e ▸ h
theorem gk7 {α0 α1 α2 α3 α4 α5 α6 β : Type} {K J : α0 → α1 → α2 → α3 → α4 → α5 → α6 → β} (e : K = J) {x0 : α0} {x1 : α1} {x2 : α2} {x3 : α3} {x4 : α4} {x5 : α5} {x6 : α6} {r : β} (h : K x0 x1 x2 x3 x4 x5 x6 = r) : J x0 x1 x2 x3 x4 x5 x6 = r := e ▸ h
theorem gk8 {α0 α1 α2 α3 α4 α5 α6 α7 β : Type} {K J : α0 → α1 → α2 → α3 → α4 → α5 → α6 → α7 → β} (e : K = J) {x0 : α0} {x1 : α1} {x2 : α2} {x3 : α3} {x4 : α4} {x5 : α5} {x6 : α6} {x7 : α7} {r : β} (h : K x0 x1 x2 x3 x4 x5 x6 x7 = r) : J x0 x1 x2 x3 x4 x5 x6 x7 = r := e ▸ h
theorem gk9 {α0 α1 α2 α3 α4 α5 α6 α7 α8 β : Type} {K J : α0 → α1 → α2 → α3 → α4 → α5 → α6 → α7 → α8 → β} (e : K = J) {x0 : α0} {x1 : α1} {x2 : α2} {x3 : α3} {x4 : α4} {x5 : α5} {x6 : α6} {x7 : α7} {x8 : α8} {r : β} (h : K x0 x1 x2 x3 x4 x5 x6 x7 x8 = r) : J x0 x1 x2 x3 x4 x5 x6 x7 x8 = r := e ▸ h
theorem gk10 {α0 α1 α2 α3 α4 α5 α6 α7 α8 α9 β : Type} {K J : α0 → α1 → α2 → α3 → α4 → α5 → α6 → α7 → α8 → α9 → β} (e : K = J) {x0 : α0} {x1 : α1} {x2 : α2} {x3 : α3} {x4 : α4} {x5 : α5} {x6 : α6} {x7 : α7} {x8 : α8} {x9 : α9} {r : β} (h : K x0 x1 x2 x3 x4 x5 x6 x7 x8 x9 = r) : J x0 x1 x2 x3 x4 x5 x6 x7 x8 x9 = r := e ▸ h
theorem gk11 {α0 α1 α2 α3 α4 α5 α6 α7 α8 α9 α10 β : Type} {K J : α0 → α1 → α2 → α3 → α4 → α5 → α6 → α7 → α8 → α9 → α10 → β} (e : K = J) {x0 : α0} {x1 : α1} {x2 : α2} {x3 : α3} {x4 : α4} {x5 : α5} {x6 : α6} {x7 : α7} {x8 : α8} {x9 : α9} {x10 : α10} {r : β} (h : K x0 x1 x2 x3 x4 x5 x6 x7 x8 x9 x10 = r) : J x0 x1 x2 x3 x4 x5 x6 x7 x8 x9 x10 = r := e ▸ h
theorem gk12 {α0 α1 α2 α3 α4 α5 α6 α7 α8 α9 α10 α11 β : Type} {K J : α0 → α1 → α2 → α3 → α4 → α5 → α6 → α7 → α8 → α9 → α10 → α11 → β} (e : K = J) {x0 : α0} {x1 : α1} {x2 : α2} {x3 : α3} {x4 : α4} {x5 : α5} {x6 : α6} {x7 : α7} {x8 : α8} {x9 : α9} {x10 : α10} {x11 : α11} {r : β} (h : K x0 x1 x2 x3 x4 x5 x6 x7 x8 x9 x10 x11 = r) : J x0 x1 x2 x3 x4 x5 x6 x7 x8 x9 x10 x11 = r := e ▸ h
theorem gk13 {α0 α1 α2 α3 α4 α5 α6 α7 α8 α9 α10 α11 α12 β : Type} {K J : α0 → α1 → α2 → α3 → α4 → α5 → α6 → α7 → α8 → α9 → α10 → α11 → α12 → β} (e : K = J) {x0 : α0} {x1 : α1} {x2 : α2} {x3 : α3} {x4 : α4} {x5 : α5} {x6 : α6} {x7 : α7} {x8 : α8} {x9 : α9} {x10 : α10} {x11 : α11} {x12 : α12} {r : β} (h : K x0 x1 x2 x3 x4 x5 x6 x7 x8 x9 x10 x11 x12 = r) : J x0 x1 x2 x3 x4 x5 x6 x7 x8 x9 x10 x11 x12 = r := e ▸ h
theorem gk14 {α0 α1 α2 α3 α4 α5 α6 α7 α8 α9 α10 α11 α12 α13 β : Type} {K J : α0 → α1 → α2 → α3 → α4 → α5 → α6 → α7 → α8 → α9 → α10 → α11 → α12 → α13 → β} (e : K = J) {x0 : α0} {x1 : α1} {x2 : α2} {x3 : α3} {x4 : α4} {x5 : α5} {x6 : α6} {x7 : α7} {x8 : α8} {x9 : α9} {x10 : α10} {x11 : α11} {x12 : α12} {x13 : α13} {r : β} (h : K x0 x1 x2 x3 x4 x5 x6 x7 x8 x9 x10 x11 x12 x13 = r) : J x0 x1 x2 x3 x4 x5 x6 x7 x8 x9 x10 x11 x12 x13 = r := e ▸ h
theorem gk15 {α0 α1 α2 α3 α4 α5 α6 α7 α8 α9 α10 α11 α12 α13 α14 β : Type} {K J : α0 → α1 → α2 → α3 → α4 → α5 → α6 → α7 → α8 → α9 → α10 → α11 → α12 → α13 → α14 → β} (e : K = J) {x0 : α0} {x1 : α1} {x2 : α2} {x3 : α3} {x4 : α4} {x5 : α5} {x6 : α6} {x7 : α7} {x8 : α8} {x9 : α9} {x10 : α10} {x11 : α11} {x12 : α12} {x13 : α13} {x14 : α14} {r : β} (h : K x0 x1 x2 x3 x4 x5 x6 x7 x8 x9 x10 x11 x12 x13 x14 = r) : J x0 x1 x2 x3 x4 x5 x6 x7 x8 x9 x10 x11 x12 x13 x14 = r := e ▸ h
theorem gk16 {α0 α1 α2 α3 α4 α5 α6 α7 α8 α9 α10 α11 α12 α13 α14 α15 β : Type} {K J : α0 → α1 → α2 → α3 → α4 → α5 → α6 → α7 → α8 → α9 → α10 → α11 → α12 → α13 → α14 → α15 → β} (e : K = J) {x0 : α0} {x1 : α1} {x2 : α2} {x3 : α3} {x4 : α4} {x5 : α5} {x6 : α6} {x7 : α7} {x8 : α8} {x9 : α9} {x10 : α10} {x11 : α11} {x12 : α12} {x13 : α13} {x14 : α14} {x15 : α15} {r : β} (h : K x0 x1 x2 x3 x4 x5 x6 x7 x8 x9 x10 x11 x12 x13 x14 x15 = r) : J x0 x1 x2 x3 x4 x5 x6 x7 x8 x9 x10 x11 x12 x13 x14 x15 = r := e ▸ h
/-! ===== rows over the world ===== -/
section GR
variable {p : Program} {l : Launch} {e : Env} {R : Room} {s : State} {m : MethodId} {args : Array Value} {below : List Frame} {meth : Method} {c : Code} {H : Heap} {locs : List Loc} {cells slots : Nat} {Q : State → Prop}
variable {cc : ByteArray} {pc : Nat} {ls : Array Slot} {rest : List Value} {D : gD} {A : Nat → Prop} {a : Nat} {w : gW}
theorem gw_get0 (hx : p.tables.exec = Jvm.exec) (hb : c.code = cc) (hT : gT s) {own : String} (hown : s.vm.findClass own = some m.cls) (hK : gK D s) (hI : gI D s A w H locs) {ci : Nat} {C ref : String} {T : u_T} {N index : Nat} (hc : gCl[ci]? = some (C, T, N)) (hin : ∀ z ∈ u_ws C T N, z ∈ gAll) (k : Nat) (hk : k < N) (hlink : Cond.fieldLink own index ref (T k).2.1 (T k).2.2.1 ∈ gAll) (hsame : ∀ x, s.fieldFound? (T k).1 (T k).2.1 (T k).2.2.1 = some x → s.fieldFound? ref (T k).2.1 (T k).2.2.1 = some x) {v : Value} (hv : gf w a ci k = some v) (hdg : decode cc pc = .ok (.getfield index, 3))
    (kk : W p l e R s m args below meth c H locs cells slots Q (F0 m (pc + 3) ls (v :: rest))) : W p l e R s m args below meth c H locs cells slots Q (F0 m pc ls (.ref a :: rest)) := by
  obtain ⟨fs, h1, h2⟩ := gf_some hv
  exact va_get (D := (D.1, D.2.1)) (cl := gCl) (ws := [(a, .inr (ci, fs))]) (tys := []) hx hb (Ts := gAll) (fun z h => hT z h args) hin hown hK.va (hI.one h1) 0 rfl hc k hk (hT _ hlink args) hsame h2 hdg kk
theorem gw_getI (hx : p.tables.exec = Jvm.exec) (hb : c.code = cc) (hT : gT s) {own : String} (hown : s.vm.findClass own = some m.cls) (hK : gK D s) (hI : gI D s A w H locs) {ci : Nat} {C ref : String} {T : u_T} {N index : Nat} (hc : gCl[ci]? = some (C, T, N)) (hin : ∀ z ∈ u_ws C T N, z ∈ gAll) (k : Nat) (hk : k < N) (hlink : Cond.fieldLink own index ref (T k).2.1 (T k).2.2.1 ∈ gAll) (hsame : ∀ x, s.fieldFound? (T k).1 (T k).2.1 (T k).2.2.1 = some x → s.fieldFound? ref (T k).2.1 (T k).2.2.1 = some x) {v : Int32} (hv : gfI w a ci k = some v) (hdg : decode cc pc = .ok (.getfield index, 3))
    (kk : W p l e R s m args below meth c H locs cells slots Q (F0 m (pc + 3) ls (.int v :: rest))) : W p l e R s m args below meth c H locs cells slots Q (F0 m pc ls (.ref a :: rest)) := gw_get0 hx hb hT hown hK hI hc hin k hk hlink hsame (gvI_some hv) hdg kk
theorem gw_getJ (hx : p.tables.exec = Jvm.exec) (hb : c.code = cc) (hT : gT s) {own : String} (hown : s.vm.findClass own = some m.cls) (hK : gK D s) (hI : gI D s A w H locs) {ci : Nat} {C ref : String} {T : u_T} {N index : Nat} (hc : gCl[ci]? = some (C, T, N)) (hin : ∀ z ∈ u_ws C T N, z ∈ gAll) (k : Nat) (hk : k < N) (hlink : Cond.fieldLink own index ref (T k).2.1 (T k).2.2.1 ∈ gAll) (hsame : ∀ x, s.fieldFound? (T k).1 (T k).2.1 (T k).2.2.1 = some x → s.fieldFound? ref (T k).2.1 (T k).2.2.1 = some x) {v : Int64} (hv : gfJ w a ci k = some v) (hdg : decode cc pc = .ok (.getfield index, 3))
    (kk : W p l e R s m args below meth c H locs cells slots Q (F0 m (pc + 3) ls (.long v :: rest))) : W p l e R s m args below meth c H locs cells slots Q (F0 m pc ls (.ref a :: rest)) := gw_get0 hx hb hT hown hK hI hc hin k hk hlink hsame (gvJ_some hv) hdg kk
theorem gw_getA (hx : p.tables.exec = Jvm.exec) (hb : c.code = cc) (hT : gT s) {own : String} (hown : s.vm.findClass own = some m.cls) (hK : gK D s) (hI : gI D s A w H locs) {ci : Nat} {C ref : String} {T : u_T} {N index : Nat} (hc : gCl[ci]? = some (C, T, N)) (hin : ∀ z ∈ u_ws C T N, z ∈ gAll) (k : Nat) (hk : k < N) (hlink : Cond.fieldLink own index ref (T k).2.1 (T k).2.2.1 ∈ gAll) (hsame : ∀ x, s.fieldFound? (T k).1 (T k).2.1 (T k).2.2.1 = some x → s.fieldFound? ref (T k).2.1 (T k).2.2.1 = some x) {v : Nat} (hv : gfA w a ci k = some v) (hdg : decode cc pc = .ok (.getfield index, 3))
    (kk : W p l e R s m args below meth c H locs cells slots Q (F0 m (pc + 3) ls (.ref v :: rest))) : W p l e R s m args below meth c H locs cells slots Q (F0 m pc ls (.ref a :: rest)) := gw_get0 hx hb hT hown hK hI hc hin k hk hlink hsame (gvA_some hv) hdg kk
theorem gw_put (hx : p.tables.exec = Jvm.exec) (hb : c.code = cc) (hT : gT s) {own : String} (hown : s.vm.findClass own = some m.cls) (hK : gK D s) (hI : gI D s A w H locs) {ci : Nat} {C ref : String} {T : u_T} {N index : Nat} (hc : gCl[ci]? = some (C, T, N)) (hin : ∀ z ∈ u_ws C T N, z ∈ gAll) (ty0 : Nat → FieldType) (hty : ∀ k, k < N → parseFieldDescriptor (T k).2.2.1 = some (ty0 k)) (hnm : ∀ a, a < N → ∀ b, b < N → a ≠ b → (T a).2.1 ≠ (T b).2.1) (k : Nat) (hk : k < N) (hlink : Cond.fieldLink own index ref (T k).2.1 (T k).2.2.1 ∈ gAll) (hsame : ∀ x, s.fieldFound? (T k).1 (T k).2.1 (T k).2.2.1 = some x → s.fieldFound? ref (T k).2.1 (T k).2.2.1 = some x) (hfin : (T k).2.2.2 = false) {ty : FieldType} {v : Value} (hd : parseFieldDescriptor (T k).2.2.1 = some ty) (hn : narrow ty v = v) (hfit : fits ty v = true) {w' : gW} (hv : gp w a ci k v = some w') (hdg : decode cc pc = .ok (.putfield index, 3))
    (kk : ∀ (H1 : Heap) (locs1 : List Loc), gI D s A w' H1 locs1 → W p l e R s m args below meth c H1 locs1 cells slots Q (F0 m (pc + 3) ls rest)) : W p l e R s m args below meth c H locs cells slots Q (F0 m pc ls (v :: .ref a :: rest)) := by
  obtain ⟨fs, h1, h2, rfl⟩ := gp_some hv
  have hts : ∀ z ∈ gAll, z.before args s = true := fun z h => hT z h args
  have hap := va_apart (D := (D.1, D.2.1)) (cl := gCl) (tys := []) (own := own) (args := args) hts hin ty0 hty hnm hK.va hc
  obtain ⟨r, hr, cell, q1, q2, q3, q4⟩ := hI.2.1 a _ h1
  cases Option.some.inj (hr.symm.trans hc)
  obtain ⟨hS, hfc, kC, hkC, hkind⟩ := hK.1 ci _ hc
  obtain ⟨cf, kf, fi, f, hi, hsl⟩ := hS k hk
  have hlay := hts _ (hin _ (u_in_lay hk))
  unfold u_lay at hlay
  rw [if_neg (by rw [hfin]; decide)] at hlay
  have hst := (u_facts hfc hkC (u_lays hts hin hk) hi).1
  have h6 := u_store hfc hkC hkind hlay hi hd hn hfit
  refine W.putK hx hb (f := f) ⟨hown, hts _ hlink, ⟨_, _, _, hsame _ hi⟩, hst⟩ (by rw [q2]; exact h6) q1 q3 (by rw [hsl]; exact k2_hasslot (q4 k hk)) rfl rfl hdg fun H' e1 e2 e3 => ?_
  rw [hsl] at e1 ⊢
  exact kk H' _ (hI.put h1 trivial e2 e3 ⟨_, hc, t_OB.to (V := updV (vp_V fs) k v) ⟨_, e1, q2, q3, t_set q4 hap hk v⟩ (fun j _ => vp_updV_set h2 v j)⟩)
theorem gw_putF (hx : p.tables.exec = Jvm.exec) (hb : c.code = cc) (hT : gT s) {own : String} (hown : s.vm.findClass own = some m.cls) (hK : gK D s) (hI : gI D s A w H locs) {ci : Nat} {C ref : String} {T : u_T} {N index : Nat} (hc : gCl[ci]? = some (C, T, N)) (hin : ∀ z ∈ u_ws C T N, z ∈ gAll) (ty0 : Nat → FieldType) (hty : ∀ k, k < N → parseFieldDescriptor (T k).2.2.1 = some (ty0 k)) (hnm : ∀ a, a < N → ∀ b, b < N → a ≠ b → (T a).2.1 ≠ (T b).2.1) (k : Nat) (hk : k < N) (hlink : Cond.fieldLink own index ref (T k).2.1 (T k).2.2.1 ∈ gAll) (hsame : ∀ x, s.fieldFound? (T k).1 (T k).2.1 (T k).2.2.1 = some x → s.fieldFound? ref (T k).2.1 (T k).2.2.1 = some x) (hfin : (T k).2.2.2 = true) (hin2 : meth.name = "<init>") (hdecl : (T k).1 = own) {ty : FieldType} {v : Value} (hd : parseFieldDescriptor (T k).2.2.1 = some ty) (hn : narrow ty v = v) (hfit : fits ty v = true) {w' : gW} (hv : gp w a ci k v = some w') (hdg : decode cc pc = .ok (.putfield index, 3))
    (kk : ∀ (H1 : Heap) (locs1 : List Loc), gI D s A w' H1 locs1 → W p l e R s m args below meth c H1 locs1 cells slots Q (F0 m (pc + 3) ls rest)) : W p l e R s m args below meth c H locs cells slots Q (F0 m pc ls (v :: .ref a :: rest)) := by
  obtain ⟨fs, h1, h2, rfl⟩ := gp_some hv
  have hts : ∀ z ∈ gAll, z.before args s = true := fun z h => hT z h args
  have hap := va_apart (D := (D.1, D.2.1)) (cl := gCl) (tys := []) (own := own) (args := args) hts hin ty0 hty hnm hK.va hc
  obtain ⟨r, hr, cell, q1, q2, q3, q4⟩ := hI.2.1 a _ h1
  cases Option.some.inj (hr.symm.trans hc)
  obtain ⟨hS, hfc, kC, hkC, hkind⟩ := hK.1 ci _ hc
  obtain ⟨cf, kf, fi, f, hi, hsl⟩ := hS k hk
  have hlay := hts _ (hin _ (u_in_lay hk))
  unfold u_lay at hlay
  rw [if_pos hfin] at hlay
  have hst := (u_facts hfc hkC (u_lays hts hin hk) hi).1
  have hcf : m.cls = cf := by
    obtain ⟨_, _, c', _, _, _, -, -, hf', -, -, -, hown2, -⟩ := Cond.laysFinal_spec hlay
    have e1 : c' = cf := by have := hi.symm.trans hf'; simp at this; exact this.1.symm
    rw [hdecl] at hown2
    rw [← e1]; exact Option.some.inj (hown.symm.trans hown2)
  have h6 := u_fits hfc hkC hkind (Or.inr hlay) hi hd hn hfit
  refine W.putFinK hx hb hown (hts _ hlink) (hsame _ hi) hst hcf hin2 (by rw [q2]; exact h6) q1 q3 (by rw [hsl]; exact k2_hasslot (q4 k hk)) rfl rfl hdg fun H' e1 e2 e3 => ?_
  rw [hsl] at e1 ⊢
  exact kk H' _ (hI.put h1 trivial e2 e3 ⟨_, hc, t_OB.to (V := updV (vp_V fs) k v) ⟨_, e1, q2, q3, t_set q4 hap hk v⟩ (fun j _ => vp_updV_set h2 v j)⟩)
theorem gw_new (hx : p.tables.exec = Jvm.exec) (hb : c.code = cc) (hT : gT s) {own : String} (hown : s.vm.findClass own = some m.cls) (hK : gK D s) (hI : gI D s A w H locs) (hA : ∀ q : Nat, s.heap.size ≤ q → A q) {ci : Nat} {C : String} {T : u_T} {N index : Nat} (hc : gCl[ci]? = some (C, T, N)) (hin : ∀ z ∈ u_ws C T N, z ∈ gAll) (ty : Nat → FieldType) (hty : ∀ k, k < N → parseFieldDescriptor (T k).2.2.1 = some (ty k)) {n : Nat} (hcl : Cond.classLink own index C ∈ gAll) (hinst : Cond.instantiable C n ∈ gAll) (hini : Cond.initialized C ∈ gAll) {fs : List Value} (hfs : ∀ j, j < N → defaultValue (ty j) = vp_V fs j) {b : Nat} {w' : gW} (hv : gnw w ci fs = some (b, w')) (hcells : cells + 1 ≤ R.cells) (hslots : slots + n ≤ R.slots) (hdg : decode cc pc = .ok (.new index, 3))
    (kk : ∀ (H1 : Heap), gI D s A w' H1 locs → W p l e R s m args below meth c H1 locs (cells + 1) (slots + n) Q (F0 m (pc + 3) ls (.ref b :: rest))) : W p l e R s m args below meth c H locs cells slots Q (F0 m pc ls rest) := by
  have hts : ∀ z ∈ gAll, z.before args s = true := fun z h => hT z h args
  unfold gnw at hv
  cases hv
  have hKn := hK.1 ci _ hc
  refine W.newcK hx hb hown (hts _ hcl) (hts _ hinst) (hts _ hini) rfl hdg hcells hslots hKn.2.1 hI.1 fun H1 kC hkC e1 z1 o1 => ?_
  rw [← hI.1] at e1 z1 o1
  refine kk H1 (hI.push hA z1 o1 ⟨_, hc, (u_born ty hts hin hKn hkC e1 hty).to hfs⟩)
theorem gw_newa (hx : p.tables.exec = Jvm.exec) (hb : c.code = cc) (hK : gK D s) (hI : gI D s A w H locs) (hA : ∀ q : Nat, s.heap.size ≤ q → A q) {atype : ArrayType} (harr : (Cond.arrayClass (newarray.typeOf atype)).before args s = true) {ty : FieldType} (hty : newarray.typeOf atype = ty) {k : Nat} (hk : gTy[k]? = some ty) (hob : va_RA s (D.2.2 k) ty → s.vm.findClass ("[" ++ ty.toString) = some (D.2.2 k)) {n : Int32} {M b : Nat} {w' : gW} (hv : gna w k n M (defaultValue ty) = some (b, w')) (hcells : cells + 1 ≤ R.cells) (hslots : slots + M ≤ R.slots) (hbytes : M * componentBytes ty ≤ 536870912) (hdg : decode cc pc = .ok (.newarray atype, 2))
    (kk : ∀ (H1 : Heap), gI D s A w' H1 locs → W p l e R s m args below meth c H1 locs (cells + 1) (slots + M) Q (F0 m (pc + 2) ls (.ref b :: rest))) : W p l e R s m args below meth c H locs cells slots Q (F0 m pc ls (.int n :: rest)) := by
  subst hty
  obtain ⟨h1, h2, rfl, rfl⟩ := gna_some hv
  refine va_newaK hx hb harr rfl hdg rfl h1 rfl (Nat.le_trans (Nat.mul_le_mul_right _ h2) hbytes) hcells (Nat.le_trans (Nat.add_le_add_left h2 _) hslots) hI.1 fun H1 cA e1 z1 o1 hAr hNm => ?_
  rw [← hI.1] at e1 z1 o1
  have hcA : cA = D.2.2 k := Option.some.inj (hNm.symm.trans (hob (hK.2.1 k _ hk).2))
  subst hcA
  rw [← hI.1]
  refine W.widen (Nat.le_refl _) (Nat.add_le_add_left h2 _) ?_
  rw [hI.1]
  exact kk H1 (hI.push hA z1 o1 (gAt.mk (show k < 4 from (List.getElem?_eq_some_iff.mp hk).1) e1))
theorem gw_anew (hx : p.tables.exec = Jvm.exec) (hb : c.code = cc) {own : String} (hown : s.vm.findClass own = some m.cls) (hK : gK D s) (hI : gI D s A w H locs) (hA : ∀ q : Nat, s.heap.size ≤ q → A q) {C : String} {index : Nat} (hcl : (Cond.classLink own index C).before args s = true) (hov : (Cond.arrayOver (.object C)).before args s = true) {k : Nat} (hk : gTy[k]? = some (.object C)) {n : Int32} {M b : Nat} {w' : gW} (hv : gna w k n M .null = some (b, w')) (hcells : cells + 1 ≤ R.cells) (hslots : slots + M ≤ R.slots) (hbytes : M * 4 ≤ 536870912) (hdg : decode cc pc = .ok (.anewarray index, 3))
    (kk : ∀ (H1 : Heap), gI D s A w' H1 locs → W p l e R s m args below meth c H1 locs (cells + 1) (slots + M) Q (F0 m (pc + 3) ls (.ref b :: rest))) : W p l e R s m args below meth c H locs cells slots Q (F0 m pc ls (.int n :: rest)) := by
  obtain ⟨h1, h2, rfl, rfl⟩ := gna_some hv
  refine W.anew hx hb hown hcl hov rfl hdg rfl h1 (Nat.le_trans (Nat.mul_le_mul_right _ h2) hbytes) hcells (Nat.le_trans (Nat.add_le_add_left h2 _) hslots) fun cA kA comp f1 f2 f3 f4 => ?_
  obtain ⟨kA', comp', g1, g2, g3, g4⟩ := (hK.2.1 k _ hk).2
  have hcA : cA = D.2.2 k := Option.some.inj (f1.symm.trans g4)
  subst hcA
  generalize hH1 : H.push ({ cls := D.2.2 k, slots := Array.replicate n.toNatClampNeg .null, vm := .none } : Cell) = H1
  have z1 : H1.size = H.size + 1 := by rw [← hH1, Array.size_push]
  have e1 : H1[H.size]? = some (arrV (D.2.2 k) n.toNatClampNeg (fun _ => .null)) := by rw [← hH1, Array.getElem?_push_size, ← arrV_new]
  have o1 : ∀ q : Nat, q < H.size → H1[q]? = H[q]? := fun q hq => by rw [← hH1, Array.getElem?_push, if_neg (Nat.ne_of_lt hq)]
  refine W.widen (Nat.le_refl _) (Nat.add_le_add_left h2 _) ?_
  rw [hI.1]
  exact kk H1 (hI.push hA z1 o1 (gAt.mk (show k < 4 from (List.getElem?_eq_some_iff.mp hk).1) e1))
theorem gw_alen (hx : p.tables.exec = Jvm.exec) (hb : c.code = cc) (hK : gK D s) (hI : gI D s A w H locs) {x : Int32} (hv : gal w a = some x) (hdg : decode cc pc = .ok (.arraylength, 1))
    (kk : W p l e R s m args below meth c H locs cells slots Q (F0 m (pc + 1) ls (.int x :: rest))) : W p l e R s m args below meth c H locs cells slots Q (F0 m pc ls (.ref a :: rest)) := by
  obtain ⟨k, n, f, h1, hk, rfl⟩ := gal_some hv
  obtain ⟨ty, hty⟩ := hK.arrs hk
  obtain ⟨scr, g1, g2, g3, g4, g5, g6⟩ := (hI.2.1 a _ h1).any
  exact W.alen hx hb g1 (garr hty g2 g3) (by rw [g5]; rfl) rfl rfl hdg kk
theorem gw_aldI (hx : p.tables.exec = Jvm.exec) (hb : c.code = cc) (hK : gK D s) (hI : gI D s A w H locs) {i x : Int32} (hv : gaI w a i = some x) (hdg : decode cc pc = .ok (.iaload, 1))
    (kk : W p l e R s m args below meth c H locs cells slots Q (F0 m (pc + 1) ls (.int x :: rest))) : W p l e R s m args below meth c H locs cells slots Q (F0 m pc ls (.int i :: .ref a :: rest)) := by
  obtain ⟨n, f, h1, hin, h2⟩ := gar_some (gvI_some hv)
  have hlt : i.toNatClampNeg < n := Nat.not_le.mp fun q => hin (Or.inr q)
  obtain ⟨scr, g1, g2, g3, g4, g5, g6⟩ := (hI.2.1 a _ h1).any
  exact W.iald (v := .int x) hx hb g1 (garr (gki_ty hK w a) g2 g3) g4 (by rw [g5]; exact hin) (by rw [g6 _ hlt]; exact congrArg some h2) rfl rfl hdg kk
theorem gw_aldJ (hx : p.tables.exec = Jvm.exec) (hb : c.code = cc) (hK : gK D s) (hI : gI D s A w H locs) {i : Int32} {x : Int64} (hv : gaJ w a i = some x) (hdg : decode cc pc = .ok (.laload, 1))
    (kk : W p l e R s m args below meth c H locs cells slots Q (F0 m (pc + 1) ls (.long x :: rest))) : W p l e R s m args below meth c H locs cells slots Q (F0 m pc ls (.int i :: .ref a :: rest)) := by
  obtain ⟨n, f, h1, hin, h2⟩ := gar_some (gvJ_some hv)
  have hlt : i.toNatClampNeg < n := Nat.not_le.mp fun q => hin (Or.inr q)
  exact W.lald (v := .long x) hx hb ((hI.2.1 a _ h1).arr (by decide)) ((hK.2.1 1 .long rfl).1 n f) (fun q => by cases q) (by show ¬ (i < 0 ∨ (arrV _ _ _).slots.size ≤ _); rw [arrV_size]; exact hin) (by show (arrV _ _ _).slots[_]? = _; rw [arrV_read _ _ hlt]; exact congrArg some h2) rfl rfl hdg kk
theorem gw_aldA (hx : p.tables.exec = Jvm.exec) (hb : c.code = cc) (hK : gK D s) (hI : gI D s A w H locs) {i : Int32} {x : Nat} (hv : gaA w a i = some x) (hdg : decode cc pc = .ok (.aaload, 1))
    (kk : W p l e R s m args below meth c H locs cells slots Q (F0 m (pc + 1) ls (.ref x :: rest))) : W p l e R s m args below meth c H locs cells slots Q (F0 m pc ls (.int i :: .ref a :: rest)) := by
  obtain ⟨k, C, hk, hv⟩ := gaA_some hv
  obtain ⟨n, f, h1, hin, h2⟩ := gar_some hv
  have hlt : i.toNatClampNeg < n := Nat.not_le.mp fun q => hin (Or.inr q)
  exact W.aald (v := .ref x) (ty := .object C) hx hb ((hI.2.1 a _ h1).arr (show k < 4 from (List.getElem?_eq_some_iff.mp hk).1)) ((hK.2.1 k _ hk).1 n f) rfl (fun q => by cases q) (by show ¬ (i < 0 ∨ (arrV _ _ _).slots.size ≤ _); rw [arrV_size]; exact hin) (by show (arrV _ _ _).slots[_]? = _; rw [arrV_read _ _ hlt]; exact congrArg some h2) rfl rfl hdg kk
theorem gw_astI (hx : p.tables.exec = Jvm.exec) (hb : c.code = cc) (hK : gK D s) (hI : gI D s A w H locs) {i x : Int32} {w' : gW} (hv : gsI w a i x = some w') (hdg : decode cc pc = .ok (.iastore, 1))
    (kk : ∀ (H1 : Heap) (locs1 : List Loc), gI D s A w' H1 locs1 → W p l e R s m args below meth c H1 locs1 cells slots Q (F0 m (pc + 1) ls rest)) : W p l e R s m args below meth c H locs cells slots Q (F0 m pc ls (.int x :: .int i :: .ref a :: rest)) := by
  obtain ⟨n, f, h1, hin, rfl⟩ := gas_some hv
  refine W.iast hx hb ((hI.2.1 a _ h1).arr (by decide)) ((hK.2.1 0 .int rfl).1 n f) (fun q => by cases q) (by show ¬ (i < 0 ∨ (arrV _ _ _).slots.size ≤ _); rw [arrV_size]; exact hin) rfl rfl hdg fun H1 e1 z1 o1 => ?_
  exact kk H1 _ (hI.put h1 ⟨(show (0 : Nat) < 4 by decide), (fun q => hin (Or.inr (by rw [show n = 0 from q]; exact Nat.zero_le _)))⟩ z1 o1 (gAt.mk (by decide) (e1.trans (by show some (Cell.setSlot (arrV _ _ _) _ _) = _; rw [arrV_store]))))
theorem gw_astJ (hx : p.tables.exec = Jvm.exec) (hb : c.code = cc) (hK : gK D s) (hI : gI D s A w H locs) {i : Int32} {x : Int64} {w' : gW} (hv : gsJ w a i x = some w') (hdg : decode cc pc = .ok (.lastore, 1))
    (kk : ∀ (H1 : Heap) (locs1 : List Loc), gI D s A w' H1 locs1 → W p l e R s m args below meth c H1 locs1 cells slots Q (F0 m (pc + 1) ls rest)) : W p l e R s m args below meth c H locs cells slots Q (F0 m pc ls (.long x :: .int i :: .ref a :: rest)) := by
  obtain ⟨n, f, h1, hin, rfl⟩ := gas_some hv
  refine W.last hx hb ((hI.2.1 a _ h1).arr (by decide)) ((hK.2.1 1 .long rfl).1 n f) (fun q => by cases q) (by show ¬ (i < 0 ∨ (arrV _ _ _).slots.size ≤ _); rw [arrV_size]; exact hin) rfl rfl hdg fun H1 e1 z1 o1 => ?_
  exact kk H1 _ (hI.put h1 ⟨(show (1 : Nat) < 4 by decide), (fun q => hin (Or.inr (by rw [show n = 0 from q]; exact Nat.zero_le _)))⟩ z1 o1 (gAt.mk (by decide) (e1.trans (by show some (Cell.setSlot (arrV _ _ _) _ _) = _; rw [arrV_store]))))
end GR
end
section
/-! ===== ONE CONTRACT FORM: 'o' is how it ends (an exception's name, or the answer) and the world behind ===== -/
abbrev gG : Type := Nat × Nat
/-- a static that holds a reference or null, its cell outside what may change -/
def gSq (C n d : String) (A : Nat → Prop) (U : State) (H : Heap) : Prop := ∃ (c : ClassId) (k : Class) (i : Nat) (f : Field) (a : Nat) (cell : Cell) (v : Value), U.vm.findClass C = some c ∧ U.fieldFound? C n d = some (c, k, i, f) ∧ f.isStatic = true ∧ k.statics = some a ∧ H[a]? = some cell ∧ cell.vm.isStatics = true ∧ cell.cls = c ∧ cell.slots[f.slot]? = some v ∧ v.isRef = true ∧ k.staticTypes[f.slot]? = some f.type ∧ ¬ A a
theorem gSq.moved {C n d : String} {A : Nat → Prop} {u U : State} {H : Heap} (hvm : u.vm.Alike U.vm) (h : gSq C n d A u H) : gSq C n d A U H := by
  obtain ⟨c, k, i, f, a, cell, v, h1, h2, h3, h4, h5, h6, h7, h8, h9, h10, h11⟩ := h
  obtain ⟨k', hi', he⟩ := State.fieldFound?_setVm hvm h2
  exact ⟨c, k', i, f, a, cell, v, by rw [hvm.findClass]; exact h1, hi', h3, by rw [he]; exact h4, h5, h6, h7, h8, h9, by rw [he]; exact h10, h11⟩
theorem gSq.kept {C n d : String} {A : Nat → Prop} {U : State} {H H1 : Heap} (h : gSq C n d A U H) (hq : ∀ a : Nat, a < H.size → ¬ A a → H1[a]? = H[a]?) : gSq C n d A U H1 := by
  obtain ⟨c, k, i, f, a, cell, v, h1, h2, h3, h4, h5, h6, h7, h8, h9, h10, h11⟩ := h
  exact ⟨c, k, i, f, a, cell, v, h1, h2, h3, h4, by rw [hq a (Array.getElem?_eq_some_iff.mp h5).1 h11]; exact h5, h6, h7, h8, h9, h10, h11⟩
theorem gSq.narrow {C n d : String} {A B : Nat → Prop} {U : State} {H : Heap} (h : gSq C n d A U H) (hAB : ∀ q, B q → A q) : gSq C n d B U H := by
  obtain ⟨c, k, i, f, a, cell, v, h1, h2, h3, h4, h5, h6, h7, h8, h9, h10, h11⟩ := h
  exact ⟨c, k, i, f, a, cell, v, h1, h2, h3, h4, h5, h6, h7, h8, h9, h10, fun z => h11 (hAB _ z)⟩
theorem gSq.lays {C n d : String} {A : Nat → Prop} {s : State} {args : Array Value} (h : gSq C n d A s s.heap) : (Cond.laysStatic C n d).before args s = true := by
  obtain ⟨c, k, i, f, a, cell, v, h1, h2, h3, h4, h5, h6, h7, h8, h9, h10, h11⟩ := h
  show (Cond.laysStatic C n d).holds args s none s [] = true
  exact Cond.laysStatic_of h1 h2 h3 h4 h5 h6 h7 (k2_hasslot h8) h10
theorem gSq.isRef {C n d : String} {A : Nat → Prop} {s : State} {args : Array Value} (h : gSq C n d A s s.heap) : (Cond.isRef (.static C n d)).before args s = true := by
  obtain ⟨c, k, i, f, a, cell, v, h1, h2, h3, h4, h5, h6, h7, h8, h9, h10, h11⟩ := h
  have he : (Term.static C n d).eval args s none [] s = some v := by
    simp [Term.eval, State.fieldNamed?, h2, h3, h4, h5, h6, h8]
  simp only [Cond.before, Cond.holds, Cond.value, he]
  cases v <;> simp_all [Value.isRef]
theorem gSq.of {args : Array Value} {s : State} {C n d : String} {A : Nat → Prop} (hl : (Cond.laysStatic C n d).before args s = true) (h : (Cond.isRef (.static C n d)).before args s = true) (hA : ∀ a : Nat, a < s.heap.size → ¬ A a) : gSq C n d A s s.heap := by
  obtain ⟨c, k, i, f, a, cell, h1, h2, h3, h4, h5, h6, h7, h8, h9⟩ := Cond.laysStatic_spec hl
  obtain ⟨v, hv, hr⟩ := Cond.isRef_spec h
  obtain ⟨hst', a', cell', ha', hcell', -, hslot⟩ := Term.static_spec h2 hv
  cases h4.symm.trans ha'
  cases h5.symm.trans hcell'
  exact ⟨c, k, i, f, a, cell, v, h1, h2, h3, h4, h5, h6, h7, hslot, hr, h9, hA a (Array.getElem?_eq_some_iff.mp h5).1⟩
/-- the texts of the exceptions -/
def gTx : List (String × Nat × String) := [("BodySolids", 249, "no such number"), ("BodySolids", 254, "a value is out of its range"), ("BodySolids", 222, "the placement's body is empty")]
/-- an exception's class that is not under another's -/
def gNc (U : State) : Prop := ∀ q ∈ [("java/lang/IllegalArgumentException", "java/lang/IndexOutOfBoundsException"), ("java/lang/IllegalStateException", "java/lang/IndexOutOfBoundsException")], ∀ a b : ClassId, U.vm.findClass q.1 = some a → U.vm.findClass q.2 = some b → U.vm.assignable a b = false
theorem gNc.warm {s U : State} (hW : s.WarmedH U.vm) (h : gNc s) : gNc U := fun q hq a b h1 h2 => by
  rw [hW.alike.findClass] at h1 h2
  rw [hW.alike.assignable]
  exact h q hq a b h1 h2
def gStr (U : State) : Prop := (∀ q ∈ gTx, ∃ a : Nat, vk_R q.1 q.2.1 q.2.2 a U) ∧ gNc U
theorem gStr.warm {s U : State} (hW : s.WarmedH U.vm) (h : gStr s) : gStr U := ⟨fun q hq => (h.1 q hq).elim fun a ha => ⟨a, vk_R.warm hW ha⟩, h.2.warm hW⟩
/-- what holds of statics and texts: outside what may change -/
def gZ (A : Nat → Prop) (U : State) (H : Heap) (g0 : gG) : Prop :=
  va_Z "java/util/ArrayList" "DEFAULTCAPACITY_EMPTY_ELEMENTDATA" "[Ljava/lang/Object;" (.ref g0.1) A U H ∧ va_Mi "[Ljava/lang/Object;" g0.2 U ∧ gSq "java/lang/Throwable" "UNASSIGNED_STACK" "[Ljava/lang/StackTraceElement;" A U H ∧ gSq "java/lang/Throwable" "SUPPRESSED_SENTINEL" "Ljava/util/List;" A U H ∧ gStr U
theorem gZ.warm {A : Nat → Prop} {s U : State} {H : Heap} {g0 : gG} (hW : s.WarmedH U.vm) (h : gZ A s H g0) : gZ A U H g0 := ⟨va_Z.moved hW.alike h.1, va_Mi.moved hW.alike h.2.1, gSq.moved hW.alike h.2.2.1, gSq.moved hW.alike h.2.2.2.1, gStr.warm hW h.2.2.2.2⟩
theorem gZ.kept {A : Nat → Prop} {U : State} {H H1 : Heap} {g0 : gG} (h : gZ A U H g0) (hq : ∀ a : Nat, a < H.size → ¬ A a → H1[a]? = H[a]?) : gZ A U H1 g0 := ⟨va_Z.kept h.1 hq, h.2.1, gSq.kept h.2.2.1 hq, gSq.kept h.2.2.2.1 hq, h.2.2.2.2⟩
theorem gZ.narrow {A B : Nat → Prop} {U : State} {H : Heap} {g0 : gG} (h : gZ A U H g0) (hAB : ∀ q, B q → A q) : gZ B U H g0 := ⟨va_Z.narrow h.1 hAB, h.2.1, gSq.narrow h.2.2.1 hAB, gSq.narrow h.2.2.2.1 hAB, h.2.2.2.2⟩
def gA (w : gW) : Nat → Prop := fun q => (∃ e : gE, w.1 q = some e ∧ gRW e) ∨ w.2 ≤ q
def gPre (D : gD) (g0 : gG) (w : gW) (U : State) : Prop := U.heap.size = w.2 ∧ (∀ (a : Nat) (e : gE), w.1 a = some e → gAt D a e U.heap) ∧ gK D U ∧ gT U ∧ gZ (gA w) U U.heap g0
/-- the world behind, and nothing else moved -/
def gEnd (D : gD) (w w' : gW) (st t : State) : Prop := t.heap.size = w'.2 ∧ (∀ (a : Nat) (e : gE), w'.1 a = some e → gAt D a e t.heap) ∧ (∀ (a : Nat) (e : gE), w'.1 a = some e → gRW e → gA w a) ∧ va_F (gA w) st t
def gQ (D : gD) (w : gW) (o : (String ⊕ Option Value) × gW) (mc ms : Nat) : Array Value → State → Outcome → State → Prop := fun _ st oc t =>
  gEnd D w o.2 st t ∧ st.WarmedH t.vm ∧ (∃ L : List Loc, st.sameButNew ({ t with vm := st.vm } : State) L mc ms ∧ ∀ z ∈ L, gA w z.base) ∧
    match o.1 with
    | .inl E => ∃ (q : Addr) (ce : Cell), oc = .threw q ∧ t.heap[q]? = some ce ∧ ce.vm = .none ∧ st.vm.findClass E = some ce.cls
    | .inr v => oc = .returned v
def gMet (l : Launch) (y : MethodName) (k : Cond) (rm : Room) (D : gD) (g0 : gG) (av : List Value) (w : gW) (o : (String ⊕ Option Value) × gW) : Prop :=
  MetFree l y (headSpec [k] rm) (fun v U => v = av.toArray ∧ gPre D g0 w U) (fun _ _ _ _ _ => True) (gQ D w o rm.cells rm.slots)
theorem gPre.blind {D : gD} {g0 : gG} {w : gW} {U : State} {g : JFrame} {mk : MethodId} {a : Array Value} (h : gPre D g0 w U) : gPre D g0 w (U.calling g mk a) := by
  obtain ⟨h1, h2, h3, h4, h5⟩ := h
  refine ⟨h1, h2, gK.moved (u := U) (U := U.calling g mk a) (Vm.Alike.refl U.vm) h3, gT.warm (s := U) (U := U.calling g mk a) (State.WarmedH.refl U) h4, gZ.warm (s := U) (U := U.calling g mk a) (State.WarmedH.refl U) h5⟩
def gEndH (D : gD) (w w' : gW) (H H' : Heap) : Prop := H'.size = w'.2 ∧ (∀ (a : Nat) (e : gE), w'.1 a = some e → gAt D a e H') ∧ (∀ (a : Nat) (e : gE), w'.1 a = some e → gRW e → gA w a) ∧ H.size ≤ H'.size ∧ ∀ q : Nat, q < H.size → ¬ gA w q → H'[q]? = H[q]?
theorem gEnd.heaps {D : gD} {w w' : gW} {st t : State} (h : gEnd D w w' st t) : gEndH D w w' st.heap t.heap := ⟨h.1, h.2.1, h.2.2.1, h.2.2.2.1, h.2.2.2.2⟩
section GB
variable {l : Launch} {R : Room} {p : Program} {e : Env} {below : List Frame} {s : State} {sargs : Array Value} {y : MethodName} {len W9 : Nat}
/-- a contract used at a call: the callee's frame is laid, it runs, it returns or throws -/
theorem gw_back {k : Cond} {rm : Room} {D : gD} {g0 : gG} {av : List Value} {w : gW} {o : (String ⊕ Option Value) × gW} {maxL : Nat} (hM : gMet l y k rm D g0 av w o) (hframes : rm.frames + 1 ≤ R.frames) (hlocals : W9 + (maxL + 11) + rm.locals ≤ R.locals)
    (hk : ∀ (a' : Array Value) (U : State), s.WarmedH U.vm → k.before a' U = true) (hinit : ∀ (a' : Array Value) (U : State), s.WarmedH U.vm → (Cond.initialized y.cls).before a' U = true)
    (hsp : ∀ (a : Array Value) (U : State) (mk : MethodId), U.methodNamed? y = some mk → k.before a U = true → ∃ methY cY, U.vm.method? mk = some methY ∧ methY.code = some cY ∧ cY.maxLocals = maxL)
    {m : MethodId} {meth : Method} {c : Code} {U : State} {Ls : List Loc} {c0 s0 : Nat} (X : Stand p l e R s m sargs below meth c U Ls c0 s0) {g : JFrame} {ig : Instr} {mk : MethodId} (hg : g.method = m) (hsize : g.locals.size = c.maxLocals) (hdg : decode c.code g.pc = .ok (ig, len))
    (hW : 2 * g.monitorRoom + (g.stack.map fun v => v.category).sum ≤ W9) (hn : U.methodNamed? y = some mk) (hc : c0 + rm.cells ≤ R.cells) (hs : s0 + rm.slots ≤ R.slots) (hP : gPre D g0 w U) :
    ∃ (T' : State) (L : List Loc), Stand p l e R s m sargs below meth c T' (Ls ++ L) (c0 + rm.cells) (s0 + rm.slots) ∧ (∀ z ∈ L, gA w z.base) ∧ gEndH D w o.2 U.heap T'.heap ∧
      match o.1 with
      | .inr v => Steps p.tables e below (doInvoke e (U.setTop g) [] mk av.toArray).1 (T'.setTop { g with pc := g.pc + len, stack := v.toList ++ g.stack })
      | .inl E => ∃ (q : Addr) (ce : Cell), T'.heap[q]? = some ce ∧ ce.vm = .none ∧ U.vm.findClass E = some ce.cls ∧ Steps p.tables e below (doInvoke e (U.setTop g) [] mk av.toArray).1 ((T'.setTop g).pushFrame (.throwing q)) := by
  have h2 : k.before av.toArray U = true := hk _ _ X.warmed
  obtain ⟨methY, cY, hmY, hcY, hlY⟩ := hsp av.toArray U mk hn h2
  obtain ⟨kY, hkY, -⟩ := className_of_methodNamed hn
  have hinitY : kY.init = .initialized := Cond.initialized_spec (findClass_of_methodNamed hn) hkY (hinit av.toArray U X.warmed)
  have h : At U g.method c below := by rw [hg]; exact X.here
  have happ : (headSpec [k] rm).appliesLoose y e.platform (U.calling g mk av.toArray) = true :=
    Spec.appliesLoose_calling (g := g) h hdg hn hkY hinitY
      (X.room_calling (g := g) (R' := (headSpec [k] rm).room) hsize hmY hcY hframes (by rw [hlY]; have q : (headSpec [k] rm).room.locals = rm.locals := rfl; omega) hc hs) (atoms_intro fun z hz => by rw [List.mem_singleton.mp hz]; exact h2)
  obtain ⟨mid, hmid⟩ := h.above
  have hfr : (U.setTop g).frames = (.java g :: mid) ++ below := by rw [State.frames_setTop' g h.top, hmid]; rfl
  obtain ⟨oc, t, hsteps, -, hend, hq⟩ := Steps.callFree hM p X.admits X.cas X.clock (acts := []) hfr happ ⟨rfl, hP.blind⟩ trivial
  have hq' : gQ D w o rm.cells rm.slots av.toArray (U.calling g mk av.toArray) oc t := hq
  rw [State.frames_setTop' g h.top] at hend
  obtain ⟨g₀, hg0⟩ := Option.isSome_iff_exists.mp h.top
  obtain ⟨r, hr⟩ := State.topJava?_eq_some.mp hg0
  obtain ⟨hE, hWt, ⟨L, hsm, hL⟩, hout⟩ := hq'
  have hW' : U.WarmedH t.vm := hWt
  obtain ⟨e1, e2, e3, e4, e5, e6⟩ := id hsm
  obtain ⟨T', hT'⟩ : ∃ T', T' = (({ U with heap := t.heap, slotsUsed := t.slotsUsed } : State).setVm t.vm) := ⟨_, rfl⟩
  have hr' : T'.frames = .java g₀ :: r := by rw [hT']; exact hr
  have ht : t = ({ (U.calling g mk av.toArray).setFrames t.frames with heap := t.heap, slotsUsed := t.slotsUsed } : State).setVm t.vm := by
    have q : t = ({ t with vm := (U.calling g mk av.toArray).vm } : State).setVm t.vm := rfl
    rw [e1] at q
    exact q
  have hsame : U.sameButNew ({ U with heap := t.heap, slotsUsed := t.slotsUsed } : State) L rm.cells rm.slots := by
    refine ⟨?_, e2, e3, e4, e5, e6⟩
    obtain ⟨z, hz, -⟩ := State.frames_cons hr
    show ({ U with heap := t.heap, slotsUsed := t.slotsUsed } : State) = { U.setFrames U.frames with heap := t.heap, slotsUsed := t.slotsUsed }
    rw [State.setFrames_self hz]
  have X' : Stand p l e R s m sargs below meth c T' (Ls ++ L) (c0 + rm.cells) (s0 + rm.slots) := by
    subst hg
    rw [hT']
    exact ⟨X.admits, X.cas, X.clock, X.frames, X.room, X.hears, X.method, X.code, (X.here.setHeapUsed t.heap t.slotsUsed).setVm hW'.alike, X.tail, State.WarmedH.trans X.warmed hW', X.limits, X.bytes, X.same.trans (hsame.setVm s.vm)⟩
  have hheap : T'.heap = t.heap := by rw [hT']; rfl
  refine ⟨T', L, X', hL, by rw [hheap]; exact hE.heaps, ?_⟩
  obtain ⟨o1, o2⟩ := o
  cases o1 with
  | inr v =>
    have hv : oc = .returned v := hout
    subst hv
    obtain ⟨c₂, i₂, len₂, hc₂, hd₂, hf₂⟩ := hend
    have hcc : c₂ = c := by
      have q1 : t.code? g.method = U.code? g.method := by rw [State.code?_eq, State.code?_eq, hW'.alike.method?]
      exact Option.some.inj (hc₂.symm.trans (q1.trans h.code))
    subst hcc
    have hlen : len₂ = len := by rw [hdg] at hd₂; cases hd₂; rfl
    subst hlen
    have hs₂ : t = T'.setTop { g with pc := g.pc + len₂, stack := v.toList ++ g.stack } := by
      refine ht.trans ?_
      rw [hf₂, State.calling_eq h.top, State.setFrames_setFrames, State.setTop_of_frames _ hr', hr, hT']
      rfl
    show Steps p.tables e below _ (T'.setTop { g with pc := g.pc + len₂, stack := v.toList ++ g.stack })
    rw [← hs₂]
    exact hsteps
  | inl E =>
    obtain ⟨q, ce, rfl, hce, hcv, hcl⟩ := hout
    have hf₂ : t.frames = .throwing q :: .java g :: U.frames.tail := hend
    have hs₂ : t = (T'.setTop g).pushFrame (.throwing q) := by
      refine ht.trans ?_
      rw [hf₂, State.calling_eq h.top, State.setFrames_setFrames, State.pushFrame, State.frames_setTop _ hr', State.setTop_of_frames _ hr', State.setFrames_setFrames, hr, hT']
      rfl
    refine ⟨q, ce, by rw [hheap]; exact hce, hcv, hcl, ?_⟩
    rw [← hs₂]
    exact hsteps
end GB
/-- a call as a whole -/
def gRun (p : Program) (l : Launch) (e : Env) (R : Room) (s : State) (m : MethodId) (args : Array Value) (below : List Frame) (meth : Method) (c : Code) (H : Heap) (locs : List Loc) (cells slots : Nat) (g : JFrame) (rest : List Value) (rm : Room) (D : gD) (w : gW) (o : (String ⊕ Option Value) × gW) : Prop :=
  ∀ T : State, T.heap = H → Stand p l e R s m args below meth c T locs cells slots → ∃ (T' : State) (L : List Loc), Stand p l e R s m args below meth c T' (locs ++ L) (cells + rm.cells) (slots + rm.slots) ∧ (∀ z ∈ L, gA w z.base) ∧ gEndH D w o.2 H T'.heap ∧
    match o.1 with
    | .inr v => ∀ tg, Steps p.tables e below (T'.setTop { g with pc := g.pc + 3, stack := v.toList ++ rest }) tg → Steps p.tables e below (T.setTop g) tg
    | .inl E => ∃ (q : Addr) (ce : Cell), T'.heap[q]? = some ce ∧ ce.vm = .none ∧ s.vm.findClass E = some ce.cls ∧ Steps p.tables e below (T.setTop g) ((T'.setTop { g with stack := rest }).pushFrame (.throwing q))
section GC
variable {p : Program} {l : Launch} {e : Env} {R : Room} {s : State} {m : MethodId} {args : Array Value} {below : List Frame} {meth : Method} {c : Code} {H : Heap} {locs : List Loc} {cells slots : Nat}
/-- what a call needs to know of its callee, whoever calls -/
def gCe (y : MethodName) (k : Cond) (maxL n : Nat) (st : Bool) : Prop :=
  (k ∈ gAll ∧ goodWord k = true) ∧ (Cond.initialized y.cls ∈ gAll) ∧ (if st then Cond.static y ∈ gAll else Cond.instanceMethod y ∈ gAll) ∧ (y.cls ≠ "java/lang/invoke/MethodHandle" ∧ y.cls ≠ "java/lang/invoke/VarHandle") ∧ (parseMethodDescriptor y.desc).map (fun d => d.parameters.length) = some n ∧
  (∀ (a : Array Value) (U : State) (mk : MethodId), U.methodNamed? y = some mk → k.before a U = true → ∃ methY cY, U.vm.method? mk = some methY ∧ methY.code = some cY ∧ cY.maxLocals = maxL ∧ parseMethodDescriptor y.desc = some methY.sig)
theorem gCe.code {y : MethodName} {b : ByteArray} {maxL n : Nat} {ret : Option FieldType} {st : Bool} (h1 : Cond.code y b maxL ret ∈ gAll) (h2 : Cond.initialized y.cls ∈ gAll) (h3 : if st then Cond.static y ∈ gAll else Cond.instanceMethod y ∈ gAll) (h4 : y.cls ≠ "java/lang/invoke/MethodHandle" ∧ y.cls ≠ "java/lang/invoke/VarHandle") (h5 : (parseMethodDescriptor y.desc).map (fun d => d.parameters.length) = some n) : gCe y (.code y b maxL ret) maxL n st := by
  refine ⟨⟨h1, rfl⟩, h2, h3, h4, h5, fun a U mk hn hb => ?_⟩
  obtain ⟨methM, cM, hmethM, hcM, -, hlM, -, -, -, hsigM⟩ := Cond.code_spec hn hb
  exact ⟨methM, cM, hmethM, hcM, hlM, hsigM⟩
theorem gCe.codeWith {y : MethodName} {b : ByteArray} {maxL n : Nat} {ret : Option FieldType} {hh : List (Nat × Nat × Nat × Nat)} {st : Bool} (h1 : Cond.codeWith y b maxL ret hh ∈ gAll) (h2 : Cond.initialized y.cls ∈ gAll) (h3 : if st then Cond.static y ∈ gAll else Cond.instanceMethod y ∈ gAll) (h4 : y.cls ≠ "java/lang/invoke/MethodHandle" ∧ y.cls ≠ "java/lang/invoke/VarHandle") (h5 : (parseMethodDescriptor y.desc).map (fun d => d.parameters.length) = some n) : gCe y (.codeWith y b maxL ret hh) maxL n st := by
  refine ⟨⟨h1, rfl⟩, h2, h3, h4, h5, fun a U mk hn hb => ?_⟩
  obtain ⟨m9, methM, cM, hn9, hmethM, hcM, -, hlM, -, -, -, hsigM⟩ := Cond.codeWith_spec hb
  cases hn.symm.trans hn9
  exact ⟨methM, cM, hmethM, hcM, hlM, hsigM⟩
theorem gCe.len {y : MethodName} {k : Cond} {maxL n : Nat} {st : Bool} (h : gCe y k maxL n st) {sig : MethodDescriptor} (hs : parseMethodDescriptor y.desc = some sig) : n = sig.parameters.length := by
  have h2 := h.2.2.2.2.1
  rw [hs] at h2
  exact (Option.some.inj h2).symm
theorem gCe.k {y : MethodName} {k : Cond} {maxL n : Nat} {st : Bool} (h : gCe y k maxL n st) (hT : gT s) : ∀ (a' : Array Value) (U : State), s.WarmedH U.vm → k.before a' U = true := fun a' U hW => word_at hW (good_of_word h.1.2) (hT _ h.1.1 #[])
theorem gCe.i {y : MethodName} {k : Cond} {maxL n : Nat} {st : Bool} (h : gCe y k maxL n st) (hT : gT s) : ∀ (a' : Array Value) (U : State), s.WarmedH U.vm → (Cond.initialized y.cls).before a' U = true := fun a' U hW => word_at hW (good_of_word rfl) (hT _ h.2.1 #[])
theorem gPre.up {D : gD} {g0 : gG} {w : gW} {A : Nat → Prop} {T : State} {vm₁ : Vm} (hT0 : T.heap = H) (hW : s.WarmedH vm₁) (hK : gK D s) (hT : gT s) (hZ : gZ A s s.heap g0) (hA : ∀ q : Nat, s.heap.size ≤ q → A q) (hI : gI D s A w H locs) : gPre D g0 w (T.setVm vm₁) := by
  obtain ⟨h1, h2, h3, h4⟩ := hI
  have hh : (T.setVm vm₁).heap = H := hT0
  have hsub : ∀ q : Nat, gA w q → A q := fun q hq => hq.elim (fun ⟨e, q1, q2⟩ => h4 q e q1 q2) (fun z => hA q (Nat.le_trans h3.1 (by rw [h1]; exact z)))
  refine ⟨by rw [hh]; exact h1, fun a e he => by rw [hh]; exact h2 a e he, gK.moved hW.alike hK, gT.warm (U := T.setVm vm₁) hW hT, ?_⟩
  rw [hh]
  exact gZ.narrow (gZ.warm (U := T.setVm vm₁) hW (gZ.kept hZ h3.2.1)) hsub
variable {y : MethodName} {k : Cond} {maxL n index nL : Nat} {rm : Room} {D : gD} {g0 : gG} {w : gW} {A : Nat → Prop} {o : (String ⊕ Option Value) × gW} {As rest : List Value} {g : JFrame} {cc : ByteArray} {own : String}
theorem gw_runS (hx : p.tables.exec = Jvm.exec) (hb : c.code = cc) (hml : c.maxLocals = nL) (hown : s.vm.findClass own = some m.cls) (hT : gT s) (hK : gK D s) (hZ : gZ A s s.heap g0) (hA : ∀ q : Nat, s.heap.size ≤ q → A q) (hI : gI D s A w H locs)
    (hM : gMet l y k rm D g0 As w o) (hC : gCe y k maxL n true) (hl : Cond.methodLink own index y ∈ gAll) (hR : rm.frames + 1 ≤ R.frames ∧ 8 + (maxL + 11) + rm.locals ≤ R.locals)
    (hg : g.method = m) (hn : As.length = n) (hsize : g.locals.size = nL) (hstack : g.stack = As.reverse ++ rest) (hW : 2 * g.monitorRoom + (rest.map fun v => v.category).sum ≤ 8) (hdg : decode cc g.pc = .ok (.invokestatic index, 3)) (hf : cells + rm.cells ≤ R.cells ∧ slots + rm.slots ≤ R.slots) :
    gRun p l e R s m args below meth c H locs cells slots g rest rm D w o := by
  intro T hT0 X
  obtain ⟨mk, hnamed⟩ : ∃ mk, s.methodNamed? y = some mk := by
    have h := hT _ hC.2.2.1 #[]
    revert h
    simp only [Cond.before, Cond.holds, Cond.value]
    cases s.methodNamed? y with
    | none => simp
    | some mk => exact fun _ => ⟨mk, rfl⟩
  obtain ⟨methM, cM, hmethM, -, -, hsigM⟩ := hC.2.2.2.2.2 #[] s mk hnamed (hT _ hC.1.1 #[])
  have hstatic : methM.isStatic = true := Cond.static_spec hnamed hmethM (hT _ hC.2.2.1 #[])
  obtain ⟨kP, hkP, -⟩ := className_of_methodNamed hnamed
  have hinitP : kP.init = .initialized := Cond.initialized_spec (findClass_of_methodNamed hnamed) hkP (hT _ hC.2.1 #[])
  obtain ⟨vm₁, X₁, hstep₁⟩ := X.invokestatic hx hown (hT _ hl args) hnamed hmethM hstatic hkP hinitP hC.2.2.2.1 (g := g) hg (argsL := As) (rest := rest) (hn.trans (hC.len hsigM)) hstack (by rw [hb]; exact hdg)
  obtain ⟨T', L, X', hL, hE, hout⟩ := gw_back (W9 := 8) (len := 3) (maxL := maxL) hM hR.1 hR.2 (hC.k hT) (hC.i hT) (fun a U mk hn hb => by obtain ⟨q1, q2, q3, q4, q5, -⟩ := hC.2.2.2.2.2 a U mk hn hb; exact ⟨q1, q2, q3, q4, q5⟩) X₁ (g := { g with stack := rest }) (ig := .invokestatic index) hg (hsize.trans hml.symm) (by rw [hb]; exact hdg) hW (X₁.named hnamed) hf.1 hf.2 (gPre.up hT0 X₁.warmed hK hT hZ hA hI)
  refine ⟨T', L, X', hL, by rw [← hT0]; exact hE, ?_⟩
  obtain ⟨o1, o2⟩ := o
  cases o1 with
  | inr v => exact fun tg h => hstep₁ _ fun acts => by rw [doInvoke_state]; exact hout.trans h
  | inl E =>
    obtain ⟨q, ce, h1, h2, h3, h4⟩ := hout
    refine ⟨q, ce, h1, h2, ?_, hstep₁ _ fun acts => by rw [doInvoke_state]; exact h4⟩
    rw [X₁.warmed.alike.findClass] at h3
    exact h3
/-- the receiver of a call -/
theorem gI.recv {b ci : Nat} {C : String} {T : u_T} {N : Nat} {u : Unit} (hK : gK D s) (hI : gI D s A w H locs) (hc : gCl[ci]? = some (C, T, N)) (h : gck w b ci = some u) : ∃ cellB : Cell, H[b]? = some cellB ∧ cellB.vm.isStatics = false ∧ s.vm.findClass C = some cellB.cls := by
  obtain ⟨fs, h1⟩ := gck_some h
  obtain ⟨r, hr, cell, q1, q2, q3, q4⟩ := hI.2.1 b _ h1
  exact ⟨cell, q1, by rw [q3]; rfl, by rw [q2]; exact (hK.1 ci _ hc).2.1⟩
theorem gw_runV {b ci N : Nat} {C : String} {T0 : u_T} {u : Unit} (hx : p.tables.exec = Jvm.exec) (hb : c.code = cc) (hml : c.maxLocals = nL) (hown : s.vm.findClass own = some m.cls) (hT : gT s) (hK : gK D s) (hZ : gZ A s s.heap g0) (hA : ∀ q : Nat, s.heap.size ≤ q → A q) (hI : gI D s A w H locs)
    (hc : gCl[ci]? = some (C, T0, N)) (hck : gck w b ci = some u) (hM : gMet l y k rm D g0 (.ref b :: As) w o) (hC : gCe y k maxL n false) (hl : Cond.methodLink own index y ∈ gAll) (hse : Cond.selects C y y ∈ gAll) (hR : rm.frames + 1 ≤ R.frames ∧ 8 + (maxL + 11) + rm.locals ≤ R.locals)
    (hg : g.method = m) (hn : As.length = n) (hsize : g.locals.size = nL) (hstack : g.stack = As.reverse ++ .ref b :: rest) (hW : 2 * g.monitorRoom + (rest.map fun v => v.category).sum ≤ 8) (hdg : decode cc g.pc = .ok (.invokevirtual index, 3)) (hf : cells + rm.cells ≤ R.cells ∧ slots + rm.slots ≤ R.slots) :
    gRun p l e R s m args below meth c H locs cells slots g rest rm D w o := by
  intro T hT0 X
  obtain ⟨mk, methM, hnamed, hmethM, hstM, habM⟩ := Cond.instanceMethod_spec (hT _ hC.2.2.1 args)
  obtain ⟨methM', cM, hmethM', -, -, hsigM⟩ := hC.2.2.2.2.2 #[] s mk hnamed (hT _ hC.1.1 #[])
  cases hmethM.symm.trans hmethM'
  obtain ⟨cellB, hcB, hoB, hclB⟩ := hI.recv hK hc hck
  obtain ⟨c2, r2, m2, q1, q2, q3, q4, kP, hkP, hkPi⟩ := Cond.selects_spec (hT _ hse args)
  cases hclB.symm.trans q1
  cases (State.methodFound?_of_named hnamed hC.2.2.2.1).symm.trans q2
  cases hnamed.symm.trans q3
  have hselP : selectMethod e.platform s.vm cellB.cls mk = .method mk := by rw [Launch.admits_selectMethod X.admits]; exact q4
  obtain ⟨vm₁, X₁, hstep₁⟩ := X.invokevirtual hx hown (hT _ hl args) hnamed hmethM hstM hkP hkPi hC.2.2.2.1 (a := b) (cell := cellB) (by rw [hT0]; exact hcB)
    (fun z h => by rw [h] at hoB; cases hoB) hselP hmethM habM hkP hkPi (g := g) hg (argsL := As) (rest := rest) (hn.trans (hC.len hsigM)) hstack (by rw [hb]; exact hdg)
  obtain ⟨T', L, X', hL, hE, hout⟩ := gw_back (W9 := 8) (len := 3) (maxL := maxL) hM hR.1 hR.2 (hC.k hT) (hC.i hT) (fun a U mk hn hb => by obtain ⟨q1, q2, q3, q4, q5, -⟩ := hC.2.2.2.2.2 a U mk hn hb; exact ⟨q1, q2, q3, q4, q5⟩) X₁ (g := { g with stack := rest }) (ig := .invokevirtual index) hg (hsize.trans hml.symm) (by rw [hb]; exact hdg) hW (X₁.named hnamed) hf.1 hf.2 (gPre.up hT0 X₁.warmed hK hT hZ hA hI)
  refine ⟨T', L, X', hL, by rw [← hT0]; exact hE, ?_⟩
  obtain ⟨o1, o2⟩ := o
  cases o1 with
  | inr v => exact fun tg h => hstep₁ _ fun acts => by rw [doInvoke_state]; exact hout.trans h
  | inl E =>
    obtain ⟨q, ce, h1, h2, h3, h4⟩ := hout
    refine ⟨q, ce, h1, h2, ?_, hstep₁ _ fun acts => by rw [doInvoke_state]; exact h4⟩
    rw [X₁.warmed.alike.findClass] at h3
    exact h3
theorem gw_runI {b : Nat} {bs : ByteArray} (hx : p.tables.exec = Jvm.exec) (hb : c.code = cc) (hml : c.maxLocals = nL) (hown : s.vm.findClass own = some m.cls) (hT : gT s) (hK : gK D s) (hZ : gZ A s s.heap g0) (hA : ∀ q : Nat, s.heap.size ≤ q → A q) (hI : gI D s A w H locs)
    (hM : gMet l y (.code y bs maxL none) rm D g0 (.ref b :: As) w o) (hC : gCe y (.code y bs maxL none) maxL n false) (hl : Cond.methodLink own index y ∈ gAll) (hy1 : y.name = "<init>") (hR : rm.frames + 1 ≤ R.frames ∧ 8 + (maxL + 11) + rm.locals ≤ R.locals)
    (hg : g.method = m) (hn : As.length = n) (hsize : g.locals.size = nL) (hstack : g.stack = As.reverse ++ .ref b :: rest) (hW : 2 * g.monitorRoom + (rest.map fun v => v.category).sum ≤ 8) (hdg : decode cc g.pc = .ok (.invokespecial index, 3)) (hf : cells + rm.cells ≤ R.cells ∧ slots + rm.slots ≤ R.slots) :
    gRun p l e R s m args below meth c H locs cells slots g rest rm D w o := by
  subst hg
  intro T hT0 X
  have hpl : e.platform.magicAccessors = ({} : Platform).magicAccessors := by rw [X.admits.platform]
  obtain ⟨mk, methM, cM, kP, vm₁, hnamed, hmethM, hcodeM, -, hlocalsM, -, hkP, -, hW₁, hstep₁⟩ := Steps.initColdArgs (e := e) X.here hx X.warmed hpl hown hy1 hC.2.2.2.1 (hT _ hl args) (hT _ hC.2.2.1 args) (hT _ hC.1.1 args) (f := g) rfl (fun sig h => hn.trans (hC.len h)) hstack (by rw [hb]; exact hdg)
  have X₁ := X.noted hW₁
  obtain ⟨T', L, X', hL, hE, hout⟩ := gw_back (W9 := 8) (len := 3) (maxL := maxL) hM hR.1 hR.2 (hC.k hT) (hC.i hT) (fun a U mk hn hb => by obtain ⟨q1, q2, q3, q4, q5, -⟩ := hC.2.2.2.2.2 a U mk hn hb; exact ⟨q1, q2, q3, q4, q5⟩) X₁ (g := { g with stack := rest }) (ig := .invokespecial index) rfl (hsize.trans hml.symm) (by rw [hb]; exact hdg) hW (X₁.named hnamed) hf.1 hf.2 (gPre.up hT0 X₁.warmed hK hT hZ hA hI)
  refine ⟨T', L, X', hL, by rw [← hT0]; exact hE, ?_⟩
  obtain ⟨o1, o2⟩ := o
  cases o1 with
  | inr v => exact fun tg h => hstep₁ _ fun acts => by rw [doInvoke_state]; exact hout.trans h
  | inl E =>
    obtain ⟨q, ce, h1, h2, h3, h4⟩ := hout
    refine ⟨q, ce, h1, h2, ?_, hstep₁ _ fun acts => by rw [doInvoke_state]; exact h4⟩
    rw [X₁.warmed.alike.findClass] at h3
    exact h3
theorem gw_runIN {b : Nat} {bs : ByteArray} {host : String} (hx : p.tables.exec = Jvm.exec) (hb : c.code = cc) (hml : c.maxLocals = nL) (hown : s.vm.findClass own = some m.cls) (hT : gT s) (hK : gK D s) (hZ : gZ A s s.heap g0) (hA : ∀ q : Nat, s.heap.size ≤ q → A q) (hI : gI D s A w H locs)
    (hM : gMet l y (.code y bs maxL none) rm D g0 (.ref b :: As) w o) (hC : gCe y (.code y bs maxL none) maxL n false) (hl : Cond.methodLinkNest own index y host ∈ gAll) (hy1 : y.name = "<init>") (hR : rm.frames + 1 ≤ R.frames ∧ 8 + (maxL + 11) + rm.locals ≤ R.locals)
    (hg : g.method = m) (hn : As.length = n) (hsize : g.locals.size = nL) (hstack : g.stack = As.reverse ++ .ref b :: rest) (hW : 2 * g.monitorRoom + (rest.map fun v => v.category).sum ≤ 8) (hdg : decode cc g.pc = .ok (.invokespecial index, 3)) (hf : cells + rm.cells ≤ R.cells ∧ slots + rm.slots ≤ R.slots) :
    gRun p l e R s m args below meth c H locs cells slots g rest rm D w o := by
  subst hg
  intro T hT0 X
  have hpl : e.platform.magicAccessors = ({} : Platform).magicAccessors := by rw [X.admits.platform]
  obtain ⟨mk, methM, cM, kP, vm₁, hnamed, hmethM, hcodeM, -, hlocalsM, -, hkP, -, hW₁, hstep₁⟩ := Steps.initColdArgsNest (e := e) X.here hx X.warmed hpl hown hy1 hC.2.2.2.1 (hT _ hl args) (hT _ hC.2.2.1 args) (hT _ hC.1.1 args) (f := g) rfl (fun sig h => hn.trans (hC.len h)) hstack (by rw [hb]; exact hdg)
  have X₁ := X.noted hW₁
  obtain ⟨T', L, X', hL, hE, hout⟩ := gw_back (W9 := 8) (len := 3) (maxL := maxL) hM hR.1 hR.2 (hC.k hT) (hC.i hT) (fun a U mk hn hb => by obtain ⟨q1, q2, q3, q4, q5, -⟩ := hC.2.2.2.2.2 a U mk hn hb; exact ⟨q1, q2, q3, q4, q5⟩) X₁ (g := { g with stack := rest }) (ig := .invokespecial index) rfl (hsize.trans hml.symm) (by rw [hb]; exact hdg) hW (X₁.named hnamed) hf.1 hf.2 (gPre.up hT0 X₁.warmed hK hT hZ hA hI)
  refine ⟨T', L, X', hL, by rw [← hT0]; exact hE, ?_⟩
  obtain ⟨o1, o2⟩ := o
  cases o1 with
  | inr v => exact fun tg h => hstep₁ _ fun acts => by rw [doInvoke_state]; exact hout.trans h
  | inl E =>
    obtain ⟨q, ce, h1, h2, h3, h4⟩ := hout
    refine ⟨q, ce, h1, h2, ?_, hstep₁ _ fun acts => by rw [doInvoke_state]; exact h4⟩
    rw [X₁.warmed.alike.findClass] at h3
    exact h3
end GC
end
section
/-! ===== a method's body: how it ends ===== -/
def gMQ (below : List Frame) (D : gD) (w : gW) (o : (String ⊕ Option Value) × gW) (mc ms : Nat) (a : Array Value) (s : State) : State → Prop := fun t => ∃ oc, t.status = .running ∧ Ended t below oc ∧ gQ D w o mc ms a s oc t
/-- the frame g, with q thrown over it -/
def gXW (p : Program) (l : Launch) (e : Env) (R : Room) (s : State) (m : MethodId) (args : Array Value) (below : List Frame) (meth : Method) (c : Code) (H : Heap) (locs : List Loc) (cells slots : Nat) (Q : State → Prop) (g : JFrame) (q : Addr) : Prop :=
  ∀ T : State, T.heap = H → Stand p l e R s m args below meth c T locs cells slots → ∃ t, Steps p.tables e below ((T.setTop g).pushFrame (.throwing q)) t ∧ Q t
def goI (x : (String ⊕ Int32) × gW) : (String ⊕ Option Value) × gW := (match x.1 with | .inl E => .inl E | .inr v => .inr (some (.int v)), x.2)
def goJ (x : (String ⊕ Int64) × gW) : (String ⊕ Option Value) × gW := (match x.1 with | .inl E => .inl E | .inr v => .inr (some (.long v)), x.2)
def goA (x : (String ⊕ Nat) × gW) : (String ⊕ Option Value) × gW := (match x.1 with | .inl E => .inl E | .inr v => .inr (some (.ref v)), x.2)
def goV (x : (String ⊕ Unit) × gW) : (String ⊕ Option Value) × gW := (match x.1 with | .inl E => .inl E | .inr _ => .inr none, x.2)
/-- how an exception leaves -/
abbrev gEx (p : Program) (l : Launch) (e : Env) (R : Room) (s : State) (m : MethodId) (args : Array Value) (below : List Frame) (meth : Method) (c : Code) (Q : State → Prop) (D : gD) (A : Nat → Prop) {α : Type} (r : (String ⊕ α) × gW) : Prop :=
  ∀ (E : String) (w1 : gW), r = (.inl E, w1) → ∀ (pc : Nat) (ls : Array Slot) (rest : List Value) (H : Heap) (locs : List Loc) (q : Addr) (ce : Cell), gI D s A w1 H locs → H[q]? = some ce → ce.vm = .none → s.vm.findClass E = some ce.cls → gXW p l e R s m args below meth c H locs R.cells R.slots Q (F0 m pc ls rest) q
section GM
variable {p : Program} {l : Launch} {e : Env} {R : Room} {s : State} {m : MethodId} {args : Array Value} {below : List Frame} {meth : Method} {c : Code} {H : Heap} {locs : List Loc} {cells slots : Nat} {Q : State → Prop}
variable {pc : Nat} {ls : Array Slot} {rest st0 : List Value} {D : gD} {A : Nat → Prop} {w : gW} {rm : Room}
theorem gI.after {w' : gW} {H' : Heap} {L : List Loc} (hA : ∀ q : Nat, s.heap.size ≤ q → A q) (hI : gI D s A w H locs) (hE : gEndH D w w' H H') (hL : ∀ z ∈ L, gA w z.base) : gI D s A w' H' (locs ++ L) := by
  obtain ⟨h1, h2, h3, h4⟩ := hI
  obtain ⟨g1, g2, g3, g4, g5⟩ := hE
  have hsub : ∀ q : Nat, gA w q → A q := fun q hq => hq.elim (fun ⟨e, q1, q2⟩ => h4 q e q1 q2) (fun z => hA q (Nat.le_trans h3.1 (by rw [h1]; exact z)))
  refine ⟨g1, g2, ⟨Nat.le_trans h3.1 g4, fun q q1 q2 => ?_, fun z hz => ?_⟩, fun a e he hr => hsub _ (g3 a e he hr)⟩
  · rw [g5 q (Nat.lt_of_lt_of_le q1 h3.1) (fun z => q2 (hsub q z))]
    exact h3.2.1 q q1 q2
  · rcases List.mem_append.mp hz with h | h
    · exact h3.2.2 z h
    · exact hsub _ (hL z h)
theorem gw_callI {β : Type} {X : gX Int32} {K : Int32 → gW → gX β} {r : (String ⊕ β) × gW} {ov : (String ⊕ Int32) × gW} (e1 : X = some ov) (h : gbind X K = some r) (hr : gRun p l e R s m args below meth c H locs cells slots (F0 m pc ls st0) rest rm D w (goI ov)) (hI : gI D s A w H locs) (hA : ∀ q : Nat, s.heap.size ≤ q → A q) (hexc : gEx p l e R s m args below meth c Q D A r) (hc : cells + rm.cells ≤ R.cells) (hs : slots + rm.slots ≤ R.slots)
    (kk : ∀ (v : Int32) (w1 : gW) (H1 : Heap) (locs1 : List Loc), K v w1 = some r → gI D s A w1 H1 locs1 → W p l e R s m args below meth c H1 locs1 (cells + rm.cells) (slots + rm.slots) Q (F0 m (pc + 3) ls (.int v :: rest))) : W p l e R s m args below meth c H locs cells slots Q (F0 m pc ls st0) := by
  subst e1
  obtain ⟨ov, w1⟩ := ov
  intro T hT X
  obtain ⟨T', L, X', hL, hE, hout⟩ := hr T hT X
  cases ov with
  | inr v =>
    obtain ⟨t2, a1, b1⟩ := kk v w1 T'.heap (locs ++ L) h (hI.after hA hE hL) T' rfl X'
    exact ⟨t2, hout t2 a1, b1⟩
  | inl E =>
    obtain ⟨q, ce, h1, h2, h3, h4⟩ := hout
    obtain ⟨t2, a1, b1⟩ := hexc E w1 (Option.some.inj h).symm pc ls rest T'.heap (locs ++ L) q ce (hI.after hA hE hL) h1 h2 h3 T' rfl (stand_widen X' hc hs)
    exact ⟨t2, h4.trans a1, b1⟩
theorem gw_callJ {β : Type} {X : gX Int64} {K : Int64 → gW → gX β} {r : (String ⊕ β) × gW} {ov : (String ⊕ Int64) × gW} (e1 : X = some ov) (h : gbind X K = some r) (hr : gRun p l e R s m args below meth c H locs cells slots (F0 m pc ls st0) rest rm D w (goJ ov)) (hI : gI D s A w H locs) (hA : ∀ q : Nat, s.heap.size ≤ q → A q) (hexc : gEx p l e R s m args below meth c Q D A r) (hc : cells + rm.cells ≤ R.cells) (hs : slots + rm.slots ≤ R.slots)
    (kk : ∀ (v : Int64) (w1 : gW) (H1 : Heap) (locs1 : List Loc), K v w1 = some r → gI D s A w1 H1 locs1 → W p l e R s m args below meth c H1 locs1 (cells + rm.cells) (slots + rm.slots) Q (F0 m (pc + 3) ls (.long v :: rest))) : W p l e R s m args below meth c H locs cells slots Q (F0 m pc ls st0) := by
  subst e1
  obtain ⟨ov, w1⟩ := ov
  intro T hT X
  obtain ⟨T', L, X', hL, hE, hout⟩ := hr T hT X
  cases ov with
  | inr v =>
    obtain ⟨t2, a1, b1⟩ := kk v w1 T'.heap (locs ++ L) h (hI.after hA hE hL) T' rfl X'
    exact ⟨t2, hout t2 a1, b1⟩
  | inl E =>
    obtain ⟨q, ce, h1, h2, h3, h4⟩ := hout
    obtain ⟨t2, a1, b1⟩ := hexc E w1 (Option.some.inj h).symm pc ls rest T'.heap (locs ++ L) q ce (hI.after hA hE hL) h1 h2 h3 T' rfl (stand_widen X' hc hs)
    exact ⟨t2, h4.trans a1, b1⟩
theorem gw_callA {β : Type} {X : gX Nat} {K : Nat → gW → gX β} {r : (String ⊕ β) × gW} {ov : (String ⊕ Nat) × gW} (e1 : X = some ov) (h : gbind X K = some r) (hr : gRun p l e R s m args below meth c H locs cells slots (F0 m pc ls st0) rest rm D w (goA ov)) (hI : gI D s A w H locs) (hA : ∀ q : Nat, s.heap.size ≤ q → A q) (hexc : gEx p l e R s m args below meth c Q D A r) (hc : cells + rm.cells ≤ R.cells) (hs : slots + rm.slots ≤ R.slots)
    (kk : ∀ (v : Nat) (w1 : gW) (H1 : Heap) (locs1 : List Loc), K v w1 = some r → gI D s A w1 H1 locs1 → W p l e R s m args below meth c H1 locs1 (cells + rm.cells) (slots + rm.slots) Q (F0 m (pc + 3) ls (.ref v :: rest))) : W p l e R s m args below meth c H locs cells slots Q (F0 m pc ls st0) := by
  subst e1
  obtain ⟨ov, w1⟩ := ov
  intro T hT X
  obtain ⟨T', L, X', hL, hE, hout⟩ := hr T hT X
  cases ov with
  | inr v =>
    obtain ⟨t2, a1, b1⟩ := kk v w1 T'.heap (locs ++ L) h (hI.after hA hE hL) T' rfl X'
    exact ⟨t2, hout t2 a1, b1⟩
  | inl E =>
    obtain ⟨q, ce, h1, h2, h3, h4⟩ := hout
    obtain ⟨t2, a1, b1⟩ := hexc E w1 (Option.some.inj h).symm pc ls rest T'.heap (locs ++ L) q ce (hI.after hA hE hL) h1 h2 h3 T' rfl (stand_widen X' hc hs)
    exact ⟨t2, h4.trans a1, b1⟩
theorem gw_callV {β : Type} {X : gX Unit} {K : Unit → gW → gX β} {r : (String ⊕ β) × gW} {ov : (String ⊕ Unit) × gW} (e1 : X = some ov) (h : gbind X K = some r) (hr : gRun p l e R s m args below meth c H locs cells slots (F0 m pc ls st0) rest rm D w (goV ov)) (hI : gI D s A w H locs) (hA : ∀ q : Nat, s.heap.size ≤ q → A q) (hexc : gEx p l e R s m args below meth c Q D A r) (hc : cells + rm.cells ≤ R.cells) (hs : slots + rm.slots ≤ R.slots)
    (kk : ∀ (v : Unit) (w1 : gW) (H1 : Heap) (locs1 : List Loc), K v w1 = some r → gI D s A w1 H1 locs1 → W p l e R s m args below meth c H1 locs1 (cells + rm.cells) (slots + rm.slots) Q (F0 m (pc + 3) ls rest)) : W p l e R s m args below meth c H locs cells slots Q (F0 m pc ls st0) := by
  subst e1
  obtain ⟨ov, w1⟩ := ov
  intro T hT X
  obtain ⟨T', L, X', hL, hE, hout⟩ := hr T hT X
  cases ov with
  | inr v =>
    obtain ⟨t2, a1, b1⟩ := kk v w1 T'.heap (locs ++ L) h (hI.after hA hE hL) T' rfl X'
    exact ⟨t2, hout t2 a1, b1⟩
  | inl E =>
    obtain ⟨q, ce, h1, h2, h3, h4⟩ := hout
    obtain ⟨t2, a1, b1⟩ := hexc E w1 (Option.some.inj h).symm pc ls rest T'.heap (locs ++ L) q ce (hI.after hA hE hL) h1 h2 h3 T' rfl (stand_widen X' hc hs)
    exact ⟨t2, h4.trans a1, b1⟩
/-- the kit's end of a walk, as this contract's -/
theorem gw_end {y : MethodName} {w0 : gW} {v : Option Value} {w1 : gW} {mc ms : Nat} {g : JFrame} (hI : gI D s (gA w0) w1 H locs)
    (k : W p l e R s m args below meth c H locs mc ms (MQ below (fun _ _ oc t => oc = .returned v ∧ t.heap = H ∧ s.WarmedH t.vm) args s mc ms (gA w0)) g) : W p l e R s m args below meth c H locs mc ms (gMQ below D w0 (.inr v, w1) mc ms args s) g := by
  intro T hT X
  obtain ⟨t, a1, oc, b1, b2, ⟨rfl, hh, hW⟩, L, ⟨-, -, hF⟩, hL⟩ := k T hT X
  obtain ⟨h1, h2, h3, h4⟩ := hI
  refine ⟨t, a1, _, b1, b2, ⟨by rw [hh]; exact h1, fun a e he => by rw [hh]; exact h2 a e he, h4, ⟨by rw [hh]; exact h3.1, fun q q1 q2 => by rw [hh]; exact h3.2.1 q q1 q2⟩⟩, hW, ⟨L, hF, hL⟩, rfl⟩
variable {w0 : gW} {cc : ByteArray}
theorem gw_retI (hx : p.tables.exec = Jvm.exec) (hb : c.code = cc) (hr : meth.sig.returnType = some .int) (hlocks : meth.locks = false) (r : (String ⊕ Int32) × gW) : ∀ (v : Int32) (w1 : gW), r = (.inr v, w1) → ∀ (pc : Nat) (ls : Array Slot) (H : Heap) (locs : List Loc), decode cc pc = .ok (.ireturn, 1) → gI D s (gA w0) w1 H locs → W p l e R s m args below meth c H locs R.cells R.slots (gMQ below D w0 (goI r) R.cells R.slots args s) (F0 m pc ls [.int v]) := by
  intro v w1 h pc ls H locs hdg hI
  subst h
  exact gw_end (y := ⟨"", "", ""⟩) hI (W.iret hx hb hr (fun t ht hW => ⟨rfl, ht, hW⟩) hI.2.2.1.2.2 hdg hlocks)
theorem gw_retZ (hx : p.tables.exec = Jvm.exec) (hb : c.code = cc) (hr : meth.sig.returnType = some .boolean) (hlocks : meth.locks = false) (r : (String ⊕ Int32) × gW) : ∀ {v : Int32}, (v = 0 ∨ v = 1) → ∀ (v' : Int32) (w1 : gW), r = (.inr v, w1) → ∀ (pc : Nat) (ls : Array Slot) (H : Heap) (locs : List Loc), decode cc pc = .ok (.ireturn, 1) → gI D s (gA w0) w1 H locs → W p l e R s m args below meth c H locs R.cells R.slots (gMQ below D w0 (goI r) R.cells R.slots args s) (F0 m pc ls [.int v]) := by
  intro v hv _ w1 h pc ls H locs hdg hI
  subst h
  exact gw_end (y := ⟨"", "", ""⟩) hI (W.zret hx hb hr (by rcases hv with rfl | rfl <;> rfl) (fun t ht hW => ⟨rfl, ht, hW⟩) hI.2.2.1.2.2 hdg hlocks)
theorem gw_retJ (hx : p.tables.exec = Jvm.exec) (hb : c.code = cc) (hr : meth.sig.returnType = some .long) (hlocks : meth.locks = false) (r : (String ⊕ Int64) × gW) : ∀ (v : Int64) (w1 : gW), r = (.inr v, w1) → ∀ (pc : Nat) (ls : Array Slot) (H : Heap) (locs : List Loc), decode cc pc = .ok (.lreturn, 1) → gI D s (gA w0) w1 H locs → W p l e R s m args below meth c H locs R.cells R.slots (gMQ below D w0 (goJ r) R.cells R.slots args s) (F0 m pc ls [.long v]) := by
  intro v w1 h pc ls H locs hdg hI
  subst h
  exact gw_end (y := ⟨"", "", ""⟩) hI (W.lret hx hb hr (fun t ht hW => ⟨rfl, ht, hW⟩) hI.2.2.1.2.2 hdg hlocks)
theorem gw_retV (hx : p.tables.exec = Jvm.exec) (hb : c.code = cc) (hr : meth.sig.returnType = none) (hlocks : meth.locks = false) (r : (String ⊕ Unit) × gW) : ∀ (v : Unit) (w1 : gW), r = (.inr v, w1) → ∀ (pc : Nat) (ls : Array Slot) (H : Heap) (locs : List Loc), decode cc pc = .ok (.return_, 1) → gI D s (gA w0) w1 H locs → W p l e R s m args below meth c H locs R.cells R.slots (gMQ below D w0 (goV r) R.cells R.slots args s) (F0 m pc ls []) := by
  intro v w1 h pc ls H locs hdg hI
  subst h
  exact gw_end (y := ⟨"", "", ""⟩) hI (W.vret hx hb hr (fun t ht hW => ⟨rfl, ht, hW⟩) hI.2.2.1.2.2 hdg hlocks)
theorem gw_retA {rt : FieldType} (hx : p.tables.exec = Jvm.exec) (hb : c.code = cc) (hr : meth.sig.returnType = some rt) (hrt : (∃ n, rt = .object n) ∨ ∃ t, rt = .array t) (hlocks : meth.locks = false) (r : (String ⊕ Nat) × gW) : ∀ (v : Nat) (w1 : gW), r = (.inr v, w1) → ∀ (pc : Nat) (ls : Array Slot) (H : Heap) (locs : List Loc), decode cc pc = .ok (.areturn, 1) → gI D s (gA w0) w1 H locs → W p l e R s m args below meth c H locs R.cells R.slots (gMQ below D w0 (goA r) R.cells R.slots args s) (F0 m pc ls [.ref v]) := by
  intro v w1 h pc ls H locs hdg hI
  subst h
  exact gw_end (y := ⟨"", "", ""⟩) hI (W.aret hx hb hr hrt (Or.inr ⟨v, rfl⟩) (fun t ht hW => ⟨rfl, ht, hW⟩) hI.2.2.1.2.2 hdg hlocks)
/-- an exception leaves a method without handlers -/
theorem gw_exc {α : Type} {r : (String ⊕ α) × gW} {o : (String ⊕ Option Value) × gW} (ho : ∀ (E : String) (w1 : gW), r = (.inl E, w1) → o = (.inl E, w1)) (htab : ∀ x ∈ c.exceptionTable.toList, False) (hlocks : meth.locks = false) : gEx p l e R s m args below meth c (gMQ below D w0 o R.cells R.slots args s) D (gA w0) r := by
  intro E w1 h pc ls rest H locs q ce hI h1 h2 h3 T hT X
  obtain ⟨st1, hrun, hend, hW, hsm⟩ := X.leaveThrown q (g := F0 m pc ls rest) rfl rfl rfl (fun x hx => (htab x hx).elim) hlocks
  rw [ho E w1 h]
  obtain ⟨g1, g2, g3, g4⟩ := hI
  have hh : (T.setFrames (.throwing q :: below)).heap = H := hT
  refine ⟨_, st1, .threw q, hrun, hend, ⟨by rw [hh]; exact g1, fun a e he => by rw [hh]; exact g2 a e he, g4, ⟨by rw [hh]; exact g3.1, fun z q1 q2 => by rw [hh]; exact g3.2.1 z q1 q2⟩⟩, hW, ⟨locs, hsm, g3.2.2⟩, q, ce, rfl, by rw [hh]; exact h1, h2, h3⟩
end GM
/-- a contract out of a walk of the body -/
theorem gw_of {l : Launch} {y : MethodName} {cc : ByteArray} {maxL : Nat} {ret : Option FieldType} {rm : Room} {D : gD} {g0 : gG} {av : List Value} {w : gW} {o : (String ⊕ Option Value) × gW} (hy : plainFor y = true) (hlen : (lg_sl av).length ≤ maxL)
    (body : ∀ (p : Program) (e : Env) (s : State) (m : MethodId) (below : List Frame) (meth : Method) (c : Code) (ls : Array Slot), p.tables.exec = Jvm.exec → c.code = cc → meth.sig.returnType = ret → c.maxLocals = maxL → s.vm.findClass y.cls = some m.cls → meth.locks = false → meth.name = y.name → (∀ x ∈ c.exceptionTable.toList, False) → gT s → gK D s → gZ (gA w) s s.heap g0 → (∀ q : Nat, s.heap.size ≤ q → gA w q) → gI D s (gA w) w s.heap [] → lv_has ls maxL (lv_args 0 av) →
      W p l e rm s m av.toArray below meth c s.heap [] 0 0 (gMQ below D w o rm.cells rm.slots av.toArray s) (F0 m 0 ls [])) : gMet l y (.code y cc maxL ret) rm D g0 av w o := by
  refine MetFree.of_bodySF (code := cc) (maxLocals := maxL) (ret := ret) hy ?_ ?_
  · intro args s m h hn
    obtain ⟨meth, c, h1, h2, h3, h4, h5, h6, -, -⟩ := Cond.code_spec hn (atoms_spec (ws := [.code y cc maxL ret]) h _ List.mem_cons_self)
    exact ⟨meth, c, h1, h2, h3, h4, h5, h6⟩
  · intro p e s m args below meth c s₁ B hml hP _
    obtain ⟨rfl, q1, q2, q3, q4, q5⟩ := hP
    have hh0 : s₁.heap = s.heap := by rw [B.state]; rfl
    have htab : ∀ x ∈ c.exceptionTable.toList, False := by
      obtain ⟨meth9, c9, h1, h2, -, -, -, -, h7, -⟩ := Cond.code_spec B.named (atoms_spec (ws := [.code y cc maxL ret]) B.pre _ List.mem_cons_self)
      cases Option.some.inj (h1.symm.trans B.method)
      cases Option.some.inj (h2.symm.trans (Stand.of_body B).code)
      intro x hx
      rw [Array.isEmpty_iff.mp h7] at hx
      cases hx
    have hl := lv_entry av (n := maxL) hlen
    have hW := body p e s m below meth c _ B.exec B.bytes B.returns hml (findClass_of_methodNamed B.named) B.notSynchronized (name_of_methodNamed B.named B.method).1 htab q4 q3 q5 (fun q hq => Or.inr (by rw [← q1]; exact hq)) ⟨q1, q2, va_S.rf, fun a e he hr => Or.inl ⟨e, he, hr⟩⟩ hl
    rw [← lg_entry_eq] at hW
    obtain ⟨t, a1, oc, b1, b2, b3⟩ := hW s₁ hh0 (Stand.of_body B)
    exact ⟨t, oc, a1, b1, b2, b3⟩
end
section
/-! ===== rows of references: stores, comparisons, statics, casts ===== -/
def gCast : List (String × String) := [("BodySolids$Solid", "BodySolids$Solid"), ("BodySolids$Solid", "java/lang/Object"), ("BodySolids$Body", "java/lang/Object"), ("BodySolids$Placement", "java/lang/Object"), ("BodySolids$KeepOut", "java/lang/Object"), ("BodySolids$Placement", "BodySolids$Placement"), ("BodySolids$KeepOut", "BodySolids$KeepOut"), ("BodySolids$Body", "BodySolids$Body")]
theorem gCast_ok : ∀ q ∈ gCast, Cond.castable q.1 q.2 ∈ gAll := fun q hq => List.mem_filter.mpr ⟨by revert q; decide +kernel, rfl⟩
def gok (k c : Nat) : Bool := match gTy[k]?, gCl[c]? with
  | some (.object C), some r => decide ((r.1, C) ∈ gCast)
  | _, _ => false
theorem gok_some {k c : Nat} (h : gok k c = true) : ∃ (C : String) (r : vw_C), gTy[k]? = some (.object C) ∧ gCl[c]? = some r ∧ Cond.castable r.1 C ∈ gAll := by
  unfold gok at h
  split at h
  · rename_i C r h1 h2
    exact ⟨C, r, h1, h2, gCast_ok (r.1, C) (of_decide_eq_true h)⟩
  · cases h
def gsA (w : gW) (a : Nat) (i : Int32) (v : Nat) : Option gW := (gob w a).bind fun k => match w.1 v with
  | some (.inr o) => if gok k o.1 = true then gas w a k i (.ref v) else none
  | _ => none
theorem gsA_some {w w' : gW} {a v : Nat} {i : Int32} (h : gsA w a i v = some w') : ∃ (k : Nat) (o : Nat × List Value), w.1 v = some (.inr o) ∧ gok k o.1 = true ∧ gas w a k i (.ref v) = some w' := by
  obtain ⟨k, h1, h2⟩ := Option.bind_eq_some_iff.mp h
  split at h2
  · rename_i o ho
    split at h2
    · rename_i hk
      exact ⟨k, o, ho, hk, h2⟩
    · cases h2
  · cases h2
section GR2
variable {p : Program} {l : Launch} {e : Env} {R : Room} {s : State} {m : MethodId} {args : Array Value} {below : List Frame} {meth : Method} {c : Code} {H : Heap} {locs : List Loc} {cells slots : Nat} {Q : State → Prop}
variable {cc : ByteArray} {pc : Nat} {ls : Array Slot} {rest : List Value} {D : gD} {A : Nat → Prop} {a : Nat} {w : gW} {g0 : gG}
theorem gw_astA (hx : p.tables.exec = Jvm.exec) (hb : c.code = cc) (hT : gT s) (hK : gK D s) (hI : gI D s A w H locs) {i : Int32} {x : Nat} {w' : gW} (hv : gsA w a i x = some w') (hdg : decode cc pc = .ok (.aastore, 1))
    (kk : ∀ (H1 : Heap) (locs1 : List Loc), gI D s A w' H1 locs1 → W p l e R s m args below meth c H1 locs1 cells slots Q (F0 m (pc + 1) ls rest)) : W p l e R s m args below meth c H locs cells slots Q (F0 m pc ls (.ref x :: .int i :: .ref a :: rest)) := by
  obtain ⟨k, o, ho, hok, hv⟩ := gsA_some hv
  obtain ⟨C, r, hk, hc, hca⟩ := gok_some hok
  obtain ⟨n, f, h1, hin, rfl⟩ := gas_some hv
  have hlt : i.toNatClampNeg < n := Nat.not_le.mp fun q => hin (Or.inr q)
  have h0 : ¬ i < 0 := fun q => hin (Or.inl q)
  obtain ⟨r', hr', cellV, g1, g2, g3, -⟩ := hI.2.1 x _ ho
  have hcls := (hK.1 o.1 r hc).2
  obtain ⟨kA, comp, k1, k2, k3, -⟩ := (hK.2.1 k _ hk).2
  obtain ⟨kE, hkE, -⟩ := Vm.findClass_spec k3
  obtain ⟨c0, t1, f1, f2, f3⟩ := Cond.castable_spec (hT _ hca args)
  cases hcls.1.symm.trans f1
  cases k3.symm.trans f2
  obtain ⟨kC, hkC, -⟩ := hcls.2
  have hk4 : k < 4 := (List.getElem?_eq_some_iff.mp hk).1
  refine W.aast hx hb ((hI.2.1 a _ h1).arr hk4) (fun q h => by cases h) (fun h => by cases h) k1 k2 rfl hkE ⟨h0, by show _ < (arrV _ _ _).slots.size; rw [arrV_size]; exact hlt⟩ g1 (fun q h => by rw [g3] at h; cases h) (by rw [g2]; exact hkC) (by rw [g2]; exact f3) rfl rfl hdg fun H1 e1 z1 o1 => ?_
  exact kk H1 _ (hI.put h1 ⟨hk4, (fun q => hin (Or.inr (by rw [show n = 0 from q]; exact Nat.zero_le _)))⟩ z1 o1 (gAt.mk hk4 (e1.trans (by show some (Cell.setSlot (arrV _ _ _) _ _) = _; rw [arrV_store]))))
theorem gw_acmp_eq (hx : p.tables.exec = Jvm.exec) (hb : c.code = cc) {x y : Nat} {off : Int} {tgt : Nat} (hdg : decode cc pc = .ok (.if_acmp .eq off, 3)) (ht : (pc : Int) + off = (tgt : Int))
    (kt : x = y → W p l e R s m args below meth c H locs cells slots Q (F0 m tgt ls rest)) (kf : ¬ x = y → W p l e R s m args below meth c H locs cells slots Q (F0 m (pc + 3) ls rest)) : W p l e R s m args below meth c H locs cells slots Q (F0 m pc ls (.ref y :: .ref x :: rest)) :=
  lv_acmp_eq (rx := some x) (ry := some y) hx hb hdg ht (fun h => kt (Option.some.inj h)) (fun h => kf (fun q => h (by rw [q])))
theorem gw_acmp_ne (hx : p.tables.exec = Jvm.exec) (hb : c.code = cc) {x y : Nat} {off : Int} {tgt : Nat} (hdg : decode cc pc = .ok (.if_acmp .ne off, 3)) (ht : (pc : Int) + off = (tgt : Int))
    (kt : ¬ x = y → W p l e R s m args below meth c H locs cells slots Q (F0 m tgt ls rest)) (kf : x = y → W p l e R s m args below meth c H locs cells slots Q (F0 m (pc + 3) ls rest)) : W p l e R s m args below meth c H locs cells slots Q (F0 m pc ls (.ref y :: .ref x :: rest)) :=
  lv_acmp_ne (rx := some x) (ry := some y) hx hb hdg ht (fun h => kt (fun q => h (by rw [q]))) (fun h => kf (Option.some.inj h))
theorem gw_gets (hx : p.tables.exec = Jvm.exec) (hb : c.code = cc) (hT : gT s) {own : String} (hown : s.vm.findClass own = some m.cls) (hZ : gZ A s s.heap g0) (hI : gI D s A w H locs) {index : Nat} (hlink : Cond.fieldLink own index "java/util/ArrayList" "DEFAULTCAPACITY_EMPTY_ELEMENTDATA" "[Ljava/lang/Object;" ∈ gAll) (hdg : decode cc pc = .ok (.getstatic index, 3))
    (kk : W p l e R s m args below meth c H locs cells slots Q (F0 m (pc + 3) ls (.ref g0.1 :: rest))) : W p l e R s m args below meth c H locs cells slots Q (F0 m pc ls rest) :=
  va_gets hx hb hZ.1 hI.2.2.1 hown (hT _ hlink args) (fun _ h => h) hdg kk
theorem gw_cast {ci N : Nat} {C nm : String} {T0 : u_T} {u : Unit} (hx : p.tables.exec = Jvm.exec) (hb : c.code = cc) (hT : gT s) {own : String} (hown : s.vm.findClass own = some m.cls) (hK : gK D s) (hI : gI D s A w H locs) {index : Nat} (hlink : Cond.classLink own index nm ∈ gAll) (hc : gCl[ci]? = some (C, T0, N)) (hca : Cond.castable C nm ∈ gAll) (hv : gck w a ci = some u) (hdg : decode cc pc = .ok (.checkcast index, 3))
    (kk : W p l e R s m args below meth c H locs cells slots Q (F0 m (pc + 3) ls (.ref a :: rest))) : W p l e R s m args below meth c H locs cells slots Q (F0 m pc ls (.ref a :: rest)) :=
  va_castY hx hb hown (hT _ hlink args) (hT _ hca #[]) (hI.recv hK hc hv) hdg kk
/-- a row of objects of any kind -/
def gkd (w : gW) (a k : Nat) : Option Nat := match w.1 a with
  | some (.inl x) => if x.1 = k then some x.2.1 else none
  | _ => none
theorem gkd_some {w : gW} {a k n : Nat} (h : gkd w a k = some n) : ∃ f : Nat → Value, w.1 a = some (.inl (k, n, f)) := by
  unfold gkd at h
  split at h
  · rename_i x hx
    split at h
    · rename_i hk
      subst hk
      cases h
      exact ⟨x.2.2, hx⟩
    · cases h
  · cases h
theorem gw_getC (hx : p.tables.exec = Jvm.exec) (hb : c.code = cc) (hml : c.maxLocals = ls.size) (hT : gT s) {own : String} (hown : s.vm.findClass own = some m.cls) (hK : gK D s) (hZ : gZ A s s.heap g0) (hI : gI D s A w H locs) {index n : Nat} (hv : gkd w a 3 = some n)
    (hlink : Cond.methodLink own index ⟨"java/lang/Object", "getClass", "()Ljava/lang/Class;"⟩ ∈ gAll) (hdecl : Cond.declares ⟨"java/lang/Object", "getClass", "()Ljava/lang/Class;"⟩ ∈ gAll) (hsel : Cond.selects "[Ljava/lang/Object;" ⟨"java/lang/Object", "getClass", "()Ljava/lang/Class;"⟩ ⟨"java/lang/Object", "getClass", "()Ljava/lang/Class;"⟩ ∈ gAll) (hinst : Cond.instanceMethod ⟨"java/lang/Object", "getClass", "()Ljava/lang/Class;"⟩ ∈ gAll) (hnat : Cond.native ⟨"java/lang/Object", "getClass", "()Ljava/lang/Class;"⟩ ∈ gAll)
    (hframes : 1 ≤ R.frames) (hlocals : (rest.map fun v => v.category).sum + 14 ≤ R.locals) (hdg : decode cc pc = .ok (.invokevirtual index, 3))
    (kk : W p l e R s m args below meth c H locs cells slots Q (F0 m (pc + 3) ls (.ref g0.2 :: rest))) : W p l e R s m args below meth c H locs cells slots Q (F0 m pc ls (.ref a :: rest)) := by
  obtain ⟨f, h1⟩ := gkd_some hv
  exact va_getC hx hb hml hown (hT _ hlink args) (hT _ hdecl args) (hT _ hsel args) (hT _ hinst args) (hT _ hnat args) hZ.2.1 ⟨_, (hI.2.1 a _ h1).arr (by decide), rfl, va_nmO (hK.2.1 3 _ rfl).2 rfl⟩ hframes hlocals hdg kk
theorem gw_ldcM (hx : p.tables.exec = Jvm.exec) (hb : c.code = cc) (hT : gT s) {own : String} (hown : s.vm.findClass own = some m.cls) (hZ : gZ A s s.heap g0) {index : Nat} (hlink : Cond.classLink own index "[Ljava/lang/Object;" ∈ gAll) (hdg : decode cc pc = .ok (.ldc index, 2))
    (kk : W p l e R s m args below meth c H locs cells slots Q (F0 m (pc + 2) ls (.ref g0.2 :: rest))) : W p l e R s m args below meth c H locs cells slots Q (F0 m pc ls rest) :=
  va_ldcM hx hb hown (hT _ hlink args) hZ.2.1 hdg kk
end GR2
end
section
/-! ===== System.arraycopy between rows of Objects ===== -/
def gelt (w : gW) (v : Value) : Bool := match v with
  | .null => true
  | .ref y => (match w.1 y with
    | some (.inr o) => gok 3 o.1
    | _ => false)
  | _ => false
theorem gelt_some {w : gW} {v : Value} (h : gelt w v = true) : v = .null ∨ ∃ (y : Nat) (o : Nat × List Value), v = .ref y ∧ w.1 y = some (.inr o) ∧ gok 3 o.1 = true := by
  unfold gelt at h
  split at h
  · exact Or.inl rfl
  · rename_i y
    split at h
    · rename_i o ho
      exact Or.inr ⟨y, o, rfl, ho, h⟩
    · cases h
  · cases h
def gcp (w : gW) (a : Nat) (sp : Int32) (b : Nat) (dp n : Int32) : Option gW := match w.1 a, w.1 b with
  | some (.inl x), some (.inl y) => if x.1 = 3 ∧ y.1 = 3 ∧ ¬ sp < 0 ∧ ¬ dp < 0 ∧ ¬ n < 0 ∧ sp.toNatClampNeg + n.toNatClampNeg ≤ x.2.1 ∧ dp.toNatClampNeg + n.toNatClampNeg ≤ y.2.1 ∧ y.2.1 ≠ 0 ∧ (List.range n.toNatClampNeg).all (fun i => gelt w (x.2.2 (sp.toNatClampNeg + i))) = true then some (gup w b (.inl (3, y.2.1, va_cpy x.2.2 y.2.2 sp.toNatClampNeg dp.toNatClampNeg n.toNatClampNeg))) else none
  | _, _ => none
theorem gcp_some {w w' : gW} {a b : Nat} {sp dp n : Int32} (h : gcp w a sp b dp n = some w') : ∃ (n0 n1 : Nat) (f g : Nat → Value), w.1 a = some (.inl (3, n0, f)) ∧ w.1 b = some (.inl (3, n1, g)) ∧ ¬ sp < 0 ∧ ¬ dp < 0 ∧ ¬ n < 0 ∧ sp.toNatClampNeg + n.toNatClampNeg ≤ n0 ∧ dp.toNatClampNeg + n.toNatClampNeg ≤ n1 ∧ n1 ≠ 0 ∧ (∀ i, i < n.toNatClampNeg → gelt w (f (sp.toNatClampNeg + i)) = true) ∧ w' = gup w b (.inl (3, n1, va_cpy f g sp.toNatClampNeg dp.toNatClampNeg n.toNatClampNeg)) := by
  unfold gcp at h
  split at h
  · rename_i x y hx hy
    split at h
    · rename_i hc
      obtain ⟨h1, h2, h3, h4, h5, h6, h7, h8, h9⟩ := hc
      cases h
      refine ⟨x.2.1, y.2.1, x.2.2, y.2.2, by rw [hx, ← h1], by rw [hy, ← h2], h3, h4, h5, h6, h7, h8, fun i hi => List.all_eq_true.mp h9 i (List.mem_range.mpr hi), rfl⟩
    · cases h
  · cases h
section GR3
variable {p : Program} {l : Launch} {e : Env} {R : Room} {s : State} {m : MethodId} {args : Array Value} {below : List Frame} {meth : Method} {c : Code} {H : Heap} {locs : List Loc} {cells slots : Nat} {Q : State → Prop}
variable {cc : ByteArray} {pc : Nat} {ls : Array Slot} {rest : List Value} {D : gD} {A : Nat → Prop} {a b : Nat} {w : gW} {g0 : gG}
theorem gw_copy (hx : p.tables.exec = Jvm.exec) (hb : c.code = cc) (hml : c.maxLocals = ls.size) (hT : gT s) {own : String} (hown : s.vm.findClass own = some m.cls) (hK : gK D s) (hI : gI D s A w H locs) {index : Nat} {sp dp n : Int32} {w' : gW} (hv : gcp w a sp b dp n = some w')
    (hlink : Cond.methodLink own index arraycopyName ∈ gAll) (hnat : Cond.native arraycopyName ∈ gAll) (hstat : Cond.static arraycopyName ∈ gAll) (hini : Cond.initialized "java/lang/System" ∈ gAll)
    (hframes : 1 ≤ R.frames) (hlocals : (rest.map fun v => v.category).sum + (nativeFrameWords "java/lang/System" "arraycopy" 5 + 11) ≤ R.locals) (hdg : decode cc pc = .ok (.invokestatic index, 3))
    (kk : ∀ (H1 : Heap) (locs1 : List Loc), gI D s A w' H1 locs1 → W p l e R s m args below meth c H1 locs1 cells slots Q (F0 m (pc + 3) ls rest)) : W p l e R s m args below meth c H locs cells slots Q (F0 m pc ls (.int n :: .int dp :: .ref b :: .int sp :: .ref a :: rest)) := by
  obtain ⟨n0, n1, f, g, ha0, ha1, h1, h2, h3, h4, h5, h6, hel, rfl⟩ := gcp_some hv
  have nn : ∀ z : Int32, ¬ z < 0 → z.toInt = (z.toNatClampNeg : Int) := by
    intro z hz
    have hz0 : (0 : Int) ≤ z.toInt := by simpa using Int32.le_iff_toInt_le.mp (Int32.not_lt.mp hz)
    show z.toInt = ((z.toInt.toNat : Nat) : Int)
    omega
  have hc0 : H[a]? = some (arrV (D.2.2 3) n0 f) := (hI.2.1 a _ ha0).arr (by decide)
  have hc1 : H[b]? = some (arrV (D.2.2 3) n1 g) := (hI.2.1 b _ ha1).arr (by decide)
  obtain ⟨kA, comp, r1, r2, r3, -⟩ := (hK.2.1 3 _ rfl).2
  obtain ⟨kE, hkE, -⟩ := Vm.findClass_spec r3
  intro T hT0 X
  obtain ⟨vm', X', step⟩ := X.arraycopy hx hown (hT _ hlink args) (hT _ hnat args) (hT _ hstat args) (hT _ hini args) (src := a) (dst := b) (cs := arrV (D.2.2 3) n0 f) (cd := arrV (D.2.2 3) n1 g) (srcPos := sp) (destPos := dp) (n := n) (by rw [hT0]; exact hc0) (by rw [hT0]; exact hc1)
    (fun _ h => by cases h) (fun _ h => by cases h) (fun h => by cases h) (fun h => by cases h) r1 r1 r2 r2 rfl h1 h2 h3
    (by rw [nn sp h1, nn n h3, arrV_size]; omega) (by rw [nn dp h2, nn n h3, arrV_size]; omega)
    (fun vm₁ hal i hi => by
      have e1 : (arrV (D.2.2 3) n0 f).slots.getD (sp.toNatClampNeg + i) .null = f (sp.toNatClampNeg + i) := by
        rw [Array.getD_eq_getD_getElem?, arrV_read _ _ (by omega)]
        rfl
      rw [e1]
      rcases gelt_some (hel i hi) with hy | ⟨y, o, hy, ho, hok⟩
      · rw [hy]; exact ⟨rfl, trivial⟩
      · rw [hy]
        obtain ⟨C, r, hk, hc, hca⟩ := gok_some hok
        cases hk
        obtain ⟨r', hr', cellV, g1, g2, g3, -⟩ := hI.2.1 y _ ho
        have hcls := (hK.1 o.1 r hc).2
        obtain ⟨c0, t1, f1, f2, f3⟩ := Cond.castable_spec (hT _ hca args)
        cases hcls.1.symm.trans f1
        cases r3.symm.trans f2
        obtain ⟨kC, hkC, -⟩ := hcls.2
        obtain ⟨kC', hkC', -⟩ := hal.2.2 _ _ hkC
        obtain ⟨kE', hkE', -⟩ := hal.2.2 _ _ hkE
        refine ⟨rfl, cellV, (show T.heap[y]? = some cellV by rw [hT0]; exact g1), (fun q h => by rw [h] at g3; cases g3), ⟨kC', by rw [g2]; exact hkC'⟩, ⟨kE', hkE'⟩, ?_⟩
        show vm₁.assignable _ _ = true
        rw [hal.assignable, g2]
        exact f3)
    (g := F0 m pc ls (.int n :: .int dp :: .ref b :: .int sp :: .ref a :: rest)) rfl (by rw [hml]) (rest := rest) rfl (by rw [hb]; exact hdg) hframes (by show 2 * 0 + _ + _ ≤ _; omega)
  have e1 : copied (arrV (D.2.2 3) n0 f) (arrV (D.2.2 3) n1 g) sp dp n = arrV (D.2.2 3) n1 (va_cpy f g sp.toNatClampNeg dp.toNatClampNeg n.toNatClampNeg) := va_copied (fun z => z) (D.2.2 3) (D.2.2 3) f g h4
  rw [e1] at X' step
  have hl : b < H.size := (Array.getElem?_eq_some_iff.mp hc1).1
  have hheap : ((T.setVm vm').setCell b (arrV (D.2.2 3) n1 (va_cpy f g sp.toNatClampNeg dp.toNatClampNeg n.toNatClampNeg))).heap = H.setIfInBounds b (arrV (D.2.2 3) n1 (va_cpy f g sp.toNatClampNeg dp.toNatClampNeg n.toNatClampNeg)) := by rw [← hT0]; rfl
  have oq : ∀ q : Nat, q ≠ b → (H.setIfInBounds b (arrV (D.2.2 3) n1 (va_cpy f g sp.toNatClampNeg dp.toNatClampNeg n.toNatClampNeg)))[q]? = H[q]? := fun q hq => by simp [Array.getElem?_setIfInBounds, Ne.symm hq]
  have hA1 : A b := hI.2.2.2 b _ ha1 ⟨(show (3 : Nat) < 4 by decide), h6⟩
  have hI1 := hI.put (k := 0) ha1 (show gRW (.inl (3, n1, g)) from ⟨(show (3 : Nat) < 4 by decide), h6⟩) (e := .inl (3, n1, va_cpy f g sp.toNatClampNeg dp.toNatClampNeg n.toNatClampNeg)) (H1 := H.setIfInBounds b (arrV (D.2.2 3) n1 (va_cpy f g sp.toNatClampNeg dp.toNatClampNeg n.toNatClampNeg))) (by simp) oq (gAt.mk (by decide) (show (H.setIfInBounds b _)[b]? = some _ by simp [Array.getElem?_setIfInBounds, hl]))
  obtain ⟨q1, q2, ⟨q3, q4, -⟩, q5⟩ := hI1
  obtain ⟨t, a1, b1⟩ := kk _ _ ⟨q1, q2, ⟨q3, q4, fun z hz => by
      rcases List.mem_append.mp hz with h | h
      · exact hI.2.2.1.2.2 z h
      · obtain ⟨y, -, hy⟩ := List.mem_map.mp h
        rw [← hy]
        exact hA1⟩, q5⟩ _ hheap X'
  exact ⟨t, step t a1, b1⟩
end GR3
end
section
/-! ===== a throw of a new exception with a text: the heap grows by just one cell ===== -/
section GT
variable {p : Program} {l : Launch} {e : Env} {R : Room} {s : State} {m : MethodId} {args : Array Value} {below : List Frame} {meth : Method} {c : Code} {H : Heap} {locs : List Loc} {cells slots : Nat} {Q : State → Prop}
variable {cc : ByteArray} {pc nL : Nat} {ls : Array Slot} {rest : List Value} {D : gD} {A : Nat → Prop} {w : gW} {g0 : gG} {T : State}
/-- the same frame, its invocation told anew from the heap as it stands -/
theorem gw_anew0 (X : Stand p l e R s m args below meth c T locs cells slots) {R' : Room} (hf : R'.frames ≤ R.frames) (hl : R'.locals ≤ R.locals) (hc : cells + R'.cells ≤ R.cells) (hs : slots + R'.slots ≤ R.slots) : Stand p l e R' ((T.setVm s.vm).setFrames (.invoking m args :: below)) m args below meth c T [] 0 0 := by
  have htop : (T.setVm s.vm).topJava?.isSome := X.here.top
  have hF : ((T.setVm s.vm).setFrames (.invoking m args :: below)).frames = .invoking m args :: below := State.frames_setFrames _ (State.cur_lt_of_top htop)
  obtain ⟨gt, hgt⟩ := Option.isSome_iff_exists.mp htop
  obtain ⟨r, hr⟩ := State.topJava?_eq_some.mp hgt
  have hlim : e.platform.stackLimits (T.setVm s.vm).me = e.platform.stackLimits s.me := X.limits
  have hbyt : (T.setVm s.vm).me.stackBytes = s.me.stackBytes := X.bytes
  have hloc : ((T.setVm s.vm).setFrames (.invoking m args :: below)).localsInUse = s.localsInUse := by
    rw [State.localsInUse_invoking hF (meth := meth) (c := c) X.method X.code, State.localsInUse_invoking X.frames X.method X.code]
  have hdrop : T.heap.toList.drop T.heap.size = [] := List.drop_eq_nil_of_le (Nat.le_of_eq Array.length_toList)
  have hroom : ((T.setVm s.vm).setFrames (.invoking m args :: below)).hasRoom e.platform R' = true := by
    have h := X.room
    have q1 := X.heapSize
    have q2 := X.used
    simp only [State.hasRoom, Bool.and_eq_true, decide_eq_true_eq] at h ⊢
    obtain ⟨⟨⟨⟨h1, h2, h3, h4, h5, h6⟩, h7⟩, h8⟩, h9⟩ := h
    rw [X.frames, List.length_cons] at h2 h3
    simp only [hF, hloc, List.length_cons, State.stackLimits_setFrames, State.stackBytes_setFrames, hlim, hbyt]
    refine ⟨⟨⟨⟨by omega, by omega, by omega, by omega, by omega, h6⟩, ?_⟩, ?_⟩, X.book⟩
    · show T.heap.size + R'.cells ≤ e.platform.maxCells
      omega
    · show T.slotsUsed + R'.slots ≤ e.platform.maxSlots
      omega
  have hsame : ((T.setVm s.vm).setFrames (.invoking m args :: below)).sameButNew (T.setVm s.vm) [] 0 0 := by
    refine ⟨?_, Nat.le_refl _, Nat.le_refl _, ?_, ?_, fun a z hz => ⟨z, hz, rfl, rfl, fun _ _ => rfl⟩⟩
    · obtain ⟨t, ht, -⟩ := State.frames_cons hr
      show T.setVm s.vm = { ((T.setVm s.vm).setFrames (.invoking m args :: below)).setFrames (T.setVm s.vm).frames with heap := T.heap, slotsUsed := T.slotsUsed }
      rw [State.setFrames_setFrames, State.setFrames_self ht]
      rfl
    · show T.slotsUsed = T.slotsUsed + ((T.heap.toList.drop T.heap.size).map (·.slots.size)).sum
      rw [hdrop]
      rfl
    · show ((T.heap.toList.drop T.heap.size).map (·.slots.size)).sum ≤ 0
      rw [hdrop]
      exact Nat.le_refl _
  exact ⟨X.admits, X.cas, X.clock, hF, hroom, X.hears, X.method, X.code, X.here, X.tail, X.warmed, by rw [State.stackLimits_setFrames]; rfl, by rw [State.stackBytes_setFrames]; rfl, hsame⟩
/-- what a body owes where it has thrown -/
abbrev gTh (s : State) (below : List Frame) (rm : Room) (Q : State → Prop) (D : gD) (A : Nat → Prop) {α : Type} (r : (String ⊕ α) × gW) : Prop :=
  ∀ (E : String) (w1 : gW), r = (.inl E, w1) → ∀ (t : State) (q : Addr) (ce : Cell) (L : List Loc), t.status = .running → Ended t below (.threw q) → s.WarmedH t.vm → s.sameButNew ({ t with vm := s.vm } : State) L rm.cells rm.slots → gI D s A w1 t.heap L → t.heap[q]? = some ce → ce.vm = .none → s.vm.findClass E = some ce.cls → Q t
theorem gw_thr {α : Type} {rm : Room} {w0 : gW} {r : (String ⊕ α) × gW} {o : (String ⊕ Option Value) × gW} (ho : ∀ (E : String) (w1 : gW), r = (.inl E, w1) → o = (.inl E, w1)) : gTh s below rm (gMQ below D w0 o rm.cells rm.slots args s) D (gA w0) r := by
  intro E w1 h t q ce L h1 h2 h3 h4 h5 h6 h7 h8
  rw [ho E w1 h]
  obtain ⟨g1, g2, g3, g4⟩ := h5
  exact ⟨.threw q, h1, h2, ⟨g1, g2, g4, ⟨g3.1, g3.2.1⟩⟩, h3, ⟨L, h4, g3.2.2⟩, q, ce, rfl, h6, h7, h8⟩
def gno (z : Cond) : Bool := decide (z ≠ .isRef (.static Bundle.tN "UNASSIGNED_STACK" Bundle.steD)) && decide (z ≠ .isRef (.static Bundle.tN "SUPPRESSED_SENTINEL" Bundle.listD)) && decide (z ≠ .laysStatic Bundle.tN "UNASSIGNED_STACK" Bundle.steD) && decide (z ≠ .laysStatic Bundle.tN "SUPPRESSED_SENTINEL" Bundle.listD)
theorem gw_throwS {β : Type} {r : (String ⊕ β) × gW} (hx : p.tables.exec = Jvm.exec) (hb : c.code = cc) (hst : l.stackTraces = false) {own cls text : String} {names : List String} {ik is ic : Nat} (hown : s.vm.findClass own = some m.cls) (hT : gT s) (hZ : gZ A s s.heap g0) (hI : gI D s A w H locs) (hsz : ls.size = nL) (hml : c.maxLocals = nL) (hnt : ∀ x ∈ c.exceptionTable.toList, False) (hlocks : meth.locks = false)
    (hcls : Bundle.fit cls = true) (hnames : ∀ n ∈ names, Bundle.fit n = true) (hk : Cond.classLink own ik cls ∈ gAll) (hini : Cond.initialized cls ∈ gAll) (htx : (own, is, text) ∈ gTx) (hat : ∀ z ∈ Bundle.ownAtoms own ic cls names, gno z = true → z ∈ gAll)
    (d0 : decode cc pc = .ok (.new ik, 3)) (d3 : decode cc (pc + 3) = .ok (.dup, 1)) (d4 : decode cc (pc + 4) = .ok (.ldc is, 2)) (d6 : decode cc (pc + 6) = .ok (.invokespecial ic, 3)) (d9 : decode cc (pc + 9) = .ok (.athrow, 1))
    (hRf : names.length + 3 < R.frames) (hRl : (rest.map fun v => v.category).sum + (13 * (names.length + 1) + 43) ≤ R.locals) (hRc : cells + 1 ≤ R.cells) (hRs : slots + 6 ≤ R.slots) (hthr : gTh s below R Q D A r) (h : (gthrow cls w : gX β) = some r) :
    W p l e R s m args below meth c H locs cells slots Q (F0 m pc ls rest) := by
  intro T hT0 X
  have htr : e.platform.stackTraces = false := (show e.platform.stackTraces = l.stackTraces by rw [X.admits.platform]).trans hst
  have Y := gw_anew0 X (R' := { frames := R.frames, locals := R.locals, cells := 1, slots := 6 }) (Nat.le_refl _) (Nat.le_refl _) hRc hRs
  obtain ⟨s', hs'⟩ : ∃ z, z = (T.setVm s.vm).setFrames (.invoking m args :: below) := ⟨_, rfl⟩
  rw [← hs'] at Y
  have hvm : s'.vm = s.vm := by rw [hs']; rfl
  have hhp : s'.heap = H := by rw [hs']; exact hT0
  have hW0 : s.WarmedH s'.vm := by rw [hvm]; exact State.WarmedH.refl s
  have hT' : gT s' := gT.warm hW0 hT
  have hZ' : gZ A s' s'.heap g0 := by rw [hhp]; exact gZ.warm hW0 (gZ.kept hZ hI.2.2.1.2.1)
  have hatoms : ∀ z ∈ Bundle.ownAtoms own ic cls names, z.before args s' = true := by
    intro z hz
    by_cases e1 : z = .isRef (.static Bundle.tN "UNASSIGNED_STACK" Bundle.steD)
    · rw [e1]; exact hZ'.2.2.1.isRef
    · by_cases e2 : z = .isRef (.static Bundle.tN "SUPPRESSED_SENTINEL" Bundle.listD)
      · rw [e2]; exact hZ'.2.2.2.1.isRef
      · by_cases e3 : z = .laysStatic Bundle.tN "UNASSIGNED_STACK" Bundle.steD
        · rw [e3]; exact hZ'.2.2.1.lays
        · by_cases e4 : z = .laysStatic Bundle.tN "SUPPRESSED_SENTINEL" Bundle.listD
          · rw [e4]; exact hZ'.2.2.2.1.lays
          · exact hT' z (hat z hz (by unfold gno; rw [decide_eq_true e1, decide_eq_true e2, decide_eq_true e3, decide_eq_true e4]; rfl)) args
  have hown' : s'.vm.findClass own = some m.cls := by rw [hvm]; exact hown
  obtain ⟨sa, hsa⟩ := hZ'.2.2.2.2.1 _ htx
  obtain ⟨vm₁, cX, kX, hfX, hkX, -, -, X₁, st1⟩ := Y.newCold hx (own := own) (C := cls) (index := ik) (n := 6) hown' (hT' _ hk args) (hatoms _ (by simp [Bundle.ownAtoms])) (hT' _ hini args) (g := F0 m pc ls rest) rfl (by rw [hb]; exact d0) (Nat.le_refl _) (Nat.le_refl _)
  generalize hT1 : (T.setVm vm₁).pushCell { cls := cX, slots := kX.instanceTypes.map defaultValue, vm := .none } = T1 at X₁ st1
  have hcat : (Value.ref T.heap.size).category = 1 := rfl
  have hcellA : T1.heap[T.heap.size]? = some (freshCell cX kX) := by rw [← hT1]; exact State.heap_pushCell_size _ _
  have d3' : decode c.code (pc + 3) = .ok (.dup, 1) := by rw [hb]; exact d3
  have d4' : decode c.code (pc + 4) = .ok (.ldc is, 2) := by rw [hb]; exact d4
  obtain ⟨U, hsteps, hrun, hend, hW, hsame, ce, hce, hO⟩ := X₁.ctorThrowS hx htr (own := own) (cls := cls) (names := names) (ic := ic) hown' hcls hnames hatoms (fun x hx => nomatch hx) hfX hkX hcellA (by rw [hhp, hT0]; exact Nat.le_refl _) (msg := .ref sa) rfl
    (g := { method := m, pc := pc + 6, locals := ls, stack := .ref sa :: .ref T.heap.size :: .ref T.heap.size :: rest, locked := none }) rfl (hsz.trans hml.symm) rfl rfl (rest := rest) rfl
    (by rw [hb]; exact d6) (by rw [hb]; exact d9) (fun x hx => (hnt x hx).elim) hRf (by simp only [List.map_cons, List.sum_cons, hcat]; omega) hlocks
  have hWs : s.WarmedH U.vm := State.WarmedH.trans hW0 hW
  have hsize1 : U.heap.size = H.size + 1 := by
    have q1 : U.heap.size ≤ s'.heap.size + (0 + 1) := hsame.2.2.1
    have q2 : T.heap.size < U.heap.size := (Array.getElem?_eq_some_iff.mp hce).1
    rw [hhp] at q1
    rw [hT0] at q2
    omega
  have hold : ∀ q : Nat, q < H.size → U.heap[q]? = H[q]? := by
    intro q hq
    have hq' : q < s'.heap.size := by rw [hhp]; exact hq
    obtain ⟨c9, e1, e2, e3, e4⟩ := hsame.2.2.2.2.2 q _ (Array.getElem?_eq_getElem hq')
    have hslots : c9.slots = (s'.heap[q]).slots := Array.ext_getElem? fun i => e4 i (fun hm => nomatch hm)
    have h9 : c9 = s'.heap[q] := by rw [hslots] at e2; exact e2
    have e5 : U.heap[q]? = some c9 := e1
    rw [e5, h9, ← Array.getElem?_eq_getElem hq', hhp]
  have hcl : s.vm.findClass cls = some ce.cls := by
    have h9 := hO.cls
    rw [hvm] at h9
    exact h9
  have hall : s.sameButNew ({ U with vm := s.vm } : State) locs R.cells R.slots := by
    subst hs'
    obtain ⟨e1, e2⟩ := hsame
    rw [State.setFrames_setFrames] at e1
    have h2 : (T.setVm s.vm).sameButNew ({ U with vm := s.vm } : State) [] (0 + 1) (0 + 6) := ⟨e1, e2⟩
    have h3 := X.same.trans h2
    rw [List.append_nil] at h3
    exact h3.mono hRc hRs
  obtain ⟨g1, g2, g3, g4⟩ := hI
  have hI' : gI D s A (w.1, w.2 + 1) U.heap locs := ⟨by rw [hsize1, g1], fun a x hx => (g2 a x hx).kept (hold a (g2 a x hx).lt), ⟨by rw [hsize1]; exact Nat.le_trans g3.1 (Nat.le_succ _), fun q q1 q2 => (hold q (Nat.lt_of_lt_of_le q1 g3.1)).trans (g3.2.1 q q1 q2), g3.2.2⟩, g4⟩
  refine ⟨U, ?_, hthr cls (w.1, w.2 + 1) (Option.some.inj h).symm U T.heap.size ce locs hrun hend hWs hall hI' hce hO.vm hcl⟩
  refine st1 _ ?_
  show Steps p.tables e below (T1.setTop { method := m, pc := pc + 3, locals := ls, stack := .ref T.heap.size :: rest, locked := none }) _
  jvm_step X₁.here [X₁.here.top, hx, d3', Value.category]
  exact X₁.ldcString hx (own := own) (text := text) (index := is) (a := sa) hown' hsa.1 hsa.2
    (g := { method := m, pc := pc + 4, locals := ls, stack := .ref T.heap.size :: .ref T.heap.size :: rest, locked := none }) rfl d4' _ hsteps
end GT
end
section
theorem gw_ofI {l : Launch} {y : MethodName} {cc : ByteArray} {maxL : Nat} {rm : Room} {D : gD} {g0 : gG} {av : List Value} {w : gW} {r : (String ⊕ Int32) × gW} (hy : plainFor y = true) (hlen : (lg_sl av).length ≤ maxL) 
    (body : ∀ (p : Program) (e : Env) (s : State) (m : MethodId) (below : List Frame) (meth : Method) (c : Code) (ls : Array Slot) (args : Array Value) (A : Nat → Prop) (Q : State → Prop), p.tables.exec = Jvm.exec → c.code = cc → c.maxLocals = maxL → s.vm.findClass y.cls = some m.cls → meth.locks = false → meth.name = y.name → (∀ x ∈ c.exceptionTable.toList, False) → gT s → gK D s → gZ A s s.heap g0 → (∀ q : Nat, s.heap.size ≤ q → A q) → (∀ (v : Int32) (w1 : gW), r = (.inr v, w1) → ∀ (pc : Nat) (ls : Array Slot) (H : Heap) (locs : List Loc), decode cc pc = .ok (.ireturn, 1) → gI D s A w1 H locs → W p l e rm s m args below meth c H locs rm.cells rm.slots Q (F0 m pc ls [.int v])) → gEx p l e rm s m args below meth c Q D A r → gTh s below rm Q D A r → gI D s A w s.heap [] → lv_has ls maxL (lv_args 0 av) →
      W p l e rm s m args below meth c s.heap [] 0 0 Q (F0 m 0 ls [])) : gMet l y (.code y cc maxL (some .int)) rm D g0 av w (goI r) := by
  refine gw_of hy hlen ?_
  intro p e s m below meth c ls h1 h2 h3 h4 h5 h6 h7 h8 h9 h10 h11 h12 h13 h14
  exact body p e s m below meth c ls _ _ _ h1 h2 h4 h5 h6 h7 h8 h9 h10 h11 h12 (gw_retI h1 h2 h3 h6 r) (gw_exc (fun E w1 h => by rw [h]; rfl) h8 h6) (gw_thr (fun E w1 h => by rw [h]; rfl)) h13 h14
theorem gw_ofZ {l : Launch} {y : MethodName} {cc : ByteArray} {maxL : Nat} {rm : Room} {D : gD} {g0 : gG} {av : List Value} {w : gW} {r : (String ⊕ Int32) × gW} (hy : plainFor y = true) (hlen : (lg_sl av).length ≤ maxL) 
    (body : ∀ (p : Program) (e : Env) (s : State) (m : MethodId) (below : List Frame) (meth : Method) (c : Code) (ls : Array Slot) (args : Array Value) (A : Nat → Prop) (Q : State → Prop), p.tables.exec = Jvm.exec → c.code = cc → c.maxLocals = maxL → s.vm.findClass y.cls = some m.cls → meth.locks = false → meth.name = y.name → (∀ x ∈ c.exceptionTable.toList, False) → gT s → gK D s → gZ A s s.heap g0 → (∀ q : Nat, s.heap.size ≤ q → A q) → (∀ {v : Int32}, (v = 0 ∨ v = 1) → ∀ (v' : Int32) (w1 : gW), r = (.inr v, w1) → ∀ (pc : Nat) (ls : Array Slot) (H : Heap) (locs : List Loc), decode cc pc = .ok (.ireturn, 1) → gI D s A w1 H locs → W p l e rm s m args below meth c H locs rm.cells rm.slots Q (F0 m pc ls [.int v])) → gEx p l e rm s m args below meth c Q D A r → gTh s below rm Q D A r → gI D s A w s.heap [] → lv_has ls maxL (lv_args 0 av) →
      W p l e rm s m args below meth c s.heap [] 0 0 Q (F0 m 0 ls [])) : gMet l y (.code y cc maxL (some .boolean)) rm D g0 av w (goI r) := by
  refine gw_of hy hlen ?_
  intro p e s m below meth c ls h1 h2 h3 h4 h5 h6 h7 h8 h9 h10 h11 h12 h13 h14
  exact body p e s m below meth c ls _ _ _ h1 h2 h4 h5 h6 h7 h8 h9 h10 h11 h12 (gw_retZ h1 h2 h3 h6 r) (gw_exc (fun E w1 h => by rw [h]; rfl) h8 h6) (gw_thr (fun E w1 h => by rw [h]; rfl)) h13 h14
theorem gw_ofJ {l : Launch} {y : MethodName} {cc : ByteArray} {maxL : Nat} {rm : Room} {D : gD} {g0 : gG} {av : List Value} {w : gW} {r : (String ⊕ Int64) × gW} (hy : plainFor y = true) (hlen : (lg_sl av).length ≤ maxL) 
    (body : ∀ (p : Program) (e : Env) (s : State) (m : MethodId) (below : List Frame) (meth : Method) (c : Code) (ls : Array Slot) (args : Array Value) (A : Nat → Prop) (Q : State → Prop), p.tables.exec = Jvm.exec → c.code = cc → c.maxLocals = maxL → s.vm.findClass y.cls = some m.cls → meth.locks = false → meth.name = y.name → (∀ x ∈ c.exceptionTable.toList, False) → gT s → gK D s → gZ A s s.heap g0 → (∀ q : Nat, s.heap.size ≤ q → A q) → (∀ (v : Int64) (w1 : gW), r = (.inr v, w1) → ∀ (pc : Nat) (ls : Array Slot) (H : Heap) (locs : List Loc), decode cc pc = .ok (.lreturn, 1) → gI D s A w1 H locs → W p l e rm s m args below meth c H locs rm.cells rm.slots Q (F0 m pc ls [.long v])) → gEx p l e rm s m args below meth c Q D A r → gTh s below rm Q D A r → gI D s A w s.heap [] → lv_has ls maxL (lv_args 0 av) →
      W p l e rm s m args below meth c s.heap [] 0 0 Q (F0 m 0 ls [])) : gMet l y (.code y cc maxL (some .long)) rm D g0 av w (goJ r) := by
  refine gw_of hy hlen ?_
  intro p e s m below meth c ls h1 h2 h3 h4 h5 h6 h7 h8 h9 h10 h11 h12 h13 h14
  exact body p e s m below meth c ls _ _ _ h1 h2 h4 h5 h6 h7 h8 h9 h10 h11 h12 (gw_retJ h1 h2 h3 h6 r) (gw_exc (fun E w1 h => by rw [h]; rfl) h8 h6) (gw_thr (fun E w1 h => by rw [h]; rfl)) h13 h14
theorem gw_ofV {l : Launch} {y : MethodName} {cc : ByteArray} {maxL : Nat} {rm : Room} {D : gD} {g0 : gG} {av : List Value} {w : gW} {r : (String ⊕ Unit) × gW} (hy : plainFor y = true) (hlen : (lg_sl av).length ≤ maxL) 
    (body : ∀ (p : Program) (e : Env) (s : State) (m : MethodId) (below : List Frame) (meth : Method) (c : Code) (ls : Array Slot) (args : Array Value) (A : Nat → Prop) (Q : State → Prop), p.tables.exec = Jvm.exec → c.code = cc → c.maxLocals = maxL → s.vm.findClass y.cls = some m.cls → meth.locks = false → meth.name = y.name → (∀ x ∈ c.exceptionTable.toList, False) → gT s → gK D s → gZ A s s.heap g0 → (∀ q : Nat, s.heap.size ≤ q → A q) → (∀ (v : Unit) (w1 : gW), r = (.inr v, w1) → ∀ (pc : Nat) (ls : Array Slot) (H : Heap) (locs : List Loc), decode cc pc = .ok (.return_, 1) → gI D s A w1 H locs → W p l e rm s m args below meth c H locs rm.cells rm.slots Q (F0 m pc ls [])) → gEx p l e rm s m args below meth c Q D A r → gTh s below rm Q D A r → gI D s A w s.heap [] → lv_has ls maxL (lv_args 0 av) →
      W p l e rm s m args below meth c s.heap [] 0 0 Q (F0 m 0 ls [])) : gMet l y (.code y cc maxL none) rm D g0 av w (goV r) := by
  refine gw_of hy hlen ?_
  intro p e s m below meth c ls h1 h2 h3 h4 h5 h6 h7 h8 h9 h10 h11 h12 h13 h14
  exact body p e s m below meth c ls _ _ _ h1 h2 h4 h5 h6 h7 h8 h9 h10 h11 h12 (gw_retV h1 h2 h3 h6 r) (gw_exc (fun E w1 h => by rw [h]; rfl) h8 h6) (gw_thr (fun E w1 h => by rw [h]; rfl)) h13 h14
theorem gw_ofA {l : Launch} {y : MethodName} {cc : ByteArray} {maxL : Nat} {rt : FieldType} {rm : Room} {D : gD} {g0 : gG} {av : List Value} {w : gW} {r : (String ⊕ Nat) × gW} (hy : plainFor y = true) (hlen : (lg_sl av).length ≤ maxL) (hrt : (∃ n, rt = .object n) ∨ ∃ t, rt = .array t)
    (body : ∀ (p : Program) (e : Env) (s : State) (m : MethodId) (below : List Frame) (meth : Method) (c : Code) (ls : Array Slot) (args : Array Value) (A : Nat → Prop) (Q : State → Prop), p.tables.exec = Jvm.exec → c.code = cc → c.maxLocals = maxL → s.vm.findClass y.cls = some m.cls → meth.locks = false → meth.name = y.name → (∀ x ∈ c.exceptionTable.toList, False) → gT s → gK D s → gZ A s s.heap g0 → (∀ q : Nat, s.heap.size ≤ q → A q) → (∀ (v : Nat) (w1 : gW), r = (.inr v, w1) → ∀ (pc : Nat) (ls : Array Slot) (H : Heap) (locs : List Loc), decode cc pc = .ok (.areturn, 1) → gI D s A w1 H locs → W p l e rm s m args below meth c H locs rm.cells rm.slots Q (F0 m pc ls [.ref v])) → gEx p l e rm s m args below meth c Q D A r → gTh s below rm Q D A r → gI D s A w s.heap [] → lv_has ls maxL (lv_args 0 av) →
      W p l e rm s m args below meth c s.heap [] 0 0 Q (F0 m 0 ls [])) : gMet l y (.code y cc maxL (some rt)) rm D g0 av w (goA r) := by
  refine gw_of hy hlen ?_
  intro p e s m below meth c ls h1 h2 h3 h4 h5 h6 h7 h8 h9 h10 h11 h12 h13 h14
  exact body p e s m below meth c ls _ _ _ h1 h2 h4 h5 h6 h7 h8 h9 h10 h11 h12 (gw_retA h1 h2 h3 hrt h6 r) (gw_exc (fun E w1 h => by rw [h]; rfl) h8 h6) (gw_thr (fun E w1 h => by rw [h]; rfl)) h13 h14
theorem gat {L : List Cond} (h : ∀ z ∈ L, gno z = true → z ∈ lw_tbl ∧ gNest z = true) : ∀ z ∈ L, gno z = true → z ∈ gAll := fun z hz hg => List.mem_filter.mpr (h z hz hg)
theorem at_IAE : ∀ z ∈ Bundle.ownAtoms "BodySolids" 256 "java/lang/IllegalArgumentException" ["java/lang/RuntimeException", "java/lang/Exception"], gno z = true → z ∈ gAll := gat (by decide +kernel)
theorem at_ISE : ∀ z ∈ Bundle.ownAtoms "BodySolids" 224 "java/lang/IllegalStateException" ["java/lang/RuntimeException", "java/lang/Exception"], gno z = true → z ∈ gAll := gat (by decide +kernel)
theorem at_IOB : ∀ z ∈ Bundle.ownAtoms "BodySolids" 251 "java/lang/IndexOutOfBoundsException" ["java/lang/RuntimeException", "java/lang/Exception"], gno z = true → z ∈ gAll := gat (by decide +kernel)
end
section
/-! ===== a method with handlers: what its callee throws is caught ===== -/
def gtry {α β : Type} (x : gX α) (C : String → gW → gX β) (k : α → gW → gX β) : gX β := match x with
  | none => none
  | some (.inl E, w) => C E w
  | some (.inr v, w) => k v w
theorem gsomeT {α β : Type} {x : gX α} {C : String → gW → gX β} {k : α → gW → gX β} {r : (String ⊕ β) × gW} (h : gtry x C k = some r) : ∃ o, x = some o := by
  cases x with
  | none => cases h
  | some o => exact ⟨o, rfl⟩
theorem gcs {β : Type} {E n : String} {x y : Option β} {r : β} (h : (if E = n then x else y) = some r) : (E = n ∧ x = some r) ∨ (E ≠ n ∧ y = some r) := by
  split at h
  · rename_i hc
    exact Or.inl ⟨hc, h⟩
  · rename_i hc
    exact Or.inr ⟨hc, h⟩
section GCa
variable {e : Env} {f : JFrame} {a : Addr}
/-- one row of the table is looked at: its class is linked, cold or warm; it takes the object, or the search goes on -/
theorem gca_row {s0 S : State} {x : ExceptionTableEntry} {t : List ExceptionTableEntry} {cl : ClassId} {cell : Cell} (hW : s0.WarmedH S.vm) (hx : covers x f.pc = true) (h0 : x.catchType ≠ 0) (hl : s0.vm.ClassLinks e.platform f.method.cls x.catchType cl) (hcell : S.heap[a]? = some cell) (hobj : ∀ k, cell.vm ≠ .statics k) (hk0 : ∃ k, s0.vm.classes[cell.cls]? = some k) :
    ∃ vm', s0.WarmedH vm' ∧ ∀ (Q : Handler → Pre) (E : CtlPost) (d : Bool) (acts : List Action), wp (findHandler.go f a (x :: t)) Q E e d acts S ↔ if s0.vm.assignable cell.cls cl = true then Q (.found x.handlerPc) d acts (S.setVm vm') else wp (findHandler.go f a t) Q E e d acts (S.setVm vm') := by
  obtain ⟨ha, ht⟩ := (resolveClass_links e.toSetting (hW.classLinks hl)).op (op := VmOp.resolveClass f.method.cls x.catchType) rfl
  obtain ⟨dk, _, _, kt, hd, _, _, _, _, hkt, _, hopen⟩ := hl.here
  have hW' := hW.noted hd hopen (State.rightAt_cls hl)
  obtain ⟨k0, hk0⟩ := hk0
  obtain ⟨k1, hk1, -⟩ := hW'.alike.2.2 _ _ hk0
  obtain ⟨k2, hk2, -⟩ := hW'.alike.2.2 _ _ hkt
  have has := hW'.alike.assignable cell.cls cl
  refine ⟨_, hW', fun Q E d acts => ?_⟩
  simp only [covers] at hx
  cases hfit : s0.vm.assignable cell.cls cl <;> rw [hfit] at has <;> simp [findHandler.go, hx, h0, ha, ht, hcell, hobj, hk1, hk2, has, VmOp.dirties, VmOp.acts]
/-- the step into the handler, the tables warmer -/
theorem gca_step {tb : Tables} {s target : State} {g : JFrame} {c : Code} {below : List Frame} {pc : Nat} {vm' : Vm} (h : At s g.method c below)
    (hf : ∀ (Q : Handler → Pre) (E : CtlPost) (d : Bool) (acts : List Action), wp (findHandler g a) Q E e d acts ((s.setTop g).pushFrame (.throwing a)) ↔ Q (.found pc) d acts (((s.setTop g).pushFrame (.throwing a)).setVm vm'))
    (hrest : Steps tb e below ((s.setVm vm').setTop { g with pc := pc, stack := [.ref a] }) target) : Steps tb e below ((s.setTop g).pushFrame (.throwing a)) target := by
  obtain ⟨hgo, hw⟩ := h.throwing a
  have key : ∀ r, (stepThrowing e ((s.setTop g).pushFrame (.throwing a)) a (.java g :: r)).Is ((((s.setTop g).pushFrame (.throwing a)).setVm vm').setFrames (.java { g with pc := pc, stack := [.ref a] } :: r)) [] := by
    intro r
    simp only [stepThrowing, searchFrame, vmDo]
    generalize hr : Sem.go _ e false [] _ = res
    obtain ⟨as, rfl, ha⟩ := Sem.eq_ok_of hr (a := Handler.found pc) (s' := ((s.setTop g).pushFrame (.throwing a)).setVm vm') (acts' := []) (by simp [hf _ _ _ _])
    exact ⟨rfl, ha⟩
  refine Steps.head hgo hw ?_
  rw [stepThread_throwing (frames_entered h.top _), (key _).1]
  obtain ⟨g0, hg⟩ := Option.isSome_iff_exists.mp h.top
  obtain ⟨r, hr⟩ := State.topJava?_eq_some.mp hg
  have hr' : (s.setVm vm').frames = .java g0 :: r := hr
  rw [State.setTop_of_frames _ hr'] at hrest
  have e1 : ∀ (u : State) (F G : List Frame), ((u.setFrames F).setVm vm').setFrames G = (u.setVm vm').setFrames G := by
    intro u F G
    rw [show (u.setFrames F).setVm vm' = (u.setVm vm').setFrames F from rfl, State.setFrames_setFrames]
  rw [hr, List.tail_cons, State.pushFrame, e1, State.setTop_of_frames _ hr, e1]
  exact hrest
end GCa
theorem gself (vm : Vm) (c : ClassId) : vm.assignable c c = true := by
  have h : ∀ n : Nat, vm.assignableAux (n + 1) c c = true := fun n => by
    rw [Vm.assignableAux, beq_self_eq_true, Bool.true_or]
  exact h 255
section GCb
variable {p : Program} {l : Launch} {e : Env} {R : Room} {s : State} {m : MethodId} {args : Array Value} {below : List Frame} {meth : Method} {c : Code} {H : Heap} {locs : List Loc} {cells slots : Nat} {Q : State → Prop}
variable {cc : ByteArray} {pc nL : Nat} {ls : Array Slot} {rest st0 : List Value} {D : gD} {A : Nat → Prop} {w : gW} {g0 : gG} {rm : Room}
/-- the first row takes it -/
theorem gw_catch1 {own E : String} {a1 b1 h1 t1 : Nat} {hh : List (Nat × Nat × Nat × Nat)} {q : Addr} {ce : Cell} (hown : s.vm.findClass own = some m.cls) (hT : gT s) (htab : c.exceptionTable.toList.map (fun h => (h.startPc, h.endPc, h.handlerPc, h.catchType)) = (a1, b1, h1, t1) :: hh) (hl : Cond.classLink own t1 E ∈ gAll) (h0 : t1 ≠ 0) (hc1 : a1 ≤ pc ∧ pc < b1)
    (hq : H[q]? = some ce) (hv : ce.vm = .none) (hE : s.vm.findClass E = some ce.cls) (k : W p l e R s m args below meth c H locs cells slots Q (F0 m h1 ls [.ref q])) : gXW p l e R s m args below meth c H locs cells slots Q (F0 m pc ls rest) q := by
  intro T hT0 X
  obtain ⟨x, xs, hl1, hx1, -⟩ := List.map_eq_cons_iff.mp htab
  obtain ⟨rfl, rfl, rfl, rfl⟩ : x.startPc = a1 ∧ x.endPc = b1 ∧ x.handlerPc = h1 ∧ x.catchType = t1 := by simpa using hx1
  have hpl : e.platform.magicAccessors = ({} : Platform).magicAccessors := by rw [X.admits.platform]
  obtain ⟨cl, hcl, hlk⟩ := Cond.classLink_spec hown (hT _ hl args) e.platform hpl
  cases hE.symm.trans hcl
  obtain ⟨vm', hW', hf⟩ := gca_row (e := e) (f := F0 m pc ls rest) (a := q) (s0 := s) (S := (T.setTop (F0 m pc ls rest)).pushFrame (.throwing q)) (t := xs) X.warmed (by simp only [covers]; simpa using hc1) h0 hlk (show T.heap[q]? = some ce by rw [hT0]; exact hq) (by rw [hv]; intro k h; cases h) (Vm.classAt_of_findClass hE)
  have has : s.vm.assignable ce.cls ce.cls = true := gself _ _
  obtain ⟨t, a1, b1⟩ := k (T.setVm vm') hT0 (X.noted hW')
  refine ⟨t, gca_step (vm' := vm') (pc := x.handlerPc) X.here (fun Q E d acts => ?_) a1, b1⟩
  rw [W.findHandler_eq (meth := meth) (code := c) X.method' X.code, hl1, hf Q E d acts, if_pos has]
/-- the first row does not take it, the second does -/
theorem gw_catch2 {own E E1 : String} {a1 b1 h1 t1 a2 b2 h2 t2 : Nat} {hh : List (Nat × Nat × Nat × Nat)} {q : Addr} {ce : Cell} (hown : s.vm.findClass own = some m.cls) (hT : gT s) (hZ : gZ A s s.heap g0) (htab : c.exceptionTable.toList.map (fun h => (h.startPc, h.endPc, h.handlerPc, h.catchType)) = (a1, b1, h1, t1) :: (a2, b2, h2, t2) :: hh) (hl : Cond.classLink own t1 E1 ∈ gAll) (h0 : t1 ≠ 0) (hc1 : a1 ≤ pc ∧ pc < b1) (hl2 : Cond.classLink own t2 E ∈ gAll) (h02 : t2 ≠ 0) (hc2 : a2 ≤ pc ∧ pc < b2) (hno : (E, E1) ∈ [("java/lang/IllegalArgumentException", "java/lang/IndexOutOfBoundsException"), ("java/lang/IllegalStateException", "java/lang/IndexOutOfBoundsException")])
    (hq : H[q]? = some ce) (hv : ce.vm = .none) (hE : s.vm.findClass E = some ce.cls) (k : W p l e R s m args below meth c H locs cells slots Q (F0 m h2 ls [.ref q])) : gXW p l e R s m args below meth c H locs cells slots Q (F0 m pc ls rest) q := by
  intro T hT0 X
  obtain ⟨x, xs, hl1, hx1, hx9⟩ := List.map_eq_cons_iff.mp htab
  obtain ⟨y, ys, rfl, hy1, -⟩ := List.map_eq_cons_iff.mp hx9
  obtain ⟨rfl, rfl, rfl, rfl⟩ : x.startPc = a1 ∧ x.endPc = b1 ∧ x.handlerPc = h1 ∧ x.catchType = t1 := by simpa using hx1
  obtain ⟨rfl, rfl, rfl, rfl⟩ : y.startPc = a2 ∧ y.endPc = b2 ∧ y.handlerPc = h2 ∧ y.catchType = t2 := by simpa using hy1
  have hpl : e.platform.magicAccessors = ({} : Platform).magicAccessors := by rw [X.admits.platform]
  obtain ⟨cl, hcl, hlk⟩ := Cond.classLink_spec hown (hT _ hl args) e.platform hpl
  obtain ⟨cl2, hcl2, hlk2⟩ := Cond.classLink_spec hown (hT _ hl2 args) e.platform hpl
  cases hE.symm.trans hcl2
  have hn := hZ.2.2.2.2.2 (E, E1) hno _ _ hE hcl
  have hobj : ∀ k, ce.vm ≠ .statics k := by rw [hv]; intro k h; cases h
  obtain ⟨vm1, hW1, hf1⟩ := gca_row (e := e) (f := F0 m pc ls rest) (a := q) (s0 := s) (S := (T.setTop (F0 m pc ls rest)).pushFrame (.throwing q)) (t := y :: ys) X.warmed (by simp only [covers]; simpa using hc1) h0 hlk (show T.heap[q]? = some ce by rw [hT0]; exact hq) hobj (Vm.classAt_of_findClass hE)
  obtain ⟨vm', hW', hf⟩ := gca_row (e := e) (f := F0 m pc ls rest) (a := q) (s0 := s) (S := ((T.setTop (F0 m pc ls rest)).pushFrame (.throwing q)).setVm vm1) (t := ys) hW1 (by simp only [covers]; simpa using hc2) h02 hlk2 (show T.heap[q]? = some ce by rw [hT0]; exact hq) hobj (Vm.classAt_of_findClass hE)
  have has : s.vm.assignable ce.cls ce.cls = true := gself _ _
  obtain ⟨t, a1, b1⟩ := k (T.setVm vm') hT0 (X.noted hW')
  refine ⟨t, gca_step (vm' := vm') (pc := y.handlerPc) X.here (fun Q E d acts => ?_) a1, b1⟩
  rw [W.findHandler_eq (meth := meth) (code := c) X.method' X.code, hl1, hf1 Q E d acts, if_neg (by rw [hn]; decide), hf Q E d acts, if_pos has]
  rfl
theorem gw_tryI {β : Type} {X : gX Int32} {K : Int32 → gW → gX β} {C : String → gW → gX β} {r : (String ⊕ β) × gW} {ov : (String ⊕ Int32) × gW} (e1 : X = some ov) (h : gtry X C K = some r) (hr : gRun p l e R s m args below meth c H locs cells slots (F0 m pc ls st0) rest rm D w (goI ov)) (hI : gI D s A w H locs) (hA : ∀ q : Nat, s.heap.size ≤ q → A q)
    (hcat : ∀ (E : String) (w1 : gW) (H1 : Heap) (locs1 : List Loc) (q : Addr) (ce : Cell), C E w1 = some r → gI D s A w1 H1 locs1 → H1[q]? = some ce → ce.vm = .none → s.vm.findClass E = some ce.cls → gXW p l e R s m args below meth c H1 locs1 (cells + rm.cells) (slots + rm.slots) Q (F0 m pc ls rest) q)
    (kk : ∀ (v : Int32) (w1 : gW) (H1 : Heap) (locs1 : List Loc), K v w1 = some r → gI D s A w1 H1 locs1 → W p l e R s m args below meth c H1 locs1 (cells + rm.cells) (slots + rm.slots) Q (F0 m (pc + 3) ls (.int v :: rest))) : W p l e R s m args below meth c H locs cells slots Q (F0 m pc ls st0) := by
  subst e1
  obtain ⟨ov, w1⟩ := ov
  intro T hT X
  obtain ⟨T', L, X', hL, hE, hout⟩ := hr T hT X
  cases ov with
  | inr v =>
    obtain ⟨t2, a1, b1⟩ := kk v w1 T'.heap (locs ++ L) h (hI.after hA hE hL) T' rfl X'
    exact ⟨t2, hout t2 a1, b1⟩
  | inl E =>
    obtain ⟨q, ce, h1, h2, h3, h4⟩ := hout
    obtain ⟨t2, a1, b1⟩ := hcat E w1 T'.heap (locs ++ L) q ce h (hI.after hA hE hL) h1 h2 h3 T' rfl X'
    exact ⟨t2, h4.trans a1, b1⟩
theorem gw_tryJ {β : Type} {X : gX Int64} {K : Int64 → gW → gX β} {C : String → gW → gX β} {r : (String ⊕ β) × gW} {ov : (String ⊕ Int64) × gW} (e1 : X = some ov) (h : gtry X C K = some r) (hr : gRun p l e R s m args below meth c H locs cells slots (F0 m pc ls st0) rest rm D w (goJ ov)) (hI : gI D s A w H locs) (hA : ∀ q : Nat, s.heap.size ≤ q → A q)
    (hcat : ∀ (E : String) (w1 : gW) (H1 : Heap) (locs1 : List Loc) (q : Addr) (ce : Cell), C E w1 = some r → gI D s A w1 H1 locs1 → H1[q]? = some ce → ce.vm = .none → s.vm.findClass E = some ce.cls → gXW p l e R s m args below meth c H1 locs1 (cells + rm.cells) (slots + rm.slots) Q (F0 m pc ls rest) q)
    (kk : ∀ (v : Int64) (w1 : gW) (H1 : Heap) (locs1 : List Loc), K v w1 = some r → gI D s A w1 H1 locs1 → W p l e R s m args below meth c H1 locs1 (cells + rm.cells) (slots + rm.slots) Q (F0 m (pc + 3) ls (.long v :: rest))) : W p l e R s m args below meth c H locs cells slots Q (F0 m pc ls st0) := by
  subst e1
  obtain ⟨ov, w1⟩ := ov
  intro T hT X
  obtain ⟨T', L, X', hL, hE, hout⟩ := hr T hT X
  cases ov with
  | inr v =>
    obtain ⟨t2, a1, b1⟩ := kk v w1 T'.heap (locs ++ L) h (hI.after hA hE hL) T' rfl X'
    exact ⟨t2, hout t2 a1, b1⟩
  | inl E =>
    obtain ⟨q, ce, h1, h2, h3, h4⟩ := hout
    obtain ⟨t2, a1, b1⟩ := hcat E w1 T'.heap (locs ++ L) q ce h (hI.after hA hE hL) h1 h2 h3 T' rfl X'
    exact ⟨t2, h4.trans a1, b1⟩
end GCb
/-- a contract out of a walk of a body with handlers -/
theorem gw_ofW {l : Launch} {y : MethodName} {cc : ByteArray} {maxL : Nat} {hh : List (Nat × Nat × Nat × Nat)} {rm : Room} {D : gD} {g0 : gG} {av : List Value} {w : gW} {r : (String ⊕ Int32) × gW} (hy : plainFor y = true) (hlen : (lg_sl av).length ≤ maxL)
    (body : ∀ (p : Program) (e : Env) (s : State) (m : MethodId) (below : List Frame) (meth : Method) (c : Code) (ls : Array Slot) (args : Array Value) (A : Nat → Prop) (Q : State → Prop), p.tables.exec = Jvm.exec → c.code = cc → c.maxLocals = maxL → s.vm.findClass y.cls = some m.cls → c.exceptionTable.toList.map (fun h => (h.startPc, h.endPc, h.handlerPc, h.catchType)) = hh → gT s → gK D s → gZ A s s.heap g0 → (∀ q : Nat, s.heap.size ≤ q → A q) → (∀ (v : Int32) (w1 : gW), r = (.inr v, w1) → ∀ (pc : Nat) (ls : Array Slot) (H : Heap) (locs : List Loc), decode cc pc = .ok (.ireturn, 1) → gI D s A w1 H locs → W p l e rm s m args below meth c H locs rm.cells rm.slots Q (F0 m pc ls [.int v])) → gI D s A w s.heap [] → lv_has ls maxL (lv_args 0 av) →
      W p l e rm s m args below meth c s.heap [] 0 0 Q (F0 m 0 ls [])) : gMet l y (.codeWith y cc maxL (some .int) hh) rm D g0 av w (goI r) := by
  refine MetFree.of_bodySF (code := cc) (maxLocals := maxL) (ret := some .int) hy ?_ ?_
  · intro args s m h hn
    obtain ⟨m9, meth, c, hn9, h1, h2, h3, h4, -, h5, h6, -⟩ := Cond.codeWith_spec (atoms_spec (ws := [.codeWith y cc maxL (some .int) hh]) h _ List.mem_cons_self)
    cases hn.symm.trans hn9
    exact ⟨meth, c, h1, h2, h3, h4, h5, h6⟩
  · intro p e s m args below meth c s₁ B hml hP _
    obtain ⟨rfl, q1, q2, q3, q4, q5⟩ := hP
    have hh0 : s₁.heap = s.heap := by rw [B.state]; rfl
    have htab : c.exceptionTable.toList.map (fun h => (h.startPc, h.endPc, h.handlerPc, h.catchType)) = hh := by
      obtain ⟨m9, meth9, c9, hn9, h1, h2, -, -, h7, -⟩ := Cond.codeWith_spec (atoms_spec (ws := [.codeWith y cc maxL (some .int) hh]) B.pre _ List.mem_cons_self)
      cases B.named.symm.trans hn9
      cases Option.some.inj (h1.symm.trans B.method)
      cases Option.some.inj (h2.symm.trans (Stand.of_body B).code)
      exact h7
    have hl := lv_entry av (n := maxL) hlen
    have hW := body p e s m below meth c _ _ _ (gMQ below D w (goI r) rm.cells rm.slots av.toArray s) B.exec B.bytes hml (findClass_of_methodNamed B.named) htab q4 q3 q5 (fun q hq => Or.inr (by rw [← q1]; exact hq)) (gw_retI B.exec B.bytes B.returns B.notSynchronized r) ⟨q1, q2, va_S.rf, fun a e he hr => Or.inl ⟨e, he, hr⟩⟩ hl
    rw [← lg_entry_eq] at hW
    obtain ⟨t, a1, oc, b1, b2, b3⟩ := hW s₁ hh0 (Stand.of_body B)
    exact ⟨t, oc, a1, b1, b2, b3⟩
end
