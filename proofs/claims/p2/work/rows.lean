section
-- ===== PART A: goes FIRST, ahead of the names: the tables' words, and 'selects' of the private methods out of them =====
/-- a private method of a class that the tables say can be made, by its rows of tables_1 -/
def lw_okq (q : MethodName × Nat) : Prop := (q.1.cls ≠ "java/lang/invoke/MethodHandle" ∧ q.1.cls ≠ "java/lang/invoke/VarHandle") ∧ Cond.instantiable q.1.cls q.2 ∈ tables_1 ∧ Cond.privateMethod q.1 ∈ tables_1 ∧ Cond.instanceMethod q.1 ∈ tables_1
theorem lw_p0 : lw_okq (⟨"BodySolids", "addBody", "(LBodySolids$Body;)I"⟩, 10) := ⟨⟨by decide +kernel, by decide +kernel⟩, List.mem_of_getElem? (i := 25) (by decide +kernel), List.mem_of_getElem? (i := 199) (by decide +kernel), List.mem_of_getElem? (i := 200) (by decide +kernel)⟩
theorem lw_p1 : lw_okq (⟨"java/util/ArrayList", "add", "(Ljava/lang/Object;[Ljava/lang/Object;I)V"⟩, 3) := ⟨⟨by decide +kernel, by decide +kernel⟩, List.mem_of_getElem? (i := 40) (by decide +kernel), List.mem_of_getElem? (i := 207) (by decide +kernel), List.mem_of_getElem? (i := 208) (by decide +kernel)⟩
theorem lw_p2 : lw_okq (⟨"java/util/ArrayList", "grow", "()[Ljava/lang/Object;"⟩, 3) := ⟨⟨by decide +kernel, by decide +kernel⟩, List.mem_of_getElem? (i := 40) (by decide +kernel), List.mem_of_getElem? (i := 211) (by decide +kernel), List.mem_of_getElem? (i := 212) (by decide +kernel)⟩
theorem lw_p3 : lw_okq (⟨"java/util/ArrayList", "grow", "(I)[Ljava/lang/Object;"⟩, 3) := ⟨⟨by decide +kernel, by decide +kernel⟩, List.mem_of_getElem? (i := 40) (by decide +kernel), List.mem_of_getElem? (i := 215) (by decide +kernel), List.mem_of_getElem? (i := 216) (by decide +kernel)⟩
theorem lw_p4 : lw_okq (⟨"BodySolids", "relation", "(II)I"⟩, 10) := ⟨⟨by decide +kernel, by decide +kernel⟩, List.mem_of_getElem? (i := 25) (by decide +kernel), List.mem_of_getElem? (i := 265) (by decide +kernel), List.mem_of_getElem? (i := 266) (by decide +kernel)⟩
theorem lw_p5 : lw_okq (⟨"BodySolids", "relationOfLayouts", "()I"⟩, 10) := ⟨⟨by decide +kernel, by decide +kernel⟩, List.mem_of_getElem? (i := 25) (by decide +kernel), List.mem_of_getElem? (i := 322) (by decide +kernel), List.mem_of_getElem? (i := 323) (by decide +kernel)⟩
theorem lw_p6 : lw_okq (⟨"BodySolids", "breaksSome", "(LBodySolids$Placement;)Z"⟩, 10) := ⟨⟨by decide +kernel, by decide +kernel⟩, List.mem_of_getElem? (i := 25) (by decide +kernel), List.mem_of_getElem? (i := 367) (by decide +kernel), List.mem_of_getElem? (i := 368) (by decide +kernel)⟩
theorem lw_p7 : lw_okq (⟨"BodySolids", "bodyAt", "(I)LBodySolids$Body;"⟩, 10) := ⟨⟨by decide +kernel, by decide +kernel⟩, List.mem_of_getElem? (i := 25) (by decide +kernel), List.mem_of_getElem? (i := 389) (by decide +kernel), List.mem_of_getElem? (i := 390) (by decide +kernel)⟩
theorem lw_p8 : lw_okq (⟨"java/lang/Throwable", "fillInStackTrace", "(I)Ljava/lang/Throwable;"⟩, 6) := ⟨⟨by decide +kernel, by decide +kernel⟩, List.mem_of_getElem? (i := 434) (by decide +kernel), List.mem_of_getElem? (i := 432) (by decide +kernel), List.mem_of_getElem? (i := 433) (by decide +kernel)⟩
theorem lw_p9 : lw_okq (⟨"BodySolids", "forgetRelationsOf", "(LBodySolids$Body;)V"⟩, 10) := ⟨⟨by decide +kernel, by decide +kernel⟩, List.mem_of_getElem? (i := 25) (by decide +kernel), List.mem_of_getElem? (i := 513) (by decide +kernel), List.mem_of_getElem? (i := 514) (by decide +kernel)⟩
theorem lw_p10 : lw_okq (⟨"BodySolids", "forgetRelationsAt", "(I)V"⟩, 10) := ⟨⟨by decide +kernel, by decide +kernel⟩, List.mem_of_getElem? (i := 25) (by decide +kernel), List.mem_of_getElem? (i := 517) (by decide +kernel), List.mem_of_getElem? (i := 518) (by decide +kernel)⟩
theorem lw_p11 : lw_okq (⟨"BodySolids", "cornersMakePolygon", "()Z"⟩, 10) := ⟨⟨by decide +kernel, by decide +kernel⟩, List.mem_of_getElem? (i := 25) (by decide +kernel), List.mem_of_getElem? (i := 544) (by decide +kernel), List.mem_of_getElem? (i := 545) (by decide +kernel)⟩
theorem lw_p12 : lw_okq (⟨"BodySolids", "othersLieLeftOfSide", "(II)Z"⟩, 10) := ⟨⟨by decide +kernel, by decide +kernel⟩, List.mem_of_getElem? (i := 25) (by decide +kernel), List.mem_of_getElem? (i := 548) (by decide +kernel), List.mem_of_getElem? (i := 549) (by decide +kernel)⟩
theorem lw_p13 : lw_okq (⟨"BodySolids", "turnAt", "(III)J"⟩, 10) := ⟨⟨by decide +kernel, by decide +kernel⟩, List.mem_of_getElem? (i := 25) (by decide +kernel), List.mem_of_getElem? (i := 552) (by decide +kernel), List.mem_of_getElem? (i := 553) (by decide +kernel)⟩
theorem lw_p14 : lw_okq (⟨"BodySolids", "twiceAreaOfCorners", "()J"⟩, 10) := ⟨⟨by decide +kernel, by decide +kernel⟩, List.mem_of_getElem? (i := 25) (by decide +kernel), List.mem_of_getElem? (i := 557) (by decide +kernel), List.mem_of_getElem? (i := 558) (by decide +kernel)⟩
theorem lw_p15 : lw_okq (⟨"BodySolids", "placementAt", "(I)LBodySolids$Placement;"⟩, 10) := ⟨⟨by decide +kernel, by decide +kernel⟩, List.mem_of_getElem? (i := 25) (by decide +kernel), List.mem_of_getElem? (i := 635) (by decide +kernel), List.mem_of_getElem? (i := 636) (by decide +kernel)⟩
def lw_privs_1 : List (MethodName × Nat) := [(⟨"BodySolids", "addBody", "(LBodySolids$Body;)I"⟩, 10), (⟨"java/util/ArrayList", "add", "(Ljava/lang/Object;[Ljava/lang/Object;I)V"⟩, 3), (⟨"java/util/ArrayList", "grow", "()[Ljava/lang/Object;"⟩, 3), (⟨"java/util/ArrayList", "grow", "(I)[Ljava/lang/Object;"⟩, 3), (⟨"BodySolids", "relation", "(II)I"⟩, 10), (⟨"BodySolids", "relationOfLayouts", "()I"⟩, 10), (⟨"BodySolids", "breaksSome", "(LBodySolids$Placement;)Z"⟩, 10), (⟨"BodySolids", "bodyAt", "(I)LBodySolids$Body;"⟩, 10), (⟨"java/lang/Throwable", "fillInStackTrace", "(I)Ljava/lang/Throwable;"⟩, 6), (⟨"BodySolids", "forgetRelationsOf", "(LBodySolids$Body;)V"⟩, 10), (⟨"BodySolids", "forgetRelationsAt", "(I)V"⟩, 10), (⟨"BodySolids", "cornersMakePolygon", "()Z"⟩, 10), (⟨"BodySolids", "othersLieLeftOfSide", "(II)Z"⟩, 10), (⟨"BodySolids", "turnAt", "(III)J"⟩, 10), (⟨"BodySolids", "twiceAreaOfCorners", "()J"⟩, 10), (⟨"BodySolids", "placementAt", "(I)LBodySolids$Placement;"⟩, 10)]
theorem lw_r1 : ∀ q ∈ lw_privs_1, lw_okq q := List.forall_mem_cons.mpr ⟨lw_p0, List.forall_mem_cons.mpr ⟨lw_p1, List.forall_mem_cons.mpr ⟨lw_p2, List.forall_mem_cons.mpr ⟨lw_p3, List.forall_mem_cons.mpr ⟨lw_p4, List.forall_mem_cons.mpr ⟨lw_p5, List.forall_mem_cons.mpr ⟨lw_p6, List.forall_mem_cons.mpr ⟨lw_p7, List.forall_mem_cons.mpr ⟨lw_p8, List.forall_mem_cons.mpr ⟨lw_p9, List.forall_mem_cons.mpr ⟨lw_p10, List.forall_mem_cons.mpr ⟨lw_p11, List.forall_mem_cons.mpr ⟨lw_p12, List.forall_mem_cons.mpr ⟨lw_p13, List.forall_mem_cons.mpr ⟨lw_p14, List.forall_mem_cons.mpr ⟨lw_p15, fun _ h => absurd h List.not_mem_nil⟩⟩⟩⟩⟩⟩⟩⟩⟩⟩⟩⟩⟩⟩⟩⟩
theorem lw_p16 : lw_okq (⟨"BodySolids", "sectionAnswer", "(III)J"⟩, 10) := ⟨⟨by decide +kernel, by decide +kernel⟩, List.mem_of_getElem? (i := 25) (by decide +kernel), List.mem_of_getElem? (i := 720) (by decide +kernel), List.mem_of_getElem? (i := 721) (by decide +kernel)⟩
theorem lw_p17 : lw_okq (⟨"BodySolidsModel", "isBody", "(I)Z"⟩, 27) := ⟨⟨by decide +kernel, by decide +kernel⟩, List.mem_of_getElem? (i := 732) (by decide +kernel), List.mem_of_getElem? (i := 843) (by decide +kernel), List.mem_of_getElem? (i := 844) (by decide +kernel)⟩
theorem lw_p18 : lw_okq (⟨"BodySolidsModel", "fresh", "(II)I"⟩, 27) := ⟨⟨by decide +kernel, by decide +kernel⟩, List.mem_of_getElem? (i := 732) (by decide +kernel), List.mem_of_getElem? (i := 847) (by decide +kernel), List.mem_of_getElem? (i := 848) (by decide +kernel)⟩
theorem lw_p19 : lw_okq (⟨"BodySolidsModel", "tell", "(IIJ)V"⟩, 27) := ⟨⟨by decide +kernel, by decide +kernel⟩, List.mem_of_getElem? (i := 732) (by decide +kernel), List.mem_of_getElem? (i := 851) (by decide +kernel), List.mem_of_getElem? (i := 852) (by decide +kernel)⟩
theorem lw_p20 : lw_okq (⟨"BodySolidsModel", "isRound", "()Z"⟩, 27) := ⟨⟨by decide +kernel, by decide +kernel⟩, List.mem_of_getElem? (i := 732) (by decide +kernel), List.mem_of_getElem? (i := 867) (by decide +kernel), List.mem_of_getElem? (i := 868) (by decide +kernel)⟩
theorem lw_p21 : lw_okq (⟨"BodySolidsModel", "copy", "(II)V"⟩, 27) := ⟨⟨by decide +kernel, by decide +kernel⟩, List.mem_of_getElem? (i := 732) (by decide +kernel), List.mem_of_getElem? (i := 885) (by decide +kernel), List.mem_of_getElem? (i := 886) (by decide +kernel)⟩
theorem lw_p22 : lw_okq (⟨"BodySolidsModel", "set", "(IJJII)V"⟩, 27) := ⟨⟨by decide +kernel, by decide +kernel⟩, List.mem_of_getElem? (i := 732) (by decide +kernel), List.mem_of_getElem? (i := 896) (by decide +kernel), List.mem_of_getElem? (i := 897) (by decide +kernel)⟩
theorem lw_p23 : lw_okq (⟨"BodySolidsModel", "isPlaced", "(I)Z"⟩, 27) := ⟨⟨by decide +kernel, by decide +kernel⟩, List.mem_of_getElem? (i := 732) (by decide +kernel), List.mem_of_getElem? (i := 904) (by decide +kernel), List.mem_of_getElem? (i := 905) (by decide +kernel)⟩
theorem lw_p24 : lw_okq (⟨"BodySolidsModel", "meet", "(II)I"⟩, 27) := ⟨⟨by decide +kernel, by decide +kernel⟩, List.mem_of_getElem? (i := 732) (by decide +kernel), List.mem_of_getElem? (i := 912) (by decide +kernel), List.mem_of_getElem? (i := 913) (by decide +kernel)⟩
theorem lw_p25 : lw_okq (⟨"BodySolidsModel", "lay", "(III)V"⟩, 27) := ⟨⟨by decide +kernel, by decide +kernel⟩, List.mem_of_getElem? (i := 732) (by decide +kernel), List.mem_of_getElem? (i := 916) (by decide +kernel), List.mem_of_getElem? (i := 917) (by decide +kernel)⟩
theorem lw_p26 : lw_okq (⟨"BodySolidsModel", "of", "(II)J"⟩, 27) := ⟨⟨by decide +kernel, by decide +kernel⟩, List.mem_of_getElem? (i := 732) (by decide +kernel), List.mem_of_getElem? (i := 920) (by decide +kernel), List.mem_of_getElem? (i := 921) (by decide +kernel)⟩
theorem lw_p27 : lw_okq (⟨"BodySolidsModel", "spot", "(IIIJJ)V"⟩, 27) := ⟨⟨by decide +kernel, by decide +kernel⟩, List.mem_of_getElem? (i := 732) (by decide +kernel), List.mem_of_getElem? (i := 924) (by decide +kernel), List.mem_of_getElem? (i := 925) (by decide +kernel)⟩
theorem lw_p28 : lw_okq (⟨"BodySolidsModel", "xOf", "(IJJ)J"⟩, 27) := ⟨⟨by decide +kernel, by decide +kernel⟩, List.mem_of_getElem? (i := 732) (by decide +kernel), List.mem_of_getElem? (i := 928) (by decide +kernel), List.mem_of_getElem? (i := 929) (by decide +kernel)⟩
theorem lw_p29 : lw_okq (⟨"BodySolidsModel", "yOf", "(IJJ)J"⟩, 27) := ⟨⟨by decide +kernel, by decide +kernel⟩, List.mem_of_getElem? (i := 732) (by decide +kernel), List.mem_of_getElem? (i := 932) (by decide +kernel), List.mem_of_getElem? (i := 933) (by decide +kernel)⟩
theorem lw_p30 : lw_okq (⟨"BodySolidsModel", "point", "(IIJJ)V"⟩, 27) := ⟨⟨by decide +kernel, by decide +kernel⟩, List.mem_of_getElem? (i := 732) (by decide +kernel), List.mem_of_getElem? (i := 936) (by decide +kernel), List.mem_of_getElem? (i := 937) (by decide +kernel)⟩
theorem lw_p31 : lw_okq (⟨"BodySolidsModel", "zOf", "(IJ)J"⟩, 27) := ⟨⟨by decide +kernel, by decide +kernel⟩, List.mem_of_getElem? (i := 732) (by decide +kernel), List.mem_of_getElem? (i := 940) (by decide +kernel), List.mem_of_getElem? (i := 941) (by decide +kernel)⟩
def lw_privs_2 : List (MethodName × Nat) := [(⟨"BodySolids", "sectionAnswer", "(III)J"⟩, 10), (⟨"BodySolidsModel", "isBody", "(I)Z"⟩, 27), (⟨"BodySolidsModel", "fresh", "(II)I"⟩, 27), (⟨"BodySolidsModel", "tell", "(IIJ)V"⟩, 27), (⟨"BodySolidsModel", "isRound", "()Z"⟩, 27), (⟨"BodySolidsModel", "copy", "(II)V"⟩, 27), (⟨"BodySolidsModel", "set", "(IJJII)V"⟩, 27), (⟨"BodySolidsModel", "isPlaced", "(I)Z"⟩, 27), (⟨"BodySolidsModel", "meet", "(II)I"⟩, 27), (⟨"BodySolidsModel", "lay", "(III)V"⟩, 27), (⟨"BodySolidsModel", "of", "(II)J"⟩, 27), (⟨"BodySolidsModel", "spot", "(IIIJJ)V"⟩, 27), (⟨"BodySolidsModel", "xOf", "(IJJ)J"⟩, 27), (⟨"BodySolidsModel", "yOf", "(IJJ)J"⟩, 27), (⟨"BodySolidsModel", "point", "(IIJJ)V"⟩, 27), (⟨"BodySolidsModel", "zOf", "(IJ)J"⟩, 27)]
theorem lw_r2 : ∀ q ∈ lw_privs_2, lw_okq q := List.forall_mem_cons.mpr ⟨lw_p16, List.forall_mem_cons.mpr ⟨lw_p17, List.forall_mem_cons.mpr ⟨lw_p18, List.forall_mem_cons.mpr ⟨lw_p19, List.forall_mem_cons.mpr ⟨lw_p20, List.forall_mem_cons.mpr ⟨lw_p21, List.forall_mem_cons.mpr ⟨lw_p22, List.forall_mem_cons.mpr ⟨lw_p23, List.forall_mem_cons.mpr ⟨lw_p24, List.forall_mem_cons.mpr ⟨lw_p25, List.forall_mem_cons.mpr ⟨lw_p26, List.forall_mem_cons.mpr ⟨lw_p27, List.forall_mem_cons.mpr ⟨lw_p28, List.forall_mem_cons.mpr ⟨lw_p29, List.forall_mem_cons.mpr ⟨lw_p30, List.forall_mem_cons.mpr ⟨lw_p31, fun _ h => absurd h List.not_mem_nil⟩⟩⟩⟩⟩⟩⟩⟩⟩⟩⟩⟩⟩⟩⟩⟩
theorem lw_p32 : lw_okq (⟨"BodySolidsModel", "heights", "(IJJ)V"⟩, 27) := ⟨⟨by decide +kernel, by decide +kernel⟩, List.mem_of_getElem? (i := 732) (by decide +kernel), List.mem_of_getElem? (i := 945) (by decide +kernel), List.mem_of_getElem? (i := 946) (by decide +kernel)⟩
theorem lw_p33 : lw_okq (⟨"BodySolidsModel", "both", "()I"⟩, 27) := ⟨⟨by decide +kernel, by decide +kernel⟩, List.mem_of_getElem? (i := 732) (by decide +kernel), List.mem_of_getElem? (i := 949) (by decide +kernel), List.mem_of_getElem? (i := 950) (by decide +kernel)⟩
theorem lw_p34 : lw_okq (⟨"BodySolidsModel", "tubes", "()I"⟩, 27) := ⟨⟨by decide +kernel, by decide +kernel⟩, List.mem_of_getElem? (i := 732) (by decide +kernel), List.mem_of_getElem? (i := 953) (by decide +kernel), List.mem_of_getElem? (i := 954) (by decide +kernel)⟩
theorem lw_p35 : lw_okq (⟨"BodySolidsModel", "heightGap", "()J"⟩, 27) := ⟨⟨by decide +kernel, by decide +kernel⟩, List.mem_of_getElem? (i := 732) (by decide +kernel), List.mem_of_getElem? (i := 963) (by decide +kernel), List.mem_of_getElem? (i := 964) (by decide +kernel)⟩
theorem lw_p36 : lw_okq (⟨"BodySolidsModel", "coreGap", "(IZJJ)J"⟩, 27) := ⟨⟨by decide +kernel, by decide +kernel⟩, List.mem_of_getElem? (i := 732) (by decide +kernel), List.mem_of_getElem? (i := 970) (by decide +kernel), List.mem_of_getElem? (i := 971) (by decide +kernel)⟩
theorem lw_p37 : lw_okq (⟨"BodySolidsModel", "coreAndDisc", "(IJ)I"⟩, 27) := ⟨⟨by decide +kernel, by decide +kernel⟩, List.mem_of_getElem? (i := 732) (by decide +kernel), List.mem_of_getElem? (i := 980) (by decide +kernel), List.mem_of_getElem? (i := 981) (by decide +kernel)⟩
theorem lw_p38 : lw_okq (⟨"BodySolidsModel", "coreAndPolygon", "(IJ)I"⟩, 27) := ⟨⟨by decide +kernel, by decide +kernel⟩, List.mem_of_getElem? (i := 732) (by decide +kernel), List.mem_of_getElem? (i := 985) (by decide +kernel), List.mem_of_getElem? (i := 986) (by decide +kernel)⟩
theorem lw_p39 : lw_okq (⟨"BodySolidsModel", "fromPolygon", "(IJJJ)I"⟩, 27) := ⟨⟨by decide +kernel, by decide +kernel⟩, List.mem_of_getElem? (i := 732) (by decide +kernel), List.mem_of_getElem? (i := 989) (by decide +kernel), List.mem_of_getElem? (i := 990) (by decide +kernel)⟩
theorem lw_p40 : lw_okq (⟨"BodySolidsModel", "isIn", "(IJJ)Z"⟩, 27) := ⟨⟨by decide +kernel, by decide +kernel⟩, List.mem_of_getElem? (i := 732) (by decide +kernel), List.mem_of_getElem? (i := 993) (by decide +kernel), List.mem_of_getElem? (i := 994) (by decide +kernel)⟩
theorem lw_p41 : lw_okq (⟨"BodySolidsModel", "bases", "()I"⟩, 27) := ⟨⟨by decide +kernel, by decide +kernel⟩, List.mem_of_getElem? (i := 732) (by decide +kernel), List.mem_of_getElem? (i := 1004) (by decide +kernel), List.mem_of_getElem? (i := 1005) (by decide +kernel)⟩
theorem lw_p42 : lw_okq (⟨"BodySolidsModel", "polygons", "()I"⟩, 27) := ⟨⟨by decide +kernel, by decide +kernel⟩, List.mem_of_getElem? (i := 732) (by decide +kernel), List.mem_of_getElem? (i := 1008) (by decide +kernel), List.mem_of_getElem? (i := 1009) (by decide +kernel)⟩
theorem lw_p43 : lw_okq (⟨"BodySolidsModel", "along", "(JJ)I"⟩, 27) := ⟨⟨by decide +kernel, by decide +kernel⟩, List.mem_of_getElem? (i := 732) (by decide +kernel), List.mem_of_getElem? (i := 1012) (by decide +kernel), List.mem_of_getElem? (i := 1013) (by decide +kernel)⟩
theorem lw_p44 : lw_okq (⟨"BodySolidsModel", "doesBreak", "(I)Z"⟩, 27) := ⟨⟨by decide +kernel, by decide +kernel⟩, List.mem_of_getElem? (i := 732) (by decide +kernel), List.mem_of_getElem? (i := 1037) (by decide +kernel), List.mem_of_getElem? (i := 1038) (by decide +kernel)⟩
theorem lw_p45 : lw_okq (⟨"BodySolidsModel", "layOut", "(I)V"⟩, 27) := ⟨⟨by decide +kernel, by decide +kernel⟩, List.mem_of_getElem? (i := 732) (by decide +kernel), List.mem_of_getElem? (i := 1041) (by decide +kernel), List.mem_of_getElem? (i := 1042) (by decide +kernel)⟩
theorem lw_p46 : lw_okq (⟨"BodySolidsModel", "edge", "(I)J"⟩, 27) := ⟨⟨by decide +kernel, by decide +kernel⟩, List.mem_of_getElem? (i := 732) (by decide +kernel), List.mem_of_getElem? (i := 1051) (by decide +kernel), List.mem_of_getElem? (i := 1052) (by decide +kernel)⟩
theorem lw_p47 : lw_okq (⟨"BodySolidsModel", "volume", "(I)J"⟩, 27) := ⟨⟨by decide +kernel, by decide +kernel⟩, List.mem_of_getElem? (i := 732) (by decide +kernel), List.mem_of_getElem? (i := 1063) (by decide +kernel), List.mem_of_getElem? (i := 1064) (by decide +kernel)⟩
def lw_privs_3 : List (MethodName × Nat) := [(⟨"BodySolidsModel", "heights", "(IJJ)V"⟩, 27), (⟨"BodySolidsModel", "both", "()I"⟩, 27), (⟨"BodySolidsModel", "tubes", "()I"⟩, 27), (⟨"BodySolidsModel", "heightGap", "()J"⟩, 27), (⟨"BodySolidsModel", "coreGap", "(IZJJ)J"⟩, 27), (⟨"BodySolidsModel", "coreAndDisc", "(IJ)I"⟩, 27), (⟨"BodySolidsModel", "coreAndPolygon", "(IJ)I"⟩, 27), (⟨"BodySolidsModel", "fromPolygon", "(IJJJ)I"⟩, 27), (⟨"BodySolidsModel", "isIn", "(IJJ)Z"⟩, 27), (⟨"BodySolidsModel", "bases", "()I"⟩, 27), (⟨"BodySolidsModel", "polygons", "()I"⟩, 27), (⟨"BodySolidsModel", "along", "(JJ)I"⟩, 27), (⟨"BodySolidsModel", "doesBreak", "(I)Z"⟩, 27), (⟨"BodySolidsModel", "layOut", "(I)V"⟩, 27), (⟨"BodySolidsModel", "edge", "(I)J"⟩, 27), (⟨"BodySolidsModel", "volume", "(I)J"⟩, 27)]
theorem lw_r3 : ∀ q ∈ lw_privs_3, lw_okq q := List.forall_mem_cons.mpr ⟨lw_p32, List.forall_mem_cons.mpr ⟨lw_p33, List.forall_mem_cons.mpr ⟨lw_p34, List.forall_mem_cons.mpr ⟨lw_p35, List.forall_mem_cons.mpr ⟨lw_p36, List.forall_mem_cons.mpr ⟨lw_p37, List.forall_mem_cons.mpr ⟨lw_p38, List.forall_mem_cons.mpr ⟨lw_p39, List.forall_mem_cons.mpr ⟨lw_p40, List.forall_mem_cons.mpr ⟨lw_p41, List.forall_mem_cons.mpr ⟨lw_p42, List.forall_mem_cons.mpr ⟨lw_p43, List.forall_mem_cons.mpr ⟨lw_p44, List.forall_mem_cons.mpr ⟨lw_p45, List.forall_mem_cons.mpr ⟨lw_p46, List.forall_mem_cons.mpr ⟨lw_p47, fun _ h => absurd h List.not_mem_nil⟩⟩⟩⟩⟩⟩⟩⟩⟩⟩⟩⟩⟩⟩⟩⟩
def lw_privs : List (MethodName × Nat) := lw_privs_1 ++ (lw_privs_2 ++ (lw_privs_3))
def lw_tbl : List Cond := k2_sels lw_privs ++ tables_1
theorem lw_privs_ok : ∀ q ∈ lw_privs, lw_okq q := by
  show ∀ q ∈ lw_privs_1 ++ (lw_privs_2 ++ (lw_privs_3)), lw_okq q
  exact List.forall_mem_append.mpr ⟨lw_r1, List.forall_mem_append.mpr ⟨lw_r2, lw_r3⟩⟩

def R0 : String := "BodySolids"
def T0 : u_T := fun k => match k with
  | 0 => ("BodySolids", "thickness", "J", true)
  | 1 => ("BodySolids", "bodies", "Ljava/util/ArrayList;", true)
  | 2 => ("BodySolids", "placements", "Ljava/util/ArrayList;", true)
  | 3 => ("BodySolids", "keepOuts", "Ljava/util/ArrayList;", true)
  | 4 => ("BodySolids", "cornerX", "[J", true)
  | 5 => ("BodySolids", "cornerY", "[J", true)
  | 6 => ("BodySolids", "corners", "I", false)
  | 7 => ("BodySolids", "relations", "[I", true)
  | 8 => ("BodySolids", "first", "LBodySolids$Layout;", true)
  | _ => ("BodySolids", "second", "LBodySolids$Layout;", true)
def t_0 : Nat → FieldType := fun k => match k with
  | 0 => .long
  | 1 => .object "java/util/ArrayList"
  | 2 => .object "java/util/ArrayList"
  | 3 => .object "java/util/ArrayList"
  | 4 => .array .long
  | 5 => .array .long
  | 6 => .int
  | 7 => .array .int
  | 8 => .object "BodySolids$Layout"
  | _ => .object "BodySolids$Layout"
theorem n_0 : ∀ a, a < 10 → ∀ b, b < 10 → a ≠ b → (T0 a).2.1 ≠ (T0 b).2.1 := by decide +kernel
theorem t_0_ok : ∀ k, k < 10 → parseFieldDescriptor (T0 k).2.2.1 = some (t_0 k) := by decide +kernel
def R1 : String := "java/util/ArrayList"
def T1 : u_T := fun k => match k with
  | 0 => ("java/util/ArrayList", "elementData", "[Ljava/lang/Object;", false)
  | 1 => ("java/util/ArrayList", "size", "I", false)
  | _ => ("java/util/AbstractList", "modCount", "I", false)
def t_1 : Nat → FieldType := fun k => match k with
  | 0 => .array (.object "java/lang/Object")
  | 1 => .int
  | _ => .int
theorem n_1 : ∀ a, a < 3 → ∀ b, b < 3 → a ≠ b → (T1 a).2.1 ≠ (T1 b).2.1 := by decide +kernel
theorem t_1_ok : ∀ k, k < 3 → parseFieldDescriptor (T1 k).2.2.1 = some (t_1 k) := by decide +kernel
def R2 : String := "BodySolids$Layout"
def T2 : u_T := fun k => match k with
  | 0 => ("BodySolids$Layout", "solids", "[LBodySolids$Solid;", true)
  | _ => ("BodySolids$Layout", "count", "I", false)
def t_2 : Nat → FieldType := fun k => match k with
  | 0 => .array (.object "BodySolids$Solid")
  | _ => .int
theorem n_2 : ∀ a, a < 2 → ∀ b, b < 2 → a ≠ b → (T2 a).2.1 ≠ (T2 b).2.1 := by decide +kernel
theorem t_2_ok : ∀ k, k < 2 → parseFieldDescriptor (T2 k).2.2.1 = some (t_2 k) := by decide +kernel
def R3 : String := "BodySolids$Solid"
def T3 : u_T := fun k => match k with
  | 0 => ("BodySolids$Solid", "kind", "I", false)
  | 1 => ("BodySolids$Solid", "flat", "J", false)
  | 2 => ("BodySolids$Solid", "round", "J", false)
  | 3 => ("BodySolids$Solid", "xs", "[J", true)
  | 4 => ("BodySolids$Solid", "ys", "[J", true)
  | 5 => ("BodySolids$Solid", "corners", "I", false)
  | 6 => ("BodySolids$Solid", "x0", "J", false)
  | 7 => ("BodySolids$Solid", "y0", "J", false)
  | 8 => ("BodySolids$Solid", "z0", "J", false)
  | 9 => ("BodySolids$Solid", "x1", "J", false)
  | 10 => ("BodySolids$Solid", "y1", "J", false)
  | _ => ("BodySolids$Solid", "z1", "J", false)
def t_3 : Nat → FieldType := fun k => match k with
  | 0 => .int
  | 1 => .long
  | 2 => .long
  | 3 => .array .long
  | 4 => .array .long
  | 5 => .int
  | 6 => .long
  | 7 => .long
  | 8 => .long
  | 9 => .long
  | 10 => .long
  | _ => .long
theorem n_3 : ∀ a, a < 12 → ∀ b, b < 12 → a ≠ b → (T3 a).2.1 ≠ (T3 b).2.1 := by decide +kernel
theorem t_3_ok : ∀ k, k < 12 → parseFieldDescriptor (T3 k).2.2.1 = some (t_3 k) := by decide +kernel
def R4 : String := "BodySolids$Body"
def T4 : u_T := fun k => match k with
  | 0 => ("BodySolids$Body", "solids", "Ljava/util/ArrayList;", true)
  | _ => ("BodySolids$Body", "weight", "J", false)
def t_4 : Nat → FieldType := fun k => match k with
  | 0 => .object "java/util/ArrayList"
  | _ => .long
theorem n_4 : ∀ a, a < 2 → ∀ b, b < 2 → a ≠ b → (T4 a).2.1 ≠ (T4 b).2.1 := by decide +kernel
theorem t_4_ok : ∀ k, k < 2 → parseFieldDescriptor (T4 k).2.2.1 = some (t_4 k) := by decide +kernel
def R5 : String := "BodySolids$Placement"
def T5 : u_T := fun k => match k with
  | 0 => ("BodySolids$Placement", "body", "LBodySolids$Body;", true)
  | 1 => ("BodySolids$Placement", "x", "J", false)
  | 2 => ("BodySolids$Placement", "y", "J", false)
  | 3 => ("BodySolids$Placement", "turn", "I", false)
  | _ => ("BodySolids$Placement", "side", "I", false)
def t_5 : Nat → FieldType := fun k => match k with
  | 0 => .object "BodySolids$Body"
  | 1 => .long
  | 2 => .long
  | 3 => .int
  | _ => .int
theorem n_5 : ∀ a, a < 5 → ∀ b, b < 5 → a ≠ b → (T5 a).2.1 ≠ (T5 b).2.1 := by decide +kernel
theorem t_5_ok : ∀ k, k < 5 → parseFieldDescriptor (T5 k).2.2.1 = some (t_5 k) := by decide +kernel
def R6 : String := "BodySolids$KeepOut"
def T6 : u_T := fun k => match k with
  | 0 => ("BodySolids$KeepOut", "space", "LBodySolids$Solid;", true)
  | _ => ("BodySolids$KeepOut", "side", "I", true)
def t_6 : Nat → FieldType := fun k => match k with
  | 0 => .object "BodySolids$Solid"
  | _ => .int
theorem n_6 : ∀ a, a < 2 → ∀ b, b < 2 → a ≠ b → (T6 a).2.1 ≠ (T6 b).2.1 := by decide +kernel
theorem t_6_ok : ∀ k, k < 2 → parseFieldDescriptor (T6 k).2.2.1 = some (t_6 k) := by decide +kernel
def R7 : String := "BodySolidsModel"
def T7 : u_T := fun k => match k with
  | 0 => ("BodySolidsModel", "thrown", "I", false)
  | 1 => ("BodySolidsModel", "thickness", "J", true)
  | 2 => ("BodySolidsModel", "bodies", "I", false)
  | 3 => ("BodySolidsModel", "counts", "[I", true)
  | 4 => ("BodySolidsModel", "kinds", "[I", true)
  | 5 => ("BodySolidsModel", "numbers", "[J", true)
  | 6 => ("BodySolidsModel", "cornerCounts", "[I", true)
  | 7 => ("BodySolidsModel", "cornerX", "[J", true)
  | 8 => ("BodySolidsModel", "cornerY", "[J", true)
  | 9 => ("BodySolidsModel", "told", "I", false)
  | 10 => ("BodySolidsModel", "toldX", "[J", true)
  | 11 => ("BodySolidsModel", "toldY", "[J", true)
  | 12 => ("BodySolidsModel", "places", "I", false)
  | 13 => ("BodySolidsModel", "placed", "[I", true)
  | 14 => ("BodySolidsModel", "placeX", "[J", true)
  | 15 => ("BodySolidsModel", "placeY", "[J", true)
  | 16 => ("BodySolidsModel", "turns", "[I", true)
  | 17 => ("BodySolidsModel", "sides", "[I", true)
  | 18 => ("BodySolidsModel", "outs", "I", false)
  | 19 => ("BodySolidsModel", "out", "[J", true)
  | 20 => ("BodySolidsModel", "kindAt", "[I", true)
  | 21 => ("BodySolidsModel", "many", "[I", true)
  | 22 => ("BodySolidsModel", "px", "[J", true)
  | 23 => ("BodySolidsModel", "py", "[J", true)
  | 24 => ("BodySolidsModel", "radius", "[J", true)
  | 25 => ("BodySolidsModel", "low", "[J", true)
  | _ => ("BodySolidsModel", "high", "[J", true)
def t_7 : Nat → FieldType := fun k => match k with
  | 0 => .int
  | 1 => .long
  | 2 => .int
  | 3 => .array .int
  | 4 => .array .int
  | 5 => .array .long
  | 6 => .array .int
  | 7 => .array .long
  | 8 => .array .long
  | 9 => .int
  | 10 => .array .long
  | 11 => .array .long
  | 12 => .int
  | 13 => .array .int
  | 14 => .array .long
  | 15 => .array .long
  | 16 => .array .int
  | 17 => .array .int
  | 18 => .int
  | 19 => .array .long
  | 20 => .array .int
  | 21 => .array .int
  | 22 => .array .long
  | 23 => .array .long
  | 24 => .array .long
  | 25 => .array .long
  | _ => .array .long
theorem n_7 : ∀ a, a < 27 → ∀ b, b < 27 → a ≠ b → (T7 a).2.1 ≠ (T7 b).2.1 := by decide +kernel
theorem t_7_ok : ∀ k, k < 27 → parseFieldDescriptor (T7 k).2.2.1 = some (t_7 k) := by decide +kernel
abbrev gCl : List vw_C := [(R0, T0, 10), (R1, T1, 3), (R2, T2, 2), (R3, T3, 12), (R4, T4, 2), (R5, T5, 5), (R6, T6, 2), (R7, T7, 27)]
abbrev gTy : List FieldType := [.int, .long, .object "BodySolids$Solid", .object "java/lang/Object"]
def gNest : Cond → Bool
  | .fieldLinkNest _ _ _ _ _ _ => true
  | .methodLinkNest _ _ _ _ => true
  | .castable _ _ => true
  | .declares _ => true
  | .arrayOver (.object _) => true
  | w => goodWord w
def gAll : List Cond := lw_tbl.filter gNest
theorem gm {w : Cond} (i : Nat) (h : lw_tbl[i]? = some w) (hg : gNest w = true) : w ∈ gAll := List.mem_filter.mpr ⟨List.mem_of_getElem? h, hg⟩
theorem gm_all {ws : List Cond} (h : ∀ w ∈ ws, w ∈ lw_tbl ∧ gNest w = true) : ∀ w ∈ ws, w ∈ gAll := fun w hw => List.mem_filter.mpr (h w hw)
theorem i_0 : ∀ w ∈ u_ws R0 T0 10, w ∈ gAll := gm_all (by decide +kernel)
theorem i_1 : ∀ w ∈ u_ws R1 T1 3, w ∈ gAll := gm_all (by decide +kernel)
theorem i_2 : ∀ w ∈ u_ws R2 T2 2, w ∈ gAll := gm_all (by decide +kernel)
theorem i_3 : ∀ w ∈ u_ws R3 T3 12, w ∈ gAll := gm_all (by decide +kernel)
theorem i_4 : ∀ w ∈ u_ws R4 T4 2, w ∈ gAll := gm_all (by decide +kernel)
theorem i_5 : ∀ w ∈ u_ws R5 T5 5, w ∈ gAll := gm_all (by decide +kernel)
theorem i_6 : ∀ w ∈ u_ws R6 T6 2, w ∈ gAll := gm_all (by decide +kernel)
theorem i_7 : ∀ w ∈ u_ws R7 T7 27, w ∈ gAll := gm_all (by decide +kernel)
end
section
/-! ===== THE TYPED WORLD: a map from addresses to entries, and the heap's size ===== -/
abbrev gE : Type := (Nat × Nat × (Nat → Value)) ⊕ (Nat × List Value)
abbrev gW : Type := (Nat → Option gE) × Nat
abbrev gD : Type := (Nat → ClassId) × (Nat → Nat → Nat) × (Nat → ClassId)
abbrev gX (α : Type) : Type := Option ((String ⊕ α) × gW)
def gAt (D : gD) (a : Nat) (e : gE) (H : Heap) : Prop := match e with
  | .inl x => H[a]? = some (arrV (D.2.2 x.1) x.2.1 x.2.2)
  | .inr o => ∃ r : vw_C, gCl[o.1]? = some r ∧ t_OB a (D.1 o.1) r.2.2 (D.2.1 o.1) H (vp_V o.2)
theorem gAt.kept {D : gD} {a : Nat} {e : gE} {H H1 : Heap} (h : gAt D a e H) (hq : H1[a]? = H[a]?) : gAt D a e H1 := by
  cases e with
  | inl x => exact hq.trans h
  | inr o =>
    obtain ⟨r, h1, h2⟩ := h
    exact ⟨r, h1, h2.kept hq⟩
theorem gAt.lt {D : gD} {a : Nat} {e : gE} {H : Heap} (h : gAt D a e H) : a < H.size := by
  cases e with
  | inl x => exact (Array.getElem?_eq_some_iff.mp h).1
  | inr o =>
    obtain ⟨r, h1, cell, h2, -⟩ := h
    exact (Array.getElem?_eq_some_iff.mp h2).1
/-- kinds and array kinds as the tables have them -/
def gK (D : gD) (U : State) : Prop := (∀ (c : Nat) (q : vw_C), gCl[c]? = some q → u_Kn U q.1 q.2.1 q.2.2 (D.1 c) (D.2.1 c)) ∧ ∀ (k : Nat) (ty : FieldType), gTy[k]? = some ty → ArrOfT U (D.2.2 k) ty ∧ va_RA U (D.2.2 k) ty
theorem gK.moved {D : gD} {u U : State} (hvm : u.vm.Alike U.vm) (h : gK D u) : gK D U := ⟨fun c q hq => u_Kn_moved hvm (h.1 c q hq), fun k ty hk => ⟨arrOfT_moved hvm (h.2 k ty hk).1, (h.2 k ty hk).2.moved hvm⟩⟩
theorem gK.va {D : gD} {U : State} (h : gK D U) : va_K (D.1, D.2.1) gCl [] U := ⟨h.1, fun k q hq => by simp at hq⟩
/-- every word of the one list -/
def gT (U : State) : Prop := ∀ w ∈ gAll, ∀ a : Array Value, w.before a U = true
theorem gNest_warm {w : Cond} (h : gNest w = true) {s U : State} (hW : s.WarmedH U.vm) (hb : ∀ a : Array Value, w.before a s = true) (a' : Array Value) : w.before a' U = true := by
  cases w
  case fieldLinkNest => exact va_Nw.use rfl (va_Nw.warmF hW (hb #[]))
  case methodLinkNest => exact va_Nw.use rfl (va_Nw.warmM hW (hb #[]))
  case castable => exact va_Nw.use rfl (va_Nw.warmC hW (hb #[]))
  case declares => exact va_Nw.use rfl (va_Nw.warmD hW (hb #[]))
  case arrayOver f =>
    cases f with
    | object C => exact va_AO.use (va_AO.moved hW.alike (va_AO.of (hb #[])))
    | _ => exact word_at hW (good_of_word h) (hb #[])
  all_goals exact word_at hW (good_of_word h) (hb #[])
theorem gT.warm {s U : State} (hW : s.WarmedH U.vm) (h : gT s) : gT U := fun w hw a => gNest_warm (List.mem_filter.mp hw).2 hW (h w hw) a
/-- an empty row is never written -/
def gRW : gE → Prop
  | .inl x => x.2.1 ≠ 0
  | .inr _ => True
/-- between a world and the machine's heap, inside a method: s its start, A what it may change -/
def gI (D : gD) (s : State) (A : Nat → Prop) (w : gW) (H : Heap) (locs : List Loc) : Prop :=
  H.size = w.2 ∧ (∀ (a : Nat) (e : gE), w.1 a = some e → gAt D a e H) ∧ va_S A s.heap H locs ∧ ∀ (a : Nat) (e : gE), w.1 a = some e → gRW e → A a
def gup (w : gW) (a : Nat) (e : gE) : gW := (fun q => if q = a then some e else w.1 q, w.2)
def gpush (w : gW) (e : gE) : gW := (fun q => if q = w.2 then some e else w.1 q, w.2 + 1)
theorem gI.put {D : gD} {s : State} {A : Nat → Prop} {w : gW} {H H1 : Heap} {locs : List Loc} {a k : Nat} {e0 e : gE} (hI : gI D s A w H locs) (hw : w.1 a = some e0) (hrw : gRW e0) (z : H1.size = H.size) (oq : ∀ q : Nat, q ≠ a → H1[q]? = H[q]?) (he : gAt D a e H1) : gI D s A (gup w a e) H1 (locs ++ [⟨a, k⟩]) := by
  obtain ⟨h1, h2, h3, h4⟩ := hI
  refine ⟨z.trans h1, fun b x hb => ?_, h3.put z oq (h4 a e0 hw hrw), fun b x hb hx => ?_⟩
  · by_cases q : b = a
    · subst q
      simp only [gup, if_true] at hb
      cases hb
      exact he
    · simp only [gup, if_neg q] at hb
      exact (h2 b x hb).kept (oq b q)
  · by_cases q : b = a
    · subst q
      exact h4 b e0 hw hrw
    · simp only [gup, if_neg q] at hb
      exact h4 b x hb hx
theorem gI.push {D : gD} {s : State} {A : Nat → Prop} {w : gW} {H H1 : Heap} {locs : List Loc} {e : gE} (hI : gI D s A w H locs) (hA : ∀ q : Nat, s.heap.size ≤ q → A q) (z : H1.size = H.size + 1) (oq : ∀ q : Nat, q < H.size → H1[q]? = H[q]?) (he : gAt D H.size e H1) : gI D s A (gpush w e) H1 locs := by
  obtain ⟨h1, h2, h3, h4⟩ := hI
  refine ⟨by rw [z, h1]; rfl, fun b x hb => ?_, ⟨Nat.le_trans h3.1 (by omega), fun q g1 g2 => (oq q (Nat.lt_of_lt_of_le g1 h3.1)).trans (h3.2.1 q g1 g2), h3.2.2⟩, fun b x hb hx => ?_⟩
  · by_cases q : b = w.2
    · subst q
      simp only [gpush, if_true] at hb
      cases hb
      rw [← h1]
      exact he
    · simp only [gpush, if_neg q] at hb
      have hl := (h2 b x hb).lt
      exact (h2 b x hb).kept (oq b hl)
  · by_cases q : b = w.2
    · subst q
      exact hA _ (by rw [← h1]; exact h3.1)
    · simp only [gpush, if_neg q] at hb
      exact h4 b x hb hx
theorem gI.one {D : gD} {s : State} {A : Nat → Prop} {w : gW} {H : Heap} {locs : List Loc} {a ci : Nat} {fs : List Value} (hI : gI D s A w H locs) (h : w.1 a = some (.inr (ci, fs))) : va_P (D.1, D.2.1) gCl [(a, .inr (ci, fs))] H := by
  intro k q hk
  match k, hk with
  | 0, hk =>
    cases hk
    exact hI.2.1 a _ h
  | k + 1, hk => simp at hk
/-! ===== reads and writes ===== -/
def gf (w : gW) (a c k : Nat) : Option Value := match w.1 a with
  | some (.inr o) => if o.1 = c then o.2[k]? else none
  | _ => none
def gvI : Option Value → Option Int32
  | some (.int x) => some x
  | _ => none
def gvJ : Option Value → Option Int64
  | some (.long x) => some x
  | _ => none
def gvA : Option Value → Option Nat
  | some (.ref x) => some x
  | _ => none
theorem gvI_some {o : Option Value} {x : Int32} (h : gvI o = some x) : o = some (.int x) := by
  unfold gvI at h
  split at h
  · cases h; rfl
  · cases h
theorem gvJ_some {o : Option Value} {x : Int64} (h : gvJ o = some x) : o = some (.long x) := by
  unfold gvJ at h
  split at h
  · cases h; rfl
  · cases h
theorem gvA_some {o : Option Value} {x : Nat} (h : gvA o = some x) : o = some (.ref x) := by
  unfold gvA at h
  split at h
  · cases h; rfl
  · cases h
def gfI (w : gW) (a c k : Nat) : Option Int32 := gvI (gf w a c k)
def gfJ (w : gW) (a c k : Nat) : Option Int64 := gvJ (gf w a c k)
def gfA (w : gW) (a c k : Nat) : Option Nat := gvA (gf w a c k)
theorem gf_some {w : gW} {a c k : Nat} {v : Value} (h : gf w a c k = some v) : ∃ fs : List Value, w.1 a = some (.inr (c, fs)) ∧ fs[k]? = some v := by
  unfold gf at h
  split at h
  · rename_i o ho
    split at h
    · rename_i hc
      subst hc
      exact ⟨o.2, ho, h⟩
    · cases h
  · cases h
def gp (w : gW) (a c k : Nat) (v : Value) : Option gW := match w.1 a with
  | some (.inr o) => if o.1 = c ∧ k < o.2.length then some (gup w a (.inr (c, o.2.set k v))) else none
  | _ => none
theorem gp_some {w w' : gW} {a c k : Nat} {v : Value} (h : gp w a c k v = some w') : ∃ fs : List Value, w.1 a = some (.inr (c, fs)) ∧ k < fs.length ∧ w' = gup w a (.inr (c, fs.set k v)) := by
  unfold gp at h
  split at h
  · rename_i o ho
    split at h
    · rename_i hc
      obtain ⟨hc, hk⟩ := hc
      subst hc
      cases h
      exact ⟨o.2, ho, hk, rfl⟩
    · cases h
  · cases h
/-- the object is of kind c -/
def gck (w : gW) (a c : Nat) : Option Unit := match w.1 a with
  | some (.inr o) => if o.1 = c then some () else none
  | _ => none
theorem gck_some {w : gW} {a c : Nat} {u : Unit} (h : gck w a c = some u) : ∃ fs : List Value, w.1 a = some (.inr (c, fs)) := by
  unfold gck at h
  split at h
  · rename_i o ho
    split at h
    · rename_i hc
      subst hc
      exact ⟨o.2, ho⟩
    · cases h
  · cases h
def gnw (w : gW) (c : Nat) (fs : List Value) : Option (Nat × gW) := some (w.2, gpush w (.inr (c, fs)))
def gna (w : gW) (k : Nat) (n : Int32) (M : Nat) (v : Value) : Option (Nat × gW) := if n < 0 ∨ M < n.toNatClampNeg then none else some (w.2, gpush w (.inl (k, n.toNatClampNeg, fun _ => v)))
theorem gna_some {w w' : gW} {k M a : Nat} {n : Int32} {v : Value} (h : gna w k n M v = some (a, w')) : ¬ n < 0 ∧ n.toNatClampNeg ≤ M ∧ a = w.2 ∧ w' = gpush w (.inl (k, n.toNatClampNeg, fun _ => v)) := by
  unfold gna at h
  split at h
  · cases h
  · rename_i hc
    cases h
    exact ⟨fun q => hc (Or.inl q), Nat.not_lt.mp (fun q => hc (Or.inr q)), rfl, rfl⟩
/-- an array's place: its kind must be k -/
def gar (w : gW) (a k : Nat) (i : Int32) : Option Value := match w.1 a with
  | some (.inl x) => if x.1 = k ∧ ¬ i < 0 ∧ i.toNatClampNeg < x.2.1 then some (x.2.2 i.toNatClampNeg) else none
  | _ => none
theorem gar_some {w : gW} {a k : Nat} {i : Int32} {v : Value} (h : gar w a k i = some v) : ∃ (n : Nat) (f : Nat → Value), w.1 a = some (.inl (k, n, f)) ∧ ¬ (i < 0 ∨ n ≤ i.toNatClampNeg) ∧ f i.toNatClampNeg = v := by
  unfold gar at h
  split at h
  · rename_i x hx
    split at h
    · rename_i hc
      obtain ⟨h1, h2, h3⟩ := hc
      subst h1
      cases h
      exact ⟨x.2.1, x.2.2, hx, fun q => q.elim h2 (fun z => by omega), rfl⟩
    · cases h
  · cases h
def gas (w : gW) (a k : Nat) (i : Int32) (v : Value) : Option gW := match w.1 a with
  | some (.inl x) => if x.1 = k ∧ ¬ i < 0 ∧ i.toNatClampNeg < x.2.1 then some (gup w a (.inl (k, x.2.1, updV x.2.2 i.toNatClampNeg v))) else none
  | _ => none
theorem gas_some {w w' : gW} {a k : Nat} {i : Int32} {v : Value} (h : gas w a k i v = some w') : ∃ (n : Nat) (f : Nat → Value), w.1 a = some (.inl (k, n, f)) ∧ ¬ (i < 0 ∨ n ≤ i.toNatClampNeg) ∧ w' = gup w a (.inl (k, n, updV f i.toNatClampNeg v)) := by
  unfold gas at h
  split at h
  · rename_i x hx
    split at h
    · rename_i hc
      obtain ⟨h1, h2, h3⟩ := hc
      subst h1
      cases h
      exact ⟨x.2.1, x.2.2, hx, fun q => q.elim h2 (fun z => by omega), rfl⟩
    · cases h
  · cases h
def gal (w : gW) (a : Nat) : Option Int32 := match w.1 a with
  | some (.inl x) => if x.1 < gTy.length then some (nI x.2.1) else none
  | _ => none
theorem gal_some {w : gW} {a : Nat} {x : Int32} (h : gal w a = some x) : ∃ (k n : Nat) (f : Nat → Value) (ty : FieldType), w.1 a = some (.inl (k, n, f)) ∧ gTy[k]? = some ty ∧ x = nI n := by
  unfold gal at h
  split at h
  · rename_i y hy
    split at h
    · rename_i hk
      cases h
      exact ⟨y.1, y.2.1, y.2.2, _, hy, List.getElem?_eq_getElem hk, rfl⟩
    · cases h
  · cases h
def gaI (w : gW) (a : Nat) (i : Int32) : Option Int32 := gvI (gar w a 0 i)
def gaJ (w : gW) (a : Nat) (i : Int32) : Option Int64 := gvJ (gar w a 1 i)
/-- a row of references: its number -/
def gob (w : gW) (a : Nat) : Option Nat := match w.1 a with
  | some (.inl x) => match gTy[x.1]? with
    | some (.object _) => some x.1
    | _ => none
  | _ => none
def gaA (w : gW) (a : Nat) (i : Int32) : Option Nat := (gob w a).bind fun k => gvA (gar w a k i)
theorem gob_some {w : gW} {a k : Nat} (h : gob w a = some k) : ∃ C : String, gTy[k]? = some (.object C) := by
  unfold gob at h
  split at h
  · split at h
    · rename_i C hC
      cases h
      exact ⟨C, hC⟩
    · cases h
  · cases h
theorem gaA_some {w : gW} {a x : Nat} {i : Int32} (h : gaA w a i = some x) : ∃ (k : Nat) (C : String), gTy[k]? = some (.object C) ∧ gar w a k i = some (.ref x) := by
  obtain ⟨k, h1, h2⟩ := Option.bind_eq_some_iff.mp h
  obtain ⟨C, hC⟩ := gob_some h1
  exact ⟨k, C, hC, gvA_some h2⟩
def gsI (w : gW) (a : Nat) (i x : Int32) : Option gW := gas w a 0 i (.int x)
def gsJ (w : gW) (a : Nat) (i : Int32) (x : Int64) : Option gW := gas w a 1 i (.long x)
/-! ===== the pure functions' glue ===== -/
def gbind {α β : Type} (x : gX α) (k : α → gW → gX β) : gX β := match x with
  | none => none
  | some (.inl E, w) => some (.inl E, w)
  | some (.inr v, w) => k v w
def gjoin {γ δ : Type} (F : γ → δ) (J : γ) : δ := F J
def gguard {α : Type} (c : Prop) [Decidable c] (x : Option α) : Option α := if c then x else none
def gthrow {α : Type} (E : String) (w : gW) : gX α := some (.inl E, (w.1, w.2 + 1))
theorem gb {α β : Type} {o : Option α} {f : α → Option β} {r : β} (h : o.bind f = some r) : ∃ v, o = some v ∧ f v = some r := Option.bind_eq_some_iff.mp h
def gb2f {β : Type} (x : Option (Nat × gW)) (K : Nat → gW → Option β) : Option β := match x with
  | none => none
  | some q => K q.1 q.2
theorem gb2 {β : Type} {x : Option (Nat × gW)} {K : Nat → gW → Option β} {r : β} (h : gb2f x K = some r) : ∃ (o : Nat) (w : gW), x = some (o, w) ∧ K o w = some r := by
  cases x with
  | none => cases h
  | some q => exact ⟨q.1, q.2, rfl, h⟩
theorem gj {γ β : Type} {F : γ → Option β} {J : γ} {r : β} (h : gjoin F J = some r) : ∃ K, K = J ∧ F K = some r := ⟨J, rfl, h⟩
theorem gif {β : Type} {c : Prop} [Decidable c] {x : Option β} {r : β} (h : gguard c x = some r) : c ∧ x = some r := by
  unfold gguard at h
  split at h
  · rename_i hc
    exact ⟨hc, h⟩
  · cases h
theorem git {β : Type} {c : Prop} [Decidable c] {x y : β} {r : β} (hc : c) (h : (if c then x else y) = r) : x = r := by rw [if_pos hc] at h; exact h
theorem gie {β : Type} {c : Prop} [Decidable c] {x y : β} {r : β} (hc : ¬ c) (h : (if c then x else y) = r) : y = r := by rw [if_neg hc] at h; exact h
theorem gsome {α β : Type} {x : gX α} {k : α → gW → gX β} {r : (String ⊕ β) × gW} (h : gbind x k = some r) : ∃ o, x = some o := by
  cases x with
  | none => cases h
  | some o => exact ⟨o, rfl⟩
theorem gk1 {α0 β : Type} {K J : α0 → β} (e : K = J) {x0 : α0} {r : β} (h : K x0 = r) : J x0 = r := e ▸ h
theorem gk2 {α0 α1 β : Type} {K J : α0 → α1 → β} (e : K = J) {x0 : α0} {x1 : α1} {r : β} (h : K x0 x1 = r) : J x0 x1 = r := e ▸ h
theorem gk3 {α0 α1 α2 β : Type} {K J : α0 → α1 → α2 → β} (e : K = J) {x0 : α0} {x1 : α1} {x2 : α2} {r : β} (h : K x0 x1 x2 = r) : J x0 x1 x2 = r := e ▸ h
theorem gk4 {α0 α1 α2 α3 β : Type} {K J : α0 → α1 → α2 → α3 → β} (e : K = J) {x0 : α0} {x1 : α1} {x2 : α2} {x3 : α3} {r : β} (h : K x0 x1 x2 x3 = r) : J x0 x1 x2 x3 = r := e ▸ h
theorem gk5 {α0 α1 α2 α3 α4 β : Type} {K J : α0 → α1 → α2 → α3 → α4 → β} (e : K = J) {x0 : α0} {x1 : α1} {x2 : α2} {x3 : α3} {x4 : α4} {r : β} (h : K x0 x1 x2 x3 x4 = r) : J x0 x1 x2 x3 x4 = r := e ▸ h
theorem gk6 {α0 α1 α2 α3 α4 α5 β : Type} {K J : α0 → α1 → α2 → α3 → α4 → α5 → β} (e : K = J) {x0 : α0} {x1 : α1} {x2 : α2} {x3 : α3} {x4 : α4} {x5 : α5} {r : β} (h : K x0 x1 x2 x3 x4 x5 = r) : J x0 x1 x2 x3 x4 x5 = r := e ▸ h
theorem gk7 {α0 α1 α2 α3 α4 α5 α6 β : Type} {K J : α0 → α1 → α2 → α3 → α4 → α5 → α6 → β} (e : K = J) {x0 : α0} {x1 : α1} {x2 : α2} {x3 : α3} {x4 : α4} {x5 : α5} {x6 : α6} {r : β} (h : K x0 x1 x2 x3 x4 x5 x6 = r) : J x0 x1 x2 x3 x4 x5 x6 = r := e ▸ h
theorem gk8 {α0 α1 α2 α3 α4 α5 α6 α7 β : Type} {K J : α0 → α1 → α2 → α3 → α4 → α5 → α6 → α7 → β} (e : K = J) {x0 : α0} {x1 : α1} {x2 : α2} {x3 : α3} {x4 : α4} {x5 : α5} {x6 : α6} {x7 : α7} {r : β} (h : K x0 x1 x2 x3 x4 x5 x6 x7 = r) : J x0 x1 x2 x3 x4 x5 x6 x7 = r := e ▸ h
theorem gk9 {α0 α1 α2 α3 α4 α5 α6 α7 α8 β : Type} {K J : α0 → α1 → α2 → α3 → α4 → α5 → α6 → α7 → α8 → β} (e : K = J) {x0 : α0} {x1 : α1} {x2 : α2} {x3 : α3} {x4 : α4} {x5 : α5} {x6 : α6} {x7 : α7} {x8 : α8} {r : β} (h : K x0 x1 x2 x3 x4 x5 x6 x7 x8 = r) : J x0 x1 x2 x3 x4 x5 x6 x7 x8 = r := e ▸ h
theorem gk10 {α0 α1 α2 α3 α4 α5 α6 α7 α8 α9 β : Type} {K J : α0 → α1 → α2 → α3 → α4 → α5 → α6 → α7 → α8 → α9 → β} (e : K = J) {x0 : α0} {x1 : α1} {x2 : α2} {x3 : α3} {x4 : α4} {x5 : α5} {x6 : α6} {x7 : α7} {x8 : α8} {x9 : α9} {r : β} (h : K x0 x1 x2 x3 x4 x5 x6 x7 x8 x9 = r) : J x0 x1 x2 x3 x4 x5 x6 x7 x8 x9 = r := e ▸ h
theorem gk11 {α0 α1 α2 α3 α4 α5 α6 α7 α8 α9 α10 β : Type} {K J : α0 → α1 → α2 → α3 → α4 → α5 → α6 → α7 → α8 → α9 → α10 → β} (e : K = J) {x0 : α0} {x1 : α1} {x2 : α2} {x3 : α3} {x4 : α4} {x5 : α5} {x6 : α6} {x7 : α7} {x8 : α8} {x9 : α9} {x10 : α10} {r : β} (h : K x0 x1 x2 x3 x4 x5 x6 x7 x8 x9 x10 = r) : J x0 x1 x2 x3 x4 x5 x6 x7 x8 x9 x10 = r := e ▸ h
theorem gk12 {α0 α1 α2 α3 α4 α5 α6 α7 α8 α9 α10 α11 β : Type} {K J : α0 → α1 → α2 → α3 → α4 → α5 → α6 → α7 → α8 → α9 → α10 → α11 → β} (e : K = J) {x0 : α0} {x1 : α1} {x2 : α2} {x3 : α3} {x4 : α4} {x5 : α5} {x6 : α6} {x7 : α7} {x8 : α8} {x9 : α9} {x10 : α10} {x11 : α11} {r : β} (h : K x0 x1 x2 x3 x4 x5 x6 x7 x8 x9 x10 x11 = r) : J x0 x1 x2 x3 x4 x5 x6 x7 x8 x9 x10 x11 = r := e ▸ h
theorem gk13 {α0 α1 α2 α3 α4 α5 α6 α7 α8 α9 α10 α11 α12 β : Type} {K J : α0 → α1 → α2 → α3 → α4 → α5 → α6 → α7 → α8 → α9 → α10 → α11 → α12 → β} (e : K = J) {x0 : α0} {x1 : α1} {x2 : α2} {x3 : α3} {x4 : α4} {x5 : α5} {x6 : α6} {x7 : α7} {x8 : α8} {x9 : α9} {x10 : α10} {x11 : α11} {x12 : α12} {r : β} (h : K x0 x1 x2 x3 x4 x5 x6 x7 x8 x9 x10 x11 x12 = r) : J x0 x1 x2 x3 x4 x5 x6 x7 x8 x9 x10 x11 x12 = r := e ▸ h
theorem gk14 {α0 α1 α2 α3 α4 α5 α6 α7 α8 α9 α10 α11 α12 α13 β : Type} {K J : α0 → α1 → α2 → α3 → α4 → α5 → α6 → α7 → α8 → α9 → α10 → α11 → α12 → α13 → β} (e : K = J) {x0 : α0} {x1 : α1} {x2 : α2} {x3 : α3} {x4 : α4} {x5 : α5} {x6 : α6} {x7 : α7} {x8 : α8} {x9 : α9} {x10 : α10} {x11 : α11} {x12 : α12} {x13 : α13} {r : β} (h : K x0 x1 x2 x3 x4 x5 x6 x7 x8 x9 x10 x11 x12 x13 = r) : J x0 x1 x2 x3 x4 x5 x6 x7 x8 x9 x10 x11 x12 x13 = r := e ▸ h
theorem gk15 {α0 α1 α2 α3 α4 α5 α6 α7 α8 α9 α10 α11 α12 α13 α14 β : Type} {K J : α0 → α1 → α2 → α3 → α4 → α5 → α6 → α7 → α8 → α9 → α10 → α11 → α12 → α13 → α14 → β} (e : K = J) {x0 : α0} {x1 : α1} {x2 : α2} {x3 : α3} {x4 : α4} {x5 : α5} {x6 : α6} {x7 : α7} {x8 : α8} {x9 : α9} {x10 : α10} {x11 : α11} {x12 : α12} {x13 : α13} {x14 : α14} {r : β} (h : K x0 x1 x2 x3 x4 x5 x6 x7 x8 x9 x10 x11 x12 x13 x14 = r) : J x0 x1 x2 x3 x4 x5 x6 x7 x8 x9 x10 x11 x12 x13 x14 = r := e ▸ h
theorem gk16 {α0 α1 α2 α3 α4 α5 α6 α7 α8 α9 α10 α11 α12 α13 α14 α15 β : Type} {K J : α0 → α1 → α2 → α3 → α4 → α5 → α6 → α7 → α8 → α9 → α10 → α11 → α12 → α13 → α14 → α15 → β} (e : K = J) {x0 : α0} {x1 : α1} {x2 : α2} {x3 : α3} {x4 : α4} {x5 : α5} {x6 : α6} {x7 : α7} {x8 : α8} {x9 : α9} {x10 : α10} {x11 : α11} {x12 : α12} {x13 : α13} {x14 : α14} {x15 : α15} {r : β} (h : K x0 x1 x2 x3 x4 x5 x6 x7 x8 x9 x10 x11 x12 x13 x14 x15 = r) : J x0 x1 x2 x3 x4 x5 x6 x7 x8 x9 x10 x11 x12 x13 x14 x15 = r := e ▸ h
/-! ===== rows over the world ===== -/
section GR
variable {p : Program} {l : Launch} {e : Env} {R : Room} {s : State} {m : MethodId} {args : Array Value} {below : List Frame} {meth : Method} {c : Code} {H : Heap} {locs : List Loc} {cells slots : Nat} {Q : State → Prop}
variable {cc : ByteArray} {pc : Nat} {ls : Array Slot} {rest : List Value} {D : gD} {A : Nat → Prop} {a : Nat} {w : gW}
theorem gw_get0 (hx : p.tables.exec = Jvm.exec) (hb : c.code = cc) (hT : gT s) {own : String} (hown : s.vm.findClass own = some m.cls) (hK : gK D s) (hI : gI D s A w H locs) {ci : Nat} {C ref : String} {T : u_T} {N index : Nat} (hc : gCl[ci]? = some (C, T, N)) (hin : ∀ z ∈ u_ws C T N, z ∈ gAll) (k : Nat) (hk : k < N) (hlink : Cond.fieldLink own index ref (T k).2.1 (T k).2.2.1 ∈ gAll) (hsame : ∀ x, s.fieldFound? (T k).1 (T k).2.1 (T k).2.2.1 = some x → s.fieldFound? ref (T k).2.1 (T k).2.2.1 = some x) {v : Value} (hv : gf w a ci k = some v) (hdg : decode cc pc = .ok (.getfield index, 3))
    (kk : W p l e R s m args below meth c H locs cells slots Q (F0 m (pc + 3) ls (v :: rest))) : W p l e R s m args below meth c H locs cells slots Q (F0 m pc ls (.ref a :: rest)) := by
  obtain ⟨fs, h1, h2⟩ := gf_some hv
  exact va_get (D := (D.1, D.2.1)) (cl := gCl) (ws := [(a, .inr (ci, fs))]) (tys := []) hx hb (Ts := gAll) (fun z h => hT z h args) hin hown hK.va (hI.one h1) 0 rfl hc k hk (hT _ hlink args) hsame h2 hdg kk
theorem gw_getI (hx : p.tables.exec = Jvm.exec) (hb : c.code = cc) (hT : gT s) {own : String} (hown : s.vm.findClass own = some m.cls) (hK : gK D s) (hI : gI D s A w H locs) {ci : Nat} {C ref : String} {T : u_T} {N index : Nat} (hc : gCl[ci]? = some (C, T, N)) (hin : ∀ z ∈ u_ws C T N, z ∈ gAll) (k : Nat) (hk : k < N) (hlink : Cond.fieldLink own index ref (T k).2.1 (T k).2.2.1 ∈ gAll) (hsame : ∀ x, s.fieldFound? (T k).1 (T k).2.1 (T k).2.2.1 = some x → s.fieldFound? ref (T k).2.1 (T k).2.2.1 = some x) {v : Int32} (hv : gfI w a ci k = some v) (hdg : decode cc pc = .ok (.getfield index, 3))
    (kk : W p l e R s m args below meth c H locs cells slots Q (F0 m (pc + 3) ls (.int v :: rest))) : W p l e R s m args below meth c H locs cells slots Q (F0 m pc ls (.ref a :: rest)) := gw_get0 hx hb hT hown hK hI hc hin k hk hlink hsame (gvI_some hv) hdg kk
theorem gw_getJ (hx : p.tables.exec = Jvm.exec) (hb : c.code = cc) (hT : gT s) {own : String} (hown : s.vm.findClass own = some m.cls) (hK : gK D s) (hI : gI D s A w H locs) {ci : Nat} {C ref : String} {T : u_T} {N index : Nat} (hc : gCl[ci]? = some (C, T, N)) (hin : ∀ z ∈ u_ws C T N, z ∈ gAll) (k : Nat) (hk : k < N) (hlink : Cond.fieldLink own index ref (T k).2.1 (T k).2.2.1 ∈ gAll) (hsame : ∀ x, s.fieldFound? (T k).1 (T k).2.1 (T k).2.2.1 = some x → s.fieldFound? ref (T k).2.1 (T k).2.2.1 = some x) {v : Int64} (hv : gfJ w a ci k = some v) (hdg : decode cc pc = .ok (.getfield index, 3))
    (kk : W p l e R s m args below meth c H locs cells slots Q (F0 m (pc + 3) ls (.long v :: rest))) : W p l e R s m args below meth c H locs cells slots Q (F0 m pc ls (.ref a :: rest)) := gw_get0 hx hb hT hown hK hI hc hin k hk hlink hsame (gvJ_some hv) hdg kk
theorem gw_getA (hx : p.tables.exec = Jvm.exec) (hb : c.code = cc) (hT : gT s) {own : String} (hown : s.vm.findClass own = some m.cls) (hK : gK D s) (hI : gI D s A w H locs) {ci : Nat} {C ref : String} {T : u_T} {N index : Nat} (hc : gCl[ci]? = some (C, T, N)) (hin : ∀ z ∈ u_ws C T N, z ∈ gAll) (k : Nat) (hk : k < N) (hlink : Cond.fieldLink own index ref (T k).2.1 (T k).2.2.1 ∈ gAll) (hsame : ∀ x, s.fieldFound? (T k).1 (T k).2.1 (T k).2.2.1 = some x → s.fieldFound? ref (T k).2.1 (T k).2.2.1 = some x) {v : Nat} (hv : gfA w a ci k = some v) (hdg : decode cc pc = .ok (.getfield index, 3))
    (kk : W p l e R s m args below meth c H locs cells slots Q (F0 m (pc + 3) ls (.ref v :: rest))) : W p l e R s m args below meth c H locs cells slots Q (F0 m pc ls (.ref a :: rest)) := gw_get0 hx hb hT hown hK hI hc hin k hk hlink hsame (gvA_some hv) hdg kk
theorem gw_put (hx : p.tables.exec = Jvm.exec) (hb : c.code = cc) (hT : gT s) {own : String} (hown : s.vm.findClass own = some m.cls) (hK : gK D s) (hI : gI D s A w H locs) {ci : Nat} {C ref : String} {T : u_T} {N index : Nat} (hc : gCl[ci]? = some (C, T, N)) (hin : ∀ z ∈ u_ws C T N, z ∈ gAll) (ty0 : Nat → FieldType) (hty : ∀ k, k < N → parseFieldDescriptor (T k).2.2.1 = some (ty0 k)) (hnm : ∀ a, a < N → ∀ b, b < N → a ≠ b → (T a).2.1 ≠ (T b).2.1) (k : Nat) (hk : k < N) (hlink : Cond.fieldLink own index ref (T k).2.1 (T k).2.2.1 ∈ gAll) (hsame : ∀ x, s.fieldFound? (T k).1 (T k).2.1 (T k).2.2.1 = some x → s.fieldFound? ref (T k).2.1 (T k).2.2.1 = some x) (hfin : (T k).2.2.2 = false) {ty : FieldType} {v : Value} (hd : parseFieldDescriptor (T k).2.2.1 = some ty) (hn : narrow ty v = v) (hfit : fits ty v = true) {w' : gW} (hv : gp w a ci k v = some w') (hdg : decode cc pc = .ok (.putfield index, 3))
    (kk : ∀ (H1 : Heap) (locs1 : List Loc), gI D s A w' H1 locs1 → W p l e R s m args below meth c H1 locs1 cells slots Q (F0 m (pc + 3) ls rest)) : W p l e R s m args below meth c H locs cells slots Q (F0 m pc ls (v :: .ref a :: rest)) := by
  obtain ⟨fs, h1, h2, rfl⟩ := gp_some hv
  have hts : ∀ z ∈ gAll, z.before args s = true := fun z h => hT z h args
  have hap := va_apart (D := (D.1, D.2.1)) (cl := gCl) (tys := []) (own := own) (args := args) hts hin ty0 hty hnm hK.va hc
  obtain ⟨r, hr, cell, q1, q2, q3, q4⟩ := hI.2.1 a _ h1
  cases Option.some.inj (hr.symm.trans hc)
  obtain ⟨hS, hfc, kC, hkC, hkind⟩ := hK.1 ci _ hc
  obtain ⟨cf, kf, fi, f, hi, hsl⟩ := hS k hk
  have hlay := hts _ (hin _ (u_in_lay hk))
  unfold u_lay at hlay
  rw [if_neg (by rw [hfin]; decide)] at hlay
  have hst := (u_facts hfc hkC (u_lays hts hin hk) hi).1
  have h6 := u_store hfc hkC hkind hlay hi hd hn hfit
  refine W.putK hx hb (f := f) ⟨hown, hts _ hlink, ⟨_, _, _, hsame _ hi⟩, hst⟩ (by rw [q2]; exact h6) q1 q3 (by rw [hsl]; exact k2_hasslot (q4 k hk)) rfl rfl hdg fun H' e1 e2 e3 => ?_
  rw [hsl] at e1 ⊢
  exact kk H' _ (hI.put h1 trivial e2 e3 ⟨_, hc, t_OB.to (V := updV (vp_V fs) k v) ⟨_, e1, q2, q3, t_set q4 hap hk v⟩ (fun j _ => vp_updV_set h2 v j)⟩)
theorem gw_putF (hx : p.tables.exec = Jvm.exec) (hb : c.code = cc) (hT : gT s) {own : String} (hown : s.vm.findClass own = some m.cls) (hK : gK D s) (hI : gI D s A w H locs) {ci : Nat} {C ref : String} {T : u_T} {N index : Nat} (hc : gCl[ci]? = some (C, T, N)) (hin : ∀ z ∈ u_ws C T N, z ∈ gAll) (ty0 : Nat → FieldType) (hty : ∀ k, k < N → parseFieldDescriptor (T k).2.2.1 = some (ty0 k)) (hnm : ∀ a, a < N → ∀ b, b < N → a ≠ b → (T a).2.1 ≠ (T b).2.1) (k : Nat) (hk : k < N) (hlink : Cond.fieldLink own index ref (T k).2.1 (T k).2.2.1 ∈ gAll) (hsame : ∀ x, s.fieldFound? (T k).1 (T k).2.1 (T k).2.2.1 = some x → s.fieldFound? ref (T k).2.1 (T k).2.2.1 = some x) (hfin : (T k).2.2.2 = true) (hin2 : meth.name = "<init>") (hdecl : (T k).1 = own) {ty : FieldType} {v : Value} (hd : parseFieldDescriptor (T k).2.2.1 = some ty) (hn : narrow ty v = v) (hfit : fits ty v = true) {w' : gW} (hv : gp w a ci k v = some w') (hdg : decode cc pc = .ok (.putfield index, 3))
    (kk : ∀ (H1 : Heap) (locs1 : List Loc), gI D s A w' H1 locs1 → W p l e R s m args below meth c H1 locs1 cells slots Q (F0 m (pc + 3) ls rest)) : W p l e R s m args below meth c H locs cells slots Q (F0 m pc ls (v :: .ref a :: rest)) := by
  obtain ⟨fs, h1, h2, rfl⟩ := gp_some hv
  have hts : ∀ z ∈ gAll, z.before args s = true := fun z h => hT z h args
  have hap := va_apart (D := (D.1, D.2.1)) (cl := gCl) (tys := []) (own := own) (args := args) hts hin ty0 hty hnm hK.va hc
  obtain ⟨r, hr, cell, q1, q2, q3, q4⟩ := hI.2.1 a _ h1
  cases Option.some.inj (hr.symm.trans hc)
  obtain ⟨hS, hfc, kC, hkC, hkind⟩ := hK.1 ci _ hc
  obtain ⟨cf, kf, fi, f, hi, hsl⟩ := hS k hk
  have hlay := hts _ (hin _ (u_in_lay hk))
  unfold u_lay at hlay
  rw [if_pos hfin] at hlay
  have hst := (u_facts hfc hkC (u_lays hts hin hk) hi).1
  have hcf : m.cls = cf := by
    obtain ⟨_, _, c', _, _, _, -, -, hf', -, -, -, hown2, -⟩ := Cond.laysFinal_spec hlay
    have e1 : c' = cf := by have := hi.symm.trans hf'; simp at this; exact this.1.symm
    rw [hdecl] at hown2
    rw [← e1]; exact Option.some.inj (hown.symm.trans hown2)
  have h6 := u_fits hfc hkC hkind (Or.inr hlay) hi hd hn hfit
  refine W.putFinK hx hb hown (hts _ hlink) (hsame _ hi) hst hcf hin2 (by rw [q2]; exact h6) q1 q3 (by rw [hsl]; exact k2_hasslot (q4 k hk)) rfl rfl hdg fun H' e1 e2 e3 => ?_
  rw [hsl] at e1 ⊢
  exact kk H' _ (hI.put h1 trivial e2 e3 ⟨_, hc, t_OB.to (V := updV (vp_V fs) k v) ⟨_, e1, q2, q3, t_set q4 hap hk v⟩ (fun j _ => vp_updV_set h2 v j)⟩)
theorem gw_new (hx : p.tables.exec = Jvm.exec) (hb : c.code = cc) (hT : gT s) {own : String} (hown : s.vm.findClass own = some m.cls) (hK : gK D s) (hI : gI D s A w H locs) (hA : ∀ q : Nat, s.heap.size ≤ q → A q) {ci : Nat} {C : String} {T : u_T} {N index : Nat} (hc : gCl[ci]? = some (C, T, N)) (hin : ∀ z ∈ u_ws C T N, z ∈ gAll) (ty : Nat → FieldType) (hty : ∀ k, k < N → parseFieldDescriptor (T k).2.2.1 = some (ty k)) {n : Nat} (hcl : Cond.classLink own index C ∈ gAll) (hinst : Cond.instantiable C n ∈ gAll) (hini : Cond.initialized C ∈ gAll) {fs : List Value} (hfs : ∀ j, j < N → defaultValue (ty j) = vp_V fs j) {b : Nat} {w' : gW} (hv : gnw w ci fs = some (b, w')) (hcells : cells + 1 ≤ R.cells) (hslots : slots + n ≤ R.slots) (hdg : decode cc pc = .ok (.new index, 3))
    (kk : ∀ (H1 : Heap), gI D s A w' H1 locs → W p l e R s m args below meth c H1 locs (cells + 1) (slots + n) Q (F0 m (pc + 3) ls (.ref b :: rest))) : W p l e R s m args below meth c H locs cells slots Q (F0 m pc ls rest) := by
  have hts : ∀ z ∈ gAll, z.before args s = true := fun z h => hT z h args
  unfold gnw at hv
  cases hv
  have hKn := hK.1 ci _ hc
  refine W.newcK hx hb hown (hts _ hcl) (hts _ hinst) (hts _ hini) rfl hdg hcells hslots hKn.2.1 hI.1 fun H1 kC hkC e1 z1 o1 => ?_
  rw [← hI.1] at e1 z1 o1
  refine kk H1 (hI.push hA z1 o1 ⟨_, hc, (u_born ty hts hin hKn hkC e1 hty).to hfs⟩)
theorem gw_newa (hx : p.tables.exec = Jvm.exec) (hb : c.code = cc) (hK : gK D s) (hI : gI D s A w H locs) (hA : ∀ q : Nat, s.heap.size ≤ q → A q) {atype : ArrayType} (harr : (Cond.arrayClass (newarray.typeOf atype)).before args s = true) {ty : FieldType} (hty : newarray.typeOf atype = ty) {k : Nat} (hk : gTy[k]? = some ty) (hob : va_RA s (D.2.2 k) ty → s.vm.findClass ("[" ++ ty.toString) = some (D.2.2 k)) {n : Int32} {M b : Nat} {w' : gW} (hv : gna w k n M (defaultValue ty) = some (b, w')) (hcells : cells + 1 ≤ R.cells) (hslots : slots + M ≤ R.slots) (hbytes : M * componentBytes ty ≤ 536870912) (hdg : decode cc pc = .ok (.newarray atype, 2))
    (kk : ∀ (H1 : Heap), gI D s A w' H1 locs → W p l e R s m args below meth c H1 locs (cells + 1) (slots + M) Q (F0 m (pc + 2) ls (.ref b :: rest))) : W p l e R s m args below meth c H locs cells slots Q (F0 m pc ls (.int n :: rest)) := by
  subst hty
  obtain ⟨h1, h2, rfl, rfl⟩ := gna_some hv
  refine va_newaK hx hb harr rfl hdg rfl h1 rfl (Nat.le_trans (Nat.mul_le_mul_right _ h2) hbytes) hcells (Nat.le_trans (Nat.add_le_add_left h2 _) hslots) hI.1 fun H1 cA e1 z1 o1 hAr hNm => ?_
  rw [← hI.1] at e1 z1 o1
  have hcA : cA = D.2.2 k := Option.some.inj (hNm.symm.trans (hob (hK.2 k _ hk).2))
  subst hcA
  rw [← hI.1]
  refine W.widen (Nat.le_refl _) (Nat.add_le_add_left h2 _) ?_
  rw [hI.1]
  exact kk H1 (hI.push hA z1 o1 e1)
theorem gw_anew (hx : p.tables.exec = Jvm.exec) (hb : c.code = cc) {own : String} (hown : s.vm.findClass own = some m.cls) (hK : gK D s) (hI : gI D s A w H locs) (hA : ∀ q : Nat, s.heap.size ≤ q → A q) {C : String} {index : Nat} (hcl : (Cond.classLink own index C).before args s = true) (hov : (Cond.arrayOver (.object C)).before args s = true) {k : Nat} (hk : gTy[k]? = some (.object C)) {n : Int32} {M b : Nat} {w' : gW} (hv : gna w k n M .null = some (b, w')) (hcells : cells + 1 ≤ R.cells) (hslots : slots + M ≤ R.slots) (hbytes : M * 4 ≤ 536870912) (hdg : decode cc pc = .ok (.anewarray index, 3))
    (kk : ∀ (H1 : Heap), gI D s A w' H1 locs → W p l e R s m args below meth c H1 locs (cells + 1) (slots + M) Q (F0 m (pc + 3) ls (.ref b :: rest))) : W p l e R s m args below meth c H locs cells slots Q (F0 m pc ls (.int n :: rest)) := by
  obtain ⟨h1, h2, rfl, rfl⟩ := gna_some hv
  refine W.anew hx hb hown hcl hov rfl hdg rfl h1 (Nat.le_trans (Nat.mul_le_mul_right _ h2) hbytes) hcells (Nat.le_trans (Nat.add_le_add_left h2 _) hslots) fun cA kA comp f1 f2 f3 f4 => ?_
  obtain ⟨kA', comp', g1, g2, g3, g4⟩ := (hK.2 k _ hk).2
  have hcA : cA = D.2.2 k := Option.some.inj (f1.symm.trans g4)
  subst hcA
  generalize hH1 : H.push ({ cls := D.2.2 k, slots := Array.replicate n.toNatClampNeg .null, vm := .none } : Cell) = H1
  have z1 : H1.size = H.size + 1 := by rw [← hH1, Array.size_push]
  have e1 : H1[H.size]? = some (arrV (D.2.2 k) n.toNatClampNeg (fun _ => .null)) := by rw [← hH1, Array.getElem?_push_size, ← arrV_new]
  have o1 : ∀ q : Nat, q < H.size → H1[q]? = H[q]? := fun q hq => by rw [← hH1, Array.getElem?_push, if_neg (Nat.ne_of_lt hq)]
  refine W.widen (Nat.le_refl _) (Nat.add_le_add_left h2 _) ?_
  rw [hI.1]
  exact kk H1 (hI.push hA z1 o1 e1)
theorem gw_alen (hx : p.tables.exec = Jvm.exec) (hb : c.code = cc) (hK : gK D s) (hI : gI D s A w H locs) {x : Int32} (hv : gal w a = some x) (hdg : decode cc pc = .ok (.arraylength, 1))
    (kk : W p l e R s m args below meth c H locs cells slots Q (F0 m (pc + 1) ls (.int x :: rest))) : W p l e R s m args below meth c H locs cells slots Q (F0 m pc ls (.ref a :: rest)) := by
  obtain ⟨k, n, f, ty, h1, hty, rfl⟩ := gal_some hv
  exact W.alen hx hb (hI.2.1 a _ h1) ((hK.2 k ty hty).1 n f) (by show (arrV _ _ _).slots.size.toInt32 = _; rw [arrV_size]; rfl) rfl rfl hdg kk
theorem gw_aldI (hx : p.tables.exec = Jvm.exec) (hb : c.code = cc) (hK : gK D s) (hI : gI D s A w H locs) {i x : Int32} (hv : gaI w a i = some x) (hdg : decode cc pc = .ok (.iaload, 1))
    (kk : W p l e R s m args below meth c H locs cells slots Q (F0 m (pc + 1) ls (.int x :: rest))) : W p l e R s m args below meth c H locs cells slots Q (F0 m pc ls (.int i :: .ref a :: rest)) := by
  obtain ⟨n, f, h1, hin, h2⟩ := gar_some (gvI_some hv)
  have hlt : i.toNatClampNeg < n := Nat.not_le.mp fun q => hin (Or.inr q)
  exact W.iald (v := .int x) hx hb (hI.2.1 a _ h1) ((hK.2 0 .int rfl).1 n f) (fun q => by cases q) (by show ¬ (i < 0 ∨ (arrV _ _ _).slots.size ≤ _); rw [arrV_size]; exact hin) (by show (arrV _ _ _).slots[_]? = _; rw [arrV_read _ _ hlt]; exact congrArg some h2) rfl rfl hdg kk
theorem gw_aldJ (hx : p.tables.exec = Jvm.exec) (hb : c.code = cc) (hK : gK D s) (hI : gI D s A w H locs) {i : Int32} {x : Int64} (hv : gaJ w a i = some x) (hdg : decode cc pc = .ok (.laload, 1))
    (kk : W p l e R s m args below meth c H locs cells slots Q (F0 m (pc + 1) ls (.long x :: rest))) : W p l e R s m args below meth c H locs cells slots Q (F0 m pc ls (.int i :: .ref a :: rest)) := by
  obtain ⟨n, f, h1, hin, h2⟩ := gar_some (gvJ_some hv)
  have hlt : i.toNatClampNeg < n := Nat.not_le.mp fun q => hin (Or.inr q)
  exact W.lald (v := .long x) hx hb (hI.2.1 a _ h1) ((hK.2 1 .long rfl).1 n f) (fun q => by cases q) (by show ¬ (i < 0 ∨ (arrV _ _ _).slots.size ≤ _); rw [arrV_size]; exact hin) (by show (arrV _ _ _).slots[_]? = _; rw [arrV_read _ _ hlt]; exact congrArg some h2) rfl rfl hdg kk
theorem gw_aldA (hx : p.tables.exec = Jvm.exec) (hb : c.code = cc) (hK : gK D s) (hI : gI D s A w H locs) {i : Int32} {x : Nat} (hv : gaA w a i = some x) (hdg : decode cc pc = .ok (.aaload, 1))
    (kk : W p l e R s m args below meth c H locs cells slots Q (F0 m (pc + 1) ls (.ref x :: rest))) : W p l e R s m args below meth c H locs cells slots Q (F0 m pc ls (.int i :: .ref a :: rest)) := by
  obtain ⟨k, C, hk, hv⟩ := gaA_some hv
  obtain ⟨n, f, h1, hin, h2⟩ := gar_some hv
  have hlt : i.toNatClampNeg < n := Nat.not_le.mp fun q => hin (Or.inr q)
  exact W.aald (v := .ref x) (ty := .object C) hx hb (hI.2.1 a _ h1) ((hK.2 k _ hk).1 n f) rfl (fun q => by cases q) (by show ¬ (i < 0 ∨ (arrV _ _ _).slots.size ≤ _); rw [arrV_size]; exact hin) (by show (arrV _ _ _).slots[_]? = _; rw [arrV_read _ _ hlt]; exact congrArg some h2) rfl rfl hdg kk
theorem gw_astI (hx : p.tables.exec = Jvm.exec) (hb : c.code = cc) (hK : gK D s) (hI : gI D s A w H locs) {i x : Int32} {w' : gW} (hv : gsI w a i x = some w') (hdg : decode cc pc = .ok (.iastore, 1))
    (kk : ∀ (H1 : Heap) (locs1 : List Loc), gI D s A w' H1 locs1 → W p l e R s m args below meth c H1 locs1 cells slots Q (F0 m (pc + 1) ls rest)) : W p l e R s m args below meth c H locs cells slots Q (F0 m pc ls (.int x :: .int i :: .ref a :: rest)) := by
  obtain ⟨n, f, h1, hin, rfl⟩ := gas_some hv
  refine W.iast hx hb (hI.2.1 a _ h1) ((hK.2 0 .int rfl).1 n f) (fun q => by cases q) (by show ¬ (i < 0 ∨ (arrV _ _ _).slots.size ≤ _); rw [arrV_size]; exact hin) rfl rfl hdg fun H1 e1 z1 o1 => ?_
  exact kk H1 _ (hI.put h1 (fun q => hin (Or.inr (by rw [show n = 0 from q]; exact Nat.zero_le _))) z1 o1 (e1.trans (by show some (Cell.setSlot (arrV _ _ _) _ _) = _; rw [arrV_store])))
theorem gw_astJ (hx : p.tables.exec = Jvm.exec) (hb : c.code = cc) (hK : gK D s) (hI : gI D s A w H locs) {i : Int32} {x : Int64} {w' : gW} (hv : gsJ w a i x = some w') (hdg : decode cc pc = .ok (.lastore, 1))
    (kk : ∀ (H1 : Heap) (locs1 : List Loc), gI D s A w' H1 locs1 → W p l e R s m args below meth c H1 locs1 cells slots Q (F0 m (pc + 1) ls rest)) : W p l e R s m args below meth c H locs cells slots Q (F0 m pc ls (.long x :: .int i :: .ref a :: rest)) := by
  obtain ⟨n, f, h1, hin, rfl⟩ := gas_some hv
  refine W.last hx hb (hI.2.1 a _ h1) ((hK.2 1 .long rfl).1 n f) (fun q => by cases q) (by show ¬ (i < 0 ∨ (arrV _ _ _).slots.size ≤ _); rw [arrV_size]; exact hin) rfl rfl hdg fun H1 e1 z1 o1 => ?_
  exact kk H1 _ (hI.put h1 (fun q => hin (Or.inr (by rw [show n = 0 from q]; exact Nat.zero_le _))) z1 o1 (e1.trans (by show some (Cell.setSlot (arrV _ _ _) _ _) = _; rw [arrV_store])))
end GR
end
section
/-! ===== ONE CONTRACT FORM: 'o' is how it ends (an exception's name, or the answer) and the world behind ===== -/
abbrev gG : Type := Nat × Nat
/-- a static that holds a reference or null, its cell outside what may change -/
def gSq (C n d : String) (A : Nat → Prop) (U : State) (H : Heap) : Prop := ∃ (c : ClassId) (k : Class) (i : Nat) (f : Field) (a : Nat) (cell : Cell) (v : Value), U.vm.findClass C = some c ∧ U.fieldFound? C n d = some (c, k, i, f) ∧ f.isStatic = true ∧ k.statics = some a ∧ H[a]? = some cell ∧ cell.vm.isStatics = true ∧ cell.cls = c ∧ cell.slots[f.slot]? = some v ∧ v.isRef = true ∧ k.staticTypes[f.slot]? = some f.type ∧ ¬ A a
theorem gSq.moved {C n d : String} {A : Nat → Prop} {u U : State} {H : Heap} (hvm : u.vm.Alike U.vm) (h : gSq C n d A u H) : gSq C n d A U H := by
  obtain ⟨c, k, i, f, a, cell, v, h1, h2, h3, h4, h5, h6, h7, h8, h9, h10, h11⟩ := h
  obtain ⟨k', hi', he⟩ := State.fieldFound?_setVm hvm h2
  exact ⟨c, k', i, f, a, cell, v, by rw [hvm.findClass]; exact h1, hi', h3, by rw [he]; exact h4, h5, h6, h7, h8, h9, by rw [he]; exact h10, h11⟩
theorem gSq.kept {C n d : String} {A : Nat → Prop} {U : State} {H H1 : Heap} (h : gSq C n d A U H) (hq : ∀ a : Nat, a < H.size → ¬ A a → H1[a]? = H[a]?) : gSq C n d A U H1 := by
  obtain ⟨c, k, i, f, a, cell, v, h1, h2, h3, h4, h5, h6, h7, h8, h9, h10, h11⟩ := h
  exact ⟨c, k, i, f, a, cell, v, h1, h2, h3, h4, by rw [hq a (Array.getElem?_eq_some_iff.mp h5).1 h11]; exact h5, h6, h7, h8, h9, h10, h11⟩
theorem gSq.narrow {C n d : String} {A B : Nat → Prop} {U : State} {H : Heap} (h : gSq C n d A U H) (hAB : ∀ q, B q → A q) : gSq C n d B U H := by
  obtain ⟨c, k, i, f, a, cell, v, h1, h2, h3, h4, h5, h6, h7, h8, h9, h10, h11⟩ := h
  exact ⟨c, k, i, f, a, cell, v, h1, h2, h3, h4, h5, h6, h7, h8, h9, h10, fun z => h11 (hAB _ z)⟩
theorem gSq.lays {C n d : String} {A : Nat → Prop} {s : State} {args : Array Value} (h : gSq C n d A s s.heap) : (Cond.laysStatic C n d).before args s = true := by
  obtain ⟨c, k, i, f, a, cell, v, h1, h2, h3, h4, h5, h6, h7, h8, h9, h10, h11⟩ := h
  show (Cond.laysStatic C n d).holds args s none s [] = true
  exact Cond.laysStatic_of h1 h2 h3 h4 h5 h6 h7 (k2_hasslot h8) h10
theorem gSq.isRef {C n d : String} {A : Nat → Prop} {s : State} {args : Array Value} (h : gSq C n d A s s.heap) : (Cond.isRef (.static C n d)).before args s = true := by
  obtain ⟨c, k, i, f, a, cell, v, h1, h2, h3, h4, h5, h6, h7, h8, h9, h10, h11⟩ := h
  have he : (Term.static C n d).eval args s none [] s = some v := by
    simp [Term.eval, State.fieldNamed?, h2, h3, h4, h5, h6, h8]
  simp only [Cond.before, Cond.holds, Cond.value, he]
  cases v <;> simp_all [Value.isRef]
theorem gSq.of {args : Array Value} {s : State} {C n d : String} {A : Nat → Prop} (hl : (Cond.laysStatic C n d).before args s = true) (h : (Cond.isRef (.static C n d)).before args s = true) (hA : ∀ a : Nat, a < s.heap.size → ¬ A a) : gSq C n d A s s.heap := by
  obtain ⟨c, k, i, f, a, cell, h1, h2, h3, h4, h5, h6, h7, h8, h9⟩ := Cond.laysStatic_spec hl
  obtain ⟨v, hv, hr⟩ := Cond.isRef_spec h
  obtain ⟨hst', a', cell', ha', hcell', -, hslot⟩ := Term.static_spec h2 hv
  cases h4.symm.trans ha'
  cases h5.symm.trans hcell'
  exact ⟨c, k, i, f, a, cell, v, h1, h2, h3, h4, h5, h6, h7, hslot, hr, h9, hA a (Array.getElem?_eq_some_iff.mp h5).1⟩
/-- the texts of the exceptions -/
def gTx : List (String × Nat × String) := [("BodySolids", 249, "no such number"), ("BodySolids", 254, "a value is out of its range"), ("BodySolids", 222, "the placement's body is empty")]
def gStr (U : State) : Prop := ∀ q ∈ gTx, ∃ a : Nat, vk_R q.1 q.2.1 q.2.2 a U
theorem gStr.warm {s U : State} (hW : s.WarmedH U.vm) (h : gStr s) : gStr U := fun q hq => (h q hq).elim fun a ha => ⟨a, vk_R.warm hW ha⟩
/-- what holds of statics and texts: outside what may change -/
def gZ (A : Nat → Prop) (U : State) (H : Heap) (g0 : gG) : Prop :=
  va_Z "java/util/ArrayList" "DEFAULTCAPACITY_EMPTY_ELEMENTDATA" "[Ljava/lang/Object;" (.ref g0.1) A U H ∧ va_Mi "[Ljava/lang/Object;" g0.2 U ∧ gSq "java/lang/Throwable" "UNASSIGNED_STACK" "[Ljava/lang/StackTraceElement;" A U H ∧ gSq "java/lang/Throwable" "SUPPRESSED_SENTINEL" "Ljava/util/List;" A U H ∧ gStr U
theorem gZ.warm {A : Nat → Prop} {s U : State} {H : Heap} {g0 : gG} (hW : s.WarmedH U.vm) (h : gZ A s H g0) : gZ A U H g0 := ⟨va_Z.moved hW.alike h.1, va_Mi.moved hW.alike h.2.1, gSq.moved hW.alike h.2.2.1, gSq.moved hW.alike h.2.2.2.1, gStr.warm hW h.2.2.2.2⟩
theorem gZ.kept {A : Nat → Prop} {U : State} {H H1 : Heap} {g0 : gG} (h : gZ A U H g0) (hq : ∀ a : Nat, a < H.size → ¬ A a → H1[a]? = H[a]?) : gZ A U H1 g0 := ⟨va_Z.kept h.1 hq, h.2.1, gSq.kept h.2.2.1 hq, gSq.kept h.2.2.2.1 hq, h.2.2.2.2⟩
theorem gZ.narrow {A B : Nat → Prop} {U : State} {H : Heap} {g0 : gG} (h : gZ A U H g0) (hAB : ∀ q, B q → A q) : gZ B U H g0 := ⟨va_Z.narrow h.1 hAB, h.2.1, gSq.narrow h.2.2.1 hAB, gSq.narrow h.2.2.2.1 hAB, h.2.2.2.2⟩
def gA (w : gW) : Nat → Prop := fun q => (∃ e : gE, w.1 q = some e ∧ gRW e) ∨ w.2 ≤ q
def gPre (D : gD) (g0 : gG) (w : gW) (U : State) : Prop := U.heap.size = w.2 ∧ (∀ (a : Nat) (e : gE), w.1 a = some e → gAt D a e U.heap) ∧ gK D U ∧ gT U ∧ gZ (gA w) U U.heap g0
/-- the world behind, and nothing else moved -/
def gEnd (D : gD) (w w' : gW) (st t : State) : Prop := t.heap.size = w'.2 ∧ (∀ (a : Nat) (e : gE), w'.1 a = some e → gAt D a e t.heap) ∧ (∀ (a : Nat) (e : gE), w'.1 a = some e → gRW e → gA w a) ∧ va_F (gA w) st t
def gQ (D : gD) (w : gW) (o : (String ⊕ Option Value) × gW) (mc ms : Nat) : Array Value → State → Outcome → State → Prop := fun _ st oc t =>
  gEnd D w o.2 st t ∧ st.WarmedH t.vm ∧ (∃ L : List Loc, st.sameButNew ({ t with vm := st.vm } : State) L mc ms ∧ ∀ z ∈ L, gA w z.base) ∧
    match o.1 with
    | .inl E => ∃ (q : Addr) (ce : Cell), oc = .threw q ∧ t.heap[q]? = some ce ∧ ce.vm = .none ∧ st.vm.findClass E = some ce.cls
    | .inr v => oc = .returned v
def gMet (l : Launch) (y : MethodName) (k : Cond) (rm : Room) (D : gD) (g0 : gG) (av : List Value) (w : gW) (o : (String ⊕ Option Value) × gW) : Prop :=
  MetFree l y (headSpec [k] rm) (fun v U => v = av.toArray ∧ gPre D g0 w U) (fun _ _ _ _ _ => True) (gQ D w o rm.cells rm.slots)
theorem gPre.blind {D : gD} {g0 : gG} {w : gW} {U : State} {g : JFrame} {mk : MethodId} {a : Array Value} (h : gPre D g0 w U) : gPre D g0 w (U.calling g mk a) := by
  obtain ⟨h1, h2, h3, h4, h5⟩ := h
  refine ⟨h1, h2, gK.moved (u := U) (U := U.calling g mk a) (Vm.Alike.refl U.vm) h3, gT.warm (s := U) (U := U.calling g mk a) (State.WarmedH.refl U) h4, gZ.warm (s := U) (U := U.calling g mk a) (State.WarmedH.refl U) h5⟩
def gEndH (D : gD) (w w' : gW) (H H' : Heap) : Prop := H'.size = w'.2 ∧ (∀ (a : Nat) (e : gE), w'.1 a = some e → gAt D a e H') ∧ (∀ (a : Nat) (e : gE), w'.1 a = some e → gRW e → gA w a) ∧ H.size ≤ H'.size ∧ ∀ q : Nat, q < H.size → ¬ gA w q → H'[q]? = H[q]?
theorem gEnd.heaps {D : gD} {w w' : gW} {st t : State} (h : gEnd D w w' st t) : gEndH D w w' st.heap t.heap := ⟨h.1, h.2.1, h.2.2.1, h.2.2.2.1, h.2.2.2.2⟩
section GB
variable {l : Launch} {R : Room} {p : Program} {e : Env} {below : List Frame} {s : State} {sargs : Array Value} {y : MethodName} {len W9 : Nat}
/-- a contract used at a call: the callee's frame is laid, it runs, it returns or throws -/
theorem gw_back {k : Cond} {rm : Room} {D : gD} {g0 : gG} {av : List Value} {w : gW} {o : (String ⊕ Option Value) × gW} {maxL : Nat} (hM : gMet l y k rm D g0 av w o) (hframes : rm.frames + 1 ≤ R.frames) (hlocals : W9 + (maxL + 11) + rm.locals ≤ R.locals)
    (hk : ∀ (a' : Array Value) (U : State), s.WarmedH U.vm → k.before a' U = true) (hinit : ∀ (a' : Array Value) (U : State), s.WarmedH U.vm → (Cond.initialized y.cls).before a' U = true)
    (hsp : ∀ (a : Array Value) (U : State) (mk : MethodId), U.methodNamed? y = some mk → k.before a U = true → ∃ methY cY, U.vm.method? mk = some methY ∧ methY.code = some cY ∧ cY.maxLocals = maxL)
    {m : MethodId} {meth : Method} {c : Code} {U : State} {Ls : List Loc} {c0 s0 : Nat} (X : Stand p l e R s m sargs below meth c U Ls c0 s0) {g : JFrame} {ig : Instr} {mk : MethodId} (hg : g.method = m) (hsize : g.locals.size = c.maxLocals) (hdg : decode c.code g.pc = .ok (ig, len))
    (hW : 2 * g.monitorRoom + (g.stack.map fun v => v.category).sum ≤ W9) (hn : U.methodNamed? y = some mk) (hc : c0 + rm.cells ≤ R.cells) (hs : s0 + rm.slots ≤ R.slots) (hP : gPre D g0 w U) :
    ∃ (T' : State) (L : List Loc), Stand p l e R s m sargs below meth c T' (Ls ++ L) (c0 + rm.cells) (s0 + rm.slots) ∧ (∀ z ∈ L, gA w z.base) ∧ gEndH D w o.2 U.heap T'.heap ∧
      match o.1 with
      | .inr v => Steps p.tables e below (doInvoke e (U.setTop g) [] mk av.toArray).1 (T'.setTop { g with pc := g.pc + len, stack := v.toList ++ g.stack })
      | .inl E => ∃ (q : Addr) (ce : Cell), T'.heap[q]? = some ce ∧ ce.vm = .none ∧ U.vm.findClass E = some ce.cls ∧ Steps p.tables e below (doInvoke e (U.setTop g) [] mk av.toArray).1 ((T'.setTop g).pushFrame (.throwing q)) := by
  have h2 : k.before av.toArray U = true := hk _ _ X.warmed
  obtain ⟨methY, cY, hmY, hcY, hlY⟩ := hsp av.toArray U mk hn h2
  obtain ⟨kY, hkY, -⟩ := className_of_methodNamed hn
  have hinitY : kY.init = .initialized := Cond.initialized_spec (findClass_of_methodNamed hn) hkY (hinit av.toArray U X.warmed)
  have h : At U g.method c below := by rw [hg]; exact X.here
  have happ : (headSpec [k] rm).appliesLoose y e.platform (U.calling g mk av.toArray) = true :=
    Spec.appliesLoose_calling (g := g) h hdg hn hkY hinitY
      (X.room_calling (g := g) (R' := (headSpec [k] rm).room) hsize hmY hcY hframes (by rw [hlY]; have q : (headSpec [k] rm).room.locals = rm.locals := rfl; omega) hc hs) (atoms_intro fun z hz => by rw [List.mem_singleton.mp hz]; exact h2)
  obtain ⟨mid, hmid⟩ := h.above
  have hfr : (U.setTop g).frames = (.java g :: mid) ++ below := by rw [State.frames_setTop' g h.top, hmid]; rfl
  obtain ⟨oc, t, hsteps, -, hend, hq⟩ := Steps.callFree hM p X.admits X.cas X.clock (acts := []) hfr happ ⟨rfl, hP.blind⟩ trivial
  have hq' : gQ D w o rm.cells rm.slots av.toArray (U.calling g mk av.toArray) oc t := hq
  rw [State.frames_setTop' g h.top] at hend
  obtain ⟨g₀, hg0⟩ := Option.isSome_iff_exists.mp h.top
  obtain ⟨r, hr⟩ := State.topJava?_eq_some.mp hg0
  obtain ⟨hE, hWt, ⟨L, hsm, hL⟩, hout⟩ := hq'
  have hW' : U.WarmedH t.vm := hWt
  obtain ⟨e1, e2, e3, e4, e5, e6⟩ := id hsm
  obtain ⟨T', hT'⟩ : ∃ T', T' = (({ U with heap := t.heap, slotsUsed := t.slotsUsed } : State).setVm t.vm) := ⟨_, rfl⟩
  have hr' : T'.frames = .java g₀ :: r := by rw [hT']; exact hr
  have ht : t = ({ (U.calling g mk av.toArray).setFrames t.frames with heap := t.heap, slotsUsed := t.slotsUsed } : State).setVm t.vm := by
    have q : t = ({ t with vm := (U.calling g mk av.toArray).vm } : State).setVm t.vm := rfl
    rw [e1] at q
    exact q
  have hsame : U.sameButNew ({ U with heap := t.heap, slotsUsed := t.slotsUsed } : State) L rm.cells rm.slots := by
    refine ⟨?_, e2, e3, e4, e5, e6⟩
    obtain ⟨z, hz, -⟩ := State.frames_cons hr
    show ({ U with heap := t.heap, slotsUsed := t.slotsUsed } : State) = { U.setFrames U.frames with heap := t.heap, slotsUsed := t.slotsUsed }
    rw [State.setFrames_self hz]
  have X' : Stand p l e R s m sargs below meth c T' (Ls ++ L) (c0 + rm.cells) (s0 + rm.slots) := by
    subst hg
    rw [hT']
    exact ⟨X.admits, X.cas, X.clock, X.frames, X.room, X.hears, X.method, X.code, (X.here.setHeapUsed t.heap t.slotsUsed).setVm hW'.alike, X.tail, State.WarmedH.trans X.warmed hW', X.limits, X.bytes, X.same.trans (hsame.setVm s.vm)⟩
  have hheap : T'.heap = t.heap := by rw [hT']; rfl
  refine ⟨T', L, X', hL, by rw [hheap]; exact hE.heaps, ?_⟩
  obtain ⟨o1, o2⟩ := o
  cases o1 with
  | inr v =>
    have hv : oc = .returned v := hout
    subst hv
    obtain ⟨c₂, i₂, len₂, hc₂, hd₂, hf₂⟩ := hend
    have hcc : c₂ = c := by
      have q1 : t.code? g.method = U.code? g.method := by rw [State.code?_eq, State.code?_eq, hW'.alike.method?]
      exact Option.some.inj (hc₂.symm.trans (q1.trans h.code))
    subst hcc
    have hlen : len₂ = len := by rw [hdg] at hd₂; cases hd₂; rfl
    subst hlen
    have hs₂ : t = T'.setTop { g with pc := g.pc + len₂, stack := v.toList ++ g.stack } := by
      refine ht.trans ?_
      rw [hf₂, State.calling_eq h.top, State.setFrames_setFrames, State.setTop_of_frames _ hr', hr, hT']
      rfl
    show Steps p.tables e below _ (T'.setTop { g with pc := g.pc + len₂, stack := v.toList ++ g.stack })
    rw [← hs₂]
    exact hsteps
  | inl E =>
    obtain ⟨q, ce, rfl, hce, hcv, hcl⟩ := hout
    have hf₂ : t.frames = .throwing q :: .java g :: U.frames.tail := hend
    have hs₂ : t = (T'.setTop g).pushFrame (.throwing q) := by
      refine ht.trans ?_
      rw [hf₂, State.calling_eq h.top, State.setFrames_setFrames, State.pushFrame, State.frames_setTop _ hr', State.setTop_of_frames _ hr', State.setFrames_setFrames, hr, hT']
      rfl
    refine ⟨q, ce, by rw [hheap]; exact hce, hcv, hcl, ?_⟩
    rw [← hs₂]
    exact hsteps
end GB
/-- a call as a whole -/
def gRun (p : Program) (l : Launch) (e : Env) (R : Room) (s : State) (m : MethodId) (args : Array Value) (below : List Frame) (meth : Method) (c : Code) (H : Heap) (locs : List Loc) (cells slots : Nat) (g : JFrame) (rest : List Value) (rm : Room) (D : gD) (w : gW) (o : (String ⊕ Option Value) × gW) : Prop :=
  ∀ T : State, T.heap = H → Stand p l e R s m args below meth c T locs cells slots → ∃ (T' : State) (L : List Loc), Stand p l e R s m args below meth c T' (locs ++ L) (cells + rm.cells) (slots + rm.slots) ∧ (∀ z ∈ L, gA w z.base) ∧ gEndH D w o.2 H T'.heap ∧
    match o.1 with
    | .inr v => ∀ tg, Steps p.tables e below (T'.setTop { g with pc := g.pc + 3, stack := v.toList ++ rest }) tg → Steps p.tables e below (T.setTop g) tg
    | .inl E => ∃ (q : Addr) (ce : Cell), T'.heap[q]? = some ce ∧ ce.vm = .none ∧ s.vm.findClass E = some ce.cls ∧ Steps p.tables e below (T.setTop g) ((T'.setTop { g with stack := rest }).pushFrame (.throwing q))
section GC
variable {p : Program} {l : Launch} {e : Env} {R : Room} {s : State} {m : MethodId} {args : Array Value} {below : List Frame} {meth : Method} {c : Code} {H : Heap} {locs : List Loc} {cells slots : Nat}
/-- what a call needs to know of its callee, whoever calls -/
def gCe (y : MethodName) (k : Cond) (maxL n : Nat) (st : Bool) : Prop :=
  (k ∈ gAll ∧ goodWord k = true) ∧ (Cond.initialized y.cls ∈ gAll) ∧ (if st then Cond.static y ∈ gAll else Cond.instanceMethod y ∈ gAll) ∧ (y.cls ≠ "java/lang/invoke/MethodHandle" ∧ y.cls ≠ "java/lang/invoke/VarHandle") ∧ (parseMethodDescriptor y.desc).map (fun d => d.parameters.length) = some n ∧
  (∀ (a : Array Value) (U : State) (mk : MethodId), U.methodNamed? y = some mk → k.before a U = true → ∃ methY cY, U.vm.method? mk = some methY ∧ methY.code = some cY ∧ cY.maxLocals = maxL ∧ parseMethodDescriptor y.desc = some methY.sig)
theorem gCe.code {y : MethodName} {b : ByteArray} {maxL n : Nat} {ret : Option FieldType} {st : Bool} (h1 : Cond.code y b maxL ret ∈ gAll) (h2 : Cond.initialized y.cls ∈ gAll) (h3 : if st then Cond.static y ∈ gAll else Cond.instanceMethod y ∈ gAll) (h4 : y.cls ≠ "java/lang/invoke/MethodHandle" ∧ y.cls ≠ "java/lang/invoke/VarHandle") (h5 : (parseMethodDescriptor y.desc).map (fun d => d.parameters.length) = some n) : gCe y (.code y b maxL ret) maxL n st := by
  refine ⟨⟨h1, rfl⟩, h2, h3, h4, h5, fun a U mk hn hb => ?_⟩
  obtain ⟨methM, cM, hmethM, hcM, -, hlM, -, -, -, hsigM⟩ := Cond.code_spec hn hb
  exact ⟨methM, cM, hmethM, hcM, hlM, hsigM⟩
theorem gCe.len {y : MethodName} {k : Cond} {maxL n : Nat} {st : Bool} (h : gCe y k maxL n st) {sig : MethodDescriptor} (hs : parseMethodDescriptor y.desc = some sig) : n = sig.parameters.length := by
  have h2 := h.2.2.2.2.1
  rw [hs] at h2
  exact (Option.some.inj h2).symm
theorem gCe.k {y : MethodName} {k : Cond} {maxL n : Nat} {st : Bool} (h : gCe y k maxL n st) (hT : gT s) : ∀ (a' : Array Value) (U : State), s.WarmedH U.vm → k.before a' U = true := fun a' U hW => word_at hW (good_of_word h.1.2) (hT _ h.1.1 #[])
theorem gCe.i {y : MethodName} {k : Cond} {maxL n : Nat} {st : Bool} (h : gCe y k maxL n st) (hT : gT s) : ∀ (a' : Array Value) (U : State), s.WarmedH U.vm → (Cond.initialized y.cls).before a' U = true := fun a' U hW => word_at hW (good_of_word rfl) (hT _ h.2.1 #[])
theorem gPre.up {D : gD} {g0 : gG} {w : gW} {A : Nat → Prop} {T : State} {vm₁ : Vm} (hT0 : T.heap = H) (hW : s.WarmedH vm₁) (hK : gK D s) (hT : gT s) (hZ : gZ A s s.heap g0) (hA : ∀ q : Nat, s.heap.size ≤ q → A q) (hI : gI D s A w H locs) : gPre D g0 w (T.setVm vm₁) := by
  obtain ⟨h1, h2, h3, h4⟩ := hI
  have hh : (T.setVm vm₁).heap = H := hT0
  have hsub : ∀ q : Nat, gA w q → A q := fun q hq => hq.elim (fun ⟨e, q1, q2⟩ => h4 q e q1 q2) (fun z => hA q (Nat.le_trans h3.1 (by rw [h1]; exact z)))
  refine ⟨by rw [hh]; exact h1, fun a e he => by rw [hh]; exact h2 a e he, gK.moved hW.alike hK, gT.warm (U := T.setVm vm₁) hW hT, ?_⟩
  rw [hh]
  exact gZ.narrow (gZ.warm (U := T.setVm vm₁) hW (gZ.kept hZ h3.2.1)) hsub
variable {y : MethodName} {k : Cond} {maxL n index nL : Nat} {rm : Room} {D : gD} {g0 : gG} {w : gW} {A : Nat → Prop} {o : (String ⊕ Option Value) × gW} {As rest : List Value} {g : JFrame} {cc : ByteArray} {own : String}
theorem gw_runS (hx : p.tables.exec = Jvm.exec) (hb : c.code = cc) (hml : c.maxLocals = nL) (hown : s.vm.findClass own = some m.cls) (hT : gT s) (hK : gK D s) (hZ : gZ A s s.heap g0) (hA : ∀ q : Nat, s.heap.size ≤ q → A q) (hI : gI D s A w H locs)
    (hM : gMet l y k rm D g0 As w o) (hC : gCe y k maxL n true) (hl : Cond.methodLink own index y ∈ gAll) (hR : rm.frames + 1 ≤ R.frames ∧ 8 + (maxL + 11) + rm.locals ≤ R.locals)
    (hg : g.method = m) (hn : As.length = n) (hsize : g.locals.size = nL) (hstack : g.stack = As.reverse ++ rest) (hW : 2 * g.monitorRoom + (rest.map fun v => v.category).sum ≤ 8) (hdg : decode cc g.pc = .ok (.invokestatic index, 3)) (hf : cells + rm.cells ≤ R.cells ∧ slots + rm.slots ≤ R.slots) :
    gRun p l e R s m args below meth c H locs cells slots g rest rm D w o := by
  intro T hT0 X
  obtain ⟨mk, hnamed⟩ : ∃ mk, s.methodNamed? y = some mk := by
    have h := hT _ hC.2.2.1 #[]
    revert h
    simp only [Cond.before, Cond.holds, Cond.value]
    cases s.methodNamed? y with
    | none => simp
    | some mk => exact fun _ => ⟨mk, rfl⟩
  obtain ⟨methM, cM, hmethM, -, -, hsigM⟩ := hC.2.2.2.2.2 #[] s mk hnamed (hT _ hC.1.1 #[])
  have hstatic : methM.isStatic = true := Cond.static_spec hnamed hmethM (hT _ hC.2.2.1 #[])
  obtain ⟨kP, hkP, -⟩ := className_of_methodNamed hnamed
  have hinitP : kP.init = .initialized := Cond.initialized_spec (findClass_of_methodNamed hnamed) hkP (hT _ hC.2.1 #[])
  obtain ⟨vm₁, X₁, hstep₁⟩ := X.invokestatic hx hown (hT _ hl args) hnamed hmethM hstatic hkP hinitP hC.2.2.2.1 (g := g) hg (argsL := As) (rest := rest) (hn.trans (hC.len hsigM)) hstack (by rw [hb]; exact hdg)
  obtain ⟨T', L, X', hL, hE, hout⟩ := gw_back (W9 := 8) (len := 3) (maxL := maxL) hM hR.1 hR.2 (hC.k hT) (hC.i hT) (fun a U mk hn hb => by obtain ⟨q1, q2, q3, q4, q5, -⟩ := hC.2.2.2.2.2 a U mk hn hb; exact ⟨q1, q2, q3, q4, q5⟩) X₁ (g := { g with stack := rest }) (ig := .invokestatic index) hg (hsize.trans hml.symm) (by rw [hb]; exact hdg) hW (X₁.named hnamed) hf.1 hf.2 (gPre.up hT0 X₁.warmed hK hT hZ hA hI)
  refine ⟨T', L, X', hL, by rw [← hT0]; exact hE, ?_⟩
  obtain ⟨o1, o2⟩ := o
  cases o1 with
  | inr v => exact fun tg h => hstep₁ _ fun acts => by rw [doInvoke_state]; exact hout.trans h
  | inl E =>
    obtain ⟨q, ce, h1, h2, h3, h4⟩ := hout
    refine ⟨q, ce, h1, h2, ?_, hstep₁ _ fun acts => by rw [doInvoke_state]; exact h4⟩
    rw [X₁.warmed.alike.findClass] at h3
    exact h3
/-- the receiver of a call -/
theorem gI.recv {b ci : Nat} {C : String} {T : u_T} {N : Nat} {u : Unit} (hK : gK D s) (hI : gI D s A w H locs) (hc : gCl[ci]? = some (C, T, N)) (h : gck w b ci = some u) : ∃ cellB : Cell, H[b]? = some cellB ∧ cellB.vm.isStatics = false ∧ s.vm.findClass C = some cellB.cls := by
  obtain ⟨fs, h1⟩ := gck_some h
  obtain ⟨r, hr, cell, q1, q2, q3, q4⟩ := hI.2.1 b _ h1
  exact ⟨cell, q1, by rw [q3]; rfl, by rw [q2]; exact (hK.1 ci _ hc).2.1⟩
theorem gw_runV {b ci N : Nat} {C : String} {T0 : u_T} {u : Unit} (hx : p.tables.exec = Jvm.exec) (hb : c.code = cc) (hml : c.maxLocals = nL) (hown : s.vm.findClass own = some m.cls) (hT : gT s) (hK : gK D s) (hZ : gZ A s s.heap g0) (hA : ∀ q : Nat, s.heap.size ≤ q → A q) (hI : gI D s A w H locs)
    (hc : gCl[ci]? = some (C, T0, N)) (hck : gck w b ci = some u) (hM : gMet l y k rm D g0 (.ref b :: As) w o) (hC : gCe y k maxL n false) (hl : Cond.methodLink own index y ∈ gAll) (hse : Cond.selects C y y ∈ gAll) (hR : rm.frames + 1 ≤ R.frames ∧ 8 + (maxL + 11) + rm.locals ≤ R.locals)
    (hg : g.method = m) (hn : As.length = n) (hsize : g.locals.size = nL) (hstack : g.stack = As.reverse ++ .ref b :: rest) (hW : 2 * g.monitorRoom + (rest.map fun v => v.category).sum ≤ 8) (hdg : decode cc g.pc = .ok (.invokevirtual index, 3)) (hf : cells + rm.cells ≤ R.cells ∧ slots + rm.slots ≤ R.slots) :
    gRun p l e R s m args below meth c H locs cells slots g rest rm D w o := by
  intro T hT0 X
  obtain ⟨mk, methM, hnamed, hmethM, hstM, habM⟩ := Cond.instanceMethod_spec (hT _ hC.2.2.1 args)
  obtain ⟨methM', cM, hmethM', -, -, hsigM⟩ := hC.2.2.2.2.2 #[] s mk hnamed (hT _ hC.1.1 #[])
  cases hmethM.symm.trans hmethM'
  obtain ⟨cellB, hcB, hoB, hclB⟩ := hI.recv hK hc hck
  obtain ⟨c2, r2, m2, q1, q2, q3, q4, kP, hkP, hkPi⟩ := Cond.selects_spec (hT _ hse args)
  cases hclB.symm.trans q1
  cases (State.methodFound?_of_named hnamed hC.2.2.2.1).symm.trans q2
  cases hnamed.symm.trans q3
  have hselP : selectMethod e.platform s.vm cellB.cls mk = .method mk := by rw [Launch.admits_selectMethod X.admits]; exact q4
  obtain ⟨vm₁, X₁, hstep₁⟩ := X.invokevirtual hx hown (hT _ hl args) hnamed hmethM hstM hkP hkPi hC.2.2.2.1 (a := b) (cell := cellB) (by rw [hT0]; exact hcB)
    (fun z h => by rw [h] at hoB; cases hoB) hselP hmethM habM hkP hkPi (g := g) hg (argsL := As) (rest := rest) (hn.trans (hC.len hsigM)) hstack (by rw [hb]; exact hdg)
  obtain ⟨T', L, X', hL, hE, hout⟩ := gw_back (W9 := 8) (len := 3) (maxL := maxL) hM hR.1 hR.2 (hC.k hT) (hC.i hT) (fun a U mk hn hb => by obtain ⟨q1, q2, q3, q4, q5, -⟩ := hC.2.2.2.2.2 a U mk hn hb; exact ⟨q1, q2, q3, q4, q5⟩) X₁ (g := { g with stack := rest }) (ig := .invokevirtual index) hg (hsize.trans hml.symm) (by rw [hb]; exact hdg) hW (X₁.named hnamed) hf.1 hf.2 (gPre.up hT0 X₁.warmed hK hT hZ hA hI)
  refine ⟨T', L, X', hL, by rw [← hT0]; exact hE, ?_⟩
  obtain ⟨o1, o2⟩ := o
  cases o1 with
  | inr v => exact fun tg h => hstep₁ _ fun acts => by rw [doInvoke_state]; exact hout.trans h
  | inl E =>
    obtain ⟨q, ce, h1, h2, h3, h4⟩ := hout
    refine ⟨q, ce, h1, h2, ?_, hstep₁ _ fun acts => by rw [doInvoke_state]; exact h4⟩
    rw [X₁.warmed.alike.findClass] at h3
    exact h3
theorem gw_runI {b : Nat} {bs : ByteArray} (hx : p.tables.exec = Jvm.exec) (hb : c.code = cc) (hml : c.maxLocals = nL) (hown : s.vm.findClass own = some m.cls) (hT : gT s) (hK : gK D s) (hZ : gZ A s s.heap g0) (hA : ∀ q : Nat, s.heap.size ≤ q → A q) (hI : gI D s A w H locs)
    (hM : gMet l y (.code y bs maxL none) rm D g0 (.ref b :: As) w o) (hC : gCe y (.code y bs maxL none) maxL n false) (hl : Cond.methodLink own index y ∈ gAll) (hy1 : y.name = "<init>") (hR : rm.frames + 1 ≤ R.frames ∧ 8 + (maxL + 11) + rm.locals ≤ R.locals)
    (hg : g.method = m) (hn : As.length = n) (hsize : g.locals.size = nL) (hstack : g.stack = As.reverse ++ .ref b :: rest) (hW : 2 * g.monitorRoom + (rest.map fun v => v.category).sum ≤ 8) (hdg : decode cc g.pc = .ok (.invokespecial index, 3)) (hf : cells + rm.cells ≤ R.cells ∧ slots + rm.slots ≤ R.slots) :
    gRun p l e R s m args below meth c H locs cells slots g rest rm D w o := by
  subst hg
  intro T hT0 X
  have hpl : e.platform.magicAccessors = ({} : Platform).magicAccessors := by rw [X.admits.platform]
  obtain ⟨mk, methM, cM, kP, vm₁, hnamed, hmethM, hcodeM, -, hlocalsM, -, hkP, -, hW₁, hstep₁⟩ := Steps.initColdArgs (e := e) X.here hx X.warmed hpl hown hy1 hC.2.2.2.1 (hT _ hl args) (hT _ hC.2.2.1 args) (hT _ hC.1.1 args) (f := g) rfl (fun sig h => hn.trans (hC.len h)) hstack (by rw [hb]; exact hdg)
  have X₁ := X.noted hW₁
  obtain ⟨T', L, X', hL, hE, hout⟩ := gw_back (W9 := 8) (len := 3) (maxL := maxL) hM hR.1 hR.2 (hC.k hT) (hC.i hT) (fun a U mk hn hb => by obtain ⟨q1, q2, q3, q4, q5, -⟩ := hC.2.2.2.2.2 a U mk hn hb; exact ⟨q1, q2, q3, q4, q5⟩) X₁ (g := { g with stack := rest }) (ig := .invokespecial index) rfl (hsize.trans hml.symm) (by rw [hb]; exact hdg) hW (X₁.named hnamed) hf.1 hf.2 (gPre.up hT0 X₁.warmed hK hT hZ hA hI)
  refine ⟨T', L, X', hL, by rw [← hT0]; exact hE, ?_⟩
  obtain ⟨o1, o2⟩ := o
  cases o1 with
  | inr v => exact fun tg h => hstep₁ _ fun acts => by rw [doInvoke_state]; exact hout.trans h
  | inl E =>
    obtain ⟨q, ce, h1, h2, h3, h4⟩ := hout
    refine ⟨q, ce, h1, h2, ?_, hstep₁ _ fun acts => by rw [doInvoke_state]; exact h4⟩
    rw [X₁.warmed.alike.findClass] at h3
    exact h3
theorem gw_runIN {b : Nat} {bs : ByteArray} {host : String} (hx : p.tables.exec = Jvm.exec) (hb : c.code = cc) (hml : c.maxLocals = nL) (hown : s.vm.findClass own = some m.cls) (hT : gT s) (hK : gK D s) (hZ : gZ A s s.heap g0) (hA : ∀ q : Nat, s.heap.size ≤ q → A q) (hI : gI D s A w H locs)
    (hM : gMet l y (.code y bs maxL none) rm D g0 (.ref b :: As) w o) (hC : gCe y (.code y bs maxL none) maxL n false) (hl : Cond.methodLinkNest own index y host ∈ gAll) (hy1 : y.name = "<init>") (hR : rm.frames + 1 ≤ R.frames ∧ 8 + (maxL + 11) + rm.locals ≤ R.locals)
    (hg : g.method = m) (hn : As.length = n) (hsize : g.locals.size = nL) (hstack : g.stack = As.reverse ++ .ref b :: rest) (hW : 2 * g.monitorRoom + (rest.map fun v => v.category).sum ≤ 8) (hdg : decode cc g.pc = .ok (.invokespecial index, 3)) (hf : cells + rm.cells ≤ R.cells ∧ slots + rm.slots ≤ R.slots) :
    gRun p l e R s m args below meth c H locs cells slots g rest rm D w o := by
  subst hg
  intro T hT0 X
  have hpl : e.platform.magicAccessors = ({} : Platform).magicAccessors := by rw [X.admits.platform]
  obtain ⟨mk, methM, cM, kP, vm₁, hnamed, hmethM, hcodeM, -, hlocalsM, -, hkP, -, hW₁, hstep₁⟩ := Steps.initColdArgsNest (e := e) X.here hx X.warmed hpl hown hy1 hC.2.2.2.1 (hT _ hl args) (hT _ hC.2.2.1 args) (hT _ hC.1.1 args) (f := g) rfl (fun sig h => hn.trans (hC.len h)) hstack (by rw [hb]; exact hdg)
  have X₁ := X.noted hW₁
  obtain ⟨T', L, X', hL, hE, hout⟩ := gw_back (W9 := 8) (len := 3) (maxL := maxL) hM hR.1 hR.2 (hC.k hT) (hC.i hT) (fun a U mk hn hb => by obtain ⟨q1, q2, q3, q4, q5, -⟩ := hC.2.2.2.2.2 a U mk hn hb; exact ⟨q1, q2, q3, q4, q5⟩) X₁ (g := { g with stack := rest }) (ig := .invokespecial index) rfl (hsize.trans hml.symm) (by rw [hb]; exact hdg) hW (X₁.named hnamed) hf.1 hf.2 (gPre.up hT0 X₁.warmed hK hT hZ hA hI)
  refine ⟨T', L, X', hL, by rw [← hT0]; exact hE, ?_⟩
  obtain ⟨o1, o2⟩ := o
  cases o1 with
  | inr v => exact fun tg h => hstep₁ _ fun acts => by rw [doInvoke_state]; exact hout.trans h
  | inl E =>
    obtain ⟨q, ce, h1, h2, h3, h4⟩ := hout
    refine ⟨q, ce, h1, h2, ?_, hstep₁ _ fun acts => by rw [doInvoke_state]; exact h4⟩
    rw [X₁.warmed.alike.findClass] at h3
    exact h3
end GC
end
section
/-! ===== a method's body: how it ends ===== -/
def gMQ (below : List Frame) (D : gD) (w : gW) (o : (String ⊕ Option Value) × gW) (mc ms : Nat) (a : Array Value) (s : State) : State → Prop := fun t => ∃ oc, t.status = .running ∧ Ended t below oc ∧ gQ D w o mc ms a s oc t
/-- the frame g, with q thrown over it -/
def gXW (p : Program) (l : Launch) (e : Env) (R : Room) (s : State) (m : MethodId) (args : Array Value) (below : List Frame) (meth : Method) (c : Code) (H : Heap) (locs : List Loc) (cells slots : Nat) (Q : State → Prop) (g : JFrame) (q : Addr) : Prop :=
  ∀ T : State, T.heap = H → Stand p l e R s m args below meth c T locs cells slots → ∃ t, Steps p.tables e below ((T.setTop g).pushFrame (.throwing q)) t ∧ Q t
def goI (x : (String ⊕ Int32) × gW) : (String ⊕ Option Value) × gW := (match x.1 with | .inl E => .inl E | .inr v => .inr (some (.int v)), x.2)
def goJ (x : (String ⊕ Int64) × gW) : (String ⊕ Option Value) × gW := (match x.1 with | .inl E => .inl E | .inr v => .inr (some (.long v)), x.2)
def goA (x : (String ⊕ Nat) × gW) : (String ⊕ Option Value) × gW := (match x.1 with | .inl E => .inl E | .inr v => .inr (some (.ref v)), x.2)
def goV (x : (String ⊕ Unit) × gW) : (String ⊕ Option Value) × gW := (match x.1 with | .inl E => .inl E | .inr _ => .inr none, x.2)
/-- how an exception leaves -/
abbrev gEx (p : Program) (l : Launch) (e : Env) (R : Room) (s : State) (m : MethodId) (args : Array Value) (below : List Frame) (meth : Method) (c : Code) (Q : State → Prop) (D : gD) (A : Nat → Prop) {α : Type} (r : (String ⊕ α) × gW) : Prop :=
  ∀ (E : String) (w1 : gW), r = (.inl E, w1) → ∀ (pc : Nat) (ls : Array Slot) (rest : List Value) (H : Heap) (locs : List Loc) (q : Addr) (ce : Cell), gI D s A w1 H locs → H[q]? = some ce → ce.vm = .none → s.vm.findClass E = some ce.cls → gXW p l e R s m args below meth c H locs R.cells R.slots Q (F0 m pc ls rest) q
section GM
variable {p : Program} {l : Launch} {e : Env} {R : Room} {s : State} {m : MethodId} {args : Array Value} {below : List Frame} {meth : Method} {c : Code} {H : Heap} {locs : List Loc} {cells slots : Nat} {Q : State → Prop}
variable {pc : Nat} {ls : Array Slot} {rest st0 : List Value} {D : gD} {A : Nat → Prop} {w : gW} {rm : Room}
theorem gI.after {w' : gW} {H' : Heap} {L : List Loc} (hA : ∀ q : Nat, s.heap.size ≤ q → A q) (hI : gI D s A w H locs) (hE : gEndH D w w' H H') (hL : ∀ z ∈ L, gA w z.base) : gI D s A w' H' (locs ++ L) := by
  obtain ⟨h1, h2, h3, h4⟩ := hI
  obtain ⟨g1, g2, g3, g4, g5⟩ := hE
  have hsub : ∀ q : Nat, gA w q → A q := fun q hq => hq.elim (fun ⟨e, q1, q2⟩ => h4 q e q1 q2) (fun z => hA q (Nat.le_trans h3.1 (by rw [h1]; exact z)))
  refine ⟨g1, g2, ⟨Nat.le_trans h3.1 g4, fun q q1 q2 => ?_, fun z hz => ?_⟩, fun a e he hr => hsub _ (g3 a e he hr)⟩
  · rw [g5 q (Nat.lt_of_lt_of_le q1 h3.1) (fun z => q2 (hsub q z))]
    exact h3.2.1 q q1 q2
  · rcases List.mem_append.mp hz with h | h
    · exact h3.2.2 z h
    · exact hsub _ (hL z h)
theorem gw_callI {β : Type} {X : gX Int32} {K : Int32 → gW → gX β} {r : (String ⊕ β) × gW} {ov : (String ⊕ Int32) × gW} (e1 : X = some ov) (h : gbind X K = some r) (hr : gRun p l e R s m args below meth c H locs cells slots (F0 m pc ls st0) rest rm D w (goI ov)) (hI : gI D s A w H locs) (hA : ∀ q : Nat, s.heap.size ≤ q → A q) (hexc : gEx p l e R s m args below meth c Q D A r) (hc : cells + rm.cells ≤ R.cells) (hs : slots + rm.slots ≤ R.slots)
    (kk : ∀ (v : Int32) (w1 : gW) (H1 : Heap) (locs1 : List Loc), K v w1 = some r → gI D s A w1 H1 locs1 → W p l e R s m args below meth c H1 locs1 (cells + rm.cells) (slots + rm.slots) Q (F0 m (pc + 3) ls (.int v :: rest))) : W p l e R s m args below meth c H locs cells slots Q (F0 m pc ls st0) := by
  subst e1
  obtain ⟨ov, w1⟩ := ov
  intro T hT X
  obtain ⟨T', L, X', hL, hE, hout⟩ := hr T hT X
  cases ov with
  | inr v =>
    obtain ⟨t2, a1, b1⟩ := kk v w1 T'.heap (locs ++ L) h (hI.after hA hE hL) T' rfl X'
    exact ⟨t2, hout t2 a1, b1⟩
  | inl E =>
    obtain ⟨q, ce, h1, h2, h3, h4⟩ := hout
    obtain ⟨t2, a1, b1⟩ := hexc E w1 (Option.some.inj h).symm pc ls rest T'.heap (locs ++ L) q ce (hI.after hA hE hL) h1 h2 h3 T' rfl (stand_widen X' hc hs)
    exact ⟨t2, h4.trans a1, b1⟩
theorem gw_callJ {β : Type} {X : gX Int64} {K : Int64 → gW → gX β} {r : (String ⊕ β) × gW} {ov : (String ⊕ Int64) × gW} (e1 : X = some ov) (h : gbind X K = some r) (hr : gRun p l e R s m args below meth c H locs cells slots (F0 m pc ls st0) rest rm D w (goJ ov)) (hI : gI D s A w H locs) (hA : ∀ q : Nat, s.heap.size ≤ q → A q) (hexc : gEx p l e R s m args below meth c Q D A r) (hc : cells + rm.cells ≤ R.cells) (hs : slots + rm.slots ≤ R.slots)
    (kk : ∀ (v : Int64) (w1 : gW) (H1 : Heap) (locs1 : List Loc), K v w1 = some r → gI D s A w1 H1 locs1 → W p l e R s m args below meth c H1 locs1 (cells + rm.cells) (slots + rm.slots) Q (F0 m (pc + 3) ls (.long v :: rest))) : W p l e R s m args below meth c H locs cells slots Q (F0 m pc ls st0) := by
  subst e1
  obtain ⟨ov, w1⟩ := ov
  intro T hT X
  obtain ⟨T', L, X', hL, hE, hout⟩ := hr T hT X
  cases ov with
  | inr v =>
    obtain ⟨t2, a1, b1⟩ := kk v w1 T'.heap (locs ++ L) h (hI.after hA hE hL) T' rfl X'
    exact ⟨t2, hout t2 a1, b1⟩
  | inl E =>
    obtain ⟨q, ce, h1, h2, h3, h4⟩ := hout
    obtain ⟨t2, a1, b1⟩ := hexc E w1 (Option.some.inj h).symm pc ls rest T'.heap (locs ++ L) q ce (hI.after hA hE hL) h1 h2 h3 T' rfl (stand_widen X' hc hs)
    exact ⟨t2, h4.trans a1, b1⟩
theorem gw_callA {β : Type} {X : gX Nat} {K : Nat → gW → gX β} {r : (String ⊕ β) × gW} {ov : (String ⊕ Nat) × gW} (e1 : X = some ov) (h : gbind X K = some r) (hr : gRun p l e R s m args below meth c H locs cells slots (F0 m pc ls st0) rest rm D w (goA ov)) (hI : gI D s A w H locs) (hA : ∀ q : Nat, s.heap.size ≤ q → A q) (hexc : gEx p l e R s m args below meth c Q D A r) (hc : cells + rm.cells ≤ R.cells) (hs : slots + rm.slots ≤ R.slots)
    (kk : ∀ (v : Nat) (w1 : gW) (H1 : Heap) (locs1 : List Loc), K v w1 = some r → gI D s A w1 H1 locs1 → W p l e R s m args below meth c H1 locs1 (cells + rm.cells) (slots + rm.slots) Q (F0 m (pc + 3) ls (.ref v :: rest))) : W p l e R s m args below meth c H locs cells slots Q (F0 m pc ls st0) := by
  subst e1
  obtain ⟨ov, w1⟩ := ov
  intro T hT X
  obtain ⟨T', L, X', hL, hE, hout⟩ := hr T hT X
  cases ov with
  | inr v =>
    obtain ⟨t2, a1, b1⟩ := kk v w1 T'.heap (locs ++ L) h (hI.after hA hE hL) T' rfl X'
    exact ⟨t2, hout t2 a1, b1⟩
  | inl E =>
    obtain ⟨q, ce, h1, h2, h3, h4⟩ := hout
    obtain ⟨t2, a1, b1⟩ := hexc E w1 (Option.some.inj h).symm pc ls rest T'.heap (locs ++ L) q ce (hI.after hA hE hL) h1 h2 h3 T' rfl (stand_widen X' hc hs)
    exact ⟨t2, h4.trans a1, b1⟩
theorem gw_callV {β : Type} {X : gX Unit} {K : Unit → gW → gX β} {r : (String ⊕ β) × gW} {ov : (String ⊕ Unit) × gW} (e1 : X = some ov) (h : gbind X K = some r) (hr : gRun p l e R s m args below meth c H locs cells slots (F0 m pc ls st0) rest rm D w (goV ov)) (hI : gI D s A w H locs) (hA : ∀ q : Nat, s.heap.size ≤ q → A q) (hexc : gEx p l e R s m args below meth c Q D A r) (hc : cells + rm.cells ≤ R.cells) (hs : slots + rm.slots ≤ R.slots)
    (kk : ∀ (v : Unit) (w1 : gW) (H1 : Heap) (locs1 : List Loc), K v w1 = some r → gI D s A w1 H1 locs1 → W p l e R s m args below meth c H1 locs1 (cells + rm.cells) (slots + rm.slots) Q (F0 m (pc + 3) ls rest)) : W p l e R s m args below meth c H locs cells slots Q (F0 m pc ls st0) := by
  subst e1
  obtain ⟨ov, w1⟩ := ov
  intro T hT X
  obtain ⟨T', L, X', hL, hE, hout⟩ := hr T hT X
  cases ov with
  | inr v =>
    obtain ⟨t2, a1, b1⟩ := kk v w1 T'.heap (locs ++ L) h (hI.after hA hE hL) T' rfl X'
    exact ⟨t2, hout t2 a1, b1⟩
  | inl E =>
    obtain ⟨q, ce, h1, h2, h3, h4⟩ := hout
    obtain ⟨t2, a1, b1⟩ := hexc E w1 (Option.some.inj h).symm pc ls rest T'.heap (locs ++ L) q ce (hI.after hA hE hL) h1 h2 h3 T' rfl (stand_widen X' hc hs)
    exact ⟨t2, h4.trans a1, b1⟩
/-- the kit's end of a walk, as this contract's -/
theorem gw_end {y : MethodName} {w0 : gW} {v : Option Value} {w1 : gW} {mc ms : Nat} {g : JFrame} (hI : gI D s (gA w0) w1 H locs)
    (k : W p l e R s m args below meth c H locs mc ms (MQ below (fun _ _ oc t => oc = .returned v ∧ t.heap = H ∧ s.WarmedH t.vm) args s mc ms (gA w0)) g) : W p l e R s m args below meth c H locs mc ms (gMQ below D w0 (.inr v, w1) mc ms args s) g := by
  intro T hT X
  obtain ⟨t, a1, oc, b1, b2, ⟨rfl, hh, hW⟩, L, ⟨-, -, hF⟩, hL⟩ := k T hT X
  obtain ⟨h1, h2, h3, h4⟩ := hI
  refine ⟨t, a1, _, b1, b2, ⟨by rw [hh]; exact h1, fun a e he => by rw [hh]; exact h2 a e he, h4, ⟨by rw [hh]; exact h3.1, fun q q1 q2 => by rw [hh]; exact h3.2.1 q q1 q2⟩⟩, hW, ⟨L, hF, hL⟩, rfl⟩
variable {w0 : gW} {cc : ByteArray}
theorem gw_retI (hx : p.tables.exec = Jvm.exec) (hb : c.code = cc) (hr : meth.sig.returnType = some .int) (hlocks : meth.locks = false) (r : (String ⊕ Int32) × gW) : ∀ (v : Int32) (w1 : gW), r = (.inr v, w1) → ∀ (pc : Nat) (ls : Array Slot) (H : Heap) (locs : List Loc), decode cc pc = .ok (.ireturn, 1) → gI D s (gA w0) w1 H locs → W p l e R s m args below meth c H locs R.cells R.slots (gMQ below D w0 (goI r) R.cells R.slots args s) (F0 m pc ls [.int v]) := by
  intro v w1 h pc ls H locs hdg hI
  subst h
  exact gw_end (y := ⟨"", "", ""⟩) hI (W.iret hx hb hr (fun t ht hW => ⟨rfl, ht, hW⟩) hI.2.2.1.2.2 hdg hlocks)
theorem gw_retZ (hx : p.tables.exec = Jvm.exec) (hb : c.code = cc) (hr : meth.sig.returnType = some .boolean) (hlocks : meth.locks = false) (r : (String ⊕ Int32) × gW) : ∀ {v : Int32}, (v = 0 ∨ v = 1) → ∀ (v' : Int32) (w1 : gW), r = (.inr v, w1) → ∀ (pc : Nat) (ls : Array Slot) (H : Heap) (locs : List Loc), decode cc pc = .ok (.ireturn, 1) → gI D s (gA w0) w1 H locs → W p l e R s m args below meth c H locs R.cells R.slots (gMQ below D w0 (goI r) R.cells R.slots args s) (F0 m pc ls [.int v]) := by
  intro v hv _ w1 h pc ls H locs hdg hI
  subst h
  exact gw_end (y := ⟨"", "", ""⟩) hI (W.zret hx hb hr (by rcases hv with rfl | rfl <;> rfl) (fun t ht hW => ⟨rfl, ht, hW⟩) hI.2.2.1.2.2 hdg hlocks)
theorem gw_retJ (hx : p.tables.exec = Jvm.exec) (hb : c.code = cc) (hr : meth.sig.returnType = some .long) (hlocks : meth.locks = false) (r : (String ⊕ Int64) × gW) : ∀ (v : Int64) (w1 : gW), r = (.inr v, w1) → ∀ (pc : Nat) (ls : Array Slot) (H : Heap) (locs : List Loc), decode cc pc = .ok (.lreturn, 1) → gI D s (gA w0) w1 H locs → W p l e R s m args below meth c H locs R.cells R.slots (gMQ below D w0 (goJ r) R.cells R.slots args s) (F0 m pc ls [.long v]) := by
  intro v w1 h pc ls H locs hdg hI
  subst h
  exact gw_end (y := ⟨"", "", ""⟩) hI (W.lret hx hb hr (fun t ht hW => ⟨rfl, ht, hW⟩) hI.2.2.1.2.2 hdg hlocks)
theorem gw_retV (hx : p.tables.exec = Jvm.exec) (hb : c.code = cc) (hr : meth.sig.returnType = none) (hlocks : meth.locks = false) (r : (String ⊕ Unit) × gW) : ∀ (v : Unit) (w1 : gW), r = (.inr v, w1) → ∀ (pc : Nat) (ls : Array Slot) (H : Heap) (locs : List Loc), decode cc pc = .ok (.return_, 1) → gI D s (gA w0) w1 H locs → W p l e R s m args below meth c H locs R.cells R.slots (gMQ below D w0 (goV r) R.cells R.slots args s) (F0 m pc ls []) := by
  intro v w1 h pc ls H locs hdg hI
  subst h
  exact gw_end (y := ⟨"", "", ""⟩) hI (W.vret hx hb hr (fun t ht hW => ⟨rfl, ht, hW⟩) hI.2.2.1.2.2 hdg hlocks)
theorem gw_retA {rt : FieldType} (hx : p.tables.exec = Jvm.exec) (hb : c.code = cc) (hr : meth.sig.returnType = some rt) (hrt : (∃ n, rt = .object n) ∨ ∃ t, rt = .array t) (hlocks : meth.locks = false) (r : (String ⊕ Nat) × gW) : ∀ (v : Nat) (w1 : gW), r = (.inr v, w1) → ∀ (pc : Nat) (ls : Array Slot) (H : Heap) (locs : List Loc), decode cc pc = .ok (.areturn, 1) → gI D s (gA w0) w1 H locs → W p l e R s m args below meth c H locs R.cells R.slots (gMQ below D w0 (goA r) R.cells R.slots args s) (F0 m pc ls [.ref v]) := by
  intro v w1 h pc ls H locs hdg hI
  subst h
  exact gw_end (y := ⟨"", "", ""⟩) hI (W.aret hx hb hr hrt (Or.inr ⟨v, rfl⟩) (fun t ht hW => ⟨rfl, ht, hW⟩) hI.2.2.1.2.2 hdg hlocks)
/-- an exception leaves a method without handlers -/
theorem gw_exc {α : Type} {r : (String ⊕ α) × gW} {o : (String ⊕ Option Value) × gW} (ho : ∀ (E : String) (w1 : gW), r = (.inl E, w1) → o = (.inl E, w1)) (htab : ∀ x ∈ c.exceptionTable.toList, False) (hlocks : meth.locks = false) : gEx p l e R s m args below meth c (gMQ below D w0 o R.cells R.slots args s) D (gA w0) r := by
  intro E w1 h pc ls rest H locs q ce hI h1 h2 h3 T hT X
  obtain ⟨st1, hrun, hend, hW, hsm⟩ := X.leaveThrown q (g := F0 m pc ls rest) rfl rfl rfl (fun x hx => (htab x hx).elim) hlocks
  rw [ho E w1 h]
  obtain ⟨g1, g2, g3, g4⟩ := hI
  have hh : (T.setFrames (.throwing q :: below)).heap = H := hT
  refine ⟨_, st1, .threw q, hrun, hend, ⟨by rw [hh]; exact g1, fun a e he => by rw [hh]; exact g2 a e he, g4, ⟨by rw [hh]; exact g3.1, fun z q1 q2 => by rw [hh]; exact g3.2.1 z q1 q2⟩⟩, hW, ⟨locs, hsm, g3.2.2⟩, q, ce, rfl, by rw [hh]; exact h1, h2, h3⟩
end GM
/-- a contract out of a walk of the body -/
theorem gw_of {l : Launch} {y : MethodName} {cc : ByteArray} {maxL : Nat} {ret : Option FieldType} {rm : Room} {D : gD} {g0 : gG} {av : List Value} {w : gW} {o : (String ⊕ Option Value) × gW} (hy : plainFor y = true) (hlen : (lg_sl av).length ≤ maxL)
    (body : ∀ (p : Program) (e : Env) (s : State) (m : MethodId) (below : List Frame) (meth : Method) (c : Code) (ls : Array Slot), p.tables.exec = Jvm.exec → c.code = cc → meth.sig.returnType = ret → c.maxLocals = maxL → s.vm.findClass y.cls = some m.cls → meth.locks = false → meth.name = y.name → (∀ x ∈ c.exceptionTable.toList, False) → gT s → gK D s → gZ (gA w) s s.heap g0 → (∀ q : Nat, s.heap.size ≤ q → gA w q) → gI D s (gA w) w s.heap [] → lv_has ls maxL (lv_args 0 av) →
      W p l e rm s m av.toArray below meth c s.heap [] 0 0 (gMQ below D w o rm.cells rm.slots av.toArray s) (F0 m 0 ls [])) : gMet l y (.code y cc maxL ret) rm D g0 av w o := by
  refine MetFree.of_bodySF (code := cc) (maxLocals := maxL) (ret := ret) hy ?_ ?_
  · intro args s m h hn
    obtain ⟨meth, c, h1, h2, h3, h4, h5, h6, -, -⟩ := Cond.code_spec hn (atoms_spec (ws := [.code y cc maxL ret]) h _ List.mem_cons_self)
    exact ⟨meth, c, h1, h2, h3, h4, h5, h6⟩
  · intro p e s m args below meth c s₁ B hml hP _
    obtain ⟨rfl, q1, q2, q3, q4, q5⟩ := hP
    have hh0 : s₁.heap = s.heap := by rw [B.state]; rfl
    have htab : ∀ x ∈ c.exceptionTable.toList, False := by
      obtain ⟨meth9, c9, h1, h2, -, -, -, -, h7, -⟩ := Cond.code_spec B.named (atoms_spec (ws := [.code y cc maxL ret]) B.pre _ List.mem_cons_self)
      cases Option.some.inj (h1.symm.trans B.method)
      cases Option.some.inj (h2.symm.trans (Stand.of_body B).code)
      intro x hx
      rw [Array.isEmpty_iff.mp h7] at hx
      cases hx
    have hl := lv_entry av (n := maxL) hlen
    have hW := body p e s m below meth c _ B.exec B.bytes B.returns hml (findClass_of_methodNamed B.named) B.notSynchronized (name_of_methodNamed B.named B.method).1 htab q4 q3 q5 (fun q hq => Or.inr (by rw [← q1]; exact hq)) ⟨q1, q2, va_S.rf, fun a e he hr => Or.inl ⟨e, he, hr⟩⟩ hl
    rw [← lg_entry_eq] at hW
    obtain ⟨t, a1, oc, b1, b2, b3⟩ := hW s₁ hh0 (Stand.of_body B)
    exact ⟨t, oc, a1, b1, b2, b3⟩
end
section
/-! ===== rows of references: stores, comparisons, statics, casts ===== -/
def gCast : List (String × String) := [("BodySolids$Solid", "BodySolids$Solid"), ("BodySolids$Solid", "java/lang/Object"), ("BodySolids$Body", "java/lang/Object"), ("BodySolids$Placement", "java/lang/Object"), ("BodySolids$KeepOut", "java/lang/Object"), ("BodySolids$Placement", "BodySolids$Placement"), ("BodySolids$KeepOut", "BodySolids$KeepOut"), ("BodySolids$Body", "BodySolids$Body")]
theorem gCast_ok : ∀ q ∈ gCast, Cond.castable q.1 q.2 ∈ gAll := fun q hq => List.mem_filter.mpr ⟨by revert q; decide +kernel, rfl⟩
def gok (k c : Nat) : Bool := match gTy[k]?, gCl[c]? with
  | some (.object C), some r => decide ((r.1, C) ∈ gCast)
  | _, _ => false
theorem gok_some {k c : Nat} (h : gok k c = true) : ∃ (C : String) (r : vw_C), gTy[k]? = some (.object C) ∧ gCl[c]? = some r ∧ Cond.castable r.1 C ∈ gAll := by
  unfold gok at h
  split at h
  · rename_i C r h1 h2
    exact ⟨C, r, h1, h2, gCast_ok (r.1, C) (of_decide_eq_true h)⟩
  · cases h
def gsA (w : gW) (a : Nat) (i : Int32) (v : Nat) : Option gW := (gob w a).bind fun k => match w.1 v with
  | some (.inr o) => if gok k o.1 = true then gas w a k i (.ref v) else none
  | _ => none
theorem gsA_some {w w' : gW} {a v : Nat} {i : Int32} (h : gsA w a i v = some w') : ∃ (k : Nat) (o : Nat × List Value), w.1 v = some (.inr o) ∧ gok k o.1 = true ∧ gas w a k i (.ref v) = some w' := by
  obtain ⟨k, h1, h2⟩ := Option.bind_eq_some_iff.mp h
  split at h2
  · rename_i o ho
    split at h2
    · rename_i hk
      exact ⟨k, o, ho, hk, h2⟩
    · cases h2
  · cases h2
section GR2
variable {p : Program} {l : Launch} {e : Env} {R : Room} {s : State} {m : MethodId} {args : Array Value} {below : List Frame} {meth : Method} {c : Code} {H : Heap} {locs : List Loc} {cells slots : Nat} {Q : State → Prop}
variable {cc : ByteArray} {pc : Nat} {ls : Array Slot} {rest : List Value} {D : gD} {A : Nat → Prop} {a : Nat} {w : gW} {g0 : gG}
theorem gw_astA (hx : p.tables.exec = Jvm.exec) (hb : c.code = cc) (hT : gT s) (hK : gK D s) (hI : gI D s A w H locs) {i : Int32} {x : Nat} {w' : gW} (hv : gsA w a i x = some w') (hdg : decode cc pc = .ok (.aastore, 1))
    (kk : ∀ (H1 : Heap) (locs1 : List Loc), gI D s A w' H1 locs1 → W p l e R s m args below meth c H1 locs1 cells slots Q (F0 m (pc + 1) ls rest)) : W p l e R s m args below meth c H locs cells slots Q (F0 m pc ls (.ref x :: .int i :: .ref a :: rest)) := by
  obtain ⟨k, o, ho, hok, hv⟩ := gsA_some hv
  obtain ⟨C, r, hk, hc, hca⟩ := gok_some hok
  obtain ⟨n, f, h1, hin, rfl⟩ := gas_some hv
  have hlt : i.toNatClampNeg < n := Nat.not_le.mp fun q => hin (Or.inr q)
  have h0 : ¬ i < 0 := fun q => hin (Or.inl q)
  obtain ⟨r', hr', cellV, g1, g2, g3, -⟩ := hI.2.1 x _ ho
  have hcls := (hK.1 o.1 r hc).2
  obtain ⟨kA, comp, k1, k2, k3, -⟩ := (hK.2 k _ hk).2
  obtain ⟨kE, hkE, -⟩ := Vm.findClass_spec k3
  obtain ⟨c0, t1, f1, f2, f3⟩ := Cond.castable_spec (hT _ hca args)
  cases hcls.1.symm.trans f1
  cases k3.symm.trans f2
  obtain ⟨kC, hkC, -⟩ := hcls.2
  refine W.aast hx hb (hI.2.1 a _ h1) (fun q h => by cases h) (fun h => by cases h) k1 k2 rfl hkE ⟨h0, by show _ < (arrV _ _ _).slots.size; rw [arrV_size]; exact hlt⟩ g1 (fun q h => by rw [g3] at h; cases h) (by rw [g2]; exact hkC) (by rw [g2]; exact f3) rfl rfl hdg fun H1 e1 z1 o1 => ?_
  exact kk H1 _ (hI.put h1 (fun q => hin (Or.inr (by rw [show n = 0 from q]; exact Nat.zero_le _))) z1 o1 (e1.trans (by show some (Cell.setSlot (arrV _ _ _) _ _) = _; rw [arrV_store])))
theorem gw_acmp_eq (hx : p.tables.exec = Jvm.exec) (hb : c.code = cc) {x y : Nat} {off : Int} {tgt : Nat} (hdg : decode cc pc = .ok (.if_acmp .eq off, 3)) (ht : (pc : Int) + off = (tgt : Int))
    (kt : x = y → W p l e R s m args below meth c H locs cells slots Q (F0 m tgt ls rest)) (kf : ¬ x = y → W p l e R s m args below meth c H locs cells slots Q (F0 m (pc + 3) ls rest)) : W p l e R s m args below meth c H locs cells slots Q (F0 m pc ls (.ref y :: .ref x :: rest)) :=
  lv_acmp_eq (rx := some x) (ry := some y) hx hb hdg ht (fun h => kt (Option.some.inj h)) (fun h => kf (fun q => h (by rw [q])))
theorem gw_acmp_ne (hx : p.tables.exec = Jvm.exec) (hb : c.code = cc) {x y : Nat} {off : Int} {tgt : Nat} (hdg : decode cc pc = .ok (.if_acmp .ne off, 3)) (ht : (pc : Int) + off = (tgt : Int))
    (kt : ¬ x = y → W p l e R s m args below meth c H locs cells slots Q (F0 m tgt ls rest)) (kf : x = y → W p l e R s m args below meth c H locs cells slots Q (F0 m (pc + 3) ls rest)) : W p l e R s m args below meth c H locs cells slots Q (F0 m pc ls (.ref y :: .ref x :: rest)) :=
  lv_acmp_ne (rx := some x) (ry := some y) hx hb hdg ht (fun h => kt (fun q => h (by rw [q]))) (fun h => kf (Option.some.inj h))
theorem gw_gets (hx : p.tables.exec = Jvm.exec) (hb : c.code = cc) (hT : gT s) {own : String} (hown : s.vm.findClass own = some m.cls) (hZ : gZ A s s.heap g0) (hI : gI D s A w H locs) {index : Nat} (hlink : Cond.fieldLink own index "java/util/ArrayList" "DEFAULTCAPACITY_EMPTY_ELEMENTDATA" "[Ljava/lang/Object;" ∈ gAll) (hdg : decode cc pc = .ok (.getstatic index, 3))
    (kk : W p l e R s m args below meth c H locs cells slots Q (F0 m (pc + 3) ls (.ref g0.1 :: rest))) : W p l e R s m args below meth c H locs cells slots Q (F0 m pc ls rest) :=
  va_gets hx hb hZ.1 hI.2.2.1 hown (hT _ hlink args) (fun _ h => h) hdg kk
theorem gw_cast {ci N : Nat} {C nm : String} {T0 : u_T} {u : Unit} (hx : p.tables.exec = Jvm.exec) (hb : c.code = cc) (hT : gT s) {own : String} (hown : s.vm.findClass own = some m.cls) (hK : gK D s) (hI : gI D s A w H locs) {index : Nat} (hlink : Cond.classLink own index nm ∈ gAll) (hc : gCl[ci]? = some (C, T0, N)) (hca : Cond.castable C nm ∈ gAll) (hv : gck w a ci = some u) (hdg : decode cc pc = .ok (.checkcast index, 3))
    (kk : W p l e R s m args below meth c H locs cells slots Q (F0 m (pc + 3) ls (.ref a :: rest))) : W p l e R s m args below meth c H locs cells slots Q (F0 m pc ls (.ref a :: rest)) :=
  va_castY hx hb hown (hT _ hlink args) (hT _ hca #[]) (hI.recv hK hc hv) hdg kk
/-- a row of objects of any kind -/
def gkd (w : gW) (a k : Nat) : Option Nat := match w.1 a with
  | some (.inl x) => if x.1 = k then some x.2.1 else none
  | _ => none
theorem gkd_some {w : gW} {a k n : Nat} (h : gkd w a k = some n) : ∃ f : Nat → Value, w.1 a = some (.inl (k, n, f)) := by
  unfold gkd at h
  split at h
  · rename_i x hx
    split at h
    · rename_i hk
      subst hk
      cases h
      exact ⟨x.2.2, hx⟩
    · cases h
  · cases h
theorem gw_getC (hx : p.tables.exec = Jvm.exec) (hb : c.code = cc) (hml : c.maxLocals = ls.size) (hT : gT s) {own : String} (hown : s.vm.findClass own = some m.cls) (hK : gK D s) (hZ : gZ A s s.heap g0) (hI : gI D s A w H locs) {index n : Nat} (hv : gkd w a 3 = some n)
    (hlink : Cond.methodLink own index ⟨"java/lang/Object", "getClass", "()Ljava/lang/Class;"⟩ ∈ gAll) (hdecl : Cond.declares ⟨"java/lang/Object", "getClass", "()Ljava/lang/Class;"⟩ ∈ gAll) (hsel : Cond.selects "[Ljava/lang/Object;" ⟨"java/lang/Object", "getClass", "()Ljava/lang/Class;"⟩ ⟨"java/lang/Object", "getClass", "()Ljava/lang/Class;"⟩ ∈ gAll) (hinst : Cond.instanceMethod ⟨"java/lang/Object", "getClass", "()Ljava/lang/Class;"⟩ ∈ gAll) (hnat : Cond.native ⟨"java/lang/Object", "getClass", "()Ljava/lang/Class;"⟩ ∈ gAll)
    (hframes : 1 ≤ R.frames) (hlocals : (rest.map fun v => v.category).sum + 14 ≤ R.locals) (hdg : decode cc pc = .ok (.invokevirtual index, 3))
    (kk : W p l e R s m args below meth c H locs cells slots Q (F0 m (pc + 3) ls (.ref g0.2 :: rest))) : W p l e R s m args below meth c H locs cells slots Q (F0 m pc ls (.ref a :: rest)) := by
  obtain ⟨f, h1⟩ := gkd_some hv
  exact va_getC hx hb hml hown (hT _ hlink args) (hT _ hdecl args) (hT _ hsel args) (hT _ hinst args) (hT _ hnat args) hZ.2.1 ⟨_, hI.2.1 a _ h1, rfl, va_nmO (hK.2 3 _ rfl).2 rfl⟩ hframes hlocals hdg kk
theorem gw_ldcM (hx : p.tables.exec = Jvm.exec) (hb : c.code = cc) (hT : gT s) {own : String} (hown : s.vm.findClass own = some m.cls) (hZ : gZ A s s.heap g0) {index : Nat} (hlink : Cond.classLink own index "[Ljava/lang/Object;" ∈ gAll) (hdg : decode cc pc = .ok (.ldc index, 2))
    (kk : W p l e R s m args below meth c H locs cells slots Q (F0 m (pc + 2) ls (.ref g0.2 :: rest))) : W p l e R s m args below meth c H locs cells slots Q (F0 m pc ls rest) :=
  va_ldcM hx hb hown (hT _ hlink args) hZ.2.1 hdg kk
end GR2
end
section
/-! ===== System.arraycopy between rows of Objects ===== -/
def gelt (w : gW) (v : Value) : Bool := match v with
  | .null => true
  | .ref y => (match w.1 y with
    | some (.inr o) => gok 3 o.1
    | _ => false)
  | _ => false
theorem gelt_some {w : gW} {v : Value} (h : gelt w v = true) : v = .null ∨ ∃ (y : Nat) (o : Nat × List Value), v = .ref y ∧ w.1 y = some (.inr o) ∧ gok 3 o.1 = true := by
  unfold gelt at h
  split at h
  · exact Or.inl rfl
  · rename_i y
    split at h
    · rename_i o ho
      exact Or.inr ⟨y, o, rfl, ho, h⟩
    · cases h
  · cases h
def gcp (w : gW) (a : Nat) (sp : Int32) (b : Nat) (dp n : Int32) : Option gW := match w.1 a, w.1 b with
  | some (.inl x), some (.inl y) => if x.1 = 3 ∧ y.1 = 3 ∧ ¬ sp < 0 ∧ ¬ dp < 0 ∧ ¬ n < 0 ∧ sp.toNatClampNeg + n.toNatClampNeg ≤ x.2.1 ∧ dp.toNatClampNeg + n.toNatClampNeg ≤ y.2.1 ∧ y.2.1 ≠ 0 ∧ (List.range n.toNatClampNeg).all (fun i => gelt w (x.2.2 (sp.toNatClampNeg + i))) = true then some (gup w b (.inl (3, y.2.1, va_cpy x.2.2 y.2.2 sp.toNatClampNeg dp.toNatClampNeg n.toNatClampNeg))) else none
  | _, _ => none
theorem gcp_some {w w' : gW} {a b : Nat} {sp dp n : Int32} (h : gcp w a sp b dp n = some w') : ∃ (n0 n1 : Nat) (f g : Nat → Value), w.1 a = some (.inl (3, n0, f)) ∧ w.1 b = some (.inl (3, n1, g)) ∧ ¬ sp < 0 ∧ ¬ dp < 0 ∧ ¬ n < 0 ∧ sp.toNatClampNeg + n.toNatClampNeg ≤ n0 ∧ dp.toNatClampNeg + n.toNatClampNeg ≤ n1 ∧ n1 ≠ 0 ∧ (∀ i, i < n.toNatClampNeg → gelt w (f (sp.toNatClampNeg + i)) = true) ∧ w' = gup w b (.inl (3, n1, va_cpy f g sp.toNatClampNeg dp.toNatClampNeg n.toNatClampNeg)) := by
  unfold gcp at h
  split at h
  · rename_i x y hx hy
    split at h
    · rename_i hc
      obtain ⟨h1, h2, h3, h4, h5, h6, h7, h8, h9⟩ := hc
      cases h
      refine ⟨x.2.1, y.2.1, x.2.2, y.2.2, by rw [hx, ← h1], by rw [hy, ← h2], h3, h4, h5, h6, h7, h8, fun i hi => List.all_eq_true.mp h9 i (List.mem_range.mpr hi), rfl⟩
    · cases h
  · cases h
section GR3
variable {p : Program} {l : Launch} {e : Env} {R : Room} {s : State} {m : MethodId} {args : Array Value} {below : List Frame} {meth : Method} {c : Code} {H : Heap} {locs : List Loc} {cells slots : Nat} {Q : State → Prop}
variable {cc : ByteArray} {pc : Nat} {ls : Array Slot} {rest : List Value} {D : gD} {A : Nat → Prop} {a b : Nat} {w : gW} {g0 : gG}
theorem gw_copy (hx : p.tables.exec = Jvm.exec) (hb : c.code = cc) (hml : c.maxLocals = ls.size) (hT : gT s) {own : String} (hown : s.vm.findClass own = some m.cls) (hK : gK D s) (hI : gI D s A w H locs) {index : Nat} {sp dp n : Int32} {w' : gW} (hv : gcp w a sp b dp n = some w')
    (hlink : Cond.methodLink own index arraycopyName ∈ gAll) (hnat : Cond.native arraycopyName ∈ gAll) (hstat : Cond.static arraycopyName ∈ gAll) (hini : Cond.initialized "java/lang/System" ∈ gAll)
    (hframes : 1 ≤ R.frames) (hlocals : (rest.map fun v => v.category).sum + (nativeFrameWords "java/lang/System" "arraycopy" 5 + 11) ≤ R.locals) (hdg : decode cc pc = .ok (.invokestatic index, 3))
    (kk : ∀ (H1 : Heap) (locs1 : List Loc), gI D s A w' H1 locs1 → W p l e R s m args below meth c H1 locs1 cells slots Q (F0 m (pc + 3) ls rest)) : W p l e R s m args below meth c H locs cells slots Q (F0 m pc ls (.int n :: .int dp :: .ref b :: .int sp :: .ref a :: rest)) := by
  obtain ⟨n0, n1, f, g, ha0, ha1, h1, h2, h3, h4, h5, h6, hel, rfl⟩ := gcp_some hv
  have nn : ∀ z : Int32, ¬ z < 0 → z.toInt = (z.toNatClampNeg : Int) := by
    intro z hz
    have hz0 : (0 : Int) ≤ z.toInt := by simpa using Int32.le_iff_toInt_le.mp (Int32.not_lt.mp hz)
    show z.toInt = ((z.toInt.toNat : Nat) : Int)
    omega
  have hc0 : H[a]? = some (arrV (D.2.2 3) n0 f) := hI.2.1 a _ ha0
  have hc1 : H[b]? = some (arrV (D.2.2 3) n1 g) := hI.2.1 b _ ha1
  obtain ⟨kA, comp, r1, r2, r3, -⟩ := (hK.2 3 _ rfl).2
  obtain ⟨kE, hkE, -⟩ := Vm.findClass_spec r3
  intro T hT0 X
  obtain ⟨vm', X', step⟩ := X.arraycopy hx hown (hT _ hlink args) (hT _ hnat args) (hT _ hstat args) (hT _ hini args) (src := a) (dst := b) (cs := arrV (D.2.2 3) n0 f) (cd := arrV (D.2.2 3) n1 g) (srcPos := sp) (destPos := dp) (n := n) (by rw [hT0]; exact hc0) (by rw [hT0]; exact hc1)
    (fun _ h => by cases h) (fun _ h => by cases h) (fun h => by cases h) (fun h => by cases h) r1 r1 r2 r2 rfl h1 h2 h3
    (by rw [nn sp h1, nn n h3, arrV_size]; omega) (by rw [nn dp h2, nn n h3, arrV_size]; omega)
    (fun vm₁ hal i hi => by
      have e1 : (arrV (D.2.2 3) n0 f).slots.getD (sp.toNatClampNeg + i) .null = f (sp.toNatClampNeg + i) := by
        rw [Array.getD_eq_getD_getElem?, arrV_read _ _ (by omega)]
        rfl
      rw [e1]
      rcases gelt_some (hel i hi) with hy | ⟨y, o, hy, ho, hok⟩
      · rw [hy]; exact ⟨rfl, trivial⟩
      · rw [hy]
        obtain ⟨C, r, hk, hc, hca⟩ := gok_some hok
        cases hk
        obtain ⟨r', hr', cellV, g1, g2, g3, -⟩ := hI.2.1 y _ ho
        have hcls := (hK.1 o.1 r hc).2
        obtain ⟨c0, t1, f1, f2, f3⟩ := Cond.castable_spec (hT _ hca args)
        cases hcls.1.symm.trans f1
        cases r3.symm.trans f2
        obtain ⟨kC, hkC, -⟩ := hcls.2
        obtain ⟨kC', hkC', -⟩ := hal.2.2 _ _ hkC
        obtain ⟨kE', hkE', -⟩ := hal.2.2 _ _ hkE
        refine ⟨rfl, cellV, (show T.heap[y]? = some cellV by rw [hT0]; exact g1), (fun q h => by rw [h] at g3; cases g3), ⟨kC', by rw [g2]; exact hkC'⟩, ⟨kE', hkE'⟩, ?_⟩
        show vm₁.assignable _ _ = true
        rw [hal.assignable, g2]
        exact f3)
    (g := F0 m pc ls (.int n :: .int dp :: .ref b :: .int sp :: .ref a :: rest)) rfl (by rw [hml]) (rest := rest) rfl (by rw [hb]; exact hdg) hframes (by show 2 * 0 + _ + _ ≤ _; omega)
  have e1 : copied (arrV (D.2.2 3) n0 f) (arrV (D.2.2 3) n1 g) sp dp n = arrV (D.2.2 3) n1 (va_cpy f g sp.toNatClampNeg dp.toNatClampNeg n.toNatClampNeg) := va_copied (fun z => z) (D.2.2 3) (D.2.2 3) f g h4
  rw [e1] at X' step
  have hl : b < H.size := (Array.getElem?_eq_some_iff.mp hc1).1
  have hheap : ((T.setVm vm').setCell b (arrV (D.2.2 3) n1 (va_cpy f g sp.toNatClampNeg dp.toNatClampNeg n.toNatClampNeg))).heap = H.setIfInBounds b (arrV (D.2.2 3) n1 (va_cpy f g sp.toNatClampNeg dp.toNatClampNeg n.toNatClampNeg)) := by rw [← hT0]; rfl
  have oq : ∀ q : Nat, q ≠ b → (H.setIfInBounds b (arrV (D.2.2 3) n1 (va_cpy f g sp.toNatClampNeg dp.toNatClampNeg n.toNatClampNeg)))[q]? = H[q]? := fun q hq => by simp [Array.getElem?_setIfInBounds, Ne.symm hq]
  have hA1 : A b := hI.2.2.2 b _ ha1 h6
  have hI1 := hI.put (k := 0) ha1 (show gRW (.inl (3, n1, g)) from h6) (e := .inl (3, n1, va_cpy f g sp.toNatClampNeg dp.toNatClampNeg n.toNatClampNeg)) (H1 := H.setIfInBounds b (arrV (D.2.2 3) n1 (va_cpy f g sp.toNatClampNeg dp.toNatClampNeg n.toNatClampNeg))) (by simp) oq (show (H.setIfInBounds b _)[b]? = some _ by simp [Array.getElem?_setIfInBounds, hl])
  obtain ⟨q1, q2, ⟨q3, q4, -⟩, q5⟩ := hI1
  obtain ⟨t, a1, b1⟩ := kk _ _ ⟨q1, q2, ⟨q3, q4, fun z hz => by
      rcases List.mem_append.mp hz with h | h
      · exact hI.2.2.1.2.2 z h
      · obtain ⟨y, -, hy⟩ := List.mem_map.mp h
        rw [← hy]
        exact hA1⟩, q5⟩ _ hheap X'
  exact ⟨t, step t a1, b1⟩
end GR3
end
section
/-! ===== a throw of a new exception with a text: the heap grows by just one cell ===== -/
section GT
variable {p : Program} {l : Launch} {e : Env} {R : Room} {s : State} {m : MethodId} {args : Array Value} {below : List Frame} {meth : Method} {c : Code} {H : Heap} {locs : List Loc} {cells slots : Nat} {Q : State → Prop}
variable {cc : ByteArray} {pc nL : Nat} {ls : Array Slot} {rest : List Value} {D : gD} {A : Nat → Prop} {w : gW} {g0 : gG} {T : State}
/-- the same frame, its invocation told anew from the heap as it stands -/
theorem gw_anew0 (X : Stand p l e R s m args below meth c T locs cells slots) {R' : Room} (hf : R'.frames ≤ R.frames) (hl : R'.locals ≤ R.locals) (hc : cells + R'.cells ≤ R.cells) (hs : slots + R'.slots ≤ R.slots) : Stand p l e R' ((T.setVm s.vm).setFrames (.invoking m args :: below)) m args below meth c T [] 0 0 := by
  have htop : (T.setVm s.vm).topJava?.isSome := X.here.top
  have hF : ((T.setVm s.vm).setFrames (.invoking m args :: below)).frames = .invoking m args :: below := State.frames_setFrames _ (State.cur_lt_of_top htop)
  obtain ⟨gt, hgt⟩ := Option.isSome_iff_exists.mp htop
  obtain ⟨r, hr⟩ := State.topJava?_eq_some.mp hgt
  have hlim : e.platform.stackLimits (T.setVm s.vm).me = e.platform.stackLimits s.me := X.limits
  have hbyt : (T.setVm s.vm).me.stackBytes = s.me.stackBytes := X.bytes
  have hloc : ((T.setVm s.vm).setFrames (.invoking m args :: below)).localsInUse = s.localsInUse := by
    rw [State.localsInUse_invoking hF (meth := meth) (c := c) X.method X.code, State.localsInUse_invoking X.frames X.method X.code]
  have hdrop : T.heap.toList.drop T.heap.size = [] := List.drop_eq_nil_of_le (Nat.le_of_eq Array.length_toList)
  have hroom : ((T.setVm s.vm).setFrames (.invoking m args :: below)).hasRoom e.platform R' = true := by
    have h := X.room
    have q1 := X.heapSize
    have q2 := X.used
    simp only [State.hasRoom, Bool.and_eq_true, decide_eq_true_eq] at h ⊢
    obtain ⟨⟨⟨⟨h1, h2, h3, h4, h5, h6⟩, h7⟩, h8⟩, h9⟩ := h
    rw [X.frames, List.length_cons] at h2 h3
    simp only [hF, hloc, List.length_cons, State.stackLimits_setFrames, State.stackBytes_setFrames, hlim, hbyt]
    refine ⟨⟨⟨⟨by omega, by omega, by omega, by omega, by omega, h6⟩, ?_⟩, ?_⟩, X.book⟩
    · show T.heap.size + R'.cells ≤ e.platform.maxCells
      omega
    · show T.slotsUsed + R'.slots ≤ e.platform.maxSlots
      omega
  have hsame : ((T.setVm s.vm).setFrames (.invoking m args :: below)).sameButNew (T.setVm s.vm) [] 0 0 := by
    refine ⟨?_, Nat.le_refl _, Nat.le_refl _, ?_, ?_, fun a z hz => ⟨z, hz, rfl, rfl, fun _ _ => rfl⟩⟩
    · obtain ⟨t, ht, -⟩ := State.frames_cons hr
      show T.setVm s.vm = { ((T.setVm s.vm).setFrames (.invoking m args :: below)).setFrames (T.setVm s.vm).frames with heap := T.heap, slotsUsed := T.slotsUsed }
      rw [State.setFrames_setFrames, State.setFrames_self ht]
      rfl
    · show T.slotsUsed = T.slotsUsed + ((T.heap.toList.drop T.heap.size).map (·.slots.size)).sum
      rw [hdrop]
      rfl
    · show ((T.heap.toList.drop T.heap.size).map (·.slots.size)).sum ≤ 0
      rw [hdrop]
      exact Nat.le_refl _
  exact ⟨X.admits, X.cas, X.clock, hF, hroom, X.hears, X.method, X.code, X.here, X.tail, X.warmed, by rw [State.stackLimits_setFrames]; rfl, by rw [State.stackBytes_setFrames]; rfl, hsame⟩
/-- what a body owes where it has thrown -/
abbrev gTh (s : State) (below : List Frame) (rm : Room) (Q : State → Prop) (D : gD) (A : Nat → Prop) {α : Type} (r : (String ⊕ α) × gW) : Prop :=
  ∀ (E : String) (w1 : gW), r = (.inl E, w1) → ∀ (t : State) (q : Addr) (ce : Cell) (L : List Loc), t.status = .running → Ended t below (.threw q) → s.WarmedH t.vm → s.sameButNew ({ t with vm := s.vm } : State) L rm.cells rm.slots → gI D s A w1 t.heap L → t.heap[q]? = some ce → ce.vm = .none → s.vm.findClass E = some ce.cls → Q t
theorem gw_thr {α : Type} {rm : Room} {w0 : gW} {r : (String ⊕ α) × gW} {o : (String ⊕ Option Value) × gW} (ho : ∀ (E : String) (w1 : gW), r = (.inl E, w1) → o = (.inl E, w1)) : gTh s below rm (gMQ below D w0 o rm.cells rm.slots args s) D (gA w0) r := by
  intro E w1 h t q ce L h1 h2 h3 h4 h5 h6 h7 h8
  rw [ho E w1 h]
  obtain ⟨g1, g2, g3, g4⟩ := h5
  exact ⟨.threw q, h1, h2, ⟨g1, g2, g4, ⟨g3.1, g3.2.1⟩⟩, h3, ⟨L, h4, g3.2.2⟩, q, ce, rfl, h6, h7, h8⟩
def gno (z : Cond) : Bool := decide (z ≠ .isRef (.static Bundle.tN "UNASSIGNED_STACK" Bundle.steD)) && decide (z ≠ .isRef (.static Bundle.tN "SUPPRESSED_SENTINEL" Bundle.listD)) && decide (z ≠ .laysStatic Bundle.tN "UNASSIGNED_STACK" Bundle.steD) && decide (z ≠ .laysStatic Bundle.tN "SUPPRESSED_SENTINEL" Bundle.listD)
theorem gw_throwS {β : Type} {r : (String ⊕ β) × gW} (hx : p.tables.exec = Jvm.exec) (hb : c.code = cc) (hst : l.stackTraces = false) {own cls text : String} {names : List String} {ik is ic : Nat} (hown : s.vm.findClass own = some m.cls) (hT : gT s) (hZ : gZ A s s.heap g0) (hI : gI D s A w H locs) (hsz : ls.size = nL) (hml : c.maxLocals = nL) (hnt : ∀ x ∈ c.exceptionTable.toList, False) (hlocks : meth.locks = false)
    (hcls : Bundle.fit cls = true) (hnames : ∀ n ∈ names, Bundle.fit n = true) (hk : Cond.classLink own ik cls ∈ gAll) (hini : Cond.initialized cls ∈ gAll) (htx : (own, is, text) ∈ gTx) (hat : ∀ z ∈ Bundle.ownAtoms own ic cls names, gno z = true → z ∈ gAll)
    (d0 : decode cc pc = .ok (.new ik, 3)) (d3 : decode cc (pc + 3) = .ok (.dup, 1)) (d4 : decode cc (pc + 4) = .ok (.ldc is, 2)) (d6 : decode cc (pc + 6) = .ok (.invokespecial ic, 3)) (d9 : decode cc (pc + 9) = .ok (.athrow, 1))
    (hRf : names.length + 3 < R.frames) (hRl : (rest.map fun v => v.category).sum + (13 * (names.length + 1) + 43) ≤ R.locals) (hRc : cells + 1 ≤ R.cells) (hRs : slots + 6 ≤ R.slots) (hthr : gTh s below R Q D A r) (h : (gthrow cls w : gX β) = some r) :
    W p l e R s m args below meth c H locs cells slots Q (F0 m pc ls rest) := by
  intro T hT0 X
  have htr : e.platform.stackTraces = false := (show e.platform.stackTraces = l.stackTraces by rw [X.admits.platform]).trans hst
  have Y := gw_anew0 X (R' := { frames := R.frames, locals := R.locals, cells := 1, slots := 6 }) (Nat.le_refl _) (Nat.le_refl _) hRc hRs
  obtain ⟨s', hs'⟩ : ∃ z, z = (T.setVm s.vm).setFrames (.invoking m args :: below) := ⟨_, rfl⟩
  rw [← hs'] at Y
  have hvm : s'.vm = s.vm := by rw [hs']; rfl
  have hhp : s'.heap = H := by rw [hs']; exact hT0
  have hW0 : s.WarmedH s'.vm := by rw [hvm]; exact State.WarmedH.refl s
  have hT' : gT s' := gT.warm hW0 hT
  have hZ' : gZ A s' s'.heap g0 := by rw [hhp]; exact gZ.warm hW0 (gZ.kept hZ hI.2.2.1.2.1)
  have hatoms : ∀ z ∈ Bundle.ownAtoms own ic cls names, z.before args s' = true := by
    intro z hz
    by_cases e1 : z = .isRef (.static Bundle.tN "UNASSIGNED_STACK" Bundle.steD)
    · rw [e1]; exact hZ'.2.2.1.isRef
    · by_cases e2 : z = .isRef (.static Bundle.tN "SUPPRESSED_SENTINEL" Bundle.listD)
      · rw [e2]; exact hZ'.2.2.2.1.isRef
      · by_cases e3 : z = .laysStatic Bundle.tN "UNASSIGNED_STACK" Bundle.steD
        · rw [e3]; exact hZ'.2.2.1.lays
        · by_cases e4 : z = .laysStatic Bundle.tN "SUPPRESSED_SENTINEL" Bundle.listD
          · rw [e4]; exact hZ'.2.2.2.1.lays
          · exact hT' z (hat z hz (by unfold gno; rw [decide_eq_true e1, decide_eq_true e2, decide_eq_true e3, decide_eq_true e4]; rfl)) args
  have hown' : s'.vm.findClass own = some m.cls := by rw [hvm]; exact hown
  obtain ⟨sa, hsa⟩ := hZ'.2.2.2.2 _ htx
  obtain ⟨vm₁, cX, kX, hfX, hkX, -, -, X₁, st1⟩ := Y.newCold hx (own := own) (C := cls) (index := ik) (n := 6) hown' (hT' _ hk args) (hatoms _ (by simp [Bundle.ownAtoms])) (hT' _ hini args) (g := F0 m pc ls rest) rfl (by rw [hb]; exact d0) (Nat.le_refl _) (Nat.le_refl _)
  generalize hT1 : (T.setVm vm₁).pushCell { cls := cX, slots := kX.instanceTypes.map defaultValue, vm := .none } = T1 at X₁ st1
  have hcat : (Value.ref T.heap.size).category = 1 := rfl
  have hcellA : T1.heap[T.heap.size]? = some (freshCell cX kX) := by rw [← hT1]; exact State.heap_pushCell_size _ _
  have d3' : decode c.code (pc + 3) = .ok (.dup, 1) := by rw [hb]; exact d3
  have d4' : decode c.code (pc + 4) = .ok (.ldc is, 2) := by rw [hb]; exact d4
  obtain ⟨U, hsteps, hrun, hend, hW, hsame, ce, hce, hO⟩ := X₁.ctorThrowS hx htr (own := own) (cls := cls) (names := names) (ic := ic) hown' hcls hnames hatoms (fun x hx => nomatch hx) hfX hkX hcellA (by rw [hhp, hT0]; exact Nat.le_refl _) (msg := .ref sa) rfl
    (g := { method := m, pc := pc + 6, locals := ls, stack := .ref sa :: .ref T.heap.size :: .ref T.heap.size :: rest, locked := none }) rfl (hsz.trans hml.symm) rfl rfl (rest := rest) rfl
    (by rw [hb]; exact d6) (by rw [hb]; exact d9) (fun x hx => (hnt x hx).elim) hRf (by simp only [List.map_cons, List.sum_cons, hcat]; omega) hlocks
  have hWs : s.WarmedH U.vm := State.WarmedH.trans hW0 hW
  have hsize1 : U.heap.size = H.size + 1 := by
    have q1 : U.heap.size ≤ s'.heap.size + (0 + 1) := hsame.2.2.1
    have q2 : T.heap.size < U.heap.size := (Array.getElem?_eq_some_iff.mp hce).1
    rw [hhp] at q1
    rw [hT0] at q2
    omega
  have hold : ∀ q : Nat, q < H.size → U.heap[q]? = H[q]? := by
    intro q hq
    have hq' : q < s'.heap.size := by rw [hhp]; exact hq
    obtain ⟨c9, e1, e2, e3, e4⟩ := hsame.2.2.2.2.2 q _ (Array.getElem?_eq_getElem hq')
    have hslots : c9.slots = (s'.heap[q]).slots := Array.ext_getElem? fun i => e4 i (fun hm => nomatch hm)
    have h9 : c9 = s'.heap[q] := by rw [hslots] at e2; exact e2
    have e5 : U.heap[q]? = some c9 := e1
    rw [e5, h9, ← Array.getElem?_eq_getElem hq', hhp]
  have hcl : s.vm.findClass cls = some ce.cls := by
    have h9 := hO.cls
    rw [hvm] at h9
    exact h9
  have hall : s.sameButNew ({ U with vm := s.vm } : State) locs R.cells R.slots := by
    subst hs'
    obtain ⟨e1, e2⟩ := hsame
    rw [State.setFrames_setFrames] at e1
    have h2 : (T.setVm s.vm).sameButNew ({ U with vm := s.vm } : State) [] (0 + 1) (0 + 6) := ⟨e1, e2⟩
    have h3 := X.same.trans h2
    rw [List.append_nil] at h3
    exact h3.mono hRc hRs
  obtain ⟨g1, g2, g3, g4⟩ := hI
  have hI' : gI D s A (w.1, w.2 + 1) U.heap locs := ⟨by rw [hsize1, g1], fun a x hx => (g2 a x hx).kept (hold a (g2 a x hx).lt), ⟨by rw [hsize1]; exact Nat.le_trans g3.1 (Nat.le_succ _), fun q q1 q2 => (hold q (Nat.lt_of_lt_of_le q1 g3.1)).trans (g3.2.1 q q1 q2), g3.2.2⟩, g4⟩
  refine ⟨U, ?_, hthr cls (w.1, w.2 + 1) (Option.some.inj h).symm U T.heap.size ce locs hrun hend hWs hall hI' hce hO.vm hcl⟩
  refine st1 _ ?_
  show Steps p.tables e below (T1.setTop { method := m, pc := pc + 3, locals := ls, stack := .ref T.heap.size :: rest, locked := none }) _
  jvm_step X₁.here [X₁.here.top, hx, d3', Value.category]
  exact X₁.ldcString hx (own := own) (text := text) (index := is) (a := sa) hown' hsa.1 hsa.2
    (g := { method := m, pc := pc + 4, locals := ls, stack := .ref T.heap.size :: .ref T.heap.size :: rest, locked := none }) rfl d4' _ hsteps
end GT
end
section
theorem gw_ofI {l : Launch} {y : MethodName} {cc : ByteArray} {maxL : Nat} {rm : Room} {D : gD} {g0 : gG} {av : List Value} {w : gW} {r : (String ⊕ Int32) × gW} (hy : plainFor y = true) (hlen : (lg_sl av).length ≤ maxL) 
    (body : ∀ (p : Program) (e : Env) (s : State) (m : MethodId) (below : List Frame) (meth : Method) (c : Code) (ls : Array Slot) (args : Array Value) (A : Nat → Prop) (Q : State → Prop), p.tables.exec = Jvm.exec → c.code = cc → c.maxLocals = maxL → s.vm.findClass y.cls = some m.cls → meth.locks = false → meth.name = y.name → (∀ x ∈ c.exceptionTable.toList, False) → gT s → gK D s → gZ A s s.heap g0 → (∀ q : Nat, s.heap.size ≤ q → A q) → (∀ (v : Int32) (w1 : gW), r = (.inr v, w1) → ∀ (pc : Nat) (ls : Array Slot) (H : Heap) (locs : List Loc), decode cc pc = .ok (.ireturn, 1) → gI D s A w1 H locs → W p l e rm s m args below meth c H locs rm.cells rm.slots Q (F0 m pc ls [.int v])) → gEx p l e rm s m args below meth c Q D A r → gTh s below rm Q D A r → gI D s A w s.heap [] → lv_has ls maxL (lv_args 0 av) →
      W p l e rm s m args below meth c s.heap [] 0 0 Q (F0 m 0 ls [])) : gMet l y (.code y cc maxL (some .int)) rm D g0 av w (goI r) := by
  refine gw_of hy hlen ?_
  intro p e s m below meth c ls h1 h2 h3 h4 h5 h6 h7 h8 h9 h10 h11 h12 h13 h14
  exact body p e s m below meth c ls _ _ _ h1 h2 h4 h5 h6 h7 h8 h9 h10 h11 h12 (gw_retI h1 h2 h3 h6 r) (gw_exc (fun E w1 h => by rw [h]; rfl) h8 h6) (gw_thr (fun E w1 h => by rw [h]; rfl)) h13 h14
theorem gw_ofZ {l : Launch} {y : MethodName} {cc : ByteArray} {maxL : Nat} {rm : Room} {D : gD} {g0 : gG} {av : List Value} {w : gW} {r : (String ⊕ Int32) × gW} (hy : plainFor y = true) (hlen : (lg_sl av).length ≤ maxL) 
    (body : ∀ (p : Program) (e : Env) (s : State) (m : MethodId) (below : List Frame) (meth : Method) (c : Code) (ls : Array Slot) (args : Array Value) (A : Nat → Prop) (Q : State → Prop), p.tables.exec = Jvm.exec → c.code = cc → c.maxLocals = maxL → s.vm.findClass y.cls = some m.cls → meth.locks = false → meth.name = y.name → (∀ x ∈ c.exceptionTable.toList, False) → gT s → gK D s → gZ A s s.heap g0 → (∀ q : Nat, s.heap.size ≤ q → A q) → (∀ {v : Int32}, (v = 0 ∨ v = 1) → ∀ (v' : Int32) (w1 : gW), r = (.inr v, w1) → ∀ (pc : Nat) (ls : Array Slot) (H : Heap) (locs : List Loc), decode cc pc = .ok (.ireturn, 1) → gI D s A w1 H locs → W p l e rm s m args below meth c H locs rm.cells rm.slots Q (F0 m pc ls [.int v])) → gEx p l e rm s m args below meth c Q D A r → gTh s below rm Q D A r → gI D s A w s.heap [] → lv_has ls maxL (lv_args 0 av) →
      W p l e rm s m args below meth c s.heap [] 0 0 Q (F0 m 0 ls [])) : gMet l y (.code y cc maxL (some .boolean)) rm D g0 av w (goI r) := by
  refine gw_of hy hlen ?_
  intro p e s m below meth c ls h1 h2 h3 h4 h5 h6 h7 h8 h9 h10 h11 h12 h13 h14
  exact body p e s m below meth c ls _ _ _ h1 h2 h4 h5 h6 h7 h8 h9 h10 h11 h12 (gw_retZ h1 h2 h3 h6 r) (gw_exc (fun E w1 h => by rw [h]; rfl) h8 h6) (gw_thr (fun E w1 h => by rw [h]; rfl)) h13 h14
theorem gw_ofJ {l : Launch} {y : MethodName} {cc : ByteArray} {maxL : Nat} {rm : Room} {D : gD} {g0 : gG} {av : List Value} {w : gW} {r : (String ⊕ Int64) × gW} (hy : plainFor y = true) (hlen : (lg_sl av).length ≤ maxL) 
    (body : ∀ (p : Program) (e : Env) (s : State) (m : MethodId) (below : List Frame) (meth : Method) (c : Code) (ls : Array Slot) (args : Array Value) (A : Nat → Prop) (Q : State → Prop), p.tables.exec = Jvm.exec → c.code = cc → c.maxLocals = maxL → s.vm.findClass y.cls = some m.cls → meth.locks = false → meth.name = y.name → (∀ x ∈ c.exceptionTable.toList, False) → gT s → gK D s → gZ A s s.heap g0 → (∀ q : Nat, s.heap.size ≤ q → A q) → (∀ (v : Int64) (w1 : gW), r = (.inr v, w1) → ∀ (pc : Nat) (ls : Array Slot) (H : Heap) (locs : List Loc), decode cc pc = .ok (.lreturn, 1) → gI D s A w1 H locs → W p l e rm s m args below meth c H locs rm.cells rm.slots Q (F0 m pc ls [.long v])) → gEx p l e rm s m args below meth c Q D A r → gTh s below rm Q D A r → gI D s A w s.heap [] → lv_has ls maxL (lv_args 0 av) →
      W p l e rm s m args below meth c s.heap [] 0 0 Q (F0 m 0 ls [])) : gMet l y (.code y cc maxL (some .long)) rm D g0 av w (goJ r) := by
  refine gw_of hy hlen ?_
  intro p e s m below meth c ls h1 h2 h3 h4 h5 h6 h7 h8 h9 h10 h11 h12 h13 h14
  exact body p e s m below meth c ls _ _ _ h1 h2 h4 h5 h6 h7 h8 h9 h10 h11 h12 (gw_retJ h1 h2 h3 h6 r) (gw_exc (fun E w1 h => by rw [h]; rfl) h8 h6) (gw_thr (fun E w1 h => by rw [h]; rfl)) h13 h14
theorem gw_ofV {l : Launch} {y : MethodName} {cc : ByteArray} {maxL : Nat} {rm : Room} {D : gD} {g0 : gG} {av : List Value} {w : gW} {r : (String ⊕ Unit) × gW} (hy : plainFor y = true) (hlen : (lg_sl av).length ≤ maxL) 
    (body : ∀ (p : Program) (e : Env) (s : State) (m : MethodId) (below : List Frame) (meth : Method) (c : Code) (ls : Array Slot) (args : Array Value) (A : Nat → Prop) (Q : State → Prop), p.tables.exec = Jvm.exec → c.code = cc → c.maxLocals = maxL → s.vm.findClass y.cls = some m.cls → meth.locks = false → meth.name = y.name → (∀ x ∈ c.exceptionTable.toList, False) → gT s → gK D s → gZ A s s.heap g0 → (∀ q : Nat, s.heap.size ≤ q → A q) → (∀ (v : Unit) (w1 : gW), r = (.inr v, w1) → ∀ (pc : Nat) (ls : Array Slot) (H : Heap) (locs : List Loc), decode cc pc = .ok (.return_, 1) → gI D s A w1 H locs → W p l e rm s m args below meth c H locs rm.cells rm.slots Q (F0 m pc ls [])) → gEx p l e rm s m args below meth c Q D A r → gTh s below rm Q D A r → gI D s A w s.heap [] → lv_has ls maxL (lv_args 0 av) →
      W p l e rm s m args below meth c s.heap [] 0 0 Q (F0 m 0 ls [])) : gMet l y (.code y cc maxL none) rm D g0 av w (goV r) := by
  refine gw_of hy hlen ?_
  intro p e s m below meth c ls h1 h2 h3 h4 h5 h6 h7 h8 h9 h10 h11 h12 h13 h14
  exact body p e s m below meth c ls _ _ _ h1 h2 h4 h5 h6 h7 h8 h9 h10 h11 h12 (gw_retV h1 h2 h3 h6 r) (gw_exc (fun E w1 h => by rw [h]; rfl) h8 h6) (gw_thr (fun E w1 h => by rw [h]; rfl)) h13 h14
theorem gw_ofA {l : Launch} {y : MethodName} {cc : ByteArray} {maxL : Nat} {rt : FieldType} {rm : Room} {D : gD} {g0 : gG} {av : List Value} {w : gW} {r : (String ⊕ Nat) × gW} (hy : plainFor y = true) (hlen : (lg_sl av).length ≤ maxL) (hrt : (∃ n, rt = .object n) ∨ ∃ t, rt = .array t)
    (body : ∀ (p : Program) (e : Env) (s : State) (m : MethodId) (below : List Frame) (meth : Method) (c : Code) (ls : Array Slot) (args : Array Value) (A : Nat → Prop) (Q : State → Prop), p.tables.exec = Jvm.exec → c.code = cc → c.maxLocals = maxL → s.vm.findClass y.cls = some m.cls → meth.locks = false → meth.name = y.name → (∀ x ∈ c.exceptionTable.toList, False) → gT s → gK D s → gZ A s s.heap g0 → (∀ q : Nat, s.heap.size ≤ q → A q) → (∀ (v : Nat) (w1 : gW), r = (.inr v, w1) → ∀ (pc : Nat) (ls : Array Slot) (H : Heap) (locs : List Loc), decode cc pc = .ok (.areturn, 1) → gI D s A w1 H locs → W p l e rm s m args below meth c H locs rm.cells rm.slots Q (F0 m pc ls [.ref v])) → gEx p l e rm s m args below meth c Q D A r → gTh s below rm Q D A r → gI D s A w s.heap [] → lv_has ls maxL (lv_args 0 av) →
      W p l e rm s m args below meth c s.heap [] 0 0 Q (F0 m 0 ls [])) : gMet l y (.code y cc maxL (some rt)) rm D g0 av w (goA r) := by
  refine gw_of hy hlen ?_
  intro p e s m below meth c ls h1 h2 h3 h4 h5 h6 h7 h8 h9 h10 h11 h12 h13 h14
  exact body p e s m below meth c ls _ _ _ h1 h2 h4 h5 h6 h7 h8 h9 h10 h11 h12 (gw_retA h1 h2 h3 hrt h6 r) (gw_exc (fun E w1 h => by rw [h]; rfl) h8 h6) (gw_thr (fun E w1 h => by rw [h]; rfl)) h13 h14
theorem gat {L : List Cond} (h : ∀ z ∈ L, gno z = true → z ∈ lw_tbl ∧ gNest z = true) : ∀ z ∈ L, gno z = true → z ∈ gAll := fun z hz hg => List.mem_filter.mpr (h z hz hg)
theorem at_IAE : ∀ z ∈ Bundle.ownAtoms "BodySolids" 256 "java/lang/IllegalArgumentException" ["java/lang/RuntimeException", "java/lang/Exception"], gno z = true → z ∈ gAll := gat (by decide +kernel)
theorem at_ISE : ∀ z ∈ Bundle.ownAtoms "BodySolids" 224 "java/lang/IllegalStateException" ["java/lang/RuntimeException", "java/lang/Exception"], gno z = true → z ∈ gAll := gat (by decide +kernel)
theorem at_IOB : ∀ z ∈ Bundle.ownAtoms "BodySolids" 251 "java/lang/IndexOutOfBoundsException" ["java/lang/RuntimeException", "java/lang/Exception"], gno z = true → z ∈ gAll := gat (by decide +kernel)
end
section
theorem df_0 : ∀ j, j < 10 → defaultValue (t_0 j) = vp_V [.long 0, .null, .null, .null, .null, .null, .int 0, .null, .null, .null] j := by decide +kernel
theorem df_1 : ∀ j, j < 3 → defaultValue (t_1 j) = vp_V [.null, .int 0, .int 0] j := by decide +kernel
theorem df_2 : ∀ j, j < 2 → defaultValue (t_2 j) = vp_V [.null, .int 0] j := by decide +kernel
theorem df_3 : ∀ j, j < 12 → defaultValue (t_3 j) = vp_V [.int 0, .long 0, .long 0, .null, .null, .int 0, .long 0, .long 0, .long 0, .long 0, .long 0, .long 0] j := by decide +kernel
theorem df_4 : ∀ j, j < 2 → defaultValue (t_4 j) = vp_V [.null, .long 0] j := by decide +kernel
theorem df_5 : ∀ j, j < 5 → defaultValue (t_5 j) = vp_V [.null, .long 0, .long 0, .int 0, .int 0] j := by decide +kernel
theorem df_6 : ∀ j, j < 2 → defaultValue (t_6 j) = vp_V [.null, .int 0] j := by decide +kernel
theorem df_7 : ∀ j, j < 27 → defaultValue (t_7 j) = vp_V [.int 0, .long 0, .int 0, .null, .null, .null, .null, .null, .null, .int 0, .null, .null, .int 0, .null, .null, .null, .null, .null, .int 0, .null, .null, .null, .null, .null, .null, .null, .null] j := by decide +kernel
set_option maxRecDepth 100000 in
theorem wd_1 : Cond.selects "java/util/ArrayList" ⟨"java/util/ArrayList", "add", "(Ljava/lang/Object;[Ljava/lang/Object;I)V"⟩ ⟨"java/util/ArrayList", "add", "(Ljava/lang/Object;[Ljava/lang/Object;I)V"⟩ ∈ gAll := gm 1 rfl rfl
set_option maxRecDepth 100000 in
theorem wd_2 : Cond.selects "java/util/ArrayList" ⟨"java/util/ArrayList", "grow", "()[Ljava/lang/Object;"⟩ ⟨"java/util/ArrayList", "grow", "()[Ljava/lang/Object;"⟩ ∈ gAll := gm 2 rfl rfl
set_option maxRecDepth 100000 in
theorem wd_3 : Cond.selects "java/util/ArrayList" ⟨"java/util/ArrayList", "grow", "(I)[Ljava/lang/Object;"⟩ ⟨"java/util/ArrayList", "grow", "(I)[Ljava/lang/Object;"⟩ ∈ gAll := gm 3 rfl rfl
set_option maxRecDepth 100000 in
theorem wd_49 : Jvm.Cond.initialized "BodySolids" ∈ gAll := gm 49 rfl rfl
set_option maxRecDepth 100000 in
theorem wd_50 : Jvm.Cond.initialized "java/lang/Math" ∈ gAll := gm 50 rfl rfl
set_option maxRecDepth 100000 in
theorem wd_51 : Jvm.Cond.initialized "java/util/AbstractCollection" ∈ gAll := gm 51 rfl rfl
set_option maxRecDepth 100000 in
theorem wd_52 : Jvm.Cond.initialized "java/util/AbstractList" ∈ gAll := gm 52 rfl rfl
set_option maxRecDepth 100000 in
theorem wd_53 : Jvm.Cond.initialized "java/util/ArrayList" ∈ gAll := gm 53 rfl rfl
set_option maxRecDepth 100000 in
theorem wd_54 : Jvm.Cond.initialized "java/util/Arrays" ∈ gAll := gm 54 rfl rfl
set_option maxRecDepth 100000 in
theorem wd_59 : Jvm.Cond.initialized "jdk/internal/util/ArraysSupport" ∈ gAll := gm 59 rfl rfl
set_option maxRecDepth 100000 in
theorem wd_60 : Jvm.Cond.initialized "java/lang/System" ∈ gAll := gm 60 rfl rfl
set_option maxRecDepth 100000 in
theorem wd_64 : Jvm.Cond.initialized "java/lang/IndexOutOfBoundsException" ∈ gAll := gm 64 rfl rfl
set_option maxRecDepth 100000 in
theorem wd_65 : Jvm.Cond.initialized "java/util/Objects" ∈ gAll := gm 65 rfl rfl
set_option maxRecDepth 100000 in
theorem wd_66 : Jvm.Cond.initialized "jdk/internal/util/Preconditions" ∈ gAll := gm 66 rfl rfl
set_option maxRecDepth 100000 in
theorem wd_67 : Jvm.Cond.initialized "java/lang/IllegalArgumentException" ∈ gAll := gm 67 rfl rfl
set_option maxRecDepth 100000 in
theorem wd_78 : Jvm.Cond.instanceMethod ({ cls := "java/lang/Object", name := "<init>", desc := "()V" } : Jvm.MethodName) ∈ gAll := gm 78 rfl rfl
set_option maxRecDepth 100000 in
theorem wd_79 : Jvm.Cond.code ({ cls := "java/lang/Object", name := "<init>", desc := "()V" } : Jvm.MethodName) object_method_1_code (1 : Nat) (Option.none : Option Jvm.ClassFile.FieldType) ∈ gAll := gm 79 rfl rfl
set_option maxRecDepth 100000 in
theorem wd_90 : Jvm.Cond.instanceMethod ({ cls := "java/util/ArrayList", name := "<init>", desc := "()V" } : Jvm.MethodName) ∈ gAll := gm 90 rfl rfl
set_option maxRecDepth 100000 in
theorem wd_91 : Jvm.Cond.code ({ cls := "java/util/ArrayList", name := "<init>", desc := "()V" } : Jvm.MethodName) prog_24_method_2_code (1 : Nat) (Option.none : Option Jvm.ClassFile.FieldType) ∈ gAll := gm 91 rfl rfl
set_option maxRecDepth 100000 in
theorem wd_92 : Jvm.Cond.methodLink "java/util/ArrayList" (1 : Nat) ({ cls := "java/util/AbstractList", name := "<init>", desc := "()V" } : Jvm.MethodName) ∈ gAll := gm 92 rfl rfl
set_option maxRecDepth 100000 in
theorem wd_93 : Jvm.Cond.instanceMethod ({ cls := "java/util/AbstractList", name := "<init>", desc := "()V" } : Jvm.MethodName) ∈ gAll := gm 93 rfl rfl
set_option maxRecDepth 100000 in
theorem wd_94 : Jvm.Cond.code ({ cls := "java/util/AbstractList", name := "<init>", desc := "()V" } : Jvm.MethodName) prog_23_method_1_code (1 : Nat) (Option.none : Option Jvm.ClassFile.FieldType) ∈ gAll := gm 94 rfl rfl
set_option maxRecDepth 100000 in
theorem wd_95 : Jvm.Cond.methodLink "java/util/AbstractList" (1 : Nat) ({ cls := "java/util/AbstractCollection", name := "<init>", desc := "()V" } : Jvm.MethodName) ∈ gAll := gm 95 rfl rfl
set_option maxRecDepth 100000 in
theorem wd_96 : Jvm.Cond.instanceMethod ({ cls := "java/util/AbstractCollection", name := "<init>", desc := "()V" } : Jvm.MethodName) ∈ gAll := gm 96 rfl rfl
set_option maxRecDepth 100000 in
theorem wd_97 : Jvm.Cond.code ({ cls := "java/util/AbstractCollection", name := "<init>", desc := "()V" } : Jvm.MethodName) prog_22_method_1_code (1 : Nat) (Option.none : Option Jvm.ClassFile.FieldType) ∈ gAll := gm 97 rfl rfl
set_option maxRecDepth 100000 in
theorem wd_98 : Jvm.Cond.methodLink "java/util/AbstractCollection" (1 : Nat) ({ cls := "java/lang/Object", name := "<init>", desc := "()V" } : Jvm.MethodName) ∈ gAll := gm 98 rfl rfl
set_option maxRecDepth 100000 in
theorem wd_99 : Jvm.Cond.fieldLink "java/util/ArrayList" (39 : Nat) "java/util/ArrayList" "DEFAULTCAPACITY_EMPTY_ELEMENTDATA" "[Ljava/lang/Object;" ∈ gAll := gm 99 rfl rfl
set_option maxRecDepth 100000 in
theorem wd_101 : Jvm.Cond.fieldLink "java/util/ArrayList" (9 : Nat) "java/util/ArrayList" "elementData" "[Ljava/lang/Object;" ∈ gAll := gm 101 rfl rfl
set_option maxRecDepth 100000 in
theorem wd_102 : Jvm.Cond.fieldLink "java/util/ArrayList" (48 : Nat) "java/util/ArrayList" "size" "I" ∈ gAll := gm 102 rfl rfl
set_option maxRecDepth 100000 in
theorem wd_103 : Jvm.Cond.fieldLink "java/util/AbstractList" (7 : Nat) "java/util/AbstractList" "modCount" "I" ∈ gAll := gm 103 rfl rfl
set_option maxRecDepth 100000 in
theorem wd_104 : Jvm.Cond.fieldLink "java/util/ArrayList" (63 : Nat) "java/util/ArrayList" "modCount" "I" ∈ gAll := gm 104 rfl rfl
set_option maxRecDepth 100000 in
theorem wd_105 : Jvm.Cond.sameField "java/util/ArrayList" "java/util/AbstractList" "modCount" "I" ∈ gAll := gm 105 rfl rfl
set_option maxRecDepth 100000 in
theorem wd_114 : Jvm.Cond.static ({ cls := "java/util/Arrays", name := "fill", desc := "([II)V" } : Jvm.MethodName) ∈ gAll := gm 114 rfl rfl
set_option maxRecDepth 100000 in
theorem wd_115 : Jvm.Cond.code ({ cls := "java/util/Arrays", name := "fill", desc := "([II)V" } : Jvm.MethodName) prog_25_method_103_code (4 : Nat) (Option.none : Option Jvm.ClassFile.FieldType) ∈ gAll := gm 115 rfl rfl
set_option maxRecDepth 100000 in
theorem wd_225 : Jvm.Cond.instanceMethod ({ cls := "java/util/ArrayList", name := "size", desc := "()I" } : Jvm.MethodName) ∈ gAll := gm 225 rfl rfl
set_option maxRecDepth 100000 in
theorem wd_227 : Jvm.Cond.code ({ cls := "java/util/ArrayList", name := "size", desc := "()I" } : Jvm.MethodName) prog_24_method_8_code (1 : Nat) (Option.some Jvm.ClassFile.FieldType.int) ∈ gAll := gm 227 rfl rfl
set_option maxRecDepth 100000 in
theorem wd_251 : Jvm.Cond.instanceMethod ({ cls := "java/util/ArrayList", name := "add", desc := "(Ljava/lang/Object;)Z" } : Jvm.MethodName) ∈ gAll := gm 251 rfl rfl
set_option maxRecDepth 100000 in
theorem wd_253 : Jvm.Cond.code ({ cls := "java/util/ArrayList", name := "add", desc := "(Ljava/lang/Object;)Z" } : Jvm.MethodName) prog_24_method_25_code (2 : Nat) (Option.some Jvm.ClassFile.FieldType.boolean) ∈ gAll := gm 253 rfl rfl
set_option maxRecDepth 100000 in
theorem wd_254 : Jvm.Cond.methodLink "java/util/ArrayList" (131 : Nat) ({ cls := "java/util/ArrayList", name := "add", desc := "(Ljava/lang/Object;[Ljava/lang/Object;I)V" } : Jvm.MethodName) ∈ gAll := gm 254 rfl rfl
set_option maxRecDepth 100000 in
theorem wd_256 : Jvm.Cond.instanceMethod ({ cls := "java/util/ArrayList", name := "add", desc := "(Ljava/lang/Object;[Ljava/lang/Object;I)V" } : Jvm.MethodName) ∈ gAll := gm 256 rfl rfl
set_option maxRecDepth 100000 in
theorem wd_257 : Jvm.Cond.code ({ cls := "java/util/ArrayList", name := "add", desc := "(Ljava/lang/Object;[Ljava/lang/Object;I)V" } : Jvm.MethodName) prog_24_method_24_code (4 : Nat) (Option.none : Option Jvm.ClassFile.FieldType) ∈ gAll := gm 257 rfl rfl
set_option maxRecDepth 100000 in
theorem wd_258 : Jvm.Cond.methodLink "java/util/ArrayList" (129 : Nat) ({ cls := "java/util/ArrayList", name := "grow", desc := "()[Ljava/lang/Object;" } : Jvm.MethodName) ∈ gAll := gm 258 rfl rfl
set_option maxRecDepth 100000 in
theorem wd_260 : Jvm.Cond.instanceMethod ({ cls := "java/util/ArrayList", name := "grow", desc := "()[Ljava/lang/Object;" } : Jvm.MethodName) ∈ gAll := gm 260 rfl rfl
set_option maxRecDepth 100000 in
theorem wd_261 : Jvm.Cond.code ({ cls := "java/util/ArrayList", name := "grow", desc := "()[Ljava/lang/Object;" } : Jvm.MethodName) prog_24_method_7_code (1 : Nat) (Option.some (Jvm.ClassFile.FieldType.array (Jvm.ClassFile.FieldType.object "java/lang/Object"))) ∈ gAll := gm 261 rfl rfl
set_option maxRecDepth 100000 in
theorem wd_262 : Jvm.Cond.methodLink "java/util/ArrayList" (69 : Nat) ({ cls := "java/util/ArrayList", name := "grow", desc := "(I)[Ljava/lang/Object;" } : Jvm.MethodName) ∈ gAll := gm 262 rfl rfl
set_option maxRecDepth 100000 in
theorem wd_264 : Jvm.Cond.instanceMethod ({ cls := "java/util/ArrayList", name := "grow", desc := "(I)[Ljava/lang/Object;" } : Jvm.MethodName) ∈ gAll := gm 264 rfl rfl
set_option maxRecDepth 100000 in
theorem wd_265 : Jvm.Cond.code ({ cls := "java/util/ArrayList", name := "grow", desc := "(I)[Ljava/lang/Object;" } : Jvm.MethodName) prog_24_method_6_code (4 : Nat) (Option.some (Jvm.ClassFile.FieldType.array (Jvm.ClassFile.FieldType.object "java/lang/Object"))) ∈ gAll := gm 265 rfl rfl
set_option maxRecDepth 100000 in
theorem wd_266 : Jvm.Cond.methodLink "java/util/ArrayList" (73 : Nat) ({ cls := "jdk/internal/util/ArraysSupport", name := "newLength", desc := "(III)I" } : Jvm.MethodName) ∈ gAll := gm 266 rfl rfl
set_option maxRecDepth 100000 in
theorem wd_267 : Jvm.Cond.static ({ cls := "jdk/internal/util/ArraysSupport", name := "newLength", desc := "(III)I" } : Jvm.MethodName) ∈ gAll := gm 267 rfl rfl
set_option maxRecDepth 100000 in
theorem wd_268 : Jvm.Cond.code ({ cls := "jdk/internal/util/ArraysSupport", name := "newLength", desc := "(III)I" } : Jvm.MethodName) prog_31_method_27_code (4 : Nat) (Option.some Jvm.ClassFile.FieldType.int) ∈ gAll := gm 268 rfl rfl
set_option maxRecDepth 100000 in
theorem wd_269 : Jvm.Cond.methodLink "jdk/internal/util/ArraysSupport" (194 : Nat) ({ cls := "java/lang/Math", name := "max", desc := "(II)I" } : Jvm.MethodName) ∈ gAll := gm 269 rfl rfl
set_option maxRecDepth 100000 in
theorem wd_270 : Jvm.Cond.static ({ cls := "java/lang/Math", name := "max", desc := "(II)I" } : Jvm.MethodName) ∈ gAll := gm 270 rfl rfl
set_option maxRecDepth 100000 in
theorem wd_271 : Jvm.Cond.code ({ cls := "java/lang/Math", name := "max", desc := "(II)I" } : Jvm.MethodName) prog_17_method_65_code (2 : Nat) (Option.some Jvm.ClassFile.FieldType.int) ∈ gAll := gm 271 rfl rfl
set_option maxRecDepth 100000 in
theorem wd_272 : Jvm.Cond.constant "jdk/internal/util/ArraysSupport" (200 : Nat) (2147483639 : Int32) ∈ gAll := gm 272 rfl rfl
set_option maxRecDepth 100000 in
theorem wd_273 : Jvm.Cond.methodLink "jdk/internal/util/ArraysSupport" (201 : Nat) ({ cls := "jdk/internal/util/ArraysSupport", name := "hugeLength", desc := "(II)I" } : Jvm.MethodName) ∈ gAll := gm 273 rfl rfl
set_option maxRecDepth 100000 in
theorem wd_274 : Jvm.Cond.static ({ cls := "jdk/internal/util/ArraysSupport", name := "hugeLength", desc := "(II)I" } : Jvm.MethodName) ∈ gAll := gm 274 rfl rfl
set_option maxRecDepth 100000 in
theorem wd_275 : Jvm.Cond.code ({ cls := "jdk/internal/util/ArraysSupport", name := "hugeLength", desc := "(II)I" } : Jvm.MethodName) prog_31_method_28_code (3 : Nat) (Option.some Jvm.ClassFile.FieldType.int) ∈ gAll := gm 275 rfl rfl
set_option maxRecDepth 100000 in
theorem wd_276 : Jvm.Cond.methodLink "java/util/ArrayList" (66 : Nat) ({ cls := "java/util/Arrays", name := "copyOf", desc := "([Ljava/lang/Object;I)[Ljava/lang/Object;" } : Jvm.MethodName) ∈ gAll := gm 276 rfl rfl
set_option maxRecDepth 100000 in
theorem wd_277 : Jvm.Cond.static ({ cls := "java/util/Arrays", name := "copyOf", desc := "([Ljava/lang/Object;I)[Ljava/lang/Object;" } : Jvm.MethodName) ∈ gAll := gm 277 rfl rfl
set_option maxRecDepth 100000 in
theorem wd_278 : Jvm.Cond.code ({ cls := "java/util/Arrays", name := "copyOf", desc := "([Ljava/lang/Object;I)[Ljava/lang/Object;" } : Jvm.MethodName) prog_25_method_119_code (2 : Nat) (Option.some (Jvm.ClassFile.FieldType.array (Jvm.ClassFile.FieldType.object "java/lang/Object"))) ∈ gAll := gm 278 rfl rfl
set_option maxRecDepth 100000 in
theorem wd_279 : Jvm.Cond.methodLink "java/util/Arrays" (86 : Nat) ({ cls := "java/lang/Object", name := "getClass", desc := "()Ljava/lang/Class;" } : Jvm.MethodName) ∈ gAll := gm 279 rfl rfl
set_option maxRecDepth 100000 in
theorem wd_280 : Jvm.Cond.instanceMethod ({ cls := "java/lang/Object", name := "getClass", desc := "()Ljava/lang/Class;" } : Jvm.MethodName) ∈ gAll := gm 280 rfl rfl
set_option maxRecDepth 100000 in
theorem wd_293 : Jvm.Cond.native ({ cls := "java/lang/Object", name := "getClass", desc := "()Ljava/lang/Class;" } : Jvm.MethodName) ∈ gAll := gm 293 rfl rfl
set_option maxRecDepth 100000 in
theorem wd_294 : Jvm.Cond.methodLink "java/util/Arrays" (300 : Nat) ({ cls := "java/util/Arrays", name := "copyOf", desc := "([Ljava/lang/Object;ILjava/lang/Class;)[Ljava/lang/Object;" } : Jvm.MethodName) ∈ gAll := gm 294 rfl rfl
set_option maxRecDepth 100000 in
theorem wd_295 : Jvm.Cond.static ({ cls := "java/util/Arrays", name := "copyOf", desc := "([Ljava/lang/Object;ILjava/lang/Class;)[Ljava/lang/Object;" } : Jvm.MethodName) ∈ gAll := gm 295 rfl rfl
set_option maxRecDepth 100000 in
theorem wd_296 : Jvm.Cond.code ({ cls := "java/util/Arrays", name := "copyOf", desc := "([Ljava/lang/Object;ILjava/lang/Class;)[Ljava/lang/Object;" } : Jvm.MethodName) prog_25_method_120_code (4 : Nat) (Option.some (Jvm.ClassFile.FieldType.array (Jvm.ClassFile.FieldType.object "java/lang/Object"))) ∈ gAll := gm 296 rfl rfl
set_option maxRecDepth 100000 in
theorem wd_297 : Jvm.Cond.classLink "java/util/Arrays" (110 : Nat) "[Ljava/lang/Object;" ∈ gAll := gm 297 rfl rfl
set_option maxRecDepth 100000 in
theorem wd_298 : Jvm.Cond.arrayOver (Jvm.ClassFile.FieldType.object "java/lang/Object") ∈ gAll := gm 298 rfl rfl
set_option maxRecDepth 100000 in
theorem wd_299 : Jvm.Cond.classLink "java/util/Arrays" (2 : Nat) "java/lang/Object" ∈ gAll := gm 299 rfl rfl
set_option maxRecDepth 100000 in
theorem wd_300 : Jvm.Cond.methodLink "java/util/Arrays" (304 : Nat) ({ cls := "java/lang/Math", name := "min", desc := "(II)I" } : Jvm.MethodName) ∈ gAll := gm 300 rfl rfl
set_option maxRecDepth 100000 in
theorem wd_301 : Jvm.Cond.static ({ cls := "java/lang/Math", name := "min", desc := "(II)I" } : Jvm.MethodName) ∈ gAll := gm 301 rfl rfl
set_option maxRecDepth 100000 in
theorem wd_302 : Jvm.Cond.code ({ cls := "java/lang/Math", name := "min", desc := "(II)I" } : Jvm.MethodName) prog_17_method_69_code (2 : Nat) (Option.some Jvm.ClassFile.FieldType.int) ∈ gAll := gm 302 rfl rfl
set_option maxRecDepth 100000 in
theorem wd_303 : Jvm.Cond.methodLink "java/util/Arrays" (150 : Nat) ({ cls := "java/lang/System", name := "arraycopy", desc := "(Ljava/lang/Object;ILjava/lang/Object;II)V" } : Jvm.MethodName) ∈ gAll := gm 303 rfl rfl
set_option maxRecDepth 100000 in
theorem wd_304 : Jvm.Cond.static ({ cls := "java/lang/System", name := "arraycopy", desc := "(Ljava/lang/Object;ILjava/lang/Object;II)V" } : Jvm.MethodName) ∈ gAll := gm 304 rfl rfl
set_option maxRecDepth 100000 in
theorem wd_305 : Jvm.Cond.native ({ cls := "java/lang/System", name := "arraycopy", desc := "(Ljava/lang/Object;ILjava/lang/Object;II)V" } : Jvm.MethodName) ∈ gAll := gm 305 rfl rfl
set_option maxRecDepth 100000 in
theorem wd_306 : Jvm.Cond.methodLink "java/util/ArrayList" (79 : Nat) ({ cls := "java/lang/Math", name := "max", desc := "(II)I" } : Jvm.MethodName) ∈ gAll := gm 306 rfl rfl
set_option maxRecDepth 100000 in
theorem wd_307 : Jvm.Cond.classLink "java/util/ArrayList" (7 : Nat) "java/lang/Object" ∈ gAll := gm 307 rfl rfl
set_option maxRecDepth 100000 in
theorem wd_322 : Jvm.Cond.instanceMethod ({ cls := "java/util/ArrayList", name := "get", desc := "(I)Ljava/lang/Object;" } : Jvm.MethodName) ∈ gAll := gm 322 rfl rfl
set_option maxRecDepth 100000 in
theorem wd_324 : Jvm.Cond.code ({ cls := "java/util/ArrayList", name := "get", desc := "(I)Ljava/lang/Object;" } : Jvm.MethodName) prog_24_method_20_code (2 : Nat) (Option.some (Jvm.ClassFile.FieldType.object "java/lang/Object")) ∈ gAll := gm 324 rfl rfl
set_option maxRecDepth 100000 in
theorem wd_325 : Jvm.Cond.methodLink "java/util/ArrayList" (118 : Nat) ({ cls := "java/util/Objects", name := "checkIndex", desc := "(II)I" } : Jvm.MethodName) ∈ gAll := gm 325 rfl rfl
set_option maxRecDepth 100000 in
theorem wd_326 : Jvm.Cond.static ({ cls := "java/util/Objects", name := "checkIndex", desc := "(II)I" } : Jvm.MethodName) ∈ gAll := gm 326 rfl rfl
set_option maxRecDepth 100000 in
theorem wd_327 : Jvm.Cond.code ({ cls := "java/util/Objects", name := "checkIndex", desc := "(II)I" } : Jvm.MethodName) prog_28_method_17_code (2 : Nat) (Option.some Jvm.ClassFile.FieldType.int) ∈ gAll := gm 327 rfl rfl
set_option maxRecDepth 100000 in
theorem wd_328 : Jvm.Cond.methodLink "java/util/Objects" (105 : Nat) ({ cls := "jdk/internal/util/Preconditions", name := "checkIndex", desc := "(IILjava/util/function/BiFunction;)I" } : Jvm.MethodName) ∈ gAll := gm 328 rfl rfl
set_option maxRecDepth 100000 in
theorem wd_329 : Jvm.Cond.static ({ cls := "jdk/internal/util/Preconditions", name := "checkIndex", desc := "(IILjava/util/function/BiFunction;)I" } : Jvm.MethodName) ∈ gAll := gm 329 rfl rfl
set_option maxRecDepth 100000 in
theorem wd_330 : Jvm.Cond.code ({ cls := "jdk/internal/util/Preconditions", name := "checkIndex", desc := "(IILjava/util/function/BiFunction;)I" } : Jvm.MethodName) prog_32_method_11_code (3 : Nat) (Option.some Jvm.ClassFile.FieldType.int) ∈ gAll := gm 330 rfl rfl
set_option maxRecDepth 100000 in
theorem wd_331 : Jvm.Cond.methodLink "java/util/ArrayList" (123 : Nat) ({ cls := "java/util/ArrayList", name := "elementData", desc := "(I)Ljava/lang/Object;" } : Jvm.MethodName) ∈ gAll := gm 331 rfl rfl
set_option maxRecDepth 100000 in
theorem wd_332 : Jvm.Cond.instanceMethod ({ cls := "java/util/ArrayList", name := "elementData", desc := "(I)Ljava/lang/Object;" } : Jvm.MethodName) ∈ gAll := gm 332 rfl rfl
set_option maxRecDepth 100000 in
theorem wd_333 : Jvm.Cond.selects "java/util/ArrayList" ({ cls := "java/util/ArrayList", name := "elementData", desc := "(I)Ljava/lang/Object;" } : Jvm.MethodName) ({ cls := "java/util/ArrayList", name := "elementData", desc := "(I)Ljava/lang/Object;" } : Jvm.MethodName) ∈ gAll := gm 333 rfl rfl
set_option maxRecDepth 100000 in
theorem wd_334 : Jvm.Cond.code ({ cls := "java/util/ArrayList", name := "elementData", desc := "(I)Ljava/lang/Object;" } : Jvm.MethodName) prog_24_method_18_code (2 : Nat) (Option.some (Jvm.ClassFile.FieldType.object "java/lang/Object")) ∈ gAll := gm 334 rfl rfl
set_option maxRecDepth 100000 in
theorem wd_441 : Jvm.Cond.static ({ cls := "BodySolids", name := "needIndex", desc := "(II)V" } : Jvm.MethodName) ∈ gAll := gm 441 rfl rfl
set_option maxRecDepth 100000 in
theorem wd_442 : Jvm.Cond.code ({ cls := "BodySolids", name := "needIndex", desc := "(II)V" } : Jvm.MethodName) prog_1_method_19_code (2 : Nat) (Option.none : Option Jvm.ClassFile.FieldType) ∈ gAll := gm 442 rfl rfl
set_option maxRecDepth 100000 in
theorem wd_443 : Jvm.Cond.classLink "BodySolids" (247 : Nat) "java/lang/IndexOutOfBoundsException" ∈ gAll := gm 443 rfl rfl
set_option maxRecDepth 100000 in
theorem wd_517 : Jvm.Cond.static ({ cls := "BodySolids", name := "needWithin", desc := "(JJJ)V" } : Jvm.MethodName) ∈ gAll := gm 517 rfl rfl
set_option maxRecDepth 100000 in
theorem wd_518 : Jvm.Cond.code ({ cls := "BodySolids", name := "needWithin", desc := "(JJJ)V" } : Jvm.MethodName) prog_1_method_20_code (6 : Nat) (Option.none : Option Jvm.ClassFile.FieldType) ∈ gAll := gm 518 rfl rfl
set_option maxRecDepth 100000 in
theorem wd_519 : Jvm.Cond.classLink "BodySolids" (252 : Nat) "java/lang/IllegalArgumentException" ∈ gAll := gm 519 rfl rfl
set_option maxRecDepth 100000 in
theorem wd_1124 : Jvm.Cond.selects "[Ljava/lang/Object;" ({ cls := "java/lang/Object", name := "getClass", desc := "()Ljava/lang/Class;" } : Jvm.MethodName) ({ cls := "java/lang/Object", name := "getClass", desc := "()Ljava/lang/Class;" } : Jvm.MethodName) ∈ gAll := gm 1124 rfl rfl
set_option maxRecDepth 100000 in
theorem wd_1125 : Jvm.Cond.declares ({ cls := "java/lang/Object", name := "getClass", desc := "()Ljava/lang/Class;" } : Jvm.MethodName) ∈ gAll := gm 1125 rfl rfl
end
section
abbrev b_Ma_max : ByteArray := prog_17_method_65_code
def y_Ma_max : MethodName := ⟨"java/lang/Math", "max", "(II)I"⟩
theorem d_Ma_max_0 : decode b_Ma_max 0 = .ok (.iload_n 0, 1) := by decide +kernel
theorem d_Ma_max_1 : decode b_Ma_max 1 = .ok (.iload_n 1, 1) := by decide +kernel
theorem d_Ma_max_2 : decode b_Ma_max 2 = .ok (.if_icmp .lt 7, 3) := by decide +kernel
theorem d_Ma_max_5 : decode b_Ma_max 5 = .ok (.iload_n 0, 1) := by decide +kernel
theorem d_Ma_max_6 : decode b_Ma_max 6 = .ok (.goto 4, 3) := by decide +kernel
theorem d_Ma_max_9 : decode b_Ma_max 9 = .ok (.iload_n 1, 1) := by decide +kernel
theorem d_Ma_max_10 : decode b_Ma_max 10 = .ok (.ireturn, 1) := by decide +kernel
abbrev rm_Ma_max : Room := { frames := 0, cells := 0, slots := 0, locals := 0 }
theorem ce_Ma_max : gCe y_Ma_max (.code y_Ma_max b_Ma_max 2 (some .int)) 2 2 true := gCe.code wd_271 wd_50 wd_270 (by decide) (by decide +kernel)
def f_Ma_max (g0 : gG) (p0 : Int32) (p1 : Int32) (w : gW) : gX Int32 := gjoin (fun K10 => if p0 < p1 then (K10 p1 w) else (K10 p0 w)) (fun (y1 : Int32) (w : gW) => some (.inr y1, w))
set_option maxHeartbeats 4000000 in
set_option maxRecDepth 100000 in
theorem m_Ma_max (l : Launch) (hst : l.stackTraces = false) (D : gD) (g0 : gG) (p0 : Int32) (p1 : Int32) (w : gW) (r : (String ⊕ Int32) × gW) (h : f_Ma_max g0 p0 p1 w = some r) : gMet l y_Ma_max (.code y_Ma_max b_Ma_max 2 (some .int)) rm_Ma_max D g0 [.int p0, .int p1] w (goI r) := by
  refine gw_ofI (by decide +kernel) (Nat.le_of_ble_eq_true rfl) ?_
  intro p e s m below meth c ls args A Q hx hb hml hown hlocks hin hnt hT hK hZ hA hret hexc hthr hI hl
  obtain ⟨H, hH⟩ : ∃ H, H = s.heap := ⟨_, rfl⟩
  rw [← hH] at hI ⊢
  obtain ⟨locs, hlocs⟩ : ∃ z : List Loc, z = [] := ⟨_, rfl⟩
  rw [← hlocs] at hI ⊢
  have hl : lv_has ls 2 [(0, .int p0), (1, .int p1)] := hl
  unfold f_Ma_max at h
  refine lv_iload_n hx hb d_Ma_max_0 rfl (lv_at hl 0 rfl) ?_
  refine lv_iload_n hx hb d_Ma_max_1 rfl (lv_at hl 1 rfl) ?_
  obtain ⟨K10, eK10, h⟩ := gj h
  have hK10 : ∀ (y1 : Int32) (w : gW) (H : Heap) (locs : List Loc) (ls : Array Slot), K10 y1 w = some r → gI D s A w H locs → lv_has ls 2 [] → W p l e rm_Ma_max s m args below meth c H locs 0 0 Q (F0 m 10 ls [.int y1]) := by
    intro y1 w H locs ls h hI hl
    have h := gk2 eK10 h
    exact W.widen (show 0 ≤ 0 by omega) (show 0 ≤ 0 by omega) (hret _ _ (Option.some.inj h).symm _ _ _ _ d_Ma_max_10 hI)
  refine lv_icmp_lt (tgt := 9) hx hb d_Ma_max_2 (by decide) (fun c2 => ?_) (fun c2 => ?_)
  · skip
    have h := git c2 h
    refine lv_iload_n hx hb d_Ma_max_9 rfl (lv_at hl 1 rfl) ?_
    exact hK10 _ w H locs ls h hI (lv_sub hl [] rfl)
  · skip
    have h := gie c2 h
    refine lv_iload_n hx hb d_Ma_max_5 rfl (lv_at hl 0 rfl) ?_
    refine lv_goto (tgt := 10) hx hb d_Ma_max_6 (by decide) ?_
    exact hK10 _ w H locs ls h hI (lv_sub hl [] rfl)

abbrev b_As_hugeLength : ByteArray := prog_31_method_28_code
def y_As_hugeLength : MethodName := ⟨"jdk/internal/util/ArraysSupport", "hugeLength", "(II)I"⟩
theorem d_As_hugeLength_0 : decode b_As_hugeLength 0 = .ok (.iload_n 0, 1) := by decide +kernel
theorem d_As_hugeLength_1 : decode b_As_hugeLength 1 = .ok (.iload_n 1, 1) := by decide +kernel
theorem d_As_hugeLength_2 : decode b_As_hugeLength 2 = .ok (.iadd, 1) := by decide +kernel
theorem d_As_hugeLength_3 : decode b_As_hugeLength 3 = .ok (.istore_n 2, 1) := by decide +kernel
theorem d_As_hugeLength_4 : decode b_As_hugeLength 4 = .ok (.iload_n 2, 1) := by decide +kernel
theorem d_As_hugeLength_5 : decode b_As_hugeLength 5 = .ok (.ifCond .ge 44, 3) := by decide +kernel
theorem d_As_hugeLength_8 : decode b_As_hugeLength 8 = .ok (.new 204, 3) := by decide +kernel
theorem d_As_hugeLength_49 : decode b_As_hugeLength 49 = .ok (.iload_n 2, 1) := by decide +kernel
theorem d_As_hugeLength_50 : decode b_As_hugeLength 50 = .ok (.ldc 200, 2) := by decide +kernel
theorem d_As_hugeLength_52 : decode b_As_hugeLength 52 = .ok (.if_icmp .gt 6, 3) := by decide +kernel
theorem d_As_hugeLength_55 : decode b_As_hugeLength 55 = .ok (.ldc 200, 2) := by decide +kernel
theorem d_As_hugeLength_57 : decode b_As_hugeLength 57 = .ok (.ireturn, 1) := by decide +kernel
theorem d_As_hugeLength_58 : decode b_As_hugeLength 58 = .ok (.iload_n 2, 1) := by decide +kernel
theorem d_As_hugeLength_59 : decode b_As_hugeLength 59 = .ok (.ireturn, 1) := by decide +kernel
abbrev rm_As_hugeLength : Room := { frames := 0, cells := 0, slots := 0, locals := 0 }
theorem ce_As_hugeLength : gCe y_As_hugeLength (.code y_As_hugeLength b_As_hugeLength 3 (some .int)) 3 2 true := gCe.code wd_275 wd_59 wd_274 (by decide) (by decide +kernel)
def f_As_hugeLength (g0 : gG) (p0 : Int32) (p1 : Int32) (w : gW) : gX Int32 := if 0 ≤ (p0 + p1) then (if 2147483639 < (p0 + p1) then (some (.inr (p0 + p1), w)) else (some (.inr 2147483639, w))) else (none)
set_option maxHeartbeats 4000000 in
set_option maxRecDepth 100000 in
theorem m_As_hugeLength (l : Launch) (hst : l.stackTraces = false) (D : gD) (g0 : gG) (p0 : Int32) (p1 : Int32) (w : gW) (r : (String ⊕ Int32) × gW) (h : f_As_hugeLength g0 p0 p1 w = some r) : gMet l y_As_hugeLength (.code y_As_hugeLength b_As_hugeLength 3 (some .int)) rm_As_hugeLength D g0 [.int p0, .int p1] w (goI r) := by
  refine gw_ofI (by decide +kernel) (Nat.le_of_ble_eq_true rfl) ?_
  intro p e s m below meth c ls args A Q hx hb hml hown hlocks hin hnt hT hK hZ hA hret hexc hthr hI hl
  obtain ⟨H, hH⟩ : ∃ H, H = s.heap := ⟨_, rfl⟩
  rw [← hH] at hI ⊢
  obtain ⟨locs, hlocs⟩ : ∃ z : List Loc, z = [] := ⟨_, rfl⟩
  rw [← hlocs] at hI ⊢
  have hl : lv_has ls 3 [(0, .int p0), (1, .int p1)] := hl
  unfold f_As_hugeLength at h
  refine lv_iload_n hx hb d_As_hugeLength_0 rfl (lv_at hl 0 rfl) ?_
  refine lv_iload_n hx hb d_As_hugeLength_1 rfl (lv_at hl 1 rfl) ?_
  refine lv_iadd hx hb d_As_hugeLength_2 ?_
  refine lv_istore_n (lv' := [(2, .int (p0 + p1)), (0, .int p0), (1, .int p1)]) hx hb d_As_hugeLength_3 rfl hl (by decide) rfl (fun ls hl => ?_)
  refine lv_iload_n hx hb d_As_hugeLength_4 rfl (lv_at hl 0 rfl) ?_
  refine lv_if_ge (tgt := 49) hx hb d_As_hugeLength_5 (by decide) (fun c1 => ?_) (fun c1 => ?_)
  · skip
    have h := git c1 h
    refine lv_iload_n hx hb d_As_hugeLength_49 rfl (lv_at hl 0 rfl) ?_
    refine lv_ldc (v := 2147483639) hx hb hown (hT _ wd_272 args) d_As_hugeLength_50 ?_
    refine lv_icmp_gt (tgt := 58) hx hb d_As_hugeLength_52 (by decide) (fun c2 => ?_) (fun c2 => ?_)
    · skip
      have h := git c2 h
      refine lv_iload_n hx hb d_As_hugeLength_58 rfl (lv_at hl 0 rfl) ?_
      exact W.widen (show 0 ≤ 0 by omega) (show 0 ≤ 0 by omega) (hret _ _ (Option.some.inj h).symm _ _ _ _ d_As_hugeLength_59 hI)
    · skip
      have h := gie c2 h
      refine lv_ldc (v := 2147483639) hx hb hown (hT _ wd_272 args) d_As_hugeLength_55 ?_
      exact W.widen (show 0 ≤ 0 by omega) (show 0 ≤ 0 by omega) (hret _ _ (Option.some.inj h).symm _ _ _ _ d_As_hugeLength_57 hI)
  · skip
    have h := gie c1 h
    exact absurd h (by simp)

abbrev b_As_newLength : ByteArray := prog_31_method_27_code
def y_As_newLength : MethodName := ⟨"jdk/internal/util/ArraysSupport", "newLength", "(III)I"⟩
theorem d_As_newLength_0 : decode b_As_newLength 0 = .ok (.iload_n 0, 1) := by decide +kernel
theorem d_As_newLength_1 : decode b_As_newLength 1 = .ok (.iload_n 1, 1) := by decide +kernel
theorem d_As_newLength_2 : decode b_As_newLength 2 = .ok (.iload_n 2, 1) := by decide +kernel
theorem d_As_newLength_3 : decode b_As_newLength 3 = .ok (.invokestatic 194, 3) := by decide +kernel
theorem d_As_newLength_6 : decode b_As_newLength 6 = .ok (.iadd, 1) := by decide +kernel
theorem d_As_newLength_7 : decode b_As_newLength 7 = .ok (.istore_n 3, 1) := by decide +kernel
theorem d_As_newLength_8 : decode b_As_newLength 8 = .ok (.iconst 0, 1) := by decide +kernel
theorem d_As_newLength_9 : decode b_As_newLength 9 = .ok (.iload_n 3, 1) := by decide +kernel
theorem d_As_newLength_10 : decode b_As_newLength 10 = .ok (.if_icmp .ge 11, 3) := by decide +kernel
theorem d_As_newLength_13 : decode b_As_newLength 13 = .ok (.iload_n 3, 1) := by decide +kernel
theorem d_As_newLength_14 : decode b_As_newLength 14 = .ok (.ldc 200, 2) := by decide +kernel
theorem d_As_newLength_16 : decode b_As_newLength 16 = .ok (.if_icmp .gt 5, 3) := by decide +kernel
theorem d_As_newLength_19 : decode b_As_newLength 19 = .ok (.iload_n 3, 1) := by decide +kernel
theorem d_As_newLength_20 : decode b_As_newLength 20 = .ok (.ireturn, 1) := by decide +kernel
theorem d_As_newLength_21 : decode b_As_newLength 21 = .ok (.iload_n 0, 1) := by decide +kernel
theorem d_As_newLength_22 : decode b_As_newLength 22 = .ok (.iload_n 1, 1) := by decide +kernel
theorem d_As_newLength_23 : decode b_As_newLength 23 = .ok (.invokestatic 201, 3) := by decide +kernel
theorem d_As_newLength_26 : decode b_As_newLength 26 = .ok (.ireturn, 1) := by decide +kernel
abbrev rm_As_newLength : Room := { frames := 1, cells := 0, slots := 0, locals := 22 }
theorem ce_As_newLength : gCe y_As_newLength (.code y_As_newLength b_As_newLength 4 (some .int)) 4 3 true := gCe.code wd_268 wd_59 wd_267 (by decide) (by decide +kernel)
def f_As_newLength (g0 : gG) (p0 : Int32) (p1 : Int32) (p2 : Int32) (w : gW) : gX Int32 := gbind (f_Ma_max g0 p1 p2 w) fun v3 w => gjoin (fun K21 => if (p0 + v3) ≤ (0 : Int32) then (K21 w) else (if 2147483639 < (p0 + v3) then (K21 w) else (some (.inr (p0 + v3), w)))) (fun (w : gW) => gbind (f_As_hugeLength g0 p0 p1 w) fun v6 w => some (.inr v6, w))
set_option maxHeartbeats 4000000 in
set_option maxRecDepth 100000 in
theorem m_As_newLength (l : Launch) (hst : l.stackTraces = false) (D : gD) (g0 : gG) (p0 : Int32) (p1 : Int32) (p2 : Int32) (w : gW) (r : (String ⊕ Int32) × gW) (h : f_As_newLength g0 p0 p1 p2 w = some r) : gMet l y_As_newLength (.code y_As_newLength b_As_newLength 4 (some .int)) rm_As_newLength D g0 [.int p0, .int p1, .int p2] w (goI r) := by
  refine gw_ofI (by decide +kernel) (Nat.le_of_ble_eq_true rfl) ?_
  intro p e s m below meth c ls args A Q hx hb hml hown hlocks hin hnt hT hK hZ hA hret hexc hthr hI hl
  obtain ⟨H, hH⟩ : ∃ H, H = s.heap := ⟨_, rfl⟩
  rw [← hH] at hI ⊢
  obtain ⟨locs, hlocs⟩ : ∃ z : List Loc, z = [] := ⟨_, rfl⟩
  rw [← hlocs] at hI ⊢
  have hl : lv_has ls 4 [(0, .int p0), (1, .int p1), (2, .int p2)] := hl
  unfold f_As_newLength at h
  refine lv_iload_n hx hb d_As_newLength_0 rfl (lv_at hl 0 rfl) ?_
  refine lv_iload_n hx hb d_As_newLength_1 rfl (lv_at hl 1 rfl) ?_
  refine lv_iload_n hx hb d_As_newLength_2 rfl (lv_at hl 2 rfl) ?_
  obtain ⟨u1, e2⟩ := gsome h
  refine gw_callI e2 h (gw_runS (As := [.int p1, .int p2]) (rest := [.int p0]) hx hb hml hown hT hK hZ hA hI (m_Ma_max l hst D g0 p1 p2 w u1 e2) ce_Ma_max wd_269 ⟨by decide, by decide⟩ rfl rfl hl.1 rfl (lv_room (Nat.le_of_ble_eq_true rfl)) d_As_newLength_3 ⟨(show 0 + 0 ≤ 0 by omega), (show 0 + 0 ≤ 0 by omega)⟩) hI hA hexc (show 0 + 0 ≤ 0 by omega) (show 0 + 0 ≤ 0 by omega) (fun v3 w H locs h hI => ?_)
  refine lv_iadd hx hb d_As_newLength_6 ?_
  refine lv_istore_n (lv' := [(3, .int (p0 + v3)), (0, .int p0), (1, .int p1), (2, .int p2)]) hx hb d_As_newLength_7 rfl hl (by decide) rfl (fun ls hl => ?_)
  refine lv_iconst (v := 0) hx hb d_As_newLength_8 (by decide) ?_
  refine lv_iload_n hx hb d_As_newLength_9 rfl (lv_at hl 0 rfl) ?_
  obtain ⟨K21, eK21, h⟩ := gj h
  have hK21 : ∀ (w : gW) (H : Heap) (locs : List Loc) (ls : Array Slot), K21 w = some r → gI D s A w H locs → lv_has ls 4 [(0, .int p0), (1, .int p1)] → W p l e rm_As_newLength s m args below meth c H locs 0 0 Q (F0 m 21 ls []) := by
    intro w H locs ls h hI hl
    have h := gk1 eK21 h
    refine lv_iload_n hx hb d_As_newLength_21 rfl (lv_at hl 0 rfl) ?_
    refine lv_iload_n hx hb d_As_newLength_22 rfl (lv_at hl 1 rfl) ?_
    obtain ⟨u4, e5⟩ := gsome h
    refine gw_callI e5 h (gw_runS (As := [.int p0, .int p1]) (rest := []) hx hb hml hown hT hK hZ hA hI (m_As_hugeLength l hst D g0 p0 p1 w u4 e5) ce_As_hugeLength wd_273 ⟨by decide, by decide⟩ rfl rfl hl.1 rfl (lv_room (Nat.le_of_ble_eq_true rfl)) d_As_newLength_23 ⟨(show 0 + 0 ≤ 0 by omega), (show 0 + 0 ≤ 0 by omega)⟩) hI hA hexc (show 0 + 0 ≤ 0 by omega) (show 0 + 0 ≤ 0 by omega) (fun v6 w H locs h hI => ?_)
    exact W.widen (show 0 ≤ 0 by omega) (show 0 ≤ 0 by omega) (hret _ _ (Option.some.inj h).symm _ _ _ _ d_As_newLength_26 hI)
  refine lv_icmp_ge (tgt := 21) hx hb d_As_newLength_10 (by decide) (fun c7 => ?_) (fun c7 => ?_)
  · skip
    have h := git c7 h
    exact hK21 w H locs ls h hI (lv_sub hl [1, 2] rfl)
  · skip
    have h := gie c7 h
    refine lv_iload_n hx hb d_As_newLength_13 rfl (lv_at hl 0 rfl) ?_
    refine lv_ldc (v := 2147483639) hx hb hown (hT _ wd_272 args) d_As_newLength_14 ?_
    refine lv_icmp_gt (tgt := 21) hx hb d_As_newLength_16 (by decide) (fun c8 => ?_) (fun c8 => ?_)
    · skip
      have h := git c8 h
      exact hK21 w H locs ls h hI (lv_sub hl [1, 2] rfl)
    · skip
      have h := gie c8 h
      refine lv_iload_n hx hb d_As_newLength_19 rfl (lv_at hl 0 rfl) ?_
      exact W.widen (show 0 ≤ 0 by omega) (show 0 ≤ 0 by omega) (hret _ _ (Option.some.inj h).symm _ _ _ _ d_As_newLength_20 hI)

abbrev b_Ma_min : ByteArray := prog_17_method_69_code
def y_Ma_min : MethodName := ⟨"java/lang/Math", "min", "(II)I"⟩
theorem d_Ma_min_0 : decode b_Ma_min 0 = .ok (.iload_n 0, 1) := by decide +kernel
theorem d_Ma_min_1 : decode b_Ma_min 1 = .ok (.iload_n 1, 1) := by decide +kernel
theorem d_Ma_min_2 : decode b_Ma_min 2 = .ok (.if_icmp .gt 7, 3) := by decide +kernel
theorem d_Ma_min_5 : decode b_Ma_min 5 = .ok (.iload_n 0, 1) := by decide +kernel
theorem d_Ma_min_6 : decode b_Ma_min 6 = .ok (.goto 4, 3) := by decide +kernel
theorem d_Ma_min_9 : decode b_Ma_min 9 = .ok (.iload_n 1, 1) := by decide +kernel
theorem d_Ma_min_10 : decode b_Ma_min 10 = .ok (.ireturn, 1) := by decide +kernel
abbrev rm_Ma_min : Room := { frames := 0, cells := 0, slots := 0, locals := 0 }
theorem ce_Ma_min : gCe y_Ma_min (.code y_Ma_min b_Ma_min 2 (some .int)) 2 2 true := gCe.code wd_302 wd_50 wd_301 (by decide) (by decide +kernel)
def f_Ma_min (g0 : gG) (p0 : Int32) (p1 : Int32) (w : gW) : gX Int32 := gjoin (fun K10 => if p1 < p0 then (K10 p1 w) else (K10 p0 w)) (fun (y1 : Int32) (w : gW) => some (.inr y1, w))
set_option maxHeartbeats 4000000 in
set_option maxRecDepth 100000 in
theorem m_Ma_min (l : Launch) (hst : l.stackTraces = false) (D : gD) (g0 : gG) (p0 : Int32) (p1 : Int32) (w : gW) (r : (String ⊕ Int32) × gW) (h : f_Ma_min g0 p0 p1 w = some r) : gMet l y_Ma_min (.code y_Ma_min b_Ma_min 2 (some .int)) rm_Ma_min D g0 [.int p0, .int p1] w (goI r) := by
  refine gw_ofI (by decide +kernel) (Nat.le_of_ble_eq_true rfl) ?_
  intro p e s m below meth c ls args A Q hx hb hml hown hlocks hin hnt hT hK hZ hA hret hexc hthr hI hl
  obtain ⟨H, hH⟩ : ∃ H, H = s.heap := ⟨_, rfl⟩
  rw [← hH] at hI ⊢
  obtain ⟨locs, hlocs⟩ : ∃ z : List Loc, z = [] := ⟨_, rfl⟩
  rw [← hlocs] at hI ⊢
  have hl : lv_has ls 2 [(0, .int p0), (1, .int p1)] := hl
  unfold f_Ma_min at h
  refine lv_iload_n hx hb d_Ma_min_0 rfl (lv_at hl 0 rfl) ?_
  refine lv_iload_n hx hb d_Ma_min_1 rfl (lv_at hl 1 rfl) ?_
  obtain ⟨K10, eK10, h⟩ := gj h
  have hK10 : ∀ (y1 : Int32) (w : gW) (H : Heap) (locs : List Loc) (ls : Array Slot), K10 y1 w = some r → gI D s A w H locs → lv_has ls 2 [] → W p l e rm_Ma_min s m args below meth c H locs 0 0 Q (F0 m 10 ls [.int y1]) := by
    intro y1 w H locs ls h hI hl
    have h := gk2 eK10 h
    exact W.widen (show 0 ≤ 0 by omega) (show 0 ≤ 0 by omega) (hret _ _ (Option.some.inj h).symm _ _ _ _ d_Ma_min_10 hI)
  refine lv_icmp_gt (tgt := 9) hx hb d_Ma_min_2 (by decide) (fun c2 => ?_) (fun c2 => ?_)
  · skip
    have h := git c2 h
    refine lv_iload_n hx hb d_Ma_min_9 rfl (lv_at hl 1 rfl) ?_
    exact hK10 _ w H locs ls h hI (lv_sub hl [] rfl)
  · skip
    have h := gie c2 h
    refine lv_iload_n hx hb d_Ma_min_5 rfl (lv_at hl 0 rfl) ?_
    refine lv_goto (tgt := 10) hx hb d_Ma_min_6 (by decide) ?_
    exact hK10 _ w H locs ls h hI (lv_sub hl [] rfl)

abbrev b_Ar_copyOf2 : ByteArray := prog_25_method_120_code
def y_Ar_copyOf2 : MethodName := ⟨"java/util/Arrays", "copyOf", "([Ljava/lang/Object;ILjava/lang/Class;)[Ljava/lang/Object;"⟩
theorem d_Ar_copyOf2_0 : decode b_Ar_copyOf2 0 = .ok (.aload_n 2, 1) := by decide +kernel
theorem d_Ar_copyOf2_1 : decode b_Ar_copyOf2 1 = .ok (.ldc 110, 2) := by decide +kernel
theorem d_Ar_copyOf2_3 : decode b_Ar_copyOf2 3 = .ok (.if_acmp .ne 10, 3) := by decide +kernel
theorem d_Ar_copyOf2_6 : decode b_Ar_copyOf2 6 = .ok (.iload_n 1, 1) := by decide +kernel
theorem d_Ar_copyOf2_7 : decode b_Ar_copyOf2 7 = .ok (.anewarray 2, 3) := by decide +kernel
theorem d_Ar_copyOf2_10 : decode b_Ar_copyOf2 10 = .ok (.goto 14, 3) := by decide +kernel
theorem d_Ar_copyOf2_13 : decode b_Ar_copyOf2 13 = .ok (.aload_n 2, 1) := by decide +kernel
theorem d_Ar_copyOf2_14 : decode b_Ar_copyOf2 14 = .ok (.invokevirtual 90, 3) := by decide +kernel
theorem d_Ar_copyOf2_24 : decode b_Ar_copyOf2 24 = .ok (.astore_n 3, 1) := by decide +kernel
theorem d_Ar_copyOf2_25 : decode b_Ar_copyOf2 25 = .ok (.aload_n 0, 1) := by decide +kernel
theorem d_Ar_copyOf2_26 : decode b_Ar_copyOf2 26 = .ok (.iconst 0, 1) := by decide +kernel
theorem d_Ar_copyOf2_27 : decode b_Ar_copyOf2 27 = .ok (.aload_n 3, 1) := by decide +kernel
theorem d_Ar_copyOf2_28 : decode b_Ar_copyOf2 28 = .ok (.iconst 0, 1) := by decide +kernel
theorem d_Ar_copyOf2_29 : decode b_Ar_copyOf2 29 = .ok (.aload_n 0, 1) := by decide +kernel
theorem d_Ar_copyOf2_30 : decode b_Ar_copyOf2 30 = .ok (.arraylength, 1) := by decide +kernel
theorem d_Ar_copyOf2_31 : decode b_Ar_copyOf2 31 = .ok (.iload_n 1, 1) := by decide +kernel
theorem d_Ar_copyOf2_32 : decode b_Ar_copyOf2 32 = .ok (.invokestatic 304, 3) := by decide +kernel
theorem d_Ar_copyOf2_35 : decode b_Ar_copyOf2 35 = .ok (.invokestatic 150, 3) := by decide +kernel
theorem d_Ar_copyOf2_38 : decode b_Ar_copyOf2 38 = .ok (.aload_n 3, 1) := by decide +kernel
theorem d_Ar_copyOf2_39 : decode b_Ar_copyOf2 39 = .ok (.areturn, 1) := by decide +kernel
abbrev rm_Ar_copyOf2 : Room := { frames := 1, cells := 1, slots := 64, locals := 48 }
theorem ce_Ar_copyOf2 : gCe y_Ar_copyOf2 (.code y_Ar_copyOf2 b_Ar_copyOf2 4 (some (.array (.object "java/lang/Object")))) 4 3 true := gCe.code wd_296 wd_54 wd_295 (by decide) (by decide +kernel)
def f_Ar_copyOf2 (g0 : gG) (a0 : Nat) (p1 : Int32) (a2 : Nat) (w : gW) : gX Nat := if a2 = (g0.2) then (gb2f (gna w 3 p1 64 .null) fun o2 w => (gal w a0).bind fun v4 => gbind (f_Ma_min g0 v4 p1 w) fun v8 w => (gcp w a0 0 o2 0 v8).bind fun w => some (.inr o2, w)) else (none)
set_option maxHeartbeats 4000000 in
set_option maxRecDepth 100000 in
theorem m_Ar_copyOf2 (l : Launch) (hst : l.stackTraces = false) (D : gD) (g0 : gG) (a0 : Nat) (p1 : Int32) (a2 : Nat) (w : gW) (r : (String ⊕ Nat) × gW) (h : f_Ar_copyOf2 g0 a0 p1 a2 w = some r) : gMet l y_Ar_copyOf2 (.code y_Ar_copyOf2 b_Ar_copyOf2 4 (some (.array (.object "java/lang/Object")))) rm_Ar_copyOf2 D g0 [.ref a0, .int p1, .ref a2] w (goA r) := by
  refine gw_ofA (by decide +kernel) (Nat.le_of_ble_eq_true rfl) (Or.inr ⟨_, rfl⟩) ?_
  intro p e s m below meth c ls args A Q hx hb hml hown hlocks hin hnt hT hK hZ hA hret hexc hthr hI hl
  obtain ⟨H, hH⟩ : ∃ H, H = s.heap := ⟨_, rfl⟩
  rw [← hH] at hI ⊢
  obtain ⟨locs, hlocs⟩ : ∃ z : List Loc, z = [] := ⟨_, rfl⟩
  rw [← hlocs] at hI ⊢
  have hl : lv_has ls 4 [(0, .ref a0), (1, .int p1), (2, .ref a2)] := hl
  unfold f_Ar_copyOf2 at h
  refine lv_aload_n hx hb d_Ar_copyOf2_0 rfl (lv_at hl 2 rfl) ?_
  refine gw_ldcM hx hb hT hown hZ wd_297 d_Ar_copyOf2_1 ?_
  refine gw_acmp_ne (tgt := 13) hx hb d_Ar_copyOf2_3 (by decide) (fun c1 => ?_) (fun c1 => ?_)
  · skip
    have h := gie c1 h
    exact absurd h (by simp)
  · skip
    have h := git c1 h
    refine lv_iload_n hx hb d_Ar_copyOf2_6 rfl (lv_at hl 1 rfl) ?_
    obtain ⟨o2, w, e3, h⟩ := gb2 h
    refine gw_anew (M := 64) hx hb hown hK hI hA (hT _ wd_299 args) (hT _ wd_298 args) (k := 3) rfl e3 (show 0 + 1 ≤ 1 by omega) (show 0 + 64 ≤ 64 by omega) (show 64 * 4 ≤ 536870912 by omega) d_Ar_copyOf2_7 (fun H hI => ?_)
    refine W.widen (k := 1) (n := 64) (show 0 + 1 ≤ 1 by omega) (show 0 + 64 ≤ 64 by omega) ?_
    refine lv_goto (tgt := 24) hx hb d_Ar_copyOf2_10 (by decide) ?_
    refine lv_astore_n (lv' := [(3, .ref o2), (0, .ref a0), (1, .int p1), (2, .ref a2)]) hx hb d_Ar_copyOf2_24 rfl hl (by decide) rfl (fun ls hl => ?_)
    refine lv_aload_n hx hb d_Ar_copyOf2_25 rfl (lv_at hl 1 rfl) ?_
    refine lv_iconst (v := 0) hx hb d_Ar_copyOf2_26 (by decide) ?_
    refine lv_aload_n hx hb d_Ar_copyOf2_27 rfl (lv_at hl 0 rfl) ?_
    refine lv_iconst (v := 0) hx hb d_Ar_copyOf2_28 (by decide) ?_
    refine lv_aload_n hx hb d_Ar_copyOf2_29 rfl (lv_at hl 1 rfl) ?_
    obtain ⟨v4, e5, h⟩ := gb h
    refine gw_alen hx hb hK hI e5 d_Ar_copyOf2_30 ?_
    refine lv_iload_n hx hb d_Ar_copyOf2_31 rfl (lv_at hl 2 rfl) ?_
    obtain ⟨u6, e7⟩ := gsome h
    refine gw_callI e7 h (gw_runS (As := [.int v4, .int p1]) (rest := [.int 0, .ref o2, .int 0, .ref a0]) hx hb hml hown hT hK hZ hA hI (m_Ma_min l hst D g0 v4 p1 w u6 e7) ce_Ma_min wd_300 ⟨by decide, by decide⟩ rfl rfl hl.1 rfl (lv_room (Nat.le_of_ble_eq_true rfl)) d_Ar_copyOf2_32 ⟨(show 1 + 0 ≤ 1 by omega), (show 64 + 0 ≤ 64 by omega)⟩) hI hA hexc (show 1 + 0 ≤ 1 by omega) (show 64 + 0 ≤ 64 by omega) (fun v8 w H locs h hI => ?_)
    obtain ⟨w, e9, h⟩ := gb h
    refine gw_copy hx hb (hml.trans hl.1.symm) hT hown hK hI e9 wd_303 wd_305 wd_304 wd_60 (Nat.le_of_ble_eq_true rfl) (by decide) d_Ar_copyOf2_35 (fun H locs hI => ?_)
    refine lv_aload_n hx hb d_Ar_copyOf2_38 rfl (lv_at hl 0 rfl) ?_
    exact W.widen (show 1 ≤ 1 by omega) (show 64 ≤ 64 by omega) (hret _ _ (Option.some.inj h).symm _ _ _ _ d_Ar_copyOf2_39 hI)

abbrev b_Ar_copyOf : ByteArray := prog_25_method_119_code
def y_Ar_copyOf : MethodName := ⟨"java/util/Arrays", "copyOf", "([Ljava/lang/Object;I)[Ljava/lang/Object;"⟩
theorem d_Ar_copyOf_0 : decode b_Ar_copyOf 0 = .ok (.aload_n 0, 1) := by decide +kernel
theorem d_Ar_copyOf_1 : decode b_Ar_copyOf 1 = .ok (.iload_n 1, 1) := by decide +kernel
theorem d_Ar_copyOf_2 : decode b_Ar_copyOf 2 = .ok (.aload_n 0, 1) := by decide +kernel
theorem d_Ar_copyOf_3 : decode b_Ar_copyOf 3 = .ok (.invokevirtual 86, 3) := by decide +kernel
theorem d_Ar_copyOf_6 : decode b_Ar_copyOf 6 = .ok (.invokestatic 300, 3) := by decide +kernel
theorem d_Ar_copyOf_9 : decode b_Ar_copyOf 9 = .ok (.areturn, 1) := by decide +kernel
abbrev rm_Ar_copyOf : Room := { frames := 2, cells := 1, slots := 64, locals := 71 }
theorem ce_Ar_copyOf : gCe y_Ar_copyOf (.code y_Ar_copyOf b_Ar_copyOf 2 (some (.array (.object "java/lang/Object")))) 2 2 true := gCe.code wd_278 wd_54 wd_277 (by decide) (by decide +kernel)
def f_Ar_copyOf (g0 : gG) (a0 : Nat) (p1 : Int32) (w : gW) : gX Nat := (gkd w a0 3).bind fun _ => gbind (f_Ar_copyOf2 g0 a0 p1 (g0.2) w) fun v5 w => some (.inr v5, w)
set_option maxHeartbeats 4000000 in
set_option maxRecDepth 100000 in
theorem m_Ar_copyOf (l : Launch) (hst : l.stackTraces = false) (D : gD) (g0 : gG) (a0 : Nat) (p1 : Int32) (w : gW) (r : (String ⊕ Nat) × gW) (h : f_Ar_copyOf g0 a0 p1 w = some r) : gMet l y_Ar_copyOf (.code y_Ar_copyOf b_Ar_copyOf 2 (some (.array (.object "java/lang/Object")))) rm_Ar_copyOf D g0 [.ref a0, .int p1] w (goA r) := by
  refine gw_ofA (by decide +kernel) (Nat.le_of_ble_eq_true rfl) (Or.inr ⟨_, rfl⟩) ?_
  intro p e s m below meth c ls args A Q hx hb hml hown hlocks hin hnt hT hK hZ hA hret hexc hthr hI hl
  obtain ⟨H, hH⟩ : ∃ H, H = s.heap := ⟨_, rfl⟩
  rw [← hH] at hI ⊢
  obtain ⟨locs, hlocs⟩ : ∃ z : List Loc, z = [] := ⟨_, rfl⟩
  rw [← hlocs] at hI ⊢
  have hl : lv_has ls 2 [(0, .ref a0), (1, .int p1)] := hl
  unfold f_Ar_copyOf at h
  refine lv_aload_n hx hb d_Ar_copyOf_0 rfl (lv_at hl 0 rfl) ?_
  refine lv_iload_n hx hb d_Ar_copyOf_1 rfl (lv_at hl 1 rfl) ?_
  refine lv_aload_n hx hb d_Ar_copyOf_2 rfl (lv_at hl 0 rfl) ?_
  obtain ⟨q1, e2, h⟩ := gb h
  refine gw_getC hx hb (hml.trans hl.1.symm) hT hown hK hZ hI e2 wd_279 wd_1125 wd_1124 wd_280 wd_293 (Nat.le_of_ble_eq_true rfl) (Nat.le_of_ble_eq_true rfl) d_Ar_copyOf_3 ?_
  obtain ⟨u3, e4⟩ := gsome h
  refine gw_callA e4 h (gw_runS (As := [.ref a0, .int p1, .ref (g0.2)]) (rest := []) hx hb hml hown hT hK hZ hA hI (m_Ar_copyOf2 l hst D g0 a0 p1 (g0.2) w u3 e4) ce_Ar_copyOf2 wd_294 ⟨by decide, by decide⟩ rfl rfl hl.1 rfl (lv_room (Nat.le_of_ble_eq_true rfl)) d_Ar_copyOf_6 ⟨(show 0 + 1 ≤ 1 by omega), (show 0 + 64 ≤ 64 by omega)⟩) hI hA hexc (show 0 + 1 ≤ 1 by omega) (show 0 + 64 ≤ 64 by omega) (fun v5 w H locs h hI => ?_)
  refine W.widen (k := 1) (n := 64) (show 0 + 1 ≤ 1 by omega) (show 0 + 64 ≤ 64 by omega) ?_
  exact W.widen (show 1 ≤ 1 by omega) (show 64 ≤ 64 by omega) (hret _ _ (Option.some.inj h).symm _ _ _ _ d_Ar_copyOf_9 hI)

abbrev b_AL_grow2 : ByteArray := prog_24_method_6_code
def y_AL_grow2 : MethodName := ⟨"java/util/ArrayList", "grow", "(I)[Ljava/lang/Object;"⟩
theorem d_AL_grow2_0 : decode b_AL_grow2 0 = .ok (.aload_n 0, 1) := by decide +kernel
theorem d_AL_grow2_1 : decode b_AL_grow2 1 = .ok (.getfield 9, 3) := by decide +kernel
theorem d_AL_grow2_4 : decode b_AL_grow2 4 = .ok (.arraylength, 1) := by decide +kernel
theorem d_AL_grow2_5 : decode b_AL_grow2 5 = .ok (.istore_n 2, 1) := by decide +kernel
theorem d_AL_grow2_6 : decode b_AL_grow2 6 = .ok (.iload_n 2, 1) := by decide +kernel
theorem d_AL_grow2_7 : decode b_AL_grow2 7 = .ok (.ifCond .gt 13, 3) := by decide +kernel
theorem d_AL_grow2_10 : decode b_AL_grow2 10 = .ok (.aload_n 0, 1) := by decide +kernel
theorem d_AL_grow2_11 : decode b_AL_grow2 11 = .ok (.getfield 9, 3) := by decide +kernel
theorem d_AL_grow2_14 : decode b_AL_grow2 14 = .ok (.getstatic 39, 3) := by decide +kernel
theorem d_AL_grow2_17 : decode b_AL_grow2 17 = .ok (.if_acmp .eq 28, 3) := by decide +kernel
theorem d_AL_grow2_20 : decode b_AL_grow2 20 = .ok (.iload_n 2, 1) := by decide +kernel
theorem d_AL_grow2_21 : decode b_AL_grow2 21 = .ok (.iload_n 1, 1) := by decide +kernel
theorem d_AL_grow2_22 : decode b_AL_grow2 22 = .ok (.iload_n 2, 1) := by decide +kernel
theorem d_AL_grow2_23 : decode b_AL_grow2 23 = .ok (.isub, 1) := by decide +kernel
theorem d_AL_grow2_24 : decode b_AL_grow2 24 = .ok (.iload_n 2, 1) := by decide +kernel
theorem d_AL_grow2_25 : decode b_AL_grow2 25 = .ok (.iconst 1, 1) := by decide +kernel
theorem d_AL_grow2_26 : decode b_AL_grow2 26 = .ok (.ishr, 1) := by decide +kernel
theorem d_AL_grow2_27 : decode b_AL_grow2 27 = .ok (.invokestatic 73, 3) := by decide +kernel
theorem d_AL_grow2_30 : decode b_AL_grow2 30 = .ok (.istore_n 3, 1) := by decide +kernel
theorem d_AL_grow2_31 : decode b_AL_grow2 31 = .ok (.aload_n 0, 1) := by decide +kernel
theorem d_AL_grow2_32 : decode b_AL_grow2 32 = .ok (.aload_n 0, 1) := by decide +kernel
theorem d_AL_grow2_33 : decode b_AL_grow2 33 = .ok (.getfield 9, 3) := by decide +kernel
theorem d_AL_grow2_36 : decode b_AL_grow2 36 = .ok (.iload_n 3, 1) := by decide +kernel
theorem d_AL_grow2_37 : decode b_AL_grow2 37 = .ok (.invokestatic 66, 3) := by decide +kernel
theorem d_AL_grow2_40 : decode b_AL_grow2 40 = .ok (.dup_x1, 1) := by decide +kernel
theorem d_AL_grow2_41 : decode b_AL_grow2 41 = .ok (.putfield 9, 3) := by decide +kernel
theorem d_AL_grow2_44 : decode b_AL_grow2 44 = .ok (.areturn, 1) := by decide +kernel
theorem d_AL_grow2_45 : decode b_AL_grow2 45 = .ok (.aload_n 0, 1) := by decide +kernel
theorem d_AL_grow2_46 : decode b_AL_grow2 46 = .ok (.bipush 10, 2) := by decide +kernel
theorem d_AL_grow2_48 : decode b_AL_grow2 48 = .ok (.iload_n 1, 1) := by decide +kernel
theorem d_AL_grow2_49 : decode b_AL_grow2 49 = .ok (.invokestatic 79, 3) := by decide +kernel
theorem d_AL_grow2_52 : decode b_AL_grow2 52 = .ok (.anewarray 7, 3) := by decide +kernel
theorem d_AL_grow2_55 : decode b_AL_grow2 55 = .ok (.dup_x1, 1) := by decide +kernel
theorem d_AL_grow2_56 : decode b_AL_grow2 56 = .ok (.putfield 9, 3) := by decide +kernel
theorem d_AL_grow2_59 : decode b_AL_grow2 59 = .ok (.areturn, 1) := by decide +kernel
abbrev rm_AL_grow2 : Room := { frames := 3, cells := 1, slots := 64, locals := 92 }
theorem ce_AL_grow2 : gCe y_AL_grow2 (.code y_AL_grow2 b_AL_grow2 4 (some (.array (.object "java/lang/Object")))) 4 1 false := gCe.code wd_265 wd_53 wd_264 (by decide) (by decide +kernel)
def f_AL_grow2 (g0 : gG) (a0 : Nat) (p1 : Int32) (w : gW) : gX Nat := (gfA w a0 1 0).bind fun v1 => (gal w v1).bind fun v3 => gjoin (fun K20 => if 0 < v3 then (K20 w) else ((gfA w a0 1 0).bind fun v15 => if v15 = (g0.1) then (gbind (f_Ma_max g0 10 p1 w) fun v20 w => gb2f (gna w 3 v20 64 .null) fun o21 w => (gp w a0 1 0 (.ref o21)).bind fun w => some (.inr o21, w)) else (K20 w))) (fun (w : gW) => gbind (f_As_newLength g0 v3 (p1 - v3) (v3 >>> (1 &&& 31)) w) fun v7 w => (gfA w a0 1 0).bind fun v8 => gbind (f_Ar_copyOf g0 v8 v7 w) fun v12 w => (gp w a0 1 0 (.ref v12)).bind fun w => some (.inr v12, w))
set_option maxHeartbeats 4000000 in
set_option maxRecDepth 100000 in
theorem m_AL_grow2 (l : Launch) (hst : l.stackTraces = false) (D : gD) (g0 : gG) (a0 : Nat) (p1 : Int32) (w : gW) (r : (String ⊕ Nat) × gW) (h : f_AL_grow2 g0 a0 p1 w = some r) : gMet l y_AL_grow2 (.code y_AL_grow2 b_AL_grow2 4 (some (.array (.object "java/lang/Object")))) rm_AL_grow2 D g0 [.ref a0, .int p1] w (goA r) := by
  refine gw_ofA (by decide +kernel) (Nat.le_of_ble_eq_true rfl) (Or.inr ⟨_, rfl⟩) ?_
  intro p e s m below meth c ls args A Q hx hb hml hown hlocks hin hnt hT hK hZ hA hret hexc hthr hI hl
  obtain ⟨H, hH⟩ : ∃ H, H = s.heap := ⟨_, rfl⟩
  rw [← hH] at hI ⊢
  obtain ⟨locs, hlocs⟩ : ∃ z : List Loc, z = [] := ⟨_, rfl⟩
  rw [← hlocs] at hI ⊢
  have hl : lv_has ls 4 [(0, .ref a0), (1, .int p1)] := hl
  unfold f_AL_grow2 at h
  refine lv_aload_n hx hb d_AL_grow2_0 rfl (lv_at hl 0 rfl) ?_
  obtain ⟨v1, e2, h⟩ := gb h
  refine gw_getA hx hb hT hown hK hI (ci := 1) rfl i_1 0 (by decide) wd_101 (fun _ h9 => h9) e2 d_AL_grow2_1 ?_
  obtain ⟨v3, e4, h⟩ := gb h
  refine gw_alen hx hb hK hI e4 d_AL_grow2_4 ?_
  refine lv_istore_n (lv' := [(2, .int v3), (0, .ref a0), (1, .int p1)]) hx hb d_AL_grow2_5 rfl hl (by decide) rfl (fun ls hl => ?_)
  refine lv_iload_n hx hb d_AL_grow2_6 rfl (lv_at hl 0 rfl) ?_
  obtain ⟨K20, eK20, h⟩ := gj h
  have hK20 : ∀ (w : gW) (H : Heap) (locs : List Loc) (ls : Array Slot), K20 w = some r → gI D s A w H locs → lv_has ls 4 [(0, .ref a0), (1, .int p1), (2, .int v3)] → W p l e rm_AL_grow2 s m args below meth c H locs 0 0 Q (F0 m 20 ls []) := by
    intro w H locs ls h hI hl
    have h := gk1 eK20 h
    refine lv_iload_n hx hb d_AL_grow2_20 rfl (lv_at hl 2 rfl) ?_
    refine lv_iload_n hx hb d_AL_grow2_21 rfl (lv_at hl 1 rfl) ?_
    refine lv_iload_n hx hb d_AL_grow2_22 rfl (lv_at hl 2 rfl) ?_
    refine lv_isub hx hb d_AL_grow2_23 ?_
    refine lv_iload_n hx hb d_AL_grow2_24 rfl (lv_at hl 2 rfl) ?_
    refine lv_iconst (v := 1) hx hb d_AL_grow2_25 (by decide) ?_
    refine lv_ishr hx hb d_AL_grow2_26 ?_
    obtain ⟨u5, e6⟩ := gsome h
    refine gw_callI e6 h (gw_runS (As := [.int v3, .int (p1 - v3), .int (v3 >>> (1 &&& 31))]) (rest := []) hx hb hml hown hT hK hZ hA hI (m_As_newLength l hst D g0 v3 (p1 - v3) (v3 >>> (1 &&& 31)) w u5 e6) ce_As_newLength wd_266 ⟨by decide, by decide⟩ rfl rfl hl.1 rfl (lv_room (Nat.le_of_ble_eq_true rfl)) d_AL_grow2_27 ⟨(show 0 + 0 ≤ 1 by omega), (show 0 + 0 ≤ 64 by omega)⟩) hI hA hexc (show 0 + 0 ≤ 1 by omega) (show 0 + 0 ≤ 64 by omega) (fun v7 w H locs h hI => ?_)
    refine lv_istore_n (lv' := [(3, .int v7), (0, .ref a0), (1, .int p1), (2, .int v3)]) hx hb d_AL_grow2_30 rfl hl (by decide) rfl (fun ls hl => ?_)
    refine lv_aload_n hx hb d_AL_grow2_31 rfl (lv_at hl 1 rfl) ?_
    refine lv_aload_n hx hb d_AL_grow2_32 rfl (lv_at hl 1 rfl) ?_
    obtain ⟨v8, e9, h⟩ := gb h
    refine gw_getA hx hb hT hown hK hI (ci := 1) rfl i_1 0 (by decide) wd_101 (fun _ h9 => h9) e9 d_AL_grow2_33 ?_
    refine lv_iload_n hx hb d_AL_grow2_36 rfl (lv_at hl 0 rfl) ?_
    obtain ⟨u10, e11⟩ := gsome h
    refine gw_callA e11 h (gw_runS (As := [.ref v8, .int v7]) (rest := [.ref a0]) hx hb hml hown hT hK hZ hA hI (m_Ar_copyOf l hst D g0 v8 v7 w u10 e11) ce_Ar_copyOf wd_276 ⟨by decide, by decide⟩ rfl rfl hl.1 rfl (lv_room (Nat.le_of_ble_eq_true rfl)) d_AL_grow2_37 ⟨(show 0 + 1 ≤ 1 by omega), (show 0 + 64 ≤ 64 by omega)⟩) hI hA hexc (show 0 + 1 ≤ 1 by omega) (show 0 + 64 ≤ 64 by omega) (fun v12 w H locs h hI => ?_)
    refine W.widen (k := 1) (n := 64) (show 0 + 1 ≤ 1 by omega) (show 0 + 64 ≤ 64 by omega) ?_
    refine lv_dup_x1 hx hb d_AL_grow2_40 rfl rfl ?_
    obtain ⟨w, e13, h⟩ := gb h
    refine gw_put hx hb hT hown hK hI (ci := 1) rfl i_1 t_1 t_1_ok n_1 0 (by decide) wd_101 (fun _ h9 => h9) rfl (ty := .array (.object "java/lang/Object")) (by decide +kernel) rfl rfl e13 d_AL_grow2_41 (fun H locs hI => ?_)
    exact W.widen (show 1 ≤ 1 by omega) (show 64 ≤ 64 by omega) (hret _ _ (Option.some.inj h).symm _ _ _ _ d_AL_grow2_44 hI)
  refine lv_if_gt (tgt := 20) hx hb d_AL_grow2_7 (by decide) (fun c14 => ?_) (fun c14 => ?_)
  · skip
    have h := git c14 h
    exact hK20 w H locs ls h hI (lv_sub hl [1, 2, 0] rfl)
  · skip
    have h := gie c14 h
    refine lv_aload_n hx hb d_AL_grow2_10 rfl (lv_at hl 1 rfl) ?_
    obtain ⟨v15, e16, h⟩ := gb h
    refine gw_getA hx hb hT hown hK hI (ci := 1) rfl i_1 0 (by decide) wd_101 (fun _ h9 => h9) e16 d_AL_grow2_11 ?_
    refine gw_gets hx hb hT hown hZ hI wd_99 d_AL_grow2_14 ?_
    refine gw_acmp_eq (tgt := 45) hx hb d_AL_grow2_17 (by decide) (fun c17 => ?_) (fun c17 => ?_)
    · skip
      have h := git c17 h
      refine lv_aload_n hx hb d_AL_grow2_45 rfl (lv_at hl 1 rfl) ?_
      refine lv_bipush (v := 10) hx hb d_AL_grow2_46 (by decide) ?_
      refine lv_iload_n hx hb d_AL_grow2_48 rfl (lv_at hl 2 rfl) ?_
      obtain ⟨u18, e19⟩ := gsome h
      refine gw_callI e19 h (gw_runS (As := [.int 10, .int p1]) (rest := [.ref a0]) hx hb hml hown hT hK hZ hA hI (m_Ma_max l hst D g0 10 p1 w u18 e19) ce_Ma_max wd_306 ⟨by decide, by decide⟩ rfl rfl hl.1 rfl (lv_room (Nat.le_of_ble_eq_true rfl)) d_AL_grow2_49 ⟨(show 0 + 0 ≤ 1 by omega), (show 0 + 0 ≤ 64 by omega)⟩) hI hA hexc (show 0 + 0 ≤ 1 by omega) (show 0 + 0 ≤ 64 by omega) (fun v20 w H locs h hI => ?_)
      obtain ⟨o21, w, e22, h⟩ := gb2 h
      refine gw_anew (M := 64) hx hb hown hK hI hA (hT _ wd_307 args) (hT _ wd_298 args) (k := 3) rfl e22 (show 0 + 1 ≤ 1 by omega) (show 0 + 64 ≤ 64 by omega) (show 64 * 4 ≤ 536870912 by omega) d_AL_grow2_52 (fun H hI => ?_)
      refine W.widen (k := 1) (n := 64) (show 0 + 1 ≤ 1 by omega) (show 0 + 64 ≤ 64 by omega) ?_
      refine lv_dup_x1 hx hb d_AL_grow2_55 rfl rfl ?_
      obtain ⟨w, e23, h⟩ := gb h
      refine gw_put hx hb hT hown hK hI (ci := 1) rfl i_1 t_1 t_1_ok n_1 0 (by decide) wd_101 (fun _ h9 => h9) rfl (ty := .array (.object "java/lang/Object")) (by decide +kernel) rfl rfl e23 d_AL_grow2_56 (fun H locs hI => ?_)
      exact W.widen (show 1 ≤ 1 by omega) (show 64 ≤ 64 by omega) (hret _ _ (Option.some.inj h).symm _ _ _ _ d_AL_grow2_59 hI)
    · skip
      have h := gie c17 h
      exact hK20 w H locs ls h hI (lv_sub hl [1, 2, 0] rfl)

abbrev b_AL_grow : ByteArray := prog_24_method_7_code
def y_AL_grow : MethodName := ⟨"java/util/ArrayList", "grow", "()[Ljava/lang/Object;"⟩
theorem d_AL_grow_0 : decode b_AL_grow 0 = .ok (.aload_n 0, 1) := by decide +kernel
theorem d_AL_grow_1 : decode b_AL_grow 1 = .ok (.aload_n 0, 1) := by decide +kernel
theorem d_AL_grow_2 : decode b_AL_grow 2 = .ok (.getfield 48, 3) := by decide +kernel
theorem d_AL_grow_5 : decode b_AL_grow 5 = .ok (.iconst 1, 1) := by decide +kernel
theorem d_AL_grow_6 : decode b_AL_grow 6 = .ok (.iadd, 1) := by decide +kernel
theorem d_AL_grow_7 : decode b_AL_grow 7 = .ok (.invokevirtual 69, 3) := by decide +kernel
theorem d_AL_grow_10 : decode b_AL_grow 10 = .ok (.areturn, 1) := by decide +kernel
abbrev rm_AL_grow : Room := { frames := 4, cells := 1, slots := 64, locals := 115 }
theorem ce_AL_grow : gCe y_AL_grow (.code y_AL_grow b_AL_grow 1 (some (.array (.object "java/lang/Object")))) 1 0 false := gCe.code wd_261 wd_53 wd_260 (by decide) (by decide +kernel)
def f_AL_grow (g0 : gG) (a0 : Nat) (w : gW) : gX Nat := (gfI w a0 1 1).bind fun v1 => (gck w a0 1).bind fun _ => gbind (f_AL_grow2 g0 a0 (v1 + 1) w) fun v7 w => some (.inr v7, w)
set_option maxHeartbeats 4000000 in
set_option maxRecDepth 100000 in
theorem m_AL_grow (l : Launch) (hst : l.stackTraces = false) (D : gD) (g0 : gG) (a0 : Nat) (w : gW) (r : (String ⊕ Nat) × gW) (h : f_AL_grow g0 a0 w = some r) : gMet l y_AL_grow (.code y_AL_grow b_AL_grow 1 (some (.array (.object "java/lang/Object")))) rm_AL_grow D g0 [.ref a0] w (goA r) := by
  refine gw_ofA (by decide +kernel) (Nat.le_of_ble_eq_true rfl) (Or.inr ⟨_, rfl⟩) ?_
  intro p e s m below meth c ls args A Q hx hb hml hown hlocks hin hnt hT hK hZ hA hret hexc hthr hI hl
  obtain ⟨H, hH⟩ : ∃ H, H = s.heap := ⟨_, rfl⟩
  rw [← hH] at hI ⊢
  obtain ⟨locs, hlocs⟩ : ∃ z : List Loc, z = [] := ⟨_, rfl⟩
  rw [← hlocs] at hI ⊢
  have hl : lv_has ls 1 [(0, .ref a0)] := hl
  unfold f_AL_grow at h
  refine lv_aload_n hx hb d_AL_grow_0 rfl (lv_at hl 0 rfl) ?_
  refine lv_aload_n hx hb d_AL_grow_1 rfl (lv_at hl 0 rfl) ?_
  obtain ⟨v1, e2, h⟩ := gb h
  refine gw_getI hx hb hT hown hK hI (ci := 1) rfl i_1 1 (by decide) wd_102 (fun _ h9 => h9) e2 d_AL_grow_2 ?_
  refine lv_iconst (v := 1) hx hb d_AL_grow_5 (by decide) ?_
  refine lv_iadd hx hb d_AL_grow_6 ?_
  obtain ⟨q5, e6, h⟩ := gb h
  obtain ⟨u3, e4⟩ := gsome h
  refine gw_callA e4 h (gw_runV (As := [.int (v1 + 1)]) (rest := []) hx hb hml hown hT hK hZ hA hI (ci := 1) rfl e6 (m_AL_grow2 l hst D g0 a0 (v1 + 1) w u3 e4) ce_AL_grow2 wd_262 wd_3 ⟨by decide, by decide⟩ rfl rfl hl.1 rfl (lv_room (Nat.le_of_ble_eq_true rfl)) d_AL_grow_7 ⟨(show 0 + 1 ≤ 1 by omega), (show 0 + 64 ≤ 64 by omega)⟩) hI hA hexc (show 0 + 1 ≤ 1 by omega) (show 0 + 64 ≤ 64 by omega) (fun v7 w H locs h hI => ?_)
  refine W.widen (k := 1) (n := 64) (show 0 + 1 ≤ 1 by omega) (show 0 + 64 ≤ 64 by omega) ?_
  exact W.widen (show 1 ≤ 1 by omega) (show 64 ≤ 64 by omega) (hret _ _ (Option.some.inj h).symm _ _ _ _ d_AL_grow_10 hI)

abbrev b_AL_add2 : ByteArray := prog_24_method_24_code
def y_AL_add2 : MethodName := ⟨"java/util/ArrayList", "add", "(Ljava/lang/Object;[Ljava/lang/Object;I)V"⟩
theorem d_AL_add2_0 : decode b_AL_add2 0 = .ok (.iload_n 3, 1) := by decide +kernel
theorem d_AL_add2_1 : decode b_AL_add2 1 = .ok (.aload_n 2, 1) := by decide +kernel
theorem d_AL_add2_2 : decode b_AL_add2 2 = .ok (.arraylength, 1) := by decide +kernel
theorem d_AL_add2_3 : decode b_AL_add2 3 = .ok (.if_icmp .ne 8, 3) := by decide +kernel
theorem d_AL_add2_6 : decode b_AL_add2 6 = .ok (.aload_n 0, 1) := by decide +kernel
theorem d_AL_add2_7 : decode b_AL_add2 7 = .ok (.invokevirtual 129, 3) := by decide +kernel
theorem d_AL_add2_10 : decode b_AL_add2 10 = .ok (.astore_n 2, 1) := by decide +kernel
theorem d_AL_add2_11 : decode b_AL_add2 11 = .ok (.aload_n 2, 1) := by decide +kernel
theorem d_AL_add2_12 : decode b_AL_add2 12 = .ok (.iload_n 3, 1) := by decide +kernel
theorem d_AL_add2_13 : decode b_AL_add2 13 = .ok (.aload_n 1, 1) := by decide +kernel
theorem d_AL_add2_14 : decode b_AL_add2 14 = .ok (.aastore, 1) := by decide +kernel
theorem d_AL_add2_15 : decode b_AL_add2 15 = .ok (.aload_n 0, 1) := by decide +kernel
theorem d_AL_add2_16 : decode b_AL_add2 16 = .ok (.iload_n 3, 1) := by decide +kernel
theorem d_AL_add2_17 : decode b_AL_add2 17 = .ok (.iconst 1, 1) := by decide +kernel
theorem d_AL_add2_18 : decode b_AL_add2 18 = .ok (.iadd, 1) := by decide +kernel
theorem d_AL_add2_19 : decode b_AL_add2 19 = .ok (.putfield 48, 3) := by decide +kernel
theorem d_AL_add2_22 : decode b_AL_add2 22 = .ok (.return_, 1) := by decide +kernel
abbrev rm_AL_add2 : Room := { frames := 5, cells := 1, slots := 64, locals := 135 }
theorem ce_AL_add2 : gCe y_AL_add2 (.code y_AL_add2 b_AL_add2 4 none) 4 3 false := gCe.code wd_257 wd_53 wd_256 (by decide) (by decide +kernel)
def f_AL_add2 (g0 : gG) (a0 : Nat) (a1 : Nat) (a2 : Nat) (p3 : Int32) (w : gW) : gX Unit := (gal w a2).bind fun v1 => gjoin (fun K11 => if p3 = v1 then ((gck w a0 1).bind fun _ => gbind (f_AL_grow g0 a0 w) fun v11 w => K11 v11 w) else (K11 a2 w)) (fun (x3 : Nat) (w : gW) => (gsA w x3 p3 a1).bind fun w => (gp w a0 1 1 (.int (p3 + 1))).bind fun w => some (.inr (), w))
set_option maxHeartbeats 4000000 in
set_option maxRecDepth 100000 in
theorem m_AL_add2 (l : Launch) (hst : l.stackTraces = false) (D : gD) (g0 : gG) (a0 : Nat) (a1 : Nat) (a2 : Nat) (p3 : Int32) (w : gW) (r : (String ⊕ Unit) × gW) (h : f_AL_add2 g0 a0 a1 a2 p3 w = some r) : gMet l y_AL_add2 (.code y_AL_add2 b_AL_add2 4 none) rm_AL_add2 D g0 [.ref a0, .ref a1, .ref a2, .int p3] w (goV r) := by
  refine gw_ofV (by decide +kernel) (Nat.le_of_ble_eq_true rfl) ?_
  intro p e s m below meth c ls args A Q hx hb hml hown hlocks hin hnt hT hK hZ hA hret hexc hthr hI hl
  obtain ⟨H, hH⟩ : ∃ H, H = s.heap := ⟨_, rfl⟩
  rw [← hH] at hI ⊢
  obtain ⟨locs, hlocs⟩ : ∃ z : List Loc, z = [] := ⟨_, rfl⟩
  rw [← hlocs] at hI ⊢
  have hl : lv_has ls 4 [(0, .ref a0), (1, .ref a1), (2, .ref a2), (3, .int p3)] := hl
  unfold f_AL_add2 at h
  refine lv_iload_n hx hb d_AL_add2_0 rfl (lv_at hl 3 rfl) ?_
  refine lv_aload_n hx hb d_AL_add2_1 rfl (lv_at hl 2 rfl) ?_
  obtain ⟨v1, e2, h⟩ := gb h
  refine gw_alen hx hb hK hI e2 d_AL_add2_2 ?_
  obtain ⟨K11, eK11, h⟩ := gj h
  have hK11 : ∀ (x3 : Nat) (w : gW) (H : Heap) (locs : List Loc) (ls : Array Slot), K11 x3 w = some r → gI D s A w H locs → lv_has ls 4 [(0, .ref a0), (1, .ref a1), (2, .ref x3), (3, .int p3)] → W p l e rm_AL_add2 s m args below meth c H locs 1 64 Q (F0 m 11 ls []) := by
    intro x3 w H locs ls h hI hl
    have h := gk2 eK11 h
    refine lv_aload_n hx hb d_AL_add2_11 rfl (lv_at hl 2 rfl) ?_
    refine lv_iload_n hx hb d_AL_add2_12 rfl (lv_at hl 3 rfl) ?_
    refine lv_aload_n hx hb d_AL_add2_13 rfl (lv_at hl 1 rfl) ?_
    obtain ⟨w, e4, h⟩ := gb h
    refine gw_astA hx hb hT hK hI e4 d_AL_add2_14 (fun H locs hI => ?_)
    refine lv_aload_n hx hb d_AL_add2_15 rfl (lv_at hl 0 rfl) ?_
    refine lv_iload_n hx hb d_AL_add2_16 rfl (lv_at hl 3 rfl) ?_
    refine lv_iconst (v := 1) hx hb d_AL_add2_17 (by decide) ?_
    refine lv_iadd hx hb d_AL_add2_18 ?_
    obtain ⟨w, e5, h⟩ := gb h
    refine gw_put hx hb hT hown hK hI (ci := 1) rfl i_1 t_1 t_1_ok n_1 1 (by decide) wd_102 (fun _ h9 => h9) rfl (ty := .int) (by decide +kernel) rfl rfl e5 d_AL_add2_19 (fun H locs hI => ?_)
    exact W.widen (show 1 ≤ 1 by omega) (show 64 ≤ 64 by omega) (hret _ _ (Option.some.inj h).symm _ _ _ _ d_AL_add2_22 hI)
  refine lv_icmp_ne (tgt := 11) hx hb d_AL_add2_3 (by decide) (fun c6 => ?_) (fun c6 => ?_)
  · skip
    have h := gie c6 h
    refine W.widen (k := 1) (n := 64) (show 0 ≤ 1 by omega) (show 0 ≤ 64 by omega) ?_
    exact hK11 _ w H locs ls h hI (lv_sub hl [0, 1, 2, 3] rfl)
  · skip
    have h := git c6 h
    refine lv_aload_n hx hb d_AL_add2_6 rfl (lv_at hl 0 rfl) ?_
    obtain ⟨q9, e10, h⟩ := gb h
    obtain ⟨u7, e8⟩ := gsome h
    refine gw_callA e8 h (gw_runV (As := []) (rest := []) hx hb hml hown hT hK hZ hA hI (ci := 1) rfl e10 (m_AL_grow l hst D g0 a0 w u7 e8) ce_AL_grow wd_258 wd_2 ⟨by decide, by decide⟩ rfl rfl hl.1 rfl (lv_room (Nat.le_of_ble_eq_true rfl)) d_AL_add2_7 ⟨(show 0 + 1 ≤ 1 by omega), (show 0 + 64 ≤ 64 by omega)⟩) hI hA hexc (show 0 + 1 ≤ 1 by omega) (show 0 + 64 ≤ 64 by omega) (fun v11 w H locs h hI => ?_)
    refine W.widen (k := 1) (n := 64) (show 0 + 1 ≤ 1 by omega) (show 0 + 64 ≤ 64 by omega) ?_
    refine lv_astore_n (lv' := [(2, .ref v11), (0, .ref a0), (1, .ref a1), (3, .int p3)]) hx hb d_AL_add2_10 rfl hl (by decide) rfl (fun ls hl => ?_)
    exact hK11 _ w H locs ls h hI (lv_sub hl [1, 2, 0, 3] rfl)

abbrev b_AL_add : ByteArray := prog_24_method_25_code
def y_AL_add : MethodName := ⟨"java/util/ArrayList", "add", "(Ljava/lang/Object;)Z"⟩
theorem d_AL_add_0 : decode b_AL_add 0 = .ok (.aload_n 0, 1) := by decide +kernel
theorem d_AL_add_1 : decode b_AL_add 1 = .ok (.dup, 1) := by decide +kernel
theorem d_AL_add_2 : decode b_AL_add 2 = .ok (.getfield 63, 3) := by decide +kernel
theorem d_AL_add_5 : decode b_AL_add 5 = .ok (.iconst 1, 1) := by decide +kernel
theorem d_AL_add_6 : decode b_AL_add 6 = .ok (.iadd, 1) := by decide +kernel
theorem d_AL_add_7 : decode b_AL_add 7 = .ok (.putfield 63, 3) := by decide +kernel
theorem d_AL_add_10 : decode b_AL_add 10 = .ok (.aload_n 0, 1) := by decide +kernel
theorem d_AL_add_11 : decode b_AL_add 11 = .ok (.aload_n 1, 1) := by decide +kernel
theorem d_AL_add_12 : decode b_AL_add 12 = .ok (.aload_n 0, 1) := by decide +kernel
theorem d_AL_add_13 : decode b_AL_add 13 = .ok (.getfield 9, 3) := by decide +kernel
theorem d_AL_add_16 : decode b_AL_add 16 = .ok (.aload_n 0, 1) := by decide +kernel
theorem d_AL_add_17 : decode b_AL_add 17 = .ok (.getfield 48, 3) := by decide +kernel
theorem d_AL_add_20 : decode b_AL_add 20 = .ok (.invokevirtual 131, 3) := by decide +kernel
theorem d_AL_add_23 : decode b_AL_add 23 = .ok (.iconst 1, 1) := by decide +kernel
theorem d_AL_add_24 : decode b_AL_add 24 = .ok (.ireturn, 1) := by decide +kernel
abbrev rm_AL_add : Room := { frames := 6, cells := 1, slots := 64, locals := 158 }
theorem ce_AL_add : gCe y_AL_add (.code y_AL_add b_AL_add 2 (some .boolean)) 2 1 false := gCe.code wd_253 wd_53 wd_251 (by decide) (by decide +kernel)
def f_AL_add (g0 : gG) (a0 : Nat) (a1 : Nat) (w : gW) : gX Int32 := (gfI w a0 1 2).bind fun v1 => (gp w a0 1 2 (.int (v1 + 1))).bind fun w => (gfA w a0 1 0).bind fun v4 => (gfI w a0 1 1).bind fun v6 => (gck w a0 1).bind fun _ => gbind (f_AL_add2 g0 a0 a1 v4 v6 w) fun v12 w => gguard ((1 : Int32) = 0 ∨ (1 : Int32) = 1) (some (.inr 1, w))
set_option maxHeartbeats 4000000 in
set_option maxRecDepth 100000 in
theorem m_AL_add (l : Launch) (hst : l.stackTraces = false) (D : gD) (g0 : gG) (a0 : Nat) (a1 : Nat) (w : gW) (r : (String ⊕ Int32) × gW) (h : f_AL_add g0 a0 a1 w = some r) : gMet l y_AL_add (.code y_AL_add b_AL_add 2 (some .boolean)) rm_AL_add D g0 [.ref a0, .ref a1] w (goI r) := by
  refine gw_ofZ (by decide +kernel) (Nat.le_of_ble_eq_true rfl) ?_
  intro p e s m below meth c ls args A Q hx hb hml hown hlocks hin hnt hT hK hZ hA hret hexc hthr hI hl
  obtain ⟨H, hH⟩ : ∃ H, H = s.heap := ⟨_, rfl⟩
  rw [← hH] at hI ⊢
  obtain ⟨locs, hlocs⟩ : ∃ z : List Loc, z = [] := ⟨_, rfl⟩
  rw [← hlocs] at hI ⊢
  have hl : lv_has ls 2 [(0, .ref a0), (1, .ref a1)] := hl
  unfold f_AL_add at h
  refine lv_aload_n hx hb d_AL_add_0 rfl (lv_at hl 0 rfl) ?_
  refine lv_dup hx hb d_AL_add_1 rfl ?_
  obtain ⟨v1, e2, h⟩ := gb h
  refine gw_getI hx hb hT hown hK hI (ci := 1) rfl i_1 2 (by decide) wd_104 (u_same (hT _ wd_105 args)) e2 d_AL_add_2 ?_
  refine lv_iconst (v := 1) hx hb d_AL_add_5 (by decide) ?_
  refine lv_iadd hx hb d_AL_add_6 ?_
  obtain ⟨w, e3, h⟩ := gb h
  refine gw_put hx hb hT hown hK hI (ci := 1) rfl i_1 t_1 t_1_ok n_1 2 (by decide) wd_104 (u_same (hT _ wd_105 args)) rfl (ty := .int) (by decide +kernel) rfl rfl e3 d_AL_add_7 (fun H locs hI => ?_)
  refine lv_aload_n hx hb d_AL_add_10 rfl (lv_at hl 0 rfl) ?_
  refine lv_aload_n hx hb d_AL_add_11 rfl (lv_at hl 1 rfl) ?_
  refine lv_aload_n hx hb d_AL_add_12 rfl (lv_at hl 0 rfl) ?_
  obtain ⟨v4, e5, h⟩ := gb h
  refine gw_getA hx hb hT hown hK hI (ci := 1) rfl i_1 0 (by decide) wd_101 (fun _ h9 => h9) e5 d_AL_add_13 ?_
  refine lv_aload_n hx hb d_AL_add_16 rfl (lv_at hl 0 rfl) ?_
  obtain ⟨v6, e7, h⟩ := gb h
  refine gw_getI hx hb hT hown hK hI (ci := 1) rfl i_1 1 (by decide) wd_102 (fun _ h9 => h9) e7 d_AL_add_17 ?_
  obtain ⟨q10, e11, h⟩ := gb h
  obtain ⟨u8, e9⟩ := gsome h
  refine gw_callV e9 h (gw_runV (As := [.ref a1, .ref v4, .int v6]) (rest := []) hx hb hml hown hT hK hZ hA hI (ci := 1) rfl e11 (m_AL_add2 l hst D g0 a0 a1 v4 v6 w u8 e9) ce_AL_add2 wd_254 wd_1 ⟨by decide, by decide⟩ rfl rfl hl.1 rfl (lv_room (Nat.le_of_ble_eq_true rfl)) d_AL_add_20 ⟨(show 0 + 1 ≤ 1 by omega), (show 0 + 64 ≤ 64 by omega)⟩) hI hA hexc (show 0 + 1 ≤ 1 by omega) (show 0 + 64 ≤ 64 by omega) (fun v12 w H locs h hI => ?_)
  refine W.widen (k := 1) (n := 64) (show 0 + 1 ≤ 1 by omega) (show 0 + 64 ≤ 64 by omega) ?_
  refine lv_iconst (v := 1) hx hb d_AL_add_23 (by decide) ?_
  obtain ⟨g13, h⟩ := gif h
  exact W.widen (show 1 ≤ 1 by omega) (show 64 ≤ 64 by omega) (hret g13 0 _ (Option.some.inj h).symm _ _ _ _ d_AL_add_24 hI)

abbrev b_Pc_checkIndex : ByteArray := prog_32_method_11_code
def y_Pc_checkIndex : MethodName := ⟨"jdk/internal/util/Preconditions", "checkIndex", "(IILjava/util/function/BiFunction;)I"⟩
theorem d_Pc_checkIndex_0 : decode b_Pc_checkIndex 0 = .ok (.iload_n 0, 1) := by decide +kernel
theorem d_Pc_checkIndex_1 : decode b_Pc_checkIndex 1 = .ok (.ifCond .lt 8, 3) := by decide +kernel
theorem d_Pc_checkIndex_4 : decode b_Pc_checkIndex 4 = .ok (.iload_n 0, 1) := by decide +kernel
theorem d_Pc_checkIndex_5 : decode b_Pc_checkIndex 5 = .ok (.iload_n 1, 1) := by decide +kernel
theorem d_Pc_checkIndex_6 : decode b_Pc_checkIndex 6 = .ok (.if_icmp .lt 10, 3) := by decide +kernel
theorem d_Pc_checkIndex_9 : decode b_Pc_checkIndex 9 = .ok (.aload_n 2, 1) := by decide +kernel
theorem d_Pc_checkIndex_10 : decode b_Pc_checkIndex 10 = .ok (.iload_n 0, 1) := by decide +kernel
theorem d_Pc_checkIndex_11 : decode b_Pc_checkIndex 11 = .ok (.iload_n 1, 1) := by decide +kernel
theorem d_Pc_checkIndex_12 : decode b_Pc_checkIndex 12 = .ok (.invokestatic 95, 3) := by decide +kernel
theorem d_Pc_checkIndex_16 : decode b_Pc_checkIndex 16 = .ok (.iload_n 0, 1) := by decide +kernel
theorem d_Pc_checkIndex_17 : decode b_Pc_checkIndex 17 = .ok (.ireturn, 1) := by decide +kernel
abbrev rm_Pc_checkIndex : Room := { frames := 0, cells := 0, slots := 0, locals := 0 }
theorem ce_Pc_checkIndex : gCe y_Pc_checkIndex (.code y_Pc_checkIndex b_Pc_checkIndex 3 (some .int)) 3 3 true := gCe.code wd_330 wd_66 wd_329 (by decide) (by decide +kernel)
def f_Pc_checkIndex (g0 : gG) (p0 : Int32) (p1 : Int32) (w : gW) : gX Int32 := gjoin (fun K9 => if p0 < 0 then (K9 w) else (if p0 < p1 then (some (.inr p0, w)) else (K9 w))) (fun (w : gW) => none)
set_option maxHeartbeats 4000000 in
set_option maxRecDepth 100000 in
theorem m_Pc_checkIndex (l : Launch) (hst : l.stackTraces = false) (D : gD) (g0 : gG) (p0 : Int32) (p1 : Int32) (w : gW) (r : (String ⊕ Int32) × gW) (h : f_Pc_checkIndex g0 p0 p1 w = some r) : gMet l y_Pc_checkIndex (.code y_Pc_checkIndex b_Pc_checkIndex 3 (some .int)) rm_Pc_checkIndex D g0 [.int p0, .int p1, .null] w (goI r) := by
  refine gw_ofI (by decide +kernel) (Nat.le_of_ble_eq_true rfl) ?_
  intro p e s m below meth c ls args A Q hx hb hml hown hlocks hin hnt hT hK hZ hA hret hexc hthr hI hl
  obtain ⟨H, hH⟩ : ∃ H, H = s.heap := ⟨_, rfl⟩
  rw [← hH] at hI ⊢
  obtain ⟨locs, hlocs⟩ : ∃ z : List Loc, z = [] := ⟨_, rfl⟩
  rw [← hlocs] at hI ⊢
  have hl : lv_has ls 3 [(0, .int p0), (1, .int p1), (2, .null)] := hl
  unfold f_Pc_checkIndex at h
  refine lv_iload_n hx hb d_Pc_checkIndex_0 rfl (lv_at hl 0 rfl) ?_
  obtain ⟨K9, eK9, h⟩ := gj h
  have hK9 : ∀ (w : gW) (H : Heap) (locs : List Loc) (ls : Array Slot), K9 w = some r → gI D s A w H locs → lv_has ls 3 [(0, .int p0), (1, .int p1), (2, .null)] → W p l e rm_Pc_checkIndex s m args below meth c H locs 0 0 Q (F0 m 9 ls []) := by
    intro w H locs ls h hI hl
    have h := gk1 eK9 h
    exact absurd h (by simp)
  refine lv_if_lt (tgt := 9) hx hb d_Pc_checkIndex_1 (by decide) (fun c1 => ?_) (fun c1 => ?_)
  · skip
    have h := git c1 h
    exact hK9 w H locs ls h hI (lv_sub hl [0, 1, 2] rfl)
  · skip
    have h := gie c1 h
    refine lv_iload_n hx hb d_Pc_checkIndex_4 rfl (lv_at hl 0 rfl) ?_
    refine lv_iload_n hx hb d_Pc_checkIndex_5 rfl (lv_at hl 1 rfl) ?_
    refine lv_icmp_lt (tgt := 16) hx hb d_Pc_checkIndex_6 (by decide) (fun c2 => ?_) (fun c2 => ?_)
    · skip
      have h := git c2 h
      refine lv_iload_n hx hb d_Pc_checkIndex_16 rfl (lv_at hl 0 rfl) ?_
      exact W.widen (show 0 ≤ 0 by omega) (show 0 ≤ 0 by omega) (hret _ _ (Option.some.inj h).symm _ _ _ _ d_Pc_checkIndex_17 hI)
    · skip
      have h := gie c2 h
      exact hK9 w H locs ls h hI (lv_sub hl [0, 1, 2] rfl)

abbrev b_Ob_checkIndex : ByteArray := prog_28_method_17_code
def y_Ob_checkIndex : MethodName := ⟨"java/util/Objects", "checkIndex", "(II)I"⟩
theorem d_Ob_checkIndex_0 : decode b_Ob_checkIndex 0 = .ok (.iload_n 0, 1) := by decide +kernel
theorem d_Ob_checkIndex_1 : decode b_Ob_checkIndex 1 = .ok (.iload_n 1, 1) := by decide +kernel
theorem d_Ob_checkIndex_2 : decode b_Ob_checkIndex 2 = .ok (.aconst_null, 1) := by decide +kernel
theorem d_Ob_checkIndex_3 : decode b_Ob_checkIndex 3 = .ok (.invokestatic 105, 3) := by decide +kernel
theorem d_Ob_checkIndex_6 : decode b_Ob_checkIndex 6 = .ok (.ireturn, 1) := by decide +kernel
abbrev rm_Ob_checkIndex : Room := { frames := 1, cells := 0, slots := 0, locals := 22 }
theorem ce_Ob_checkIndex : gCe y_Ob_checkIndex (.code y_Ob_checkIndex b_Ob_checkIndex 2 (some .int)) 2 2 true := gCe.code wd_327 wd_65 wd_326 (by decide) (by decide +kernel)
def f_Ob_checkIndex (g0 : gG) (p0 : Int32) (p1 : Int32) (w : gW) : gX Int32 := gbind (f_Pc_checkIndex g0 p0 p1 w) fun v3 w => some (.inr v3, w)
set_option maxHeartbeats 4000000 in
set_option maxRecDepth 100000 in
theorem m_Ob_checkIndex (l : Launch) (hst : l.stackTraces = false) (D : gD) (g0 : gG) (p0 : Int32) (p1 : Int32) (w : gW) (r : (String ⊕ Int32) × gW) (h : f_Ob_checkIndex g0 p0 p1 w = some r) : gMet l y_Ob_checkIndex (.code y_Ob_checkIndex b_Ob_checkIndex 2 (some .int)) rm_Ob_checkIndex D g0 [.int p0, .int p1] w (goI r) := by
  refine gw_ofI (by decide +kernel) (Nat.le_of_ble_eq_true rfl) ?_
  intro p e s m below meth c ls args A Q hx hb hml hown hlocks hin hnt hT hK hZ hA hret hexc hthr hI hl
  obtain ⟨H, hH⟩ : ∃ H, H = s.heap := ⟨_, rfl⟩
  rw [← hH] at hI ⊢
  obtain ⟨locs, hlocs⟩ : ∃ z : List Loc, z = [] := ⟨_, rfl⟩
  rw [← hlocs] at hI ⊢
  have hl : lv_has ls 2 [(0, .int p0), (1, .int p1)] := hl
  unfold f_Ob_checkIndex at h
  refine lv_iload_n hx hb d_Ob_checkIndex_0 rfl (lv_at hl 0 rfl) ?_
  refine lv_iload_n hx hb d_Ob_checkIndex_1 rfl (lv_at hl 1 rfl) ?_
  refine lv_null hx hb d_Ob_checkIndex_2 ?_
  obtain ⟨u1, e2⟩ := gsome h
  refine gw_callI e2 h (gw_runS (As := [.int p0, .int p1, .null]) (rest := []) hx hb hml hown hT hK hZ hA hI (m_Pc_checkIndex l hst D g0 p0 p1 w u1 e2) ce_Pc_checkIndex wd_328 ⟨by decide, by decide⟩ rfl rfl hl.1 rfl (lv_room (Nat.le_of_ble_eq_true rfl)) d_Ob_checkIndex_3 ⟨(show 0 + 0 ≤ 0 by omega), (show 0 + 0 ≤ 0 by omega)⟩) hI hA hexc (show 0 + 0 ≤ 0 by omega) (show 0 + 0 ≤ 0 by omega) (fun v3 w H locs h hI => ?_)
  exact W.widen (show 0 ≤ 0 by omega) (show 0 ≤ 0 by omega) (hret _ _ (Option.some.inj h).symm _ _ _ _ d_Ob_checkIndex_6 hI)

abbrev b_AL_elementData : ByteArray := prog_24_method_18_code
def y_AL_elementData : MethodName := ⟨"java/util/ArrayList", "elementData", "(I)Ljava/lang/Object;"⟩
theorem d_AL_elementData_0 : decode b_AL_elementData 0 = .ok (.aload_n 0, 1) := by decide +kernel
theorem d_AL_elementData_1 : decode b_AL_elementData 1 = .ok (.getfield 9, 3) := by decide +kernel
theorem d_AL_elementData_4 : decode b_AL_elementData 4 = .ok (.iload_n 1, 1) := by decide +kernel
theorem d_AL_elementData_5 : decode b_AL_elementData 5 = .ok (.aaload, 1) := by decide +kernel
theorem d_AL_elementData_6 : decode b_AL_elementData 6 = .ok (.areturn, 1) := by decide +kernel
abbrev rm_AL_elementData : Room := { frames := 0, cells := 0, slots := 0, locals := 0 }
theorem ce_AL_elementData : gCe y_AL_elementData (.code y_AL_elementData b_AL_elementData 2 (some (.object "java/lang/Object"))) 2 1 false := gCe.code wd_334 wd_53 wd_332 (by decide) (by decide +kernel)
def f_AL_elementData (g0 : gG) (a0 : Nat) (p1 : Int32) (w : gW) : gX Nat := (gfA w a0 1 0).bind fun v1 => (gaA w v1 p1).bind fun v3 => some (.inr v3, w)
set_option maxHeartbeats 4000000 in
set_option maxRecDepth 100000 in
theorem m_AL_elementData (l : Launch) (hst : l.stackTraces = false) (D : gD) (g0 : gG) (a0 : Nat) (p1 : Int32) (w : gW) (r : (String ⊕ Nat) × gW) (h : f_AL_elementData g0 a0 p1 w = some r) : gMet l y_AL_elementData (.code y_AL_elementData b_AL_elementData 2 (some (.object "java/lang/Object"))) rm_AL_elementData D g0 [.ref a0, .int p1] w (goA r) := by
  refine gw_ofA (by decide +kernel) (Nat.le_of_ble_eq_true rfl) (Or.inl ⟨_, rfl⟩) ?_
  intro p e s m below meth c ls args A Q hx hb hml hown hlocks hin hnt hT hK hZ hA hret hexc hthr hI hl
  obtain ⟨H, hH⟩ : ∃ H, H = s.heap := ⟨_, rfl⟩
  rw [← hH] at hI ⊢
  obtain ⟨locs, hlocs⟩ : ∃ z : List Loc, z = [] := ⟨_, rfl⟩
  rw [← hlocs] at hI ⊢
  have hl : lv_has ls 2 [(0, .ref a0), (1, .int p1)] := hl
  unfold f_AL_elementData at h
  refine lv_aload_n hx hb d_AL_elementData_0 rfl (lv_at hl 0 rfl) ?_
  obtain ⟨v1, e2, h⟩ := gb h
  refine gw_getA hx hb hT hown hK hI (ci := 1) rfl i_1 0 (by decide) wd_101 (fun _ h9 => h9) e2 d_AL_elementData_1 ?_
  refine lv_iload_n hx hb d_AL_elementData_4 rfl (lv_at hl 1 rfl) ?_
  obtain ⟨v3, e4, h⟩ := gb h
  refine gw_aldA hx hb hK hI e4 d_AL_elementData_5 ?_
  exact W.widen (show 0 ≤ 0 by omega) (show 0 ≤ 0 by omega) (hret _ _ (Option.some.inj h).symm _ _ _ _ d_AL_elementData_6 hI)

abbrev b_AL_get : ByteArray := prog_24_method_20_code
def y_AL_get : MethodName := ⟨"java/util/ArrayList", "get", "(I)Ljava/lang/Object;"⟩
theorem d_AL_get_0 : decode b_AL_get 0 = .ok (.iload_n 1, 1) := by decide +kernel
theorem d_AL_get_1 : decode b_AL_get 1 = .ok (.aload_n 0, 1) := by decide +kernel
theorem d_AL_get_2 : decode b_AL_get 2 = .ok (.getfield 48, 3) := by decide +kernel
theorem d_AL_get_5 : decode b_AL_get 5 = .ok (.invokestatic 118, 3) := by decide +kernel
theorem d_AL_get_8 : decode b_AL_get 8 = .ok (.pop, 1) := by decide +kernel
theorem d_AL_get_9 : decode b_AL_get 9 = .ok (.aload_n 0, 1) := by decide +kernel
theorem d_AL_get_10 : decode b_AL_get 10 = .ok (.iload_n 1, 1) := by decide +kernel
theorem d_AL_get_11 : decode b_AL_get 11 = .ok (.invokevirtual 123, 3) := by decide +kernel
theorem d_AL_get_14 : decode b_AL_get 14 = .ok (.areturn, 1) := by decide +kernel
abbrev rm_AL_get : Room := { frames := 2, cells := 0, slots := 0, locals := 43 }
theorem ce_AL_get : gCe y_AL_get (.code y_AL_get b_AL_get 2 (some (.object "java/lang/Object"))) 2 1 false := gCe.code wd_324 wd_53 wd_322 (by decide) (by decide +kernel)
def f_AL_get (g0 : gG) (a0 : Nat) (p1 : Int32) (w : gW) : gX Nat := (gfI w a0 1 1).bind fun v1 => gbind (f_Ob_checkIndex g0 p1 v1 w) fun v5 w => (gck w a0 1).bind fun _ => gbind (f_AL_elementData g0 a0 p1 w) fun v10 w => some (.inr v10, w)
set_option maxHeartbeats 4000000 in
set_option maxRecDepth 100000 in
theorem m_AL_get (l : Launch) (hst : l.stackTraces = false) (D : gD) (g0 : gG) (a0 : Nat) (p1 : Int32) (w : gW) (r : (String ⊕ Nat) × gW) (h : f_AL_get g0 a0 p1 w = some r) : gMet l y_AL_get (.code y_AL_get b_AL_get 2 (some (.object "java/lang/Object"))) rm_AL_get D g0 [.ref a0, .int p1] w (goA r) := by
  refine gw_ofA (by decide +kernel) (Nat.le_of_ble_eq_true rfl) (Or.inl ⟨_, rfl⟩) ?_
  intro p e s m below meth c ls args A Q hx hb hml hown hlocks hin hnt hT hK hZ hA hret hexc hthr hI hl
  obtain ⟨H, hH⟩ : ∃ H, H = s.heap := ⟨_, rfl⟩
  rw [← hH] at hI ⊢
  obtain ⟨locs, hlocs⟩ : ∃ z : List Loc, z = [] := ⟨_, rfl⟩
  rw [← hlocs] at hI ⊢
  have hl : lv_has ls 2 [(0, .ref a0), (1, .int p1)] := hl
  unfold f_AL_get at h
  refine lv_iload_n hx hb d_AL_get_0 rfl (lv_at hl 1 rfl) ?_
  refine lv_aload_n hx hb d_AL_get_1 rfl (lv_at hl 0 rfl) ?_
  obtain ⟨v1, e2, h⟩ := gb h
  refine gw_getI hx hb hT hown hK hI (ci := 1) rfl i_1 1 (by decide) wd_102 (fun _ h9 => h9) e2 d_AL_get_2 ?_
  obtain ⟨u3, e4⟩ := gsome h
  refine gw_callI e4 h (gw_runS (As := [.int p1, .int v1]) (rest := []) hx hb hml hown hT hK hZ hA hI (m_Ob_checkIndex l hst D g0 p1 v1 w u3 e4) ce_Ob_checkIndex wd_325 ⟨by decide, by decide⟩ rfl rfl hl.1 rfl (lv_room (Nat.le_of_ble_eq_true rfl)) d_AL_get_5 ⟨(show 0 + 0 ≤ 0 by omega), (show 0 + 0 ≤ 0 by omega)⟩) hI hA hexc (show 0 + 0 ≤ 0 by omega) (show 0 + 0 ≤ 0 by omega) (fun v5 w H locs h hI => ?_)
  refine lv_pop hx hb d_AL_get_8 rfl ?_
  refine lv_aload_n hx hb d_AL_get_9 rfl (lv_at hl 0 rfl) ?_
  refine lv_iload_n hx hb d_AL_get_10 rfl (lv_at hl 1 rfl) ?_
  obtain ⟨q8, e9, h⟩ := gb h
  obtain ⟨u6, e7⟩ := gsome h
  refine gw_callA e7 h (gw_runV (As := [.int p1]) (rest := []) hx hb hml hown hT hK hZ hA hI (ci := 1) rfl e9 (m_AL_elementData l hst D g0 a0 p1 w u6 e7) ce_AL_elementData wd_331 wd_333 ⟨by decide, by decide⟩ rfl rfl hl.1 rfl (lv_room (Nat.le_of_ble_eq_true rfl)) d_AL_get_11 ⟨(show 0 + 0 ≤ 0 by omega), (show 0 + 0 ≤ 0 by omega)⟩) hI hA hexc (show 0 + 0 ≤ 0 by omega) (show 0 + 0 ≤ 0 by omega) (fun v10 w H locs h hI => ?_)
  exact W.widen (show 0 ≤ 0 by omega) (show 0 ≤ 0 by omega) (hret _ _ (Option.some.inj h).symm _ _ _ _ d_AL_get_14 hI)

abbrev b_AL_size : ByteArray := prog_24_method_8_code
def y_AL_size : MethodName := ⟨"java/util/ArrayList", "size", "()I"⟩
theorem d_AL_size_0 : decode b_AL_size 0 = .ok (.aload_n 0, 1) := by decide +kernel
theorem d_AL_size_1 : decode b_AL_size 1 = .ok (.getfield 48, 3) := by decide +kernel
theorem d_AL_size_4 : decode b_AL_size 4 = .ok (.ireturn, 1) := by decide +kernel
abbrev rm_AL_size : Room := { frames := 0, cells := 0, slots := 0, locals := 0 }
theorem ce_AL_size : gCe y_AL_size (.code y_AL_size b_AL_size 1 (some .int)) 1 0 false := gCe.code wd_227 wd_53 wd_225 (by decide) (by decide +kernel)
def f_AL_size (g0 : gG) (a0 : Nat) (w : gW) : gX Int32 := (gfI w a0 1 1).bind fun v1 => some (.inr v1, w)
set_option maxHeartbeats 4000000 in
set_option maxRecDepth 100000 in
theorem m_AL_size (l : Launch) (hst : l.stackTraces = false) (D : gD) (g0 : gG) (a0 : Nat) (w : gW) (r : (String ⊕ Int32) × gW) (h : f_AL_size g0 a0 w = some r) : gMet l y_AL_size (.code y_AL_size b_AL_size 1 (some .int)) rm_AL_size D g0 [.ref a0] w (goI r) := by
  refine gw_ofI (by decide +kernel) (Nat.le_of_ble_eq_true rfl) ?_
  intro p e s m below meth c ls args A Q hx hb hml hown hlocks hin hnt hT hK hZ hA hret hexc hthr hI hl
  obtain ⟨H, hH⟩ : ∃ H, H = s.heap := ⟨_, rfl⟩
  rw [← hH] at hI ⊢
  obtain ⟨locs, hlocs⟩ : ∃ z : List Loc, z = [] := ⟨_, rfl⟩
  rw [← hlocs] at hI ⊢
  have hl : lv_has ls 1 [(0, .ref a0)] := hl
  unfold f_AL_size at h
  refine lv_aload_n hx hb d_AL_size_0 rfl (lv_at hl 0 rfl) ?_
  obtain ⟨v1, e2, h⟩ := gb h
  refine gw_getI hx hb hT hown hK hI (ci := 1) rfl i_1 1 (by decide) wd_102 (fun _ h9 => h9) e2 d_AL_size_1 ?_
  exact W.widen (show 0 ≤ 0 by omega) (show 0 ≤ 0 by omega) (hret _ _ (Option.some.inj h).symm _ _ _ _ d_AL_size_4 hI)

abbrev b_AbC_init : ByteArray := prog_22_method_1_code
def y_AbC_init : MethodName := ⟨"java/util/AbstractCollection", "<init>", "()V"⟩
theorem d_AbC_init_0 : decode b_AbC_init 0 = .ok (.aload_n 0, 1) := by decide +kernel
theorem d_AbC_init_1 : decode b_AbC_init 1 = .ok (.invokespecial 1, 3) := by decide +kernel
theorem d_AbC_init_4 : decode b_AbC_init 4 = .ok (.return_, 1) := by decide +kernel
abbrev rm_AbC_init : Room := { frames := 1, cells := 0, slots := 0, locals := 22 }
theorem ce_AbC_init : gCe y_AbC_init (.code y_AbC_init b_AbC_init 1 none) 1 0 false := gCe.code wd_97 wd_51 wd_96 (by decide) (by decide +kernel)
def f_AbC_init (g0 : gG) (a0 : Nat) (w : gW) : gX Unit := some (.inr (), w)
set_option maxHeartbeats 4000000 in
set_option maxRecDepth 100000 in
theorem m_AbC_init (l : Launch) (hst : l.stackTraces = false) (D : gD) (g0 : gG) (a0 : Nat) (w : gW) (r : (String ⊕ Unit) × gW) (h : f_AbC_init g0 a0 w = some r) : gMet l y_AbC_init (.code y_AbC_init b_AbC_init 1 none) rm_AbC_init D g0 [.ref a0] w (goV r) := by
  refine gw_ofV (by decide +kernel) (Nat.le_of_ble_eq_true rfl) ?_
  intro p e s m below meth c ls args A Q hx hb hml hown hlocks hin hnt hT hK hZ hA hret hexc hthr hI hl
  obtain ⟨H, hH⟩ : ∃ H, H = s.heap := ⟨_, rfl⟩
  rw [← hH] at hI ⊢
  obtain ⟨locs, hlocs⟩ : ∃ z : List Loc, z = [] := ⟨_, rfl⟩
  rw [← hlocs] at hI ⊢
  have hl : lv_has ls 1 [(0, .ref a0)] := hl
  unfold f_AbC_init at h
  refine lv_aload_n hx hb d_AbC_init_0 rfl (lv_at hl 0 rfl) ?_
  refine W.objInit hx hb hown (hT _ wd_98 args) (hT _ wd_78 args) (hT _ wd_79 args) rfl (by rw [hml]; exact hl.1) rfl d_AbC_init_1 (Nat.le_of_ble_eq_true rfl) (Nat.le_of_ble_eq_true rfl) ?_
  refine W.eq (g2 := F0 m 4 ls []) rfl ?_
  exact W.widen (show 0 ≤ 0 by omega) (show 0 ≤ 0 by omega) (hret _ _ (Option.some.inj h).symm _ _ _ _ d_AbC_init_4 hI)

abbrev b_AbL_init : ByteArray := prog_23_method_1_code
def y_AbL_init : MethodName := ⟨"java/util/AbstractList", "<init>", "()V"⟩
theorem d_AbL_init_0 : decode b_AbL_init 0 = .ok (.aload_n 0, 1) := by decide +kernel
theorem d_AbL_init_1 : decode b_AbL_init 1 = .ok (.invokespecial 1, 3) := by decide +kernel
theorem d_AbL_init_4 : decode b_AbL_init 4 = .ok (.aload_n 0, 1) := by decide +kernel
theorem d_AbL_init_5 : decode b_AbL_init 5 = .ok (.iconst 0, 1) := by decide +kernel
theorem d_AbL_init_6 : decode b_AbL_init 6 = .ok (.putfield 7, 3) := by decide +kernel
theorem d_AbL_init_9 : decode b_AbL_init 9 = .ok (.return_, 1) := by decide +kernel
abbrev rm_AbL_init : Room := { frames := 2, cells := 0, slots := 0, locals := 42 }
theorem ce_AbL_init : gCe y_AbL_init (.code y_AbL_init b_AbL_init 1 none) 1 0 false := gCe.code wd_94 wd_52 wd_93 (by decide) (by decide +kernel)
def f_AbL_init (g0 : gG) (a0 : Nat) (w : gW) : gX Unit := gbind (f_AbC_init g0 a0 w) fun v3 w => (gp w a0 1 2 (.int 0)).bind fun w => some (.inr (), w)
set_option maxHeartbeats 4000000 in
set_option maxRecDepth 100000 in
theorem m_AbL_init (l : Launch) (hst : l.stackTraces = false) (D : gD) (g0 : gG) (a0 : Nat) (w : gW) (r : (String ⊕ Unit) × gW) (h : f_AbL_init g0 a0 w = some r) : gMet l y_AbL_init (.code y_AbL_init b_AbL_init 1 none) rm_AbL_init D g0 [.ref a0] w (goV r) := by
  refine gw_ofV (by decide +kernel) (Nat.le_of_ble_eq_true rfl) ?_
  intro p e s m below meth c ls args A Q hx hb hml hown hlocks hin hnt hT hK hZ hA hret hexc hthr hI hl
  obtain ⟨H, hH⟩ : ∃ H, H = s.heap := ⟨_, rfl⟩
  rw [← hH] at hI ⊢
  obtain ⟨locs, hlocs⟩ : ∃ z : List Loc, z = [] := ⟨_, rfl⟩
  rw [← hlocs] at hI ⊢
  have hl : lv_has ls 1 [(0, .ref a0)] := hl
  unfold f_AbL_init at h
  refine lv_aload_n hx hb d_AbL_init_0 rfl (lv_at hl 0 rfl) ?_
  obtain ⟨u1, e2⟩ := gsome h
  refine gw_callV e2 h (gw_runI (As := []) (rest := []) hx hb hml hown hT hK hZ hA hI (m_AbC_init l hst D g0 a0 w u1 e2) ce_AbC_init wd_95 rfl ⟨by decide, by decide⟩ rfl rfl hl.1 rfl (lv_room (Nat.le_of_ble_eq_true rfl)) d_AbL_init_1 ⟨(show 0 + 0 ≤ 0 by omega), (show 0 + 0 ≤ 0 by omega)⟩) hI hA hexc (show 0 + 0 ≤ 0 by omega) (show 0 + 0 ≤ 0 by omega) (fun v3 w H locs h hI => ?_)
  refine lv_aload_n hx hb d_AbL_init_4 rfl (lv_at hl 0 rfl) ?_
  refine lv_iconst (v := 0) hx hb d_AbL_init_5 (by decide) ?_
  obtain ⟨w, e4, h⟩ := gb h
  refine gw_put hx hb hT hown hK hI (ci := 1) rfl i_1 t_1 t_1_ok n_1 2 (by decide) wd_103 (fun _ h9 => h9) rfl (ty := .int) (by decide +kernel) rfl rfl e4 d_AbL_init_6 (fun H locs hI => ?_)
  exact W.widen (show 0 ≤ 0 by omega) (show 0 ≤ 0 by omega) (hret _ _ (Option.some.inj h).symm _ _ _ _ d_AbL_init_9 hI)

abbrev b_AL_init : ByteArray := prog_24_method_2_code
def y_AL_init : MethodName := ⟨"java/util/ArrayList", "<init>", "()V"⟩
theorem d_AL_init_0 : decode b_AL_init 0 = .ok (.aload_n 0, 1) := by decide +kernel
theorem d_AL_init_1 : decode b_AL_init 1 = .ok (.invokespecial 1, 3) := by decide +kernel
theorem d_AL_init_4 : decode b_AL_init 4 = .ok (.aload_n 0, 1) := by decide +kernel
theorem d_AL_init_5 : decode b_AL_init 5 = .ok (.getstatic 39, 3) := by decide +kernel
theorem d_AL_init_8 : decode b_AL_init 8 = .ok (.putfield 9, 3) := by decide +kernel
theorem d_AL_init_11 : decode b_AL_init 11 = .ok (.return_, 1) := by decide +kernel
abbrev rm_AL_init : Room := { frames := 3, cells := 0, slots := 0, locals := 62 }
theorem ce_AL_init : gCe y_AL_init (.code y_AL_init b_AL_init 1 none) 1 0 false := gCe.code wd_91 wd_53 wd_90 (by decide) (by decide +kernel)
def f_AL_init (g0 : gG) (a0 : Nat) (w : gW) : gX Unit := gbind (f_AbL_init g0 a0 w) fun v3 w => (gp w a0 1 0 (.ref (g0.1))).bind fun w => some (.inr (), w)
set_option maxHeartbeats 4000000 in
set_option maxRecDepth 100000 in
theorem m_AL_init (l : Launch) (hst : l.stackTraces = false) (D : gD) (g0 : gG) (a0 : Nat) (w : gW) (r : (String ⊕ Unit) × gW) (h : f_AL_init g0 a0 w = some r) : gMet l y_AL_init (.code y_AL_init b_AL_init 1 none) rm_AL_init D g0 [.ref a0] w (goV r) := by
  refine gw_ofV (by decide +kernel) (Nat.le_of_ble_eq_true rfl) ?_
  intro p e s m below meth c ls args A Q hx hb hml hown hlocks hin hnt hT hK hZ hA hret hexc hthr hI hl
  obtain ⟨H, hH⟩ : ∃ H, H = s.heap := ⟨_, rfl⟩
  rw [← hH] at hI ⊢
  obtain ⟨locs, hlocs⟩ : ∃ z : List Loc, z = [] := ⟨_, rfl⟩
  rw [← hlocs] at hI ⊢
  have hl : lv_has ls 1 [(0, .ref a0)] := hl
  unfold f_AL_init at h
  refine lv_aload_n hx hb d_AL_init_0 rfl (lv_at hl 0 rfl) ?_
  obtain ⟨u1, e2⟩ := gsome h
  refine gw_callV e2 h (gw_runI (As := []) (rest := []) hx hb hml hown hT hK hZ hA hI (m_AbL_init l hst D g0 a0 w u1 e2) ce_AbL_init wd_92 rfl ⟨by decide, by decide⟩ rfl rfl hl.1 rfl (lv_room (Nat.le_of_ble_eq_true rfl)) d_AL_init_1 ⟨(show 0 + 0 ≤ 0 by omega), (show 0 + 0 ≤ 0 by omega)⟩) hI hA hexc (show 0 + 0 ≤ 0 by omega) (show 0 + 0 ≤ 0 by omega) (fun v3 w H locs h hI => ?_)
  refine lv_aload_n hx hb d_AL_init_4 rfl (lv_at hl 0 rfl) ?_
  refine gw_gets hx hb hT hown hZ hI wd_99 d_AL_init_5 ?_
  obtain ⟨w, e4, h⟩ := gb h
  refine gw_put hx hb hT hown hK hI (ci := 1) rfl i_1 t_1 t_1_ok n_1 0 (by decide) wd_101 (fun _ h9 => h9) rfl (ty := .array (.object "java/lang/Object")) (by decide +kernel) rfl rfl e4 d_AL_init_8 (fun H locs hI => ?_)
  exact W.widen (show 0 ≤ 0 by omega) (show 0 ≤ 0 by omega) (hret _ _ (Option.some.inj h).symm _ _ _ _ d_AL_init_11 hI)

abbrev b_Ar_fill : ByteArray := prog_25_method_103_code
def y_Ar_fill : MethodName := ⟨"java/util/Arrays", "fill", "([II)V"⟩
theorem d_Ar_fill_0 : decode b_Ar_fill 0 = .ok (.iconst 0, 1) := by decide +kernel
theorem d_Ar_fill_1 : decode b_Ar_fill 1 = .ok (.istore_n 2, 1) := by decide +kernel
theorem d_Ar_fill_2 : decode b_Ar_fill 2 = .ok (.aload_n 0, 1) := by decide +kernel
theorem d_Ar_fill_3 : decode b_Ar_fill 3 = .ok (.arraylength, 1) := by decide +kernel
theorem d_Ar_fill_4 : decode b_Ar_fill 4 = .ok (.istore_n 3, 1) := by decide +kernel
theorem d_Ar_fill_5 : decode b_Ar_fill 5 = .ok (.iload_n 2, 1) := by decide +kernel
theorem d_Ar_fill_6 : decode b_Ar_fill 6 = .ok (.iload_n 3, 1) := by decide +kernel
theorem d_Ar_fill_7 : decode b_Ar_fill 7 = .ok (.if_icmp .ge 13, 3) := by decide +kernel
theorem d_Ar_fill_10 : decode b_Ar_fill 10 = .ok (.aload_n 0, 1) := by decide +kernel
theorem d_Ar_fill_11 : decode b_Ar_fill 11 = .ok (.iload_n 2, 1) := by decide +kernel
theorem d_Ar_fill_12 : decode b_Ar_fill 12 = .ok (.iload_n 1, 1) := by decide +kernel
theorem d_Ar_fill_13 : decode b_Ar_fill 13 = .ok (.iastore, 1) := by decide +kernel
theorem d_Ar_fill_14 : decode b_Ar_fill 14 = .ok (.iinc 2 1, 3) := by decide +kernel
theorem d_Ar_fill_17 : decode b_Ar_fill 17 = .ok (.goto (-12), 3) := by decide +kernel
theorem d_Ar_fill_20 : decode b_Ar_fill 20 = .ok (.return_, 1) := by decide +kernel
abbrev rm_Ar_fill : Room := { frames := 0, cells := 0, slots := 0, locals := 0 }
theorem ce_Ar_fill : gCe y_Ar_fill (.code y_Ar_fill b_Ar_fill 4 none) 4 2 true := gCe.code wd_115 wd_54 wd_114 (by decide) (by decide +kernel)
def f_Ar_fill_L5 (g0 : gG) (c0 : Nat) (c1 : Int32) (c3 : Int32) (K20 : gW → gX Unit) : Nat → Int32 → gW → gX Unit
  | 0, _, _ => none
  | n + 1, z2, w => if c3 ≤ z2 then (K20 w) else ((gsI w c0 z2 c1).bind fun w => f_Ar_fill_L5 g0 c0 c1 c3 K20 n (z2 + 1) w)
def f_Ar_fill (g0 : gG) (a0 : Nat) (p1 : Int32) (w : gW) : gX Unit := (gal w a0).bind fun v1 => gjoin (fun K20 => f_Ar_fill_L5 g0 a0 p1 v1 K20 1000 0 w) (fun (w : gW) => some (.inr (), w))
set_option maxHeartbeats 4000000 in
set_option maxRecDepth 100000 in
theorem m_Ar_fill (l : Launch) (hst : l.stackTraces = false) (D : gD) (g0 : gG) (a0 : Nat) (p1 : Int32) (w : gW) (r : (String ⊕ Unit) × gW) (h : f_Ar_fill g0 a0 p1 w = some r) : gMet l y_Ar_fill (.code y_Ar_fill b_Ar_fill 4 none) rm_Ar_fill D g0 [.ref a0, .int p1] w (goV r) := by
  refine gw_ofV (by decide +kernel) (Nat.le_of_ble_eq_true rfl) ?_
  intro p e s m below meth c ls args A Q hx hb hml hown hlocks hin hnt hT hK hZ hA hret hexc hthr hI hl
  obtain ⟨H, hH⟩ : ∃ H, H = s.heap := ⟨_, rfl⟩
  rw [← hH] at hI ⊢
  obtain ⟨locs, hlocs⟩ : ∃ z : List Loc, z = [] := ⟨_, rfl⟩
  rw [← hlocs] at hI ⊢
  have hl : lv_has ls 4 [(0, .ref a0), (1, .int p1)] := hl
  unfold f_Ar_fill at h
  refine lv_iconst (v := 0) hx hb d_Ar_fill_0 (by decide) ?_
  refine lv_istore_n (lv' := [(2, .int 0), (0, .ref a0), (1, .int p1)]) hx hb d_Ar_fill_1 rfl hl (by decide) rfl (fun ls hl => ?_)
  refine lv_aload_n hx hb d_Ar_fill_2 rfl (lv_at hl 1 rfl) ?_
  obtain ⟨v1, e2, h⟩ := gb h
  refine gw_alen hx hb hK hI e2 d_Ar_fill_3 ?_
  refine lv_istore_n (lv' := [(3, .int v1), (2, .int 0), (0, .ref a0), (1, .int p1)]) hx hb d_Ar_fill_4 rfl hl (by decide) rfl (fun ls hl => ?_)
  obtain ⟨K20, eK20, h⟩ := gj h
  have hK20 : ∀ (w : gW) (H : Heap) (locs : List Loc) (ls : Array Slot), K20 w = some r → gI D s A w H locs → lv_has ls 4 [] → W p l e rm_Ar_fill s m args below meth c H locs 0 0 Q (F0 m 20 ls []) := by
    intro w H locs ls h hI hl
    have h := gk1 eK20 h
    exact W.widen (show 0 ≤ 0 by omega) (show 0 ≤ 0 by omega) (hret _ _ (Option.some.inj h).symm _ _ _ _ d_Ar_fill_20 hI)
  have hL5 : ∀ (n : Nat), ∀ (z3 : Int32) (w : gW) (H : Heap) (locs : List Loc) (ls : Array Slot), f_Ar_fill_L5 g0 a0 p1 v1 K20 n z3 w = some r → gI D s A w H locs → lv_has ls 4 [(0, .ref a0), (1, .int p1), (3, .int v1), (2, .int z3)] → W p l e rm_Ar_fill s m args below meth c H locs 0 0 Q (F0 m 5 ls []) := by
    intro n
    induction n with
    | zero => intro z3 w H locs ls h hI hl; exact absurd h (by simp [f_Ar_fill_L5])
    | succ n ih =>
      intro z3 w H locs ls h hI hl
      rw [f_Ar_fill_L5] at h
      refine lv_iload_n hx hb d_Ar_fill_5 rfl (lv_at hl 3 rfl) ?_
      refine lv_iload_n hx hb d_Ar_fill_6 rfl (lv_at hl 2 rfl) ?_
      refine lv_icmp_ge (tgt := 20) hx hb d_Ar_fill_7 (by decide) (fun c4 => ?_) (fun c4 => ?_)
      · skip
        have h := git c4 h
        exact hK20 w H locs ls h hI (lv_sub hl [] rfl)
      · skip
        have h := gie c4 h
        refine lv_aload_n hx hb d_Ar_fill_10 rfl (lv_at hl 0 rfl) ?_
        refine lv_iload_n hx hb d_Ar_fill_11 rfl (lv_at hl 3 rfl) ?_
        refine lv_iload_n hx hb d_Ar_fill_12 rfl (lv_at hl 1 rfl) ?_
        obtain ⟨w, e5, h⟩ := gb h
        refine gw_astI hx hb hK hI e5 d_Ar_fill_13 (fun H locs hI => ?_)
        refine lv_iinc (v := z3 + 1) (lv' := [(2, .int (z3 + 1)), (0, .ref a0), (1, .int p1), (3, .int v1)]) hx hb d_Ar_fill_14 hl (k := 3) rfl rfl (by decide) rfl (fun ls hl => ?_)
        refine lv_goto (tgt := 5) hx hb d_Ar_fill_17 (by decide) ?_
        exact ih _ w H locs ls h hI (lv_sub hl [1, 2, 3, 0] rfl)
  exact hL5 1000 _ w H locs ls h hI (lv_sub hl [2, 3, 0, 1] rfl)

abbrev b_B_needIndex : ByteArray := prog_1_method_19_code
def y_B_needIndex : MethodName := ⟨"BodySolids", "needIndex", "(II)V"⟩
theorem d_B_needIndex_0 : decode b_B_needIndex 0 = .ok (.iload_n 0, 1) := by decide +kernel
theorem d_B_needIndex_1 : decode b_B_needIndex 1 = .ok (.ifCond .lt 8, 3) := by decide +kernel
theorem d_B_needIndex_4 : decode b_B_needIndex 4 = .ok (.iload_n 0, 1) := by decide +kernel
theorem d_B_needIndex_5 : decode b_B_needIndex 5 = .ok (.iload_n 1, 1) := by decide +kernel
theorem d_B_needIndex_6 : decode b_B_needIndex 6 = .ok (.if_icmp .lt 13, 3) := by decide +kernel
theorem d_B_needIndex_9 : decode b_B_needIndex 9 = .ok (.new 247, 3) := by decide +kernel
theorem d_B_needIndex_12 : decode b_B_needIndex 12 = .ok (.dup, 1) := by decide +kernel
theorem d_B_needIndex_13 : decode b_B_needIndex 13 = .ok (.ldc 249, 2) := by decide +kernel
theorem d_B_needIndex_15 : decode b_B_needIndex 15 = .ok (.invokespecial 251, 3) := by decide +kernel
theorem d_B_needIndex_18 : decode b_B_needIndex 18 = .ok (.athrow, 1) := by decide +kernel
theorem d_B_needIndex_19 : decode b_B_needIndex 19 = .ok (.return_, 1) := by decide +kernel
abbrev rm_B_needIndex : Room := { frames := 7, cells := 1, slots := 6, locals := 90 }
theorem ce_B_needIndex : gCe y_B_needIndex (.code y_B_needIndex b_B_needIndex 2 none) 2 2 true := gCe.code wd_442 wd_49 wd_441 (by decide) (by decide +kernel)
def f_B_needIndex (g0 : gG) (p0 : Int32) (p1 : Int32) (w : gW) : gX Unit := gjoin (fun K9 => if p0 < 0 then (K9 w) else (if p0 < p1 then (some (.inr (), w)) else (K9 w))) (fun (w : gW) => gthrow "java/lang/IndexOutOfBoundsException" w)
set_option maxHeartbeats 4000000 in
set_option maxRecDepth 100000 in
theorem m_B_needIndex (l : Launch) (hst : l.stackTraces = false) (D : gD) (g0 : gG) (p0 : Int32) (p1 : Int32) (w : gW) (r : (String ⊕ Unit) × gW) (h : f_B_needIndex g0 p0 p1 w = some r) : gMet l y_B_needIndex (.code y_B_needIndex b_B_needIndex 2 none) rm_B_needIndex D g0 [.int p0, .int p1] w (goV r) := by
  refine gw_ofV (by decide +kernel) (Nat.le_of_ble_eq_true rfl) ?_
  intro p e s m below meth c ls args A Q hx hb hml hown hlocks hin hnt hT hK hZ hA hret hexc hthr hI hl
  obtain ⟨H, hH⟩ : ∃ H, H = s.heap := ⟨_, rfl⟩
  rw [← hH] at hI ⊢
  obtain ⟨locs, hlocs⟩ : ∃ z : List Loc, z = [] := ⟨_, rfl⟩
  rw [← hlocs] at hI ⊢
  have hl : lv_has ls 2 [(0, .int p0), (1, .int p1)] := hl
  unfold f_B_needIndex at h
  refine lv_iload_n hx hb d_B_needIndex_0 rfl (lv_at hl 0 rfl) ?_
  obtain ⟨K9, eK9, h⟩ := gj h
  have hK9 : ∀ (w : gW) (H : Heap) (locs : List Loc) (ls : Array Slot), K9 w = some r → gI D s A w H locs → lv_has ls 2 [] → W p l e rm_B_needIndex s m args below meth c H locs 0 0 Q (F0 m 9 ls []) := by
    intro w H locs ls h hI hl
    have h := gk1 eK9 h
    exact gw_throwS (names := ["java/lang/RuntimeException", "java/lang/Exception"]) (text := "no such number") hx hb hst hown hT hZ hI hl.1 hml hnt hlocks (by decide +kernel) (by decide +kernel) wd_443 wd_64 (by decide) at_IOB d_B_needIndex_9 d_B_needIndex_12 d_B_needIndex_13 d_B_needIndex_15 d_B_needIndex_18 (by decide) (Nat.le_of_ble_eq_true rfl) (show 0 + 1 ≤ 1 by omega) (show 0 + 6 ≤ 6 by omega) hthr h
  refine lv_if_lt (tgt := 9) hx hb d_B_needIndex_1 (by decide) (fun c1 => ?_) (fun c1 => ?_)
  · skip
    have h := git c1 h
    exact hK9 w H locs ls h hI (lv_sub hl [] rfl)
  · skip
    have h := gie c1 h
    refine lv_iload_n hx hb d_B_needIndex_4 rfl (lv_at hl 0 rfl) ?_
    refine lv_iload_n hx hb d_B_needIndex_5 rfl (lv_at hl 1 rfl) ?_
    refine lv_icmp_lt (tgt := 19) hx hb d_B_needIndex_6 (by decide) (fun c2 => ?_) (fun c2 => ?_)
    · skip
      have h := git c2 h
      exact W.widen (show 0 ≤ 1 by omega) (show 0 ≤ 6 by omega) (hret _ _ (Option.some.inj h).symm _ _ _ _ d_B_needIndex_19 hI)
    · skip
      have h := gie c2 h
      exact hK9 w H locs ls h hI (lv_sub hl [] rfl)

abbrev b_B_needWithin : ByteArray := prog_1_method_20_code
def y_B_needWithin : MethodName := ⟨"BodySolids", "needWithin", "(JJJ)V"⟩
theorem d_B_needWithin_0 : decode b_B_needWithin 0 = .ok (.lload_n 0, 1) := by decide +kernel
theorem d_B_needWithin_1 : decode b_B_needWithin 1 = .ok (.lload_n 2, 1) := by decide +kernel
theorem d_B_needWithin_2 : decode b_B_needWithin 2 = .ok (.lcmp, 1) := by decide +kernel
theorem d_B_needWithin_3 : decode b_B_needWithin 3 = .ok (.ifCond .lt 10, 3) := by decide +kernel
theorem d_B_needWithin_6 : decode b_B_needWithin 6 = .ok (.lload_n 0, 1) := by decide +kernel
theorem d_B_needWithin_7 : decode b_B_needWithin 7 = .ok (.lload 4, 2) := by decide +kernel
theorem d_B_needWithin_9 : decode b_B_needWithin 9 = .ok (.lcmp, 1) := by decide +kernel
theorem d_B_needWithin_10 : decode b_B_needWithin 10 = .ok (.ifCond .le 13, 3) := by decide +kernel
theorem d_B_needWithin_13 : decode b_B_needWithin 13 = .ok (.new 252, 3) := by decide +kernel
theorem d_B_needWithin_16 : decode b_B_needWithin 16 = .ok (.dup, 1) := by decide +kernel
theorem d_B_needWithin_17 : decode b_B_needWithin 17 = .ok (.ldc 254, 2) := by decide +kernel
theorem d_B_needWithin_19 : decode b_B_needWithin 19 = .ok (.invokespecial 256, 3) := by decide +kernel
theorem d_B_needWithin_22 : decode b_B_needWithin 22 = .ok (.athrow, 1) := by decide +kernel
theorem d_B_needWithin_23 : decode b_B_needWithin 23 = .ok (.return_, 1) := by decide +kernel
abbrev rm_B_needWithin : Room := { frames := 7, cells := 1, slots := 6, locals := 90 }
theorem ce_B_needWithin : gCe y_B_needWithin (.code y_B_needWithin b_B_needWithin 6 none) 6 3 true := gCe.code wd_518 wd_49 wd_517 (by decide) (by decide +kernel)
def f_B_needWithin (g0 : gG) (p0 : Int64) (p1 : Int64) (p2 : Int64) (w : gW) : gX Unit := gjoin (fun K13 => if p0 < p1 then (K13 w) else (if p0 ≤ p2 then (some (.inr (), w)) else (K13 w))) (fun (w : gW) => gthrow "java/lang/IllegalArgumentException" w)
set_option maxHeartbeats 4000000 in
set_option maxRecDepth 100000 in
theorem m_B_needWithin (l : Launch) (hst : l.stackTraces = false) (D : gD) (g0 : gG) (p0 : Int64) (p1 : Int64) (p2 : Int64) (w : gW) (r : (String ⊕ Unit) × gW) (h : f_B_needWithin g0 p0 p1 p2 w = some r) : gMet l y_B_needWithin (.code y_B_needWithin b_B_needWithin 6 none) rm_B_needWithin D g0 [.long p0, .long p1, .long p2] w (goV r) := by
  refine gw_ofV (by decide +kernel) (Nat.le_of_ble_eq_true rfl) ?_
  intro p e s m below meth c ls args A Q hx hb hml hown hlocks hin hnt hT hK hZ hA hret hexc hthr hI hl
  obtain ⟨H, hH⟩ : ∃ H, H = s.heap := ⟨_, rfl⟩
  rw [← hH] at hI ⊢
  obtain ⟨locs, hlocs⟩ : ∃ z : List Loc, z = [] := ⟨_, rfl⟩
  rw [← hlocs] at hI ⊢
  have hl : lv_has ls 6 [(0, .long p0), (2, .long p1), (4, .long p2)] := hl
  unfold f_B_needWithin at h
  refine lv_lload_n hx hb d_B_needWithin_0 rfl (lv_at hl 0 rfl) ?_
  refine lv_lload_n hx hb d_B_needWithin_1 rfl (lv_at hl 1 rfl) ?_
  refine W.lcmp hx hb d_B_needWithin_2 ?_
  obtain ⟨K13, eK13, h⟩ := gj h
  have hK13 : ∀ (w : gW) (H : Heap) (locs : List Loc) (ls : Array Slot), K13 w = some r → gI D s A w H locs → lv_has ls 6 [] → W p l e rm_B_needWithin s m args below meth c H locs 0 0 Q (F0 m 13 ls []) := by
    intro w H locs ls h hI hl
    have h := gk1 eK13 h
    exact gw_throwS (names := ["java/lang/RuntimeException", "java/lang/Exception"]) (text := "a value is out of its range") hx hb hst hown hT hZ hI hl.1 hml hnt hlocks (by decide +kernel) (by decide +kernel) wd_519 wd_67 (by decide) at_IAE d_B_needWithin_13 d_B_needWithin_16 d_B_needWithin_17 d_B_needWithin_19 d_B_needWithin_22 (by decide) (Nat.le_of_ble_eq_true rfl) (show 0 + 1 ≤ 1 by omega) (show 0 + 6 ≤ 6 by omega) hthr h
  refine lv_if_lt (tgt := 13) hx hb d_B_needWithin_3 (by decide) (fun c1 => ?_) (fun c1 => ?_)
  · have c1 := (lg_cmp_lt _ _).mp c1
    have h := git c1 h
    exact hK13 w H locs ls h hI (lv_sub hl [] rfl)
  · have c1 := mt (lg_cmp_lt _ _).mpr c1
    have h := gie c1 h
    refine lv_lload_n hx hb d_B_needWithin_6 rfl (lv_at hl 0 rfl) ?_
    refine lv_lload hx hb d_B_needWithin_7 (lv_at hl 2 rfl) ?_
    refine W.lcmp hx hb d_B_needWithin_9 ?_
    refine lv_if_le (tgt := 23) hx hb d_B_needWithin_10 (by decide) (fun c2 => ?_) (fun c2 => ?_)
    · have c2 := (lg_cmp_le _ _).mp c2
      have h := git c2 h
      exact W.widen (show 0 ≤ 1 by omega) (show 0 ≤ 6 by omega) (hret _ _ (Option.some.inj h).symm _ _ _ _ d_B_needWithin_23 hI)
    · have c2 := mt (lg_cmp_le _ _).mpr c2
      have h := gie c2 h
      exact hK13 w H locs ls h hI (lv_sub hl [] rfl)
end
